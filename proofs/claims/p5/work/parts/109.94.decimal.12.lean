theorem d_15_37_0 : decode prog_15_method_37_code 0 = .ok (.aload_n 0, 1) := by decide +kernel
theorem d_15_37_1 : decode prog_15_method_37_code 1 = .ok (.iload_n 1, 1) := by decide +kernel
theorem d_15_37_2 : decode prog_15_method_37_code 2 = .ok (.invokestatic 113, 3) := by decide +kernel
theorem d_15_37_63 : decode prog_15_method_37_code 63 = .ok (.putfield 41, 3) := by decide +kernel
theorem d_15_37_66 : decode prog_15_method_37_code 66 = .ok (.aload_n 0, 1) := by decide +kernel
theorem d_15_37_67 : decode prog_15_method_37_code 67 = .ok (.getfield 41, 3) := by decide +kernel
theorem d_15_37_70 : decode prog_15_method_37_code 70 = .ok (.ifCond .le 4, 3) := by decide +kernel
theorem d_15_37_74 : decode prog_15_method_37_code 74 = .ok (.aload_n 0, 1) := by decide +kernel
theorem d_15_37_75 : decode prog_15_method_37_code 75 = .ok (.iconst 2, 1) := by decide +kernel
theorem d_15_37_76 : decode prog_15_method_37_code 76 = .ok (.putfield 66, 3) := by decide +kernel
theorem d_15_37_79 : decode prog_15_method_37_code 79 = .ok (.iload 4, 2) := by decide +kernel
theorem d_15_37_81 : decode prog_15_method_37_code 81 = .ok (.i2l, 1) := by decide +kernel
theorem d_15_37_82 : decode prog_15_method_37_code 82 = .ok (.aload_n 0, 1) := by decide +kernel
theorem d_15_37_83 : decode prog_15_method_37_code 83 = .ok (.getfield 23, 3) := by decide +kernel
theorem d_15_37_86 : decode prog_15_method_37_code 86 = .ok (.iload_n 2, 1) := by decide +kernel
theorem d_15_37_87 : decode prog_15_method_37_code 87 = .ok (.iaload, 1) := by decide +kernel
theorem d_15_37_88 : decode prog_15_method_37_code 88 = .ok (.i2l, 1) := by decide +kernel
theorem d_15_37_89 : decode prog_15_method_37_code 89 = .ok (.ladd, 1) := by decide +kernel
theorem d_15_37_90 : decode prog_15_method_37_code 90 = .ok (.aload_n 0, 1) := by decide +kernel
theorem d_15_37_91 : decode prog_15_method_37_code 91 = .ok (.getfield 23, 3) := by decide +kernel
theorem d_15_37_94 : decode prog_15_method_37_code 94 = .ok (.iload_n 1, 1) := by decide +kernel
theorem d_15_37_95 : decode prog_15_method_37_code 95 = .ok (.iaload, 1) := by decide +kernel
theorem d_15_37_96 : decode prog_15_method_37_code 96 = .ok (.i2l, 1) := by decide +kernel
theorem d_15_37_97 : decode prog_15_method_37_code 97 = .ok (.lsub, 1) := by decide +kernel
theorem d_15_37_98 : decode prog_15_method_37_code 98 = .ok (.lstore 6, 2) := by decide +kernel
theorem d_15_37_100 : decode prog_15_method_37_code 100 = .ok (.aload_n 0, 1) := by decide +kernel
theorem d_15_37_101 : decode prog_15_method_37_code 101 = .ok (.getfield 16, 3) := by decide +kernel
theorem d_15_37_104 : decode prog_15_method_37_code 104 = .ok (.iload_n 1, 1) := by decide +kernel
theorem d_15_37_105 : decode prog_15_method_37_code 105 = .ok (.iaload, 1) := by decide +kernel
theorem d_15_37_106 : decode prog_15_method_37_code 106 = .ok (.aload_n 0, 1) := by decide +kernel
theorem d_15_37_107 : decode prog_15_method_37_code 107 = .ok (.getfield 16, 3) := by decide +kernel
theorem d_15_37_110 : decode prog_15_method_37_code 110 = .ok (.iload_n 2, 1) := by decide +kernel
theorem d_15_37_111 : decode prog_15_method_37_code 111 = .ok (.iaload, 1) := by decide +kernel
theorem d_15_37_112 : decode prog_15_method_37_code 112 = .ok (.isub, 1) := by decide +kernel
theorem d_15_37_113 : decode prog_15_method_37_code 113 = .ok (.i2l, 1) := by decide +kernel
theorem d_15_37_114 : decode prog_15_method_37_code 114 = .ok (.lload 6, 2) := by decide +kernel
theorem d_15_37_116 : decode prog_15_method_37_code 116 = .ok (.ladd, 1) := by decide +kernel
theorem d_15_37_117 : decode prog_15_method_37_code 117 = .ok (.lstore 8, 2) := by decide +kernel
theorem d_15_37_119 : decode prog_15_method_37_code 119 = .ok (.aload_n 0, 1) := by decide +kernel
theorem d_15_37_120 : decode prog_15_method_37_code 120 = .ok (.aload_n 0, 1) := by decide +kernel
theorem d_15_37_121 : decode prog_15_method_37_code 121 = .ok (.getfield 19, 3) := by decide +kernel
theorem d_15_37_124 : decode prog_15_method_37_code 124 = .ok (.iload_n 1, 1) := by decide +kernel
theorem d_15_37_125 : decode prog_15_method_37_code 125 = .ok (.baload, 1) := by decide +kernel
theorem d_15_37_126 : decode prog_15_method_37_code 126 = .ok (.aload_n 0, 1) := by decide +kernel
theorem d_15_37_127 : decode prog_15_method_37_code 127 = .ok (.getfield 19, 3) := by decide +kernel
theorem d_15_37_130 : decode prog_15_method_37_code 130 = .ok (.iload_n 2, 1) := by decide +kernel
theorem d_15_37_131 : decode prog_15_method_37_code 131 = .ok (.baload, 1) := by decide +kernel
theorem d_15_37_140 : decode prog_15_method_37_code 140 = .ok (.putfield 56, 3) := by decide +kernel
theorem d_15_37_143 : decode prog_15_method_37_code 143 = .ok (.aload_n 0, 1) := by decide +kernel
theorem d_15_37_144 : decode prog_15_method_37_code 144 = .ok (.iload 4, 2) := by decide +kernel
theorem d_15_37_146 : decode prog_15_method_37_code 146 = .ok (.i2l, 1) := by decide +kernel
theorem d_15_37_147 : decode prog_15_method_37_code 147 = .ok (.putfield 48, 3) := by decide +kernel
theorem d_15_37_150 : decode prog_15_method_37_code 150 = .ok (.aload_n 0, 1) := by decide +kernel
theorem d_15_37_151 : decode prog_15_method_37_code 151 = .ok (.iconst 0, 1) := by decide +kernel
theorem d_15_37_152 : decode prog_15_method_37_code 152 = .ok (.putfield 52, 3) := by decide +kernel
theorem d_15_37_155 : decode prog_15_method_37_code 155 = .ok (.aload_n 0, 1) := by decide +kernel
theorem d_15_37_156 : decode prog_15_method_37_code 156 = .ok (.iconst 0, 1) := by decide +kernel
theorem d_15_37_157 : decode prog_15_method_37_code 157 = .ok (.putfield 45, 3) := by decide +kernel
theorem d_15_37_160 : decode prog_15_method_37_code 160 = .ok (.aload_n 0, 1) := by decide +kernel
theorem d_15_37_161 : decode prog_15_method_37_code 161 = .ok (.iload_n 1, 1) := by decide +kernel
theorem d_15_37_162 : decode prog_15_method_37_code 162 = .ok (.invokevirtual 120, 3) := by decide +kernel
theorem d_15_37_183 : decode prog_15_method_37_code 183 = .ok (.aload_n 0, 1) := by decide +kernel
theorem d_15_37_184 : decode prog_15_method_37_code 184 = .ok (.iload_n 1, 1) := by decide +kernel
theorem d_15_37_185 : decode prog_15_method_37_code 185 = .ok (.invokevirtual 120, 3) := by decide +kernel
theorem d_15_37_200 : decode prog_15_method_37_code 200 = .ok (.aload_n 0, 1) := by decide +kernel
theorem d_15_37_201 : decode prog_15_method_37_code 201 = .ok (.aload_n 0, 1) := by decide +kernel
theorem d_15_37_202 : decode prog_15_method_37_code 202 = .ok (.iload_n 1, 1) := by decide +kernel
theorem d_15_37_203 : decode prog_15_method_37_code 203 = .ok (.invokevirtual 120, 3) := by decide +kernel
theorem d_15_37_214 : decode prog_15_method_37_code 214 = .ok (.putfield 52, 3) := by decide +kernel
theorem d_15_37_217 : decode prog_15_method_37_code 217 = .ok (.aload_n 0, 1) := by decide +kernel
theorem d_15_37_218 : decode prog_15_method_37_code 218 = .ok (.getfield 26, 3) := by decide +kernel
theorem d_15_37_221 : decode prog_15_method_37_code 221 = .ok (.iconst 0, 1) := by decide +kernel
theorem d_15_37_222 : decode prog_15_method_37_code 222 = .ok (.iconst 0, 1) := by decide +kernel
theorem d_15_37_223 : decode prog_15_method_37_code 223 = .ok (.iastore, 1) := by decide +kernel
theorem d_15_37_224 : decode prog_15_method_37_code 224 = .ok (.aload_n 0, 1) := by decide +kernel
theorem d_15_37_225 : decode prog_15_method_37_code 225 = .ok (.iconst 1, 1) := by decide +kernel
theorem d_15_37_226 : decode prog_15_method_37_code 226 = .ok (.putfield 45, 3) := by decide +kernel
theorem d_15_37_229 : decode prog_15_method_37_code 229 = .ok (.aload_n 0, 1) := by decide +kernel
theorem d_15_37_230 : decode prog_15_method_37_code 230 = .ok (.iload 4, 2) := by decide +kernel
theorem d_15_37_232 : decode prog_15_method_37_code 232 = .ok (.i2l, 1) := by decide +kernel
theorem d_15_37_233 : decode prog_15_method_37_code 233 = .ok (.lconst 1, 1) := by decide +kernel
theorem d_15_37_234 : decode prog_15_method_37_code 234 = .ok (.ladd, 1) := by decide +kernel
theorem d_15_37_235 : decode prog_15_method_37_code 235 = .ok (.putfield 48, 3) := by decide +kernel
theorem d_15_37_238 : decode prog_15_method_37_code 238 = .ok (.goto 150, 3) := by decide +kernel
theorem d_15_37_388 : decode prog_15_method_37_code 388 = .ok (.aload_n 0, 1) := by decide +kernel
theorem d_15_37_389 : decode prog_15_method_37_code 389 = .ok (.aload_n 0, 1) := by decide +kernel
theorem d_15_37_390 : decode prog_15_method_37_code 390 = .ok (.getfield 45, 3) := by decide +kernel
theorem d_15_37_393 : decode prog_15_method_37_code 393 = .ok (.iconst 1, 1) := by decide +kernel
theorem d_15_37_394 : decode prog_15_method_37_code 394 = .ok (.isub, 1) := by decide +kernel
theorem d_15_37_395 : decode prog_15_method_37_code 395 = .ok (.iload 5, 2) := by decide +kernel
theorem d_15_37_397 : decode prog_15_method_37_code 397 = .ok (.invokevirtual 85, 3) := by decide +kernel
theorem d_15_37_400 : decode prog_15_method_37_code 400 = .ok (.ifCond .eq 8, 3) := by decide +kernel
theorem d_15_37_408 : decode prog_15_method_37_code 408 = .ok (.return_, 1) := by decide +kernel
theorem d_15_37_403 : decode prog_15_method_37_code 403 = .ok (.aload_n 0, 1) := by decide +kernel
theorem d_15_37_404 : decode prog_15_method_37_code 404 = .ok (.iload_n 3, 1) := by decide +kernel
theorem d_15_37_405 : decode prog_15_method_37_code 405 = .ok (.invokevirtual 89, 3) := by decide +kernel
theorem d_15_37_206 : decode prog_15_method_37_code 206 = .ok (.ifCond .ne 7, 3) := by decide +kernel
theorem d_15_37_213 : decode prog_15_method_37_code 213 = .ok (.iconst 0, 1) := by decide +kernel
theorem d_15_37_209 : decode prog_15_method_37_code 209 = .ok (.iconst 1, 1) := by decide +kernel
theorem d_15_37_210 : decode prog_15_method_37_code 210 = .ok (.goto 4, 3) := by decide +kernel
theorem d_15_37_188 : decode prog_15_method_37_code 188 = .ok (.ifCond .ne 12, 3) := by decide +kernel
theorem d_15_37_191 : decode prog_15_method_37_code 191 = .ok (.lload 8, 2) := by decide +kernel
theorem d_15_37_193 : decode prog_15_method_37_code 193 = .ok (.ldc2_w 83, 3) := by decide +kernel
theorem d_15_37_196 : decode prog_15_method_37_code 196 = .ok (.lcmp, 1) := by decide +kernel
theorem d_15_37_197 : decode prog_15_method_37_code 197 = .ok (.ifCond .ge 44, 3) := by decide +kernel
theorem d_15_37_241 : decode prog_15_method_37_code 241 = .ok (.aload_n 0, 1) := by decide +kernel
theorem d_15_37_242 : decode prog_15_method_37_code 242 = .ok (.iload_n 2, 1) := by decide +kernel
theorem d_15_37_243 : decode prog_15_method_37_code 243 = .ok (.lload 6, 2) := by decide +kernel
theorem d_15_37_245 : decode prog_15_method_37_code 245 = .ok (.lconst 0, 1) := by decide +kernel
theorem d_15_37_246 : decode prog_15_method_37_code 246 = .ok (.lcmp, 1) := by decide +kernel
theorem d_15_37_258 : decode prog_15_method_37_code 258 = .ok (.invokevirtual 150, 3) := by decide +kernel
theorem d_15_37_261 : decode prog_15_method_37_code 261 = .ok (.aload_n 0, 1) := by decide +kernel
theorem d_15_37_262 : decode prog_15_method_37_code 262 = .ok (.invokevirtual 154, 3) := by decide +kernel
theorem d_15_37_265 : decode prog_15_method_37_code 265 = .ok (.lconst 0, 1) := by decide +kernel
theorem d_15_37_266 : decode prog_15_method_37_code 266 = .ok (.lstore 10, 2) := by decide +kernel
theorem d_15_37_268 : decode prog_15_method_37_code 268 = .ok (.lload 10, 2) := by decide +kernel
theorem d_15_37_270 : decode prog_15_method_37_code 270 = .ok (.aload_n 0, 1) := by decide +kernel
theorem d_15_37_271 : decode prog_15_method_37_code 271 = .ok (.getfield 16, 3) := by decide +kernel
theorem d_15_37_274 : decode prog_15_method_37_code 274 = .ok (.iload_n 1, 1) := by decide +kernel
theorem d_15_37_275 : decode prog_15_method_37_code 275 = .ok (.iaload, 1) := by decide +kernel
theorem d_15_37_276 : decode prog_15_method_37_code 276 = .ok (.i2l, 1) := by decide +kernel
theorem d_15_37_277 : decode prog_15_method_37_code 277 = .ok (.lload 6, 2) := by decide +kernel
theorem d_15_37_279 : decode prog_15_method_37_code 279 = .ok (.lconst 0, 1) := by decide +kernel
theorem d_15_37_280 : decode prog_15_method_37_code 280 = .ok (.lcmp, 1) := by decide +kernel
theorem d_15_37_290 : decode prog_15_method_37_code 290 = .ok (.ladd, 1) := by decide +kernel
theorem d_15_37_291 : decode prog_15_method_37_code 291 = .ok (.lcmp, 1) := by decide +kernel
theorem d_15_37_292 : decode prog_15_method_37_code 292 = .ok (.ifCond .ge 51, 3) := by decide +kernel
theorem d_15_37_343 : decode prog_15_method_37_code 343 = .ok (.aload_n 0, 1) := by decide +kernel
theorem d_15_37_344 : decode prog_15_method_37_code 344 = .ok (.aload_n 0, 1) := by decide +kernel
theorem d_15_37_345 : decode prog_15_method_37_code 345 = .ok (.iconst 0, 1) := by decide +kernel
theorem d_15_37_346 : decode prog_15_method_37_code 346 = .ok (.invokevirtual 157, 3) := by decide +kernel
theorem d_15_37_349 : decode prog_15_method_37_code 349 = .ok (.invokevirtual 160, 3) := by decide +kernel
set_option maxRecDepth 100000 in
theorem w_2878 : (Cond.code ({ cls := "NumberHouseModel$DecimalRows", name := "append", desc := "(I)V" } : MethodName) prog_15_method_36_code (2 : Nat) (none : Option ClassFile.FieldType)) ∈ q_tbl := q_of12 238 rfl (by decide +kernel)
set_option maxRecDepth 100000 in
theorem w_2875 : (Cond.methodLink "NumberHouseModel$DecimalRows" (160 : Nat) ({ cls := "NumberHouseModel$DecimalRows", name := "append", desc := "(I)V" } : MethodName)) ∈ q_tbl := q_of12 235 rfl (by decide +kernel)
set_option maxRecDepth 100000 in
theorem w_2877 : (Cond.instanceMethod ({ cls := "NumberHouseModel$DecimalRows", name := "append", desc := "(I)V" } : MethodName)) ∈ q_tbl := q_of12 237 rfl (by decide +kernel)
theorem ws_124 : Cond.selects "NumberHouseModel$DecimalRows" (⟨"NumberHouseModel$DecimalRows", "append", "(I)V"⟩ : MethodName) (⟨"NumberHouseModel$DecimalRows", "append", "(I)V"⟩ : MethodName) ∈ q_tbl := q_ofs 124 (by decide +kernel) (by decide +kernel)
theorem LV_DR_160 : q_LV "NumberHouseModel$DecimalRows" 160 y_DR_append prog_15_method_36_code 2 none 1 := ⟨w_2878, w_16, w_2875, w_2877, ws_124, ⟨by decide, by decide, by decide +kernel⟩⟩
theorem d_15_37_352 : decode prog_15_method_37_code 352 = .ok (.aload_n 0, 1) := by decide +kernel
theorem d_15_37_353 : decode prog_15_method_37_code 353 = .ok (.aload_n 0, 1) := by decide +kernel
theorem d_15_37_354 : decode prog_15_method_37_code 354 = .ok (.invokevirtual 163, 3) := by decide +kernel
set_option maxRecDepth 100000 in
theorem w_2882 : (Cond.code ({ cls := "NumberHouseModel$DecimalRows", name := "isLeft", desc := "()Z" } : MethodName) prog_15_method_34_code (3 : Nat) (some .boolean)) ∈ q_tbl := q_of13 2 rfl (by decide +kernel)
set_option maxRecDepth 100000 in
theorem w_2879 : (Cond.methodLink "NumberHouseModel$DecimalRows" (163 : Nat) ({ cls := "NumberHouseModel$DecimalRows", name := "isLeft", desc := "()Z" } : MethodName)) ∈ q_tbl := q_of12 239 rfl (by decide +kernel)
set_option maxRecDepth 100000 in
theorem w_2881 : (Cond.instanceMethod ({ cls := "NumberHouseModel$DecimalRows", name := "isLeft", desc := "()Z" } : MethodName)) ∈ q_tbl := q_of13 1 rfl (by decide +kernel)
theorem ws_125 : Cond.selects "NumberHouseModel$DecimalRows" (⟨"NumberHouseModel$DecimalRows", "isLeft", "()Z"⟩ : MethodName) (⟨"NumberHouseModel$DecimalRows", "isLeft", "()Z"⟩ : MethodName) ∈ q_tbl := q_ofs 125 (by decide +kernel) (by decide +kernel)
theorem LV_DR_163 : q_LV "NumberHouseModel$DecimalRows" 163 y_DR_isLeft prog_15_method_34_code 3 (some .boolean) 0 := ⟨w_2882, w_16, w_2879, w_2881, ws_125, ⟨by decide, by decide, by decide +kernel⟩⟩
theorem d_15_37_357 : decode prog_15_method_37_code 357 = .ok (.putfield 52, 3) := by decide +kernel
theorem d_15_37_360 : decode prog_15_method_37_code 360 = .ok (.aload_n 0, 1) := by decide +kernel
theorem d_15_37_361 : decode prog_15_method_37_code 361 = .ok (.iload 4, 2) := by decide +kernel
theorem d_15_37_363 : decode prog_15_method_37_code 363 = .ok (.i2l, 1) := by decide +kernel
theorem d_15_37_364 : decode prog_15_method_37_code 364 = .ok (.lconst 1, 1) := by decide +kernel
theorem d_15_37_365 : decode prog_15_method_37_code 365 = .ok (.ladd, 1) := by decide +kernel
theorem d_15_37_366 : decode prog_15_method_37_code 366 = .ok (.putfield 48, 3) := by decide +kernel
theorem d_15_37_369 : decode prog_15_method_37_code 369 = .ok (.aload_n 0, 1) := by decide +kernel
theorem d_15_37_370 : decode prog_15_method_37_code 370 = .ok (.getfield 45, 3) := by decide +kernel
theorem d_15_37_373 : decode prog_15_method_37_code 373 = .ok (.ifCond .ne 15, 3) := by decide +kernel
theorem d_15_37_376 : decode prog_15_method_37_code 376 = .ok (.aload_n 0, 1) := by decide +kernel
theorem d_15_37_377 : decode prog_15_method_37_code 377 = .ok (.getfield 26, 3) := by decide +kernel
theorem d_15_37_380 : decode prog_15_method_37_code 380 = .ok (.iconst 0, 1) := by decide +kernel
theorem d_15_37_381 : decode prog_15_method_37_code 381 = .ok (.iconst 0, 1) := by decide +kernel
theorem d_15_37_382 : decode prog_15_method_37_code 382 = .ok (.iastore, 1) := by decide +kernel
theorem d_15_37_383 : decode prog_15_method_37_code 383 = .ok (.aload_n 0, 1) := by decide +kernel
theorem d_15_37_384 : decode prog_15_method_37_code 384 = .ok (.iconst 1, 1) := by decide +kernel
theorem d_15_37_385 : decode prog_15_method_37_code 385 = .ok (.putfield 45, 3) := by decide +kernel
theorem d_15_37_295 : decode prog_15_method_37_code 295 = .ok (.aload_n 0, 1) := by decide +kernel
theorem d_15_37_296 : decode prog_15_method_37_code 296 = .ok (.aload_n 0, 1) := by decide +kernel
theorem d_15_37_297 : decode prog_15_method_37_code 297 = .ok (.lload 10, 2) := by decide +kernel
theorem d_15_37_299 : decode prog_15_method_37_code 299 = .ok (.aload_n 0, 1) := by decide +kernel
theorem d_15_37_300 : decode prog_15_method_37_code 300 = .ok (.getfield 16, 3) := by decide +kernel
theorem d_15_37_303 : decode prog_15_method_37_code 303 = .ok (.iload_n 1, 1) := by decide +kernel
theorem d_15_37_304 : decode prog_15_method_37_code 304 = .ok (.iaload, 1) := by decide +kernel
theorem d_15_37_305 : decode prog_15_method_37_code 305 = .ok (.i2l, 1) := by decide +kernel
theorem d_15_37_306 : decode prog_15_method_37_code 306 = .ok (.lcmp, 1) := by decide +kernel
theorem d_15_37_307 : decode prog_15_method_37_code 307 = .ok (.ifCond .ge 20, 3) := by decide +kernel
theorem d_15_37_327 : decode prog_15_method_37_code 327 = .ok (.iconst 0, 1) := by decide +kernel
theorem d_15_37_328 : decode prog_15_method_37_code 328 = .ok (.invokevirtual 157, 3) := by decide +kernel
theorem d_15_37_331 : decode prog_15_method_37_code 331 = .ok (.invokevirtual 160, 3) := by decide +kernel
theorem d_15_37_334 : decode prog_15_method_37_code 334 = .ok (.lload 10, 2) := by decide +kernel
theorem d_15_37_336 : decode prog_15_method_37_code 336 = .ok (.lconst 1, 1) := by decide +kernel
theorem d_15_37_337 : decode prog_15_method_37_code 337 = .ok (.ladd, 1) := by decide +kernel
theorem d_15_37_338 : decode prog_15_method_37_code 338 = .ok (.lstore 10, 2) := by decide +kernel
theorem d_15_37_340 : decode prog_15_method_37_code 340 = .ok (.goto (-72), 3) := by decide +kernel
theorem d_15_37_310 : decode prog_15_method_37_code 310 = .ok (.aload_n 0, 1) := by decide +kernel
theorem d_15_37_311 : decode prog_15_method_37_code 311 = .ok (.getfield 13, 3) := by decide +kernel
theorem d_15_37_314 : decode prog_15_method_37_code 314 = .ok (.sipush 1000, 3) := by decide +kernel
theorem d_15_37_317 : decode prog_15_method_37_code 317 = .ok (.iload_n 1, 1) := by decide +kernel
theorem d_15_37_318 : decode prog_15_method_37_code 318 = .ok (.imul, 1) := by decide +kernel
theorem d_15_37_319 : decode prog_15_method_37_code 319 = .ok (.lload 10, 2) := by decide +kernel
theorem d_15_37_321 : decode prog_15_method_37_code 321 = .ok (.l2i, 1) := by decide +kernel
theorem d_15_37_322 : decode prog_15_method_37_code 322 = .ok (.iadd, 1) := by decide +kernel
theorem d_15_37_323 : decode prog_15_method_37_code 323 = .ok (.iaload, 1) := by decide +kernel
theorem d_15_37_324 : decode prog_15_method_37_code 324 = .ok (.goto 4, 3) := by decide +kernel
theorem d_15_37_281 : decode prog_15_method_37_code 281 = .ok (.ifCond .le 8, 3) := by decide +kernel
theorem d_15_37_289 : decode prog_15_method_37_code 289 = .ok (.lconst 0, 1) := by decide +kernel
theorem d_15_37_284 : decode prog_15_method_37_code 284 = .ok (.lload 6, 2) := by decide +kernel
theorem d_15_37_286 : decode prog_15_method_37_code 286 = .ok (.goto 4, 3) := by decide +kernel
theorem d_15_37_247 : decode prog_15_method_37_code 247 = .ok (.ifCond .ge 10, 3) := by decide +kernel
theorem d_15_37_257 : decode prog_15_method_37_code 257 = .ok (.iconst 0, 1) := by decide +kernel
theorem d_15_37_250 : decode prog_15_method_37_code 250 = .ok (.lload 6, 2) := by decide +kernel
theorem d_15_37_252 : decode prog_15_method_37_code 252 = .ok (.lneg, 1) := by decide +kernel
theorem d_15_37_253 : decode prog_15_method_37_code 253 = .ok (.l2i, 1) := by decide +kernel
theorem d_15_37_254 : decode prog_15_method_37_code 254 = .ok (.goto 4, 3) := by decide +kernel
theorem d_15_37_165 : decode prog_15_method_37_code 165 = .ok (.ifCond .ne 18, 3) := by decide +kernel
theorem d_15_37_168 : decode prog_15_method_37_code 168 = .ok (.lload 8, 2) := by decide +kernel
theorem d_15_37_170 : decode prog_15_method_37_code 170 = .ok (.ldc2_w 77, 3) := by decide +kernel
theorem d_15_37_173 : decode prog_15_method_37_code 173 = .ok (.lcmp, 1) := by decide +kernel
theorem d_15_37_174 : decode prog_15_method_37_code 174 = .ok (.ifCond .le 9, 3) := by decide +kernel
theorem d_15_37_177 : decode prog_15_method_37_code 177 = .ok (.aload_n 0, 1) := by decide +kernel
theorem d_15_37_178 : decode prog_15_method_37_code 178 = .ok (.iconst 2, 1) := by decide +kernel
theorem d_15_37_179 : decode prog_15_method_37_code 179 = .ok (.putfield 41, 3) := by decide +kernel
theorem d_15_37_182 : decode prog_15_method_37_code 182 = .ok (.return_, 1) := by decide +kernel
theorem d_15_37_132 : decode prog_15_method_37_code 132 = .ok (.if_icmp .eq 7, 3) := by decide +kernel
theorem d_15_37_139 : decode prog_15_method_37_code 139 = .ok (.iconst 0, 1) := by decide +kernel
theorem d_15_37_135 : decode prog_15_method_37_code 135 = .ok (.iconst 1, 1) := by decide +kernel
theorem d_15_37_136 : decode prog_15_method_37_code 136 = .ok (.goto 4, 3) := by decide +kernel
theorem d_15_37_73 : decode prog_15_method_37_code 73 = .ok (.return_, 1) := by decide +kernel
theorem d_15_37_46 : decode prog_15_method_37_code 46 = .ok (.iconst 1, 1) := by decide +kernel
theorem d_15_37_47 : decode prog_15_method_37_code 47 = .ok (.goto 16, 3) := by decide +kernel
theorem d_15_37_5 : decode prog_15_method_37_code 5 = .ok (.ifCond .ne 41, 3) := by decide +kernel
theorem d_15_37_8 : decode prog_15_method_37_code 8 = .ok (.iload_n 2, 1) := by decide +kernel
theorem d_15_37_9 : decode prog_15_method_37_code 9 = .ok (.invokestatic 113, 3) := by decide +kernel
theorem d_15_37_12 : decode prog_15_method_37_code 12 = .ok (.ifCond .ne 34, 3) := by decide +kernel
theorem d_15_37_15 : decode prog_15_method_37_code 15 = .ok (.iload_n 3, 1) := by decide +kernel
theorem d_15_37_16 : decode prog_15_method_37_code 16 = .ok (.invokestatic 113, 3) := by decide +kernel
theorem d_15_37_19 : decode prog_15_method_37_code 19 = .ok (.ifCond .ne 27, 3) := by decide +kernel
theorem d_15_37_22 : decode prog_15_method_37_code 22 = .ok (.iload 5, 2) := by decide +kernel
theorem d_15_37_24 : decode prog_15_method_37_code 24 = .ok (.invokestatic 147, 3) := by decide +kernel
set_option maxRecDepth 100000 in
theorem w_2874 : (Cond.code ({ cls := "NumberHouseModel$DecimalRows", name := "noMode", desc := "(I)Z" } : MethodName) prog_15_method_4_code (1 : Nat) (some .boolean)) ∈ q_tbl := q_of12 234 rfl (by decide +kernel)
set_option maxRecDepth 100000 in
theorem w_2872 : (Cond.methodLink "NumberHouseModel$DecimalRows" (147 : Nat) ({ cls := "NumberHouseModel$DecimalRows", name := "noMode", desc := "(I)Z" } : MethodName)) ∈ q_tbl := q_of12 232 rfl (by decide +kernel)
set_option maxRecDepth 100000 in
theorem w_2873 : (Cond.static ({ cls := "NumberHouseModel$DecimalRows", name := "noMode", desc := "(I)Z" } : MethodName)) ∈ q_tbl := q_of12 233 rfl (by decide +kernel)
theorem LS_DR_147 : q_LS "NumberHouseModel$DecimalRows" 147 y_DR_noMode prog_15_method_4_code 1 (some .boolean) 1 := ⟨w_2874, w_16, w_2872, w_2873, ⟨by decide, by decide, by decide +kernel⟩⟩
theorem d_15_37_27 : decode prog_15_method_37_code 27 = .ok (.ifCond .ne 19, 3) := by decide +kernel
theorem d_15_37_30 : decode prog_15_method_37_code 30 = .ok (.iload 4, 2) := by decide +kernel
theorem d_15_37_32 : decode prog_15_method_37_code 32 = .ok (.sipush (-10000), 3) := by decide +kernel
theorem d_15_37_35 : decode prog_15_method_37_code 35 = .ok (.if_icmp .lt 11, 3) := by decide +kernel
theorem d_15_37_38 : decode prog_15_method_37_code 38 = .ok (.iload 4, 2) := by decide +kernel
theorem d_15_37_40 : decode prog_15_method_37_code 40 = .ok (.sipush 10000, 3) := by decide +kernel
theorem d_15_37_43 : decode prog_15_method_37_code 43 = .ok (.if_icmp .le 7, 3) := by decide +kernel
theorem d_15_37_50 : decode prog_15_method_37_code 50 = .ok (.aload_n 0, 1) := by decide +kernel
theorem d_15_37_51 : decode prog_15_method_37_code 51 = .ok (.iload_n 2, 1) := by decide +kernel
theorem d_15_37_52 : decode prog_15_method_37_code 52 = .ok (.invokevirtual 120, 3) := by decide +kernel
theorem d_15_37_55 : decode prog_15_method_37_code 55 = .ok (.ifCond .eq 7, 3) := by decide +kernel
theorem d_15_37_62 : decode prog_15_method_37_code 62 = .ok (.iconst 0, 1) := by decide +kernel
theorem d_15_37_58 : decode prog_15_method_37_code 58 = .ok (.iconst 2, 1) := by decide +kernel
theorem d_15_37_59 : decode prog_15_method_37_code 59 = .ok (.goto 4, 3) := by decide +kernel
def y_DR_divide : MethodName := ⟨"NumberHouseModel$DecimalRows", "divide", "(IIIII)V"⟩
def F_DR_divide_c405 (x2 : Int32) (x3 : Int32) (x4 : Int32) (x5 : Int32) (x6 : Int32) (t0_0 : Int32) (t0_1 : Int32) (t0_2 : Int32) (t0_3 : Int64) (t0_4 : Int32) (t0_5 : Int32) (t0_6 : Int32) (t0_7 : Int32) (t0_8 : Int32) (t0_9 : Int32) (t0_10 : Int32) (t1_0 : (Nat → Int32)) (t2_0 : (Nat → Int32)) (t3_0 : (Nat → Int32)) (t4_0 : (Nat → Int32)) (t5_0 : (Nat → Int32)) (t6_0 : (Nat → Int32)) (t7_0 : (Nat → Int32)) (lx45 : Int32) (j100 : Int64) (j88 : Int64) (lx107 : Int32) (j126 : Int64) (lx187 : Int32) (p258 : (Int32 × Int32 × Int32 × Int32 × Int64 × Int32 × Int32 × Int32 × Int32 × Int32 × Int32 × Int32 × (Nat → Int32))) (p330 : (Int32 × Int32 × Int32 × Int64 × Int32 × Int32 × Int32 × Int32 × Int32 × Int32 × Int32 × (Nat → Int32) × (Nat → Int32) × (Nat → Int32) × (Nat → Int32) × (Nat → Int32))) : Int32 × Int32 × Int32 × Int64 × Int32 × Int32 × Int32 × Int32 × Int32 × Int32 × Int32 × (Nat → Int32) × (Nat → Int32) × (Nat → Int32) × (Nat → Int32) × (Nat → Int32) × (Nat → Int32) × (Nat → Int32) := ((p330.1 : Int32), (p330.2.1 : Int32), (p330.2.2.1 : Int32), (p330.2.2.2.1 : Int64), (p330.2.2.2.2.1 : Int32), (p330.2.2.2.2.2.1 : Int32), (p330.2.2.2.2.2.2.1 : Int32), (p330.2.2.2.2.2.2.2.1 : Int32), (p330.2.2.2.2.2.2.2.2.1 : Int32), (p330.2.2.2.2.2.2.2.2.2.1 : Int32), (p330.2.2.2.2.2.2.2.2.2.2.1 : Int32), (p330.2.2.2.2.2.2.2.2.2.2.2.1 : (Nat → Int32)), (p330.2.2.2.2.2.2.2.2.2.2.2.2.1 : (Nat → Int32)), (p330.2.2.2.2.2.2.2.2.2.2.2.2.2.1 : (Nat → Int32)), (p330.2.2.2.2.2.2.2.2.2.2.2.2.2.2.1 : (Nat → Int32)), (p330.2.2.2.2.2.2.2.2.2.2.2.2.2.2.2 : (Nat → Int32)), t6_0, t7_0)
def F_DR_divide_c397 (x2 : Int32) (x3 : Int32) (x4 : Int32) (x5 : Int32) (x6 : Int32) (t0_0 : Int32) (t0_1 : Int32) (t0_2 : Int32) (t0_3 : Int64) (t0_4 : Int32) (t0_5 : Int32) (t0_6 : Int32) (t0_7 : Int32) (t0_8 : Int32) (t0_9 : Int32) (t0_10 : Int32) (t1_0 : (Nat → Int32)) (t2_0 : (Nat → Int32)) (t3_0 : (Nat → Int32)) (t4_0 : (Nat → Int32)) (t5_0 : (Nat → Int32)) (t6_0 : (Nat → Int32)) (t7_0 : (Nat → Int32)) (lx45 : Int32) (j100 : Int64) (j88 : Int64) (lx107 : Int32) (j126 : Int64) (lx187 : Int32) (p258 : (Int32 × Int32 × Int32 × Int32 × Int64 × Int32 × Int32 × Int32 × Int32 × Int32 × Int32 × Int32 × (Nat → Int32))) : Int32 × Int32 × Int32 × Int64 × Int32 × Int32 × Int32 × Int32 × Int32 × Int32 × Int32 × (Nat → Int32) × (Nat → Int32) × (Nat → Int32) × (Nat → Int32) × (Nat → Int32) × (Nat → Int32) × (Nat → Int32) := if (p258.1 : Int32) = (0 : Int32) then (((p258.2.1 : Int32), (p258.2.2.1 : Int32), (p258.2.2.2.1 : Int32), (p258.2.2.2.2.1 : Int64), (p258.2.2.2.2.2.1 : Int32), (p258.2.2.2.2.2.2.1 : Int32), (p258.2.2.2.2.2.2.2.1 : Int32), (p258.2.2.2.2.2.2.2.2.1 : Int32), (p258.2.2.2.2.2.2.2.2.2.1 : Int32), (p258.2.2.2.2.2.2.2.2.2.2.1 : Int32), (p258.2.2.2.2.2.2.2.2.2.2.2.1 : Int32), t1_0, t2_0, t3_0, t4_0, (p258.2.2.2.2.2.2.2.2.2.2.2.2 : (Nat → Int32)), t6_0, t7_0)) else (F_DR_divide_c405 x2 x3 x4 x5 x6 t0_0 t0_1 t0_2 t0_3 t0_4 t0_5 t0_6 t0_7 t0_8 t0_9 t0_10 t1_0 t2_0 t3_0 t4_0 t5_0 t6_0 t7_0 lx45 j100 j88 lx107 j126 lx187 p258 ((F_DR_store x4 (p258.2.1 : Int32) (p258.2.2.1 : Int32) (p258.2.2.2.1 : Int32) (p258.2.2.2.2.1 : Int64) (p258.2.2.2.2.2.1 : Int32) (p258.2.2.2.2.2.2.1 : Int32) (p258.2.2.2.2.2.2.2.1 : Int32) (p258.2.2.2.2.2.2.2.2.1 : Int32) (p258.2.2.2.2.2.2.2.2.2.1 : Int32) (p258.2.2.2.2.2.2.2.2.2.2.1 : Int32) (p258.2.2.2.2.2.2.2.2.2.2.2.1 : Int32) t1_0 t2_0 t3_0 t4_0 (p258.2.2.2.2.2.2.2.2.2.2.2.2 : (Nat → Int32))) : (Int32 × Int32 × Int32 × Int64 × Int32 × Int32 × Int32 × Int32 × Int32 × Int32 × Int32 × (Nat → Int32) × (Nat → Int32) × (Nat → Int32) × (Nat → Int32) × (Nat → Int32))))
def F_DR_divide_J214 (x2 : Int32) (x3 : Int32) (x4 : Int32) (x5 : Int32) (x6 : Int32) (t0_0 : Int32) (t0_1 : Int32) (t0_2 : Int32) (t0_3 : Int64) (t0_4 : Int32) (t0_5 : Int32) (t0_6 : Int32) (t0_7 : Int32) (t0_8 : Int32) (t0_9 : Int32) (t0_10 : Int32) (t1_0 : (Nat → Int32)) (t2_0 : (Nat → Int32)) (t3_0 : (Nat → Int32)) (t4_0 : (Nat → Int32)) (t5_0 : (Nat → Int32)) (t6_0 : (Nat → Int32)) (t7_0 : (Nat → Int32)) (lx45 : Int32) (j100 : Int64) (j88 : Int64) (lx107 : Int32) (j126 : Int64) (lx187 : Int32) : Int32 × Int32 × Int32 × Int64 × Int32 × Int32 × Int32 × Int32 × Int32 × Int32 × Int32 × (Nat → Int32) × (Nat → Int32) × (Nat → Int32) × (Nat → Int32) × (Nat → Int32) × (Nat → Int32) × (Nat → Int32) := F_DR_divide_c397 x2 x3 x4 x5 x6 t0_0 t0_1 t0_2 t0_3 t0_4 t0_5 t0_6 t0_7 t0_8 t0_9 t0_10 t1_0 t2_0 t3_0 t4_0 t5_0 t6_0 t7_0 lx45 j100 j88 lx107 j126 lx187 ((F_DR_cut (0 : Int32) x6 lx45 t0_1 (1 : Int32) ((x5.toInt64 : Int64) + 1 : Int64) lx187 lx107 t0_6 t0_7 t0_8 t0_9 (2 : Int32) (upd t5_0 (0 : Int32).toNatClampNeg 0 : (Nat → Int32))) : (Int32 × Int32 × Int32 × Int32 × Int64 × Int32 × Int32 × Int32 × Int32 × Int32 × Int32 × Int32 × (Nat → Int32)))
def F_DR_divide_J200 (x2 : Int32) (x3 : Int32) (x4 : Int32) (x5 : Int32) (x6 : Int32) (t0_0 : Int32) (t0_1 : Int32) (t0_2 : Int32) (t0_3 : Int64) (t0_4 : Int32) (t0_5 : Int32) (t0_6 : Int32) (t0_7 : Int32) (t0_8 : Int32) (t0_9 : Int32) (t0_10 : Int32) (t1_0 : (Nat → Int32)) (t2_0 : (Nat → Int32)) (t3_0 : (Nat → Int32)) (t4_0 : (Nat → Int32)) (t5_0 : (Nat → Int32)) (t6_0 : (Nat → Int32)) (t7_0 : (Nat → Int32)) (lx45 : Int32) (j100 : Int64) (j88 : Int64) (lx107 : Int32) (j126 : Int64) : Int32 × Int32 × Int32 × Int64 × Int32 × Int32 × Int32 × Int32 × Int32 × Int32 × Int32 × (Nat → Int32) × (Nat → Int32) × (Nat → Int32) × (Nat → Int32) × (Nat → Int32) × (Nat → Int32) × (Nat → Int32) := if ((F_DR_isZero x2 lx45 t0_1 (0 : Int32) j126 (0 : Int32) lx107 t0_6 t0_7 t0_8 t0_9 (2 : Int32) t1_0) : Int32) = (0 : Int32) then (F_DR_divide_J214 x2 x3 x4 x5 x6 t0_0 t0_1 t0_2 t0_3 t0_4 t0_5 t0_6 t0_7 t0_8 t0_9 t0_10 t1_0 t2_0 t3_0 t4_0 t5_0 t6_0 t7_0 lx45 j100 j88 lx107 j126 1) else (F_DR_divide_J214 x2 x3 x4 x5 x6 t0_0 t0_1 t0_2 t0_3 t0_4 t0_5 t0_6 t0_7 t0_8 t0_9 t0_10 t1_0 t2_0 t3_0 t4_0 t5_0 t6_0 t7_0 lx45 j100 j88 lx107 j126 0)
def F_DR_divide_c405_16 (K_F_DR_divide_L268 : Int64 → Int32 → Int32 → Int32 → Int64 → Int32 → Int32 → Int32 → Int32 → Int32 → Int32 → Int32 → (Nat → Int32) → (Nat → Int32) → (Int32 × Int32 × Int32 × Int64 × Int32 × Int32 × Int32 × Int32 × Int32 × Int32 × Int32 × (Nat → Int32) × (Nat → Int32) × (Nat → Int32) × (Nat → Int32) × (Nat → Int32) × (Nat → Int32) × (Nat → Int32))) (x2 : Int32) (x3 : Int32) (x4 : Int32) (x5 : Int32) (x6 : Int32) (t0_0 : Int32) (t0_1 : Int32) (t0_2 : Int32) (t0_3 : Int64) (t0_4 : Int32) (t0_5 : Int32) (t0_6 : Int32) (t0_7 : Int32) (t0_8 : Int32) (t0_9 : Int32) (t0_10 : Int32) (t1_0 : (Nat → Int32)) (t2_0 : (Nat → Int32)) (t3_0 : (Nat → Int32)) (t4_0 : (Nat → Int32)) (t5_0 : (Nat → Int32)) (t6_0 : (Nat → Int32)) (t7_0 : (Nat → Int32)) (lx45 : Int32) (j100 : Int64) (j88 : Int64) (lx107 : Int32) (j126 : Int64) (lx367 : Int32) (p431 : (Int32 × Int32 × Int32 × Int64 × Int32 × Int32 × Int32 × Int32 × Int32 × Int32 × Int32 × (Nat → Int32))) (f397 : (Nat → Int32)) (p492 : (Int32 × Int32 × Int32 × Int64 × Int32 × Int32 × Int32 × Int32 × Int32 × Int32 × Int32 × (Nat → Int32))) (lx512 : Int64) (lx513 : Int32) (lx514 : Int32) (lx515 : Int32) (lx516 : Int64) (lx517 : Int32) (lx518 : Int32) (lx519 : Int32) (lx520 : Int32) (lx521 : Int32) (lx522 : Int32) (lx523 : Int32) (lx524 : (Nat → Int32)) (lx525 : (Nat → Int32)) (j573 : Int64) (lx579 : Int64) (p613 : (Int32 × (Nat → Int32))) (f609 : (Nat → Int32)) (p668 : (Int32 × Int32 × Int32 × Int64 × Int32 × Int32 × Int32 × Int32 × Int32 × Int32 × Int32 × (Nat → Int32))) (p750 : (Int32 × Int32 × Int32 × Int32 × Int64 × Int32 × Int32 × Int32 × Int32 × Int32 × Int32 × Int32 × (Nat → Int32))) (p822 : (Int32 × Int32 × Int32 × Int64 × Int32 × Int32 × Int32 × Int32 × Int32 × Int32 × Int32 × (Nat → Int32) × (Nat → Int32) × (Nat → Int32) × (Nat → Int32) × (Nat → Int32))) : Int32 × Int32 × Int32 × Int64 × Int32 × Int32 × Int32 × Int32 × Int32 × Int32 × Int32 × (Nat → Int32) × (Nat → Int32) × (Nat → Int32) × (Nat → Int32) × (Nat → Int32) × (Nat → Int32) × (Nat → Int32) := ((p822.1 : Int32), (p822.2.1 : Int32), (p822.2.2.1 : Int32), (p822.2.2.2.1 : Int64), (p822.2.2.2.2.1 : Int32), (p822.2.2.2.2.2.1 : Int32), (p822.2.2.2.2.2.2.1 : Int32), (p822.2.2.2.2.2.2.2.1 : Int32), (p822.2.2.2.2.2.2.2.2.1 : Int32), (p822.2.2.2.2.2.2.2.2.2.1 : Int32), (p822.2.2.2.2.2.2.2.2.2.2.1 : Int32), (p822.2.2.2.2.2.2.2.2.2.2.2.1 : (Nat → Int32)), (p822.2.2.2.2.2.2.2.2.2.2.2.2.1 : (Nat → Int32)), (p822.2.2.2.2.2.2.2.2.2.2.2.2.2.1 : (Nat → Int32)), (p822.2.2.2.2.2.2.2.2.2.2.2.2.2.2.1 : (Nat → Int32)), (p822.2.2.2.2.2.2.2.2.2.2.2.2.2.2.2 : (Nat → Int32)), f397, f609)
def F_DR_divide_c397_15 (K_F_DR_divide_L268 : Int64 → Int32 → Int32 → Int32 → Int64 → Int32 → Int32 → Int32 → Int32 → Int32 → Int32 → Int32 → (Nat → Int32) → (Nat → Int32) → (Int32 × Int32 × Int32 × Int64 × Int32 × Int32 × Int32 × Int32 × Int32 × Int32 × Int32 × (Nat → Int32) × (Nat → Int32) × (Nat → Int32) × (Nat → Int32) × (Nat → Int32) × (Nat → Int32) × (Nat → Int32))) (x2 : Int32) (x3 : Int32) (x4 : Int32) (x5 : Int32) (x6 : Int32) (t0_0 : Int32) (t0_1 : Int32) (t0_2 : Int32) (t0_3 : Int64) (t0_4 : Int32) (t0_5 : Int32) (t0_6 : Int32) (t0_7 : Int32) (t0_8 : Int32) (t0_9 : Int32) (t0_10 : Int32) (t1_0 : (Nat → Int32)) (t2_0 : (Nat → Int32)) (t3_0 : (Nat → Int32)) (t4_0 : (Nat → Int32)) (t5_0 : (Nat → Int32)) (t6_0 : (Nat → Int32)) (t7_0 : (Nat → Int32)) (lx45 : Int32) (j100 : Int64) (j88 : Int64) (lx107 : Int32) (j126 : Int64) (lx367 : Int32) (p431 : (Int32 × Int32 × Int32 × Int64 × Int32 × Int32 × Int32 × Int32 × Int32 × Int32 × Int32 × (Nat → Int32))) (f397 : (Nat → Int32)) (p492 : (Int32 × Int32 × Int32 × Int64 × Int32 × Int32 × Int32 × Int32 × Int32 × Int32 × Int32 × (Nat → Int32))) (lx512 : Int64) (lx513 : Int32) (lx514 : Int32) (lx515 : Int32) (lx516 : Int64) (lx517 : Int32) (lx518 : Int32) (lx519 : Int32) (lx520 : Int32) (lx521 : Int32) (lx522 : Int32) (lx523 : Int32) (lx524 : (Nat → Int32)) (lx525 : (Nat → Int32)) (j573 : Int64) (lx579 : Int64) (p613 : (Int32 × (Nat → Int32))) (f609 : (Nat → Int32)) (p668 : (Int32 × Int32 × Int32 × Int64 × Int32 × Int32 × Int32 × Int32 × Int32 × Int32 × Int32 × (Nat → Int32))) (p750 : (Int32 × Int32 × Int32 × Int32 × Int64 × Int32 × Int32 × Int32 × Int32 × Int32 × Int32 × Int32 × (Nat → Int32))) : Int32 × Int32 × Int32 × Int64 × Int32 × Int32 × Int32 × Int32 × Int32 × Int32 × Int32 × (Nat → Int32) × (Nat → Int32) × (Nat → Int32) × (Nat → Int32) × (Nat → Int32) × (Nat → Int32) × (Nat → Int32) := if (p750.1 : Int32) = (0 : Int32) then (((p750.2.1 : Int32), (p750.2.2.1 : Int32), (p750.2.2.2.1 : Int32), (p750.2.2.2.2.1 : Int64), (p750.2.2.2.2.2.1 : Int32), (p750.2.2.2.2.2.2.1 : Int32), (p750.2.2.2.2.2.2.2.1 : Int32), (p750.2.2.2.2.2.2.2.2.1 : Int32), (p750.2.2.2.2.2.2.2.2.2.1 : Int32), (p750.2.2.2.2.2.2.2.2.2.2.1 : Int32), (p750.2.2.2.2.2.2.2.2.2.2.2.1 : Int32), t1_0, t2_0, t3_0, t4_0, (p750.2.2.2.2.2.2.2.2.2.2.2.2 : (Nat → Int32)), f397, f609)) else (F_DR_divide_c405_16 K_F_DR_divide_L268 x2 x3 x4 x5 x6 t0_0 t0_1 t0_2 t0_3 t0_4 t0_5 t0_6 t0_7 t0_8 t0_9 t0_10 t1_0 t2_0 t3_0 t4_0 t5_0 t6_0 t7_0 lx45 j100 j88 lx107 j126 lx367 p431 f397 p492 lx512 lx513 lx514 lx515 lx516 lx517 lx518 lx519 lx520 lx521 lx522 lx523 lx524 lx525 j573 lx579 p613 f609 p668 p750 ((F_DR_store x4 (p750.2.1 : Int32) (p750.2.2.1 : Int32) (p750.2.2.2.1 : Int32) (p750.2.2.2.2.1 : Int64) (p750.2.2.2.2.2.1 : Int32) (p750.2.2.2.2.2.2.1 : Int32) (p750.2.2.2.2.2.2.2.1 : Int32) (p750.2.2.2.2.2.2.2.2.1 : Int32) (p750.2.2.2.2.2.2.2.2.2.1 : Int32) (p750.2.2.2.2.2.2.2.2.2.2.1 : Int32) (p750.2.2.2.2.2.2.2.2.2.2.2.1 : Int32) t1_0 t2_0 t3_0 t4_0 (p750.2.2.2.2.2.2.2.2.2.2.2.2 : (Nat → Int32))) : (Int32 × Int32 × Int32 × Int64 × Int32 × Int32 × Int32 × Int32 × Int32 × Int32 × Int32 × (Nat → Int32) × (Nat → Int32) × (Nat → Int32) × (Nat → Int32) × (Nat → Int32))))
def F_DR_divide_c405_18 (K_F_DR_divide_L268 : Int64 → Int32 → Int32 → Int32 → Int64 → Int32 → Int32 → Int32 → Int32 → Int32 → Int32 → Int32 → (Nat → Int32) → (Nat → Int32) → (Int32 × Int32 × Int32 × Int64 × Int32 × Int32 × Int32 × Int32 × Int32 × Int32 × Int32 × (Nat → Int32) × (Nat → Int32) × (Nat → Int32) × (Nat → Int32) × (Nat → Int32) × (Nat → Int32) × (Nat → Int32))) (x2 : Int32) (x3 : Int32) (x4 : Int32) (x5 : Int32) (x6 : Int32) (t0_0 : Int32) (t0_1 : Int32) (t0_2 : Int32) (t0_3 : Int64) (t0_4 : Int32) (t0_5 : Int32) (t0_6 : Int32) (t0_7 : Int32) (t0_8 : Int32) (t0_9 : Int32) (t0_10 : Int32) (t1_0 : (Nat → Int32)) (t2_0 : (Nat → Int32)) (t3_0 : (Nat → Int32)) (t4_0 : (Nat → Int32)) (t5_0 : (Nat → Int32)) (t6_0 : (Nat → Int32)) (t7_0 : (Nat → Int32)) (lx45 : Int32) (j100 : Int64) (j88 : Int64) (lx107 : Int32) (j126 : Int64) (lx367 : Int32) (p431 : (Int32 × Int32 × Int32 × Int64 × Int32 × Int32 × Int32 × Int32 × Int32 × Int32 × Int32 × (Nat → Int32))) (f397 : (Nat → Int32)) (p492 : (Int32 × Int32 × Int32 × Int64 × Int32 × Int32 × Int32 × Int32 × Int32 × Int32 × Int32 × (Nat → Int32))) (lx512 : Int64) (lx513 : Int32) (lx514 : Int32) (lx515 : Int32) (lx516 : Int64) (lx517 : Int32) (lx518 : Int32) (lx519 : Int32) (lx520 : Int32) (lx521 : Int32) (lx522 : Int32) (lx523 : Int32) (lx524 : (Nat → Int32)) (lx525 : (Nat → Int32)) (j573 : Int64) (lx579 : Int64) (p613 : (Int32 × (Nat → Int32))) (f609 : (Nat → Int32)) (p668 : (Int32 × Int32 × Int32 × Int64 × Int32 × Int32 × Int32 × Int32 × Int32 × Int32 × Int32 × (Nat → Int32))) (p890 : (Int32 × Int32 × Int32 × Int32 × Int64 × Int32 × Int32 × Int32 × Int32 × Int32 × Int32 × Int32 × (Nat → Int32))) (p962 : (Int32 × Int32 × Int32 × Int64 × Int32 × Int32 × Int32 × Int32 × Int32 × Int32 × Int32 × (Nat → Int32) × (Nat → Int32) × (Nat → Int32) × (Nat → Int32) × (Nat → Int32))) : Int32 × Int32 × Int32 × Int64 × Int32 × Int32 × Int32 × Int32 × Int32 × Int32 × Int32 × (Nat → Int32) × (Nat → Int32) × (Nat → Int32) × (Nat → Int32) × (Nat → Int32) × (Nat → Int32) × (Nat → Int32) := ((p962.1 : Int32), (p962.2.1 : Int32), (p962.2.2.1 : Int32), (p962.2.2.2.1 : Int64), (p962.2.2.2.2.1 : Int32), (p962.2.2.2.2.2.1 : Int32), (p962.2.2.2.2.2.2.1 : Int32), (p962.2.2.2.2.2.2.2.1 : Int32), (p962.2.2.2.2.2.2.2.2.1 : Int32), (p962.2.2.2.2.2.2.2.2.2.1 : Int32), (p962.2.2.2.2.2.2.2.2.2.2.1 : Int32), (p962.2.2.2.2.2.2.2.2.2.2.2.1 : (Nat → Int32)), (p962.2.2.2.2.2.2.2.2.2.2.2.2.1 : (Nat → Int32)), (p962.2.2.2.2.2.2.2.2.2.2.2.2.2.1 : (Nat → Int32)), (p962.2.2.2.2.2.2.2.2.2.2.2.2.2.2.1 : (Nat → Int32)), (p962.2.2.2.2.2.2.2.2.2.2.2.2.2.2.2 : (Nat → Int32)), f397, f609)
def F_DR_divide_c397_17 (K_F_DR_divide_L268 : Int64 → Int32 → Int32 → Int32 → Int64 → Int32 → Int32 → Int32 → Int32 → Int32 → Int32 → Int32 → (Nat → Int32) → (Nat → Int32) → (Int32 × Int32 × Int32 × Int64 × Int32 × Int32 × Int32 × Int32 × Int32 × Int32 × Int32 × (Nat → Int32) × (Nat → Int32) × (Nat → Int32) × (Nat → Int32) × (Nat → Int32) × (Nat → Int32) × (Nat → Int32))) (x2 : Int32) (x3 : Int32) (x4 : Int32) (x5 : Int32) (x6 : Int32) (t0_0 : Int32) (t0_1 : Int32) (t0_2 : Int32) (t0_3 : Int64) (t0_4 : Int32) (t0_5 : Int32) (t0_6 : Int32) (t0_7 : Int32) (t0_8 : Int32) (t0_9 : Int32) (t0_10 : Int32) (t1_0 : (Nat → Int32)) (t2_0 : (Nat → Int32)) (t3_0 : (Nat → Int32)) (t4_0 : (Nat → Int32)) (t5_0 : (Nat → Int32)) (t6_0 : (Nat → Int32)) (t7_0 : (Nat → Int32)) (lx45 : Int32) (j100 : Int64) (j88 : Int64) (lx107 : Int32) (j126 : Int64) (lx367 : Int32) (p431 : (Int32 × Int32 × Int32 × Int64 × Int32 × Int32 × Int32 × Int32 × Int32 × Int32 × Int32 × (Nat → Int32))) (f397 : (Nat → Int32)) (p492 : (Int32 × Int32 × Int32 × Int64 × Int32 × Int32 × Int32 × Int32 × Int32 × Int32 × Int32 × (Nat → Int32))) (lx512 : Int64) (lx513 : Int32) (lx514 : Int32) (lx515 : Int32) (lx516 : Int64) (lx517 : Int32) (lx518 : Int32) (lx519 : Int32) (lx520 : Int32) (lx521 : Int32) (lx522 : Int32) (lx523 : Int32) (lx524 : (Nat → Int32)) (lx525 : (Nat → Int32)) (j573 : Int64) (lx579 : Int64) (p613 : (Int32 × (Nat → Int32))) (f609 : (Nat → Int32)) (p668 : (Int32 × Int32 × Int32 × Int64 × Int32 × Int32 × Int32 × Int32 × Int32 × Int32 × Int32 × (Nat → Int32))) (p890 : (Int32 × Int32 × Int32 × Int32 × Int64 × Int32 × Int32 × Int32 × Int32 × Int32 × Int32 × Int32 × (Nat → Int32))) : Int32 × Int32 × Int32 × Int64 × Int32 × Int32 × Int32 × Int32 × Int32 × Int32 × Int32 × (Nat → Int32) × (Nat → Int32) × (Nat → Int32) × (Nat → Int32) × (Nat → Int32) × (Nat → Int32) × (Nat → Int32) := if (p890.1 : Int32) = (0 : Int32) then (((p890.2.1 : Int32), (p890.2.2.1 : Int32), (p890.2.2.2.1 : Int32), (p890.2.2.2.2.1 : Int64), (p890.2.2.2.2.2.1 : Int32), (p890.2.2.2.2.2.2.1 : Int32), (p890.2.2.2.2.2.2.2.1 : Int32), (p890.2.2.2.2.2.2.2.2.1 : Int32), (p890.2.2.2.2.2.2.2.2.2.1 : Int32), (p890.2.2.2.2.2.2.2.2.2.2.1 : Int32), (p890.2.2.2.2.2.2.2.2.2.2.2.1 : Int32), t1_0, t2_0, t3_0, t4_0, (p890.2.2.2.2.2.2.2.2.2.2.2.2 : (Nat → Int32)), f397, f609)) else (F_DR_divide_c405_18 K_F_DR_divide_L268 x2 x3 x4 x5 x6 t0_0 t0_1 t0_2 t0_3 t0_4 t0_5 t0_6 t0_7 t0_8 t0_9 t0_10 t1_0 t2_0 t3_0 t4_0 t5_0 t6_0 t7_0 lx45 j100 j88 lx107 j126 lx367 p431 f397 p492 lx512 lx513 lx514 lx515 lx516 lx517 lx518 lx519 lx520 lx521 lx522 lx523 lx524 lx525 j573 lx579 p613 f609 p668 p890 ((F_DR_store x4 (p890.2.1 : Int32) (p890.2.2.1 : Int32) (p890.2.2.2.1 : Int32) (p890.2.2.2.2.1 : Int64) (p890.2.2.2.2.2.1 : Int32) (p890.2.2.2.2.2.2.1 : Int32) (p890.2.2.2.2.2.2.2.1 : Int32) (p890.2.2.2.2.2.2.2.2.1 : Int32) (p890.2.2.2.2.2.2.2.2.2.1 : Int32) (p890.2.2.2.2.2.2.2.2.2.2.1 : Int32) (p890.2.2.2.2.2.2.2.2.2.2.2.1 : Int32) t1_0 t2_0 t3_0 t4_0 (p890.2.2.2.2.2.2.2.2.2.2.2.2 : (Nat → Int32))) : (Int32 × Int32 × Int32 × Int64 × Int32 × Int32 × Int32 × Int32 × Int32 × Int32 × Int32 × (Nat → Int32) × (Nat → Int32) × (Nat → Int32) × (Nat → Int32) × (Nat → Int32))))
def F_DR_divide_c349 (K_F_DR_divide_L268 : Int64 → Int32 → Int32 → Int32 → Int64 → Int32 → Int32 → Int32 → Int32 → Int32 → Int32 → Int32 → (Nat → Int32) → (Nat → Int32) → (Int32 × Int32 × Int32 × Int64 × Int32 × Int32 × Int32 × Int32 × Int32 × Int32 × Int32 × (Nat → Int32) × (Nat → Int32) × (Nat → Int32) × (Nat → Int32) × (Nat → Int32) × (Nat → Int32) × (Nat → Int32))) (x2 : Int32) (x3 : Int32) (x4 : Int32) (x5 : Int32) (x6 : Int32) (t0_0 : Int32) (t0_1 : Int32) (t0_2 : Int32) (t0_3 : Int64) (t0_4 : Int32) (t0_5 : Int32) (t0_6 : Int32) (t0_7 : Int32) (t0_8 : Int32) (t0_9 : Int32) (t0_10 : Int32) (t1_0 : (Nat → Int32)) (t2_0 : (Nat → Int32)) (t3_0 : (Nat → Int32)) (t4_0 : (Nat → Int32)) (t5_0 : (Nat → Int32)) (t6_0 : (Nat → Int32)) (t7_0 : (Nat → Int32)) (lx45 : Int32) (j100 : Int64) (j88 : Int64) (lx107 : Int32) (j126 : Int64) (lx367 : Int32) (p431 : (Int32 × Int32 × Int32 × Int64 × Int32 × Int32 × Int32 × Int32 × Int32 × Int32 × Int32 × (Nat → Int32))) (f397 : (Nat → Int32)) (p492 : (Int32 × Int32 × Int32 × Int64 × Int32 × Int32 × Int32 × Int32 × Int32 × Int32 × Int32 × (Nat → Int32))) (lx512 : Int64) (lx513 : Int32) (lx514 : Int32) (lx515 : Int32) (lx516 : Int64) (lx517 : Int32) (lx518 : Int32) (lx519 : Int32) (lx520 : Int32) (lx521 : Int32) (lx522 : Int32) (lx523 : Int32) (lx524 : (Nat → Int32)) (lx525 : (Nat → Int32)) (j573 : Int64) (lx579 : Int64) (p613 : (Int32 × (Nat → Int32))) (f609 : (Nat → Int32)) (p668 : (Int32 × Int32 × Int32 × Int64 × Int32 × Int32 × Int32 × Int32 × Int32 × Int32 × Int32 × (Nat → Int32))) : Int32 × Int32 × Int32 × Int64 × Int32 × Int32 × Int32 × Int32 × Int32 × Int32 × Int32 × (Nat → Int32) × (Nat → Int32) × (Nat → Int32) × (Nat → Int32) × (Nat → Int32) × (Nat → Int32) × (Nat → Int32) := if (p668.2.2.1 : Int32) = (0 : Int32) then (F_DR_divide_c397_17 K_F_DR_divide_L268 x2 x3 x4 x5 x6 t0_0 t0_1 t0_2 t0_3 t0_4 t0_5 t0_6 t0_7 t0_8 t0_9 t0_10 t1_0 t2_0 t3_0 t4_0 t5_0 t6_0 t7_0 lx45 j100 j88 lx107 j126 lx367 p431 f397 p492 lx512 lx513 lx514 lx515 lx516 lx517 lx518 lx519 lx520 lx521 lx522 lx523 lx524 lx525 j573 lx579 p613 f609 p668 ((F_DR_cut (0 : Int32) x6 (p668.1 : Int32) (p668.2.1 : Int32) (1 : Int32) ((x5.toInt64 : Int64) + 1 : Int64) ((F_DR_isLeft (p668.1 : Int32) (p668.2.1 : Int32) (p668.2.2.1 : Int32) (p668.2.2.2.1 : Int64) (p668.2.2.2.2.1 : Int32) (p668.2.2.2.2.2.1 : Int32) (p668.2.2.2.2.2.2.1 : Int32) (p668.2.2.2.2.2.2.2.1 : Int32) (p668.2.2.2.2.2.2.2.2.1 : Int32) (p668.2.2.2.2.2.2.2.2.2.1 : Int32) (p668.2.2.2.2.2.2.2.2.2.2.1 : Int32) f609) : Int32) (p668.2.2.2.2.2.1 : Int32) (p668.2.2.2.2.2.2.1 : Int32) (p668.2.2.2.2.2.2.2.1 : Int32) (p668.2.2.2.2.2.2.2.2.1 : Int32) (p668.2.2.2.2.2.2.2.2.2.1 : Int32) (p668.2.2.2.2.2.2.2.2.2.2.1 : Int32) (upd (p668.2.2.2.2.2.2.2.2.2.2.2 : (Nat → Int32)) (0 : Int32).toNatClampNeg 0 : (Nat → Int32))) : (Int32 × Int32 × Int32 × Int32 × Int64 × Int32 × Int32 × Int32 × Int32 × Int32 × Int32 × Int32 × (Nat → Int32)))) else (F_DR_divide_c397_15 K_F_DR_divide_L268 x2 x3 x4 x5 x6 t0_0 t0_1 t0_2 t0_3 t0_4 t0_5 t0_6 t0_7 t0_8 t0_9 t0_10 t1_0 t2_0 t3_0 t4_0 t5_0 t6_0 t7_0 lx45 j100 j88 lx107 j126 lx367 p431 f397 p492 lx512 lx513 lx514 lx515 lx516 lx517 lx518 lx519 lx520 lx521 lx522 lx523 lx524 lx525 j573 lx579 p613 f609 p668 ((F_DR_cut ((p668.2.2.1 : Int32) - 1 : Int32) x6 (p668.1 : Int32) (p668.2.1 : Int32) (p668.2.2.1 : Int32) ((x5.toInt64 : Int64) + 1 : Int64) ((F_DR_isLeft (p668.1 : Int32) (p668.2.1 : Int32) (p668.2.2.1 : Int32) (p668.2.2.2.1 : Int64) (p668.2.2.2.2.1 : Int32) (p668.2.2.2.2.2.1 : Int32) (p668.2.2.2.2.2.2.1 : Int32) (p668.2.2.2.2.2.2.2.1 : Int32) (p668.2.2.2.2.2.2.2.2.1 : Int32) (p668.2.2.2.2.2.2.2.2.2.1 : Int32) (p668.2.2.2.2.2.2.2.2.2.2.1 : Int32) f609) : Int32) (p668.2.2.2.2.2.1 : Int32) (p668.2.2.2.2.2.2.1 : Int32) (p668.2.2.2.2.2.2.2.1 : Int32) (p668.2.2.2.2.2.2.2.2.1 : Int32) (p668.2.2.2.2.2.2.2.2.2.1 : Int32) (p668.2.2.2.2.2.2.2.2.2.2.1 : Int32) (p668.2.2.2.2.2.2.2.2.2.2.2 : (Nat → Int32))) : (Int32 × Int32 × Int32 × Int32 × Int64 × Int32 × Int32 × Int32 × Int32 × Int32 × Int32 × Int32 × (Nat → Int32))))
def F_DR_divide_c346 (K_F_DR_divide_L268 : Int64 → Int32 → Int32 → Int32 → Int64 → Int32 → Int32 → Int32 → Int32 → Int32 → Int32 → Int32 → (Nat → Int32) → (Nat → Int32) → (Int32 × Int32 × Int32 × Int64 × Int32 × Int32 × Int32 × Int32 × Int32 × Int32 × Int32 × (Nat → Int32) × (Nat → Int32) × (Nat → Int32) × (Nat → Int32) × (Nat → Int32) × (Nat → Int32) × (Nat → Int32))) (x2 : Int32) (x3 : Int32) (x4 : Int32) (x5 : Int32) (x6 : Int32) (t0_0 : Int32) (t0_1 : Int32) (t0_2 : Int32) (t0_3 : Int64) (t0_4 : Int32) (t0_5 : Int32) (t0_6 : Int32) (t0_7 : Int32) (t0_8 : Int32) (t0_9 : Int32) (t0_10 : Int32) (t1_0 : (Nat → Int32)) (t2_0 : (Nat → Int32)) (t3_0 : (Nat → Int32)) (t4_0 : (Nat → Int32)) (t5_0 : (Nat → Int32)) (t6_0 : (Nat → Int32)) (t7_0 : (Nat → Int32)) (lx45 : Int32) (j100 : Int64) (j88 : Int64) (lx107 : Int32) (j126 : Int64) (lx367 : Int32) (p431 : (Int32 × Int32 × Int32 × Int64 × Int32 × Int32 × Int32 × Int32 × Int32 × Int32 × Int32 × (Nat → Int32))) (f397 : (Nat → Int32)) (p492 : (Int32 × Int32 × Int32 × Int64 × Int32 × Int32 × Int32 × Int32 × Int32 × Int32 × Int32 × (Nat → Int32))) (lx512 : Int64) (lx513 : Int32) (lx514 : Int32) (lx515 : Int32) (lx516 : Int64) (lx517 : Int32) (lx518 : Int32) (lx519 : Int32) (lx520 : Int32) (lx521 : Int32) (lx522 : Int32) (lx523 : Int32) (lx524 : (Nat → Int32)) (lx525 : (Nat → Int32)) (j573 : Int64) (lx579 : Int64) (p613 : (Int32 × (Nat → Int32))) : Int32 × Int32 × Int32 × Int64 × Int32 × Int32 × Int32 × Int32 × Int32 × Int32 × Int32 × (Nat → Int32) × (Nat → Int32) × (Nat → Int32) × (Nat → Int32) × (Nat → Int32) × (Nat → Int32) × (Nat → Int32) := F_DR_divide_c349 K_F_DR_divide_L268 x2 x3 x4 x5 x6 t0_0 t0_1 t0_2 t0_3 t0_4 t0_5 t0_6 t0_7 t0_8 t0_9 t0_10 t1_0 t2_0 t3_0 t4_0 t5_0 t6_0 t7_0 lx45 j100 j88 lx107 j126 lx367 p431 f397 p492 lx512 lx513 lx514 lx515 lx516 lx517 lx518 lx519 lx520 lx521 lx522 lx523 lx524 lx525 j573 lx579 p613 (p613.2 : (Nat → Int32)) ((F_DR_append (p613.1 : Int32) lx513 lx514 lx515 lx516 lx517 lx518 lx519 lx520 lx521 lx522 lx523 lx524) : (Int32 × Int32 × Int32 × Int64 × Int32 × Int32 × Int32 × Int32 × Int32 × Int32 × Int32 × (Nat → Int32)))
def F_DR_divide_c331 (K_F_DR_divide_L268 : Int64 → Int32 → Int32 → Int32 → Int64 → Int32 → Int32 → Int32 → Int32 → Int32 → Int32 → Int32 → (Nat → Int32) → (Nat → Int32) → (Int32 × Int32 × Int32 × Int64 × Int32 × Int32 × Int32 × Int32 × Int32 × Int32 × Int32 × (Nat → Int32) × (Nat → Int32) × (Nat → Int32) × (Nat → Int32) × (Nat → Int32) × (Nat → Int32) × (Nat → Int32))) (x2 : Int32) (x3 : Int32) (x4 : Int32) (x5 : Int32) (x6 : Int32) (t0_0 : Int32) (t0_1 : Int32) (t0_2 : Int32) (t0_3 : Int64) (t0_4 : Int32) (t0_5 : Int32) (t0_6 : Int32) (t0_7 : Int32) (t0_8 : Int32) (t0_9 : Int32) (t0_10 : Int32) (t1_0 : (Nat → Int32)) (t2_0 : (Nat → Int32)) (t3_0 : (Nat → Int32)) (t4_0 : (Nat → Int32)) (t5_0 : (Nat → Int32)) (t6_0 : (Nat → Int32)) (t7_0 : (Nat → Int32)) (lx45 : Int32) (j100 : Int64) (j88 : Int64) (lx107 : Int32) (j126 : Int64) (lx367 : Int32) (p431 : (Int32 × Int32 × Int32 × Int64 × Int32 × Int32 × Int32 × Int32 × Int32 × Int32 × Int32 × (Nat → Int32))) (f397 : (Nat → Int32)) (p492 : (Int32 × Int32 × Int32 × Int64 × Int32 × Int32 × Int32 × Int32 × Int32 × Int32 × Int32 × (Nat → Int32))) (lx512 : Int64) (lx513 : Int32) (lx514 : Int32) (lx515 : Int32) (lx516 : Int64) (lx517 : Int32) (lx518 : Int32) (lx519 : Int32) (lx520 : Int32) (lx521 : Int32) (lx522 : Int32) (lx523 : Int32) (lx524 : (Nat → Int32)) (lx525 : (Nat → Int32)) (j573 : Int64) (lx579 : Int64) (p1004 : (Int32 × (Nat → Int32))) (f1000 : (Nat → Int32)) (p1059 : (Int32 × Int32 × Int32 × Int64 × Int32 × Int32 × Int32 × Int32 × Int32 × Int32 × Int32 × (Nat → Int32))) : Int32 × Int32 × Int32 × Int64 × Int32 × Int32 × Int32 × Int32 × Int32 × Int32 × Int32 × (Nat → Int32) × (Nat → Int32) × (Nat → Int32) × (Nat → Int32) × (Nat → Int32) × (Nat → Int32) × (Nat → Int32) := K_F_DR_divide_L268 (lx512 + 1 : Int64) (p1059.1 : Int32) (p1059.2.1 : Int32) (p1059.2.2.1 : Int32) (p1059.2.2.2.1 : Int64) (p1059.2.2.2.2.1 : Int32) (p1059.2.2.2.2.2.1 : Int32) (p1059.2.2.2.2.2.2.1 : Int32) (p1059.2.2.2.2.2.2.2.1 : Int32) (p1059.2.2.2.2.2.2.2.2.1 : Int32) (p1059.2.2.2.2.2.2.2.2.2.1 : Int32) (p1059.2.2.2.2.2.2.2.2.2.2.1 : Int32) (p1059.2.2.2.2.2.2.2.2.2.2.2 : (Nat → Int32)) f1000
def F_DR_divide_c328 (K_F_DR_divide_L268 : Int64 → Int32 → Int32 → Int32 → Int64 → Int32 → Int32 → Int32 → Int32 → Int32 → Int32 → Int32 → (Nat → Int32) → (Nat → Int32) → (Int32 × Int32 × Int32 × Int64 × Int32 × Int32 × Int32 × Int32 × Int32 × Int32 × Int32 × (Nat → Int32) × (Nat → Int32) × (Nat → Int32) × (Nat → Int32) × (Nat → Int32) × (Nat → Int32) × (Nat → Int32))) (x2 : Int32) (x3 : Int32) (x4 : Int32) (x5 : Int32) (x6 : Int32) (t0_0 : Int32) (t0_1 : Int32) (t0_2 : Int32) (t0_3 : Int64) (t0_4 : Int32) (t0_5 : Int32) (t0_6 : Int32) (t0_7 : Int32) (t0_8 : Int32) (t0_9 : Int32) (t0_10 : Int32) (t1_0 : (Nat → Int32)) (t2_0 : (Nat → Int32)) (t3_0 : (Nat → Int32)) (t4_0 : (Nat → Int32)) (t5_0 : (Nat → Int32)) (t6_0 : (Nat → Int32)) (t7_0 : (Nat → Int32)) (lx45 : Int32) (j100 : Int64) (j88 : Int64) (lx107 : Int32) (j126 : Int64) (lx367 : Int32) (p431 : (Int32 × Int32 × Int32 × Int64 × Int32 × Int32 × Int32 × Int32 × Int32 × Int32 × Int32 × (Nat → Int32))) (f397 : (Nat → Int32)) (p492 : (Int32 × Int32 × Int32 × Int64 × Int32 × Int32 × Int32 × Int32 × Int32 × Int32 × Int32 × (Nat → Int32))) (lx512 : Int64) (lx513 : Int32) (lx514 : Int32) (lx515 : Int32) (lx516 : Int64) (lx517 : Int32) (lx518 : Int32) (lx519 : Int32) (lx520 : Int32) (lx521 : Int32) (lx522 : Int32) (lx523 : Int32) (lx524 : (Nat → Int32)) (lx525 : (Nat → Int32)) (j573 : Int64) (lx579 : Int64) (p1004 : (Int32 × (Nat → Int32))) : Int32 × Int32 × Int32 × Int64 × Int32 × Int32 × Int32 × Int32 × Int32 × Int32 × Int32 × (Nat → Int32) × (Nat → Int32) × (Nat → Int32) × (Nat → Int32) × (Nat → Int32) × (Nat → Int32) × (Nat → Int32) := F_DR_divide_c331 K_F_DR_divide_L268 x2 x3 x4 x5 x6 t0_0 t0_1 t0_2 t0_3 t0_4 t0_5 t0_6 t0_7 t0_8 t0_9 t0_10 t1_0 t2_0 t3_0 t4_0 t5_0 t6_0 t7_0 lx45 j100 j88 lx107 j126 lx367 p431 f397 p492 lx512 lx513 lx514 lx515 lx516 lx517 lx518 lx519 lx520 lx521 lx522 lx523 lx524 lx525 j573 lx579 p1004 (p1004.2 : (Nat → Int32)) ((F_DR_append (p1004.1 : Int32) lx513 lx514 lx515 lx516 lx517 lx518 lx519 lx520 lx521 lx522 lx523 lx524) : (Int32 × Int32 × Int32 × Int64 × Int32 × Int32 × Int32 × Int32 × Int32 × Int32 × Int32 × (Nat → Int32)))
def F_DR_divide_c331_22 (K_F_DR_divide_L268 : Int64 → Int32 → Int32 → Int32 → Int64 → Int32 → Int32 → Int32 → Int32 → Int32 → Int32 → Int32 → (Nat → Int32) → (Nat → Int32) → (Int32 × Int32 × Int32 × Int64 × Int32 × Int32 × Int32 × Int32 × Int32 × Int32 × Int32 × (Nat → Int32) × (Nat → Int32) × (Nat → Int32) × (Nat → Int32) × (Nat → Int32) × (Nat → Int32) × (Nat → Int32))) (x2 : Int32) (x3 : Int32) (x4 : Int32) (x5 : Int32) (x6 : Int32) (t0_0 : Int32) (t0_1 : Int32) (t0_2 : Int32) (t0_3 : Int64) (t0_4 : Int32) (t0_5 : Int32) (t0_6 : Int32) (t0_7 : Int32) (t0_8 : Int32) (t0_9 : Int32) (t0_10 : Int32) (t1_0 : (Nat → Int32)) (t2_0 : (Nat → Int32)) (t3_0 : (Nat → Int32)) (t4_0 : (Nat → Int32)) (t5_0 : (Nat → Int32)) (t6_0 : (Nat → Int32)) (t7_0 : (Nat → Int32)) (lx45 : Int32) (j100 : Int64) (j88 : Int64) (lx107 : Int32) (j126 : Int64) (lx367 : Int32) (p431 : (Int32 × Int32 × Int32 × Int64 × Int32 × Int32 × Int32 × Int32 × Int32 × Int32 × Int32 × (Nat → Int32))) (f397 : (Nat → Int32)) (p492 : (Int32 × Int32 × Int32 × Int64 × Int32 × Int32 × Int32 × Int32 × Int32 × Int32 × Int32 × (Nat → Int32))) (lx512 : Int64) (lx513 : Int32) (lx514 : Int32) (lx515 : Int32) (lx516 : Int64) (lx517 : Int32) (lx518 : Int32) (lx519 : Int32) (lx520 : Int32) (lx521 : Int32) (lx522 : Int32) (lx523 : Int32) (lx524 : (Nat → Int32)) (lx525 : (Nat → Int32)) (j573 : Int64) (lx579 : Int64) (p1102 : (Int32 × (Nat → Int32))) (f1098 : (Nat → Int32)) (p1157 : (Int32 × Int32 × Int32 × Int64 × Int32 × Int32 × Int32 × Int32 × Int32 × Int32 × Int32 × (Nat → Int32))) : Int32 × Int32 × Int32 × Int64 × Int32 × Int32 × Int32 × Int32 × Int32 × Int32 × Int32 × (Nat → Int32) × (Nat → Int32) × (Nat → Int32) × (Nat → Int32) × (Nat → Int32) × (Nat → Int32) × (Nat → Int32) := K_F_DR_divide_L268 (lx512 + 1 : Int64) (p1157.1 : Int32) (p1157.2.1 : Int32) (p1157.2.2.1 : Int32) (p1157.2.2.2.1 : Int64) (p1157.2.2.2.2.1 : Int32) (p1157.2.2.2.2.2.1 : Int32) (p1157.2.2.2.2.2.2.1 : Int32) (p1157.2.2.2.2.2.2.2.1 : Int32) (p1157.2.2.2.2.2.2.2.2.1 : Int32) (p1157.2.2.2.2.2.2.2.2.2.1 : Int32) (p1157.2.2.2.2.2.2.2.2.2.2.1 : Int32) (p1157.2.2.2.2.2.2.2.2.2.2.2 : (Nat → Int32)) f1098
def F_DR_divide_c328_21 (K_F_DR_divide_L268 : Int64 → Int32 → Int32 → Int32 → Int64 → Int32 → Int32 → Int32 → Int32 → Int32 → Int32 → Int32 → (Nat → Int32) → (Nat → Int32) → (Int32 × Int32 × Int32 × Int64 × Int32 × Int32 × Int32 × Int32 × Int32 × Int32 × Int32 × (Nat → Int32) × (Nat → Int32) × (Nat → Int32) × (Nat → Int32) × (Nat → Int32) × (Nat → Int32) × (Nat → Int32))) (x2 : Int32) (x3 : Int32) (x4 : Int32) (x5 : Int32) (x6 : Int32) (t0_0 : Int32) (t0_1 : Int32) (t0_2 : Int32) (t0_3 : Int64) (t0_4 : Int32) (t0_5 : Int32) (t0_6 : Int32) (t0_7 : Int32) (t0_8 : Int32) (t0_9 : Int32) (t0_10 : Int32) (t1_0 : (Nat → Int32)) (t2_0 : (Nat → Int32)) (t3_0 : (Nat → Int32)) (t4_0 : (Nat → Int32)) (t5_0 : (Nat → Int32)) (t6_0 : (Nat → Int32)) (t7_0 : (Nat → Int32)) (lx45 : Int32) (j100 : Int64) (j88 : Int64) (lx107 : Int32) (j126 : Int64) (lx367 : Int32) (p431 : (Int32 × Int32 × Int32 × Int64 × Int32 × Int32 × Int32 × Int32 × Int32 × Int32 × Int32 × (Nat → Int32))) (f397 : (Nat → Int32)) (p492 : (Int32 × Int32 × Int32 × Int64 × Int32 × Int32 × Int32 × Int32 × Int32 × Int32 × Int32 × (Nat → Int32))) (lx512 : Int64) (lx513 : Int32) (lx514 : Int32) (lx515 : Int32) (lx516 : Int64) (lx517 : Int32) (lx518 : Int32) (lx519 : Int32) (lx520 : Int32) (lx521 : Int32) (lx522 : Int32) (lx523 : Int32) (lx524 : (Nat → Int32)) (lx525 : (Nat → Int32)) (j573 : Int64) (lx579 : Int64) (p1102 : (Int32 × (Nat → Int32))) : Int32 × Int32 × Int32 × Int64 × Int32 × Int32 × Int32 × Int32 × Int32 × Int32 × Int32 × (Nat → Int32) × (Nat → Int32) × (Nat → Int32) × (Nat → Int32) × (Nat → Int32) × (Nat → Int32) × (Nat → Int32) := F_DR_divide_c331_22 K_F_DR_divide_L268 x2 x3 x4 x5 x6 t0_0 t0_1 t0_2 t0_3 t0_4 t0_5 t0_6 t0_7 t0_8 t0_9 t0_10 t1_0 t2_0 t3_0 t4_0 t5_0 t6_0 t7_0 lx45 j100 j88 lx107 j126 lx367 p431 f397 p492 lx512 lx513 lx514 lx515 lx516 lx517 lx518 lx519 lx520 lx521 lx522 lx523 lx524 lx525 j573 lx579 p1102 (p1102.2 : (Nat → Int32)) ((F_DR_append (p1102.1 : Int32) lx513 lx514 lx515 lx516 lx517 lx518 lx519 lx520 lx521 lx522 lx523 lx524) : (Int32 × Int32 × Int32 × Int64 × Int32 × Int32 × Int32 × Int32 × Int32 × Int32 × Int32 × (Nat → Int32)))
def F_DR_divide_J290 (K_F_DR_divide_L268 : Int64 → Int32 → Int32 → Int32 → Int64 → Int32 → Int32 → Int32 → Int32 → Int32 → Int32 → Int32 → (Nat → Int32) → (Nat → Int32) → (Int32 × Int32 × Int32 × Int64 × Int32 × Int32 × Int32 × Int32 × Int32 × Int32 × Int32 × (Nat → Int32) × (Nat → Int32) × (Nat → Int32) × (Nat → Int32) × (Nat → Int32) × (Nat → Int32) × (Nat → Int32))) (x2 : Int32) (x3 : Int32) (x4 : Int32) (x5 : Int32) (x6 : Int32) (t0_0 : Int32) (t0_1 : Int32) (t0_2 : Int32) (t0_3 : Int64) (t0_4 : Int32) (t0_5 : Int32) (t0_6 : Int32) (t0_7 : Int32) (t0_8 : Int32) (t0_9 : Int32) (t0_10 : Int32) (t1_0 : (Nat → Int32)) (t2_0 : (Nat → Int32)) (t3_0 : (Nat → Int32)) (t4_0 : (Nat → Int32)) (t5_0 : (Nat → Int32)) (t6_0 : (Nat → Int32)) (t7_0 : (Nat → Int32)) (lx45 : Int32) (j100 : Int64) (j88 : Int64) (lx107 : Int32) (j126 : Int64) (lx367 : Int32) (p431 : (Int32 × Int32 × Int32 × Int64 × Int32 × Int32 × Int32 × Int32 × Int32 × Int32 × Int32 × (Nat → Int32))) (f397 : (Nat → Int32)) (p492 : (Int32 × Int32 × Int32 × Int64 × Int32 × Int32 × Int32 × Int32 × Int32 × Int32 × Int32 × (Nat → Int32))) (lx512 : Int64) (lx513 : Int32) (lx514 : Int32) (lx515 : Int32) (lx516 : Int64) (lx517 : Int32) (lx518 : Int32) (lx519 : Int32) (lx520 : Int32) (lx521 : Int32) (lx522 : Int32) (lx523 : Int32) (lx524 : (Nat → Int32)) (lx525 : (Nat → Int32)) (j573 : Int64) (lx579 : Int64) : Int32 × Int32 × Int32 × Int64 × Int32 × Int32 × Int32 × Int32 × Int32 × Int32 × Int32 × (Nat → Int32) × (Nat → Int32) × (Nat → Int32) × (Nat → Int32) × (Nat → Int32) × (Nat → Int32) × (Nat → Int32) := if (0 : Int32) ≤ (lg_cmp lx512 (j573 + lx579 : Int64) : Int32) then (F_DR_divide_c346 K_F_DR_divide_L268 x2 x3 x4 x5 x6 t0_0 t0_1 t0_2 t0_3 t0_4 t0_5 t0_6 t0_7 t0_8 t0_9 t0_10 t1_0 t2_0 t3_0 t4_0 t5_0 t6_0 t7_0 lx45 j100 j88 lx107 j126 lx367 p431 f397 p492 lx512 lx513 lx514 lx515 lx516 lx517 lx518 lx519 lx520 lx521 lx522 lx523 lx524 lx525 j573 lx579 ((F_DR_nextFigure (0 : Int32) lx513 lx514 lx515 lx516 lx517 lx518 lx519 lx520 lx521 lx522 lx523 f397 lx525) : (Int32 × (Nat → Int32)))) else (if (0 : Int32) ≤ (lg_cmp lx512 ((t2_0 x2.toNatClampNeg : Int32).toInt64 : Int64) : Int32) then (F_DR_divide_c328 K_F_DR_divide_L268 x2 x3 x4 x5 x6 t0_0 t0_1 t0_2 t0_3 t0_4 t0_5 t0_6 t0_7 t0_8 t0_9 t0_10 t1_0 t2_0 t3_0 t4_0 t5_0 t6_0 t7_0 lx45 j100 j88 lx107 j126 lx367 p431 f397 p492 lx512 lx513 lx514 lx515 lx516 lx517 lx518 lx519 lx520 lx521 lx522 lx523 lx524 lx525 j573 lx579 ((F_DR_nextFigure (0 : Int32) lx513 lx514 lx515 lx516 lx517 lx518 lx519 lx520 lx521 lx522 lx523 f397 lx525) : (Int32 × (Nat → Int32)))) else (F_DR_divide_c328_21 K_F_DR_divide_L268 x2 x3 x4 x5 x6 t0_0 t0_1 t0_2 t0_3 t0_4 t0_5 t0_6 t0_7 t0_8 t0_9 t0_10 t1_0 t2_0 t3_0 t4_0 t5_0 t6_0 t7_0 lx45 j100 j88 lx107 j126 lx367 p431 f397 p492 lx512 lx513 lx514 lx515 lx516 lx517 lx518 lx519 lx520 lx521 lx522 lx523 lx524 lx525 j573 lx579 ((F_DR_nextFigure (t1_0 ((1000 * x2 : Int32) + (lx512.toInt32 : Int32) : Int32).toNatClampNeg : Int32) lx513 lx514 lx515 lx516 lx517 lx518 lx519 lx520 lx521 lx522 lx523 f397 lx525) : (Int32 × (Nat → Int32)))))
def F_DR_divide_L268 (x2 : Int32) (x3 : Int32) (x4 : Int32) (x5 : Int32) (x6 : Int32) (t0_0 : Int32) (t0_1 : Int32) (t0_2 : Int32) (t0_3 : Int64) (t0_4 : Int32) (t0_5 : Int32) (t0_6 : Int32) (t0_7 : Int32) (t0_8 : Int32) (t0_9 : Int32) (t0_10 : Int32) (t1_0 : (Nat → Int32)) (t2_0 : (Nat → Int32)) (t3_0 : (Nat → Int32)) (t4_0 : (Nat → Int32)) (t5_0 : (Nat → Int32)) (t6_0 : (Nat → Int32)) (t7_0 : (Nat → Int32)) (lx45 : Int32) (j100 : Int64) (j88 : Int64) (lx107 : Int32) (j126 : Int64) (lx367 : Int32) (p431 : (Int32 × Int32 × Int32 × Int64 × Int32 × Int32 × Int32 × Int32 × Int32 × Int32 × Int32 × (Nat → Int32))) (f397 : (Nat → Int32)) (p492 : (Int32 × Int32 × Int32 × Int64 × Int32 × Int32 × Int32 × Int32 × Int32 × Int32 × Int32 × (Nat → Int32))) : Nat → Int64 → Int32 → Int32 → Int32 → Int64 → Int32 → Int32 → Int32 → Int32 → Int32 → Int32 → Int32 → (Nat → Int32) → (Nat → Int32) → (Int32 × Int32 × Int32 × Int64 × Int32 × Int32 × Int32 × Int32 × Int32 × Int32 × Int32 × (Nat → Int32) × (Nat → Int32) × (Nat → Int32) × (Nat → Int32) × (Nat → Int32) × (Nat → Int32) × (Nat → Int32))
  | 0, _, _, _, _, _, _, _, _, _, _, _, _, _, _ => default
  | fm + 1, lx512, lx513, lx514, lx515, lx516, lx517, lx518, lx519, lx520, lx521, lx522, lx523, lx524, lx525 => if (lg_cmp j88 0 : Int32) ≤ (0 : Int32) then (F_DR_divide_J290 (F_DR_divide_L268 x2 x3 x4 x5 x6 t0_0 t0_1 t0_2 t0_3 t0_4 t0_5 t0_6 t0_7 t0_8 t0_9 t0_10 t1_0 t2_0 t3_0 t4_0 t5_0 t6_0 t7_0 lx45 j100 j88 lx107 j126 lx367 p431 f397 p492 fm) x2 x3 x4 x5 x6 t0_0 t0_1 t0_2 t0_3 t0_4 t0_5 t0_6 t0_7 t0_8 t0_9 t0_10 t1_0 t2_0 t3_0 t4_0 t5_0 t6_0 t7_0 lx45 j100 j88 lx107 j126 lx367 p431 f397 p492 lx512 lx513 lx514 lx515 lx516 lx517 lx518 lx519 lx520 lx521 lx522 lx523 lx524 lx525 ((t2_0 x2.toNatClampNeg : Int32).toInt64 : Int64) 0) else (F_DR_divide_J290 (F_DR_divide_L268 x2 x3 x4 x5 x6 t0_0 t0_1 t0_2 t0_3 t0_4 t0_5 t0_6 t0_7 t0_8 t0_9 t0_10 t1_0 t2_0 t3_0 t4_0 t5_0 t6_0 t7_0 lx45 j100 j88 lx107 j126 lx367 p431 f397 p492 fm) x2 x3 x4 x5 x6 t0_0 t0_1 t0_2 t0_3 t0_4 t0_5 t0_6 t0_7 t0_8 t0_9 t0_10 t1_0 t2_0 t3_0 t4_0 t5_0 t6_0 t7_0 lx45 j100 j88 lx107 j126 lx367 p431 f397 p492 lx512 lx513 lx514 lx515 lx516 lx517 lx518 lx519 lx520 lx521 lx522 lx523 lx524 lx525 ((t2_0 x2.toNatClampNeg : Int32).toInt64 : Int64) j88)
def F_DR_divide_c262 (x2 : Int32) (x3 : Int32) (x4 : Int32) (x5 : Int32) (x6 : Int32) (t0_0 : Int32) (t0_1 : Int32) (t0_2 : Int32) (t0_3 : Int64) (t0_4 : Int32) (t0_5 : Int32) (t0_6 : Int32) (t0_7 : Int32) (t0_8 : Int32) (t0_9 : Int32) (t0_10 : Int32) (t1_0 : (Nat → Int32)) (t2_0 : (Nat → Int32)) (t3_0 : (Nat → Int32)) (t4_0 : (Nat → Int32)) (t5_0 : (Nat → Int32)) (t6_0 : (Nat → Int32)) (t7_0 : (Nat → Int32)) (lx45 : Int32) (j100 : Int64) (j88 : Int64) (lx107 : Int32) (j126 : Int64) (lx367 : Int32) (p431 : (Int32 × Int32 × Int32 × Int64 × Int32 × Int32 × Int32 × Int32 × Int32 × Int32 × Int32 × (Nat → Int32))) (f397 : (Nat → Int32)) (p492 : (Int32 × Int32 × Int32 × Int64 × Int32 × Int32 × Int32 × Int32 × Int32 × Int32 × Int32 × (Nat → Int32))) : Int32 × Int32 × Int32 × Int64 × Int32 × Int32 × Int32 × Int32 × Int32 × Int32 × Int32 × (Nat → Int32) × (Nat → Int32) × (Nat → Int32) × (Nat → Int32) × (Nat → Int32) × (Nat → Int32) × (Nat → Int32) := F_DR_divide_L268 x2 x3 x4 x5 x6 t0_0 t0_1 t0_2 t0_3 t0_4 t0_5 t0_6 t0_7 t0_8 t0_9 t0_10 t1_0 t2_0 t3_0 t4_0 t5_0 t6_0 t7_0 lx45 j100 j88 lx107 j126 lx367 p431 f397 p492 1000000 0 (p492.1 : Int32) (p492.2.1 : Int32) (p492.2.2.1 : Int32) (p492.2.2.2.1 : Int64) (p492.2.2.2.2.1 : Int32) (p492.2.2.2.2.2.1 : Int32) (p492.2.2.2.2.2.2.1 : Int32) (p492.2.2.2.2.2.2.2.1 : Int32) (p492.2.2.2.2.2.2.2.2.1 : Int32) (p492.2.2.2.2.2.2.2.2.2.1 : Int32) (p492.2.2.2.2.2.2.2.2.2.2.1 : Int32) t5_0 (p492.2.2.2.2.2.2.2.2.2.2.2 : (Nat → Int32))
def F_DR_divide_c258 (x2 : Int32) (x3 : Int32) (x4 : Int32) (x5 : Int32) (x6 : Int32) (t0_0 : Int32) (t0_1 : Int32) (t0_2 : Int32) (t0_3 : Int64) (t0_4 : Int32) (t0_5 : Int32) (t0_6 : Int32) (t0_7 : Int32) (t0_8 : Int32) (t0_9 : Int32) (t0_10 : Int32) (t1_0 : (Nat → Int32)) (t2_0 : (Nat → Int32)) (t3_0 : (Nat → Int32)) (t4_0 : (Nat → Int32)) (t5_0 : (Nat → Int32)) (t6_0 : (Nat → Int32)) (t7_0 : (Nat → Int32)) (lx45 : Int32) (j100 : Int64) (j88 : Int64) (lx107 : Int32) (j126 : Int64) (lx367 : Int32) (p431 : (Int32 × Int32 × Int32 × Int64 × Int32 × Int32 × Int32 × Int32 × Int32 × Int32 × Int32 × (Nat → Int32))) : Int32 × Int32 × Int32 × Int64 × Int32 × Int32 × Int32 × Int32 × Int32 × Int32 × Int32 × (Nat → Int32) × (Nat → Int32) × (Nat → Int32) × (Nat → Int32) × (Nat → Int32) × (Nat → Int32) × (Nat → Int32) := F_DR_divide_c262 x2 x3 x4 x5 x6 t0_0 t0_1 t0_2 t0_3 t0_4 t0_5 t0_6 t0_7 t0_8 t0_9 t0_10 t1_0 t2_0 t3_0 t4_0 t5_0 t6_0 t7_0 lx45 j100 j88 lx107 j126 lx367 p431 (p431.2.2.2.2.2.2.2.2.2.2.2 : (Nat → Int32)) ((F_DR_beginQuotient (p431.1 : Int32) (p431.2.1 : Int32) (p431.2.2.1 : Int32) (p431.2.2.2.1 : Int64) (p431.2.2.2.2.1 : Int32) (p431.2.2.2.2.2.1 : Int32) (p431.2.2.2.2.2.2.1 : Int32) (p431.2.2.2.2.2.2.2.1 : Int32) (p431.2.2.2.2.2.2.2.2.1 : Int32) (p431.2.2.2.2.2.2.2.2.2.1 : Int32) (p431.2.2.2.2.2.2.2.2.2.2.1 : Int32) t7_0) : (Int32 × Int32 × Int32 × Int64 × Int32 × Int32 × Int32 × Int32 × Int32 × Int32 × Int32 × (Nat → Int32)))
def F_DR_divide_J258 (x2 : Int32) (x3 : Int32) (x4 : Int32) (x5 : Int32) (x6 : Int32) (t0_0 : Int32) (t0_1 : Int32) (t0_2 : Int32) (t0_3 : Int64) (t0_4 : Int32) (t0_5 : Int32) (t0_6 : Int32) (t0_7 : Int32) (t0_8 : Int32) (t0_9 : Int32) (t0_10 : Int32) (t1_0 : (Nat → Int32)) (t2_0 : (Nat → Int32)) (t3_0 : (Nat → Int32)) (t4_0 : (Nat → Int32)) (t5_0 : (Nat → Int32)) (t6_0 : (Nat → Int32)) (t7_0 : (Nat → Int32)) (lx45 : Int32) (j100 : Int64) (j88 : Int64) (lx107 : Int32) (j126 : Int64) (lx367 : Int32) : Int32 × Int32 × Int32 × Int64 × Int32 × Int32 × Int32 × Int32 × Int32 × Int32 × Int32 × (Nat → Int32) × (Nat → Int32) × (Nat → Int32) × (Nat → Int32) × (Nat → Int32) × (Nat → Int32) × (Nat → Int32) := F_DR_divide_c258 x2 x3 x4 x5 x6 t0_0 t0_1 t0_2 t0_3 t0_4 t0_5 t0_6 t0_7 t0_8 t0_9 t0_10 t1_0 t2_0 t3_0 t4_0 t5_0 t6_0 t7_0 lx45 j100 j88 lx107 j126 lx367 ((F_DR_loadUnder x3 lx367 lx45 t0_1 (0 : Int32) j126 (0 : Int32) lx107 t0_6 t0_7 t0_8 t0_9 (2 : Int32) t1_0 t2_0 t6_0) : (Int32 × Int32 × Int32 × Int64 × Int32 × Int32 × Int32 × Int32 × Int32 × Int32 × Int32 × (Nat → Int32)))
def F_DR_divide_J183 (x2 : Int32) (x3 : Int32) (x4 : Int32) (x5 : Int32) (x6 : Int32) (t0_0 : Int32) (t0_1 : Int32) (t0_2 : Int32) (t0_3 : Int64) (t0_4 : Int32) (t0_5 : Int32) (t0_6 : Int32) (t0_7 : Int32) (t0_8 : Int32) (t0_9 : Int32) (t0_10 : Int32) (t1_0 : (Nat → Int32)) (t2_0 : (Nat → Int32)) (t3_0 : (Nat → Int32)) (t4_0 : (Nat → Int32)) (t5_0 : (Nat → Int32)) (t6_0 : (Nat → Int32)) (t7_0 : (Nat → Int32)) (lx45 : Int32) (j100 : Int64) (j88 : Int64) (lx107 : Int32) (j126 : Int64) : Int32 × Int32 × Int32 × Int64 × Int32 × Int32 × Int32 × Int32 × Int32 × Int32 × Int32 × (Nat → Int32) × (Nat → Int32) × (Nat → Int32) × (Nat → Int32) × (Nat → Int32) × (Nat → Int32) × (Nat → Int32) := if ((F_DR_isZero x2 lx45 t0_1 (0 : Int32) j126 (0 : Int32) lx107 t0_6 t0_7 t0_8 t0_9 (2 : Int32) t1_0) : Int32) = (0 : Int32) then (if (0 : Int32) ≤ (lg_cmp j100 (-1) : Int32) then (if (0 : Int32) ≤ (lg_cmp j88 0 : Int32) then (F_DR_divide_J258 x2 x3 x4 x5 x6 t0_0 t0_1 t0_2 t0_3 t0_4 t0_5 t0_6 t0_7 t0_8 t0_9 t0_10 t1_0 t2_0 t3_0 t4_0 t5_0 t6_0 t7_0 lx45 j100 j88 lx107 j126 0) else (F_DR_divide_J258 x2 x3 x4 x5 x6 t0_0 t0_1 t0_2 t0_3 t0_4 t0_5 t0_6 t0_7 t0_8 t0_9 t0_10 t1_0 t2_0 t3_0 t4_0 t5_0 t6_0 t7_0 lx45 j100 j88 lx107 j126 ((-j88 : Int64).toInt32 : Int32))) else (F_DR_divide_J200 x2 x3 x4 x5 x6 t0_0 t0_1 t0_2 t0_3 t0_4 t0_5 t0_6 t0_7 t0_8 t0_9 t0_10 t1_0 t2_0 t3_0 t4_0 t5_0 t6_0 t7_0 lx45 j100 j88 lx107 j126)) else (F_DR_divide_J200 x2 x3 x4 x5 x6 t0_0 t0_1 t0_2 t0_3 t0_4 t0_5 t0_6 t0_7 t0_8 t0_9 t0_10 t1_0 t2_0 t3_0 t4_0 t5_0 t6_0 t7_0 lx45 j100 j88 lx107 j126)
def F_DR_divide_J140 (x2 : Int32) (x3 : Int32) (x4 : Int32) (x5 : Int32) (x6 : Int32) (t0_0 : Int32) (t0_1 : Int32) (t0_2 : Int32) (t0_3 : Int64) (t0_4 : Int32) (t0_5 : Int32) (t0_6 : Int32) (t0_7 : Int32) (t0_8 : Int32) (t0_9 : Int32) (t0_10 : Int32) (t1_0 : (Nat → Int32)) (t2_0 : (Nat → Int32)) (t3_0 : (Nat → Int32)) (t4_0 : (Nat → Int32)) (t5_0 : (Nat → Int32)) (t6_0 : (Nat → Int32)) (t7_0 : (Nat → Int32)) (lx45 : Int32) (j100 : Int64) (j88 : Int64) (lx107 : Int32) : Int32 × Int32 × Int32 × Int64 × Int32 × Int32 × Int32 × Int32 × Int32 × Int32 × Int32 × (Nat → Int32) × (Nat → Int32) × (Nat → Int32) × (Nat → Int32) × (Nat → Int32) × (Nat → Int32) × (Nat → Int32) := if ((F_DR_isZero x2 lx45 t0_1 (0 : Int32) (x5.toInt64 : Int64) (0 : Int32) lx107 t0_6 t0_7 t0_8 t0_9 (2 : Int32) t1_0) : Int32) = (0 : Int32) then (if (lg_cmp j100 1000 : Int32) ≤ (0 : Int32) then (F_DR_divide_J183 x2 x3 x4 x5 x6 t0_0 t0_1 t0_2 t0_3 t0_4 t0_5 t0_6 t0_7 t0_8 t0_9 t0_10 t1_0 t2_0 t3_0 t4_0 t5_0 t6_0 t7_0 lx45 j100 j88 lx107 (x5.toInt64 : Int64)) else (((2 : Int32), t0_1, (0 : Int32), (x5.toInt64 : Int64), (0 : Int32), lx107, t0_6, t0_7, t0_8, t0_9, (2 : Int32), t1_0, t2_0, t3_0, t4_0, t5_0, t6_0, t7_0))) else (F_DR_divide_J183 x2 x3 x4 x5 x6 t0_0 t0_1 t0_2 t0_3 t0_4 t0_5 t0_6 t0_7 t0_8 t0_9 t0_10 t1_0 t2_0 t3_0 t4_0 t5_0 t6_0 t7_0 lx45 j100 j88 lx107 (x5.toInt64 : Int64))
def F_DR_divide_J63 (x2 : Int32) (x3 : Int32) (x4 : Int32) (x5 : Int32) (x6 : Int32) (t0_0 : Int32) (t0_1 : Int32) (t0_2 : Int32) (t0_3 : Int64) (t0_4 : Int32) (t0_5 : Int32) (t0_6 : Int32) (t0_7 : Int32) (t0_8 : Int32) (t0_9 : Int32) (t0_10 : Int32) (t1_0 : (Nat → Int32)) (t2_0 : (Nat → Int32)) (t3_0 : (Nat → Int32)) (t4_0 : (Nat → Int32)) (t5_0 : (Nat → Int32)) (t6_0 : (Nat → Int32)) (t7_0 : (Nat → Int32)) (lx45 : Int32) : Int32 × Int32 × Int32 × Int64 × Int32 × Int32 × Int32 × Int32 × Int32 × Int32 × Int32 × (Nat → Int32) × (Nat → Int32) × (Nat → Int32) × (Nat → Int32) × (Nat → Int32) × (Nat → Int32) × (Nat → Int32) := if lx45 ≤ (0 : Int32) then (if (t3_0 x2.toNatClampNeg : Int32) = (t3_0 x3.toNatClampNeg : Int32) then (F_DR_divide_J140 x2 x3 x4 x5 x6 t0_0 t0_1 t0_2 t0_3 t0_4 t0_5 t0_6 t0_7 t0_8 t0_9 t0_10 t1_0 t2_0 t3_0 t4_0 t5_0 t6_0 t7_0 lx45 ((((t2_0 x2.toNatClampNeg : Int32) - (t2_0 x3.toNatClampNeg : Int32) : Int32).toInt64 : Int64) + (((x5.toInt64 : Int64) + ((t4_0 x3.toNatClampNeg : Int32).toInt64 : Int64) : Int64) - ((t4_0 x2.toNatClampNeg : Int32).toInt64 : Int64) : Int64) : Int64) (((x5.toInt64 : Int64) + ((t4_0 x3.toNatClampNeg : Int32).toInt64 : Int64) : Int64) - ((t4_0 x2.toNatClampNeg : Int32).toInt64 : Int64) : Int64) 0) else (F_DR_divide_J140 x2 x3 x4 x5 x6 t0_0 t0_1 t0_2 t0_3 t0_4 t0_5 t0_6 t0_7 t0_8 t0_9 t0_10 t1_0 t2_0 t3_0 t4_0 t5_0 t6_0 t7_0 lx45 ((((t2_0 x2.toNatClampNeg : Int32) - (t2_0 x3.toNatClampNeg : Int32) : Int32).toInt64 : Int64) + (((x5.toInt64 : Int64) + ((t4_0 x3.toNatClampNeg : Int32).toInt64 : Int64) : Int64) - ((t4_0 x2.toNatClampNeg : Int32).toInt64 : Int64) : Int64) : Int64) (((x5.toInt64 : Int64) + ((t4_0 x3.toNatClampNeg : Int32).toInt64 : Int64) : Int64) - ((t4_0 x2.toNatClampNeg : Int32).toInt64 : Int64) : Int64) 1)) else ((lx45, t0_1, t0_2, t0_3, t0_4, t0_5, t0_6, t0_7, t0_8, t0_9, t0_10, t1_0, t2_0, t3_0, t4_0, t5_0, t6_0, t7_0))
def F_DR_divide_J46 (x2 : Int32) (x3 : Int32) (x4 : Int32) (x5 : Int32) (x6 : Int32) (t0_0 : Int32) (t0_1 : Int32) (t0_2 : Int32) (t0_3 : Int64) (t0_4 : Int32) (t0_5 : Int32) (t0_6 : Int32) (t0_7 : Int32) (t0_8 : Int32) (t0_9 : Int32) (t0_10 : Int32) (t1_0 : (Nat → Int32)) (t2_0 : (Nat → Int32)) (t3_0 : (Nat → Int32)) (t4_0 : (Nat → Int32)) (t5_0 : (Nat → Int32)) (t6_0 : (Nat → Int32)) (t7_0 : (Nat → Int32)) : Int32 × Int32 × Int32 × Int64 × Int32 × Int32 × Int32 × Int32 × Int32 × Int32 × Int32 × (Nat → Int32) × (Nat → Int32) × (Nat → Int32) × (Nat → Int32) × (Nat → Int32) × (Nat → Int32) × (Nat → Int32) := F_DR_divide_J63 x2 x3 x4 x5 x6 t0_0 t0_1 t0_2 t0_3 t0_4 t0_5 t0_6 t0_7 t0_8 t0_9 t0_10 t1_0 t2_0 t3_0 t4_0 t5_0 t6_0 t7_0 1
def F_DR_divide (x2 : Int32) (x3 : Int32) (x4 : Int32) (x5 : Int32) (x6 : Int32) (t0_0 : Int32) (t0_1 : Int32) (t0_2 : Int32) (t0_3 : Int64) (t0_4 : Int32) (t0_5 : Int32) (t0_6 : Int32) (t0_7 : Int32) (t0_8 : Int32) (t0_9 : Int32) (t0_10 : Int32) (t1_0 : (Nat → Int32)) (t2_0 : (Nat → Int32)) (t3_0 : (Nat → Int32)) (t4_0 : (Nat → Int32)) (t5_0 : (Nat → Int32)) (t6_0 : (Nat → Int32)) (t7_0 : (Nat → Int32)) : Int32 × Int32 × Int32 × Int64 × Int32 × Int32 × Int32 × Int32 × Int32 × Int32 × Int32 × (Nat → Int32) × (Nat → Int32) × (Nat → Int32) × (Nat → Int32) × (Nat → Int32) × (Nat → Int32) × (Nat → Int32) := if ((F_DR_no x2) : Int32) = (0 : Int32) then (if ((F_DR_no x3) : Int32) = (0 : Int32) then (if ((F_DR_no x4) : Int32) = (0 : Int32) then (if ((F_DR_noMode x6) : Int32) = (0 : Int32) then (if x5 < (-10000 : Int32) then (F_DR_divide_J46 x2 x3 x4 x5 x6 t0_0 t0_1 t0_2 t0_3 t0_4 t0_5 t0_6 t0_7 t0_8 t0_9 t0_10 t1_0 t2_0 t3_0 t4_0 t5_0 t6_0 t7_0) else (if x5 ≤ (10000 : Int32) then (if ((F_DR_isZero x3 t0_0 t0_1 t0_2 t0_3 t0_4 t0_5 t0_6 t0_7 t0_8 t0_9 t0_10 t1_0) : Int32) = (0 : Int32) then (F_DR_divide_J63 x2 x3 x4 x5 x6 t0_0 t0_1 t0_2 t0_3 t0_4 t0_5 t0_6 t0_7 t0_8 t0_9 t0_10 t1_0 t2_0 t3_0 t4_0 t5_0 t6_0 t7_0 0) else (F_DR_divide_J63 x2 x3 x4 x5 x6 t0_0 t0_1 t0_2 t0_3 t0_4 t0_5 t0_6 t0_7 t0_8 t0_9 t0_10 t1_0 t2_0 t3_0 t4_0 t5_0 t6_0 t7_0 2)) else (F_DR_divide_J46 x2 x3 x4 x5 x6 t0_0 t0_1 t0_2 t0_3 t0_4 t0_5 t0_6 t0_7 t0_8 t0_9 t0_10 t1_0 t2_0 t3_0 t4_0 t5_0 t6_0 t7_0))) else (F_DR_divide_J46 x2 x3 x4 x5 x6 t0_0 t0_1 t0_2 t0_3 t0_4 t0_5 t0_6 t0_7 t0_8 t0_9 t0_10 t1_0 t2_0 t3_0 t4_0 t5_0 t6_0 t7_0)) else (F_DR_divide_J46 x2 x3 x4 x5 x6 t0_0 t0_1 t0_2 t0_3 t0_4 t0_5 t0_6 t0_7 t0_8 t0_9 t0_10 t1_0 t2_0 t3_0 t4_0 t5_0 t6_0 t7_0)) else (F_DR_divide_J46 x2 x3 x4 x5 x6 t0_0 t0_1 t0_2 t0_3 t0_4 t0_5 t0_6 t0_7 t0_8 t0_9 t0_10 t1_0 t2_0 t3_0 t4_0 t5_0 t6_0 t7_0)) else (F_DR_divide_J46 x2 x3 x4 x5 x6 t0_0 t0_1 t0_2 t0_3 t0_4 t0_5 t0_6 t0_7 t0_8 t0_9 t0_10 t1_0 t2_0 t3_0 t4_0 t5_0 t6_0 t7_0)
def S_DR_divide_c405 (x2 : Int32) (x3 : Int32) (x4 : Int32) (x5 : Int32) (x6 : Int32) (t0_0 : Int32) (t0_1 : Int32) (t0_2 : Int32) (t0_3 : Int64) (t0_4 : Int32) (t0_5 : Int32) (t0_6 : Int32) (t0_7 : Int32) (t0_8 : Int32) (t0_9 : Int32) (t0_10 : Int32) (t1_0 : (Nat → Int32)) (t2_0 : (Nat → Int32)) (t3_0 : (Nat → Int32)) (t4_0 : (Nat → Int32)) (t5_0 : (Nat → Int32)) (t6_0 : (Nat → Int32)) (t7_0 : (Nat → Int32)) (lx45 : Int32) (j100 : Int64) (j88 : Int64) (lx107 : Int32) (j126 : Int64) (lx187 : Int32) (p258 : (Int32 × Int32 × Int32 × Int32 × Int64 × Int32 × Int32 × Int32 × Int32 × Int32 × Int32 × Int32 × (Nat → Int32))) (p330 : (Int32 × Int32 × Int32 × Int64 × Int32 × Int32 × Int32 × Int32 × Int32 × Int32 × Int32 × (Nat → Int32) × (Nat → Int32) × (Nat → Int32) × (Nat → Int32) × (Nat → Int32))) : Prop := True
def S_DR_divide_c397 (x2 : Int32) (x3 : Int32) (x4 : Int32) (x5 : Int32) (x6 : Int32) (t0_0 : Int32) (t0_1 : Int32) (t0_2 : Int32) (t0_3 : Int64) (t0_4 : Int32) (t0_5 : Int32) (t0_6 : Int32) (t0_7 : Int32) (t0_8 : Int32) (t0_9 : Int32) (t0_10 : Int32) (t1_0 : (Nat → Int32)) (t2_0 : (Nat → Int32)) (t3_0 : (Nat → Int32)) (t4_0 : (Nat → Int32)) (t5_0 : (Nat → Int32)) (t6_0 : (Nat → Int32)) (t7_0 : (Nat → Int32)) (lx45 : Int32) (j100 : Int64) (j88 : Int64) (lx107 : Int32) (j126 : Int64) (lx187 : Int32) (p258 : (Int32 × Int32 × Int32 × Int32 × Int64 × Int32 × Int32 × Int32 × Int32 × Int32 × Int32 × Int32 × (Nat → Int32))) : Prop := if (p258.1 : Int32) = (0 : Int32) then (True) else ((True ∧ S_DR_store x4 (p258.2.1 : Int32) (p258.2.2.1 : Int32) (p258.2.2.2.1 : Int32) (p258.2.2.2.2.1 : Int64) (p258.2.2.2.2.2.1 : Int32) (p258.2.2.2.2.2.2.1 : Int32) (p258.2.2.2.2.2.2.2.1 : Int32) (p258.2.2.2.2.2.2.2.2.1 : Int32) (p258.2.2.2.2.2.2.2.2.2.1 : Int32) (p258.2.2.2.2.2.2.2.2.2.2.1 : Int32) (p258.2.2.2.2.2.2.2.2.2.2.2.1 : Int32) t1_0 t2_0 t3_0 t4_0 (p258.2.2.2.2.2.2.2.2.2.2.2.2 : (Nat → Int32))) ∧ (S_DR_divide_c405 x2 x3 x4 x5 x6 t0_0 t0_1 t0_2 t0_3 t0_4 t0_5 t0_6 t0_7 t0_8 t0_9 t0_10 t1_0 t2_0 t3_0 t4_0 t5_0 t6_0 t7_0 lx45 j100 j88 lx107 j126 lx187 p258 ((F_DR_store x4 (p258.2.1 : Int32) (p258.2.2.1 : Int32) (p258.2.2.2.1 : Int32) (p258.2.2.2.2.1 : Int64) (p258.2.2.2.2.2.1 : Int32) (p258.2.2.2.2.2.2.1 : Int32) (p258.2.2.2.2.2.2.2.1 : Int32) (p258.2.2.2.2.2.2.2.2.1 : Int32) (p258.2.2.2.2.2.2.2.2.2.1 : Int32) (p258.2.2.2.2.2.2.2.2.2.2.1 : Int32) (p258.2.2.2.2.2.2.2.2.2.2.2.1 : Int32) t1_0 t2_0 t3_0 t4_0 (p258.2.2.2.2.2.2.2.2.2.2.2.2 : (Nat → Int32))) : (Int32 × Int32 × Int32 × Int64 × Int32 × Int32 × Int32 × Int32 × Int32 × Int32 × Int32 × (Nat → Int32) × (Nat → Int32) × (Nat → Int32) × (Nat → Int32) × (Nat → Int32)))))
def S_DR_divide_J214 (x2 : Int32) (x3 : Int32) (x4 : Int32) (x5 : Int32) (x6 : Int32) (t0_0 : Int32) (t0_1 : Int32) (t0_2 : Int32) (t0_3 : Int64) (t0_4 : Int32) (t0_5 : Int32) (t0_6 : Int32) (t0_7 : Int32) (t0_8 : Int32) (t0_9 : Int32) (t0_10 : Int32) (t1_0 : (Nat → Int32)) (t2_0 : (Nat → Int32)) (t3_0 : (Nat → Int32)) (t4_0 : (Nat → Int32)) (t5_0 : (Nat → Int32)) (t6_0 : (Nat → Int32)) (t7_0 : (Nat → Int32)) (lx45 : Int32) (j100 : Int64) (j88 : Int64) (lx107 : Int32) (j126 : Int64) (lx187 : Int32) : Prop := (True ∧ S_DR_cut (0 : Int32) x6 lx45 t0_1 (1 : Int32) ((x5.toInt64 : Int64) + 1 : Int64) lx187 lx107 t0_6 t0_7 t0_8 t0_9 (2 : Int32) (upd t5_0 (0 : Int32).toNatClampNeg 0 : (Nat → Int32))) ∧ (S_DR_divide_c397 x2 x3 x4 x5 x6 t0_0 t0_1 t0_2 t0_3 t0_4 t0_5 t0_6 t0_7 t0_8 t0_9 t0_10 t1_0 t2_0 t3_0 t4_0 t5_0 t6_0 t7_0 lx45 j100 j88 lx107 j126 lx187 ((F_DR_cut (0 : Int32) x6 lx45 t0_1 (1 : Int32) ((x5.toInt64 : Int64) + 1 : Int64) lx187 lx107 t0_6 t0_7 t0_8 t0_9 (2 : Int32) (upd t5_0 (0 : Int32).toNatClampNeg 0 : (Nat → Int32))) : (Int32 × Int32 × Int32 × Int32 × Int64 × Int32 × Int32 × Int32 × Int32 × Int32 × Int32 × Int32 × (Nat → Int32))))
def S_DR_divide_J200 (x2 : Int32) (x3 : Int32) (x4 : Int32) (x5 : Int32) (x6 : Int32) (t0_0 : Int32) (t0_1 : Int32) (t0_2 : Int32) (t0_3 : Int64) (t0_4 : Int32) (t0_5 : Int32) (t0_6 : Int32) (t0_7 : Int32) (t0_8 : Int32) (t0_9 : Int32) (t0_10 : Int32) (t1_0 : (Nat → Int32)) (t2_0 : (Nat → Int32)) (t3_0 : (Nat → Int32)) (t4_0 : (Nat → Int32)) (t5_0 : (Nat → Int32)) (t6_0 : (Nat → Int32)) (t7_0 : (Nat → Int32)) (lx45 : Int32) (j100 : Int64) (j88 : Int64) (lx107 : Int32) (j126 : Int64) : Prop := (True ∧ S_DR_isZero x2 lx45 t0_1 (0 : Int32) j126 (0 : Int32) lx107 t0_6 t0_7 t0_8 t0_9 (2 : Int32) t1_0) ∧ (if ((F_DR_isZero x2 lx45 t0_1 (0 : Int32) j126 (0 : Int32) lx107 t0_6 t0_7 t0_8 t0_9 (2 : Int32) t1_0) : Int32) = (0 : Int32) then (S_DR_divide_J214 x2 x3 x4 x5 x6 t0_0 t0_1 t0_2 t0_3 t0_4 t0_5 t0_6 t0_7 t0_8 t0_9 t0_10 t1_0 t2_0 t3_0 t4_0 t5_0 t6_0 t7_0 lx45 j100 j88 lx107 j126 1) else (S_DR_divide_J214 x2 x3 x4 x5 x6 t0_0 t0_1 t0_2 t0_3 t0_4 t0_5 t0_6 t0_7 t0_8 t0_9 t0_10 t1_0 t2_0 t3_0 t4_0 t5_0 t6_0 t7_0 lx45 j100 j88 lx107 j126 0))
def S_DR_divide_c405_16 (K_S_DR_divide_L268 : Int64 → Int32 → Int32 → Int32 → Int64 → Int32 → Int32 → Int32 → Int32 → Int32 → Int32 → Int32 → (Nat → Int32) → (Nat → Int32) → Prop) (x2 : Int32) (x3 : Int32) (x4 : Int32) (x5 : Int32) (x6 : Int32) (t0_0 : Int32) (t0_1 : Int32) (t0_2 : Int32) (t0_3 : Int64) (t0_4 : Int32) (t0_5 : Int32) (t0_6 : Int32) (t0_7 : Int32) (t0_8 : Int32) (t0_9 : Int32) (t0_10 : Int32) (t1_0 : (Nat → Int32)) (t2_0 : (Nat → Int32)) (t3_0 : (Nat → Int32)) (t4_0 : (Nat → Int32)) (t5_0 : (Nat → Int32)) (t6_0 : (Nat → Int32)) (t7_0 : (Nat → Int32)) (lx45 : Int32) (j100 : Int64) (j88 : Int64) (lx107 : Int32) (j126 : Int64) (lx367 : Int32) (p431 : (Int32 × Int32 × Int32 × Int64 × Int32 × Int32 × Int32 × Int32 × Int32 × Int32 × Int32 × (Nat → Int32))) (f397 : (Nat → Int32)) (p492 : (Int32 × Int32 × Int32 × Int64 × Int32 × Int32 × Int32 × Int32 × Int32 × Int32 × Int32 × (Nat → Int32))) (lx512 : Int64) (lx513 : Int32) (lx514 : Int32) (lx515 : Int32) (lx516 : Int64) (lx517 : Int32) (lx518 : Int32) (lx519 : Int32) (lx520 : Int32) (lx521 : Int32) (lx522 : Int32) (lx523 : Int32) (lx524 : (Nat → Int32)) (lx525 : (Nat → Int32)) (j573 : Int64) (lx579 : Int64) (p613 : (Int32 × (Nat → Int32))) (f609 : (Nat → Int32)) (p668 : (Int32 × Int32 × Int32 × Int64 × Int32 × Int32 × Int32 × Int32 × Int32 × Int32 × Int32 × (Nat → Int32))) (p750 : (Int32 × Int32 × Int32 × Int32 × Int64 × Int32 × Int32 × Int32 × Int32 × Int32 × Int32 × Int32 × (Nat → Int32))) (p822 : (Int32 × Int32 × Int32 × Int64 × Int32 × Int32 × Int32 × Int32 × Int32 × Int32 × Int32 × (Nat → Int32) × (Nat → Int32) × (Nat → Int32) × (Nat → Int32) × (Nat → Int32))) : Prop := True
def S_DR_divide_c397_15 (K_S_DR_divide_L268 : Int64 → Int32 → Int32 → Int32 → Int64 → Int32 → Int32 → Int32 → Int32 → Int32 → Int32 → Int32 → (Nat → Int32) → (Nat → Int32) → Prop) (x2 : Int32) (x3 : Int32) (x4 : Int32) (x5 : Int32) (x6 : Int32) (t0_0 : Int32) (t0_1 : Int32) (t0_2 : Int32) (t0_3 : Int64) (t0_4 : Int32) (t0_5 : Int32) (t0_6 : Int32) (t0_7 : Int32) (t0_8 : Int32) (t0_9 : Int32) (t0_10 : Int32) (t1_0 : (Nat → Int32)) (t2_0 : (Nat → Int32)) (t3_0 : (Nat → Int32)) (t4_0 : (Nat → Int32)) (t5_0 : (Nat → Int32)) (t6_0 : (Nat → Int32)) (t7_0 : (Nat → Int32)) (lx45 : Int32) (j100 : Int64) (j88 : Int64) (lx107 : Int32) (j126 : Int64) (lx367 : Int32) (p431 : (Int32 × Int32 × Int32 × Int64 × Int32 × Int32 × Int32 × Int32 × Int32 × Int32 × Int32 × (Nat → Int32))) (f397 : (Nat → Int32)) (p492 : (Int32 × Int32 × Int32 × Int64 × Int32 × Int32 × Int32 × Int32 × Int32 × Int32 × Int32 × (Nat → Int32))) (lx512 : Int64) (lx513 : Int32) (lx514 : Int32) (lx515 : Int32) (lx516 : Int64) (lx517 : Int32) (lx518 : Int32) (lx519 : Int32) (lx520 : Int32) (lx521 : Int32) (lx522 : Int32) (lx523 : Int32) (lx524 : (Nat → Int32)) (lx525 : (Nat → Int32)) (j573 : Int64) (lx579 : Int64) (p613 : (Int32 × (Nat → Int32))) (f609 : (Nat → Int32)) (p668 : (Int32 × Int32 × Int32 × Int64 × Int32 × Int32 × Int32 × Int32 × Int32 × Int32 × Int32 × (Nat → Int32))) (p750 : (Int32 × Int32 × Int32 × Int32 × Int64 × Int32 × Int32 × Int32 × Int32 × Int32 × Int32 × Int32 × (Nat → Int32))) : Prop := if (p750.1 : Int32) = (0 : Int32) then (True) else ((True ∧ S_DR_store x4 (p750.2.1 : Int32) (p750.2.2.1 : Int32) (p750.2.2.2.1 : Int32) (p750.2.2.2.2.1 : Int64) (p750.2.2.2.2.2.1 : Int32) (p750.2.2.2.2.2.2.1 : Int32) (p750.2.2.2.2.2.2.2.1 : Int32) (p750.2.2.2.2.2.2.2.2.1 : Int32) (p750.2.2.2.2.2.2.2.2.2.1 : Int32) (p750.2.2.2.2.2.2.2.2.2.2.1 : Int32) (p750.2.2.2.2.2.2.2.2.2.2.2.1 : Int32) t1_0 t2_0 t3_0 t4_0 (p750.2.2.2.2.2.2.2.2.2.2.2.2 : (Nat → Int32))) ∧ (S_DR_divide_c405_16 K_S_DR_divide_L268 x2 x3 x4 x5 x6 t0_0 t0_1 t0_2 t0_3 t0_4 t0_5 t0_6 t0_7 t0_8 t0_9 t0_10 t1_0 t2_0 t3_0 t4_0 t5_0 t6_0 t7_0 lx45 j100 j88 lx107 j126 lx367 p431 f397 p492 lx512 lx513 lx514 lx515 lx516 lx517 lx518 lx519 lx520 lx521 lx522 lx523 lx524 lx525 j573 lx579 p613 f609 p668 p750 ((F_DR_store x4 (p750.2.1 : Int32) (p750.2.2.1 : Int32) (p750.2.2.2.1 : Int32) (p750.2.2.2.2.1 : Int64) (p750.2.2.2.2.2.1 : Int32) (p750.2.2.2.2.2.2.1 : Int32) (p750.2.2.2.2.2.2.2.1 : Int32) (p750.2.2.2.2.2.2.2.2.1 : Int32) (p750.2.2.2.2.2.2.2.2.2.1 : Int32) (p750.2.2.2.2.2.2.2.2.2.2.1 : Int32) (p750.2.2.2.2.2.2.2.2.2.2.2.1 : Int32) t1_0 t2_0 t3_0 t4_0 (p750.2.2.2.2.2.2.2.2.2.2.2.2 : (Nat → Int32))) : (Int32 × Int32 × Int32 × Int64 × Int32 × Int32 × Int32 × Int32 × Int32 × Int32 × Int32 × (Nat → Int32) × (Nat → Int32) × (Nat → Int32) × (Nat → Int32) × (Nat → Int32)))))
def S_DR_divide_c405_18 (K_S_DR_divide_L268 : Int64 → Int32 → Int32 → Int32 → Int64 → Int32 → Int32 → Int32 → Int32 → Int32 → Int32 → Int32 → (Nat → Int32) → (Nat → Int32) → Prop) (x2 : Int32) (x3 : Int32) (x4 : Int32) (x5 : Int32) (x6 : Int32) (t0_0 : Int32) (t0_1 : Int32) (t0_2 : Int32) (t0_3 : Int64) (t0_4 : Int32) (t0_5 : Int32) (t0_6 : Int32) (t0_7 : Int32) (t0_8 : Int32) (t0_9 : Int32) (t0_10 : Int32) (t1_0 : (Nat → Int32)) (t2_0 : (Nat → Int32)) (t3_0 : (Nat → Int32)) (t4_0 : (Nat → Int32)) (t5_0 : (Nat → Int32)) (t6_0 : (Nat → Int32)) (t7_0 : (Nat → Int32)) (lx45 : Int32) (j100 : Int64) (j88 : Int64) (lx107 : Int32) (j126 : Int64) (lx367 : Int32) (p431 : (Int32 × Int32 × Int32 × Int64 × Int32 × Int32 × Int32 × Int32 × Int32 × Int32 × Int32 × (Nat → Int32))) (f397 : (Nat → Int32)) (p492 : (Int32 × Int32 × Int32 × Int64 × Int32 × Int32 × Int32 × Int32 × Int32 × Int32 × Int32 × (Nat → Int32))) (lx512 : Int64) (lx513 : Int32) (lx514 : Int32) (lx515 : Int32) (lx516 : Int64) (lx517 : Int32) (lx518 : Int32) (lx519 : Int32) (lx520 : Int32) (lx521 : Int32) (lx522 : Int32) (lx523 : Int32) (lx524 : (Nat → Int32)) (lx525 : (Nat → Int32)) (j573 : Int64) (lx579 : Int64) (p613 : (Int32 × (Nat → Int32))) (f609 : (Nat → Int32)) (p668 : (Int32 × Int32 × Int32 × Int64 × Int32 × Int32 × Int32 × Int32 × Int32 × Int32 × Int32 × (Nat → Int32))) (p890 : (Int32 × Int32 × Int32 × Int32 × Int64 × Int32 × Int32 × Int32 × Int32 × Int32 × Int32 × Int32 × (Nat → Int32))) (p962 : (Int32 × Int32 × Int32 × Int64 × Int32 × Int32 × Int32 × Int32 × Int32 × Int32 × Int32 × (Nat → Int32) × (Nat → Int32) × (Nat → Int32) × (Nat → Int32) × (Nat → Int32))) : Prop := True
def S_DR_divide_c397_17 (K_S_DR_divide_L268 : Int64 → Int32 → Int32 → Int32 → Int64 → Int32 → Int32 → Int32 → Int32 → Int32 → Int32 → Int32 → (Nat → Int32) → (Nat → Int32) → Prop) (x2 : Int32) (x3 : Int32) (x4 : Int32) (x5 : Int32) (x6 : Int32) (t0_0 : Int32) (t0_1 : Int32) (t0_2 : Int32) (t0_3 : Int64) (t0_4 : Int32) (t0_5 : Int32) (t0_6 : Int32) (t0_7 : Int32) (t0_8 : Int32) (t0_9 : Int32) (t0_10 : Int32) (t1_0 : (Nat → Int32)) (t2_0 : (Nat → Int32)) (t3_0 : (Nat → Int32)) (t4_0 : (Nat → Int32)) (t5_0 : (Nat → Int32)) (t6_0 : (Nat → Int32)) (t7_0 : (Nat → Int32)) (lx45 : Int32) (j100 : Int64) (j88 : Int64) (lx107 : Int32) (j126 : Int64) (lx367 : Int32) (p431 : (Int32 × Int32 × Int32 × Int64 × Int32 × Int32 × Int32 × Int32 × Int32 × Int32 × Int32 × (Nat → Int32))) (f397 : (Nat → Int32)) (p492 : (Int32 × Int32 × Int32 × Int64 × Int32 × Int32 × Int32 × Int32 × Int32 × Int32 × Int32 × (Nat → Int32))) (lx512 : Int64) (lx513 : Int32) (lx514 : Int32) (lx515 : Int32) (lx516 : Int64) (lx517 : Int32) (lx518 : Int32) (lx519 : Int32) (lx520 : Int32) (lx521 : Int32) (lx522 : Int32) (lx523 : Int32) (lx524 : (Nat → Int32)) (lx525 : (Nat → Int32)) (j573 : Int64) (lx579 : Int64) (p613 : (Int32 × (Nat → Int32))) (f609 : (Nat → Int32)) (p668 : (Int32 × Int32 × Int32 × Int64 × Int32 × Int32 × Int32 × Int32 × Int32 × Int32 × Int32 × (Nat → Int32))) (p890 : (Int32 × Int32 × Int32 × Int32 × Int64 × Int32 × Int32 × Int32 × Int32 × Int32 × Int32 × Int32 × (Nat → Int32))) : Prop := if (p890.1 : Int32) = (0 : Int32) then (True) else ((True ∧ S_DR_store x4 (p890.2.1 : Int32) (p890.2.2.1 : Int32) (p890.2.2.2.1 : Int32) (p890.2.2.2.2.1 : Int64) (p890.2.2.2.2.2.1 : Int32) (p890.2.2.2.2.2.2.1 : Int32) (p890.2.2.2.2.2.2.2.1 : Int32) (p890.2.2.2.2.2.2.2.2.1 : Int32) (p890.2.2.2.2.2.2.2.2.2.1 : Int32) (p890.2.2.2.2.2.2.2.2.2.2.1 : Int32) (p890.2.2.2.2.2.2.2.2.2.2.2.1 : Int32) t1_0 t2_0 t3_0 t4_0 (p890.2.2.2.2.2.2.2.2.2.2.2.2 : (Nat → Int32))) ∧ (S_DR_divide_c405_18 K_S_DR_divide_L268 x2 x3 x4 x5 x6 t0_0 t0_1 t0_2 t0_3 t0_4 t0_5 t0_6 t0_7 t0_8 t0_9 t0_10 t1_0 t2_0 t3_0 t4_0 t5_0 t6_0 t7_0 lx45 j100 j88 lx107 j126 lx367 p431 f397 p492 lx512 lx513 lx514 lx515 lx516 lx517 lx518 lx519 lx520 lx521 lx522 lx523 lx524 lx525 j573 lx579 p613 f609 p668 p890 ((F_DR_store x4 (p890.2.1 : Int32) (p890.2.2.1 : Int32) (p890.2.2.2.1 : Int32) (p890.2.2.2.2.1 : Int64) (p890.2.2.2.2.2.1 : Int32) (p890.2.2.2.2.2.2.1 : Int32) (p890.2.2.2.2.2.2.2.1 : Int32) (p890.2.2.2.2.2.2.2.2.1 : Int32) (p890.2.2.2.2.2.2.2.2.2.1 : Int32) (p890.2.2.2.2.2.2.2.2.2.2.1 : Int32) (p890.2.2.2.2.2.2.2.2.2.2.2.1 : Int32) t1_0 t2_0 t3_0 t4_0 (p890.2.2.2.2.2.2.2.2.2.2.2.2 : (Nat → Int32))) : (Int32 × Int32 × Int32 × Int64 × Int32 × Int32 × Int32 × Int32 × Int32 × Int32 × Int32 × (Nat → Int32) × (Nat → Int32) × (Nat → Int32) × (Nat → Int32) × (Nat → Int32)))))
def S_DR_divide_c349 (K_S_DR_divide_L268 : Int64 → Int32 → Int32 → Int32 → Int64 → Int32 → Int32 → Int32 → Int32 → Int32 → Int32 → Int32 → (Nat → Int32) → (Nat → Int32) → Prop) (x2 : Int32) (x3 : Int32) (x4 : Int32) (x5 : Int32) (x6 : Int32) (t0_0 : Int32) (t0_1 : Int32) (t0_2 : Int32) (t0_3 : Int64) (t0_4 : Int32) (t0_5 : Int32) (t0_6 : Int32) (t0_7 : Int32) (t0_8 : Int32) (t0_9 : Int32) (t0_10 : Int32) (t1_0 : (Nat → Int32)) (t2_0 : (Nat → Int32)) (t3_0 : (Nat → Int32)) (t4_0 : (Nat → Int32)) (t5_0 : (Nat → Int32)) (t6_0 : (Nat → Int32)) (t7_0 : (Nat → Int32)) (lx45 : Int32) (j100 : Int64) (j88 : Int64) (lx107 : Int32) (j126 : Int64) (lx367 : Int32) (p431 : (Int32 × Int32 × Int32 × Int64 × Int32 × Int32 × Int32 × Int32 × Int32 × Int32 × Int32 × (Nat → Int32))) (f397 : (Nat → Int32)) (p492 : (Int32 × Int32 × Int32 × Int64 × Int32 × Int32 × Int32 × Int32 × Int32 × Int32 × Int32 × (Nat → Int32))) (lx512 : Int64) (lx513 : Int32) (lx514 : Int32) (lx515 : Int32) (lx516 : Int64) (lx517 : Int32) (lx518 : Int32) (lx519 : Int32) (lx520 : Int32) (lx521 : Int32) (lx522 : Int32) (lx523 : Int32) (lx524 : (Nat → Int32)) (lx525 : (Nat → Int32)) (j573 : Int64) (lx579 : Int64) (p613 : (Int32 × (Nat → Int32))) (f609 : (Nat → Int32)) (p668 : (Int32 × Int32 × Int32 × Int64 × Int32 × Int32 × Int32 × Int32 × Int32 × Int32 × Int32 × (Nat → Int32))) : Prop := (True ∧ S_DR_isLeft (p668.1 : Int32) (p668.2.1 : Int32) (p668.2.2.1 : Int32) (p668.2.2.2.1 : Int64) (p668.2.2.2.2.1 : Int32) (p668.2.2.2.2.2.1 : Int32) (p668.2.2.2.2.2.2.1 : Int32) (p668.2.2.2.2.2.2.2.1 : Int32) (p668.2.2.2.2.2.2.2.2.1 : Int32) (p668.2.2.2.2.2.2.2.2.2.1 : Int32) (p668.2.2.2.2.2.2.2.2.2.2.1 : Int32) f609) ∧ ((0 ≤ (p668.2.2.2.2.2.1 : Int32).toInt) ∧ (((p668.2.2.2.2.2.1 : Int32).toInt ≤ 1) ∧ (if (p668.2.2.1 : Int32) = (0 : Int32) then ((True ∧ S_DR_cut (0 : Int32) x6 (p668.1 : Int32) (p668.2.1 : Int32) (1 : Int32) ((x5.toInt64 : Int64) + 1 : Int64) ((F_DR_isLeft (p668.1 : Int32) (p668.2.1 : Int32) (p668.2.2.1 : Int32) (p668.2.2.2.1 : Int64) (p668.2.2.2.2.1 : Int32) (p668.2.2.2.2.2.1 : Int32) (p668.2.2.2.2.2.2.1 : Int32) (p668.2.2.2.2.2.2.2.1 : Int32) (p668.2.2.2.2.2.2.2.2.1 : Int32) (p668.2.2.2.2.2.2.2.2.2.1 : Int32) (p668.2.2.2.2.2.2.2.2.2.2.1 : Int32) f609) : Int32) (p668.2.2.2.2.2.1 : Int32) (p668.2.2.2.2.2.2.1 : Int32) (p668.2.2.2.2.2.2.2.1 : Int32) (p668.2.2.2.2.2.2.2.2.1 : Int32) (p668.2.2.2.2.2.2.2.2.2.1 : Int32) (p668.2.2.2.2.2.2.2.2.2.2.1 : Int32) (upd (p668.2.2.2.2.2.2.2.2.2.2.2 : (Nat → Int32)) (0 : Int32).toNatClampNeg 0 : (Nat → Int32))) ∧ (S_DR_divide_c397_17 K_S_DR_divide_L268 x2 x3 x4 x5 x6 t0_0 t0_1 t0_2 t0_3 t0_4 t0_5 t0_6 t0_7 t0_8 t0_9 t0_10 t1_0 t2_0 t3_0 t4_0 t5_0 t6_0 t7_0 lx45 j100 j88 lx107 j126 lx367 p431 f397 p492 lx512 lx513 lx514 lx515 lx516 lx517 lx518 lx519 lx520 lx521 lx522 lx523 lx524 lx525 j573 lx579 p613 f609 p668 ((F_DR_cut (0 : Int32) x6 (p668.1 : Int32) (p668.2.1 : Int32) (1 : Int32) ((x5.toInt64 : Int64) + 1 : Int64) ((F_DR_isLeft (p668.1 : Int32) (p668.2.1 : Int32) (p668.2.2.1 : Int32) (p668.2.2.2.1 : Int64) (p668.2.2.2.2.1 : Int32) (p668.2.2.2.2.2.1 : Int32) (p668.2.2.2.2.2.2.1 : Int32) (p668.2.2.2.2.2.2.2.1 : Int32) (p668.2.2.2.2.2.2.2.2.1 : Int32) (p668.2.2.2.2.2.2.2.2.2.1 : Int32) (p668.2.2.2.2.2.2.2.2.2.2.1 : Int32) f609) : Int32) (p668.2.2.2.2.2.1 : Int32) (p668.2.2.2.2.2.2.1 : Int32) (p668.2.2.2.2.2.2.2.1 : Int32) (p668.2.2.2.2.2.2.2.2.1 : Int32) (p668.2.2.2.2.2.2.2.2.2.1 : Int32) (p668.2.2.2.2.2.2.2.2.2.2.1 : Int32) (upd (p668.2.2.2.2.2.2.2.2.2.2.2 : (Nat → Int32)) (0 : Int32).toNatClampNeg 0 : (Nat → Int32))) : (Int32 × Int32 × Int32 × Int32 × Int64 × Int32 × Int32 × Int32 × Int32 × Int32 × Int32 × Int32 × (Nat → Int32))))) else ((True ∧ S_DR_cut ((p668.2.2.1 : Int32) - 1 : Int32) x6 (p668.1 : Int32) (p668.2.1 : Int32) (p668.2.2.1 : Int32) ((x5.toInt64 : Int64) + 1 : Int64) ((F_DR_isLeft (p668.1 : Int32) (p668.2.1 : Int32) (p668.2.2.1 : Int32) (p668.2.2.2.1 : Int64) (p668.2.2.2.2.1 : Int32) (p668.2.2.2.2.2.1 : Int32) (p668.2.2.2.2.2.2.1 : Int32) (p668.2.2.2.2.2.2.2.1 : Int32) (p668.2.2.2.2.2.2.2.2.1 : Int32) (p668.2.2.2.2.2.2.2.2.2.1 : Int32) (p668.2.2.2.2.2.2.2.2.2.2.1 : Int32) f609) : Int32) (p668.2.2.2.2.2.1 : Int32) (p668.2.2.2.2.2.2.1 : Int32) (p668.2.2.2.2.2.2.2.1 : Int32) (p668.2.2.2.2.2.2.2.2.1 : Int32) (p668.2.2.2.2.2.2.2.2.2.1 : Int32) (p668.2.2.2.2.2.2.2.2.2.2.1 : Int32) (p668.2.2.2.2.2.2.2.2.2.2.2 : (Nat → Int32))) ∧ (S_DR_divide_c397_15 K_S_DR_divide_L268 x2 x3 x4 x5 x6 t0_0 t0_1 t0_2 t0_3 t0_4 t0_5 t0_6 t0_7 t0_8 t0_9 t0_10 t1_0 t2_0 t3_0 t4_0 t5_0 t6_0 t7_0 lx45 j100 j88 lx107 j126 lx367 p431 f397 p492 lx512 lx513 lx514 lx515 lx516 lx517 lx518 lx519 lx520 lx521 lx522 lx523 lx524 lx525 j573 lx579 p613 f609 p668 ((F_DR_cut ((p668.2.2.1 : Int32) - 1 : Int32) x6 (p668.1 : Int32) (p668.2.1 : Int32) (p668.2.2.1 : Int32) ((x5.toInt64 : Int64) + 1 : Int64) ((F_DR_isLeft (p668.1 : Int32) (p668.2.1 : Int32) (p668.2.2.1 : Int32) (p668.2.2.2.1 : Int64) (p668.2.2.2.2.1 : Int32) (p668.2.2.2.2.2.1 : Int32) (p668.2.2.2.2.2.2.1 : Int32) (p668.2.2.2.2.2.2.2.1 : Int32) (p668.2.2.2.2.2.2.2.2.1 : Int32) (p668.2.2.2.2.2.2.2.2.2.1 : Int32) (p668.2.2.2.2.2.2.2.2.2.2.1 : Int32) f609) : Int32) (p668.2.2.2.2.2.1 : Int32) (p668.2.2.2.2.2.2.1 : Int32) (p668.2.2.2.2.2.2.2.1 : Int32) (p668.2.2.2.2.2.2.2.2.1 : Int32) (p668.2.2.2.2.2.2.2.2.2.1 : Int32) (p668.2.2.2.2.2.2.2.2.2.2.1 : Int32) (p668.2.2.2.2.2.2.2.2.2.2.2 : (Nat → Int32))) : (Int32 × Int32 × Int32 × Int32 × Int64 × Int32 × Int32 × Int32 × Int32 × Int32 × Int32 × Int32 × (Nat → Int32))))))))
def S_DR_divide_c346 (K_S_DR_divide_L268 : Int64 → Int32 → Int32 → Int32 → Int64 → Int32 → Int32 → Int32 → Int32 → Int32 → Int32 → Int32 → (Nat → Int32) → (Nat → Int32) → Prop) (x2 : Int32) (x3 : Int32) (x4 : Int32) (x5 : Int32) (x6 : Int32) (t0_0 : Int32) (t0_1 : Int32) (t0_2 : Int32) (t0_3 : Int64) (t0_4 : Int32) (t0_5 : Int32) (t0_6 : Int32) (t0_7 : Int32) (t0_8 : Int32) (t0_9 : Int32) (t0_10 : Int32) (t1_0 : (Nat → Int32)) (t2_0 : (Nat → Int32)) (t3_0 : (Nat → Int32)) (t4_0 : (Nat → Int32)) (t5_0 : (Nat → Int32)) (t6_0 : (Nat → Int32)) (t7_0 : (Nat → Int32)) (lx45 : Int32) (j100 : Int64) (j88 : Int64) (lx107 : Int32) (j126 : Int64) (lx367 : Int32) (p431 : (Int32 × Int32 × Int32 × Int64 × Int32 × Int32 × Int32 × Int32 × Int32 × Int32 × Int32 × (Nat → Int32))) (f397 : (Nat → Int32)) (p492 : (Int32 × Int32 × Int32 × Int64 × Int32 × Int32 × Int32 × Int32 × Int32 × Int32 × Int32 × (Nat → Int32))) (lx512 : Int64) (lx513 : Int32) (lx514 : Int32) (lx515 : Int32) (lx516 : Int64) (lx517 : Int32) (lx518 : Int32) (lx519 : Int32) (lx520 : Int32) (lx521 : Int32) (lx522 : Int32) (lx523 : Int32) (lx524 : (Nat → Int32)) (lx525 : (Nat → Int32)) (j573 : Int64) (lx579 : Int64) (p613 : (Int32 × (Nat → Int32))) : Prop := (True ∧ S_DR_append (p613.1 : Int32) lx513 lx514 lx515 lx516 lx517 lx518 lx519 lx520 lx521 lx522 lx523 lx524) ∧ (S_DR_divide_c349 K_S_DR_divide_L268 x2 x3 x4 x5 x6 t0_0 t0_1 t0_2 t0_3 t0_4 t0_5 t0_6 t0_7 t0_8 t0_9 t0_10 t1_0 t2_0 t3_0 t4_0 t5_0 t6_0 t7_0 lx45 j100 j88 lx107 j126 lx367 p431 f397 p492 lx512 lx513 lx514 lx515 lx516 lx517 lx518 lx519 lx520 lx521 lx522 lx523 lx524 lx525 j573 lx579 p613 (p613.2 : (Nat → Int32)) ((F_DR_append (p613.1 : Int32) lx513 lx514 lx515 lx516 lx517 lx518 lx519 lx520 lx521 lx522 lx523 lx524) : (Int32 × Int32 × Int32 × Int64 × Int32 × Int32 × Int32 × Int32 × Int32 × Int32 × Int32 × (Nat → Int32))))
def S_DR_divide_c331 (K_S_DR_divide_L268 : Int64 → Int32 → Int32 → Int32 → Int64 → Int32 → Int32 → Int32 → Int32 → Int32 → Int32 → Int32 → (Nat → Int32) → (Nat → Int32) → Prop) (x2 : Int32) (x3 : Int32) (x4 : Int32) (x5 : Int32) (x6 : Int32) (t0_0 : Int32) (t0_1 : Int32) (t0_2 : Int32) (t0_3 : Int64) (t0_4 : Int32) (t0_5 : Int32) (t0_6 : Int32) (t0_7 : Int32) (t0_8 : Int32) (t0_9 : Int32) (t0_10 : Int32) (t1_0 : (Nat → Int32)) (t2_0 : (Nat → Int32)) (t3_0 : (Nat → Int32)) (t4_0 : (Nat → Int32)) (t5_0 : (Nat → Int32)) (t6_0 : (Nat → Int32)) (t7_0 : (Nat → Int32)) (lx45 : Int32) (j100 : Int64) (j88 : Int64) (lx107 : Int32) (j126 : Int64) (lx367 : Int32) (p431 : (Int32 × Int32 × Int32 × Int64 × Int32 × Int32 × Int32 × Int32 × Int32 × Int32 × Int32 × (Nat → Int32))) (f397 : (Nat → Int32)) (p492 : (Int32 × Int32 × Int32 × Int64 × Int32 × Int32 × Int32 × Int32 × Int32 × Int32 × Int32 × (Nat → Int32))) (lx512 : Int64) (lx513 : Int32) (lx514 : Int32) (lx515 : Int32) (lx516 : Int64) (lx517 : Int32) (lx518 : Int32) (lx519 : Int32) (lx520 : Int32) (lx521 : Int32) (lx522 : Int32) (lx523 : Int32) (lx524 : (Nat → Int32)) (lx525 : (Nat → Int32)) (j573 : Int64) (lx579 : Int64) (p1004 : (Int32 × (Nat → Int32))) (f1000 : (Nat → Int32)) (p1059 : (Int32 × Int32 × Int32 × Int64 × Int32 × Int32 × Int32 × Int32 × Int32 × Int32 × Int32 × (Nat → Int32))) : Prop := K_S_DR_divide_L268 (lx512 + 1 : Int64) (p1059.1 : Int32) (p1059.2.1 : Int32) (p1059.2.2.1 : Int32) (p1059.2.2.2.1 : Int64) (p1059.2.2.2.2.1 : Int32) (p1059.2.2.2.2.2.1 : Int32) (p1059.2.2.2.2.2.2.1 : Int32) (p1059.2.2.2.2.2.2.2.1 : Int32) (p1059.2.2.2.2.2.2.2.2.1 : Int32) (p1059.2.2.2.2.2.2.2.2.2.1 : Int32) (p1059.2.2.2.2.2.2.2.2.2.2.1 : Int32) (p1059.2.2.2.2.2.2.2.2.2.2.2 : (Nat → Int32)) f1000
def S_DR_divide_c328 (K_S_DR_divide_L268 : Int64 → Int32 → Int32 → Int32 → Int64 → Int32 → Int32 → Int32 → Int32 → Int32 → Int32 → Int32 → (Nat → Int32) → (Nat → Int32) → Prop) (x2 : Int32) (x3 : Int32) (x4 : Int32) (x5 : Int32) (x6 : Int32) (t0_0 : Int32) (t0_1 : Int32) (t0_2 : Int32) (t0_3 : Int64) (t0_4 : Int32) (t0_5 : Int32) (t0_6 : Int32) (t0_7 : Int32) (t0_8 : Int32) (t0_9 : Int32) (t0_10 : Int32) (t1_0 : (Nat → Int32)) (t2_0 : (Nat → Int32)) (t3_0 : (Nat → Int32)) (t4_0 : (Nat → Int32)) (t5_0 : (Nat → Int32)) (t6_0 : (Nat → Int32)) (t7_0 : (Nat → Int32)) (lx45 : Int32) (j100 : Int64) (j88 : Int64) (lx107 : Int32) (j126 : Int64) (lx367 : Int32) (p431 : (Int32 × Int32 × Int32 × Int64 × Int32 × Int32 × Int32 × Int32 × Int32 × Int32 × Int32 × (Nat → Int32))) (f397 : (Nat → Int32)) (p492 : (Int32 × Int32 × Int32 × Int64 × Int32 × Int32 × Int32 × Int32 × Int32 × Int32 × Int32 × (Nat → Int32))) (lx512 : Int64) (lx513 : Int32) (lx514 : Int32) (lx515 : Int32) (lx516 : Int64) (lx517 : Int32) (lx518 : Int32) (lx519 : Int32) (lx520 : Int32) (lx521 : Int32) (lx522 : Int32) (lx523 : Int32) (lx524 : (Nat → Int32)) (lx525 : (Nat → Int32)) (j573 : Int64) (lx579 : Int64) (p1004 : (Int32 × (Nat → Int32))) : Prop := (True ∧ S_DR_append (p1004.1 : Int32) lx513 lx514 lx515 lx516 lx517 lx518 lx519 lx520 lx521 lx522 lx523 lx524) ∧ (S_DR_divide_c331 K_S_DR_divide_L268 x2 x3 x4 x5 x6 t0_0 t0_1 t0_2 t0_3 t0_4 t0_5 t0_6 t0_7 t0_8 t0_9 t0_10 t1_0 t2_0 t3_0 t4_0 t5_0 t6_0 t7_0 lx45 j100 j88 lx107 j126 lx367 p431 f397 p492 lx512 lx513 lx514 lx515 lx516 lx517 lx518 lx519 lx520 lx521 lx522 lx523 lx524 lx525 j573 lx579 p1004 (p1004.2 : (Nat → Int32)) ((F_DR_append (p1004.1 : Int32) lx513 lx514 lx515 lx516 lx517 lx518 lx519 lx520 lx521 lx522 lx523 lx524) : (Int32 × Int32 × Int32 × Int64 × Int32 × Int32 × Int32 × Int32 × Int32 × Int32 × Int32 × (Nat → Int32))))
def S_DR_divide_c331_22 (K_S_DR_divide_L268 : Int64 → Int32 → Int32 → Int32 → Int64 → Int32 → Int32 → Int32 → Int32 → Int32 → Int32 → Int32 → (Nat → Int32) → (Nat → Int32) → Prop) (x2 : Int32) (x3 : Int32) (x4 : Int32) (x5 : Int32) (x6 : Int32) (t0_0 : Int32) (t0_1 : Int32) (t0_2 : Int32) (t0_3 : Int64) (t0_4 : Int32) (t0_5 : Int32) (t0_6 : Int32) (t0_7 : Int32) (t0_8 : Int32) (t0_9 : Int32) (t0_10 : Int32) (t1_0 : (Nat → Int32)) (t2_0 : (Nat → Int32)) (t3_0 : (Nat → Int32)) (t4_0 : (Nat → Int32)) (t5_0 : (Nat → Int32)) (t6_0 : (Nat → Int32)) (t7_0 : (Nat → Int32)) (lx45 : Int32) (j100 : Int64) (j88 : Int64) (lx107 : Int32) (j126 : Int64) (lx367 : Int32) (p431 : (Int32 × Int32 × Int32 × Int64 × Int32 × Int32 × Int32 × Int32 × Int32 × Int32 × Int32 × (Nat → Int32))) (f397 : (Nat → Int32)) (p492 : (Int32 × Int32 × Int32 × Int64 × Int32 × Int32 × Int32 × Int32 × Int32 × Int32 × Int32 × (Nat → Int32))) (lx512 : Int64) (lx513 : Int32) (lx514 : Int32) (lx515 : Int32) (lx516 : Int64) (lx517 : Int32) (lx518 : Int32) (lx519 : Int32) (lx520 : Int32) (lx521 : Int32) (lx522 : Int32) (lx523 : Int32) (lx524 : (Nat → Int32)) (lx525 : (Nat → Int32)) (j573 : Int64) (lx579 : Int64) (p1102 : (Int32 × (Nat → Int32))) (f1098 : (Nat → Int32)) (p1157 : (Int32 × Int32 × Int32 × Int64 × Int32 × Int32 × Int32 × Int32 × Int32 × Int32 × Int32 × (Nat → Int32))) : Prop := K_S_DR_divide_L268 (lx512 + 1 : Int64) (p1157.1 : Int32) (p1157.2.1 : Int32) (p1157.2.2.1 : Int32) (p1157.2.2.2.1 : Int64) (p1157.2.2.2.2.1 : Int32) (p1157.2.2.2.2.2.1 : Int32) (p1157.2.2.2.2.2.2.1 : Int32) (p1157.2.2.2.2.2.2.2.1 : Int32) (p1157.2.2.2.2.2.2.2.2.1 : Int32) (p1157.2.2.2.2.2.2.2.2.2.1 : Int32) (p1157.2.2.2.2.2.2.2.2.2.2.1 : Int32) (p1157.2.2.2.2.2.2.2.2.2.2.2 : (Nat → Int32)) f1098
def S_DR_divide_c328_21 (K_S_DR_divide_L268 : Int64 → Int32 → Int32 → Int32 → Int64 → Int32 → Int32 → Int32 → Int32 → Int32 → Int32 → Int32 → (Nat → Int32) → (Nat → Int32) → Prop) (x2 : Int32) (x3 : Int32) (x4 : Int32) (x5 : Int32) (x6 : Int32) (t0_0 : Int32) (t0_1 : Int32) (t0_2 : Int32) (t0_3 : Int64) (t0_4 : Int32) (t0_5 : Int32) (t0_6 : Int32) (t0_7 : Int32) (t0_8 : Int32) (t0_9 : Int32) (t0_10 : Int32) (t1_0 : (Nat → Int32)) (t2_0 : (Nat → Int32)) (t3_0 : (Nat → Int32)) (t4_0 : (Nat → Int32)) (t5_0 : (Nat → Int32)) (t6_0 : (Nat → Int32)) (t7_0 : (Nat → Int32)) (lx45 : Int32) (j100 : Int64) (j88 : Int64) (lx107 : Int32) (j126 : Int64) (lx367 : Int32) (p431 : (Int32 × Int32 × Int32 × Int64 × Int32 × Int32 × Int32 × Int32 × Int32 × Int32 × Int32 × (Nat → Int32))) (f397 : (Nat → Int32)) (p492 : (Int32 × Int32 × Int32 × Int64 × Int32 × Int32 × Int32 × Int32 × Int32 × Int32 × Int32 × (Nat → Int32))) (lx512 : Int64) (lx513 : Int32) (lx514 : Int32) (lx515 : Int32) (lx516 : Int64) (lx517 : Int32) (lx518 : Int32) (lx519 : Int32) (lx520 : Int32) (lx521 : Int32) (lx522 : Int32) (lx523 : Int32) (lx524 : (Nat → Int32)) (lx525 : (Nat → Int32)) (j573 : Int64) (lx579 : Int64) (p1102 : (Int32 × (Nat → Int32))) : Prop := (True ∧ S_DR_append (p1102.1 : Int32) lx513 lx514 lx515 lx516 lx517 lx518 lx519 lx520 lx521 lx522 lx523 lx524) ∧ (S_DR_divide_c331_22 K_S_DR_divide_L268 x2 x3 x4 x5 x6 t0_0 t0_1 t0_2 t0_3 t0_4 t0_5 t0_6 t0_7 t0_8 t0_9 t0_10 t1_0 t2_0 t3_0 t4_0 t5_0 t6_0 t7_0 lx45 j100 j88 lx107 j126 lx367 p431 f397 p492 lx512 lx513 lx514 lx515 lx516 lx517 lx518 lx519 lx520 lx521 lx522 lx523 lx524 lx525 j573 lx579 p1102 (p1102.2 : (Nat → Int32)) ((F_DR_append (p1102.1 : Int32) lx513 lx514 lx515 lx516 lx517 lx518 lx519 lx520 lx521 lx522 lx523 lx524) : (Int32 × Int32 × Int32 × Int64 × Int32 × Int32 × Int32 × Int32 × Int32 × Int32 × Int32 × (Nat → Int32))))
def S_DR_divide_J290 (K_S_DR_divide_L268 : Int64 → Int32 → Int32 → Int32 → Int64 → Int32 → Int32 → Int32 → Int32 → Int32 → Int32 → Int32 → (Nat → Int32) → (Nat → Int32) → Prop) (x2 : Int32) (x3 : Int32) (x4 : Int32) (x5 : Int32) (x6 : Int32) (t0_0 : Int32) (t0_1 : Int32) (t0_2 : Int32) (t0_3 : Int64) (t0_4 : Int32) (t0_5 : Int32) (t0_6 : Int32) (t0_7 : Int32) (t0_8 : Int32) (t0_9 : Int32) (t0_10 : Int32) (t1_0 : (Nat → Int32)) (t2_0 : (Nat → Int32)) (t3_0 : (Nat → Int32)) (t4_0 : (Nat → Int32)) (t5_0 : (Nat → Int32)) (t6_0 : (Nat → Int32)) (t7_0 : (Nat → Int32)) (lx45 : Int32) (j100 : Int64) (j88 : Int64) (lx107 : Int32) (j126 : Int64) (lx367 : Int32) (p431 : (Int32 × Int32 × Int32 × Int64 × Int32 × Int32 × Int32 × Int32 × Int32 × Int32 × Int32 × (Nat → Int32))) (f397 : (Nat → Int32)) (p492 : (Int32 × Int32 × Int32 × Int64 × Int32 × Int32 × Int32 × Int32 × Int32 × Int32 × Int32 × (Nat → Int32))) (lx512 : Int64) (lx513 : Int32) (lx514 : Int32) (lx515 : Int32) (lx516 : Int64) (lx517 : Int32) (lx518 : Int32) (lx519 : Int32) (lx520 : Int32) (lx521 : Int32) (lx522 : Int32) (lx523 : Int32) (lx524 : (Nat → Int32)) (lx525 : (Nat → Int32)) (j573 : Int64) (lx579 : Int64) : Prop := if (0 : Int32) ≤ (lg_cmp lx512 (j573 + lx579 : Int64) : Int32) then ((True ∧ S_DR_nextFigure (0 : Int32) lx513 lx514 lx515 lx516 lx517 lx518 lx519 lx520 lx521 lx522 lx523 f397 lx525) ∧ (S_DR_divide_c346 K_S_DR_divide_L268 x2 x3 x4 x5 x6 t0_0 t0_1 t0_2 t0_3 t0_4 t0_5 t0_6 t0_7 t0_8 t0_9 t0_10 t1_0 t2_0 t3_0 t4_0 t5_0 t6_0 t7_0 lx45 j100 j88 lx107 j126 lx367 p431 f397 p492 lx512 lx513 lx514 lx515 lx516 lx517 lx518 lx519 lx520 lx521 lx522 lx523 lx524 lx525 j573 lx579 ((F_DR_nextFigure (0 : Int32) lx513 lx514 lx515 lx516 lx517 lx518 lx519 lx520 lx521 lx522 lx523 f397 lx525) : (Int32 × (Nat → Int32))))) else (if (0 : Int32) ≤ (lg_cmp lx512 ((t2_0 x2.toNatClampNeg : Int32).toInt64 : Int64) : Int32) then ((True ∧ S_DR_nextFigure (0 : Int32) lx513 lx514 lx515 lx516 lx517 lx518 lx519 lx520 lx521 lx522 lx523 f397 lx525) ∧ (S_DR_divide_c328 K_S_DR_divide_L268 x2 x3 x4 x5 x6 t0_0 t0_1 t0_2 t0_3 t0_4 t0_5 t0_6 t0_7 t0_8 t0_9 t0_10 t1_0 t2_0 t3_0 t4_0 t5_0 t6_0 t7_0 lx45 j100 j88 lx107 j126 lx367 p431 f397 p492 lx512 lx513 lx514 lx515 lx516 lx517 lx518 lx519 lx520 lx521 lx522 lx523 lx524 lx525 j573 lx579 ((F_DR_nextFigure (0 : Int32) lx513 lx514 lx515 lx516 lx517 lx518 lx519 lx520 lx521 lx522 lx523 f397 lx525) : (Int32 × (Nat → Int32))))) else ((0 ≤ ((1000 * x2 : Int32) + (lx512.toInt32 : Int32) : Int32).toInt) ∧ ((((1000 * x2 : Int32) + (lx512.toInt32 : Int32) : Int32).toInt ≤ 9999) ∧ ((True ∧ S_DR_nextFigure (t1_0 ((1000 * x2 : Int32) + (lx512.toInt32 : Int32) : Int32).toNatClampNeg : Int32) lx513 lx514 lx515 lx516 lx517 lx518 lx519 lx520 lx521 lx522 lx523 f397 lx525) ∧ (S_DR_divide_c328_21 K_S_DR_divide_L268 x2 x3 x4 x5 x6 t0_0 t0_1 t0_2 t0_3 t0_4 t0_5 t0_6 t0_7 t0_8 t0_9 t0_10 t1_0 t2_0 t3_0 t4_0 t5_0 t6_0 t7_0 lx45 j100 j88 lx107 j126 lx367 p431 f397 p492 lx512 lx513 lx514 lx515 lx516 lx517 lx518 lx519 lx520 lx521 lx522 lx523 lx524 lx525 j573 lx579 ((F_DR_nextFigure (t1_0 ((1000 * x2 : Int32) + (lx512.toInt32 : Int32) : Int32).toNatClampNeg : Int32) lx513 lx514 lx515 lx516 lx517 lx518 lx519 lx520 lx521 lx522 lx523 f397 lx525) : (Int32 × (Nat → Int32))))))))
def S_DR_divide_L268 (x2 : Int32) (x3 : Int32) (x4 : Int32) (x5 : Int32) (x6 : Int32) (t0_0 : Int32) (t0_1 : Int32) (t0_2 : Int32) (t0_3 : Int64) (t0_4 : Int32) (t0_5 : Int32) (t0_6 : Int32) (t0_7 : Int32) (t0_8 : Int32) (t0_9 : Int32) (t0_10 : Int32) (t1_0 : (Nat → Int32)) (t2_0 : (Nat → Int32)) (t3_0 : (Nat → Int32)) (t4_0 : (Nat → Int32)) (t5_0 : (Nat → Int32)) (t6_0 : (Nat → Int32)) (t7_0 : (Nat → Int32)) (lx45 : Int32) (j100 : Int64) (j88 : Int64) (lx107 : Int32) (j126 : Int64) (lx367 : Int32) (p431 : (Int32 × Int32 × Int32 × Int64 × Int32 × Int32 × Int32 × Int32 × Int32 × Int32 × Int32 × (Nat → Int32))) (f397 : (Nat → Int32)) (p492 : (Int32 × Int32 × Int32 × Int64 × Int32 × Int32 × Int32 × Int32 × Int32 × Int32 × Int32 × (Nat → Int32))) : Nat → Int64 → Int32 → Int32 → Int32 → Int64 → Int32 → Int32 → Int32 → Int32 → Int32 → Int32 → Int32 → (Nat → Int32) → (Nat → Int32) → Prop
  | 0, _, _, _, _, _, _, _, _, _, _, _, _, _, _ => False
  | fm + 1, lx512, lx513, lx514, lx515, lx516, lx517, lx518, lx519, lx520, lx521, lx522, lx523, lx524, lx525 => if (lg_cmp j88 0 : Int32) ≤ (0 : Int32) then (S_DR_divide_J290 (S_DR_divide_L268 x2 x3 x4 x5 x6 t0_0 t0_1 t0_2 t0_3 t0_4 t0_5 t0_6 t0_7 t0_8 t0_9 t0_10 t1_0 t2_0 t3_0 t4_0 t5_0 t6_0 t7_0 lx45 j100 j88 lx107 j126 lx367 p431 f397 p492 fm) x2 x3 x4 x5 x6 t0_0 t0_1 t0_2 t0_3 t0_4 t0_5 t0_6 t0_7 t0_8 t0_9 t0_10 t1_0 t2_0 t3_0 t4_0 t5_0 t6_0 t7_0 lx45 j100 j88 lx107 j126 lx367 p431 f397 p492 lx512 lx513 lx514 lx515 lx516 lx517 lx518 lx519 lx520 lx521 lx522 lx523 lx524 lx525 ((t2_0 x2.toNatClampNeg : Int32).toInt64 : Int64) 0) else (S_DR_divide_J290 (S_DR_divide_L268 x2 x3 x4 x5 x6 t0_0 t0_1 t0_2 t0_3 t0_4 t0_5 t0_6 t0_7 t0_8 t0_9 t0_10 t1_0 t2_0 t3_0 t4_0 t5_0 t6_0 t7_0 lx45 j100 j88 lx107 j126 lx367 p431 f397 p492 fm) x2 x3 x4 x5 x6 t0_0 t0_1 t0_2 t0_3 t0_4 t0_5 t0_6 t0_7 t0_8 t0_9 t0_10 t1_0 t2_0 t3_0 t4_0 t5_0 t6_0 t7_0 lx45 j100 j88 lx107 j126 lx367 p431 f397 p492 lx512 lx513 lx514 lx515 lx516 lx517 lx518 lx519 lx520 lx521 lx522 lx523 lx524 lx525 ((t2_0 x2.toNatClampNeg : Int32).toInt64 : Int64) j88)
def S_DR_divide_c262 (x2 : Int32) (x3 : Int32) (x4 : Int32) (x5 : Int32) (x6 : Int32) (t0_0 : Int32) (t0_1 : Int32) (t0_2 : Int32) (t0_3 : Int64) (t0_4 : Int32) (t0_5 : Int32) (t0_6 : Int32) (t0_7 : Int32) (t0_8 : Int32) (t0_9 : Int32) (t0_10 : Int32) (t1_0 : (Nat → Int32)) (t2_0 : (Nat → Int32)) (t3_0 : (Nat → Int32)) (t4_0 : (Nat → Int32)) (t5_0 : (Nat → Int32)) (t6_0 : (Nat → Int32)) (t7_0 : (Nat → Int32)) (lx45 : Int32) (j100 : Int64) (j88 : Int64) (lx107 : Int32) (j126 : Int64) (lx367 : Int32) (p431 : (Int32 × Int32 × Int32 × Int64 × Int32 × Int32 × Int32 × Int32 × Int32 × Int32 × Int32 × (Nat → Int32))) (f397 : (Nat → Int32)) (p492 : (Int32 × Int32 × Int32 × Int64 × Int32 × Int32 × Int32 × Int32 × Int32 × Int32 × Int32 × (Nat → Int32))) : Prop := S_DR_divide_L268 x2 x3 x4 x5 x6 t0_0 t0_1 t0_2 t0_3 t0_4 t0_5 t0_6 t0_7 t0_8 t0_9 t0_10 t1_0 t2_0 t3_0 t4_0 t5_0 t6_0 t7_0 lx45 j100 j88 lx107 j126 lx367 p431 f397 p492 1000000 0 (p492.1 : Int32) (p492.2.1 : Int32) (p492.2.2.1 : Int32) (p492.2.2.2.1 : Int64) (p492.2.2.2.2.1 : Int32) (p492.2.2.2.2.2.1 : Int32) (p492.2.2.2.2.2.2.1 : Int32) (p492.2.2.2.2.2.2.2.1 : Int32) (p492.2.2.2.2.2.2.2.2.1 : Int32) (p492.2.2.2.2.2.2.2.2.2.1 : Int32) (p492.2.2.2.2.2.2.2.2.2.2.1 : Int32) t5_0 (p492.2.2.2.2.2.2.2.2.2.2.2 : (Nat → Int32))
def S_DR_divide_c258 (x2 : Int32) (x3 : Int32) (x4 : Int32) (x5 : Int32) (x6 : Int32) (t0_0 : Int32) (t0_1 : Int32) (t0_2 : Int32) (t0_3 : Int64) (t0_4 : Int32) (t0_5 : Int32) (t0_6 : Int32) (t0_7 : Int32) (t0_8 : Int32) (t0_9 : Int32) (t0_10 : Int32) (t1_0 : (Nat → Int32)) (t2_0 : (Nat → Int32)) (t3_0 : (Nat → Int32)) (t4_0 : (Nat → Int32)) (t5_0 : (Nat → Int32)) (t6_0 : (Nat → Int32)) (t7_0 : (Nat → Int32)) (lx45 : Int32) (j100 : Int64) (j88 : Int64) (lx107 : Int32) (j126 : Int64) (lx367 : Int32) (p431 : (Int32 × Int32 × Int32 × Int64 × Int32 × Int32 × Int32 × Int32 × Int32 × Int32 × Int32 × (Nat → Int32))) : Prop := (True ∧ S_DR_beginQuotient (p431.1 : Int32) (p431.2.1 : Int32) (p431.2.2.1 : Int32) (p431.2.2.2.1 : Int64) (p431.2.2.2.2.1 : Int32) (p431.2.2.2.2.2.1 : Int32) (p431.2.2.2.2.2.2.1 : Int32) (p431.2.2.2.2.2.2.2.1 : Int32) (p431.2.2.2.2.2.2.2.2.1 : Int32) (p431.2.2.2.2.2.2.2.2.2.1 : Int32) (p431.2.2.2.2.2.2.2.2.2.2.1 : Int32) t7_0) ∧ (S_DR_divide_c262 x2 x3 x4 x5 x6 t0_0 t0_1 t0_2 t0_3 t0_4 t0_5 t0_6 t0_7 t0_8 t0_9 t0_10 t1_0 t2_0 t3_0 t4_0 t5_0 t6_0 t7_0 lx45 j100 j88 lx107 j126 lx367 p431 (p431.2.2.2.2.2.2.2.2.2.2.2 : (Nat → Int32)) ((F_DR_beginQuotient (p431.1 : Int32) (p431.2.1 : Int32) (p431.2.2.1 : Int32) (p431.2.2.2.1 : Int64) (p431.2.2.2.2.1 : Int32) (p431.2.2.2.2.2.1 : Int32) (p431.2.2.2.2.2.2.1 : Int32) (p431.2.2.2.2.2.2.2.1 : Int32) (p431.2.2.2.2.2.2.2.2.1 : Int32) (p431.2.2.2.2.2.2.2.2.2.1 : Int32) (p431.2.2.2.2.2.2.2.2.2.2.1 : Int32) t7_0) : (Int32 × Int32 × Int32 × Int64 × Int32 × Int32 × Int32 × Int32 × Int32 × Int32 × Int32 × (Nat → Int32))))
def S_DR_divide_J258 (x2 : Int32) (x3 : Int32) (x4 : Int32) (x5 : Int32) (x6 : Int32) (t0_0 : Int32) (t0_1 : Int32) (t0_2 : Int32) (t0_3 : Int64) (t0_4 : Int32) (t0_5 : Int32) (t0_6 : Int32) (t0_7 : Int32) (t0_8 : Int32) (t0_9 : Int32) (t0_10 : Int32) (t1_0 : (Nat → Int32)) (t2_0 : (Nat → Int32)) (t3_0 : (Nat → Int32)) (t4_0 : (Nat → Int32)) (t5_0 : (Nat → Int32)) (t6_0 : (Nat → Int32)) (t7_0 : (Nat → Int32)) (lx45 : Int32) (j100 : Int64) (j88 : Int64) (lx107 : Int32) (j126 : Int64) (lx367 : Int32) : Prop := (True ∧ S_DR_loadUnder x3 lx367 lx45 t0_1 (0 : Int32) j126 (0 : Int32) lx107 t0_6 t0_7 t0_8 t0_9 (2 : Int32) t1_0 t2_0 t6_0) ∧ (S_DR_divide_c258 x2 x3 x4 x5 x6 t0_0 t0_1 t0_2 t0_3 t0_4 t0_5 t0_6 t0_7 t0_8 t0_9 t0_10 t1_0 t2_0 t3_0 t4_0 t5_0 t6_0 t7_0 lx45 j100 j88 lx107 j126 lx367 ((F_DR_loadUnder x3 lx367 lx45 t0_1 (0 : Int32) j126 (0 : Int32) lx107 t0_6 t0_7 t0_8 t0_9 (2 : Int32) t1_0 t2_0 t6_0) : (Int32 × Int32 × Int32 × Int64 × Int32 × Int32 × Int32 × Int32 × Int32 × Int32 × Int32 × (Nat → Int32))))
def S_DR_divide_J183 (x2 : Int32) (x3 : Int32) (x4 : Int32) (x5 : Int32) (x6 : Int32) (t0_0 : Int32) (t0_1 : Int32) (t0_2 : Int32) (t0_3 : Int64) (t0_4 : Int32) (t0_5 : Int32) (t0_6 : Int32) (t0_7 : Int32) (t0_8 : Int32) (t0_9 : Int32) (t0_10 : Int32) (t1_0 : (Nat → Int32)) (t2_0 : (Nat → Int32)) (t3_0 : (Nat → Int32)) (t4_0 : (Nat → Int32)) (t5_0 : (Nat → Int32)) (t6_0 : (Nat → Int32)) (t7_0 : (Nat → Int32)) (lx45 : Int32) (j100 : Int64) (j88 : Int64) (lx107 : Int32) (j126 : Int64) : Prop := (True ∧ S_DR_isZero x2 lx45 t0_1 (0 : Int32) j126 (0 : Int32) lx107 t0_6 t0_7 t0_8 t0_9 (2 : Int32) t1_0) ∧ (if ((F_DR_isZero x2 lx45 t0_1 (0 : Int32) j126 (0 : Int32) lx107 t0_6 t0_7 t0_8 t0_9 (2 : Int32) t1_0) : Int32) = (0 : Int32) then (if (0 : Int32) ≤ (lg_cmp j100 (-1) : Int32) then (if (0 : Int32) ≤ (lg_cmp j88 0 : Int32) then (S_DR_divide_J258 x2 x3 x4 x5 x6 t0_0 t0_1 t0_2 t0_3 t0_4 t0_5 t0_6 t0_7 t0_8 t0_9 t0_10 t1_0 t2_0 t3_0 t4_0 t5_0 t6_0 t7_0 lx45 j100 j88 lx107 j126 0) else (S_DR_divide_J258 x2 x3 x4 x5 x6 t0_0 t0_1 t0_2 t0_3 t0_4 t0_5 t0_6 t0_7 t0_8 t0_9 t0_10 t1_0 t2_0 t3_0 t4_0 t5_0 t6_0 t7_0 lx45 j100 j88 lx107 j126 ((-j88 : Int64).toInt32 : Int32))) else (S_DR_divide_J200 x2 x3 x4 x5 x6 t0_0 t0_1 t0_2 t0_3 t0_4 t0_5 t0_6 t0_7 t0_8 t0_9 t0_10 t1_0 t2_0 t3_0 t4_0 t5_0 t6_0 t7_0 lx45 j100 j88 lx107 j126)) else (S_DR_divide_J200 x2 x3 x4 x5 x6 t0_0 t0_1 t0_2 t0_3 t0_4 t0_5 t0_6 t0_7 t0_8 t0_9 t0_10 t1_0 t2_0 t3_0 t4_0 t5_0 t6_0 t7_0 lx45 j100 j88 lx107 j126))
def S_DR_divide_J140 (x2 : Int32) (x3 : Int32) (x4 : Int32) (x5 : Int32) (x6 : Int32) (t0_0 : Int32) (t0_1 : Int32) (t0_2 : Int32) (t0_3 : Int64) (t0_4 : Int32) (t0_5 : Int32) (t0_6 : Int32) (t0_7 : Int32) (t0_8 : Int32) (t0_9 : Int32) (t0_10 : Int32) (t1_0 : (Nat → Int32)) (t2_0 : (Nat → Int32)) (t3_0 : (Nat → Int32)) (t4_0 : (Nat → Int32)) (t5_0 : (Nat → Int32)) (t6_0 : (Nat → Int32)) (t7_0 : (Nat → Int32)) (lx45 : Int32) (j100 : Int64) (j88 : Int64) (lx107 : Int32) : Prop := (True ∧ S_DR_isZero x2 lx45 t0_1 (0 : Int32) (x5.toInt64 : Int64) (0 : Int32) lx107 t0_6 t0_7 t0_8 t0_9 (2 : Int32) t1_0) ∧ (if ((F_DR_isZero x2 lx45 t0_1 (0 : Int32) (x5.toInt64 : Int64) (0 : Int32) lx107 t0_6 t0_7 t0_8 t0_9 (2 : Int32) t1_0) : Int32) = (0 : Int32) then (if (lg_cmp j100 1000 : Int32) ≤ (0 : Int32) then (S_DR_divide_J183 x2 x3 x4 x5 x6 t0_0 t0_1 t0_2 t0_3 t0_4 t0_5 t0_6 t0_7 t0_8 t0_9 t0_10 t1_0 t2_0 t3_0 t4_0 t5_0 t6_0 t7_0 lx45 j100 j88 lx107 (x5.toInt64 : Int64)) else (True)) else (S_DR_divide_J183 x2 x3 x4 x5 x6 t0_0 t0_1 t0_2 t0_3 t0_4 t0_5 t0_6 t0_7 t0_8 t0_9 t0_10 t1_0 t2_0 t3_0 t4_0 t5_0 t6_0 t7_0 lx45 j100 j88 lx107 (x5.toInt64 : Int64)))
def S_DR_divide_J63 (x2 : Int32) (x3 : Int32) (x4 : Int32) (x5 : Int32) (x6 : Int32) (t0_0 : Int32) (t0_1 : Int32) (t0_2 : Int32) (t0_3 : Int64) (t0_4 : Int32) (t0_5 : Int32) (t0_6 : Int32) (t0_7 : Int32) (t0_8 : Int32) (t0_9 : Int32) (t0_10 : Int32) (t1_0 : (Nat → Int32)) (t2_0 : (Nat → Int32)) (t3_0 : (Nat → Int32)) (t4_0 : (Nat → Int32)) (t5_0 : (Nat → Int32)) (t6_0 : (Nat → Int32)) (t7_0 : (Nat → Int32)) (lx45 : Int32) : Prop := if lx45 ≤ (0 : Int32) then ((0 ≤ x3.toInt) ∧ ((x3.toInt ≤ 9) ∧ ((0 ≤ x2.toInt) ∧ ((x2.toInt ≤ 9) ∧ (if (t3_0 x2.toNatClampNeg : Int32) = (t3_0 x3.toNatClampNeg : Int32) then (S_DR_divide_J140 x2 x3 x4 x5 x6 t0_0 t0_1 t0_2 t0_3 t0_4 t0_5 t0_6 t0_7 t0_8 t0_9 t0_10 t1_0 t2_0 t3_0 t4_0 t5_0 t6_0 t7_0 lx45 ((((t2_0 x2.toNatClampNeg : Int32) - (t2_0 x3.toNatClampNeg : Int32) : Int32).toInt64 : Int64) + (((x5.toInt64 : Int64) + ((t4_0 x3.toNatClampNeg : Int32).toInt64 : Int64) : Int64) - ((t4_0 x2.toNatClampNeg : Int32).toInt64 : Int64) : Int64) : Int64) (((x5.toInt64 : Int64) + ((t4_0 x3.toNatClampNeg : Int32).toInt64 : Int64) : Int64) - ((t4_0 x2.toNatClampNeg : Int32).toInt64 : Int64) : Int64) 0) else (S_DR_divide_J140 x2 x3 x4 x5 x6 t0_0 t0_1 t0_2 t0_3 t0_4 t0_5 t0_6 t0_7 t0_8 t0_9 t0_10 t1_0 t2_0 t3_0 t4_0 t5_0 t6_0 t7_0 lx45 ((((t2_0 x2.toNatClampNeg : Int32) - (t2_0 x3.toNatClampNeg : Int32) : Int32).toInt64 : Int64) + (((x5.toInt64 : Int64) + ((t4_0 x3.toNatClampNeg : Int32).toInt64 : Int64) : Int64) - ((t4_0 x2.toNatClampNeg : Int32).toInt64 : Int64) : Int64) : Int64) (((x5.toInt64 : Int64) + ((t4_0 x3.toNatClampNeg : Int32).toInt64 : Int64) : Int64) - ((t4_0 x2.toNatClampNeg : Int32).toInt64 : Int64) : Int64) 1)))))) else (True)
def S_DR_divide_J46 (x2 : Int32) (x3 : Int32) (x4 : Int32) (x5 : Int32) (x6 : Int32) (t0_0 : Int32) (t0_1 : Int32) (t0_2 : Int32) (t0_3 : Int64) (t0_4 : Int32) (t0_5 : Int32) (t0_6 : Int32) (t0_7 : Int32) (t0_8 : Int32) (t0_9 : Int32) (t0_10 : Int32) (t1_0 : (Nat → Int32)) (t2_0 : (Nat → Int32)) (t3_0 : (Nat → Int32)) (t4_0 : (Nat → Int32)) (t5_0 : (Nat → Int32)) (t6_0 : (Nat → Int32)) (t7_0 : (Nat → Int32)) : Prop := S_DR_divide_J63 x2 x3 x4 x5 x6 t0_0 t0_1 t0_2 t0_3 t0_4 t0_5 t0_6 t0_7 t0_8 t0_9 t0_10 t1_0 t2_0 t3_0 t4_0 t5_0 t6_0 t7_0 1
def S_DR_divide (x2 : Int32) (x3 : Int32) (x4 : Int32) (x5 : Int32) (x6 : Int32) (t0_0 : Int32) (t0_1 : Int32) (t0_2 : Int32) (t0_3 : Int64) (t0_4 : Int32) (t0_5 : Int32) (t0_6 : Int32) (t0_7 : Int32) (t0_8 : Int32) (t0_9 : Int32) (t0_10 : Int32) (t1_0 : (Nat → Int32)) (t2_0 : (Nat → Int32)) (t3_0 : (Nat → Int32)) (t4_0 : (Nat → Int32)) (t5_0 : (Nat → Int32)) (t6_0 : (Nat → Int32)) (t7_0 : (Nat → Int32)) : Prop := if ((F_DR_no x2) : Int32) = (0 : Int32) then (if ((F_DR_no x3) : Int32) = (0 : Int32) then (if ((F_DR_no x4) : Int32) = (0 : Int32) then (if ((F_DR_noMode x6) : Int32) = (0 : Int32) then (if x5 < (-10000 : Int32) then (S_DR_divide_J46 x2 x3 x4 x5 x6 t0_0 t0_1 t0_2 t0_3 t0_4 t0_5 t0_6 t0_7 t0_8 t0_9 t0_10 t1_0 t2_0 t3_0 t4_0 t5_0 t6_0 t7_0) else (if x5 ≤ (10000 : Int32) then ((True ∧ S_DR_isZero x3 t0_0 t0_1 t0_2 t0_3 t0_4 t0_5 t0_6 t0_7 t0_8 t0_9 t0_10 t1_0) ∧ (if ((F_DR_isZero x3 t0_0 t0_1 t0_2 t0_3 t0_4 t0_5 t0_6 t0_7 t0_8 t0_9 t0_10 t1_0) : Int32) = (0 : Int32) then (S_DR_divide_J63 x2 x3 x4 x5 x6 t0_0 t0_1 t0_2 t0_3 t0_4 t0_5 t0_6 t0_7 t0_8 t0_9 t0_10 t1_0 t2_0 t3_0 t4_0 t5_0 t6_0 t7_0 0) else (S_DR_divide_J63 x2 x3 x4 x5 x6 t0_0 t0_1 t0_2 t0_3 t0_4 t0_5 t0_6 t0_7 t0_8 t0_9 t0_10 t1_0 t2_0 t3_0 t4_0 t5_0 t6_0 t7_0 2))) else (S_DR_divide_J46 x2 x3 x4 x5 x6 t0_0 t0_1 t0_2 t0_3 t0_4 t0_5 t0_6 t0_7 t0_8 t0_9 t0_10 t1_0 t2_0 t3_0 t4_0 t5_0 t6_0 t7_0))) else (S_DR_divide_J46 x2 x3 x4 x5 x6 t0_0 t0_1 t0_2 t0_3 t0_4 t0_5 t0_6 t0_7 t0_8 t0_9 t0_10 t1_0 t2_0 t3_0 t4_0 t5_0 t6_0 t7_0)) else (S_DR_divide_J46 x2 x3 x4 x5 x6 t0_0 t0_1 t0_2 t0_3 t0_4 t0_5 t0_6 t0_7 t0_8 t0_9 t0_10 t1_0 t2_0 t3_0 t4_0 t5_0 t6_0 t7_0)) else (S_DR_divide_J46 x2 x3 x4 x5 x6 t0_0 t0_1 t0_2 t0_3 t0_4 t0_5 t0_6 t0_7 t0_8 t0_9 t0_10 t1_0 t2_0 t3_0 t4_0 t5_0 t6_0 t7_0)) else (S_DR_divide_J46 x2 x3 x4 x5 x6 t0_0 t0_1 t0_2 t0_3 t0_4 t0_5 t0_6 t0_7 t0_8 t0_9 t0_10 t1_0 t2_0 t3_0 t4_0 t5_0 t6_0 t7_0)
set_option maxRecDepth 100000 in
set_option maxHeartbeats 4000000 in
theorem X_DR_divide (l : Launch) (D : va_G) (g : Nat → ClassId) (q : Nat → Nat) (ws : va_W) (x2 : Int32) (x3 : Int32) (x4 : Int32) (x5 : Int32) (x6 : Int32) (hI : q_I (msh g q) q ws) (t0_0 : Int32) (t0_1 : Int32) (t0_2 : Int32) (t0_3 : Int64) (t0_4 : Int32) (t0_5 : Int32) (t0_6 : Int32) (t0_7 : Int32) (t0_8 : Int32) (t0_9 : Int32) (t0_10 : Int32) (hT0 : ws[134]? = (some (q 134, .inr (14, [.int t0_0, .ref (q 135), .int t0_1, .ref (q 136), .ref (q 137), .ref (q 138), .ref (q 139), .ref (q 140), .int t0_2, .long t0_3, .int t0_4, .int t0_5, .ref (q 141), .int t0_6, .ref (q 142), .int t0_7, .ref (q 143), .int t0_8, .ref (q 144), .int t0_9, .int t0_10])) : Option (Nat × va_E))) (t1_0 : (Nat → Int32)) (hT1 : ws[136]? = (some (q 136, .inl (g 0, (10000 : Int32).toNatClampNeg, .inl t1_0)) : Option (Nat × va_E))) (t2_0 : (Nat → Int32)) (hT2 : ws[137]? = (some (q 137, .inl (g 0, (10 : Int32).toNatClampNeg, .inl t2_0)) : Option (Nat × va_E))) (t3_0 : (Nat → Int32)) (hT3 : ws[138]? = (some (q 138, .inl (g 3, 10, .inl t3_0)) : Option (Nat × va_E))) (t4_0 : (Nat → Int32)) (hT4 : ws[139]? = (some (q 139, .inl (g 0, (10 : Int32).toNatClampNeg, .inl t4_0)) : Option (Nat × va_E))) (t5_0 : (Nat → Int32)) (hT5 : ws[140]? = (some (q 140, .inl (g 0, (4400 : Int32).toNatClampNeg, .inl t5_0)) : Option (Nat × va_E))) (t6_0 : (Nat → Int32)) (hT6 : ws[142]? = (some (q 142, .inl (g 0, (2200 : Int32).toNatClampNeg, .inl t6_0)) : Option (Nat × va_E))) (t7_0 : (Nat → Int32)) (hT7 : ws[143]? = (some (q 143, .inl (g 0, (2202 : Int32).toNatClampNeg, .inl t7_0)) : Option (Nat × va_E))) (hS : True ∧ S_DR_divide x2 x3 x4 x5 x6 t0_0 t0_1 t0_2 t0_3 t0_4 t0_5 t0_6 t0_7 t0_8 t0_9 t0_10 t1_0 t2_0 t3_0 t4_0 t5_0 t6_0 t7_0) : q_mV l y_DR_divide prog_15_method_37_code 12 4 0 0 D g [.ref (q 134), .int x2, .int x3, .int x4, .int x5, .int x6] ws (fun u => q_I (msh g q) q u ∧ q_un ws u [134, 136, 137, 138, 139, 140, 142, 143] ∧ ∃ (u0_0 : Int32) (u0_1 : Int32) (u0_2 : Int32) (u0_3 : Int64) (u0_4 : Int32) (u0_5 : Int32) (u0_6 : Int32) (u0_7 : Int32) (u0_8 : Int32) (u0_9 : Int32) (u0_10 : Int32) (u1_0 : (Nat → Int32)) (u2_0 : (Nat → Int32)) (u3_0 : (Nat → Int32)) (u4_0 : (Nat → Int32)) (u5_0 : (Nat → Int32)) (u6_0 : (Nat → Int32)) (u7_0 : (Nat → Int32)), u[134]? = (some (q 134, .inr (14, [.int u0_0, .ref (q 135), .int u0_1, .ref (q 136), .ref (q 137), .ref (q 138), .ref (q 139), .ref (q 140), .int u0_2, .long u0_3, .int u0_4, .int u0_5, .ref (q 141), .int u0_6, .ref (q 142), .int u0_7, .ref (q 143), .int u0_8, .ref (q 144), .int u0_9, .int u0_10])) : Option (Nat × va_E)) ∧ u[136]? = (some (q 136, .inl (g 0, (10000 : Int32).toNatClampNeg, .inl u1_0)) : Option (Nat × va_E)) ∧ u[137]? = (some (q 137, .inl (g 0, (10 : Int32).toNatClampNeg, .inl u2_0)) : Option (Nat × va_E)) ∧ u[138]? = (some (q 138, .inl (g 3, 10, .inl u3_0)) : Option (Nat × va_E)) ∧ u[139]? = (some (q 139, .inl (g 0, (10 : Int32).toNatClampNeg, .inl u4_0)) : Option (Nat × va_E)) ∧ u[140]? = (some (q 140, .inl (g 0, (4400 : Int32).toNatClampNeg, .inl u5_0)) : Option (Nat × va_E)) ∧ u[142]? = (some (q 142, .inl (g 0, (2200 : Int32).toNatClampNeg, .inl u6_0)) : Option (Nat × va_E)) ∧ u[143]? = (some (q 143, .inl (g 0, (2202 : Int32).toNatClampNeg, .inl u7_0)) : Option (Nat × va_E)) ∧ (0 ≤ u0_4.toInt) ∧ (0 ≤ u0_5.toInt) ∧ (t0_1.toInt ≤ u0_1.toInt) ∧ (u0_1.toInt ≤ t0_1.toInt) ∧ (t0_6.toInt ≤ u0_6.toInt) ∧ (u0_6.toInt ≤ t0_6.toInt) ∧ (t0_8.toInt ≤ u0_8.toInt) ∧ (u0_8.toInt ≤ t0_8.toInt) ∧ (t0_9.toInt ≤ u0_9.toInt) ∧ (u0_9.toInt ≤ t0_9.toInt) ∧ (u0_0, u0_1, u0_2, u0_3, u0_4, u0_5, u0_6, u0_7, u0_8, u0_9, u0_10, u1_0, u2_0, u3_0, u4_0, u5_0, u6_0, u7_0) = (F_DR_divide x2 x3 x4 x5 x6 t0_0 t0_1 t0_2 t0_3 t0_4 t0_5 t0_6 t0_7 t0_8 t0_9 t0_10 t1_0 t2_0 t3_0 t4_0 t5_0 t6_0 t7_0)) := by
  intro sz
  refine q_into (by decide) (Nat.le_of_ble_eq_true rfl) ?_
  intro p e s m below meth c ls hsz C0 V hl
  have hx := C0.1
  have hb := C0.2.1
  obtain ⟨btt0_1, hZ9⟩ := n_w134 hI hT0
  obtain ⟨btt0_4, hZ9⟩ := hZ9
  obtain ⟨btt0_5, btt0_9⟩ := hZ9
  replace btt0_1 : q_F (0 ≤ t0_1.toInt ∧ t0_1.toInt ≤ 4100) := btt0_1
  replace btt0_4 : q_F (0 ≤ t0_4.toInt ∧ t0_4.toInt ≤ 1) := btt0_4
  replace btt0_5 : q_F (0 ≤ t0_5.toInt ∧ t0_5.toInt ≤ 1) := btt0_5
  replace btt0_9 : q_F (0 ≤ t0_9.toInt ∧ t0_9.toInt ≤ 12200) := btt0_9
  have hF : q_un ws ws [134, 136, 137, 138, 139, 140, 142, 143] := q_u0
  have hl : lv_has ls 12 [(0, .ref (q 134)), (1, .int x2), (2, .int x3), (3, .int x4), (4, .int x5), (5, .int x6)] := hl
  refine lv_aload_n hx hb d_15_37_0 rfl (lv_at hl 0 rfl) ?_
  refine lv_iload_n hx hb d_15_37_1 rfl (lv_at hl 1 rfl) ?_
  refine q_goi V (q_runS (As := [.int x2]) (rest := [.ref (q 134)]) (d := 1) (mc := 0) (ms := 0) C0 V rfl LS_DR_113 (X_DR_no l D g q ws  x2 hI   _) rfl hl.1 rfl (Nat.le_of_ble_eq_true rfl) ⟨by decide, by decide⟩ ⟨Nat.le_of_ble_eq_true rfl, Nat.le_of_ble_eq_true rfl⟩ d_15_37_2) (fun a40 u38 H locs hp39 V => ?_)
  obtain ⟨rfl, b41, b42, hE43⟩ := hp39
  have e44 : a40 = (F_DR_no x2) := hE43
  clear b41
  clear b42
  refine q_join (X := Int32) (fun z H locs ls _ => q_F (0 ≤ z.toInt) ∧ q_F (z.toInt ≤ 2) ∧ q_Wd D g (va_A ws sz) s ws H locs ∧ lv_has ls 12 [(0, .ref (q 134)), (1, .int x2), (2, .int x3), (3, .int x4), (4, .int x5), (5, .int x6)] ∧ F_DR_divide_J63 x2 x3 x4 x5 x6 t0_0 t0_1 t0_2 t0_3 t0_4 t0_5 t0_6 t0_7 t0_8 t0_9 t0_10 t1_0 t2_0 t3_0 t4_0 t5_0 t6_0 t7_0 z = (F_DR_divide x2 x3 x4 x5 x6 t0_0 t0_1 t0_2 t0_3 t0_4 t0_5 t0_6 t0_7 t0_8 t0_9 t0_10 t1_0 t2_0 t3_0 t4_0 t5_0 t6_0 t7_0) ∧ True ∧ S_DR_divide_J63 x2 x3 x4 x5 x6 t0_0 t0_1 t0_2 t0_3 t0_4 t0_5 t0_6 t0_7 t0_8 t0_9 t0_10 t1_0 t2_0 t3_0 t4_0 t5_0 t6_0 t7_0 z) (fun z => [.int z, .ref (q 134)]) 63 0 0 ?_ ?_
  ·
    rintro lx45 H locs ls _ hZ9
    obtain ⟨i55, hZ9⟩ := hZ9
    replace hZ9 := hZ9.2
    obtain ⟨V, hZ9⟩ := hZ9
    obtain ⟨hl, hZ9⟩ := hZ9
    obtain ⟨hR57, hS58⟩ := hZ9
    replace i55 : q_F (0 ≤ lx45.toInt) := i55
    replace hl : lv_has ls 12 [(0, .ref (q 134)), (1, .int x2), (2, .int x3), (3, .int x4), (4, .int x5), (5, .int x6)] := hl
    refine q_put (ci := 14) (j := 0) (v := .int lx45) (ty := .int) C0 V i_DR o_DR n_DR rfl rfl hT0 (by decide) w_1996 rfl rfl rfl rfl (Nat.le_of_ble_eq_true rfl) d_15_37_63 (fun H locs w62 hu63 hT0 V => ?_)
    replace hT0 : w62[134]? = (some (q 134, .inr (14, [.int lx45, .ref (q 135), .int t0_1, .ref (q 136), .ref (q 137), .ref (q 138), .ref (q 139), .ref (q 140), .int t0_2, .long t0_3, .int t0_4, .int t0_5, .ref (q 141), .int t0_6, .ref (q 142), .int t0_7, .ref (q 143), .int t0_8, .ref (q 144), .int t0_9, .int t0_10])) : Option (Nat × va_E)) := hT0
    replace hI := n_p134 hI hu63 hT0 (by first | with_reducible exact q_fe btt0_1 | exact ⟨(by have t1 : 0 ≤ t0_1.toInt ∧ t0_1.toInt ≤ 4100 := btt0_1; omega), (by have t1 : 0 ≤ t0_1.toInt ∧ t0_1.toInt ≤ 4100 := btt0_1; omega)⟩) (by first | with_reducible exact q_fe btt0_4 | exact ⟨(by have t1 : 0 ≤ t0_4.toInt ∧ t0_4.toInt ≤ 1 := btt0_4; omega), (by have t1 : 0 ≤ t0_4.toInt ∧ t0_4.toInt ≤ 1 := btt0_4; omega)⟩) (by first | with_reducible exact q_fe btt0_5 | exact ⟨(by have t1 : 0 ≤ t0_5.toInt ∧ t0_5.toInt ≤ 1 := btt0_5; omega), (by have t1 : 0 ≤ t0_5.toInt ∧ t0_5.toInt ≤ 1 := btt0_5; omega)⟩) (by first | with_reducible exact q_fe btt0_9 | exact ⟨(by have t1 : 0 ≤ t0_9.toInt ∧ t0_9.toInt ≤ 12200 := btt0_9; omega), (by have t1 : 0 ≤ t0_9.toInt ∧ t0_9.toInt ≤ 12200 := btt0_9; omega)⟩)
    replace hT1 := (hu63 _ (by decide)).trans hT1
    replace hT2 := (hu63 _ (by decide)).trans hT2
    replace hT3 := (hu63 _ (by decide)).trans hT3
    replace hT4 := (hu63 _ (by decide)).trans hT4
    replace hT5 := (hu63 _ (by decide)).trans hT5
    replace hT6 := (hu63 _ (by decide)).trans hT6
    replace hT7 := (hu63 _ (by decide)).trans hT7
    replace hF := q_us hF hu63 (by simp)
    refine lv_aload_n hx hb d_15_37_66 rfl (lv_at hl 0 rfl) ?_
    refine q_get (ci := 14) (j := 0) (v := .int lx45) C0 V i_DR rfl rfl hT0 (by decide) w_1996 rfl d_15_37_67 ?_
    refine lv_if_le (tgt := 74) hx hb d_15_37_70 (by decide) (fun c64 => ?_) (fun c64 => ?_)
    ·
      have b65 : q_F (lx45.toInt ≤ 0) := (q_leI c64)
      refine lv_aload_n hx hb d_15_37_74 rfl (lv_at hl 0 rfl) ?_
      refine lv_iconst (v := 2) hx hb d_15_37_75 (by decide) ?_
      refine q_put (ci := 14) (j := 20) (v := .int 2) (ty := .int) C0 V i_DR o_DR n_DR rfl rfl hT0 (by decide) w_2024 rfl rfl rfl rfl (Nat.le_of_ble_eq_true rfl) d_15_37_76 (fun H locs w66 hu67 hT0 V => ?_)
      replace hT0 : w66[134]? = (some (q 134, .inr (14, [.int lx45, .ref (q 135), .int t0_1, .ref (q 136), .ref (q 137), .ref (q 138), .ref (q 139), .ref (q 140), .int t0_2, .long t0_3, .int t0_4, .int t0_5, .ref (q 141), .int t0_6, .ref (q 142), .int t0_7, .ref (q 143), .int t0_8, .ref (q 144), .int t0_9, .int 2])) : Option (Nat × va_E)) := hT0
      replace hI := n_p134 hI hu67 hT0 (by first | with_reducible exact q_fe btt0_1 | exact ⟨(by have t1 : 0 ≤ t0_1.toInt ∧ t0_1.toInt ≤ 4100 := btt0_1; omega), (by have t1 : 0 ≤ t0_1.toInt ∧ t0_1.toInt ≤ 4100 := btt0_1; omega)⟩) (by first | with_reducible exact q_fe btt0_4 | exact ⟨(by have t1 : 0 ≤ t0_4.toInt ∧ t0_4.toInt ≤ 1 := btt0_4; omega), (by have t1 : 0 ≤ t0_4.toInt ∧ t0_4.toInt ≤ 1 := btt0_4; omega)⟩) (by first | with_reducible exact q_fe btt0_5 | exact ⟨(by have t1 : 0 ≤ t0_5.toInt ∧ t0_5.toInt ≤ 1 := btt0_5; omega), (by have t1 : 0 ≤ t0_5.toInt ∧ t0_5.toInt ≤ 1 := btt0_5; omega)⟩) (by first | with_reducible exact q_fe btt0_9 | exact ⟨(by have t1 : 0 ≤ t0_9.toInt ∧ t0_9.toInt ≤ 12200 := btt0_9; omega), (by have t1 : 0 ≤ t0_9.toInt ∧ t0_9.toInt ≤ 12200 := btt0_9; omega)⟩)
      replace hT1 := (hu67 _ (by decide)).trans hT1
      replace hT2 := (hu67 _ (by decide)).trans hT2
      replace hT3 := (hu67 _ (by decide)).trans hT3
      replace hT4 := (hu67 _ (by decide)).trans hT4
      replace hT5 := (hu67 _ (by decide)).trans hT5
      replace hT6 := (hu67 _ (by decide)).trans hT6
      replace hT7 := (hu67 _ (by decide)).trans hT7
      replace hF := q_us hF hu67 (by simp)
      refine lv_iload hx hb d_15_37_79 (lv_at hl 4 rfl) ?_
      refine lv_i2l hx hb d_15_37_81 rfl ?_
      obtain ⟨j68, e69⟩ := q_nm (x5.toInt64 : Int64)
      refine q_tl (v := j68) e69 ?_
      have b70 : q_F (j68.toInt = x5.toInt) := (by rw [← e69]; show (x5.toInt64 : Int64).toInt = x5.toInt; exact q_i2l rfl)
      refine lv_aload_n hx hb d_15_37_82 rfl (lv_at hl 0 rfl) ?_
      refine q_get (ci := 14) (j := 6) (v := .ref (q 139)) C0 V i_DR rfl rfl hT0 (by decide) w_2008 rfl d_15_37_83 ?_
      refine lv_iload_n hx hb d_15_37_86 rfl (lv_at hl 2 rfl) ?_
      have ob71 : q_F (0 ≤ x3.toInt) := (by have h := hS58; rw [S_DR_divide_J63.eq_1] at h; rw [if_pos c64] at h; exact h.2.1)
      have ob72 : q_F (x3.toInt ≤ 9) := (by have h := hS58; rw [S_DR_divide_J63.eq_1] at h; rw [if_pos c64] at h; replace h := q_s2 h; exact h.2.1)
      refine q_iald C0 V hT4 (q_ix (x := x3.toInt) rfl (by first | with_reducible exact q_fe ob71 | (have t1 : 0 ≤ x3.toInt := ob71; omega)) (by have t1 : 0 ≤ x3.toInt := ob71; have t2 : x3.toInt ≤ 9 := ob72; have e9 : (((10 : Int32).toNatClampNeg : Nat) : Int) = 10 := (by decide); omega)) d_15_37_87 ?_
      obtain ⟨a73, e74⟩ := q_nm (t4_0 x3.toNatClampNeg : Int32)
      refine q_ti (v := a73) e74 ?_
      refine lv_i2l hx hb d_15_37_88 rfl ?_
      obtain ⟨j75, e76⟩ := q_nm (a73.toInt64 : Int64)
      refine q_tl (v := j75) e76 ?_
      have b77 : q_F (j75.toInt = a73.toInt) := (by rw [← e76]; show (a73.toInt64 : Int64).toInt = a73.toInt; exact q_i2l rfl)
      refine lv_ladd hx hb d_15_37_89 ?_
      obtain ⟨j78, e79⟩ := q_nm (j68 + j75 : Int64)
      refine q_tl (v := j78) e79 ?_
      have b80 : q_F (j78.toInt = j68.toInt + j75.toInt) := (by rw [← e79]; show (j68 + j75 : Int64).toInt = j68.toInt + j75.toInt; exact q_addL (x := j68.toInt) (y := j75.toInt) rfl rfl (by have t1 : j68.toInt = x5.toInt := b70; have t2 : j75.toInt = a73.toInt := b77; have _ := q_lo32 (x := a73); have _ := q_hi32 (x := a73); have _ := q_lo32 (x := x5); have _ := q_hi32 (x := x5); omega) (by have t1 : j68.toInt = x5.toInt := b70; have t2 : j75.toInt = a73.toInt := b77; have _ := q_lo32 (x := a73); have _ := q_hi32 (x := a73); have _ := q_lo32 (x := x5); have _ := q_hi32 (x := x5); omega))
      refine lv_aload_n hx hb d_15_37_90 rfl (lv_at hl 0 rfl) ?_
      refine q_get (ci := 14) (j := 6) (v := .ref (q 139)) C0 V i_DR rfl rfl hT0 (by decide) w_2008 rfl d_15_37_91 ?_
      refine lv_iload_n hx hb d_15_37_94 rfl (lv_at hl 1 rfl) ?_
      have ob81 : q_F (0 ≤ x2.toInt) := (by have h := hS58; rw [S_DR_divide_J63.eq_1] at h; rw [if_pos c64] at h; replace h := q_s2 h; replace h := q_s2 h; exact h.2.1)
      have ob82 : q_F (x2.toInt ≤ 9) := (by have h := hS58; rw [S_DR_divide_J63.eq_1] at h; rw [if_pos c64] at h; replace h := q_s2 h; replace h := q_s2 h; replace h := q_s2 h; exact h.2.1)
      refine q_iald C0 V hT4 (q_ix (x := x2.toInt) rfl (by first | with_reducible exact q_fe ob81 | (have t1 : 0 ≤ x2.toInt := ob81; omega)) (by have t1 : 0 ≤ x2.toInt := ob81; have t2 : x2.toInt ≤ 9 := ob82; have e9 : (((10 : Int32).toNatClampNeg : Nat) : Int) = 10 := (by decide); omega)) d_15_37_95 ?_
      obtain ⟨a83, e84⟩ := q_nm (t4_0 x2.toNatClampNeg : Int32)
      refine q_ti (v := a83) e84 ?_
      refine lv_i2l hx hb d_15_37_96 rfl ?_
      obtain ⟨j85, e86⟩ := q_nm (a83.toInt64 : Int64)
      refine q_tl (v := j85) e86 ?_
      have b87 : q_F (j85.toInt = a83.toInt) := (by rw [← e86]; show (a83.toInt64 : Int64).toInt = a83.toInt; exact q_i2l rfl)
      refine lv_lsub hx hb d_15_37_97 ?_
      obtain ⟨j88, e89⟩ := q_nm (j78 - j85 : Int64)
      refine q_tl (v := j88) e89 ?_
      have b90 : q_F (j88.toInt = j78.toInt - j85.toInt) := (by rw [← e89]; show (j78 - j85 : Int64).toInt = j78.toInt - j85.toInt; exact q_subL (x := j78.toInt) (y := j85.toInt) rfl rfl (by have t1 : j68.toInt = x5.toInt := b70; have t2 : j75.toInt = a73.toInt := b77; have t3 : j78.toInt = j68.toInt + j75.toInt := b80; have t4 : j85.toInt = a83.toInt := b87; have _ := q_lo32 (x := a73); have _ := q_hi32 (x := a73); have _ := q_lo32 (x := a83); have _ := q_hi32 (x := a83); have _ := q_lo32 (x := x5); have _ := q_hi32 (x := x5); omega) (by have t1 : j68.toInt = x5.toInt := b70; have t2 : j75.toInt = a73.toInt := b77; have t3 : j78.toInt = j68.toInt + j75.toInt := b80; have t4 : j85.toInt = a83.toInt := b87; have _ := q_lo32 (x := a73); have _ := q_hi32 (x := a73); have _ := q_lo32 (x := a83); have _ := q_hi32 (x := a83); have _ := q_lo32 (x := x5); have _ := q_hi32 (x := x5); omega))
      refine lv_lstore (lv' := [(6, .long j88), (0, .ref (q 134)), (1, .int x2), (2, .int x3), (3, .int x4), (4, .int x5), (5, .int x6)]) hx hb d_15_37_98 hl (by decide) rfl (fun ls hl => ?_)
      refine lv_aload_n hx hb d_15_37_100 rfl (lv_at hl 1 rfl) ?_
      refine q_get (ci := 14) (j := 4) (v := .ref (q 137)) C0 V i_DR rfl rfl hT0 (by decide) w_2004 rfl d_15_37_101 ?_
      refine lv_iload_n hx hb d_15_37_104 rfl (lv_at hl 2 rfl) ?_
      refine q_iald C0 V hT2 (q_ix (x := x2.toInt) rfl (by first | with_reducible exact q_fe ob81 | (have t1 : 0 ≤ x2.toInt := ob81; omega)) (by have t1 : 0 ≤ x2.toInt := ob81; have t2 : x2.toInt ≤ 9 := ob82; have e9 : (((10 : Int32).toNatClampNeg : Nat) : Int) = 10 := (by decide); omega)) d_15_37_105 ?_
      obtain ⟨a91, e92⟩ := q_nm (t2_0 x2.toNatClampNeg : Int32)
      refine q_ti (v := a91) e92 ?_
      refine lv_aload_n hx hb d_15_37_106 rfl (lv_at hl 1 rfl) ?_
      refine q_get (ci := 14) (j := 4) (v := .ref (q 137)) C0 V i_DR rfl rfl hT0 (by decide) w_2004 rfl d_15_37_107 ?_
      refine lv_iload_n hx hb d_15_37_110 rfl (lv_at hl 3 rfl) ?_
      refine q_iald C0 V hT2 (q_ix (x := x3.toInt) rfl (by first | with_reducible exact q_fe ob71 | (have t1 : 0 ≤ x3.toInt := ob71; omega)) (by have t1 : 0 ≤ x3.toInt := ob71; have t2 : x3.toInt ≤ 9 := ob72; have e9 : (((10 : Int32).toNatClampNeg : Nat) : Int) = 10 := (by decide); omega)) d_15_37_111 ?_
      obtain ⟨a93, e94⟩ := q_nm (t2_0 x3.toNatClampNeg : Int32)
      refine q_ti (v := a93) e94 ?_
      refine lv_isub hx hb d_15_37_112 ?_
      obtain ⟨a95, e96⟩ := q_nm (a91 - a93 : Int32)
      refine q_ti (v := a95) e96 ?_
      refine lv_i2l hx hb d_15_37_113 rfl ?_
      obtain ⟨j97, e98⟩ := q_nm (a95.toInt64 : Int64)
      refine q_tl (v := j97) e98 ?_
      refine lv_lload hx hb d_15_37_114 (lv_at hl 0 rfl) ?_
      refine lv_ladd hx hb d_15_37_116 ?_
      obtain ⟨j100, e101⟩ := q_nm (j97 + j88 : Int64)
      refine q_tl (v := j100) e101 ?_
      refine lv_lstore (lv' := [(8, .long j100), (6, .long j88), (0, .ref (q 134)), (1, .int x2), (2, .int x3), (3, .int x4), (4, .int x5), (5, .int x6)]) hx hb d_15_37_117 hl (by decide) rfl (fun ls hl => ?_)
      refine lv_aload_n hx hb d_15_37_119 rfl (lv_at hl 2 rfl) ?_
      refine lv_aload_n hx hb d_15_37_120 rfl (lv_at hl 2 rfl) ?_
      refine q_get (ci := 14) (j := 5) (v := .ref (q 138)) C0 V i_DR rfl rfl hT0 (by decide) w_2006 rfl d_15_37_121 ?_
      refine lv_iload_n hx hb d_15_37_124 rfl (lv_at hl 3 rfl) ?_
      refine q_zald C0 V hT3 (q_ix (x := x2.toInt) rfl (by first | with_reducible exact q_fe ob81 | (have t1 : 0 ≤ x2.toInt := ob81; omega)) (by have t1 : 0 ≤ x2.toInt := ob81; have t2 : x2.toInt ≤ 9 := ob82; omega)) d_15_37_125 ?_
      obtain ⟨a103, e104⟩ := q_nm (t3_0 x2.toNatClampNeg : Int32)
      refine q_ti (v := a103) e104 ?_
      refine lv_aload_n hx hb d_15_37_126 rfl (lv_at hl 2 rfl) ?_
      refine q_get (ci := 14) (j := 5) (v := .ref (q 138)) C0 V i_DR rfl rfl hT0 (by decide) w_2006 rfl d_15_37_127 ?_
      refine lv_iload_n hx hb d_15_37_130 rfl (lv_at hl 4 rfl) ?_
      refine q_zald C0 V hT3 (q_ix (x := x3.toInt) rfl (by first | with_reducible exact q_fe ob71 | (have t1 : 0 ≤ x3.toInt := ob71; omega)) (by have t1 : 0 ≤ x3.toInt := ob71; have t2 : x3.toInt ≤ 9 := ob72; omega)) d_15_37_131 ?_
      obtain ⟨a105, e106⟩ := q_nm (t3_0 x3.toNatClampNeg : Int32)
      refine q_ti (v := a105) e106 ?_
      refine q_join (X := Int32) (fun z H locs ls _ => q_F (lx45.toInt ≤ z.toInt) ∧ q_F (z.toInt ≤ lx45.toInt + 1) ∧ q_Wd D g (va_A ws sz) s w66 H locs ∧ lv_has ls 12 [(8, .long j100), (6, .long j88), (0, .ref (q 134)), (1, .int x2), (2, .int x3), (3, .int x4), (4, .int x5), (5, .int x6)] ∧ F_DR_divide_J140 x2 x3 x4 x5 x6 t0_0 t0_1 t0_2 t0_3 t0_4 t0_5 t0_6 t0_7 t0_8 t0_9 t0_10 t1_0 t2_0 t3_0 t4_0 t5_0 t6_0 t7_0 lx45 j100 j88 z = (F_DR_divide x2 x3 x4 x5 x6 t0_0 t0_1 t0_2 t0_3 t0_4 t0_5 t0_6 t0_7 t0_8 t0_9 t0_10 t1_0 t2_0 t3_0 t4_0 t5_0 t6_0 t7_0) ∧ True ∧ S_DR_divide_J140 x2 x3 x4 x5 x6 t0_0 t0_1 t0_2 t0_3 t0_4 t0_5 t0_6 t0_7 t0_8 t0_9 t0_10 t1_0 t2_0 t3_0 t4_0 t5_0 t6_0 t7_0 lx45 j100 j88 z) (fun z => [.int z, .ref (q 134)]) 140 0 0 ?_ ?_
      ·
        rintro lx107 H locs ls _ hZ9
        obtain ⟨i117, hZ9⟩ := hZ9
        obtain ⟨i118, hZ9⟩ := hZ9
        obtain ⟨V, hZ9⟩ := hZ9
        obtain ⟨hl, hZ9⟩ := hZ9
        obtain ⟨hR119, hS120⟩ := hZ9
        replace i117 : q_F (lx45.toInt ≤ lx107.toInt) := i117
        replace i118 : q_F (lx107.toInt ≤ lx45.toInt + 1) := i118
        replace hl : lv_has ls 12 [(8, .long j100), (6, .long j88), (0, .ref (q 134)), (1, .int x2), (2, .int x3), (3, .int x4), (4, .int x5), (5, .int x6)] := hl
        refine q_put (ci := 14) (j := 11) (v := .int lx107) (ty := .boolean) C0 V i_DR o_DR n_DR rfl rfl hT0 (by decide) w_2014 rfl rfl (q_nz01 (q_Ile (x := 0) (y := lx107.toInt) (by decide) rfl (by have t1 : 0 ≤ lx45.toInt := i55; have t2 : lx45.toInt ≤ lx107.toInt := i117; omega)) (q_Ile (x := lx107.toInt) (y := 1) rfl (by decide) (by have t1 : lx45.toInt ≤ 0 := b65; have t2 : lx107.toInt ≤ lx45.toInt + 1 := i118; omega))) (q_fz01 (q_Ile (x := 0) (y := lx107.toInt) (by decide) rfl (by have t1 : 0 ≤ lx45.toInt := i55; have t2 : lx45.toInt ≤ lx107.toInt := i117; omega)) (q_Ile (x := lx107.toInt) (y := 1) rfl (by decide) (by have t1 : lx45.toInt ≤ 0 := b65; have t2 : lx107.toInt ≤ lx45.toInt + 1 := i118; omega))) (Nat.le_of_ble_eq_true rfl) d_15_37_140 (fun H locs w124 hu125 hT0 V => ?_)
        replace hT0 : w124[134]? = (some (q 134, .inr (14, [.int lx45, .ref (q 135), .int t0_1, .ref (q 136), .ref (q 137), .ref (q 138), .ref (q 139), .ref (q 140), .int t0_2, .long t0_3, .int t0_4, .int lx107, .ref (q 141), .int t0_6, .ref (q 142), .int t0_7, .ref (q 143), .int t0_8, .ref (q 144), .int t0_9, .int 2])) : Option (Nat × va_E)) := hT0
        replace hI := n_p134 hI hu125 hT0 (by first | with_reducible exact q_fe btt0_1 | exact ⟨(by have t1 : 0 ≤ t0_1.toInt ∧ t0_1.toInt ≤ 4100 := btt0_1; omega), (by have t1 : 0 ≤ t0_1.toInt ∧ t0_1.toInt ≤ 4100 := btt0_1; omega)⟩) (by first | with_reducible exact q_fe btt0_4 | exact ⟨(by have t1 : 0 ≤ t0_4.toInt ∧ t0_4.toInt ≤ 1 := btt0_4; omega), (by have t1 : 0 ≤ t0_4.toInt ∧ t0_4.toInt ≤ 1 := btt0_4; omega)⟩) ⟨(by have t1 : 0 ≤ lx45.toInt := i55; have t2 : lx45.toInt ≤ lx107.toInt := i117; omega), (by have t1 : lx45.toInt ≤ 0 := b65; have t2 : lx107.toInt ≤ lx45.toInt + 1 := i118; omega)⟩ (by first | with_reducible exact q_fe btt0_9 | exact ⟨(by have t1 : 0 ≤ t0_9.toInt ∧ t0_9.toInt ≤ 12200 := btt0_9; omega), (by have t1 : 0 ≤ t0_9.toInt ∧ t0_9.toInt ≤ 12200 := btt0_9; omega)⟩)
        replace hT1 := (hu125 _ (by decide)).trans hT1
        replace hT2 := (hu125 _ (by decide)).trans hT2
        replace hT3 := (hu125 _ (by decide)).trans hT3
        replace hT4 := (hu125 _ (by decide)).trans hT4
        replace hT5 := (hu125 _ (by decide)).trans hT5
        replace hT6 := (hu125 _ (by decide)).trans hT6
        replace hT7 := (hu125 _ (by decide)).trans hT7
        replace hF := q_us hF hu125 (by simp)
        refine lv_aload_n hx hb d_15_37_143 rfl (lv_at hl 2 rfl) ?_
        refine lv_iload hx hb d_15_37_144 (lv_at hl 6 rfl) ?_
        refine lv_i2l hx hb d_15_37_146 rfl ?_
        obtain ⟨j126, e127⟩ := q_nm (x5.toInt64 : Int64)
        refine q_tl (v := j126) e127 ?_
        have b128 : q_F (j126.toInt = x5.toInt) := (by rw [← e127]; show (x5.toInt64 : Int64).toInt = x5.toInt; exact q_i2l rfl)
        refine q_put (ci := 14) (j := 9) (v := .long j126) (ty := .long) C0 V i_DR o_DR n_DR rfl rfl hT0 (by decide) w_2012 rfl rfl rfl rfl (Nat.le_of_ble_eq_true rfl) d_15_37_147 (fun H locs w129 hu130 hT0 V => ?_)
        replace hT0 : w129[134]? = (some (q 134, .inr (14, [.int lx45, .ref (q 135), .int t0_1, .ref (q 136), .ref (q 137), .ref (q 138), .ref (q 139), .ref (q 140), .int t0_2, .long j126, .int t0_4, .int lx107, .ref (q 141), .int t0_6, .ref (q 142), .int t0_7, .ref (q 143), .int t0_8, .ref (q 144), .int t0_9, .int 2])) : Option (Nat × va_E)) := hT0
        replace hI := n_p134 hI hu130 hT0 (by first | with_reducible exact q_fe btt0_1 | exact ⟨(by have t1 : 0 ≤ t0_1.toInt ∧ t0_1.toInt ≤ 4100 := btt0_1; omega), (by have t1 : 0 ≤ t0_1.toInt ∧ t0_1.toInt ≤ 4100 := btt0_1; omega)⟩) (by first | with_reducible exact q_fe btt0_4 | exact ⟨(by have t1 : 0 ≤ t0_4.toInt ∧ t0_4.toInt ≤ 1 := btt0_4; omega), (by have t1 : 0 ≤ t0_4.toInt ∧ t0_4.toInt ≤ 1 := btt0_4; omega)⟩) ⟨(by have t1 : 0 ≤ lx45.toInt := i55; have t2 : lx45.toInt ≤ lx107.toInt := i117; omega), (by have t1 : lx45.toInt ≤ 0 := b65; have t2 : lx107.toInt ≤ lx45.toInt + 1 := i118; omega)⟩ (by first | with_reducible exact q_fe btt0_9 | exact ⟨(by have t1 : 0 ≤ t0_9.toInt ∧ t0_9.toInt ≤ 12200 := btt0_9; omega), (by have t1 : 0 ≤ t0_9.toInt ∧ t0_9.toInt ≤ 12200 := btt0_9; omega)⟩)
        replace hT1 := (hu130 _ (by decide)).trans hT1
        replace hT2 := (hu130 _ (by decide)).trans hT2
        replace hT3 := (hu130 _ (by decide)).trans hT3
        replace hT4 := (hu130 _ (by decide)).trans hT4
        replace hT5 := (hu130 _ (by decide)).trans hT5
        replace hT6 := (hu130 _ (by decide)).trans hT6
        replace hT7 := (hu130 _ (by decide)).trans hT7
        replace hF := q_us hF hu130 (by simp)
        refine lv_aload_n hx hb d_15_37_150 rfl (lv_at hl 2 rfl) ?_
        refine lv_iconst (v := 0) hx hb d_15_37_151 (by decide) ?_
        refine q_put (ci := 14) (j := 10) (v := .int 0) (ty := .boolean) C0 V i_DR o_DR n_DR rfl rfl hT0 (by decide) w_2013 rfl rfl rfl rfl (Nat.le_of_ble_eq_true rfl) d_15_37_152 (fun H locs w131 hu132 hT0 V => ?_)
        replace hT0 : w131[134]? = (some (q 134, .inr (14, [.int lx45, .ref (q 135), .int t0_1, .ref (q 136), .ref (q 137), .ref (q 138), .ref (q 139), .ref (q 140), .int t0_2, .long j126, .int 0, .int lx107, .ref (q 141), .int t0_6, .ref (q 142), .int t0_7, .ref (q 143), .int t0_8, .ref (q 144), .int t0_9, .int 2])) : Option (Nat × va_E)) := hT0
        replace hI := n_p134 hI hu132 hT0 (by first | with_reducible exact q_fe btt0_1 | exact ⟨(by have t1 : 0 ≤ t0_1.toInt ∧ t0_1.toInt ≤ 4100 := btt0_1; omega), (by have t1 : 0 ≤ t0_1.toInt ∧ t0_1.toInt ≤ 4100 := btt0_1; omega)⟩) ⟨(by have z9 : (0 : Int32).toInt = 0 := rfl; omega), (by have z9 : (0 : Int32).toInt = 0 := rfl; omega)⟩ ⟨(by have t1 : 0 ≤ lx45.toInt := i55; have t2 : lx45.toInt ≤ lx107.toInt := i117; omega), (by have t1 : lx45.toInt ≤ 0 := b65; have t2 : lx107.toInt ≤ lx45.toInt + 1 := i118; omega)⟩ (by first | with_reducible exact q_fe btt0_9 | exact ⟨(by have t1 : 0 ≤ t0_9.toInt ∧ t0_9.toInt ≤ 12200 := btt0_9; omega), (by have t1 : 0 ≤ t0_9.toInt ∧ t0_9.toInt ≤ 12200 := btt0_9; omega)⟩)
        replace hT1 := (hu132 _ (by decide)).trans hT1
        replace hT2 := (hu132 _ (by decide)).trans hT2
        replace hT3 := (hu132 _ (by decide)).trans hT3
        replace hT4 := (hu132 _ (by decide)).trans hT4
        replace hT5 := (hu132 _ (by decide)).trans hT5
        replace hT6 := (hu132 _ (by decide)).trans hT6
        replace hT7 := (hu132 _ (by decide)).trans hT7
        replace hF := q_us hF hu132 (by simp)
        refine lv_aload_n hx hb d_15_37_155 rfl (lv_at hl 2 rfl) ?_
        refine lv_iconst (v := 0) hx hb d_15_37_156 (by decide) ?_
        refine q_put (ci := 14) (j := 8) (v := .int 0) (ty := .int) C0 V i_DR o_DR n_DR rfl rfl hT0 (by decide) w_2011 rfl rfl rfl rfl (Nat.le_of_ble_eq_true rfl) d_15_37_157 (fun H locs w133 hu134 hT0 V => ?_)
        replace hT0 : w133[134]? = (some (q 134, .inr (14, [.int lx45, .ref (q 135), .int t0_1, .ref (q 136), .ref (q 137), .ref (q 138), .ref (q 139), .ref (q 140), .int 0, .long j126, .int 0, .int lx107, .ref (q 141), .int t0_6, .ref (q 142), .int t0_7, .ref (q 143), .int t0_8, .ref (q 144), .int t0_9, .int 2])) : Option (Nat × va_E)) := hT0
        replace hI := n_p134 hI hu134 hT0 (by first | with_reducible exact q_fe btt0_1 | exact ⟨(by have t1 : 0 ≤ t0_1.toInt ∧ t0_1.toInt ≤ 4100 := btt0_1; omega), (by have t1 : 0 ≤ t0_1.toInt ∧ t0_1.toInt ≤ 4100 := btt0_1; omega)⟩) ⟨(by have z9 : (0 : Int32).toInt = 0 := rfl; omega), (by have z9 : (0 : Int32).toInt = 0 := rfl; omega)⟩ ⟨(by have t1 : 0 ≤ lx45.toInt := i55; have t2 : lx45.toInt ≤ lx107.toInt := i117; omega), (by have t1 : lx45.toInt ≤ 0 := b65; have t2 : lx107.toInt ≤ lx45.toInt + 1 := i118; omega)⟩ (by first | with_reducible exact q_fe btt0_9 | exact ⟨(by have t1 : 0 ≤ t0_9.toInt ∧ t0_9.toInt ≤ 12200 := btt0_9; omega), (by have t1 : 0 ≤ t0_9.toInt ∧ t0_9.toInt ≤ 12200 := btt0_9; omega)⟩)
        replace hT1 := (hu134 _ (by decide)).trans hT1
        replace hT2 := (hu134 _ (by decide)).trans hT2
        replace hT3 := (hu134 _ (by decide)).trans hT3
        replace hT4 := (hu134 _ (by decide)).trans hT4
        replace hT5 := (hu134 _ (by decide)).trans hT5
        replace hT6 := (hu134 _ (by decide)).trans hT6
        replace hT7 := (hu134 _ (by decide)).trans hT7
        replace hF := q_us hF hu134 (by simp)
        refine lv_aload_n hx hb d_15_37_160 rfl (lv_at hl 2 rfl) ?_
        refine lv_iload_n hx hb d_15_37_161 rfl (lv_at hl 3 rfl) ?_
        have ob135 : True ∧ S_DR_isZero x2 lx45 t0_1 (0 : Int32) j126 (0 : Int32) lx107 t0_6 t0_7 t0_8 t0_9 (2 : Int32) t1_0 := (by rw [← e127]; have h := hS120; rw [S_DR_divide_J140.eq_1] at h; with_reducible exact h.2.1)
        refine q_goi V (q_runV (As := [.int x2]) (rest := []) (d := 1) (mc := 0) (ms := 0) (ci := 14) C0 V rfl LV_DR_120 (X_DR_isZero l D g q w133  x2 hI lx45 t0_1 0 j126 0 lx107 t0_6 t0_7 t0_8 t0_9 2 hT0 t1_0 hT1 ob135 _) rfl rfl hT0 rfl hl.1 rfl (Nat.le_of_ble_eq_true rfl) ⟨by decide, by decide⟩ ⟨Nat.le_of_ble_eq_true rfl, Nat.le_of_ble_eq_true rfl⟩ d_15_37_162) (fun a138 u136 H locs hp137 V => ?_)
        obtain ⟨rfl, b139, b140, hE141⟩ := hp137
        have e142 : a138 = (F_DR_isZero x2 lx45 t0_1 (0 : Int32) j126 (0 : Int32) lx107 t0_6 t0_7 t0_8 t0_9 (2 : Int32) t1_0) := hE141
        clear b139
        clear b140
        refine q_join (X := Unit) (fun z H locs ls _ => q_Wd D g (va_A ws sz) s w133 H locs ∧ lv_has ls 12 [(8, .long j100), (6, .long j88), (0, .ref (q 134)), (1, .int x2), (2, .int x3), (3, .int x4), (4, .int x5), (5, .int x6)] ∧ F_DR_divide_J183 x2 x3 x4 x5 x6 t0_0 t0_1 t0_2 t0_3 t0_4 t0_5 t0_6 t0_7 t0_8 t0_9 t0_10 t1_0 t2_0 t3_0 t4_0 t5_0 t6_0 t7_0 lx45 j100 j88 lx107 j126 = (F_DR_divide x2 x3 x4 x5 x6 t0_0 t0_1 t0_2 t0_3 t0_4 t0_5 t0_6 t0_7 t0_8 t0_9 t0_10 t1_0 t2_0 t3_0 t4_0 t5_0 t6_0 t7_0) ∧ True ∧ S_DR_divide_J183 x2 x3 x4 x5 x6 t0_0 t0_1 t0_2 t0_3 t0_4 t0_5 t0_6 t0_7 t0_8 t0_9 t0_10 t1_0 t2_0 t3_0 t4_0 t5_0 t6_0 t7_0 lx45 j100 j88 lx107 j126) (fun z => []) 183 0 0 ?_ ?_
        ·
          rintro _ H locs ls _ ⟨V, hl, hR152, hS153⟩
          replace hl : lv_has ls 12 [(8, .long j100), (6, .long j88), (0, .ref (q 134)), (1, .int x2), (2, .int x3), (3, .int x4), (4, .int x5), (5, .int x6)] := hl
          refine lv_aload_n hx hb d_15_37_183 rfl (lv_at hl 2 rfl) ?_
          refine lv_iload_n hx hb d_15_37_184 rfl (lv_at hl 3 rfl) ?_
          have ob157 : True ∧ S_DR_isZero x2 lx45 t0_1 (0 : Int32) j126 (0 : Int32) lx107 t0_6 t0_7 t0_8 t0_9 (2 : Int32) t1_0 := (by have h := hS153; rw [S_DR_divide_J183.eq_1] at h; with_reducible exact h.2.1)
          refine q_goi V (q_runV (As := [.int x2]) (rest := []) (d := 1) (mc := 0) (ms := 0) (ci := 14) C0 V rfl LV_DR_120 (X_DR_isZero l D g q w133  x2 hI lx45 t0_1 0 j126 0 lx107 t0_6 t0_7 t0_8 t0_9 2 hT0 t1_0 hT1 ob157 _) rfl rfl hT0 rfl hl.1 rfl (Nat.le_of_ble_eq_true rfl) ⟨by decide, by decide⟩ ⟨Nat.le_of_ble_eq_true rfl, Nat.le_of_ble_eq_true rfl⟩ d_15_37_185) (fun a160 u158 H locs hp159 V => ?_)
          obtain ⟨rfl, b161, b162, hE163⟩ := hp159
          have e164 : a160 = (F_DR_isZero x2 lx45 t0_1 (0 : Int32) j126 (0 : Int32) lx107 t0_6 t0_7 t0_8 t0_9 (2 : Int32) t1_0) := hE163
          clear b161
          clear b162
          refine q_join (X := Unit) (fun z H locs ls _ => q_Wd D g (va_A ws sz) s w133 H locs ∧ lv_has ls 12 [(0, .ref (q 134)), (1, .int x2), (3, .int x4), (4, .int x5), (5, .int x6)] ∧ F_DR_divide_J200 x2 x3 x4 x5 x6 t0_0 t0_1 t0_2 t0_3 t0_4 t0_5 t0_6 t0_7 t0_8 t0_9 t0_10 t1_0 t2_0 t3_0 t4_0 t5_0 t6_0 t7_0 lx45 j100 j88 lx107 j126 = (F_DR_divide x2 x3 x4 x5 x6 t0_0 t0_1 t0_2 t0_3 t0_4 t0_5 t0_6 t0_7 t0_8 t0_9 t0_10 t1_0 t2_0 t3_0 t4_0 t5_0 t6_0 t7_0) ∧ True ∧ S_DR_divide_J200 x2 x3 x4 x5 x6 t0_0 t0_1 t0_2 t0_3 t0_4 t0_5 t0_6 t0_7 t0_8 t0_9 t0_10 t1_0 t2_0 t3_0 t4_0 t5_0 t6_0 t7_0 lx45 j100 j88 lx107 j126) (fun z => []) 200 0 0 ?_ ?_
          ·
            rintro _ H locs ls _ ⟨V, hl, hR174, hS175⟩
            replace hl : lv_has ls 12 [(0, .ref (q 134)), (1, .int x2), (3, .int x4), (4, .int x5), (5, .int x6)] := hl
            refine lv_aload_n hx hb d_15_37_200 rfl (lv_at hl 0 rfl) ?_
            refine lv_aload_n hx hb d_15_37_201 rfl (lv_at hl 0 rfl) ?_
            refine lv_iload_n hx hb d_15_37_202 rfl (lv_at hl 1 rfl) ?_
            have ob179 : True ∧ S_DR_isZero x2 lx45 t0_1 (0 : Int32) j126 (0 : Int32) lx107 t0_6 t0_7 t0_8 t0_9 (2 : Int32) t1_0 := (by have h := hS175; rw [S_DR_divide_J200.eq_1] at h; with_reducible exact h.2.1)
            refine q_goi V (q_runV (As := [.int x2]) (rest := [.ref (q 134)]) (d := 1) (mc := 0) (ms := 0) (ci := 14) C0 V rfl LV_DR_120 (X_DR_isZero l D g q w133  x2 hI lx45 t0_1 0 j126 0 lx107 t0_6 t0_7 t0_8 t0_9 2 hT0 t1_0 hT1 ob179 _) rfl rfl hT0 rfl hl.1 rfl (Nat.le_of_ble_eq_true rfl) ⟨by decide, by decide⟩ ⟨Nat.le_of_ble_eq_true rfl, Nat.le_of_ble_eq_true rfl⟩ d_15_37_203) (fun a182 u180 H locs hp181 V => ?_)
            obtain ⟨rfl, b183, b184, hE185⟩ := hp181
            have e186 : a182 = (F_DR_isZero x2 lx45 t0_1 (0 : Int32) j126 (0 : Int32) lx107 t0_6 t0_7 t0_8 t0_9 (2 : Int32) t1_0) := hE185
            clear b183
            clear b184
            refine q_join (X := Int32) (fun z H locs ls _ => q_F (lx45.toInt ≤ z.toInt) ∧ q_F (z.toInt ≤ lx45.toInt + 1) ∧ q_Wd D g (va_A ws sz) s w133 H locs ∧ lv_has ls 12 [(0, .ref (q 134)), (3, .int x4), (4, .int x5), (5, .int x6)] ∧ F_DR_divide_J214 x2 x3 x4 x5 x6 t0_0 t0_1 t0_2 t0_3 t0_4 t0_5 t0_6 t0_7 t0_8 t0_9 t0_10 t1_0 t2_0 t3_0 t4_0 t5_0 t6_0 t7_0 lx45 j100 j88 lx107 j126 z = (F_DR_divide x2 x3 x4 x5 x6 t0_0 t0_1 t0_2 t0_3 t0_4 t0_5 t0_6 t0_7 t0_8 t0_9 t0_10 t1_0 t2_0 t3_0 t4_0 t5_0 t6_0 t7_0) ∧ True ∧ S_DR_divide_J214 x2 x3 x4 x5 x6 t0_0 t0_1 t0_2 t0_3 t0_4 t0_5 t0_6 t0_7 t0_8 t0_9 t0_10 t1_0 t2_0 t3_0 t4_0 t5_0 t6_0 t7_0 lx45 j100 j88 lx107 j126 z) (fun z => [.int z, .ref (q 134)]) 214 0 0 ?_ ?_
            ·
              rintro lx187 H locs ls _ hZ9
              obtain ⟨i197, hZ9⟩ := hZ9
              obtain ⟨i198, hZ9⟩ := hZ9
              obtain ⟨V, hZ9⟩ := hZ9
              obtain ⟨hl, hZ9⟩ := hZ9
              obtain ⟨hR199, hS200⟩ := hZ9
              replace i197 : q_F (lx45.toInt ≤ lx187.toInt) := i197
              replace i198 : q_F (lx187.toInt ≤ lx45.toInt + 1) := i198
              replace hl : lv_has ls 12 [(0, .ref (q 134)), (3, .int x4), (4, .int x5), (5, .int x6)] := hl
              refine q_put (ci := 14) (j := 10) (v := .int lx187) (ty := .boolean) C0 V i_DR o_DR n_DR rfl rfl hT0 (by decide) w_2013 rfl rfl (q_nz01 (q_Ile (x := 0) (y := lx187.toInt) (by decide) rfl (by have t1 : 0 ≤ lx45.toInt := i55; have t2 : lx45.toInt ≤ lx187.toInt := i197; omega)) (q_Ile (x := lx187.toInt) (y := 1) rfl (by decide) (by have t1 : lx45.toInt ≤ 0 := b65; have t2 : lx187.toInt ≤ lx45.toInt + 1 := i198; omega))) (q_fz01 (q_Ile (x := 0) (y := lx187.toInt) (by decide) rfl (by have t1 : 0 ≤ lx45.toInt := i55; have t2 : lx45.toInt ≤ lx187.toInt := i197; omega)) (q_Ile (x := lx187.toInt) (y := 1) rfl (by decide) (by have t1 : lx45.toInt ≤ 0 := b65; have t2 : lx187.toInt ≤ lx45.toInt + 1 := i198; omega))) (Nat.le_of_ble_eq_true rfl) d_15_37_214 (fun H locs w204 hu205 hT0 V => ?_)
              replace hT0 : w204[134]? = (some (q 134, .inr (14, [.int lx45, .ref (q 135), .int t0_1, .ref (q 136), .ref (q 137), .ref (q 138), .ref (q 139), .ref (q 140), .int 0, .long j126, .int lx187, .int lx107, .ref (q 141), .int t0_6, .ref (q 142), .int t0_7, .ref (q 143), .int t0_8, .ref (q 144), .int t0_9, .int 2])) : Option (Nat × va_E)) := hT0
              replace hI := n_p134 hI hu205 hT0 (by first | with_reducible exact q_fe btt0_1 | exact ⟨(by have t1 : 0 ≤ t0_1.toInt ∧ t0_1.toInt ≤ 4100 := btt0_1; omega), (by have t1 : 0 ≤ t0_1.toInt ∧ t0_1.toInt ≤ 4100 := btt0_1; omega)⟩) ⟨(by have t1 : 0 ≤ lx45.toInt := i55; have t2 : lx45.toInt ≤ lx187.toInt := i197; omega), (by have t1 : lx45.toInt ≤ 0 := b65; have t2 : lx187.toInt ≤ lx45.toInt + 1 := i198; omega)⟩ ⟨(by have t1 : 0 ≤ lx45.toInt := i55; have t2 : lx45.toInt ≤ lx107.toInt := i117; omega), (by have t1 : lx45.toInt ≤ 0 := b65; have t2 : lx107.toInt ≤ lx45.toInt + 1 := i118; omega)⟩ (by first | with_reducible exact q_fe btt0_9 | exact ⟨(by have t1 : 0 ≤ t0_9.toInt ∧ t0_9.toInt ≤ 12200 := btt0_9; omega), (by have t1 : 0 ≤ t0_9.toInt ∧ t0_9.toInt ≤ 12200 := btt0_9; omega)⟩)
              replace hT1 := (hu205 _ (by decide)).trans hT1
              replace hT2 := (hu205 _ (by decide)).trans hT2
              replace hT3 := (hu205 _ (by decide)).trans hT3
              replace hT4 := (hu205 _ (by decide)).trans hT4
              replace hT5 := (hu205 _ (by decide)).trans hT5
              replace hT6 := (hu205 _ (by decide)).trans hT6
              replace hT7 := (hu205 _ (by decide)).trans hT7
              replace hF := q_us hF hu205 (by simp)
              refine lv_aload_n hx hb d_15_37_217 rfl (lv_at hl 0 rfl) ?_
              refine q_get (ci := 14) (j := 7) (v := .ref (q 140)) C0 V i_DR rfl rfl hT0 (by decide) w_2010 rfl d_15_37_218 ?_
              refine lv_iconst (v := 0) hx hb d_15_37_221 (by decide) ?_
              refine lv_iconst (v := 0) hx hb d_15_37_222 (by decide) ?_
              refine q_iast C0 V hT5 (q_ix (x := 0) (by decide) (by omega) (by have e9 : (((4400 : Int32).toNatClampNeg : Nat) : Int) = 4400 := (by decide); omega)) d_15_37_223 (fun H locs w206 hu207 hT5 V => ?_)
              replace hI := n_ai' hI (n_r140 g q).1 hu207 hT5 (q_updB (fun _ => s_bnd) s_bnd)
              replace hT0 := (hu207 _ (by decide)).trans hT0
              replace hT1 := (hu207 _ (by decide)).trans hT1
              replace hT2 := (hu207 _ (by decide)).trans hT2
              replace hT3 := (hu207 _ (by decide)).trans hT3
              replace hT4 := (hu207 _ (by decide)).trans hT4
              replace hT6 := (hu207 _ (by decide)).trans hT6
              replace hT7 := (hu207 _ (by decide)).trans hT7
              replace hF := q_us hF hu207 (by simp)
              obtain ⟨f208, e209⟩ := q_nm (upd t5_0 (0 : Int32).toNatClampNeg 0 : (Nat → Int32))
              rw [e209] at hT5
              refine lv_aload_n hx hb d_15_37_224 rfl (lv_at hl 0 rfl) ?_
              refine lv_iconst (v := 1) hx hb d_15_37_225 (by decide) ?_
              refine q_put (ci := 14) (j := 8) (v := .int 1) (ty := .int) C0 V i_DR o_DR n_DR rfl rfl hT0 (by decide) w_2011 rfl rfl rfl rfl (Nat.le_of_ble_eq_true rfl) d_15_37_226 (fun H locs w210 hu211 hT0 V => ?_)
              replace hT0 : w210[134]? = (some (q 134, .inr (14, [.int lx45, .ref (q 135), .int t0_1, .ref (q 136), .ref (q 137), .ref (q 138), .ref (q 139), .ref (q 140), .int 1, .long j126, .int lx187, .int lx107, .ref (q 141), .int t0_6, .ref (q 142), .int t0_7, .ref (q 143), .int t0_8, .ref (q 144), .int t0_9, .int 2])) : Option (Nat × va_E)) := hT0
              replace hI := n_p134 hI hu211 hT0 (by first | with_reducible exact q_fe btt0_1 | exact ⟨(by have t1 : 0 ≤ t0_1.toInt ∧ t0_1.toInt ≤ 4100 := btt0_1; omega), (by have t1 : 0 ≤ t0_1.toInt ∧ t0_1.toInt ≤ 4100 := btt0_1; omega)⟩) ⟨(by have t1 : 0 ≤ lx45.toInt := i55; have t2 : lx45.toInt ≤ lx187.toInt := i197; omega), (by have t1 : lx45.toInt ≤ 0 := b65; have t2 : lx187.toInt ≤ lx45.toInt + 1 := i198; omega)⟩ ⟨(by have t1 : 0 ≤ lx45.toInt := i55; have t2 : lx45.toInt ≤ lx107.toInt := i117; omega), (by have t1 : lx45.toInt ≤ 0 := b65; have t2 : lx107.toInt ≤ lx45.toInt + 1 := i118; omega)⟩ (by first | with_reducible exact q_fe btt0_9 | exact ⟨(by have t1 : 0 ≤ t0_9.toInt ∧ t0_9.toInt ≤ 12200 := btt0_9; omega), (by have t1 : 0 ≤ t0_9.toInt ∧ t0_9.toInt ≤ 12200 := btt0_9; omega)⟩)
              replace hT1 := (hu211 _ (by decide)).trans hT1
              replace hT2 := (hu211 _ (by decide)).trans hT2
              replace hT3 := (hu211 _ (by decide)).trans hT3
              replace hT4 := (hu211 _ (by decide)).trans hT4
              replace hT5 := (hu211 _ (by decide)).trans hT5
              replace hT6 := (hu211 _ (by decide)).trans hT6
              replace hT7 := (hu211 _ (by decide)).trans hT7
              replace hF := q_us hF hu211 (by simp)
              refine lv_aload_n hx hb d_15_37_229 rfl (lv_at hl 0 rfl) ?_
              refine lv_iload hx hb d_15_37_230 (lv_at hl 2 rfl) ?_
              refine lv_i2l hx hb d_15_37_232 rfl ?_
              obtain ⟨j212, e213⟩ := q_nm (x5.toInt64 : Int64)
              refine q_tl (v := j212) e213 ?_
              refine lv_lconst (v := 1) hx hb d_15_37_233 (by decide) ?_
              refine lv_ladd hx hb d_15_37_234 ?_
              obtain ⟨j215, e216⟩ := q_nm (j212 + 1 : Int64)
              refine q_tl (v := j215) e216 ?_
              refine q_put (ci := 14) (j := 9) (v := .long j215) (ty := .long) C0 V i_DR o_DR n_DR rfl rfl hT0 (by decide) w_2012 rfl rfl rfl rfl (Nat.le_of_ble_eq_true rfl) d_15_37_235 (fun H locs w218 hu219 hT0 V => ?_)
              replace hT0 : w218[134]? = (some (q 134, .inr (14, [.int lx45, .ref (q 135), .int t0_1, .ref (q 136), .ref (q 137), .ref (q 138), .ref (q 139), .ref (q 140), .int 1, .long j215, .int lx187, .int lx107, .ref (q 141), .int t0_6, .ref (q 142), .int t0_7, .ref (q 143), .int t0_8, .ref (q 144), .int t0_9, .int 2])) : Option (Nat × va_E)) := hT0
              replace hI := n_p134 hI hu219 hT0 (by first | with_reducible exact q_fe btt0_1 | exact ⟨(by have t1 : 0 ≤ t0_1.toInt ∧ t0_1.toInt ≤ 4100 := btt0_1; omega), (by have t1 : 0 ≤ t0_1.toInt ∧ t0_1.toInt ≤ 4100 := btt0_1; omega)⟩) ⟨(by have t1 : 0 ≤ lx45.toInt := i55; have t2 : lx45.toInt ≤ lx187.toInt := i197; omega), (by have t1 : lx45.toInt ≤ 0 := b65; have t2 : lx187.toInt ≤ lx45.toInt + 1 := i198; omega)⟩ ⟨(by have t1 : 0 ≤ lx45.toInt := i55; have t2 : lx45.toInt ≤ lx107.toInt := i117; omega), (by have t1 : lx45.toInt ≤ 0 := b65; have t2 : lx107.toInt ≤ lx45.toInt + 1 := i118; omega)⟩ (by first | with_reducible exact q_fe btt0_9 | exact ⟨(by have t1 : 0 ≤ t0_9.toInt ∧ t0_9.toInt ≤ 12200 := btt0_9; omega), (by have t1 : 0 ≤ t0_9.toInt ∧ t0_9.toInt ≤ 12200 := btt0_9; omega)⟩)
              replace hT1 := (hu219 _ (by decide)).trans hT1
              replace hT2 := (hu219 _ (by decide)).trans hT2
              replace hT3 := (hu219 _ (by decide)).trans hT3
              replace hT4 := (hu219 _ (by decide)).trans hT4
              replace hT5 := (hu219 _ (by decide)).trans hT5
              replace hT6 := (hu219 _ (by decide)).trans hT6
              replace hT7 := (hu219 _ (by decide)).trans hT7
              replace hF := q_us hF hu219 (by simp)
              refine lv_goto (tgt := 388) hx hb d_15_37_238 (by decide) ?_
              refine lv_aload_n hx hb d_15_37_388 rfl (lv_at hl 0 rfl) ?_
              refine lv_aload_n hx hb d_15_37_389 rfl (lv_at hl 0 rfl) ?_
              refine q_get (ci := 14) (j := 8) (v := .int 1) C0 V i_DR rfl rfl hT0 (by decide) w_2011 rfl d_15_37_390 ?_
              refine lv_iconst (v := 1) hx hb d_15_37_393 (by decide) ?_
              refine lv_isub hx hb d_15_37_394 ?_
              refine q_ti (v := 0) (by decide) ?_
              refine lv_iload hx hb d_15_37_395 (lv_at hl 3 rfl) ?_
              have ob220 : True ∧ S_DR_cut (0 : Int32) x6 lx45 t0_1 (1 : Int32) j215 lx187 lx107 t0_6 t0_7 t0_8 t0_9 (2 : Int32) f208 := (by rw [← e216, ← e213, ← e209]; have h := hS200; rw [S_DR_divide_J214.eq_1] at h; with_reducible exact h.2.1)
              refine q_goi V (q_runV (As := [.int 0, .int x6]) (rest := []) (d := 3) (mc := 0) (ms := 0) (ci := 14) C0 V rfl LV_DR_85 (X_DR_cut l D g q w218  0 x6 hI lx45 t0_1 1 j215 lx187 lx107 t0_6 t0_7 t0_8 t0_9 2 hT0 f208 hT5 ob220 _) rfl rfl hT0 rfl hl.1 rfl (Nat.le_of_ble_eq_true rfl) ⟨by decide, by decide⟩ ⟨Nat.le_of_ble_eq_true rfl, Nat.le_of_ble_eq_true rfl⟩ d_15_37_397) (fun a223 u221 H locs hp222 V => ?_)
              obtain ⟨hI, hZ9⟩ := hp222
              obtain ⟨hu257, hZ9⟩ := hZ9
              obtain ⟨y225, hZ9⟩ := hZ9
              obtain ⟨y226, hZ9⟩ := hZ9
              obtain ⟨y227, hZ9⟩ := hZ9
              obtain ⟨y228, hZ9⟩ := hZ9
              obtain ⟨y229, hZ9⟩ := hZ9
              obtain ⟨y230, hZ9⟩ := hZ9
              obtain ⟨y231, hZ9⟩ := hZ9
              obtain ⟨y232, hZ9⟩ := hZ9
              obtain ⟨y233, hZ9⟩ := hZ9
              obtain ⟨y234, hZ9⟩ := hZ9
              obtain ⟨y235, hZ9⟩ := hZ9
              obtain ⟨f236, hZ9⟩ := hZ9
              obtain ⟨hO224, hZ9⟩ := hZ9
              obtain ⟨hA237, hZ9⟩ := hZ9
              replace hZ9 := hZ9.2.2
              obtain ⟨b240, hZ9⟩ := hZ9
              obtain ⟨b241, hZ9⟩ := hZ9
              obtain ⟨b242, hZ9⟩ := hZ9
              replace hZ9 := hZ9.2
              obtain ⟨b244, hZ9⟩ := hZ9
              replace hZ9 := hZ9.2
              obtain ⟨b246, hZ9⟩ := hZ9
              obtain ⟨b247, hZ9⟩ := hZ9
              replace hZ9 := hZ9.2.2
              obtain ⟨b250, hZ9⟩ := hZ9
              obtain ⟨b251, hZ9⟩ := hZ9
              obtain ⟨b252, hZ9⟩ := hZ9
              obtain ⟨b253, hZ9⟩ := hZ9
              replace hZ9 := hZ9.2
              obtain ⟨-, hE256⟩ := hZ9
              replace hO224 : u221[134]? = (some (q 134, .inr (14, [.int y225, .ref (q 135), .int y226, .ref (q 136), .ref (q 137), .ref (q 138), .ref (q 139), .ref (q 140), .int y227, .long y228, .int y229, .int y230, .ref (q 141), .int y231, .ref (q 142), .int y232, .ref (q 143), .int y233, .ref (q 144), .int y234, .int y235])) : Option (Nat × va_E)) := hO224
              replace hA237 : u221[140]? = (some (q 140, .inl (g 0, (4400 : Int32).toNatClampNeg, .inl f236)) : Option (Nat × va_E)) := hA237
              obtain ⟨p258, e259⟩ : ∃ z, z = (F_DR_cut (0 : Int32) x6 lx45 t0_1 (1 : Int32) j215 lx187 lx107 t0_6 t0_7 t0_8 t0_9 (2 : Int32) f208) := ⟨_, rfl⟩
              have e260 : a223 = p258.1 := congrArg (fun z => z.1) (hE256.trans e259.symm)
              have e261 : y225 = p258.2.1 := congrArg (fun z => z.2.1) (hE256.trans e259.symm)
              have e262 : y226 = p258.2.2.1 := congrArg (fun z => z.2.2.1) (hE256.trans e259.symm)
              have e263 : y227 = p258.2.2.2.1 := congrArg (fun z => z.2.2.2.1) (hE256.trans e259.symm)
              have e264 : y228 = p258.2.2.2.2.1 := congrArg (fun z => z.2.2.2.2.1) (hE256.trans e259.symm)
              have e265 : y229 = p258.2.2.2.2.2.1 := congrArg (fun z => z.2.2.2.2.2.1) (hE256.trans e259.symm)
              have e266 : y230 = p258.2.2.2.2.2.2.1 := congrArg (fun z => z.2.2.2.2.2.2.1) (hE256.trans e259.symm)
              have e267 : y231 = p258.2.2.2.2.2.2.2.1 := congrArg (fun z => z.2.2.2.2.2.2.2.1) (hE256.trans e259.symm)
              have e268 : y232 = p258.2.2.2.2.2.2.2.2.1 := congrArg (fun z => z.2.2.2.2.2.2.2.2.1) (hE256.trans e259.symm)
              have e269 : y233 = p258.2.2.2.2.2.2.2.2.2.1 := congrArg (fun z => z.2.2.2.2.2.2.2.2.2.1) (hE256.trans e259.symm)
              have e270 : y234 = p258.2.2.2.2.2.2.2.2.2.2.1 := congrArg (fun z => z.2.2.2.2.2.2.2.2.2.2.1) (hE256.trans e259.symm)
              have e271 : y235 = p258.2.2.2.2.2.2.2.2.2.2.2.1 := congrArg (fun z => z.2.2.2.2.2.2.2.2.2.2.2.1) (hE256.trans e259.symm)
              have e272 : f236 = p258.2.2.2.2.2.2.2.2.2.2.2.2 := congrArg (fun z => z.2.2.2.2.2.2.2.2.2.2.2.2) (hE256.trans e259.symm)
              replace b240 : q_F (0 ≤ y229.toInt) := b240
              replace b241 : q_F (t0_1.toInt ≤ y226.toInt) := b241
              replace b242 : q_F (y226.toInt ≤ t0_1.toInt) := b242
              replace b244 : q_F (lx107.toInt ≤ y230.toInt) := b244
              replace b246 : q_F (t0_6.toInt ≤ y231.toInt) := b246
              replace b247 : q_F (y231.toInt ≤ t0_6.toInt) := b247
              replace b250 : q_F (t0_8.toInt ≤ y233.toInt) := b250
              replace b251 : q_F (y233.toInt ≤ t0_8.toInt) := b251
              replace b252 : q_F (t0_9.toInt ≤ y234.toInt) := b252
              replace b253 : q_F (y234.toInt ≤ t0_9.toInt) := b253
              replace hT1 := (hu257 _ (by decide)).trans hT1
              replace hT2 := (hu257 _ (by decide)).trans hT2
              replace hT3 := (hu257 _ (by decide)).trans hT3
              replace hT4 := (hu257 _ (by decide)).trans hT4
              replace hT6 := (hu257 _ (by decide)).trans hT6
              replace hT7 := (hu257 _ (by decide)).trans hT7
              replace hF := q_uc hF hu257 (by simp)
              have hR273 := (show F_DR_divide_c397 x2 x3 x4 x5 x6 t0_0 t0_1 t0_2 t0_3 t0_4 t0_5 t0_6 t0_7 t0_8 t0_9 t0_10 t1_0 t2_0 t3_0 t4_0 t5_0 t6_0 t7_0 lx45 j100 j88 lx107 j126 lx187 p258 = (F_DR_divide x2 x3 x4 x5 x6 t0_0 t0_1 t0_2 t0_3 t0_4 t0_5 t0_6 t0_7 t0_8 t0_9 t0_10 t1_0 t2_0 t3_0 t4_0 t5_0 t6_0 t7_0) from Eq.trans (by rw [e259, ← e216, ← e213, ← e209, F_DR_divide_J214.eq_1]) hR199)
              have hS274 := (show True ∧ S_DR_divide_c397 x2 x3 x4 x5 x6 t0_0 t0_1 t0_2 t0_3 t0_4 t0_5 t0_6 t0_7 t0_8 t0_9 t0_10 t1_0 t2_0 t3_0 t4_0 t5_0 t6_0 t7_0 lx45 j100 j88 lx107 j126 lx187 p258 from (by rw [e259, ← e216, ← e213, ← e209]; have h := hS200; rw [S_DR_divide_J214.eq_1] at h; replace h := q_s2 h; with_reducible exact h))
              refine lv_if_eq (tgt := 408) hx hb d_15_37_400 (by decide) (fun c278 => ?_) (fun c278 => ?_)
              ·
                exact q_retv C0 V (⟨hI, hF, y225, y226, y227, y228, y229, y230, y231, y232, y233, y234, y235, t1_0, t2_0, t3_0, t4_0, f236, t6_0, t7_0, hO224, hT1, hT2, hT3, hT4, hA237, hT6, hT7, (show 0 ≤ y229.toInt from (by first | with_reducible exact q_fe b240 | (have t1 : 0 ≤ y229.toInt := b240; omega))), (show 0 ≤ y230.toInt from (by have t1 : 0 ≤ lx45.toInt := i55; have t2 : lx45.toInt ≤ lx107.toInt := i117; have t3 : lx107.toInt ≤ y230.toInt := b244; omega)), (show t0_1.toInt ≤ y226.toInt from (by first | with_reducible exact q_fe b241 | (have t1 : t0_1.toInt ≤ y226.toInt := b241; omega))), (show y226.toInt ≤ t0_1.toInt from (by first | with_reducible exact q_fe b242 | (have t1 : y226.toInt ≤ t0_1.toInt := b242; omega))), (show t0_6.toInt ≤ y231.toInt from (by first | with_reducible exact q_fe b246 | (have t1 : t0_6.toInt ≤ y231.toInt := b246; omega))), (show y231.toInt ≤ t0_6.toInt from (by first | with_reducible exact q_fe b247 | (have t1 : y231.toInt ≤ t0_6.toInt := b247; omega))), (show t0_8.toInt ≤ y233.toInt from (by first | with_reducible exact q_fe b250 | (have t1 : t0_8.toInt ≤ y233.toInt := b250; omega))), (show y233.toInt ≤ t0_8.toInt from (by first | with_reducible exact q_fe b251 | (have t1 : y233.toInt ≤ t0_8.toInt := b251; omega))), (show t0_9.toInt ≤ y234.toInt from (by first | with_reducible exact q_fe b252 | (have t1 : t0_9.toInt ≤ y234.toInt := b252; omega))), (show y234.toInt ≤ t0_9.toInt from (by first | with_reducible exact q_fe b253 | (have t1 : y234.toInt ≤ t0_9.toInt := b253; omega))), (show (y225, y226, y227, y228, y229, y230, y231, y232, y233, y234, y235, t1_0, t2_0, t3_0, t4_0, f236, t6_0, t7_0) = (F_DR_divide x2 x3 x4 x5 x6 t0_0 t0_1 t0_2 t0_3 t0_4 t0_5 t0_6 t0_7 t0_8 t0_9 t0_10 t1_0 t2_0 t3_0 t4_0 t5_0 t6_0 t7_0) from Eq.trans (by have c278x := c278; rw [e260] at c278x; rw [e272, e271, e270, e269, e268, e267, e266, e265, e264, e263, e262, e261, F_DR_divide_c397.eq_1, if_pos c278x]) hR273)⟩) d_15_37_408
              ·
                refine lv_aload_n hx hb d_15_37_403 rfl (lv_at hl 0 rfl) ?_
                refine lv_iload_n hx hb d_15_37_404 rfl (lv_at hl 1 rfl) ?_
                have ob281 : True ∧ S_DR_store x4 y225 y226 y227 y228 y229 y230 y231 y232 y233 y234 y235 t1_0 t2_0 t3_0 t4_0 f236 := (by rw [e272, e271, e270, e269, e268, e267, e266, e265, e264, e263, e262, e261]; have h := hS274; rw [S_DR_divide_c397.eq_1] at h; have c278x := c278; rw [e260] at c278x; rw [if_neg c278x] at h; with_reducible exact h.2.1)
                refine q_gov V (q_runV (As := [.int x4]) (rest := []) (d := 2) (mc := 0) (ms := 0) (ci := 14) C0 V rfl LV_DR_89 (X_DR_store l D g q u221  x4 hI y225 y226 y227 y228 y229 y230 y231 y232 y233 y234 y235 hO224 t1_0 hT1 t2_0 hT2 t3_0 hT3 t4_0 hT4 f236 hA237 ob281 _) rfl rfl hO224 rfl hl.1 rfl (Nat.le_of_ble_eq_true rfl) ⟨by decide, by decide⟩ ⟨Nat.le_of_ble_eq_true rfl, Nat.le_of_ble_eq_true rfl⟩ d_15_37_405) (fun u282 H locs hp283 V => ?_)
                obtain ⟨hI, hZ9⟩ := hp283
                obtain ⟨hu329, hZ9⟩ := hZ9
                obtain ⟨y285, hZ9⟩ := hZ9
                obtain ⟨y286, hZ9⟩ := hZ9
                obtain ⟨y287, hZ9⟩ := hZ9
                obtain ⟨y288, hZ9⟩ := hZ9
                obtain ⟨y289, hZ9⟩ := hZ9
                obtain ⟨y290, hZ9⟩ := hZ9
                obtain ⟨y291, hZ9⟩ := hZ9
                obtain ⟨y292, hZ9⟩ := hZ9
                obtain ⟨y293, hZ9⟩ := hZ9
                obtain ⟨y294, hZ9⟩ := hZ9
                obtain ⟨y295, hZ9⟩ := hZ9
                obtain ⟨f296, hZ9⟩ := hZ9
                obtain ⟨f298, hZ9⟩ := hZ9
                obtain ⟨f300, hZ9⟩ := hZ9
                obtain ⟨f302, hZ9⟩ := hZ9
                obtain ⟨f304, hZ9⟩ := hZ9
                obtain ⟨hO284, hZ9⟩ := hZ9
                obtain ⟨hA297, hZ9⟩ := hZ9
                obtain ⟨hA299, hZ9⟩ := hZ9
                obtain ⟨hA301, hZ9⟩ := hZ9
                obtain ⟨hA303, hZ9⟩ := hZ9
                obtain ⟨hA305, hZ9⟩ := hZ9
                obtain ⟨b306, hZ9⟩ := hZ9
                obtain ⟨b307, hZ9⟩ := hZ9
                obtain ⟨b308, hZ9⟩ := hZ9
                replace hZ9 := hZ9.2.2.2.2
                obtain ⟨b313, hZ9⟩ := hZ9
                replace hZ9 := hZ9.2.2.2
                obtain ⟨b317, hZ9⟩ := hZ9
                obtain ⟨b318, hZ9⟩ := hZ9
                replace hZ9 := hZ9.2.2
                obtain ⟨b321, hZ9⟩ := hZ9
                obtain ⟨b322, hZ9⟩ := hZ9
                replace hZ9 := hZ9.2
                obtain ⟨b324, hZ9⟩ := hZ9
                obtain ⟨b325, hZ9⟩ := hZ9
                replace hZ9 := hZ9.2
                obtain ⟨-, hE328⟩ := hZ9
                replace hO284 : u282[134]? = (some (q 134, .inr (14, [.int y285, .ref (q 135), .int y286, .ref (q 136), .ref (q 137), .ref (q 138), .ref (q 139), .ref (q 140), .int y287, .long y288, .int y289, .int y290, .ref (q 141), .int y291, .ref (q 142), .int y292, .ref (q 143), .int y293, .ref (q 144), .int y294, .int y295])) : Option (Nat × va_E)) := hO284
                replace hA297 : u282[136]? = (some (q 136, .inl (g 0, (10000 : Int32).toNatClampNeg, .inl f296)) : Option (Nat × va_E)) := hA297
                replace hA299 : u282[137]? = (some (q 137, .inl (g 0, (10 : Int32).toNatClampNeg, .inl f298)) : Option (Nat × va_E)) := hA299
                replace hA301 : u282[138]? = (some (q 138, .inl (g 3, 10, .inl f300)) : Option (Nat × va_E)) := hA301
                replace hA303 : u282[139]? = (some (q 139, .inl (g 0, (10 : Int32).toNatClampNeg, .inl f302)) : Option (Nat × va_E)) := hA303
                replace hA305 : u282[140]? = (some (q 140, .inl (g 0, (4400 : Int32).toNatClampNeg, .inl f304)) : Option (Nat × va_E)) := hA305
                obtain ⟨p330, e331⟩ : ∃ z, z = (F_DR_store x4 y225 y226 y227 y228 y229 y230 y231 y232 y233 y234 y235 t1_0 t2_0 t3_0 t4_0 f236) := ⟨_, rfl⟩
                have e332 : y285 = p330.1 := congrArg (fun z => z.1) (hE328.trans e331.symm)
                have e333 : y286 = p330.2.1 := congrArg (fun z => z.2.1) (hE328.trans e331.symm)
                have e334 : y287 = p330.2.2.1 := congrArg (fun z => z.2.2.1) (hE328.trans e331.symm)
                have e335 : y288 = p330.2.2.2.1 := congrArg (fun z => z.2.2.2.1) (hE328.trans e331.symm)
                have e336 : y289 = p330.2.2.2.2.1 := congrArg (fun z => z.2.2.2.2.1) (hE328.trans e331.symm)
                have e337 : y290 = p330.2.2.2.2.2.1 := congrArg (fun z => z.2.2.2.2.2.1) (hE328.trans e331.symm)
                have e338 : y291 = p330.2.2.2.2.2.2.1 := congrArg (fun z => z.2.2.2.2.2.2.1) (hE328.trans e331.symm)
                have e339 : y292 = p330.2.2.2.2.2.2.2.1 := congrArg (fun z => z.2.2.2.2.2.2.2.1) (hE328.trans e331.symm)
                have e340 : y293 = p330.2.2.2.2.2.2.2.2.1 := congrArg (fun z => z.2.2.2.2.2.2.2.2.1) (hE328.trans e331.symm)
                have e341 : y294 = p330.2.2.2.2.2.2.2.2.2.1 := congrArg (fun z => z.2.2.2.2.2.2.2.2.2.1) (hE328.trans e331.symm)
                have e342 : y295 = p330.2.2.2.2.2.2.2.2.2.2.1 := congrArg (fun z => z.2.2.2.2.2.2.2.2.2.2.1) (hE328.trans e331.symm)
                have e343 : f296 = p330.2.2.2.2.2.2.2.2.2.2.2.1 := congrArg (fun z => z.2.2.2.2.2.2.2.2.2.2.2.1) (hE328.trans e331.symm)
                have e344 : f298 = p330.2.2.2.2.2.2.2.2.2.2.2.2.1 := congrArg (fun z => z.2.2.2.2.2.2.2.2.2.2.2.2.1) (hE328.trans e331.symm)
                have e345 : f300 = p330.2.2.2.2.2.2.2.2.2.2.2.2.2.1 := congrArg (fun z => z.2.2.2.2.2.2.2.2.2.2.2.2.2.1) (hE328.trans e331.symm)
                have e346 : f302 = p330.2.2.2.2.2.2.2.2.2.2.2.2.2.2.1 := congrArg (fun z => z.2.2.2.2.2.2.2.2.2.2.2.2.2.2.1) (hE328.trans e331.symm)
                have e347 : f304 = p330.2.2.2.2.2.2.2.2.2.2.2.2.2.2.2 := congrArg (fun z => z.2.2.2.2.2.2.2.2.2.2.2.2.2.2.2) (hE328.trans e331.symm)
                replace b306 : q_F (0 ≤ y290.toInt) := b306
                replace b307 : q_F (y226.toInt ≤ y286.toInt) := b307
                replace b308 : q_F (y286.toInt ≤ y226.toInt) := b308
                replace b313 : q_F (y229.toInt ≤ y289.toInt) := b313
                replace b317 : q_F (y231.toInt ≤ y291.toInt) := b317
                replace b318 : q_F (y291.toInt ≤ y231.toInt) := b318
                replace b321 : q_F (y233.toInt ≤ y293.toInt) := b321
                replace b322 : q_F (y293.toInt ≤ y233.toInt) := b322
                replace b324 : q_F (y234.toInt ≤ y294.toInt) := b324
                replace b325 : q_F (y294.toInt ≤ y234.toInt) := b325
                replace hT6 := (hu329 _ (by decide)).trans hT6
                replace hT7 := (hu329 _ (by decide)).trans hT7
                replace hF := q_uc hF hu329 (by simp)
                have hR348 := (show F_DR_divide_c405 x2 x3 x4 x5 x6 t0_0 t0_1 t0_2 t0_3 t0_4 t0_5 t0_6 t0_7 t0_8 t0_9 t0_10 t1_0 t2_0 t3_0 t4_0 t5_0 t6_0 t7_0 lx45 j100 j88 lx107 j126 lx187 p258 p330 = (F_DR_divide x2 x3 x4 x5 x6 t0_0 t0_1 t0_2 t0_3 t0_4 t0_5 t0_6 t0_7 t0_8 t0_9 t0_10 t1_0 t2_0 t3_0 t4_0 t5_0 t6_0 t7_0) from Eq.trans (by have c278x := c278; rw [e260] at c278x; rw [e331, e272, e271, e270, e269, e268, e267, e266, e265, e264, e263, e262, e261, F_DR_divide_c397.eq_1, if_neg c278x]) hR273)
                have hS349 := (show True ∧ S_DR_divide_c405 x2 x3 x4 x5 x6 t0_0 t0_1 t0_2 t0_3 t0_4 t0_5 t0_6 t0_7 t0_8 t0_9 t0_10 t1_0 t2_0 t3_0 t4_0 t5_0 t6_0 t7_0 lx45 j100 j88 lx107 j126 lx187 p258 p330 from (by rw [e331, e272, e271, e270, e269, e268, e267, e266, e265, e264, e263, e262, e261]; have h := hS274; rw [S_DR_divide_c397.eq_1] at h; have c278x := c278; rw [e260] at c278x; rw [if_neg c278x] at h; replace h := q_s2 h; with_reducible exact h))
                exact q_retv C0 V (⟨hI, hF, y285, y286, y287, y288, y289, y290, y291, y292, y293, y294, y295, f296, f298, f300, f302, f304, t6_0, t7_0, hO284, hA297, hA299, hA301, hA303, hA305, hT6, hT7, (show 0 ≤ y289.toInt from (by have t1 : 0 ≤ y229.toInt := b240; have t2 : y229.toInt ≤ y289.toInt := b313; omega)), (show 0 ≤ y290.toInt from (by first | with_reducible exact q_fe b306 | (have t1 : 0 ≤ y290.toInt := b306; omega))), (show t0_1.toInt ≤ y286.toInt from (by have t1 : t0_1.toInt ≤ y226.toInt := b241; have t2 : y226.toInt ≤ y286.toInt := b307; omega)), (show y286.toInt ≤ t0_1.toInt from (by have t1 : y226.toInt ≤ t0_1.toInt := b242; have t2 : y286.toInt ≤ y226.toInt := b308; omega)), (show t0_6.toInt ≤ y291.toInt from (by have t1 : t0_6.toInt ≤ y231.toInt := b246; have t2 : y231.toInt ≤ y291.toInt := b317; omega)), (show y291.toInt ≤ t0_6.toInt from (by have t1 : y231.toInt ≤ t0_6.toInt := b247; have t2 : y291.toInt ≤ y231.toInt := b318; omega)), (show t0_8.toInt ≤ y293.toInt from (by have t1 : t0_8.toInt ≤ y233.toInt := b250; have t2 : y233.toInt ≤ y293.toInt := b321; omega)), (show y293.toInt ≤ t0_8.toInt from (by have t1 : y233.toInt ≤ t0_8.toInt := b251; have t2 : y293.toInt ≤ y233.toInt := b322; omega)), (show t0_9.toInt ≤ y294.toInt from (by have t1 : t0_9.toInt ≤ y234.toInt := b252; have t2 : y234.toInt ≤ y294.toInt := b324; omega)), (show y294.toInt ≤ t0_9.toInt from (by have t1 : y234.toInt ≤ t0_9.toInt := b253; have t2 : y294.toInt ≤ y234.toInt := b325; omega)), (show (y285, y286, y287, y288, y289, y290, y291, y292, y293, y294, y295, f296, f298, f300, f302, f304, t6_0, t7_0) = (F_DR_divide x2 x3 x4 x5 x6 t0_0 t0_1 t0_2 t0_3 t0_4 t0_5 t0_6 t0_7 t0_8 t0_9 t0_10 t1_0 t2_0 t3_0 t4_0 t5_0 t6_0 t7_0) from Eq.trans (by rw [e347, e346, e345, e344, e343, e342, e341, e340, e339, e338, e337, e336, e335, e334, e333, e332, F_DR_divide_c405.eq_1]) hR348)⟩) d_15_37_408
            ·
              intro J196
              refine lv_if_ne (tgt := 213) hx hb d_15_37_206 (by decide) (fun c353 => ?_) (fun c353 => ?_)
              ·
                refine lv_iconst (v := 0) hx hb d_15_37_213 (by decide) ?_
                exact J196 ((0 : Int32)) _ _ _ w133 ⟨(show q_F (lx45.toInt ≤ 0) from (show lx45.toInt ≤ 0 from by have t1 : lx45.toInt ≤ 0 := b65; omega)), (show q_F (0 ≤ lx45.toInt + 1) from (show 0 ≤ lx45.toInt + 1 from by have t1 : 0 ≤ lx45.toInt := i55; omega)), V, q_lw hl (q_lw1 0 rfl (q_lw1 2 rfl (q_lw1 3 rfl (q_lw1 4 rfl q_lw0)))), (show F_DR_divide_J214 x2 x3 x4 x5 x6 t0_0 t0_1 t0_2 t0_3 t0_4 t0_5 t0_6 t0_7 t0_8 t0_9 t0_10 t1_0 t2_0 t3_0 t4_0 t5_0 t6_0 t7_0 lx45 j100 j88 lx107 j126 0 = (F_DR_divide x2 x3 x4 x5 x6 t0_0 t0_1 t0_2 t0_3 t0_4 t0_5 t0_6 t0_7 t0_8 t0_9 t0_10 t1_0 t2_0 t3_0 t4_0 t5_0 t6_0 t7_0) from Eq.trans (by have c353x := c353; rw [e186] at c353x; rw [F_DR_divide_J200.eq_1, if_neg c353x]) hR174), (show True ∧ S_DR_divide_J214 x2 x3 x4 x5 x6 t0_0 t0_1 t0_2 t0_3 t0_4 t0_5 t0_6 t0_7 t0_8 t0_9 t0_10 t1_0 t2_0 t3_0 t4_0 t5_0 t6_0 t7_0 lx45 j100 j88 lx107 j126 0 from (by have h := hS175; rw [S_DR_divide_J200.eq_1] at h; replace h := q_s2 h; have c353x := c353; rw [e186] at c353x; rw [if_neg c353x] at h; with_reducible exact h))⟩
              ·
                refine lv_iconst (v := 1) hx hb d_15_37_209 (by decide) ?_
                refine lv_goto (tgt := 214) hx hb d_15_37_210 (by decide) ?_
                exact J196 ((1 : Int32)) _ _ _ w133 ⟨(show q_F (lx45.toInt ≤ 1) from (show lx45.toInt ≤ 1 from by have t1 : lx45.toInt ≤ 0 := b65; omega)), (show q_F (1 ≤ lx45.toInt + 1) from (show 1 ≤ lx45.toInt + 1 from by have t1 : 0 ≤ lx45.toInt := i55; omega)), V, q_lw hl (q_lw1 0 rfl (q_lw1 2 rfl (q_lw1 3 rfl (q_lw1 4 rfl q_lw0)))), (show F_DR_divide_J214 x2 x3 x4 x5 x6 t0_0 t0_1 t0_2 t0_3 t0_4 t0_5 t0_6 t0_7 t0_8 t0_9 t0_10 t1_0 t2_0 t3_0 t4_0 t5_0 t6_0 t7_0 lx45 j100 j88 lx107 j126 1 = (F_DR_divide x2 x3 x4 x5 x6 t0_0 t0_1 t0_2 t0_3 t0_4 t0_5 t0_6 t0_7 t0_8 t0_9 t0_10 t1_0 t2_0 t3_0 t4_0 t5_0 t6_0 t7_0) from Eq.trans (by have c353x := c353; rw [e186] at c353x; rw [F_DR_divide_J200.eq_1, if_pos c353x]) hR174), (show True ∧ S_DR_divide_J214 x2 x3 x4 x5 x6 t0_0 t0_1 t0_2 t0_3 t0_4 t0_5 t0_6 t0_7 t0_8 t0_9 t0_10 t1_0 t2_0 t3_0 t4_0 t5_0 t6_0 t7_0 lx45 j100 j88 lx107 j126 1 from (by have h := hS175; rw [S_DR_divide_J200.eq_1] at h; replace h := q_s2 h; have c353x := c353; rw [e186] at c353x; rw [if_pos c353x] at h; with_reducible exact h))⟩
          ·
            intro J173
            refine lv_if_ne (tgt := 200) hx hb d_15_37_188 (by decide) (fun c356 => ?_) (fun c356 => ?_)
            ·
              exact J173 (()) _ _ _ w133 ⟨V, q_lw hl (q_lw1 2 rfl (q_lw1 3 rfl (q_lw1 5 rfl (q_lw1 6 rfl (q_lw1 7 rfl q_lw0))))), (show F_DR_divide_J200 x2 x3 x4 x5 x6 t0_0 t0_1 t0_2 t0_3 t0_4 t0_5 t0_6 t0_7 t0_8 t0_9 t0_10 t1_0 t2_0 t3_0 t4_0 t5_0 t6_0 t7_0 lx45 j100 j88 lx107 j126 = (F_DR_divide x2 x3 x4 x5 x6 t0_0 t0_1 t0_2 t0_3 t0_4 t0_5 t0_6 t0_7 t0_8 t0_9 t0_10 t1_0 t2_0 t3_0 t4_0 t5_0 t6_0 t7_0) from Eq.trans (by have c356x := c356; rw [e164] at c356x; rw [F_DR_divide_J183.eq_1, if_neg c356x]) hR152), (show True ∧ S_DR_divide_J200 x2 x3 x4 x5 x6 t0_0 t0_1 t0_2 t0_3 t0_4 t0_5 t0_6 t0_7 t0_8 t0_9 t0_10 t1_0 t2_0 t3_0 t4_0 t5_0 t6_0 t7_0 lx45 j100 j88 lx107 j126 from (by have h := hS153; rw [S_DR_divide_J183.eq_1] at h; replace h := q_s2 h; have c356x := c356; rw [e164] at c356x; rw [if_neg c356x] at h; with_reducible exact h))⟩
            ·
              refine lv_lload hx hb d_15_37_191 (lv_at hl 0 rfl) ?_
              refine q_ldc2 C0 rfl w_2811 d_15_37_193 ?_
              refine W.lcmp hx hb d_15_37_196 ?_
              obtain ⟨a359, e360⟩ := q_nm (lg_cmp j100 (-1) : Int32)
              refine q_ti (v := a359) e360 ?_
              refine lv_if_ge (tgt := 241) hx hb d_15_37_197 (by decide) (fun c362 => ?_) (fun c362 => ?_)
              ·
                refine lv_aload_n hx hb d_15_37_241 rfl (lv_at hl 2 rfl) ?_
                refine lv_iload_n hx hb d_15_37_242 rfl (lv_at hl 4 rfl) ?_
                refine lv_lload hx hb d_15_37_243 (lv_at hl 1 rfl) ?_
                refine lv_lconst (v := 0) hx hb d_15_37_245 (by decide) ?_
                refine W.lcmp hx hb d_15_37_246 ?_
                obtain ⟨a364, e365⟩ := q_nm (lg_cmp j88 0 : Int32)
                refine q_ti (v := a364) e365 ?_
                refine q_join (X := Int32) (fun z H locs ls _ => q_Wd D g (va_A ws sz) s w133 H locs ∧ lv_has ls 12 [(6, .long j88), (0, .ref (q 134)), (1, .int x2), (3, .int x4), (4, .int x5), (5, .int x6)] ∧ F_DR_divide_J258 x2 x3 x4 x5 x6 t0_0 t0_1 t0_2 t0_3 t0_4 t0_5 t0_6 t0_7 t0_8 t0_9 t0_10 t1_0 t2_0 t3_0 t4_0 t5_0 t6_0 t7_0 lx45 j100 j88 lx107 j126 z = (F_DR_divide x2 x3 x4 x5 x6 t0_0 t0_1 t0_2 t0_3 t0_4 t0_5 t0_6 t0_7 t0_8 t0_9 t0_10 t1_0 t2_0 t3_0 t4_0 t5_0 t6_0 t7_0) ∧ True ∧ S_DR_divide_J258 x2 x3 x4 x5 x6 t0_0 t0_1 t0_2 t0_3 t0_4 t0_5 t0_6 t0_7 t0_8 t0_9 t0_10 t1_0 t2_0 t3_0 t4_0 t5_0 t6_0 t7_0 lx45 j100 j88 lx107 j126 z) (fun z => [.int z, .int x3, .ref (q 134)]) 258 0 0 ?_ ?_
                ·
                  rintro lx367 H locs ls _ ⟨V, hl, hR377, hS378⟩
                  replace hl : lv_has ls 12 [(6, .long j88), (0, .ref (q 134)), (1, .int x2), (3, .int x4), (4, .int x5), (5, .int x6)] := hl
                  have ob382 : True ∧ S_DR_loadUnder x3 lx367 lx45 t0_1 (0 : Int32) j126 (0 : Int32) lx107 t0_6 t0_7 t0_8 t0_9 (2 : Int32) t1_0 t2_0 t6_0 := (by have h := hS378; rw [S_DR_divide_J258.eq_1] at h; with_reducible exact h.2.1)
                  refine q_gov V (q_runV (As := [.int x3, .int lx367]) (rest := []) (d := 1) (mc := 0) (ms := 0) (ci := 14) C0 V rfl LV_DR_150 (X_DR_loadUnder l D g q w133  x3 lx367 hI lx45 t0_1 0 j126 0 lx107 t0_6 t0_7 t0_8 t0_9 2 hT0 t1_0 hT1 t2_0 hT2 t6_0 hT6 ob382 _) rfl rfl hT0 rfl hl.1 rfl (Nat.le_of_ble_eq_true rfl) ⟨by decide, by decide⟩ ⟨Nat.le_of_ble_eq_true rfl, Nat.le_of_ble_eq_true rfl⟩ d_15_37_258) (fun u383 H locs hp384 V => ?_)
                  obtain ⟨hI, hZ9⟩ := hp384
                  obtain ⟨hu430, hZ9⟩ := hZ9
                  obtain ⟨y386, hZ9⟩ := hZ9
                  obtain ⟨y387, hZ9⟩ := hZ9
                  obtain ⟨y388, hZ9⟩ := hZ9
                  obtain ⟨y389, hZ9⟩ := hZ9
                  obtain ⟨y390, hZ9⟩ := hZ9
                  obtain ⟨y391, hZ9⟩ := hZ9
                  obtain ⟨y392, hZ9⟩ := hZ9
                  obtain ⟨y393, hZ9⟩ := hZ9
                  obtain ⟨y394, hZ9⟩ := hZ9
                  obtain ⟨y395, hZ9⟩ := hZ9
                  obtain ⟨y396, hZ9⟩ := hZ9
                  obtain ⟨f397, hZ9⟩ := hZ9
                  obtain ⟨hO385, hZ9⟩ := hZ9
                  obtain ⟨hA398, hZ9⟩ := hZ9
                  replace hZ9 := hZ9.2
                  obtain ⟨b400, hZ9⟩ := hZ9
                  obtain ⟨b401, hZ9⟩ := hZ9
                  replace hZ9 := hZ9.2.2
                  obtain ⟨b404, hZ9⟩ := hZ9
                  obtain ⟨b405, hZ9⟩ := hZ9
                  replace hZ9 := hZ9.2.2
                  obtain ⟨b408, hZ9⟩ := hZ9
                  obtain ⟨b409, hZ9⟩ := hZ9
                  replace hZ9 := hZ9.2.2.2.2.2
                  obtain ⟨b415, hZ9⟩ := hZ9
                  replace hZ9 := hZ9.2.2
                  obtain ⟨b418, hZ9⟩ := hZ9
                  obtain ⟨b419, hZ9⟩ := hZ9
                  replace hZ9 := hZ9.2
                  obtain ⟨b421, hZ9⟩ := hZ9
                  obtain ⟨b422, hZ9⟩ := hZ9
                  replace hZ9 := hZ9.2.2
                  obtain ⟨b425, hZ9⟩ := hZ9
                  obtain ⟨b426, hZ9⟩ := hZ9
                  replace hZ9 := hZ9.2
                  obtain ⟨-, hE429⟩ := hZ9
                  replace hO385 : u383[134]? = (some (q 134, .inr (14, [.int y386, .ref (q 135), .int y387, .ref (q 136), .ref (q 137), .ref (q 138), .ref (q 139), .ref (q 140), .int y388, .long y389, .int y390, .int y391, .ref (q 141), .int y392, .ref (q 142), .int y393, .ref (q 143), .int y394, .ref (q 144), .int y395, .int y396])) : Option (Nat × va_E)) := hO385
                  replace hA398 : u383[142]? = (some (q 142, .inl (g 0, (2200 : Int32).toNatClampNeg, .inl f397)) : Option (Nat × va_E)) := hA398
                  obtain ⟨p431, e432⟩ : ∃ z, z = (F_DR_loadUnder x3 lx367 lx45 t0_1 (0 : Int32) j126 (0 : Int32) lx107 t0_6 t0_7 t0_8 t0_9 (2 : Int32) t1_0 t2_0 t6_0) := ⟨_, rfl⟩
                  have e433 : y386 = p431.1 := congrArg (fun z => z.1) (hE429.trans e432.symm)
                  have e434 : y387 = p431.2.1 := congrArg (fun z => z.2.1) (hE429.trans e432.symm)
                  have e435 : y388 = p431.2.2.1 := congrArg (fun z => z.2.2.1) (hE429.trans e432.symm)
                  have e436 : y389 = p431.2.2.2.1 := congrArg (fun z => z.2.2.2.1) (hE429.trans e432.symm)
                  have e437 : y390 = p431.2.2.2.2.1 := congrArg (fun z => z.2.2.2.2.1) (hE429.trans e432.symm)
                  have e438 : y391 = p431.2.2.2.2.2.1 := congrArg (fun z => z.2.2.2.2.2.1) (hE429.trans e432.symm)
                  have e439 : y392 = p431.2.2.2.2.2.2.1 := congrArg (fun z => z.2.2.2.2.2.2.1) (hE429.trans e432.symm)
                  have e440 : y393 = p431.2.2.2.2.2.2.2.1 := congrArg (fun z => z.2.2.2.2.2.2.2.1) (hE429.trans e432.symm)
                  have e441 : y394 = p431.2.2.2.2.2.2.2.2.1 := congrArg (fun z => z.2.2.2.2.2.2.2.2.1) (hE429.trans e432.symm)
                  have e442 : y395 = p431.2.2.2.2.2.2.2.2.2.1 := congrArg (fun z => z.2.2.2.2.2.2.2.2.2.1) (hE429.trans e432.symm)
                  have e443 : y396 = p431.2.2.2.2.2.2.2.2.2.2.1 := congrArg (fun z => z.2.2.2.2.2.2.2.2.2.2.1) (hE429.trans e432.symm)
                  have e444 : f397 = p431.2.2.2.2.2.2.2.2.2.2.2 := congrArg (fun z => z.2.2.2.2.2.2.2.2.2.2.2) (hE429.trans e432.symm)
                  replace b400 : q_F (lx45.toInt ≤ y386.toInt) := b400
                  replace b401 : q_F (y386.toInt ≤ lx45.toInt) := b401
                  replace b404 : q_F (t0_1.toInt ≤ y387.toInt) := b404
                  replace b405 : q_F (y387.toInt ≤ t0_1.toInt) := b405
                  replace b408 : q_F (j126.toInt ≤ y389.toInt) := b408
                  replace b409 : q_F (y389.toInt ≤ j126.toInt) := b409
                  replace b415 : q_F (y391.toInt ≤ x3.toInt + 1) := b415
                  replace b418 : q_F (t0_6.toInt ≤ y392.toInt) := b418
                  replace b419 : q_F (y392.toInt ≤ t0_6.toInt) := b419
                  replace b421 : q_F (t0_8.toInt ≤ y394.toInt) := b421
                  replace b422 : q_F (y394.toInt ≤ t0_8.toInt) := b422
                  replace b425 : q_F (t0_9.toInt ≤ y395.toInt) := b425
                  replace b426 : q_F (y395.toInt ≤ t0_9.toInt) := b426
                  replace hT1 := (hu430 _ (by decide)).trans hT1
                  replace hT2 := (hu430 _ (by decide)).trans hT2
                  replace hT3 := (hu430 _ (by decide)).trans hT3
                  replace hT4 := (hu430 _ (by decide)).trans hT4
                  replace hT5 := (hu430 _ (by decide)).trans hT5
                  replace hT7 := (hu430 _ (by decide)).trans hT7
                  replace hF := q_uc hF hu430 (by simp)
                  have hR445 := (show F_DR_divide_c258 x2 x3 x4 x5 x6 t0_0 t0_1 t0_2 t0_3 t0_4 t0_5 t0_6 t0_7 t0_8 t0_9 t0_10 t1_0 t2_0 t3_0 t4_0 t5_0 t6_0 t7_0 lx45 j100 j88 lx107 j126 lx367 p431 = (F_DR_divide x2 x3 x4 x5 x6 t0_0 t0_1 t0_2 t0_3 t0_4 t0_5 t0_6 t0_7 t0_8 t0_9 t0_10 t1_0 t2_0 t3_0 t4_0 t5_0 t6_0 t7_0) from Eq.trans (by rw [e432, F_DR_divide_J258.eq_1]) hR377)
                  have hS446 := (show True ∧ S_DR_divide_c258 x2 x3 x4 x5 x6 t0_0 t0_1 t0_2 t0_3 t0_4 t0_5 t0_6 t0_7 t0_8 t0_9 t0_10 t1_0 t2_0 t3_0 t4_0 t5_0 t6_0 t7_0 lx45 j100 j88 lx107 j126 lx367 p431 from (by rw [e432]; have h := hS378; rw [S_DR_divide_J258.eq_1] at h; replace h := q_s2 h; with_reducible exact h))
                  refine lv_aload_n hx hb d_15_37_261 rfl (lv_at hl 1 rfl) ?_
                  have ob450 : True ∧ S_DR_beginQuotient y386 y387 y388 y389 y390 y391 y392 y393 y394 y395 y396 t7_0 := (by rw [e443, e442, e441, e440, e439, e438, e437, e436, e435, e434, e433]; have h := hS446; rw [S_DR_divide_c258.eq_1] at h; with_reducible exact h.2.1)
                  refine q_gov V (q_runV (As := []) (rest := []) (d := 1) (mc := 0) (ms := 0) (ci := 14) C0 V rfl LV_DR_154 (X_DR_beginQuotient l D g q u383   hI y386 y387 y388 y389 y390 y391 y392 y393 y394 y395 y396 hO385 t7_0 hT7 ob450 _) rfl rfl hO385 rfl hl.1 rfl (Nat.le_of_ble_eq_true rfl) ⟨by decide, by decide⟩ ⟨Nat.le_of_ble_eq_true rfl, Nat.le_of_ble_eq_true rfl⟩ d_15_37_262) (fun u451 H locs hp452 V => ?_)
                  obtain ⟨hI, hZ9⟩ := hp452
                  obtain ⟨hu491, hZ9⟩ := hZ9
                  obtain ⟨y454, hZ9⟩ := hZ9
                  obtain ⟨y455, hZ9⟩ := hZ9
                  obtain ⟨y456, hZ9⟩ := hZ9
                  obtain ⟨y457, hZ9⟩ := hZ9
                  obtain ⟨y458, hZ9⟩ := hZ9
                  obtain ⟨y459, hZ9⟩ := hZ9
                  obtain ⟨y460, hZ9⟩ := hZ9
                  obtain ⟨y461, hZ9⟩ := hZ9
                  obtain ⟨y462, hZ9⟩ := hZ9
                  obtain ⟨y463, hZ9⟩ := hZ9
                  obtain ⟨y464, hZ9⟩ := hZ9
                  obtain ⟨f465, hZ9⟩ := hZ9
                  obtain ⟨hO453, hZ9⟩ := hZ9
                  obtain ⟨hA466, hZ9⟩ := hZ9
                  replace hZ9 := hZ9.2
                  obtain ⟨b468, hZ9⟩ := hZ9
                  obtain ⟨b469, hZ9⟩ := hZ9
                  obtain ⟨b470, hZ9⟩ := hZ9
                  obtain ⟨b471, hZ9⟩ := hZ9
                  obtain ⟨b472, hZ9⟩ := hZ9
                  obtain ⟨b473, hZ9⟩ := hZ9
                  obtain ⟨b474, hZ9⟩ := hZ9
                  replace hZ9 := hZ9.2.2.2
                  obtain ⟨b478, hZ9⟩ := hZ9
                  obtain ⟨b479, hZ9⟩ := hZ9
                  obtain ⟨b480, hZ9⟩ := hZ9
                  replace hZ9 := hZ9.2.2
                  obtain ⟨b483, hZ9⟩ := hZ9
                  obtain ⟨b484, hZ9⟩ := hZ9
                  obtain ⟨b485, hZ9⟩ := hZ9
                  obtain ⟨b486, hZ9⟩ := hZ9
                  replace hZ9 := hZ9.2.2
                  obtain ⟨-, hE490⟩ := hZ9
                  replace hO453 : u451[134]? = (some (q 134, .inr (14, [.int y454, .ref (q 135), .int y455, .ref (q 136), .ref (q 137), .ref (q 138), .ref (q 139), .ref (q 140), .int y456, .long y457, .int y458, .int y459, .ref (q 141), .int y460, .ref (q 142), .int y461, .ref (q 143), .int y462, .ref (q 144), .int y463, .int y464])) : Option (Nat × va_E)) := hO453
                  replace hA466 : u451[143]? = (some (q 143, .inl (g 0, (2202 : Int32).toNatClampNeg, .inl f465)) : Option (Nat × va_E)) := hA466
                  obtain ⟨p492, e493⟩ : ∃ z, z = (F_DR_beginQuotient y386 y387 y388 y389 y390 y391 y392 y393 y394 y395 y396 t7_0) := ⟨_, rfl⟩
                  have e494 : y454 = p492.1 := congrArg (fun z => z.1) (hE490.trans e493.symm)
                  have e495 : y455 = p492.2.1 := congrArg (fun z => z.2.1) (hE490.trans e493.symm)
                  have e496 : y456 = p492.2.2.1 := congrArg (fun z => z.2.2.1) (hE490.trans e493.symm)
                  have e497 : y457 = p492.2.2.2.1 := congrArg (fun z => z.2.2.2.1) (hE490.trans e493.symm)
                  have e498 : y458 = p492.2.2.2.2.1 := congrArg (fun z => z.2.2.2.2.1) (hE490.trans e493.symm)
                  have e499 : y459 = p492.2.2.2.2.2.1 := congrArg (fun z => z.2.2.2.2.2.1) (hE490.trans e493.symm)
                  have e500 : y460 = p492.2.2.2.2.2.2.1 := congrArg (fun z => z.2.2.2.2.2.2.1) (hE490.trans e493.symm)
                  have e501 : y461 = p492.2.2.2.2.2.2.2.1 := congrArg (fun z => z.2.2.2.2.2.2.2.1) (hE490.trans e493.symm)
                  have e502 : y462 = p492.2.2.2.2.2.2.2.2.1 := congrArg (fun z => z.2.2.2.2.2.2.2.2.1) (hE490.trans e493.symm)
                  have e503 : y463 = p492.2.2.2.2.2.2.2.2.2.1 := congrArg (fun z => z.2.2.2.2.2.2.2.2.2.1) (hE490.trans e493.symm)
                  have e504 : y464 = p492.2.2.2.2.2.2.2.2.2.2.1 := congrArg (fun z => z.2.2.2.2.2.2.2.2.2.2.1) (hE490.trans e493.symm)
                  have e505 : f465 = p492.2.2.2.2.2.2.2.2.2.2.2 := congrArg (fun z => z.2.2.2.2.2.2.2.2.2.2.2) (hE490.trans e493.symm)
                  replace b468 : q_F (y456.toInt ≤ 0) := b468
                  replace b469 : q_F (y386.toInt ≤ y454.toInt) := b469
                  replace b470 : q_F (y454.toInt ≤ y386.toInt) := b470
                  replace b471 : q_F (y387.toInt ≤ y455.toInt) := b471
                  replace b472 : q_F (y455.toInt ≤ y387.toInt) := b472
                  replace b473 : q_F (y389.toInt ≤ y457.toInt) := b473
                  replace b474 : q_F (y457.toInt ≤ y389.toInt) := b474
                  replace b478 : q_F (y459.toInt ≤ y391.toInt) := b478
                  replace b479 : q_F (y392.toInt ≤ y460.toInt) := b479
                  replace b480 : q_F (y460.toInt ≤ y392.toInt) := b480
                  replace b483 : q_F (y394.toInt ≤ y462.toInt) := b483
                  replace b484 : q_F (y462.toInt ≤ y394.toInt) := b484
                  replace b485 : q_F (y395.toInt ≤ y463.toInt) := b485
                  replace b486 : q_F (y463.toInt ≤ y395.toInt) := b486
                  replace hT1 := (hu491 _ (by decide)).trans hT1
                  replace hT2 := (hu491 _ (by decide)).trans hT2
                  replace hT3 := (hu491 _ (by decide)).trans hT3
                  replace hT4 := (hu491 _ (by decide)).trans hT4
                  replace hT5 := (hu491 _ (by decide)).trans hT5
                  replace hA398 := (hu491 _ (by decide)).trans hA398
                  replace hF := q_uc hF hu491 (by simp)
                  have hR506 := (show F_DR_divide_c262 x2 x3 x4 x5 x6 t0_0 t0_1 t0_2 t0_3 t0_4 t0_5 t0_6 t0_7 t0_8 t0_9 t0_10 t1_0 t2_0 t3_0 t4_0 t5_0 t6_0 t7_0 lx45 j100 j88 lx107 j126 lx367 p431 f397 p492 = (F_DR_divide x2 x3 x4 x5 x6 t0_0 t0_1 t0_2 t0_3 t0_4 t0_5 t0_6 t0_7 t0_8 t0_9 t0_10 t1_0 t2_0 t3_0 t4_0 t5_0 t6_0 t7_0) from Eq.trans (by rw [e493, e444, e443, e442, e441, e440, e439, e438, e437, e436, e435, e434, e433, F_DR_divide_c258.eq_1]) hR445)
                  have hS507 := (show True ∧ S_DR_divide_c262 x2 x3 x4 x5 x6 t0_0 t0_1 t0_2 t0_3 t0_4 t0_5 t0_6 t0_7 t0_8 t0_9 t0_10 t1_0 t2_0 t3_0 t4_0 t5_0 t6_0 t7_0 lx45 j100 j88 lx107 j126 lx367 p431 f397 p492 from (by rw [e493, e444, e443, e442, e441, e440, e439, e438, e437, e436, e435, e434, e433]; have h := hS446; rw [S_DR_divide_c258.eq_1] at h; replace h := q_s2 h; with_reducible exact h))
                  refine lv_lconst (v := 0) hx hb d_15_37_265 (by decide) ?_
                  refine lv_lstore (lv' := [(10, .long 0), (6, .long j88), (0, .ref (q 134)), (1, .int x2), (3, .int x4), (4, .int x5), (5, .int x6)]) hx hb d_15_37_266 hl (by decide) rfl (fun ls hl => ?_)
                  refine q_loop (X := Nat × Int64 × Int32 × Int32 × Int32 × Int64 × Int32 × Int32 × Int32 × Int32 × Int32 × Int32 × Int32 × (Nat → Int32) × (Nat → Int32)) (fun z H locs ls w557 => q_F (0 ≤ z.2.2.1.toInt) ∧ q_F (z.2.2.1.toInt ≤ 0) ∧ q_F (0 ≤ z.2.2.2.1.toInt) ∧ q_F (z.2.2.2.1.toInt ≤ 4100) ∧ q_F (z.2.2.2.2.1.toInt ≤ 12200) ∧ q_F (0 ≤ z.2.2.2.2.2.1.toInt + 2147483648) ∧ q_F (z.2.2.2.2.2.1.toInt ≤ 2147483647) ∧ q_F (z.2.2.2.2.2.2.2.1.toInt ≤ 10) ∧ q_F (0 ≤ z.2.2.2.2.2.2.2.2.2.2.2.1.toInt) ∧ q_F (z.2.2.2.2.2.2.2.2.2.2.2.1.toInt ≤ 12200) ∧ q_F (y455.toInt ≤ z.2.2.2.1.toInt) ∧ q_F (z.2.2.2.1.toInt ≤ y455.toInt) ∧ q_F (y456.toInt ≤ z.2.2.2.2.1.toInt) ∧ q_F (y457.toInt ≤ z.2.2.2.2.2.1.toInt) ∧ q_F (z.2.2.2.2.2.1.toInt ≤ y457.toInt) ∧ q_F (y458.toInt ≤ z.2.2.2.2.2.2.1.toInt) ∧ q_F (z.2.2.2.2.2.2.1.toInt ≤ y458.toInt) ∧ q_F (y459.toInt ≤ z.2.2.2.2.2.2.2.1.toInt) ∧ q_F (z.2.2.2.2.2.2.2.1.toInt ≤ y459.toInt) ∧ q_F (y460.toInt ≤ z.2.2.2.2.2.2.2.2.1.toInt) ∧ q_F (z.2.2.2.2.2.2.2.2.1.toInt ≤ y460.toInt) ∧ q_F (y461.toInt ≤ z.2.2.2.2.2.2.2.2.2.1.toInt) ∧ q_F (z.2.2.2.2.2.2.2.2.2.1.toInt ≤ y461.toInt) ∧ q_F (y462.toInt ≤ z.2.2.2.2.2.2.2.2.2.2.1.toInt) ∧ q_F (z.2.2.2.2.2.2.2.2.2.2.1.toInt ≤ y462.toInt) ∧ q_F (y463.toInt ≤ z.2.2.2.2.2.2.2.2.2.2.2.1.toInt) ∧ q_F (z.2.2.2.2.2.2.2.2.2.2.2.1.toInt ≤ y463.toInt) ∧ q_F (y464.toInt ≤ z.2.2.2.2.2.2.2.2.2.2.2.2.1.toInt) ∧ q_F (z.2.2.2.2.2.2.2.2.2.2.2.2.1.toInt ≤ y464.toInt) ∧ q_F (z.2.2.2.2.1.toInt ≤ z.2.1.toInt + y456.toInt) ∧ q_Wd D g (va_A ws sz) s w557 H locs ∧ lv_has ls 12 [(10, .long z.2.1), (6, .long j88), (0, .ref (q 134)), (1, .int x2), (3, .int x4), (4, .int x5), (5, .int x6)] ∧ q_I (msh g q) q w557 ∧ q_un ws w557 [134, 136, 137, 138, 139, 140, 142, 143] ∧ w557[134]? = (some (q 134, .inr (14, [.int z.2.2.1, .ref (q 135), .int z.2.2.2.1, .ref (q 136), .ref (q 137), .ref (q 138), .ref (q 139), .ref (q 140), .int z.2.2.2.2.1, .long z.2.2.2.2.2.1, .int z.2.2.2.2.2.2.1, .int z.2.2.2.2.2.2.2.1, .ref (q 141), .int z.2.2.2.2.2.2.2.2.1, .ref (q 142), .int z.2.2.2.2.2.2.2.2.2.1, .ref (q 143), .int z.2.2.2.2.2.2.2.2.2.2.1, .ref (q 144), .int z.2.2.2.2.2.2.2.2.2.2.2.1, .int z.2.2.2.2.2.2.2.2.2.2.2.2.1])) : Option (Nat × va_E)) ∧ w557[136]? = (some (q 136, .inl (g 0, (10000 : Int32).toNatClampNeg, .inl t1_0)) : Option (Nat × va_E)) ∧ w557[137]? = (some (q 137, .inl (g 0, (10 : Int32).toNatClampNeg, .inl t2_0)) : Option (Nat × va_E)) ∧ w557[138]? = (some (q 138, .inl (g 3, 10, .inl t3_0)) : Option (Nat × va_E)) ∧ w557[139]? = (some (q 139, .inl (g 0, (10 : Int32).toNatClampNeg, .inl t4_0)) : Option (Nat × va_E)) ∧ w557[140]? = (some (q 140, .inl (g 0, (4400 : Int32).toNatClampNeg, .inl z.2.2.2.2.2.2.2.2.2.2.2.2.2.1)) : Option (Nat × va_E)) ∧ w557[142]? = (some (q 142, .inl (g 0, (2200 : Int32).toNatClampNeg, .inl f397)) : Option (Nat × va_E)) ∧ w557[143]? = (some (q 143, .inl (g 0, (2202 : Int32).toNatClampNeg, .inl z.2.2.2.2.2.2.2.2.2.2.2.2.2.2)) : Option (Nat × va_E)) ∧ F_DR_divide_L268 x2 x3 x4 x5 x6 t0_0 t0_1 t0_2 t0_3 t0_4 t0_5 t0_6 t0_7 t0_8 t0_9 t0_10 t1_0 t2_0 t3_0 t4_0 t5_0 t6_0 t7_0 lx45 j100 j88 lx107 j126 lx367 p431 f397 p492 z.1 z.2.1 z.2.2.1 z.2.2.2.1 z.2.2.2.2.1 z.2.2.2.2.2.1 z.2.2.2.2.2.2.1 z.2.2.2.2.2.2.2.1 z.2.2.2.2.2.2.2.2.1 z.2.2.2.2.2.2.2.2.2.1 z.2.2.2.2.2.2.2.2.2.2.1 z.2.2.2.2.2.2.2.2.2.2.2.1 z.2.2.2.2.2.2.2.2.2.2.2.2.1 z.2.2.2.2.2.2.2.2.2.2.2.2.2.1 z.2.2.2.2.2.2.2.2.2.2.2.2.2.2 = (F_DR_divide x2 x3 x4 x5 x6 t0_0 t0_1 t0_2 t0_3 t0_4 t0_5 t0_6 t0_7 t0_8 t0_9 t0_10 t1_0 t2_0 t3_0 t4_0 t5_0 t6_0 t7_0) ∧ True ∧ S_DR_divide_L268 x2 x3 x4 x5 x6 t0_0 t0_1 t0_2 t0_3 t0_4 t0_5 t0_6 t0_7 t0_8 t0_9 t0_10 t1_0 t2_0 t3_0 t4_0 t5_0 t6_0 t7_0 lx45 j100 j88 lx107 j126 lx367 p431 f397 p492 z.1 z.2.1 z.2.2.1 z.2.2.2.1 z.2.2.2.2.1 z.2.2.2.2.2.1 z.2.2.2.2.2.2.1 z.2.2.2.2.2.2.2.1 z.2.2.2.2.2.2.2.2.1 z.2.2.2.2.2.2.2.2.2.1 z.2.2.2.2.2.2.2.2.2.2.1 z.2.2.2.2.2.2.2.2.2.2.2.1 z.2.2.2.2.2.2.2.2.2.2.2.2.1 z.2.2.2.2.2.2.2.2.2.2.2.2.2.1 z.2.2.2.2.2.2.2.2.2.2.2.2.2.2) (fun z => z.1) ?_ ((1000000 : Nat), (0 : Int64), (y454 : Int32), (y455 : Int32), (y456 : Int32), (y457 : Int64), (y458 : Int32), (y459 : Int32), (y460 : Int32), (y461 : Int32), (y462 : Int32), (y463 : Int32), (y464 : Int32), (t5_0 : (Nat → Int32)), (f465 : (Nat → Int32))) _ _ _ u451 ⟨(show q_F (0 ≤ y454.toInt) from (show 0 ≤ y454.toInt from by have t1 : 0 ≤ lx45.toInt := i55; have t2 : lx45.toInt ≤ y386.toInt := b400; have t3 : y386.toInt ≤ y454.toInt := b469; omega)), (show q_F (y454.toInt ≤ 0) from (show y454.toInt ≤ 0 from by have t1 : lx45.toInt ≤ 0 := b65; have t2 : y386.toInt ≤ lx45.toInt := b401; have t3 : y454.toInt ≤ y386.toInt := b470; omega)), (show q_F (0 ≤ y455.toInt) from (show 0 ≤ y455.toInt from by have t1 : 0 ≤ t0_1.toInt ∧ t0_1.toInt ≤ 4100 := btt0_1; have t2 : t0_1.toInt ≤ y387.toInt := b404; have t3 : y387.toInt ≤ y455.toInt := b471; omega)), (show q_F (y455.toInt ≤ 4100) from (show y455.toInt ≤ 4100 from by have t1 : 0 ≤ t0_1.toInt ∧ t0_1.toInt ≤ 4100 := btt0_1; have t2 : y387.toInt ≤ t0_1.toInt := b405; have t3 : y455.toInt ≤ y387.toInt := b472; omega)), (show q_F (y456.toInt ≤ 12200) from (show y456.toInt ≤ 12200 from by have t1 : y456.toInt ≤ 0 := b468; omega)), (show q_F (0 ≤ y457.toInt + 2147483648) from (show 0 ≤ y457.toInt + 2147483648 from by have t1 : j126.toInt = x5.toInt := b128; have t2 : j126.toInt ≤ y389.toInt := b408; have t3 : y389.toInt ≤ y457.toInt := b473; have _ := q_lo32 (x := x5); have _ := q_hi32 (x := x5); omega)), (show q_F (y457.toInt ≤ 2147483647) from (show y457.toInt ≤ 2147483647 from by have t1 : j126.toInt = x5.toInt := b128; have t2 : y389.toInt ≤ j126.toInt := b409; have t3 : y457.toInt ≤ y389.toInt := b474; have _ := q_lo32 (x := x5); have _ := q_hi32 (x := x5); omega)), (show q_F (y459.toInt ≤ 10) from (show y459.toInt ≤ 10 from by have t1 : x3.toInt ≤ 9 := ob72; have t2 : y391.toInt ≤ x3.toInt + 1 := b415; have t3 : y459.toInt ≤ y391.toInt := b478; omega)), (show q_F (0 ≤ y463.toInt) from (show 0 ≤ y463.toInt from by have t1 : 0 ≤ t0_9.toInt ∧ t0_9.toInt ≤ 12200 := btt0_9; have t2 : t0_9.toInt ≤ y395.toInt := b425; have t3 : y395.toInt ≤ y463.toInt := b485; omega)), (show q_F (y463.toInt ≤ 12200) from (show y463.toInt ≤ 12200 from by have t1 : 0 ≤ t0_9.toInt ∧ t0_9.toInt ≤ 12200 := btt0_9; have t2 : y395.toInt ≤ t0_9.toInt := b426; have t3 : y463.toInt ≤ y395.toInt := b486; omega)), (show q_F (y455.toInt ≤ y455.toInt) from (show y455.toInt ≤ y455.toInt from by omega)), (show q_F (y455.toInt ≤ y455.toInt) from (show y455.toInt ≤ y455.toInt from by omega)), (show q_F (y456.toInt ≤ y456.toInt) from (show y456.toInt ≤ y456.toInt from by omega)), (show q_F (y457.toInt ≤ y457.toInt) from (show y457.toInt ≤ y457.toInt from by omega)), (show q_F (y457.toInt ≤ y457.toInt) from (show y457.toInt ≤ y457.toInt from by omega)), (show q_F (y458.toInt ≤ y458.toInt) from (show y458.toInt ≤ y458.toInt from by omega)), (show q_F (y458.toInt ≤ y458.toInt) from (show y458.toInt ≤ y458.toInt from by omega)), (show q_F (y459.toInt ≤ y459.toInt) from (show y459.toInt ≤ y459.toInt from by omega)), (show q_F (y459.toInt ≤ y459.toInt) from (show y459.toInt ≤ y459.toInt from by omega)), (show q_F (y460.toInt ≤ y460.toInt) from (show y460.toInt ≤ y460.toInt from by omega)), (show q_F (y460.toInt ≤ y460.toInt) from (show y460.toInt ≤ y460.toInt from by omega)), (show q_F (y461.toInt ≤ y461.toInt) from (show y461.toInt ≤ y461.toInt from by omega)), (show q_F (y461.toInt ≤ y461.toInt) from (show y461.toInt ≤ y461.toInt from by omega)), (show q_F (y462.toInt ≤ y462.toInt) from (show y462.toInt ≤ y462.toInt from by omega)), (show q_F (y462.toInt ≤ y462.toInt) from (show y462.toInt ≤ y462.toInt from by omega)), (show q_F (y463.toInt ≤ y463.toInt) from (show y463.toInt ≤ y463.toInt from by omega)), (show q_F (y463.toInt ≤ y463.toInt) from (show y463.toInt ≤ y463.toInt from by omega)), (show q_F (y464.toInt ≤ y464.toInt) from (show y464.toInt ≤ y464.toInt from by omega)), (show q_F (y464.toInt ≤ y464.toInt) from (show y464.toInt ≤ y464.toInt from by omega)), (show q_F (y456.toInt ≤ 0 + y456.toInt) from (show y456.toInt ≤ 0 + y456.toInt from by omega)), V, q_lw hl (q_lw1 0 rfl (q_lw1 1 rfl (q_lw1 2 rfl (q_lw1 3 rfl (q_lw1 4 rfl (q_lw1 5 rfl (q_lw1 6 rfl q_lw0))))))), hI, hF, hO453, hT1, hT2, hT3, hT4, hT5, hA398, hA466, (show F_DR_divide_L268 x2 x3 x4 x5 x6 t0_0 t0_1 t0_2 t0_3 t0_4 t0_5 t0_6 t0_7 t0_8 t0_9 t0_10 t1_0 t2_0 t3_0 t4_0 t5_0 t6_0 t7_0 lx45 j100 j88 lx107 j126 lx367 p431 f397 p492 1000000 0 y454 y455 y456 y457 y458 y459 y460 y461 y462 y463 y464 t5_0 f465 = (F_DR_divide x2 x3 x4 x5 x6 t0_0 t0_1 t0_2 t0_3 t0_4 t0_5 t0_6 t0_7 t0_8 t0_9 t0_10 t1_0 t2_0 t3_0 t4_0 t5_0 t6_0 t7_0) from Eq.trans (by rw [e505, e504, e503, e502, e501, e500, e499, e498, e497, e496, e495, e494, F_DR_divide_c262.eq_1]) hR506), (show True ∧ S_DR_divide_L268 x2 x3 x4 x5 x6 t0_0 t0_1 t0_2 t0_3 t0_4 t0_5 t0_6 t0_7 t0_8 t0_9 t0_10 t1_0 t2_0 t3_0 t4_0 t5_0 t6_0 t7_0 lx45 j100 j88 lx107 j126 lx367 p431 f397 p492 1000000 0 y454 y455 y456 y457 y458 y459 y460 y461 y462 y463 y464 t5_0 f465 from (by rw [e505, e504, e503, e502, e501, e500, e499, e498, e497, e496, e495, e494]; have h := hS507; rw [S_DR_divide_c262.eq_1] at h; with_reducible exact h))⟩
                  rintro ⟨fu568, lx512, lx513, lx514, lx515, lx516, lx517, lx518, lx519, lx520, lx521, lx522, lx523, lx524, lx525⟩ H locs ls w557 ⟨i526, i527, i528, i529, i530, i531, i532, i533, i534, i535, i536, i537, i538, i539, i540, i541, i542, i543, i544, i545, i546, i547, i548, i549, i550, i551, i552, i553, i554, i555, V, hl, hI, hF, hO558, hO559, hO560, hO561, hO562, hO563, hO564, hO565, hR566, hS567⟩ ih556
                  obtain ⟨fm570, rfl⟩ : ∃ m, fu568 = m + 1 := Nat.exists_eq_succ_of_ne_zero (fun e => by subst e; rw [S_DR_divide_L268.eq_1] at hS567; exact hS567.2)
                  replace i526 : q_F (0 ≤ lx513.toInt) := i526
                  replace i527 : q_F (lx513.toInt ≤ 0) := i527
                  replace i528 : q_F (0 ≤ lx514.toInt) := i528
                  replace i529 : q_F (lx514.toInt ≤ 4100) := i529
                  clear i530
                  replace i531 : q_F (0 ≤ lx516.toInt + 2147483648) := i531
                  replace i532 : q_F (lx516.toInt ≤ 2147483647) := i532
                  replace i533 : q_F (lx518.toInt ≤ 10) := i533
                  replace i534 : q_F (0 ≤ lx522.toInt) := i534
                  replace i535 : q_F (lx522.toInt ≤ 12200) := i535
                  replace i536 : q_F (y455.toInt ≤ lx514.toInt) := i536
                  replace i537 : q_F (lx514.toInt ≤ y455.toInt) := i537
                  replace i538 : q_F (y456.toInt ≤ lx515.toInt) := i538
                  replace i539 : q_F (y457.toInt ≤ lx516.toInt) := i539
                  replace i540 : q_F (lx516.toInt ≤ y457.toInt) := i540
                  replace i541 : q_F (y458.toInt ≤ lx517.toInt) := i541
                  replace i542 : q_F (lx517.toInt ≤ y458.toInt) := i542
                  replace i543 : q_F (y459.toInt ≤ lx518.toInt) := i543
                  replace i544 : q_F (lx518.toInt ≤ y459.toInt) := i544
                  replace i545 : q_F (y460.toInt ≤ lx519.toInt) := i545
                  replace i546 : q_F (lx519.toInt ≤ y460.toInt) := i546
                  replace i547 : q_F (y461.toInt ≤ lx520.toInt) := i547
                  replace i548 : q_F (lx520.toInt ≤ y461.toInt) := i548
                  replace i549 : q_F (y462.toInt ≤ lx521.toInt) := i549
                  replace i550 : q_F (lx521.toInt ≤ y462.toInt) := i550
                  replace i551 : q_F (y463.toInt ≤ lx522.toInt) := i551
                  replace i552 : q_F (lx522.toInt ≤ y463.toInt) := i552
                  replace i553 : q_F (y464.toInt ≤ lx523.toInt) := i553
                  replace i554 : q_F (lx523.toInt ≤ y464.toInt) := i554
                  replace i555 : q_F (lx515.toInt ≤ lx512.toInt + y456.toInt) := i555
                  replace hl : lv_has ls 12 [(10, .long lx512), (6, .long j88), (0, .ref (q 134)), (1, .int x2), (3, .int x4), (4, .int x5), (5, .int x6)] := hl
                  replace hO558 : w557[134]? = (some (q 134, .inr (14, [.int lx513, .ref (q 135), .int lx514, .ref (q 136), .ref (q 137), .ref (q 138), .ref (q 139), .ref (q 140), .int lx515, .long lx516, .int lx517, .int lx518, .ref (q 141), .int lx519, .ref (q 142), .int lx520, .ref (q 143), .int lx521, .ref (q 144), .int lx522, .int lx523])) : Option (Nat × va_E)) := hO558
                  replace hO559 : w557[136]? = (some (q 136, .inl (g 0, (10000 : Int32).toNatClampNeg, .inl t1_0)) : Option (Nat × va_E)) := hO559
                  replace hO560 : w557[137]? = (some (q 137, .inl (g 0, (10 : Int32).toNatClampNeg, .inl t2_0)) : Option (Nat × va_E)) := hO560
                  replace hO561 : w557[138]? = (some (q 138, .inl (g 3, 10, .inl t3_0)) : Option (Nat × va_E)) := hO561
                  replace hO562 : w557[139]? = (some (q 139, .inl (g 0, (10 : Int32).toNatClampNeg, .inl t4_0)) : Option (Nat × va_E)) := hO562
                  replace hO563 : w557[140]? = (some (q 140, .inl (g 0, (4400 : Int32).toNatClampNeg, .inl lx524)) : Option (Nat × va_E)) := hO563
                  replace hO564 : w557[142]? = (some (q 142, .inl (g 0, (2200 : Int32).toNatClampNeg, .inl f397)) : Option (Nat × va_E)) := hO564
                  replace hO565 : w557[143]? = (some (q 143, .inl (g 0, (2202 : Int32).toNatClampNeg, .inl lx525)) : Option (Nat × va_E)) := hO565
                  refine lv_lload hx hb d_15_37_268 (lv_at hl 0 rfl) ?_
                  refine lv_aload_n hx hb d_15_37_270 rfl (lv_at hl 2 rfl) ?_
                  refine q_get (ci := 14) (j := 4) (v := .ref (q 137)) C0 V i_DR rfl rfl hO558 (by decide) w_2004 rfl d_15_37_271 ?_
                  refine lv_iload_n hx hb d_15_37_274 rfl (lv_at hl 3 rfl) ?_
                  refine q_iald C0 V hO560 (q_ix (x := x2.toInt) rfl (by first | with_reducible exact q_fe ob81 | (have t1 : 0 ≤ x2.toInt := ob81; omega)) (by have t1 : 0 ≤ x2.toInt := ob81; have t2 : x2.toInt ≤ 9 := ob82; have e9 : (((10 : Int32).toNatClampNeg : Nat) : Int) = 10 := (by decide); omega)) d_15_37_275 ?_
                  obtain ⟨a571, e572⟩ := q_nm (t2_0 x2.toNatClampNeg : Int32)
                  refine q_ti (v := a571) e572 ?_
                  refine lv_i2l hx hb d_15_37_276 rfl ?_
                  obtain ⟨j573, e574⟩ := q_nm (a571.toInt64 : Int64)
                  refine q_tl (v := j573) e574 ?_
                  refine lv_lload hx hb d_15_37_277 (lv_at hl 1 rfl) ?_
                  refine lv_lconst (v := 0) hx hb d_15_37_279 (by decide) ?_
                  refine W.lcmp hx hb d_15_37_280 ?_
                  obtain ⟨a576, e577⟩ := q_nm (lg_cmp j88 0 : Int32)
                  refine q_ti (v := a576) e577 ?_
                  have b578 : q_F (-1 ≤ a576.toInt ∧ a576.toInt ≤ 1 ∧ ((a576.toInt = -1 ∧ j88.toInt < 0) ∨ (a576.toInt = 0 ∧ j88.toInt = 0) ∨ (a576.toInt = 1 ∧ 0 < j88.toInt))) := (by rw [← e577]; show -1 ≤ (lg_cmp j88 0 : Int32).toInt ∧ (lg_cmp j88 0 : Int32).toInt ≤ 1 ∧ (((lg_cmp j88 0 : Int32).toInt = -1 ∧ j88.toInt < 0) ∨ ((lg_cmp j88 0 : Int32).toInt = 0 ∧ j88.toInt = 0) ∨ ((lg_cmp j88 0 : Int32).toInt = 1 ∧ 0 < j88.toInt)); exact (by have y1 : (0 : Int64).toInt = 0 := rfl; have z := s_lcmp (a := j88) (b := 0); omega))
                  refine q_join (X := Int64) (fun z H locs ls _ => q_F (z.toInt ≤ 6442450942) ∧ q_F (j88.toInt ≤ z.toInt) ∧ q_F (lx513.toInt ≤ z.toInt) ∧ q_Wd D g (va_A ws sz) s w557 H locs ∧ lv_has ls 12 [(10, .long lx512), (6, .long j88), (0, .ref (q 134)), (1, .int x2), (3, .int x4), (4, .int x5), (5, .int x6)] ∧ F_DR_divide_J290 (F_DR_divide_L268 x2 x3 x4 x5 x6 t0_0 t0_1 t0_2 t0_3 t0_4 t0_5 t0_6 t0_7 t0_8 t0_9 t0_10 t1_0 t2_0 t3_0 t4_0 t5_0 t6_0 t7_0 lx45 j100 j88 lx107 j126 lx367 p431 f397 p492 fm570) x2 x3 x4 x5 x6 t0_0 t0_1 t0_2 t0_3 t0_4 t0_5 t0_6 t0_7 t0_8 t0_9 t0_10 t1_0 t2_0 t3_0 t4_0 t5_0 t6_0 t7_0 lx45 j100 j88 lx107 j126 lx367 p431 f397 p492 lx512 lx513 lx514 lx515 lx516 lx517 lx518 lx519 lx520 lx521 lx522 lx523 lx524 lx525 j573 z = (F_DR_divide x2 x3 x4 x5 x6 t0_0 t0_1 t0_2 t0_3 t0_4 t0_5 t0_6 t0_7 t0_8 t0_9 t0_10 t1_0 t2_0 t3_0 t4_0 t5_0 t6_0 t7_0) ∧ True ∧ S_DR_divide_J290 (S_DR_divide_L268 x2 x3 x4 x5 x6 t0_0 t0_1 t0_2 t0_3 t0_4 t0_5 t0_6 t0_7 t0_8 t0_9 t0_10 t1_0 t2_0 t3_0 t4_0 t5_0 t6_0 t7_0 lx45 j100 j88 lx107 j126 lx367 p431 f397 p492 fm570) x2 x3 x4 x5 x6 t0_0 t0_1 t0_2 t0_3 t0_4 t0_5 t0_6 t0_7 t0_8 t0_9 t0_10 t1_0 t2_0 t3_0 t4_0 t5_0 t6_0 t7_0 lx45 j100 j88 lx107 j126 lx367 p431 f397 p492 lx512 lx513 lx514 lx515 lx516 lx517 lx518 lx519 lx520 lx521 lx522 lx523 lx524 lx525 j573 z) (fun z => [.long z, .long j573, .long lx512]) 290 0 0 ?_ ?_
                  ·
                    rintro lx579 H locs ls _ hZ9
                    replace hZ9 := hZ9.2.2.2
                    obtain ⟨V, hZ9⟩ := hZ9
                    obtain ⟨hl, hZ9⟩ := hZ9
                    obtain ⟨hR592, hS593⟩ := hZ9
                    replace hl : lv_has ls 12 [(10, .long lx512), (6, .long j88), (0, .ref (q 134)), (1, .int x2), (3, .int x4), (4, .int x5), (5, .int x6)] := hl
                    refine lv_ladd hx hb d_15_37_290 ?_
                    obtain ⟨j597, e598⟩ := q_nm (j573 + lx579 : Int64)
                    refine q_tl (v := j597) e598 ?_
                    refine W.lcmp hx hb d_15_37_291 ?_
                    obtain ⟨a600, e601⟩ := q_nm (lg_cmp lx512 j597 : Int32)
                    refine q_ti (v := a600) e601 ?_
                    have b602 : q_F (-1 ≤ a600.toInt ∧ a600.toInt ≤ 1 ∧ ((a600.toInt = -1 ∧ lx512.toInt < j597.toInt) ∨ (a600.toInt = 0 ∧ lx512.toInt = j597.toInt) ∨ (a600.toInt = 1 ∧ j597.toInt < lx512.toInt))) := (by rw [← e601]; show -1 ≤ (lg_cmp lx512 j597 : Int32).toInt ∧ (lg_cmp lx512 j597 : Int32).toInt ≤ 1 ∧ (((lg_cmp lx512 j597 : Int32).toInt = -1 ∧ lx512.toInt < j597.toInt) ∨ ((lg_cmp lx512 j597 : Int32).toInt = 0 ∧ lx512.toInt = j597.toInt) ∨ ((lg_cmp lx512 j597 : Int32).toInt = 1 ∧ j597.toInt < lx512.toInt)); exact s_lcmp)
                    refine lv_if_ge (tgt := 343) hx hb d_15_37_292 (by decide) (fun c603 => ?_) (fun c603 => ?_)
                    ·
                      refine lv_aload_n hx hb d_15_37_343 rfl (lv_at hl 2 rfl) ?_
                      refine lv_aload_n hx hb d_15_37_344 rfl (lv_at hl 2 rfl) ?_
                      refine lv_iconst (v := 0) hx hb d_15_37_345 (by decide) ?_
                      have ob605 : True ∧ S_DR_nextFigure (0 : Int32) lx513 lx514 lx515 lx516 lx517 lx518 lx519 lx520 lx521 lx522 lx523 f397 lx525 := (by have h := hS593; rw [S_DR_divide_J290.eq_1] at h; have c603x := c603; rw [← e601, ← e598] at c603x; rw [if_pos c603x] at h; with_reducible exact h.2.1)
                      refine q_goi V (q_runV (As := [.int 0]) (rest := [.ref (q 134)]) (d := 2) (mc := 0) (ms := 0) (ci := 14) C0 V rfl LV_DR_157 (X_DR_nextFigure l D g q w557  0 hI lx513 lx514 lx515 lx516 lx517 lx518 lx519 lx520 lx521 lx522 lx523 hO558 f397 hO564 lx525 hO565 ob605 _) rfl rfl hO558 rfl hl.1 rfl (Nat.le_of_ble_eq_true rfl) ⟨by decide, by decide⟩ ⟨Nat.le_of_ble_eq_true rfl, Nat.le_of_ble_eq_true rfl⟩ d_15_37_346) (fun a608 u606 H locs hp607 V => ?_)
                      obtain ⟨hI, hu612, f609, hA610, hE611⟩ := hp607
                      replace hA610 : u606[143]? = (some (q 143, .inl (g 0, (2202 : Int32).toNatClampNeg, .inl f609)) : Option (Nat × va_E)) := hA610
                      obtain ⟨p613, e614⟩ : ∃ z, z = (F_DR_nextFigure (0 : Int32) lx513 lx514 lx515 lx516 lx517 lx518 lx519 lx520 lx521 lx522 lx523 f397 lx525) := ⟨_, rfl⟩
                      have e615 : a608 = p613.1 := congrArg (fun z => z.1) (hE611.trans e614.symm)
                      have e616 : f609 = p613.2 := congrArg (fun z => z.2) (hE611.trans e614.symm)
                      replace hO558 := (hu612 _ (by decide)).trans hO558
                      replace hO559 := (hu612 _ (by decide)).trans hO559
                      replace hO560 := (hu612 _ (by decide)).trans hO560
                      replace hO561 := (hu612 _ (by decide)).trans hO561
                      replace hO562 := (hu612 _ (by decide)).trans hO562
                      replace hO563 := (hu612 _ (by decide)).trans hO563
                      replace hO564 := (hu612 _ (by decide)).trans hO564
                      replace hF := q_uc hF hu612 (by simp)
                      have hR617 := (show F_DR_divide_c346 (F_DR_divide_L268 x2 x3 x4 x5 x6 t0_0 t0_1 t0_2 t0_3 t0_4 t0_5 t0_6 t0_7 t0_8 t0_9 t0_10 t1_0 t2_0 t3_0 t4_0 t5_0 t6_0 t7_0 lx45 j100 j88 lx107 j126 lx367 p431 f397 p492 fm570) x2 x3 x4 x5 x6 t0_0 t0_1 t0_2 t0_3 t0_4 t0_5 t0_6 t0_7 t0_8 t0_9 t0_10 t1_0 t2_0 t3_0 t4_0 t5_0 t6_0 t7_0 lx45 j100 j88 lx107 j126 lx367 p431 f397 p492 lx512 lx513 lx514 lx515 lx516 lx517 lx518 lx519 lx520 lx521 lx522 lx523 lx524 lx525 j573 lx579 p613 = (F_DR_divide x2 x3 x4 x5 x6 t0_0 t0_1 t0_2 t0_3 t0_4 t0_5 t0_6 t0_7 t0_8 t0_9 t0_10 t1_0 t2_0 t3_0 t4_0 t5_0 t6_0 t7_0) from Eq.trans (by have c603x := c603; rw [← e601, ← e598] at c603x; rw [e614, F_DR_divide_J290.eq_1, if_pos c603x]) hR592)
                      have hS618 := (show True ∧ S_DR_divide_c346 (S_DR_divide_L268 x2 x3 x4 x5 x6 t0_0 t0_1 t0_2 t0_3 t0_4 t0_5 t0_6 t0_7 t0_8 t0_9 t0_10 t1_0 t2_0 t3_0 t4_0 t5_0 t6_0 t7_0 lx45 j100 j88 lx107 j126 lx367 p431 f397 p492 fm570) x2 x3 x4 x5 x6 t0_0 t0_1 t0_2 t0_3 t0_4 t0_5 t0_6 t0_7 t0_8 t0_9 t0_10 t1_0 t2_0 t3_0 t4_0 t5_0 t6_0 t7_0 lx45 j100 j88 lx107 j126 lx367 p431 f397 p492 lx512 lx513 lx514 lx515 lx516 lx517 lx518 lx519 lx520 lx521 lx522 lx523 lx524 lx525 j573 lx579 p613 from (by rw [e614]; have h := hS593; rw [S_DR_divide_J290.eq_1] at h; have c603x := c603; rw [← e601, ← e598] at c603x; rw [if_pos c603x] at h; replace h := q_s2 h; with_reducible exact h))
                      have ob622 : True ∧ S_DR_append a608 lx513 lx514 lx515 lx516 lx517 lx518 lx519 lx520 lx521 lx522 lx523 lx524 := (by rw [e615]; have h := hS618; rw [S_DR_divide_c346.eq_1] at h; with_reducible exact h.2.1)
                      refine q_gov V (q_runV (As := [.int a608]) (rest := []) (d := 1) (mc := 0) (ms := 0) (ci := 14) C0 V rfl LV_DR_160 (X_DR_append l D g q u606  a608 hI lx513 lx514 lx515 lx516 lx517 lx518 lx519 lx520 lx521 lx522 lx523 hO558 lx524 hO563 ob622 _) rfl rfl hO558 rfl hl.1 rfl (Nat.le_of_ble_eq_true rfl) ⟨by decide, by decide⟩ ⟨Nat.le_of_ble_eq_true rfl, Nat.le_of_ble_eq_true rfl⟩ d_15_37_349) (fun u623 H locs hp624 V => ?_)
                      obtain ⟨hI, hZ9⟩ := hp624
                      obtain ⟨hu667, hZ9⟩ := hZ9
                      obtain ⟨y626, hZ9⟩ := hZ9
                      obtain ⟨y627, hZ9⟩ := hZ9
                      obtain ⟨y628, hZ9⟩ := hZ9
                      obtain ⟨y629, hZ9⟩ := hZ9
                      obtain ⟨y630, hZ9⟩ := hZ9
                      obtain ⟨y631, hZ9⟩ := hZ9
                      obtain ⟨y632, hZ9⟩ := hZ9
                      obtain ⟨y633, hZ9⟩ := hZ9
                      obtain ⟨y634, hZ9⟩ := hZ9
                      obtain ⟨y635, hZ9⟩ := hZ9
                      obtain ⟨y636, hZ9⟩ := hZ9
                      obtain ⟨f637, hZ9⟩ := hZ9
                      obtain ⟨hO625, hZ9⟩ := hZ9
                      obtain ⟨hA638, hZ9⟩ := hZ9
                      replace hZ9 := hZ9.2.2.2
                      obtain ⟨b642, hZ9⟩ := hZ9
                      obtain ⟨b643, hZ9⟩ := hZ9
                      replace hZ9 := hZ9.2.2.2.2.2.2.2.2.2.2.2
                      obtain ⟨b655, hZ9⟩ := hZ9
                      obtain ⟨b656, hZ9⟩ := hZ9
                      replace hZ9 := hZ9.2.2
                      obtain ⟨b659, hZ9⟩ := hZ9
                      obtain ⟨b660, hZ9⟩ := hZ9
                      replace hZ9 := hZ9.2
                      obtain ⟨b662, hZ9⟩ := hZ9
                      obtain ⟨b663, hZ9⟩ := hZ9
                      replace hZ9 := hZ9.2
                      obtain ⟨-, hE666⟩ := hZ9
                      replace hO625 : u623[134]? = (some (q 134, .inr (14, [.int y626, .ref (q 135), .int y627, .ref (q 136), .ref (q 137), .ref (q 138), .ref (q 139), .ref (q 140), .int y628, .long y629, .int y630, .int y631, .ref (q 141), .int y632, .ref (q 142), .int y633, .ref (q 143), .int y634, .ref (q 144), .int y635, .int y636])) : Option (Nat × va_E)) := hO625
                      replace hA638 : u623[140]? = (some (q 140, .inl (g 0, (4400 : Int32).toNatClampNeg, .inl f637)) : Option (Nat × va_E)) := hA638
                      obtain ⟨p668, e669⟩ : ∃ z, z = (F_DR_append a608 lx513 lx514 lx515 lx516 lx517 lx518 lx519 lx520 lx521 lx522 lx523 lx524) := ⟨_, rfl⟩
                      have e670 : y626 = p668.1 := congrArg (fun z => z.1) (hE666.trans e669.symm)
                      have e671 : y627 = p668.2.1 := congrArg (fun z => z.2.1) (hE666.trans e669.symm)
                      have e672 : y628 = p668.2.2.1 := congrArg (fun z => z.2.2.1) (hE666.trans e669.symm)
                      have e673 : y629 = p668.2.2.2.1 := congrArg (fun z => z.2.2.2.1) (hE666.trans e669.symm)
                      have e674 : y630 = p668.2.2.2.2.1 := congrArg (fun z => z.2.2.2.2.1) (hE666.trans e669.symm)
                      have e675 : y631 = p668.2.2.2.2.2.1 := congrArg (fun z => z.2.2.2.2.2.1) (hE666.trans e669.symm)
                      have e676 : y632 = p668.2.2.2.2.2.2.1 := congrArg (fun z => z.2.2.2.2.2.2.1) (hE666.trans e669.symm)
                      have e677 : y633 = p668.2.2.2.2.2.2.2.1 := congrArg (fun z => z.2.2.2.2.2.2.2.1) (hE666.trans e669.symm)
                      have e678 : y634 = p668.2.2.2.2.2.2.2.2.1 := congrArg (fun z => z.2.2.2.2.2.2.2.2.1) (hE666.trans e669.symm)
                      have e679 : y635 = p668.2.2.2.2.2.2.2.2.2.1 := congrArg (fun z => z.2.2.2.2.2.2.2.2.2.1) (hE666.trans e669.symm)
                      have e680 : y636 = p668.2.2.2.2.2.2.2.2.2.2.1 := congrArg (fun z => z.2.2.2.2.2.2.2.2.2.2.1) (hE666.trans e669.symm)
                      have e681 : f637 = p668.2.2.2.2.2.2.2.2.2.2.2 := congrArg (fun z => z.2.2.2.2.2.2.2.2.2.2.2) (hE666.trans e669.symm)
                      replace b642 : q_F (lx514.toInt ≤ y627.toInt) := b642
                      replace b643 : q_F (y627.toInt ≤ lx514.toInt) := b643
                      replace b655 : q_F (lx519.toInt ≤ y632.toInt) := b655
                      replace b656 : q_F (y632.toInt ≤ lx519.toInt) := b656
                      replace b659 : q_F (lx521.toInt ≤ y634.toInt) := b659
                      replace b660 : q_F (y634.toInt ≤ lx521.toInt) := b660
                      replace b662 : q_F (lx522.toInt ≤ y635.toInt) := b662
                      replace b663 : q_F (y635.toInt ≤ lx522.toInt) := b663
                      replace hO559 := (hu667 _ (by decide)).trans hO559
                      replace hO560 := (hu667 _ (by decide)).trans hO560
                      replace hO561 := (hu667 _ (by decide)).trans hO561
                      replace hO562 := (hu667 _ (by decide)).trans hO562
                      replace hO564 := (hu667 _ (by decide)).trans hO564
                      replace hA610 := (hu667 _ (by decide)).trans hA610
                      replace hF := q_uc hF hu667 (by simp)
                      have hR682 := (show F_DR_divide_c349 (F_DR_divide_L268 x2 x3 x4 x5 x6 t0_0 t0_1 t0_2 t0_3 t0_4 t0_5 t0_6 t0_7 t0_8 t0_9 t0_10 t1_0 t2_0 t3_0 t4_0 t5_0 t6_0 t7_0 lx45 j100 j88 lx107 j126 lx367 p431 f397 p492 fm570) x2 x3 x4 x5 x6 t0_0 t0_1 t0_2 t0_3 t0_4 t0_5 t0_6 t0_7 t0_8 t0_9 t0_10 t1_0 t2_0 t3_0 t4_0 t5_0 t6_0 t7_0 lx45 j100 j88 lx107 j126 lx367 p431 f397 p492 lx512 lx513 lx514 lx515 lx516 lx517 lx518 lx519 lx520 lx521 lx522 lx523 lx524 lx525 j573 lx579 p613 f609 p668 = (F_DR_divide x2 x3 x4 x5 x6 t0_0 t0_1 t0_2 t0_3 t0_4 t0_5 t0_6 t0_7 t0_8 t0_9 t0_10 t1_0 t2_0 t3_0 t4_0 t5_0 t6_0 t7_0) from Eq.trans (by rw [e669, e616, e615, F_DR_divide_c346.eq_1]) hR617)
                      have hS683 := (show True ∧ S_DR_divide_c349 (S_DR_divide_L268 x2 x3 x4 x5 x6 t0_0 t0_1 t0_2 t0_3 t0_4 t0_5 t0_6 t0_7 t0_8 t0_9 t0_10 t1_0 t2_0 t3_0 t4_0 t5_0 t6_0 t7_0 lx45 j100 j88 lx107 j126 lx367 p431 f397 p492 fm570) x2 x3 x4 x5 x6 t0_0 t0_1 t0_2 t0_3 t0_4 t0_5 t0_6 t0_7 t0_8 t0_9 t0_10 t1_0 t2_0 t3_0 t4_0 t5_0 t6_0 t7_0 lx45 j100 j88 lx107 j126 lx367 p431 f397 p492 lx512 lx513 lx514 lx515 lx516 lx517 lx518 lx519 lx520 lx521 lx522 lx523 lx524 lx525 j573 lx579 p613 f609 p668 from (by rw [e669, e616, e615]; have h := hS618; rw [S_DR_divide_c346.eq_1] at h; replace h := q_s2 h; with_reducible exact h))
                      refine lv_aload_n hx hb d_15_37_352 rfl (lv_at hl 2 rfl) ?_
                      refine lv_aload_n hx hb d_15_37_353 rfl (lv_at hl 2 rfl) ?_
                      have ob687 : True ∧ S_DR_isLeft y626 y627 y628 y629 y630 y631 y632 y633 y634 y635 y636 f609 := (by rw [e680, e679, e678, e677, e676, e675, e674, e673, e672, e671, e670]; have h := hS683; rw [S_DR_divide_c349.eq_1] at h; with_reducible exact h.2.1)
                      refine q_goi V (q_runV (As := []) (rest := [.ref (q 134)]) (d := 1) (mc := 0) (ms := 0) (ci := 14) C0 V rfl LV_DR_163 (X_DR_isLeft l D g q u623   hI y626 y627 y628 y629 y630 y631 y632 y633 y634 y635 y636 hO625 f609 hA610 ob687 _) rfl rfl hO625 rfl hl.1 rfl (Nat.le_of_ble_eq_true rfl) ⟨by decide, by decide⟩ ⟨Nat.le_of_ble_eq_true rfl, Nat.le_of_ble_eq_true rfl⟩ d_15_37_354) (fun a690 u688 H locs hp689 V => ?_)
                      obtain ⟨rfl, b691, b692, hE693⟩ := hp689
                      have e694 : a690 = (F_DR_isLeft y626 y627 y628 y629 y630 y631 y632 y633 y634 y635 y636 f609) := hE693
                      replace b691 : q_F (0 ≤ a690.toInt) := b691
                      replace b692 : q_F (a690.toInt ≤ 1) := b692
                      refine q_put (ci := 14) (j := 10) (v := .int a690) (ty := .boolean) C0 V i_DR o_DR n_DR rfl rfl hO625 (by decide) w_2013 rfl rfl (q_nz01 (q_Ile (x := 0) (y := a690.toInt) (by decide) rfl (by first | with_reducible exact q_fe b691 | (have t1 : 0 ≤ a690.toInt := b691; omega))) (q_Ile (x := a690.toInt) (y := 1) rfl (by decide) (by first | with_reducible exact q_fe b692 | (have t1 : a690.toInt ≤ 1 := b692; omega)))) (q_fz01 (q_Ile (x := 0) (y := a690.toInt) (by decide) rfl (by first | with_reducible exact q_fe b691 | (have t1 : 0 ≤ a690.toInt := b691; omega))) (q_Ile (x := a690.toInt) (y := 1) rfl (by decide) (by first | with_reducible exact q_fe b692 | (have t1 : a690.toInt ≤ 1 := b692; omega)))) (Nat.le_of_ble_eq_true rfl) d_15_37_357 (fun H locs w695 hu696 hO625 V => ?_)
                      replace hO625 : w695[134]? = (some (q 134, .inr (14, [.int y626, .ref (q 135), .int y627, .ref (q 136), .ref (q 137), .ref (q 138), .ref (q 139), .ref (q 140), .int y628, .long y629, .int a690, .int y631, .ref (q 141), .int y632, .ref (q 142), .int y633, .ref (q 143), .int y634, .ref (q 144), .int y635, .int y636])) : Option (Nat × va_E)) := hO625
                      have ob697 : q_F (0 ≤ y631.toInt) := (by rw [e675]; have h := hS683; rw [S_DR_divide_c349.eq_1] at h; replace h := q_s2 h; exact h.2.1)
                      have ob698 : q_F (y631.toInt ≤ 1) := (by rw [e675]; have h := hS683; rw [S_DR_divide_c349.eq_1] at h; replace h := q_s2 h; replace h := q_s2 h; exact h.2.1)
                      replace hI := n_p134 hI hu696 hO625 ⟨(by have t1 : 0 ≤ lx514.toInt := i528; have t2 : lx514.toInt ≤ y627.toInt := b642; omega), (by have t1 : lx514.toInt ≤ 4100 := i529; have t2 : y627.toInt ≤ lx514.toInt := b643; omega)⟩ ⟨(by first | with_reducible exact q_fe b691 | (have t1 : 0 ≤ a690.toInt := b691; omega)), (by first | with_reducible exact q_fe b692 | (have t1 : a690.toInt ≤ 1 := b692; omega))⟩ ⟨(by first | with_reducible exact q_fe ob697 | (have t1 : 0 ≤ y631.toInt := ob697; omega)), (by first | with_reducible exact q_fe ob698 | (have t1 : y631.toInt ≤ 1 := ob698; omega))⟩ ⟨(by have t1 : 0 ≤ lx522.toInt := i534; have t2 : lx522.toInt ≤ y635.toInt := b662; omega), (by have t1 : lx522.toInt ≤ 12200 := i535; have t2 : y635.toInt ≤ lx522.toInt := b663; omega)⟩
                      replace hO559 := (hu696 _ (by decide)).trans hO559
                      replace hO560 := (hu696 _ (by decide)).trans hO560
                      replace hO561 := (hu696 _ (by decide)).trans hO561
                      replace hO562 := (hu696 _ (by decide)).trans hO562
                      replace hA638 := (hu696 _ (by decide)).trans hA638
                      replace hO564 := (hu696 _ (by decide)).trans hO564
                      replace hA610 := (hu696 _ (by decide)).trans hA610
                      replace hF := q_us hF hu696 (by simp)
                      refine lv_aload_n hx hb d_15_37_360 rfl (lv_at hl 2 rfl) ?_
                      refine lv_iload hx hb d_15_37_361 (lv_at hl 5 rfl) ?_
                      refine lv_i2l hx hb d_15_37_363 rfl ?_
                      obtain ⟨j699, e700⟩ := q_nm (x5.toInt64 : Int64)
                      refine q_tl (v := j699) e700 ?_
                      refine lv_lconst (v := 1) hx hb d_15_37_364 (by decide) ?_
                      refine lv_ladd hx hb d_15_37_365 ?_
                      obtain ⟨j702, e703⟩ := q_nm (j699 + 1 : Int64)
                      refine q_tl (v := j702) e703 ?_
                      refine q_put (ci := 14) (j := 9) (v := .long j702) (ty := .long) C0 V i_DR o_DR n_DR rfl rfl hO625 (by decide) w_2012 rfl rfl rfl rfl (Nat.le_of_ble_eq_true rfl) d_15_37_366 (fun H locs w705 hu706 hO625 V => ?_)
                      replace hO625 : w705[134]? = (some (q 134, .inr (14, [.int y626, .ref (q 135), .int y627, .ref (q 136), .ref (q 137), .ref (q 138), .ref (q 139), .ref (q 140), .int y628, .long j702, .int a690, .int y631, .ref (q 141), .int y632, .ref (q 142), .int y633, .ref (q 143), .int y634, .ref (q 144), .int y635, .int y636])) : Option (Nat × va_E)) := hO625
                      replace hI := n_p134 hI hu706 hO625 ⟨(by have t1 : 0 ≤ lx514.toInt := i528; have t2 : lx514.toInt ≤ y627.toInt := b642; omega), (by have t1 : lx514.toInt ≤ 4100 := i529; have t2 : y627.toInt ≤ lx514.toInt := b643; omega)⟩ ⟨(by first | with_reducible exact q_fe b691 | (have t1 : 0 ≤ a690.toInt := b691; omega)), (by first | with_reducible exact q_fe b692 | (have t1 : a690.toInt ≤ 1 := b692; omega))⟩ ⟨(by first | with_reducible exact q_fe ob697 | (have t1 : 0 ≤ y631.toInt := ob697; omega)), (by first | with_reducible exact q_fe ob698 | (have t1 : y631.toInt ≤ 1 := ob698; omega))⟩ ⟨(by have t1 : 0 ≤ lx522.toInt := i534; have t2 : lx522.toInt ≤ y635.toInt := b662; omega), (by have t1 : lx522.toInt ≤ 12200 := i535; have t2 : y635.toInt ≤ lx522.toInt := b663; omega)⟩
                      replace hO559 := (hu706 _ (by decide)).trans hO559
                      replace hO560 := (hu706 _ (by decide)).trans hO560
                      replace hO561 := (hu706 _ (by decide)).trans hO561
                      replace hO562 := (hu706 _ (by decide)).trans hO562
                      replace hA638 := (hu706 _ (by decide)).trans hA638
                      replace hO564 := (hu706 _ (by decide)).trans hO564
                      replace hA610 := (hu706 _ (by decide)).trans hA610
                      replace hF := q_us hF hu706 (by simp)
                      refine lv_aload_n hx hb d_15_37_369 rfl (lv_at hl 2 rfl) ?_
                      refine q_get (ci := 14) (j := 8) (v := .int y628) C0 V i_DR rfl rfl hO625 (by decide) w_2011 rfl d_15_37_370 ?_
                      refine lv_if_ne (tgt := 388) hx hb d_15_37_373 (by decide) (fun c707 => ?_) (fun c707 => ?_)
                      ·
                        refine lv_aload_n hx hb d_15_37_388 rfl (lv_at hl 2 rfl) ?_
                        refine lv_aload_n hx hb d_15_37_389 rfl (lv_at hl 2 rfl) ?_
                        refine q_get (ci := 14) (j := 8) (v := .int y628) C0 V i_DR rfl rfl hO625 (by decide) w_2011 rfl d_15_37_390 ?_
                        refine lv_iconst (v := 1) hx hb d_15_37_393 (by decide) ?_
                        refine lv_isub hx hb d_15_37_394 ?_
                        obtain ⟨a709, e710⟩ := q_nm (y628 - 1 : Int32)
                        refine q_ti (v := a709) e710 ?_
                        refine lv_iload hx hb d_15_37_395 (lv_at hl 6 rfl) ?_
                        have ob712 : True ∧ S_DR_cut a709 x6 y626 y627 y628 j702 a690 y631 y632 y633 y634 y635 y636 f637 := (by rw [← e710, ← e703, ← e700, e694, e681, e680, e679, e678, e677, e676, e675, e674, e673, e672, e671, e670]; have h := hS683; rw [S_DR_divide_c349.eq_1] at h; replace h := q_s2 h; replace h := q_s2 h; replace h := q_s2 h; have c707x := c707; rw [e672] at c707x; rw [if_neg c707x] at h; with_reducible exact h.2.1)
                        refine q_goi V (q_runV (As := [.int a709, .int x6]) (rest := []) (d := 3) (mc := 0) (ms := 0) (ci := 14) C0 V rfl LV_DR_85 (X_DR_cut l D g q w705  a709 x6 hI y626 y627 y628 j702 a690 y631 y632 y633 y634 y635 y636 hO625 f637 hA638 ob712 _) rfl rfl hO625 rfl hl.1 rfl (Nat.le_of_ble_eq_true rfl) ⟨by decide, by decide⟩ ⟨Nat.le_of_ble_eq_true rfl, Nat.le_of_ble_eq_true rfl⟩ d_15_37_397) (fun a715 u713 H locs hp714 V => ?_)
                        obtain ⟨hI, hZ9⟩ := hp714
                        obtain ⟨hu749, hZ9⟩ := hZ9
                        obtain ⟨y717, hZ9⟩ := hZ9
                        obtain ⟨y718, hZ9⟩ := hZ9
                        obtain ⟨y719, hZ9⟩ := hZ9
                        obtain ⟨y720, hZ9⟩ := hZ9
                        obtain ⟨y721, hZ9⟩ := hZ9
                        obtain ⟨y722, hZ9⟩ := hZ9
                        obtain ⟨y723, hZ9⟩ := hZ9
                        obtain ⟨y724, hZ9⟩ := hZ9
                        obtain ⟨y725, hZ9⟩ := hZ9
                        obtain ⟨y726, hZ9⟩ := hZ9
                        obtain ⟨y727, hZ9⟩ := hZ9
                        obtain ⟨f728, hZ9⟩ := hZ9
                        obtain ⟨hO716, hZ9⟩ := hZ9
                        obtain ⟨hA729, hZ9⟩ := hZ9
                        replace hZ9 := hZ9.2.2
                        obtain ⟨b732, hZ9⟩ := hZ9
                        obtain ⟨b733, hZ9⟩ := hZ9
                        obtain ⟨b734, hZ9⟩ := hZ9
                        replace hZ9 := hZ9.2
                        obtain ⟨b736, hZ9⟩ := hZ9
                        replace hZ9 := hZ9.2
                        obtain ⟨b738, hZ9⟩ := hZ9
                        obtain ⟨b739, hZ9⟩ := hZ9
                        replace hZ9 := hZ9.2.2
                        obtain ⟨b742, hZ9⟩ := hZ9
                        obtain ⟨b743, hZ9⟩ := hZ9
                        obtain ⟨b744, hZ9⟩ := hZ9
                        obtain ⟨b745, hZ9⟩ := hZ9
                        replace hZ9 := hZ9.2
                        obtain ⟨-, hE748⟩ := hZ9
                        replace hO716 : u713[134]? = (some (q 134, .inr (14, [.int y717, .ref (q 135), .int y718, .ref (q 136), .ref (q 137), .ref (q 138), .ref (q 139), .ref (q 140), .int y719, .long y720, .int y721, .int y722, .ref (q 141), .int y723, .ref (q 142), .int y724, .ref (q 143), .int y725, .ref (q 144), .int y726, .int y727])) : Option (Nat × va_E)) := hO716
                        replace hA729 : u713[140]? = (some (q 140, .inl (g 0, (4400 : Int32).toNatClampNeg, .inl f728)) : Option (Nat × va_E)) := hA729
                        obtain ⟨p750, e751⟩ : ∃ z, z = (F_DR_cut a709 x6 y626 y627 y628 j702 a690 y631 y632 y633 y634 y635 y636 f637) := ⟨_, rfl⟩
                        have e752 : a715 = p750.1 := congrArg (fun z => z.1) (hE748.trans e751.symm)
                        have e753 : y717 = p750.2.1 := congrArg (fun z => z.2.1) (hE748.trans e751.symm)
                        have e754 : y718 = p750.2.2.1 := congrArg (fun z => z.2.2.1) (hE748.trans e751.symm)
                        have e755 : y719 = p750.2.2.2.1 := congrArg (fun z => z.2.2.2.1) (hE748.trans e751.symm)
                        have e756 : y720 = p750.2.2.2.2.1 := congrArg (fun z => z.2.2.2.2.1) (hE748.trans e751.symm)
                        have e757 : y721 = p750.2.2.2.2.2.1 := congrArg (fun z => z.2.2.2.2.2.1) (hE748.trans e751.symm)
                        have e758 : y722 = p750.2.2.2.2.2.2.1 := congrArg (fun z => z.2.2.2.2.2.2.1) (hE748.trans e751.symm)
                        have e759 : y723 = p750.2.2.2.2.2.2.2.1 := congrArg (fun z => z.2.2.2.2.2.2.2.1) (hE748.trans e751.symm)
                        have e760 : y724 = p750.2.2.2.2.2.2.2.2.1 := congrArg (fun z => z.2.2.2.2.2.2.2.2.1) (hE748.trans e751.symm)
                        have e761 : y725 = p750.2.2.2.2.2.2.2.2.2.1 := congrArg (fun z => z.2.2.2.2.2.2.2.2.2.1) (hE748.trans e751.symm)
                        have e762 : y726 = p750.2.2.2.2.2.2.2.2.2.2.1 := congrArg (fun z => z.2.2.2.2.2.2.2.2.2.2.1) (hE748.trans e751.symm)
                        have e763 : y727 = p750.2.2.2.2.2.2.2.2.2.2.2.1 := congrArg (fun z => z.2.2.2.2.2.2.2.2.2.2.2.1) (hE748.trans e751.symm)
                        have e764 : f728 = p750.2.2.2.2.2.2.2.2.2.2.2.2 := congrArg (fun z => z.2.2.2.2.2.2.2.2.2.2.2.2) (hE748.trans e751.symm)
                        replace b732 : q_F (0 ≤ y721.toInt) := b732
                        replace b733 : q_F (y627.toInt ≤ y718.toInt) := b733
                        replace b734 : q_F (y718.toInt ≤ y627.toInt) := b734
                        replace b736 : q_F (y631.toInt ≤ y722.toInt) := b736
                        replace b738 : q_F (y632.toInt ≤ y723.toInt) := b738
                        replace b739 : q_F (y723.toInt ≤ y632.toInt) := b739
                        replace b742 : q_F (y634.toInt ≤ y725.toInt) := b742
                        replace b743 : q_F (y725.toInt ≤ y634.toInt) := b743
                        replace b744 : q_F (y635.toInt ≤ y726.toInt) := b744
                        replace b745 : q_F (y726.toInt ≤ y635.toInt) := b745
                        replace hO559 := (hu749 _ (by decide)).trans hO559
                        replace hO560 := (hu749 _ (by decide)).trans hO560
                        replace hO561 := (hu749 _ (by decide)).trans hO561
                        replace hO562 := (hu749 _ (by decide)).trans hO562
                        replace hO564 := (hu749 _ (by decide)).trans hO564
                        replace hA610 := (hu749 _ (by decide)).trans hA610
                        replace hF := q_uc hF hu749 (by simp)
                        have hR765 := (show F_DR_divide_c397_15 (F_DR_divide_L268 x2 x3 x4 x5 x6 t0_0 t0_1 t0_2 t0_3 t0_4 t0_5 t0_6 t0_7 t0_8 t0_9 t0_10 t1_0 t2_0 t3_0 t4_0 t5_0 t6_0 t7_0 lx45 j100 j88 lx107 j126 lx367 p431 f397 p492 fm570) x2 x3 x4 x5 x6 t0_0 t0_1 t0_2 t0_3 t0_4 t0_5 t0_6 t0_7 t0_8 t0_9 t0_10 t1_0 t2_0 t3_0 t4_0 t5_0 t6_0 t7_0 lx45 j100 j88 lx107 j126 lx367 p431 f397 p492 lx512 lx513 lx514 lx515 lx516 lx517 lx518 lx519 lx520 lx521 lx522 lx523 lx524 lx525 j573 lx579 p613 f609 p668 p750 = (F_DR_divide x2 x3 x4 x5 x6 t0_0 t0_1 t0_2 t0_3 t0_4 t0_5 t0_6 t0_7 t0_8 t0_9 t0_10 t1_0 t2_0 t3_0 t4_0 t5_0 t6_0 t7_0) from Eq.trans (by have c707x := c707; rw [e672] at c707x; rw [e751, ← e710, ← e703, ← e700, e694, e681, e680, e679, e678, e677, e676, e675, e674, e673, e672, e671, e670, F_DR_divide_c349.eq_1, if_neg c707x]) hR682)
                        have hS766 := (show True ∧ S_DR_divide_c397_15 (S_DR_divide_L268 x2 x3 x4 x5 x6 t0_0 t0_1 t0_2 t0_3 t0_4 t0_5 t0_6 t0_7 t0_8 t0_9 t0_10 t1_0 t2_0 t3_0 t4_0 t5_0 t6_0 t7_0 lx45 j100 j88 lx107 j126 lx367 p431 f397 p492 fm570) x2 x3 x4 x5 x6 t0_0 t0_1 t0_2 t0_3 t0_4 t0_5 t0_6 t0_7 t0_8 t0_9 t0_10 t1_0 t2_0 t3_0 t4_0 t5_0 t6_0 t7_0 lx45 j100 j88 lx107 j126 lx367 p431 f397 p492 lx512 lx513 lx514 lx515 lx516 lx517 lx518 lx519 lx520 lx521 lx522 lx523 lx524 lx525 j573 lx579 p613 f609 p668 p750 from (by rw [e751, ← e710, ← e703, ← e700, e694, e681, e680, e679, e678, e677, e676, e675, e674, e673, e672, e671, e670]; have h := hS683; rw [S_DR_divide_c349.eq_1] at h; replace h := q_s2 h; replace h := q_s2 h; replace h := q_s2 h; have c707x := c707; rw [e672] at c707x; rw [if_neg c707x] at h; replace h := q_s2 h; with_reducible exact h))
                        refine lv_if_eq (tgt := 408) hx hb d_15_37_400 (by decide) (fun c770 => ?_) (fun c770 => ?_)
                        ·
                          exact q_retv C0 V (⟨hI, hF, y717, y718, y719, y720, y721, y722, y723, y724, y725, y726, y727, t1_0, t2_0, t3_0, t4_0, f728, f397, f609, hO716, hO559, hO560, hO561, hO562, hA729, hO564, hA610, (show 0 ≤ y721.toInt from (by first | with_reducible exact q_fe b732 | (have t1 : 0 ≤ y721.toInt := b732; omega))), (show 0 ≤ y722.toInt from (by have t1 : 0 ≤ y631.toInt := ob697; have t2 : y631.toInt ≤ y722.toInt := b736; omega)), (show t0_1.toInt ≤ y718.toInt from (by have t1 : t0_1.toInt ≤ y387.toInt := b404; have t2 : y387.toInt ≤ y455.toInt := b471; have t3 : y455.toInt ≤ lx514.toInt := i536; have t4 : lx514.toInt ≤ y627.toInt := b642; have t5 : y627.toInt ≤ y718.toInt := b733; omega)), (show y718.toInt ≤ t0_1.toInt from (by have t1 : y387.toInt ≤ t0_1.toInt := b405; have t2 : y455.toInt ≤ y387.toInt := b472; have t3 : lx514.toInt ≤ y455.toInt := i537; have t4 : y627.toInt ≤ lx514.toInt := b643; have t5 : y718.toInt ≤ y627.toInt := b734; omega)), (show t0_6.toInt ≤ y723.toInt from (by have t1 : t0_6.toInt ≤ y392.toInt := b418; have t2 : y392.toInt ≤ y460.toInt := b479; have t3 : y460.toInt ≤ lx519.toInt := i545; have t4 : lx519.toInt ≤ y632.toInt := b655; have t5 : y632.toInt ≤ y723.toInt := b738; omega)), (show y723.toInt ≤ t0_6.toInt from (by have t1 : y392.toInt ≤ t0_6.toInt := b419; have t2 : y460.toInt ≤ y392.toInt := b480; have t3 : lx519.toInt ≤ y460.toInt := i546; have t4 : y632.toInt ≤ lx519.toInt := b656; have t5 : y723.toInt ≤ y632.toInt := b739; omega)), (show t0_8.toInt ≤ y725.toInt from (by have t1 : t0_8.toInt ≤ y394.toInt := b421; have t2 : y394.toInt ≤ y462.toInt := b483; have t3 : y462.toInt ≤ lx521.toInt := i549; have t4 : lx521.toInt ≤ y634.toInt := b659; have t5 : y634.toInt ≤ y725.toInt := b742; omega)), (show y725.toInt ≤ t0_8.toInt from (by have t1 : y394.toInt ≤ t0_8.toInt := b422; have t2 : y462.toInt ≤ y394.toInt := b484; have t3 : lx521.toInt ≤ y462.toInt := i550; have t4 : y634.toInt ≤ lx521.toInt := b660; have t5 : y725.toInt ≤ y634.toInt := b743; omega)), (show t0_9.toInt ≤ y726.toInt from (by have t1 : t0_9.toInt ≤ y395.toInt := b425; have t2 : y395.toInt ≤ y463.toInt := b485; have t3 : y463.toInt ≤ lx522.toInt := i551; have t4 : lx522.toInt ≤ y635.toInt := b662; have t5 : y635.toInt ≤ y726.toInt := b744; omega)), (show y726.toInt ≤ t0_9.toInt from (by have t1 : y395.toInt ≤ t0_9.toInt := b426; have t2 : y463.toInt ≤ y395.toInt := b486; have t3 : lx522.toInt ≤ y463.toInt := i552; have t4 : y635.toInt ≤ lx522.toInt := b663; have t5 : y726.toInt ≤ y635.toInt := b745; omega)), (show (y717, y718, y719, y720, y721, y722, y723, y724, y725, y726, y727, t1_0, t2_0, t3_0, t4_0, f728, f397, f609) = (F_DR_divide x2 x3 x4 x5 x6 t0_0 t0_1 t0_2 t0_3 t0_4 t0_5 t0_6 t0_7 t0_8 t0_9 t0_10 t1_0 t2_0 t3_0 t4_0 t5_0 t6_0 t7_0) from Eq.trans (by have c770x := c770; rw [e752] at c770x; rw [e764, e763, e762, e761, e760, e759, e758, e757, e756, e755, e754, e753, F_DR_divide_c397_15.eq_1, if_pos c770x]) hR765)⟩) d_15_37_408
                        ·
                          refine lv_aload_n hx hb d_15_37_403 rfl (lv_at hl 2 rfl) ?_
                          refine lv_iload_n hx hb d_15_37_404 rfl (lv_at hl 4 rfl) ?_
                          have ob773 : True ∧ S_DR_store x4 y717 y718 y719 y720 y721 y722 y723 y724 y725 y726 y727 t1_0 t2_0 t3_0 t4_0 f728 := (by rw [e764, e763, e762, e761, e760, e759, e758, e757, e756, e755, e754, e753]; have h := hS766; rw [S_DR_divide_c397_15.eq_1] at h; have c770x := c770; rw [e752] at c770x; rw [if_neg c770x] at h; with_reducible exact h.2.1)
                          refine q_gov V (q_runV (As := [.int x4]) (rest := []) (d := 2) (mc := 0) (ms := 0) (ci := 14) C0 V rfl LV_DR_89 (X_DR_store l D g q u713  x4 hI y717 y718 y719 y720 y721 y722 y723 y724 y725 y726 y727 hO716 t1_0 hO559 t2_0 hO560 t3_0 hO561 t4_0 hO562 f728 hA729 ob773 _) rfl rfl hO716 rfl hl.1 rfl (Nat.le_of_ble_eq_true rfl) ⟨by decide, by decide⟩ ⟨Nat.le_of_ble_eq_true rfl, Nat.le_of_ble_eq_true rfl⟩ d_15_37_405) (fun u774 H locs hp775 V => ?_)
                          obtain ⟨hI, hZ9⟩ := hp775
                          obtain ⟨hu821, hZ9⟩ := hZ9
                          obtain ⟨y777, hZ9⟩ := hZ9
                          obtain ⟨y778, hZ9⟩ := hZ9
                          obtain ⟨y779, hZ9⟩ := hZ9
                          obtain ⟨y780, hZ9⟩ := hZ9
                          obtain ⟨y781, hZ9⟩ := hZ9
                          obtain ⟨y782, hZ9⟩ := hZ9
                          obtain ⟨y783, hZ9⟩ := hZ9
                          obtain ⟨y784, hZ9⟩ := hZ9
                          obtain ⟨y785, hZ9⟩ := hZ9
                          obtain ⟨y786, hZ9⟩ := hZ9
                          obtain ⟨y787, hZ9⟩ := hZ9
                          obtain ⟨f788, hZ9⟩ := hZ9
                          obtain ⟨f790, hZ9⟩ := hZ9
                          obtain ⟨f792, hZ9⟩ := hZ9
                          obtain ⟨f794, hZ9⟩ := hZ9
                          obtain ⟨f796, hZ9⟩ := hZ9
                          obtain ⟨hO776, hZ9⟩ := hZ9
                          obtain ⟨hA789, hZ9⟩ := hZ9
                          obtain ⟨hA791, hZ9⟩ := hZ9
                          obtain ⟨hA793, hZ9⟩ := hZ9
                          obtain ⟨hA795, hZ9⟩ := hZ9
                          obtain ⟨hA797, hZ9⟩ := hZ9
                          obtain ⟨b798, hZ9⟩ := hZ9
                          obtain ⟨b799, hZ9⟩ := hZ9
                          obtain ⟨b800, hZ9⟩ := hZ9
                          replace hZ9 := hZ9.2.2.2.2
                          obtain ⟨b805, hZ9⟩ := hZ9
                          replace hZ9 := hZ9.2.2.2
                          obtain ⟨b809, hZ9⟩ := hZ9
                          obtain ⟨b810, hZ9⟩ := hZ9
                          replace hZ9 := hZ9.2.2
                          obtain ⟨b813, hZ9⟩ := hZ9
                          obtain ⟨b814, hZ9⟩ := hZ9
                          replace hZ9 := hZ9.2
                          obtain ⟨b816, hZ9⟩ := hZ9
                          obtain ⟨b817, hZ9⟩ := hZ9
                          replace hZ9 := hZ9.2
                          obtain ⟨-, hE820⟩ := hZ9
                          replace hO776 : u774[134]? = (some (q 134, .inr (14, [.int y777, .ref (q 135), .int y778, .ref (q 136), .ref (q 137), .ref (q 138), .ref (q 139), .ref (q 140), .int y779, .long y780, .int y781, .int y782, .ref (q 141), .int y783, .ref (q 142), .int y784, .ref (q 143), .int y785, .ref (q 144), .int y786, .int y787])) : Option (Nat × va_E)) := hO776
                          replace hA789 : u774[136]? = (some (q 136, .inl (g 0, (10000 : Int32).toNatClampNeg, .inl f788)) : Option (Nat × va_E)) := hA789
                          replace hA791 : u774[137]? = (some (q 137, .inl (g 0, (10 : Int32).toNatClampNeg, .inl f790)) : Option (Nat × va_E)) := hA791
                          replace hA793 : u774[138]? = (some (q 138, .inl (g 3, 10, .inl f792)) : Option (Nat × va_E)) := hA793
                          replace hA795 : u774[139]? = (some (q 139, .inl (g 0, (10 : Int32).toNatClampNeg, .inl f794)) : Option (Nat × va_E)) := hA795
                          replace hA797 : u774[140]? = (some (q 140, .inl (g 0, (4400 : Int32).toNatClampNeg, .inl f796)) : Option (Nat × va_E)) := hA797
                          obtain ⟨p822, e823⟩ : ∃ z, z = (F_DR_store x4 y717 y718 y719 y720 y721 y722 y723 y724 y725 y726 y727 t1_0 t2_0 t3_0 t4_0 f728) := ⟨_, rfl⟩
                          have e824 : y777 = p822.1 := congrArg (fun z => z.1) (hE820.trans e823.symm)
                          have e825 : y778 = p822.2.1 := congrArg (fun z => z.2.1) (hE820.trans e823.symm)
                          have e826 : y779 = p822.2.2.1 := congrArg (fun z => z.2.2.1) (hE820.trans e823.symm)
                          have e827 : y780 = p822.2.2.2.1 := congrArg (fun z => z.2.2.2.1) (hE820.trans e823.symm)
                          have e828 : y781 = p822.2.2.2.2.1 := congrArg (fun z => z.2.2.2.2.1) (hE820.trans e823.symm)
                          have e829 : y782 = p822.2.2.2.2.2.1 := congrArg (fun z => z.2.2.2.2.2.1) (hE820.trans e823.symm)
                          have e830 : y783 = p822.2.2.2.2.2.2.1 := congrArg (fun z => z.2.2.2.2.2.2.1) (hE820.trans e823.symm)
                          have e831 : y784 = p822.2.2.2.2.2.2.2.1 := congrArg (fun z => z.2.2.2.2.2.2.2.1) (hE820.trans e823.symm)
                          have e832 : y785 = p822.2.2.2.2.2.2.2.2.1 := congrArg (fun z => z.2.2.2.2.2.2.2.2.1) (hE820.trans e823.symm)
                          have e833 : y786 = p822.2.2.2.2.2.2.2.2.2.1 := congrArg (fun z => z.2.2.2.2.2.2.2.2.2.1) (hE820.trans e823.symm)
                          have e834 : y787 = p822.2.2.2.2.2.2.2.2.2.2.1 := congrArg (fun z => z.2.2.2.2.2.2.2.2.2.2.1) (hE820.trans e823.symm)
                          have e835 : f788 = p822.2.2.2.2.2.2.2.2.2.2.2.1 := congrArg (fun z => z.2.2.2.2.2.2.2.2.2.2.2.1) (hE820.trans e823.symm)
                          have e836 : f790 = p822.2.2.2.2.2.2.2.2.2.2.2.2.1 := congrArg (fun z => z.2.2.2.2.2.2.2.2.2.2.2.2.1) (hE820.trans e823.symm)
                          have e837 : f792 = p822.2.2.2.2.2.2.2.2.2.2.2.2.2.1 := congrArg (fun z => z.2.2.2.2.2.2.2.2.2.2.2.2.2.1) (hE820.trans e823.symm)
                          have e838 : f794 = p822.2.2.2.2.2.2.2.2.2.2.2.2.2.2.1 := congrArg (fun z => z.2.2.2.2.2.2.2.2.2.2.2.2.2.2.1) (hE820.trans e823.symm)
                          have e839 : f796 = p822.2.2.2.2.2.2.2.2.2.2.2.2.2.2.2 := congrArg (fun z => z.2.2.2.2.2.2.2.2.2.2.2.2.2.2.2) (hE820.trans e823.symm)
                          replace b798 : q_F (0 ≤ y782.toInt) := b798
                          replace b799 : q_F (y718.toInt ≤ y778.toInt) := b799
                          replace b800 : q_F (y778.toInt ≤ y718.toInt) := b800
                          replace b805 : q_F (y721.toInt ≤ y781.toInt) := b805
                          replace b809 : q_F (y723.toInt ≤ y783.toInt) := b809
                          replace b810 : q_F (y783.toInt ≤ y723.toInt) := b810
                          replace b813 : q_F (y725.toInt ≤ y785.toInt) := b813
                          replace b814 : q_F (y785.toInt ≤ y725.toInt) := b814
                          replace b816 : q_F (y726.toInt ≤ y786.toInt) := b816
                          replace b817 : q_F (y786.toInt ≤ y726.toInt) := b817
                          replace hO564 := (hu821 _ (by decide)).trans hO564
                          replace hA610 := (hu821 _ (by decide)).trans hA610
                          replace hF := q_uc hF hu821 (by simp)
                          have hR840 := (show F_DR_divide_c405_16 (F_DR_divide_L268 x2 x3 x4 x5 x6 t0_0 t0_1 t0_2 t0_3 t0_4 t0_5 t0_6 t0_7 t0_8 t0_9 t0_10 t1_0 t2_0 t3_0 t4_0 t5_0 t6_0 t7_0 lx45 j100 j88 lx107 j126 lx367 p431 f397 p492 fm570) x2 x3 x4 x5 x6 t0_0 t0_1 t0_2 t0_3 t0_4 t0_5 t0_6 t0_7 t0_8 t0_9 t0_10 t1_0 t2_0 t3_0 t4_0 t5_0 t6_0 t7_0 lx45 j100 j88 lx107 j126 lx367 p431 f397 p492 lx512 lx513 lx514 lx515 lx516 lx517 lx518 lx519 lx520 lx521 lx522 lx523 lx524 lx525 j573 lx579 p613 f609 p668 p750 p822 = (F_DR_divide x2 x3 x4 x5 x6 t0_0 t0_1 t0_2 t0_3 t0_4 t0_5 t0_6 t0_7 t0_8 t0_9 t0_10 t1_0 t2_0 t3_0 t4_0 t5_0 t6_0 t7_0) from Eq.trans (by have c770x := c770; rw [e752] at c770x; rw [e823, e764, e763, e762, e761, e760, e759, e758, e757, e756, e755, e754, e753, F_DR_divide_c397_15.eq_1, if_neg c770x]) hR765)
                          have hS841 := (show True ∧ S_DR_divide_c405_16 (S_DR_divide_L268 x2 x3 x4 x5 x6 t0_0 t0_1 t0_2 t0_3 t0_4 t0_5 t0_6 t0_7 t0_8 t0_9 t0_10 t1_0 t2_0 t3_0 t4_0 t5_0 t6_0 t7_0 lx45 j100 j88 lx107 j126 lx367 p431 f397 p492 fm570) x2 x3 x4 x5 x6 t0_0 t0_1 t0_2 t0_3 t0_4 t0_5 t0_6 t0_7 t0_8 t0_9 t0_10 t1_0 t2_0 t3_0 t4_0 t5_0 t6_0 t7_0 lx45 j100 j88 lx107 j126 lx367 p431 f397 p492 lx512 lx513 lx514 lx515 lx516 lx517 lx518 lx519 lx520 lx521 lx522 lx523 lx524 lx525 j573 lx579 p613 f609 p668 p750 p822 from (by rw [e823, e764, e763, e762, e761, e760, e759, e758, e757, e756, e755, e754, e753]; have h := hS766; rw [S_DR_divide_c397_15.eq_1] at h; have c770x := c770; rw [e752] at c770x; rw [if_neg c770x] at h; replace h := q_s2 h; with_reducible exact h))
                          exact q_retv C0 V (⟨hI, hF, y777, y778, y779, y780, y781, y782, y783, y784, y785, y786, y787, f788, f790, f792, f794, f796, f397, f609, hO776, hA789, hA791, hA793, hA795, hA797, hO564, hA610, (show 0 ≤ y781.toInt from (by have t1 : 0 ≤ y721.toInt := b732; have t2 : y721.toInt ≤ y781.toInt := b805; omega)), (show 0 ≤ y782.toInt from (by first | with_reducible exact q_fe b798 | (have t1 : 0 ≤ y782.toInt := b798; omega))), (show t0_1.toInt ≤ y778.toInt from (by have t1 : t0_1.toInt ≤ y387.toInt := b404; have t2 : y387.toInt ≤ y455.toInt := b471; have t3 : y455.toInt ≤ lx514.toInt := i536; have t4 : lx514.toInt ≤ y627.toInt := b642; have t5 : y627.toInt ≤ y718.toInt := b733; have t6 : y718.toInt ≤ y778.toInt := b799; omega)), (show y778.toInt ≤ t0_1.toInt from (by have t1 : y387.toInt ≤ t0_1.toInt := b405; have t2 : y455.toInt ≤ y387.toInt := b472; have t3 : lx514.toInt ≤ y455.toInt := i537; have t4 : y627.toInt ≤ lx514.toInt := b643; have t5 : y718.toInt ≤ y627.toInt := b734; have t6 : y778.toInt ≤ y718.toInt := b800; omega)), (show t0_6.toInt ≤ y783.toInt from (by have t1 : t0_6.toInt ≤ y392.toInt := b418; have t2 : y392.toInt ≤ y460.toInt := b479; have t3 : y460.toInt ≤ lx519.toInt := i545; have t4 : lx519.toInt ≤ y632.toInt := b655; have t5 : y632.toInt ≤ y723.toInt := b738; have t6 : y723.toInt ≤ y783.toInt := b809; omega)), (show y783.toInt ≤ t0_6.toInt from (by have t1 : y392.toInt ≤ t0_6.toInt := b419; have t2 : y460.toInt ≤ y392.toInt := b480; have t3 : lx519.toInt ≤ y460.toInt := i546; have t4 : y632.toInt ≤ lx519.toInt := b656; have t5 : y723.toInt ≤ y632.toInt := b739; have t6 : y783.toInt ≤ y723.toInt := b810; omega)), (show t0_8.toInt ≤ y785.toInt from (by have t1 : t0_8.toInt ≤ y394.toInt := b421; have t2 : y394.toInt ≤ y462.toInt := b483; have t3 : y462.toInt ≤ lx521.toInt := i549; have t4 : lx521.toInt ≤ y634.toInt := b659; have t5 : y634.toInt ≤ y725.toInt := b742; have t6 : y725.toInt ≤ y785.toInt := b813; omega)), (show y785.toInt ≤ t0_8.toInt from (by have t1 : y394.toInt ≤ t0_8.toInt := b422; have t2 : y462.toInt ≤ y394.toInt := b484; have t3 : lx521.toInt ≤ y462.toInt := i550; have t4 : y634.toInt ≤ lx521.toInt := b660; have t5 : y725.toInt ≤ y634.toInt := b743; have t6 : y785.toInt ≤ y725.toInt := b814; omega)), (show t0_9.toInt ≤ y786.toInt from (by have t1 : t0_9.toInt ≤ y395.toInt := b425; have t2 : y395.toInt ≤ y463.toInt := b485; have t3 : y463.toInt ≤ lx522.toInt := i551; have t4 : lx522.toInt ≤ y635.toInt := b662; have t5 : y635.toInt ≤ y726.toInt := b744; have t6 : y726.toInt ≤ y786.toInt := b816; omega)), (show y786.toInt ≤ t0_9.toInt from (by have t1 : y395.toInt ≤ t0_9.toInt := b426; have t2 : y463.toInt ≤ y395.toInt := b486; have t3 : lx522.toInt ≤ y463.toInt := i552; have t4 : y635.toInt ≤ lx522.toInt := b663; have t5 : y726.toInt ≤ y635.toInt := b745; have t6 : y786.toInt ≤ y726.toInt := b817; omega)), (show (y777, y778, y779, y780, y781, y782, y783, y784, y785, y786, y787, f788, f790, f792, f794, f796, f397, f609) = (F_DR_divide x2 x3 x4 x5 x6 t0_0 t0_1 t0_2 t0_3 t0_4 t0_5 t0_6 t0_7 t0_8 t0_9 t0_10 t1_0 t2_0 t3_0 t4_0 t5_0 t6_0 t7_0) from Eq.trans (by rw [e839, e838, e837, e836, e835, e834, e833, e832, e831, e830, e829, e828, e827, e826, e825, e824, F_DR_divide_c405_16.eq_1]) hR840)⟩) d_15_37_408
                      ·
                        refine lv_aload_n hx hb d_15_37_376 rfl (lv_at hl 2 rfl) ?_
                        refine q_get (ci := 14) (j := 7) (v := .ref (q 140)) C0 V i_DR rfl rfl hO625 (by decide) w_2010 rfl d_15_37_377 ?_
                        refine lv_iconst (v := 0) hx hb d_15_37_380 (by decide) ?_
                        refine lv_iconst (v := 0) hx hb d_15_37_381 (by decide) ?_
                        refine q_iast C0 V hA638 (q_ix (x := 0) (by decide) (by omega) (by have e9 : (((4400 : Int32).toNatClampNeg : Nat) : Int) = 4400 := (by decide); omega)) d_15_37_382 (fun H locs w846 hu847 hA638 V => ?_)
                        replace hI := n_ai' hI (n_r140 g q).1 hu847 hA638 (q_updB (fun _ => s_bnd) s_bnd)
                        replace hO625 := (hu847 _ (by decide)).trans hO625
                        replace hO559 := (hu847 _ (by decide)).trans hO559
                        replace hO560 := (hu847 _ (by decide)).trans hO560
                        replace hO561 := (hu847 _ (by decide)).trans hO561
                        replace hO562 := (hu847 _ (by decide)).trans hO562
                        replace hO564 := (hu847 _ (by decide)).trans hO564
                        replace hA610 := (hu847 _ (by decide)).trans hA610
                        replace hF := q_us hF hu847 (by simp)
                        obtain ⟨f848, e849⟩ := q_nm (upd f637 (0 : Int32).toNatClampNeg 0 : (Nat → Int32))
                        rw [e849] at hA638
                        refine lv_aload_n hx hb d_15_37_383 rfl (lv_at hl 2 rfl) ?_
                        refine lv_iconst (v := 1) hx hb d_15_37_384 (by decide) ?_
                        refine q_put (ci := 14) (j := 8) (v := .int 1) (ty := .int) C0 V i_DR o_DR n_DR rfl rfl hO625 (by decide) w_2011 rfl rfl rfl rfl (Nat.le_of_ble_eq_true rfl) d_15_37_385 (fun H locs w850 hu851 hO625 V => ?_)
                        replace hO625 : w850[134]? = (some (q 134, .inr (14, [.int y626, .ref (q 135), .int y627, .ref (q 136), .ref (q 137), .ref (q 138), .ref (q 139), .ref (q 140), .int 1, .long j702, .int a690, .int y631, .ref (q 141), .int y632, .ref (q 142), .int y633, .ref (q 143), .int y634, .ref (q 144), .int y635, .int y636])) : Option (Nat × va_E)) := hO625
                        replace hI := n_p134 hI hu851 hO625 ⟨(by have t1 : 0 ≤ lx514.toInt := i528; have t2 : lx514.toInt ≤ y627.toInt := b642; omega), (by have t1 : lx514.toInt ≤ 4100 := i529; have t2 : y627.toInt ≤ lx514.toInt := b643; omega)⟩ ⟨(by first | with_reducible exact q_fe b691 | (have t1 : 0 ≤ a690.toInt := b691; omega)), (by first | with_reducible exact q_fe b692 | (have t1 : a690.toInt ≤ 1 := b692; omega))⟩ ⟨(by first | with_reducible exact q_fe ob697 | (have t1 : 0 ≤ y631.toInt := ob697; omega)), (by first | with_reducible exact q_fe ob698 | (have t1 : y631.toInt ≤ 1 := ob698; omega))⟩ ⟨(by have t1 : 0 ≤ lx522.toInt := i534; have t2 : lx522.toInt ≤ y635.toInt := b662; omega), (by have t1 : lx522.toInt ≤ 12200 := i535; have t2 : y635.toInt ≤ lx522.toInt := b663; omega)⟩
                        replace hO559 := (hu851 _ (by decide)).trans hO559
                        replace hO560 := (hu851 _ (by decide)).trans hO560
                        replace hO561 := (hu851 _ (by decide)).trans hO561
                        replace hO562 := (hu851 _ (by decide)).trans hO562
                        replace hA638 := (hu851 _ (by decide)).trans hA638
                        replace hO564 := (hu851 _ (by decide)).trans hO564
                        replace hA610 := (hu851 _ (by decide)).trans hA610
                        replace hF := q_us hF hu851 (by simp)
                        refine lv_aload_n hx hb d_15_37_388 rfl (lv_at hl 2 rfl) ?_
                        refine lv_aload_n hx hb d_15_37_389 rfl (lv_at hl 2 rfl) ?_
                        refine q_get (ci := 14) (j := 8) (v := .int 1) C0 V i_DR rfl rfl hO625 (by decide) w_2011 rfl d_15_37_390 ?_
                        refine lv_iconst (v := 1) hx hb d_15_37_393 (by decide) ?_
                        refine lv_isub hx hb d_15_37_394 ?_
                        refine q_ti (v := 0) (by decide) ?_
                        refine lv_iload hx hb d_15_37_395 (lv_at hl 6 rfl) ?_
                        have ob852 : True ∧ S_DR_cut (0 : Int32) x6 y626 y627 (1 : Int32) j702 a690 y631 y632 y633 y634 y635 y636 f848 := (by rw [← e849, ← e703, ← e700, e694, e681, e680, e679, e678, e677, e676, e675, e674, e673, e672, e671, e670]; have h := hS683; rw [S_DR_divide_c349.eq_1] at h; replace h := q_s2 h; replace h := q_s2 h; replace h := q_s2 h; have c707x := c707; rw [e672] at c707x; rw [if_pos c707x] at h; with_reducible exact h.2.1)
                        refine q_goi V (q_runV (As := [.int 0, .int x6]) (rest := []) (d := 3) (mc := 0) (ms := 0) (ci := 14) C0 V rfl LV_DR_85 (X_DR_cut l D g q w850  0 x6 hI y626 y627 1 j702 a690 y631 y632 y633 y634 y635 y636 hO625 f848 hA638 ob852 _) rfl rfl hO625 rfl hl.1 rfl (Nat.le_of_ble_eq_true rfl) ⟨by decide, by decide⟩ ⟨Nat.le_of_ble_eq_true rfl, Nat.le_of_ble_eq_true rfl⟩ d_15_37_397) (fun a855 u853 H locs hp854 V => ?_)
                        obtain ⟨hI, hZ9⟩ := hp854
                        obtain ⟨hu889, hZ9⟩ := hZ9
                        obtain ⟨y857, hZ9⟩ := hZ9
                        obtain ⟨y858, hZ9⟩ := hZ9
                        obtain ⟨y859, hZ9⟩ := hZ9
                        obtain ⟨y860, hZ9⟩ := hZ9
                        obtain ⟨y861, hZ9⟩ := hZ9
                        obtain ⟨y862, hZ9⟩ := hZ9
                        obtain ⟨y863, hZ9⟩ := hZ9
                        obtain ⟨y864, hZ9⟩ := hZ9
                        obtain ⟨y865, hZ9⟩ := hZ9
                        obtain ⟨y866, hZ9⟩ := hZ9
                        obtain ⟨y867, hZ9⟩ := hZ9
                        obtain ⟨f868, hZ9⟩ := hZ9
                        obtain ⟨hO856, hZ9⟩ := hZ9
                        obtain ⟨hA869, hZ9⟩ := hZ9
                        replace hZ9 := hZ9.2.2
                        obtain ⟨b872, hZ9⟩ := hZ9
                        obtain ⟨b873, hZ9⟩ := hZ9
                        obtain ⟨b874, hZ9⟩ := hZ9
                        replace hZ9 := hZ9.2
                        obtain ⟨b876, hZ9⟩ := hZ9
                        replace hZ9 := hZ9.2
                        obtain ⟨b878, hZ9⟩ := hZ9
                        obtain ⟨b879, hZ9⟩ := hZ9
                        replace hZ9 := hZ9.2.2
                        obtain ⟨b882, hZ9⟩ := hZ9
                        obtain ⟨b883, hZ9⟩ := hZ9
                        obtain ⟨b884, hZ9⟩ := hZ9
                        obtain ⟨b885, hZ9⟩ := hZ9
                        replace hZ9 := hZ9.2
                        obtain ⟨-, hE888⟩ := hZ9
                        replace hO856 : u853[134]? = (some (q 134, .inr (14, [.int y857, .ref (q 135), .int y858, .ref (q 136), .ref (q 137), .ref (q 138), .ref (q 139), .ref (q 140), .int y859, .long y860, .int y861, .int y862, .ref (q 141), .int y863, .ref (q 142), .int y864, .ref (q 143), .int y865, .ref (q 144), .int y866, .int y867])) : Option (Nat × va_E)) := hO856
                        replace hA869 : u853[140]? = (some (q 140, .inl (g 0, (4400 : Int32).toNatClampNeg, .inl f868)) : Option (Nat × va_E)) := hA869
                        obtain ⟨p890, e891⟩ : ∃ z, z = (F_DR_cut (0 : Int32) x6 y626 y627 (1 : Int32) j702 a690 y631 y632 y633 y634 y635 y636 f848) := ⟨_, rfl⟩
                        have e892 : a855 = p890.1 := congrArg (fun z => z.1) (hE888.trans e891.symm)
                        have e893 : y857 = p890.2.1 := congrArg (fun z => z.2.1) (hE888.trans e891.symm)
                        have e894 : y858 = p890.2.2.1 := congrArg (fun z => z.2.2.1) (hE888.trans e891.symm)
                        have e895 : y859 = p890.2.2.2.1 := congrArg (fun z => z.2.2.2.1) (hE888.trans e891.symm)
                        have e896 : y860 = p890.2.2.2.2.1 := congrArg (fun z => z.2.2.2.2.1) (hE888.trans e891.symm)
                        have e897 : y861 = p890.2.2.2.2.2.1 := congrArg (fun z => z.2.2.2.2.2.1) (hE888.trans e891.symm)
                        have e898 : y862 = p890.2.2.2.2.2.2.1 := congrArg (fun z => z.2.2.2.2.2.2.1) (hE888.trans e891.symm)
                        have e899 : y863 = p890.2.2.2.2.2.2.2.1 := congrArg (fun z => z.2.2.2.2.2.2.2.1) (hE888.trans e891.symm)
                        have e900 : y864 = p890.2.2.2.2.2.2.2.2.1 := congrArg (fun z => z.2.2.2.2.2.2.2.2.1) (hE888.trans e891.symm)
                        have e901 : y865 = p890.2.2.2.2.2.2.2.2.2.1 := congrArg (fun z => z.2.2.2.2.2.2.2.2.2.1) (hE888.trans e891.symm)
                        have e902 : y866 = p890.2.2.2.2.2.2.2.2.2.2.1 := congrArg (fun z => z.2.2.2.2.2.2.2.2.2.2.1) (hE888.trans e891.symm)
                        have e903 : y867 = p890.2.2.2.2.2.2.2.2.2.2.2.1 := congrArg (fun z => z.2.2.2.2.2.2.2.2.2.2.2.1) (hE888.trans e891.symm)
                        have e904 : f868 = p890.2.2.2.2.2.2.2.2.2.2.2.2 := congrArg (fun z => z.2.2.2.2.2.2.2.2.2.2.2.2) (hE888.trans e891.symm)
                        replace b872 : q_F (0 ≤ y861.toInt) := b872
                        replace b873 : q_F (y627.toInt ≤ y858.toInt) := b873
                        replace b874 : q_F (y858.toInt ≤ y627.toInt) := b874
                        replace b876 : q_F (y631.toInt ≤ y862.toInt) := b876
                        replace b878 : q_F (y632.toInt ≤ y863.toInt) := b878
                        replace b879 : q_F (y863.toInt ≤ y632.toInt) := b879
                        replace b882 : q_F (y634.toInt ≤ y865.toInt) := b882
                        replace b883 : q_F (y865.toInt ≤ y634.toInt) := b883
                        replace b884 : q_F (y635.toInt ≤ y866.toInt) := b884
                        replace b885 : q_F (y866.toInt ≤ y635.toInt) := b885
                        replace hO559 := (hu889 _ (by decide)).trans hO559
                        replace hO560 := (hu889 _ (by decide)).trans hO560
                        replace hO561 := (hu889 _ (by decide)).trans hO561
                        replace hO562 := (hu889 _ (by decide)).trans hO562
                        replace hO564 := (hu889 _ (by decide)).trans hO564
                        replace hA610 := (hu889 _ (by decide)).trans hA610
                        replace hF := q_uc hF hu889 (by simp)
                        have hR905 := (show F_DR_divide_c397_17 (F_DR_divide_L268 x2 x3 x4 x5 x6 t0_0 t0_1 t0_2 t0_3 t0_4 t0_5 t0_6 t0_7 t0_8 t0_9 t0_10 t1_0 t2_0 t3_0 t4_0 t5_0 t6_0 t7_0 lx45 j100 j88 lx107 j126 lx367 p431 f397 p492 fm570) x2 x3 x4 x5 x6 t0_0 t0_1 t0_2 t0_3 t0_4 t0_5 t0_6 t0_7 t0_8 t0_9 t0_10 t1_0 t2_0 t3_0 t4_0 t5_0 t6_0 t7_0 lx45 j100 j88 lx107 j126 lx367 p431 f397 p492 lx512 lx513 lx514 lx515 lx516 lx517 lx518 lx519 lx520 lx521 lx522 lx523 lx524 lx525 j573 lx579 p613 f609 p668 p890 = (F_DR_divide x2 x3 x4 x5 x6 t0_0 t0_1 t0_2 t0_3 t0_4 t0_5 t0_6 t0_7 t0_8 t0_9 t0_10 t1_0 t2_0 t3_0 t4_0 t5_0 t6_0 t7_0) from Eq.trans (by have c707x := c707; rw [e672] at c707x; rw [e891, ← e849, ← e703, ← e700, e694, e681, e680, e679, e678, e677, e676, e675, e674, e673, e672, e671, e670, F_DR_divide_c349.eq_1, if_pos c707x]) hR682)
                        have hS906 := (show True ∧ S_DR_divide_c397_17 (S_DR_divide_L268 x2 x3 x4 x5 x6 t0_0 t0_1 t0_2 t0_3 t0_4 t0_5 t0_6 t0_7 t0_8 t0_9 t0_10 t1_0 t2_0 t3_0 t4_0 t5_0 t6_0 t7_0 lx45 j100 j88 lx107 j126 lx367 p431 f397 p492 fm570) x2 x3 x4 x5 x6 t0_0 t0_1 t0_2 t0_3 t0_4 t0_5 t0_6 t0_7 t0_8 t0_9 t0_10 t1_0 t2_0 t3_0 t4_0 t5_0 t6_0 t7_0 lx45 j100 j88 lx107 j126 lx367 p431 f397 p492 lx512 lx513 lx514 lx515 lx516 lx517 lx518 lx519 lx520 lx521 lx522 lx523 lx524 lx525 j573 lx579 p613 f609 p668 p890 from (by rw [e891, ← e849, ← e703, ← e700, e694, e681, e680, e679, e678, e677, e676, e675, e674, e673, e672, e671, e670]; have h := hS683; rw [S_DR_divide_c349.eq_1] at h; replace h := q_s2 h; replace h := q_s2 h; replace h := q_s2 h; have c707x := c707; rw [e672] at c707x; rw [if_pos c707x] at h; replace h := q_s2 h; with_reducible exact h))
                        refine lv_if_eq (tgt := 408) hx hb d_15_37_400 (by decide) (fun c910 => ?_) (fun c910 => ?_)
                        ·
                          exact q_retv C0 V (⟨hI, hF, y857, y858, y859, y860, y861, y862, y863, y864, y865, y866, y867, t1_0, t2_0, t3_0, t4_0, f868, f397, f609, hO856, hO559, hO560, hO561, hO562, hA869, hO564, hA610, (show 0 ≤ y861.toInt from (by first | with_reducible exact q_fe b872 | (have t1 : 0 ≤ y861.toInt := b872; omega))), (show 0 ≤ y862.toInt from (by have t1 : 0 ≤ y631.toInt := ob697; have t2 : y631.toInt ≤ y862.toInt := b876; omega)), (show t0_1.toInt ≤ y858.toInt from (by have t1 : t0_1.toInt ≤ y387.toInt := b404; have t2 : y387.toInt ≤ y455.toInt := b471; have t3 : y455.toInt ≤ lx514.toInt := i536; have t4 : lx514.toInt ≤ y627.toInt := b642; have t5 : y627.toInt ≤ y858.toInt := b873; omega)), (show y858.toInt ≤ t0_1.toInt from (by have t1 : y387.toInt ≤ t0_1.toInt := b405; have t2 : y455.toInt ≤ y387.toInt := b472; have t3 : lx514.toInt ≤ y455.toInt := i537; have t4 : y627.toInt ≤ lx514.toInt := b643; have t5 : y858.toInt ≤ y627.toInt := b874; omega)), (show t0_6.toInt ≤ y863.toInt from (by have t1 : t0_6.toInt ≤ y392.toInt := b418; have t2 : y392.toInt ≤ y460.toInt := b479; have t3 : y460.toInt ≤ lx519.toInt := i545; have t4 : lx519.toInt ≤ y632.toInt := b655; have t5 : y632.toInt ≤ y863.toInt := b878; omega)), (show y863.toInt ≤ t0_6.toInt from (by have t1 : y392.toInt ≤ t0_6.toInt := b419; have t2 : y460.toInt ≤ y392.toInt := b480; have t3 : lx519.toInt ≤ y460.toInt := i546; have t4 : y632.toInt ≤ lx519.toInt := b656; have t5 : y863.toInt ≤ y632.toInt := b879; omega)), (show t0_8.toInt ≤ y865.toInt from (by have t1 : t0_8.toInt ≤ y394.toInt := b421; have t2 : y394.toInt ≤ y462.toInt := b483; have t3 : y462.toInt ≤ lx521.toInt := i549; have t4 : lx521.toInt ≤ y634.toInt := b659; have t5 : y634.toInt ≤ y865.toInt := b882; omega)), (show y865.toInt ≤ t0_8.toInt from (by have t1 : y394.toInt ≤ t0_8.toInt := b422; have t2 : y462.toInt ≤ y394.toInt := b484; have t3 : lx521.toInt ≤ y462.toInt := i550; have t4 : y634.toInt ≤ lx521.toInt := b660; have t5 : y865.toInt ≤ y634.toInt := b883; omega)), (show t0_9.toInt ≤ y866.toInt from (by have t1 : t0_9.toInt ≤ y395.toInt := b425; have t2 : y395.toInt ≤ y463.toInt := b485; have t3 : y463.toInt ≤ lx522.toInt := i551; have t4 : lx522.toInt ≤ y635.toInt := b662; have t5 : y635.toInt ≤ y866.toInt := b884; omega)), (show y866.toInt ≤ t0_9.toInt from (by have t1 : y395.toInt ≤ t0_9.toInt := b426; have t2 : y463.toInt ≤ y395.toInt := b486; have t3 : lx522.toInt ≤ y463.toInt := i552; have t4 : y635.toInt ≤ lx522.toInt := b663; have t5 : y866.toInt ≤ y635.toInt := b885; omega)), (show (y857, y858, y859, y860, y861, y862, y863, y864, y865, y866, y867, t1_0, t2_0, t3_0, t4_0, f868, f397, f609) = (F_DR_divide x2 x3 x4 x5 x6 t0_0 t0_1 t0_2 t0_3 t0_4 t0_5 t0_6 t0_7 t0_8 t0_9 t0_10 t1_0 t2_0 t3_0 t4_0 t5_0 t6_0 t7_0) from Eq.trans (by have c910x := c910; rw [e892] at c910x; rw [e904, e903, e902, e901, e900, e899, e898, e897, e896, e895, e894, e893, F_DR_divide_c397_17.eq_1, if_pos c910x]) hR905)⟩) d_15_37_408
                        ·
                          refine lv_aload_n hx hb d_15_37_403 rfl (lv_at hl 2 rfl) ?_
                          refine lv_iload_n hx hb d_15_37_404 rfl (lv_at hl 4 rfl) ?_
                          have ob913 : True ∧ S_DR_store x4 y857 y858 y859 y860 y861 y862 y863 y864 y865 y866 y867 t1_0 t2_0 t3_0 t4_0 f868 := (by rw [e904, e903, e902, e901, e900, e899, e898, e897, e896, e895, e894, e893]; have h := hS906; rw [S_DR_divide_c397_17.eq_1] at h; have c910x := c910; rw [e892] at c910x; rw [if_neg c910x] at h; with_reducible exact h.2.1)
                          refine q_gov V (q_runV (As := [.int x4]) (rest := []) (d := 2) (mc := 0) (ms := 0) (ci := 14) C0 V rfl LV_DR_89 (X_DR_store l D g q u853  x4 hI y857 y858 y859 y860 y861 y862 y863 y864 y865 y866 y867 hO856 t1_0 hO559 t2_0 hO560 t3_0 hO561 t4_0 hO562 f868 hA869 ob913 _) rfl rfl hO856 rfl hl.1 rfl (Nat.le_of_ble_eq_true rfl) ⟨by decide, by decide⟩ ⟨Nat.le_of_ble_eq_true rfl, Nat.le_of_ble_eq_true rfl⟩ d_15_37_405) (fun u914 H locs hp915 V => ?_)
                          obtain ⟨hI, hZ9⟩ := hp915
                          obtain ⟨hu961, hZ9⟩ := hZ9
                          obtain ⟨y917, hZ9⟩ := hZ9
                          obtain ⟨y918, hZ9⟩ := hZ9
                          obtain ⟨y919, hZ9⟩ := hZ9
                          obtain ⟨y920, hZ9⟩ := hZ9
                          obtain ⟨y921, hZ9⟩ := hZ9
                          obtain ⟨y922, hZ9⟩ := hZ9
                          obtain ⟨y923, hZ9⟩ := hZ9
                          obtain ⟨y924, hZ9⟩ := hZ9
                          obtain ⟨y925, hZ9⟩ := hZ9
                          obtain ⟨y926, hZ9⟩ := hZ9
                          obtain ⟨y927, hZ9⟩ := hZ9
                          obtain ⟨f928, hZ9⟩ := hZ9
                          obtain ⟨f930, hZ9⟩ := hZ9
                          obtain ⟨f932, hZ9⟩ := hZ9
                          obtain ⟨f934, hZ9⟩ := hZ9
                          obtain ⟨f936, hZ9⟩ := hZ9
                          obtain ⟨hO916, hZ9⟩ := hZ9
                          obtain ⟨hA929, hZ9⟩ := hZ9
                          obtain ⟨hA931, hZ9⟩ := hZ9
                          obtain ⟨hA933, hZ9⟩ := hZ9
                          obtain ⟨hA935, hZ9⟩ := hZ9
                          obtain ⟨hA937, hZ9⟩ := hZ9
                          obtain ⟨b938, hZ9⟩ := hZ9
                          obtain ⟨b939, hZ9⟩ := hZ9
                          obtain ⟨b940, hZ9⟩ := hZ9
                          replace hZ9 := hZ9.2.2.2.2
                          obtain ⟨b945, hZ9⟩ := hZ9
                          replace hZ9 := hZ9.2.2.2
                          obtain ⟨b949, hZ9⟩ := hZ9
                          obtain ⟨b950, hZ9⟩ := hZ9
                          replace hZ9 := hZ9.2.2
                          obtain ⟨b953, hZ9⟩ := hZ9
                          obtain ⟨b954, hZ9⟩ := hZ9
                          replace hZ9 := hZ9.2
                          obtain ⟨b956, hZ9⟩ := hZ9
                          obtain ⟨b957, hZ9⟩ := hZ9
                          replace hZ9 := hZ9.2
                          obtain ⟨-, hE960⟩ := hZ9
                          replace hO916 : u914[134]? = (some (q 134, .inr (14, [.int y917, .ref (q 135), .int y918, .ref (q 136), .ref (q 137), .ref (q 138), .ref (q 139), .ref (q 140), .int y919, .long y920, .int y921, .int y922, .ref (q 141), .int y923, .ref (q 142), .int y924, .ref (q 143), .int y925, .ref (q 144), .int y926, .int y927])) : Option (Nat × va_E)) := hO916
                          replace hA929 : u914[136]? = (some (q 136, .inl (g 0, (10000 : Int32).toNatClampNeg, .inl f928)) : Option (Nat × va_E)) := hA929
                          replace hA931 : u914[137]? = (some (q 137, .inl (g 0, (10 : Int32).toNatClampNeg, .inl f930)) : Option (Nat × va_E)) := hA931
                          replace hA933 : u914[138]? = (some (q 138, .inl (g 3, 10, .inl f932)) : Option (Nat × va_E)) := hA933
                          replace hA935 : u914[139]? = (some (q 139, .inl (g 0, (10 : Int32).toNatClampNeg, .inl f934)) : Option (Nat × va_E)) := hA935
                          replace hA937 : u914[140]? = (some (q 140, .inl (g 0, (4400 : Int32).toNatClampNeg, .inl f936)) : Option (Nat × va_E)) := hA937
                          obtain ⟨p962, e963⟩ : ∃ z, z = (F_DR_store x4 y857 y858 y859 y860 y861 y862 y863 y864 y865 y866 y867 t1_0 t2_0 t3_0 t4_0 f868) := ⟨_, rfl⟩
                          have e964 : y917 = p962.1 := congrArg (fun z => z.1) (hE960.trans e963.symm)
                          have e965 : y918 = p962.2.1 := congrArg (fun z => z.2.1) (hE960.trans e963.symm)
                          have e966 : y919 = p962.2.2.1 := congrArg (fun z => z.2.2.1) (hE960.trans e963.symm)
                          have e967 : y920 = p962.2.2.2.1 := congrArg (fun z => z.2.2.2.1) (hE960.trans e963.symm)
                          have e968 : y921 = p962.2.2.2.2.1 := congrArg (fun z => z.2.2.2.2.1) (hE960.trans e963.symm)
                          have e969 : y922 = p962.2.2.2.2.2.1 := congrArg (fun z => z.2.2.2.2.2.1) (hE960.trans e963.symm)
                          have e970 : y923 = p962.2.2.2.2.2.2.1 := congrArg (fun z => z.2.2.2.2.2.2.1) (hE960.trans e963.symm)
                          have e971 : y924 = p962.2.2.2.2.2.2.2.1 := congrArg (fun z => z.2.2.2.2.2.2.2.1) (hE960.trans e963.symm)
                          have e972 : y925 = p962.2.2.2.2.2.2.2.2.1 := congrArg (fun z => z.2.2.2.2.2.2.2.2.1) (hE960.trans e963.symm)
                          have e973 : y926 = p962.2.2.2.2.2.2.2.2.2.1 := congrArg (fun z => z.2.2.2.2.2.2.2.2.2.1) (hE960.trans e963.symm)
                          have e974 : y927 = p962.2.2.2.2.2.2.2.2.2.2.1 := congrArg (fun z => z.2.2.2.2.2.2.2.2.2.2.1) (hE960.trans e963.symm)
                          have e975 : f928 = p962.2.2.2.2.2.2.2.2.2.2.2.1 := congrArg (fun z => z.2.2.2.2.2.2.2.2.2.2.2.1) (hE960.trans e963.symm)
                          have e976 : f930 = p962.2.2.2.2.2.2.2.2.2.2.2.2.1 := congrArg (fun z => z.2.2.2.2.2.2.2.2.2.2.2.2.1) (hE960.trans e963.symm)
                          have e977 : f932 = p962.2.2.2.2.2.2.2.2.2.2.2.2.2.1 := congrArg (fun z => z.2.2.2.2.2.2.2.2.2.2.2.2.2.1) (hE960.trans e963.symm)
                          have e978 : f934 = p962.2.2.2.2.2.2.2.2.2.2.2.2.2.2.1 := congrArg (fun z => z.2.2.2.2.2.2.2.2.2.2.2.2.2.2.1) (hE960.trans e963.symm)
                          have e979 : f936 = p962.2.2.2.2.2.2.2.2.2.2.2.2.2.2.2 := congrArg (fun z => z.2.2.2.2.2.2.2.2.2.2.2.2.2.2.2) (hE960.trans e963.symm)
                          replace b938 : q_F (0 ≤ y922.toInt) := b938
                          replace b939 : q_F (y858.toInt ≤ y918.toInt) := b939
                          replace b940 : q_F (y918.toInt ≤ y858.toInt) := b940
                          replace b945 : q_F (y861.toInt ≤ y921.toInt) := b945
                          replace b949 : q_F (y863.toInt ≤ y923.toInt) := b949
                          replace b950 : q_F (y923.toInt ≤ y863.toInt) := b950
                          replace b953 : q_F (y865.toInt ≤ y925.toInt) := b953
                          replace b954 : q_F (y925.toInt ≤ y865.toInt) := b954
                          replace b956 : q_F (y866.toInt ≤ y926.toInt) := b956
                          replace b957 : q_F (y926.toInt ≤ y866.toInt) := b957
                          replace hO564 := (hu961 _ (by decide)).trans hO564
                          replace hA610 := (hu961 _ (by decide)).trans hA610
                          replace hF := q_uc hF hu961 (by simp)
                          have hR980 := (show F_DR_divide_c405_18 (F_DR_divide_L268 x2 x3 x4 x5 x6 t0_0 t0_1 t0_2 t0_3 t0_4 t0_5 t0_6 t0_7 t0_8 t0_9 t0_10 t1_0 t2_0 t3_0 t4_0 t5_0 t6_0 t7_0 lx45 j100 j88 lx107 j126 lx367 p431 f397 p492 fm570) x2 x3 x4 x5 x6 t0_0 t0_1 t0_2 t0_3 t0_4 t0_5 t0_6 t0_7 t0_8 t0_9 t0_10 t1_0 t2_0 t3_0 t4_0 t5_0 t6_0 t7_0 lx45 j100 j88 lx107 j126 lx367 p431 f397 p492 lx512 lx513 lx514 lx515 lx516 lx517 lx518 lx519 lx520 lx521 lx522 lx523 lx524 lx525 j573 lx579 p613 f609 p668 p890 p962 = (F_DR_divide x2 x3 x4 x5 x6 t0_0 t0_1 t0_2 t0_3 t0_4 t0_5 t0_6 t0_7 t0_8 t0_9 t0_10 t1_0 t2_0 t3_0 t4_0 t5_0 t6_0 t7_0) from Eq.trans (by have c910x := c910; rw [e892] at c910x; rw [e963, e904, e903, e902, e901, e900, e899, e898, e897, e896, e895, e894, e893, F_DR_divide_c397_17.eq_1, if_neg c910x]) hR905)
                          have hS981 := (show True ∧ S_DR_divide_c405_18 (S_DR_divide_L268 x2 x3 x4 x5 x6 t0_0 t0_1 t0_2 t0_3 t0_4 t0_5 t0_6 t0_7 t0_8 t0_9 t0_10 t1_0 t2_0 t3_0 t4_0 t5_0 t6_0 t7_0 lx45 j100 j88 lx107 j126 lx367 p431 f397 p492 fm570) x2 x3 x4 x5 x6 t0_0 t0_1 t0_2 t0_3 t0_4 t0_5 t0_6 t0_7 t0_8 t0_9 t0_10 t1_0 t2_0 t3_0 t4_0 t5_0 t6_0 t7_0 lx45 j100 j88 lx107 j126 lx367 p431 f397 p492 lx512 lx513 lx514 lx515 lx516 lx517 lx518 lx519 lx520 lx521 lx522 lx523 lx524 lx525 j573 lx579 p613 f609 p668 p890 p962 from (by rw [e963, e904, e903, e902, e901, e900, e899, e898, e897, e896, e895, e894, e893]; have h := hS906; rw [S_DR_divide_c397_17.eq_1] at h; have c910x := c910; rw [e892] at c910x; rw [if_neg c910x] at h; replace h := q_s2 h; with_reducible exact h))
                          exact q_retv C0 V (⟨hI, hF, y917, y918, y919, y920, y921, y922, y923, y924, y925, y926, y927, f928, f930, f932, f934, f936, f397, f609, hO916, hA929, hA931, hA933, hA935, hA937, hO564, hA610, (show 0 ≤ y921.toInt from (by have t1 : 0 ≤ y861.toInt := b872; have t2 : y861.toInt ≤ y921.toInt := b945; omega)), (show 0 ≤ y922.toInt from (by first | with_reducible exact q_fe b938 | (have t1 : 0 ≤ y922.toInt := b938; omega))), (show t0_1.toInt ≤ y918.toInt from (by have t1 : t0_1.toInt ≤ y387.toInt := b404; have t2 : y387.toInt ≤ y455.toInt := b471; have t3 : y455.toInt ≤ lx514.toInt := i536; have t4 : lx514.toInt ≤ y627.toInt := b642; have t5 : y627.toInt ≤ y858.toInt := b873; have t6 : y858.toInt ≤ y918.toInt := b939; omega)), (show y918.toInt ≤ t0_1.toInt from (by have t1 : y387.toInt ≤ t0_1.toInt := b405; have t2 : y455.toInt ≤ y387.toInt := b472; have t3 : lx514.toInt ≤ y455.toInt := i537; have t4 : y627.toInt ≤ lx514.toInt := b643; have t5 : y858.toInt ≤ y627.toInt := b874; have t6 : y918.toInt ≤ y858.toInt := b940; omega)), (show t0_6.toInt ≤ y923.toInt from (by have t1 : t0_6.toInt ≤ y392.toInt := b418; have t2 : y392.toInt ≤ y460.toInt := b479; have t3 : y460.toInt ≤ lx519.toInt := i545; have t4 : lx519.toInt ≤ y632.toInt := b655; have t5 : y632.toInt ≤ y863.toInt := b878; have t6 : y863.toInt ≤ y923.toInt := b949; omega)), (show y923.toInt ≤ t0_6.toInt from (by have t1 : y392.toInt ≤ t0_6.toInt := b419; have t2 : y460.toInt ≤ y392.toInt := b480; have t3 : lx519.toInt ≤ y460.toInt := i546; have t4 : y632.toInt ≤ lx519.toInt := b656; have t5 : y863.toInt ≤ y632.toInt := b879; have t6 : y923.toInt ≤ y863.toInt := b950; omega)), (show t0_8.toInt ≤ y925.toInt from (by have t1 : t0_8.toInt ≤ y394.toInt := b421; have t2 : y394.toInt ≤ y462.toInt := b483; have t3 : y462.toInt ≤ lx521.toInt := i549; have t4 : lx521.toInt ≤ y634.toInt := b659; have t5 : y634.toInt ≤ y865.toInt := b882; have t6 : y865.toInt ≤ y925.toInt := b953; omega)), (show y925.toInt ≤ t0_8.toInt from (by have t1 : y394.toInt ≤ t0_8.toInt := b422; have t2 : y462.toInt ≤ y394.toInt := b484; have t3 : lx521.toInt ≤ y462.toInt := i550; have t4 : y634.toInt ≤ lx521.toInt := b660; have t5 : y865.toInt ≤ y634.toInt := b883; have t6 : y925.toInt ≤ y865.toInt := b954; omega)), (show t0_9.toInt ≤ y926.toInt from (by have t1 : t0_9.toInt ≤ y395.toInt := b425; have t2 : y395.toInt ≤ y463.toInt := b485; have t3 : y463.toInt ≤ lx522.toInt := i551; have t4 : lx522.toInt ≤ y635.toInt := b662; have t5 : y635.toInt ≤ y866.toInt := b884; have t6 : y866.toInt ≤ y926.toInt := b956; omega)), (show y926.toInt ≤ t0_9.toInt from (by have t1 : y395.toInt ≤ t0_9.toInt := b426; have t2 : y463.toInt ≤ y395.toInt := b486; have t3 : lx522.toInt ≤ y463.toInt := i552; have t4 : y635.toInt ≤ lx522.toInt := b663; have t5 : y866.toInt ≤ y635.toInt := b885; have t6 : y926.toInt ≤ y866.toInt := b957; omega)), (show (y917, y918, y919, y920, y921, y922, y923, y924, y925, y926, y927, f928, f930, f932, f934, f936, f397, f609) = (F_DR_divide x2 x3 x4 x5 x6 t0_0 t0_1 t0_2 t0_3 t0_4 t0_5 t0_6 t0_7 t0_8 t0_9 t0_10 t1_0 t2_0 t3_0 t4_0 t5_0 t6_0 t7_0) from Eq.trans (by rw [e979, e978, e977, e976, e975, e974, e973, e972, e971, e970, e969, e968, e967, e966, e965, e964, F_DR_divide_c405_18.eq_1]) hR980)⟩) d_15_37_408
                    ·
                      have b985 : q_F (a600.toInt < 0) := (q_nleI c603)
                      refine lv_aload_n hx hb d_15_37_295 rfl (lv_at hl 2 rfl) ?_
                      refine lv_aload_n hx hb d_15_37_296 rfl (lv_at hl 2 rfl) ?_
                      refine lv_lload hx hb d_15_37_297 (lv_at hl 0 rfl) ?_
                      refine lv_aload_n hx hb d_15_37_299 rfl (lv_at hl 2 rfl) ?_
                      refine q_get (ci := 14) (j := 4) (v := .ref (q 137)) C0 V i_DR rfl rfl hO558 (by decide) w_2004 rfl d_15_37_300 ?_
                      refine lv_iload_n hx hb d_15_37_303 rfl (lv_at hl 3 rfl) ?_
                      refine q_iald C0 V hO560 (q_ix (x := x2.toInt) rfl (by first | with_reducible exact q_fe ob81 | (have t1 : 0 ≤ x2.toInt := ob81; omega)) (by have t1 : 0 ≤ x2.toInt := ob81; have t2 : x2.toInt ≤ 9 := ob82; have e9 : (((10 : Int32).toNatClampNeg : Nat) : Int) = 10 := (by decide); omega)) d_15_37_304 ?_
                      obtain ⟨a986, e987⟩ := q_nm (t2_0 x2.toNatClampNeg : Int32)
                      refine q_ti (v := a986) e987 ?_
                      refine lv_i2l hx hb d_15_37_305 rfl ?_
                      obtain ⟨j988, e989⟩ := q_nm (a986.toInt64 : Int64)
                      refine q_tl (v := j988) e989 ?_
                      have b990 : q_F (j988.toInt = a986.toInt) := (by rw [← e989]; show (a986.toInt64 : Int64).toInt = a986.toInt; exact q_i2l rfl)
                      refine W.lcmp hx hb d_15_37_306 ?_
                      obtain ⟨a991, e992⟩ := q_nm (lg_cmp lx512 j988 : Int32)
                      refine q_ti (v := a991) e992 ?_
                      have b993 : q_F (-1 ≤ a991.toInt ∧ a991.toInt ≤ 1 ∧ ((a991.toInt = -1 ∧ lx512.toInt < j988.toInt) ∨ (a991.toInt = 0 ∧ lx512.toInt = j988.toInt) ∨ (a991.toInt = 1 ∧ j988.toInt < lx512.toInt))) := (by rw [← e992]; show -1 ≤ (lg_cmp lx512 j988 : Int32).toInt ∧ (lg_cmp lx512 j988 : Int32).toInt ≤ 1 ∧ (((lg_cmp lx512 j988 : Int32).toInt = -1 ∧ lx512.toInt < j988.toInt) ∨ ((lg_cmp lx512 j988 : Int32).toInt = 0 ∧ lx512.toInt = j988.toInt) ∨ ((lg_cmp lx512 j988 : Int32).toInt = 1 ∧ j988.toInt < lx512.toInt)); exact s_lcmp)
                      refine lv_if_ge (tgt := 327) hx hb d_15_37_307 (by decide) (fun c994 => ?_) (fun c994 => ?_)
                      ·
                        refine lv_iconst (v := 0) hx hb d_15_37_327 (by decide) ?_
                        have ob996 : True ∧ S_DR_nextFigure (0 : Int32) lx513 lx514 lx515 lx516 lx517 lx518 lx519 lx520 lx521 lx522 lx523 f397 lx525 := (by have h := hS593; rw [S_DR_divide_J290.eq_1] at h; have c603x := c603; rw [← e601, ← e598] at c603x; rw [if_neg c603x] at h; have c994x := c994; rw [← e992, ← e989, ← e987] at c994x; rw [if_pos c994x] at h; with_reducible exact h.2.1)
                        refine q_goi V (q_runV (As := [.int 0]) (rest := [.ref (q 134)]) (d := 2) (mc := 0) (ms := 0) (ci := 14) C0 V rfl LV_DR_157 (X_DR_nextFigure l D g q w557  0 hI lx513 lx514 lx515 lx516 lx517 lx518 lx519 lx520 lx521 lx522 lx523 hO558 f397 hO564 lx525 hO565 ob996 _) rfl rfl hO558 rfl hl.1 rfl (Nat.le_of_ble_eq_true rfl) ⟨by decide, by decide⟩ ⟨Nat.le_of_ble_eq_true rfl, Nat.le_of_ble_eq_true rfl⟩ d_15_37_328) (fun a999 u997 H locs hp998 V => ?_)
                        obtain ⟨hI, hu1003, f1000, hA1001, hE1002⟩ := hp998
                        replace hA1001 : u997[143]? = (some (q 143, .inl (g 0, (2202 : Int32).toNatClampNeg, .inl f1000)) : Option (Nat × va_E)) := hA1001
                        obtain ⟨p1004, e1005⟩ : ∃ z, z = (F_DR_nextFigure (0 : Int32) lx513 lx514 lx515 lx516 lx517 lx518 lx519 lx520 lx521 lx522 lx523 f397 lx525) := ⟨_, rfl⟩
                        have e1006 : a999 = p1004.1 := congrArg (fun z => z.1) (hE1002.trans e1005.symm)
                        have e1007 : f1000 = p1004.2 := congrArg (fun z => z.2) (hE1002.trans e1005.symm)
                        replace hO558 := (hu1003 _ (by decide)).trans hO558
                        replace hO559 := (hu1003 _ (by decide)).trans hO559
                        replace hO560 := (hu1003 _ (by decide)).trans hO560
                        replace hO561 := (hu1003 _ (by decide)).trans hO561
                        replace hO562 := (hu1003 _ (by decide)).trans hO562
                        replace hO563 := (hu1003 _ (by decide)).trans hO563
                        replace hO564 := (hu1003 _ (by decide)).trans hO564
                        replace hF := q_uc hF hu1003 (by simp)
                        have hR1008 := (show F_DR_divide_c328 (F_DR_divide_L268 x2 x3 x4 x5 x6 t0_0 t0_1 t0_2 t0_3 t0_4 t0_5 t0_6 t0_7 t0_8 t0_9 t0_10 t1_0 t2_0 t3_0 t4_0 t5_0 t6_0 t7_0 lx45 j100 j88 lx107 j126 lx367 p431 f397 p492 fm570) x2 x3 x4 x5 x6 t0_0 t0_1 t0_2 t0_3 t0_4 t0_5 t0_6 t0_7 t0_8 t0_9 t0_10 t1_0 t2_0 t3_0 t4_0 t5_0 t6_0 t7_0 lx45 j100 j88 lx107 j126 lx367 p431 f397 p492 lx512 lx513 lx514 lx515 lx516 lx517 lx518 lx519 lx520 lx521 lx522 lx523 lx524 lx525 j573 lx579 p1004 = (F_DR_divide x2 x3 x4 x5 x6 t0_0 t0_1 t0_2 t0_3 t0_4 t0_5 t0_6 t0_7 t0_8 t0_9 t0_10 t1_0 t2_0 t3_0 t4_0 t5_0 t6_0 t7_0) from Eq.trans (by have c603x := c603; rw [← e601, ← e598] at c603x; have c994x := c994; rw [← e992, ← e989, ← e987] at c994x; rw [e1005, F_DR_divide_J290.eq_1, if_neg c603x, if_pos c994x]) hR592)
                        have hS1009 := (show True ∧ S_DR_divide_c328 (S_DR_divide_L268 x2 x3 x4 x5 x6 t0_0 t0_1 t0_2 t0_3 t0_4 t0_5 t0_6 t0_7 t0_8 t0_9 t0_10 t1_0 t2_0 t3_0 t4_0 t5_0 t6_0 t7_0 lx45 j100 j88 lx107 j126 lx367 p431 f397 p492 fm570) x2 x3 x4 x5 x6 t0_0 t0_1 t0_2 t0_3 t0_4 t0_5 t0_6 t0_7 t0_8 t0_9 t0_10 t1_0 t2_0 t3_0 t4_0 t5_0 t6_0 t7_0 lx45 j100 j88 lx107 j126 lx367 p431 f397 p492 lx512 lx513 lx514 lx515 lx516 lx517 lx518 lx519 lx520 lx521 lx522 lx523 lx524 lx525 j573 lx579 p1004 from (by rw [e1005]; have h := hS593; rw [S_DR_divide_J290.eq_1] at h; have c603x := c603; rw [← e601, ← e598] at c603x; rw [if_neg c603x] at h; have c994x := c994; rw [← e992, ← e989, ← e987] at c994x; rw [if_pos c994x] at h; replace h := q_s2 h; with_reducible exact h))
                        have ob1013 : True ∧ S_DR_append a999 lx513 lx514 lx515 lx516 lx517 lx518 lx519 lx520 lx521 lx522 lx523 lx524 := (by rw [e1006]; have h := hS1009; rw [S_DR_divide_c328.eq_1] at h; with_reducible exact h.2.1)
                        refine q_gov V (q_runV (As := [.int a999]) (rest := []) (d := 1) (mc := 0) (ms := 0) (ci := 14) C0 V rfl LV_DR_160 (X_DR_append l D g q u997  a999 hI lx513 lx514 lx515 lx516 lx517 lx518 lx519 lx520 lx521 lx522 lx523 hO558 lx524 hO563 ob1013 _) rfl rfl hO558 rfl hl.1 rfl (Nat.le_of_ble_eq_true rfl) ⟨by decide, by decide⟩ ⟨Nat.le_of_ble_eq_true rfl, Nat.le_of_ble_eq_true rfl⟩ d_15_37_331) (fun u1014 H locs hp1015 V => ?_)
                        obtain ⟨hI, hZ9⟩ := hp1015
                        obtain ⟨hu1058, hZ9⟩ := hZ9
                        obtain ⟨y1017, hZ9⟩ := hZ9
                        obtain ⟨y1018, hZ9⟩ := hZ9
                        obtain ⟨y1019, hZ9⟩ := hZ9
                        obtain ⟨y1020, hZ9⟩ := hZ9
                        obtain ⟨y1021, hZ9⟩ := hZ9
                        obtain ⟨y1022, hZ9⟩ := hZ9
                        obtain ⟨y1023, hZ9⟩ := hZ9
                        obtain ⟨y1024, hZ9⟩ := hZ9
                        obtain ⟨y1025, hZ9⟩ := hZ9
                        obtain ⟨y1026, hZ9⟩ := hZ9
                        obtain ⟨y1027, hZ9⟩ := hZ9
                        obtain ⟨f1028, hZ9⟩ := hZ9
                        obtain ⟨hO1016, hZ9⟩ := hZ9
                        obtain ⟨hA1029, hZ9⟩ := hZ9
                        obtain ⟨b1030, hZ9⟩ := hZ9
                        obtain ⟨b1031, hZ9⟩ := hZ9
                        obtain ⟨b1032, hZ9⟩ := hZ9
                        obtain ⟨b1033, hZ9⟩ := hZ9
                        obtain ⟨b1034, hZ9⟩ := hZ9
                        replace hZ9 := hZ9.2
                        obtain ⟨b1036, hZ9⟩ := hZ9
                        obtain ⟨b1037, hZ9⟩ := hZ9
                        obtain ⟨b1038, hZ9⟩ := hZ9
                        obtain ⟨b1039, hZ9⟩ := hZ9
                        replace hZ9 := hZ9.2
                        obtain ⟨b1041, hZ9⟩ := hZ9
                        obtain ⟨b1042, hZ9⟩ := hZ9
                        replace hZ9 := hZ9.2
                        obtain ⟨b1044, hZ9⟩ := hZ9
                        obtain ⟨b1045, hZ9⟩ := hZ9
                        obtain ⟨b1046, hZ9⟩ := hZ9
                        obtain ⟨b1047, hZ9⟩ := hZ9
                        obtain ⟨b1048, hZ9⟩ := hZ9
                        obtain ⟨b1049, hZ9⟩ := hZ9
                        obtain ⟨b1050, hZ9⟩ := hZ9
                        obtain ⟨b1051, hZ9⟩ := hZ9
                        replace hZ9 := hZ9.2
                        obtain ⟨b1053, hZ9⟩ := hZ9
                        obtain ⟨b1054, hZ9⟩ := hZ9
                        obtain ⟨b1055, hZ9⟩ := hZ9
                        obtain ⟨b1056, hE1057⟩ := hZ9
                        replace hO1016 : u1014[134]? = (some (q 134, .inr (14, [.int y1017, .ref (q 135), .int y1018, .ref (q 136), .ref (q 137), .ref (q 138), .ref (q 139), .ref (q 140), .int y1019, .long y1020, .int y1021, .int y1022, .ref (q 141), .int y1023, .ref (q 142), .int y1024, .ref (q 143), .int y1025, .ref (q 144), .int y1026, .int y1027])) : Option (Nat × va_E)) := hO1016
                        replace hA1029 : u1014[140]? = (some (q 140, .inl (g 0, (4400 : Int32).toNatClampNeg, .inl f1028)) : Option (Nat × va_E)) := hA1029
                        obtain ⟨p1059, e1060⟩ : ∃ z, z = (F_DR_append a999 lx513 lx514 lx515 lx516 lx517 lx518 lx519 lx520 lx521 lx522 lx523 lx524) := ⟨_, rfl⟩
                        have e1061 : y1017 = p1059.1 := congrArg (fun z => z.1) (hE1057.trans e1060.symm)
                        have e1062 : y1018 = p1059.2.1 := congrArg (fun z => z.2.1) (hE1057.trans e1060.symm)
                        have e1063 : y1019 = p1059.2.2.1 := congrArg (fun z => z.2.2.1) (hE1057.trans e1060.symm)
                        have e1064 : y1020 = p1059.2.2.2.1 := congrArg (fun z => z.2.2.2.1) (hE1057.trans e1060.symm)
                        have e1065 : y1021 = p1059.2.2.2.2.1 := congrArg (fun z => z.2.2.2.2.1) (hE1057.trans e1060.symm)
                        have e1066 : y1022 = p1059.2.2.2.2.2.1 := congrArg (fun z => z.2.2.2.2.2.1) (hE1057.trans e1060.symm)
                        have e1067 : y1023 = p1059.2.2.2.2.2.2.1 := congrArg (fun z => z.2.2.2.2.2.2.1) (hE1057.trans e1060.symm)
                        have e1068 : y1024 = p1059.2.2.2.2.2.2.2.1 := congrArg (fun z => z.2.2.2.2.2.2.2.1) (hE1057.trans e1060.symm)
                        have e1069 : y1025 = p1059.2.2.2.2.2.2.2.2.1 := congrArg (fun z => z.2.2.2.2.2.2.2.2.1) (hE1057.trans e1060.symm)
                        have e1070 : y1026 = p1059.2.2.2.2.2.2.2.2.2.1 := congrArg (fun z => z.2.2.2.2.2.2.2.2.2.1) (hE1057.trans e1060.symm)
                        have e1071 : y1027 = p1059.2.2.2.2.2.2.2.2.2.2.1 := congrArg (fun z => z.2.2.2.2.2.2.2.2.2.2.1) (hE1057.trans e1060.symm)
                        have e1072 : f1028 = p1059.2.2.2.2.2.2.2.2.2.2.2 := congrArg (fun z => z.2.2.2.2.2.2.2.2.2.2.2) (hE1057.trans e1060.symm)
                        replace b1030 : q_F (y1019.toInt ≤ 4400) := b1030
                        replace b1031 : q_F (lx513.toInt ≤ y1017.toInt) := b1031
                        replace b1032 : q_F (y1017.toInt ≤ lx513.toInt) := b1032
                        replace b1033 : q_F (lx514.toInt ≤ y1018.toInt) := b1033
                        replace b1034 : q_F (y1018.toInt ≤ lx514.toInt) := b1034
                        replace b1036 : q_F (lx515.toInt ≤ y1019.toInt) := b1036
                        replace b1037 : q_F (y1019.toInt ≤ lx515.toInt + 1) := b1037
                        replace b1038 : q_F (lx516.toInt ≤ y1020.toInt) := b1038
                        replace b1039 : q_F (y1020.toInt ≤ lx516.toInt) := b1039
                        replace b1041 : q_F (lx517.toInt ≤ y1021.toInt) := b1041
                        replace b1042 : q_F (y1021.toInt ≤ lx517.toInt) := b1042
                        replace b1044 : q_F (lx518.toInt ≤ y1022.toInt) := b1044
                        replace b1045 : q_F (y1022.toInt ≤ lx518.toInt) := b1045
                        replace b1046 : q_F (lx519.toInt ≤ y1023.toInt) := b1046
                        replace b1047 : q_F (y1023.toInt ≤ lx519.toInt) := b1047
                        replace b1048 : q_F (lx520.toInt ≤ y1024.toInt) := b1048
                        replace b1049 : q_F (y1024.toInt ≤ lx520.toInt) := b1049
                        replace b1050 : q_F (lx521.toInt ≤ y1025.toInt) := b1050
                        replace b1051 : q_F (y1025.toInt ≤ lx521.toInt) := b1051
                        replace b1053 : q_F (lx522.toInt ≤ y1026.toInt) := b1053
                        replace b1054 : q_F (y1026.toInt ≤ lx522.toInt) := b1054
                        replace b1055 : q_F (lx523.toInt ≤ y1027.toInt) := b1055
                        replace b1056 : q_F (y1027.toInt ≤ lx523.toInt) := b1056
                        replace hO559 := (hu1058 _ (by decide)).trans hO559
                        replace hO560 := (hu1058 _ (by decide)).trans hO560
                        replace hO561 := (hu1058 _ (by decide)).trans hO561
                        replace hO562 := (hu1058 _ (by decide)).trans hO562
                        replace hO564 := (hu1058 _ (by decide)).trans hO564
                        replace hA1001 := (hu1058 _ (by decide)).trans hA1001
                        replace hF := q_uc hF hu1058 (by simp)
                        have hR1073 := (show F_DR_divide_c331 (F_DR_divide_L268 x2 x3 x4 x5 x6 t0_0 t0_1 t0_2 t0_3 t0_4 t0_5 t0_6 t0_7 t0_8 t0_9 t0_10 t1_0 t2_0 t3_0 t4_0 t5_0 t6_0 t7_0 lx45 j100 j88 lx107 j126 lx367 p431 f397 p492 fm570) x2 x3 x4 x5 x6 t0_0 t0_1 t0_2 t0_3 t0_4 t0_5 t0_6 t0_7 t0_8 t0_9 t0_10 t1_0 t2_0 t3_0 t4_0 t5_0 t6_0 t7_0 lx45 j100 j88 lx107 j126 lx367 p431 f397 p492 lx512 lx513 lx514 lx515 lx516 lx517 lx518 lx519 lx520 lx521 lx522 lx523 lx524 lx525 j573 lx579 p1004 f1000 p1059 = (F_DR_divide x2 x3 x4 x5 x6 t0_0 t0_1 t0_2 t0_3 t0_4 t0_5 t0_6 t0_7 t0_8 t0_9 t0_10 t1_0 t2_0 t3_0 t4_0 t5_0 t6_0 t7_0) from Eq.trans (by rw [e1060, e1007, e1006, F_DR_divide_c328.eq_1]) hR1008)
                        have hS1074 := (show True ∧ S_DR_divide_c331 (S_DR_divide_L268 x2 x3 x4 x5 x6 t0_0 t0_1 t0_2 t0_3 t0_4 t0_5 t0_6 t0_7 t0_8 t0_9 t0_10 t1_0 t2_0 t3_0 t4_0 t5_0 t6_0 t7_0 lx45 j100 j88 lx107 j126 lx367 p431 f397 p492 fm570) x2 x3 x4 x5 x6 t0_0 t0_1 t0_2 t0_3 t0_4 t0_5 t0_6 t0_7 t0_8 t0_9 t0_10 t1_0 t2_0 t3_0 t4_0 t5_0 t6_0 t7_0 lx45 j100 j88 lx107 j126 lx367 p431 f397 p492 lx512 lx513 lx514 lx515 lx516 lx517 lx518 lx519 lx520 lx521 lx522 lx523 lx524 lx525 j573 lx579 p1004 f1000 p1059 from (by rw [e1060, e1007, e1006]; have h := hS1009; rw [S_DR_divide_c328.eq_1] at h; replace h := q_s2 h; with_reducible exact h))
                        refine lv_lload hx hb d_15_37_334 (lv_at hl 0 rfl) ?_
                        refine lv_lconst (v := 1) hx hb d_15_37_336 (by decide) ?_
                        refine lv_ladd hx hb d_15_37_337 ?_
                        obtain ⟨j1078, e1079⟩ := q_nm (lx512 + 1 : Int64)
                        refine q_tl (v := j1078) e1079 ?_
                        have b1080 : q_F (j1078.toInt = lx512.toInt + 1) := (by rw [← e1079]; show (lx512 + 1 : Int64).toInt = lx512.toInt + 1; exact q_addL (x := lx512.toInt) (y := 1) rfl (by decide) (by have _ := Int64.le_toInt lx512; have _ := Int64.toInt_lt lx512; have t1 : -1 ≤ a600.toInt ∧ a600.toInt ≤ 1 ∧ ((a600.toInt = -1 ∧ lx512.toInt < j597.toInt) ∨ (a600.toInt = 0 ∧ lx512.toInt = j597.toInt) ∨ (a600.toInt = 1 ∧ j597.toInt < lx512.toInt)) := b602; have t2 : a600.toInt < 0 := b985; have _ := Int64.le_toInt j597; have _ := Int64.toInt_lt j597; omega) (by have _ := Int64.le_toInt lx512; have _ := Int64.toInt_lt lx512; have t1 : -1 ≤ a600.toInt ∧ a600.toInt ≤ 1 ∧ ((a600.toInt = -1 ∧ lx512.toInt < j597.toInt) ∨ (a600.toInt = 0 ∧ lx512.toInt = j597.toInt) ∨ (a600.toInt = 1 ∧ j597.toInt < lx512.toInt)) := b602; have t2 : a600.toInt < 0 := b985; have _ := Int64.le_toInt j597; have _ := Int64.toInt_lt j597; omega))
                        refine lv_lstore (lv' := [(10, .long j1078), (6, .long j88), (0, .ref (q 134)), (1, .int x2), (3, .int x4), (4, .int x5), (5, .int x6)]) hx hb d_15_37_338 hl (by decide) rfl (fun ls hl => ?_)
                        refine lv_goto (tgt := 268) hx hb d_15_37_340 (by decide) ?_
                        exact ih556 ((fm570 : Nat), (j1078 : Int64), (y1017 : Int32), (y1018 : Int32), (y1019 : Int32), (y1020 : Int64), (y1021 : Int32), (y1022 : Int32), (y1023 : Int32), (y1024 : Int32), (y1025 : Int32), (y1026 : Int32), (y1027 : Int32), (f1028 : (Nat → Int32)), (f1000 : (Nat → Int32))) _ _ _ _ (Nat.lt_succ_self _) ⟨(show q_F (0 ≤ y1017.toInt) from (show 0 ≤ y1017.toInt from by have t1 : 0 ≤ lx513.toInt := i526; have t2 : lx513.toInt ≤ y1017.toInt := b1031; omega)), (show q_F (y1017.toInt ≤ 0) from (show y1017.toInt ≤ 0 from by have t1 : lx513.toInt ≤ 0 := i527; have t2 : y1017.toInt ≤ lx513.toInt := b1032; omega)), (show q_F (0 ≤ y1018.toInt) from (show 0 ≤ y1018.toInt from by have t1 : 0 ≤ lx514.toInt := i528; have t2 : lx514.toInt ≤ y1018.toInt := b1033; omega)), (show q_F (y1018.toInt ≤ 4100) from (show y1018.toInt ≤ 4100 from by have t1 : lx514.toInt ≤ 4100 := i529; have t2 : y1018.toInt ≤ lx514.toInt := b1034; omega)), (show q_F (y1019.toInt ≤ 12200) from (show y1019.toInt ≤ 12200 from by have t1 : y1019.toInt ≤ 4400 := b1030; omega)), (show q_F (0 ≤ y1020.toInt + 2147483648) from (show 0 ≤ y1020.toInt + 2147483648 from by have t1 : 0 ≤ lx516.toInt + 2147483648 := i531; have t2 : lx516.toInt ≤ y1020.toInt := b1038; omega)), (show q_F (y1020.toInt ≤ 2147483647) from (show y1020.toInt ≤ 2147483647 from by have t1 : lx516.toInt ≤ 2147483647 := i532; have t2 : y1020.toInt ≤ lx516.toInt := b1039; omega)), (show q_F (y1022.toInt ≤ 10) from (show y1022.toInt ≤ 10 from by have t1 : lx518.toInt ≤ 10 := i533; have t2 : y1022.toInt ≤ lx518.toInt := b1045; omega)), (show q_F (0 ≤ y1026.toInt) from (show 0 ≤ y1026.toInt from by have t1 : 0 ≤ lx522.toInt := i534; have t2 : lx522.toInt ≤ y1026.toInt := b1053; omega)), (show q_F (y1026.toInt ≤ 12200) from (show y1026.toInt ≤ 12200 from by have t1 : lx522.toInt ≤ 12200 := i535; have t2 : y1026.toInt ≤ lx522.toInt := b1054; omega)), (show q_F (y455.toInt ≤ y1018.toInt) from (show y455.toInt ≤ y1018.toInt from by have t1 : y455.toInt ≤ lx514.toInt := i536; have t2 : lx514.toInt ≤ y1018.toInt := b1033; omega)), (show q_F (y1018.toInt ≤ y455.toInt) from (show y1018.toInt ≤ y455.toInt from by have t1 : lx514.toInt ≤ y455.toInt := i537; have t2 : y1018.toInt ≤ lx514.toInt := b1034; omega)), (show q_F (y456.toInt ≤ y1019.toInt) from (show y456.toInt ≤ y1019.toInt from by have t1 : y456.toInt ≤ lx515.toInt := i538; have t2 : lx515.toInt ≤ y1019.toInt := b1036; omega)), (show q_F (y457.toInt ≤ y1020.toInt) from (show y457.toInt ≤ y1020.toInt from by have t1 : y457.toInt ≤ lx516.toInt := i539; have t2 : lx516.toInt ≤ y1020.toInt := b1038; omega)), (show q_F (y1020.toInt ≤ y457.toInt) from (show y1020.toInt ≤ y457.toInt from by have t1 : lx516.toInt ≤ y457.toInt := i540; have t2 : y1020.toInt ≤ lx516.toInt := b1039; omega)), (show q_F (y458.toInt ≤ y1021.toInt) from (show y458.toInt ≤ y1021.toInt from by have t1 : y458.toInt ≤ lx517.toInt := i541; have t2 : lx517.toInt ≤ y1021.toInt := b1041; omega)), (show q_F (y1021.toInt ≤ y458.toInt) from (show y1021.toInt ≤ y458.toInt from by have t1 : lx517.toInt ≤ y458.toInt := i542; have t2 : y1021.toInt ≤ lx517.toInt := b1042; omega)), (show q_F (y459.toInt ≤ y1022.toInt) from (show y459.toInt ≤ y1022.toInt from by have t1 : y459.toInt ≤ lx518.toInt := i543; have t2 : lx518.toInt ≤ y1022.toInt := b1044; omega)), (show q_F (y1022.toInt ≤ y459.toInt) from (show y1022.toInt ≤ y459.toInt from by have t1 : lx518.toInt ≤ y459.toInt := i544; have t2 : y1022.toInt ≤ lx518.toInt := b1045; omega)), (show q_F (y460.toInt ≤ y1023.toInt) from (show y460.toInt ≤ y1023.toInt from by have t1 : y460.toInt ≤ lx519.toInt := i545; have t2 : lx519.toInt ≤ y1023.toInt := b1046; omega)), (show q_F (y1023.toInt ≤ y460.toInt) from (show y1023.toInt ≤ y460.toInt from by have t1 : lx519.toInt ≤ y460.toInt := i546; have t2 : y1023.toInt ≤ lx519.toInt := b1047; omega)), (show q_F (y461.toInt ≤ y1024.toInt) from (show y461.toInt ≤ y1024.toInt from by have t1 : y461.toInt ≤ lx520.toInt := i547; have t2 : lx520.toInt ≤ y1024.toInt := b1048; omega)), (show q_F (y1024.toInt ≤ y461.toInt) from (show y1024.toInt ≤ y461.toInt from by have t1 : lx520.toInt ≤ y461.toInt := i548; have t2 : y1024.toInt ≤ lx520.toInt := b1049; omega)), (show q_F (y462.toInt ≤ y1025.toInt) from (show y462.toInt ≤ y1025.toInt from by have t1 : y462.toInt ≤ lx521.toInt := i549; have t2 : lx521.toInt ≤ y1025.toInt := b1050; omega)), (show q_F (y1025.toInt ≤ y462.toInt) from (show y1025.toInt ≤ y462.toInt from by have t1 : lx521.toInt ≤ y462.toInt := i550; have t2 : y1025.toInt ≤ lx521.toInt := b1051; omega)), (show q_F (y463.toInt ≤ y1026.toInt) from (show y463.toInt ≤ y1026.toInt from by have t1 : y463.toInt ≤ lx522.toInt := i551; have t2 : lx522.toInt ≤ y1026.toInt := b1053; omega)), (show q_F (y1026.toInt ≤ y463.toInt) from (show y1026.toInt ≤ y463.toInt from by have t1 : lx522.toInt ≤ y463.toInt := i552; have t2 : y1026.toInt ≤ lx522.toInt := b1054; omega)), (show q_F (y464.toInt ≤ y1027.toInt) from (show y464.toInt ≤ y1027.toInt from by have t1 : y464.toInt ≤ lx523.toInt := i553; have t2 : lx523.toInt ≤ y1027.toInt := b1055; omega)), (show q_F (y1027.toInt ≤ y464.toInt) from (show y1027.toInt ≤ y464.toInt from by have t1 : lx523.toInt ≤ y464.toInt := i554; have t2 : y1027.toInt ≤ lx523.toInt := b1056; omega)), (show q_F (y1019.toInt ≤ j1078.toInt + y456.toInt) from (show y1019.toInt ≤ j1078.toInt + y456.toInt from by have t1 : lx515.toInt ≤ lx512.toInt + y456.toInt := i555; have t2 : y1019.toInt ≤ lx515.toInt + 1 := b1037; have t3 : j1078.toInt = lx512.toInt + 1 := b1080; omega)), V, q_lw hl (q_lw1 0 rfl (q_lw1 1 rfl (q_lw1 2 rfl (q_lw1 3 rfl (q_lw1 4 rfl (q_lw1 5 rfl (q_lw1 6 rfl q_lw0))))))), hI, hF, hO1016, hO559, hO560, hO561, hO562, hA1029, hO564, hA1001, (show F_DR_divide_L268 x2 x3 x4 x5 x6 t0_0 t0_1 t0_2 t0_3 t0_4 t0_5 t0_6 t0_7 t0_8 t0_9 t0_10 t1_0 t2_0 t3_0 t4_0 t5_0 t6_0 t7_0 lx45 j100 j88 lx107 j126 lx367 p431 f397 p492 fm570 j1078 y1017 y1018 y1019 y1020 y1021 y1022 y1023 y1024 y1025 y1026 y1027 f1028 f1000 = (F_DR_divide x2 x3 x4 x5 x6 t0_0 t0_1 t0_2 t0_3 t0_4 t0_5 t0_6 t0_7 t0_8 t0_9 t0_10 t1_0 t2_0 t3_0 t4_0 t5_0 t6_0 t7_0) from Eq.trans (by rw [← e1079, e1072, e1071, e1070, e1069, e1068, e1067, e1066, e1065, e1064, e1063, e1062, e1061, F_DR_divide_c331.eq_1]) hR1073), (show True ∧ S_DR_divide_L268 x2 x3 x4 x5 x6 t0_0 t0_1 t0_2 t0_3 t0_4 t0_5 t0_6 t0_7 t0_8 t0_9 t0_10 t1_0 t2_0 t3_0 t4_0 t5_0 t6_0 t7_0 lx45 j100 j88 lx107 j126 lx367 p431 f397 p492 fm570 j1078 y1017 y1018 y1019 y1020 y1021 y1022 y1023 y1024 y1025 y1026 y1027 f1028 f1000 from (by rw [← e1079, e1072, e1071, e1070, e1069, e1068, e1067, e1066, e1065, e1064, e1063, e1062, e1061]; have h := hS1074; rw [S_DR_divide_c331.eq_1] at h; with_reducible exact h))⟩
                      ·
                        have b1081 : q_F (a991.toInt < 0) := (q_nleI c994)
                        refine lv_aload_n hx hb d_15_37_310 rfl (lv_at hl 2 rfl) ?_
                        refine q_get (ci := 14) (j := 3) (v := .ref (q 136)) C0 V i_DR rfl rfl hO558 (by decide) w_2002 rfl d_15_37_311 ?_
                        refine lv_sipush (v := 1000) hx hb d_15_37_314 (by decide) ?_
                        refine lv_iload_n hx hb d_15_37_317 rfl (lv_at hl 3 rfl) ?_
                        refine lv_imul hx hb d_15_37_318 ?_
                        obtain ⟨a1082, e1083⟩ := q_nm (1000 * x2 : Int32)
                        refine q_ti (v := a1082) e1083 ?_
                        refine lv_lload hx hb d_15_37_319 (lv_at hl 0 rfl) ?_
                        refine lv_l2i hx hb d_15_37_321 rfl ?_
                        obtain ⟨a1085, e1086⟩ := q_nm (lx512.toInt32 : Int32)
                        refine q_ti (v := a1085) e1086 ?_
                        have b1087 : q_F (a1085.toInt = lx512.toInt) := (by rw [← e1086]; show (lx512.toInt32 : Int32).toInt = lx512.toInt; exact s_l2i (by have t1 : y456.toInt ≤ lx515.toInt := i538; have t2 : lx515.toInt ≤ lx512.toInt + y456.toInt := i555; have t3 : j988.toInt = a986.toInt := b990; have t4 : -1 ≤ a991.toInt ∧ a991.toInt ≤ 1 ∧ ((a991.toInt = -1 ∧ lx512.toInt < j988.toInt) ∨ (a991.toInt = 0 ∧ lx512.toInt = j988.toInt) ∨ (a991.toInt = 1 ∧ j988.toInt < lx512.toInt)) := b993; have t5 : a991.toInt < 0 := b1081; have _ := q_lo32 (x := a986); have _ := q_hi32 (x := a986); omega) (by have t1 : y456.toInt ≤ lx515.toInt := i538; have t2 : lx515.toInt ≤ lx512.toInt + y456.toInt := i555; have t3 : j988.toInt = a986.toInt := b990; have t4 : -1 ≤ a991.toInt ∧ a991.toInt ≤ 1 ∧ ((a991.toInt = -1 ∧ lx512.toInt < j988.toInt) ∨ (a991.toInt = 0 ∧ lx512.toInt = j988.toInt) ∨ (a991.toInt = 1 ∧ j988.toInt < lx512.toInt)) := b993; have t5 : a991.toInt < 0 := b1081; have _ := q_lo32 (x := a986); have _ := q_hi32 (x := a986); omega))
                        refine lv_iadd hx hb d_15_37_322 ?_
                        obtain ⟨a1088, e1089⟩ := q_nm (a1082 + a1085 : Int32)
                        refine q_ti (v := a1088) e1089 ?_
                        have ob1090 : q_F (0 ≤ a1088.toInt) := (by rw [← e1089, ← e1086, ← e1083]; have h := hS593; rw [S_DR_divide_J290.eq_1] at h; have c603x := c603; rw [← e601, ← e598] at c603x; rw [if_neg c603x] at h; have c994x := c994; rw [← e992, ← e989, ← e987] at c994x; rw [if_neg c994x] at h; exact h.2.1)
                        have ob1091 : q_F (a1088.toInt ≤ 9999) := (by rw [← e1089, ← e1086, ← e1083]; have h := hS593; rw [S_DR_divide_J290.eq_1] at h; have c603x := c603; rw [← e601, ← e598] at c603x; rw [if_neg c603x] at h; have c994x := c994; rw [← e992, ← e989, ← e987] at c994x; rw [if_neg c994x] at h; replace h := q_s2 h; exact h.2.1)
                        refine q_iald C0 V hO559 (q_ix (x := a1088.toInt) rfl (by first | with_reducible exact q_fe ob1090 | (have t1 : 0 ≤ a1088.toInt := ob1090; omega)) (by have t1 : 0 ≤ a1088.toInt := ob1090; have t2 : a1088.toInt ≤ 9999 := ob1091; have e9 : (((10000 : Int32).toNatClampNeg : Nat) : Int) = 10000 := (by decide); omega)) d_15_37_323 ?_
                        obtain ⟨a1092, e1093⟩ := q_nm (t1_0 a1088.toNatClampNeg : Int32)
                        refine q_ti (v := a1092) e1093 ?_
                        refine lv_goto (tgt := 328) hx hb d_15_37_324 (by decide) ?_
                        have ob1094 : True ∧ S_DR_nextFigure a1092 lx513 lx514 lx515 lx516 lx517 lx518 lx519 lx520 lx521 lx522 lx523 f397 lx525 := (by rw [← e1093, ← e1089, ← e1086, ← e1083]; have h := hS593; rw [S_DR_divide_J290.eq_1] at h; have c603x := c603; rw [← e601, ← e598] at c603x; rw [if_neg c603x] at h; have c994x := c994; rw [← e992, ← e989, ← e987] at c994x; rw [if_neg c994x] at h; replace h := q_s2 h; replace h := q_s2 h; with_reducible exact h.2.1)
                        refine q_goi V (q_runV (As := [.int a1092]) (rest := [.ref (q 134)]) (d := 2) (mc := 0) (ms := 0) (ci := 14) C0 V rfl LV_DR_157 (X_DR_nextFigure l D g q w557  a1092 hI lx513 lx514 lx515 lx516 lx517 lx518 lx519 lx520 lx521 lx522 lx523 hO558 f397 hO564 lx525 hO565 ob1094 _) rfl rfl hO558 rfl hl.1 rfl (Nat.le_of_ble_eq_true rfl) ⟨by decide, by decide⟩ ⟨Nat.le_of_ble_eq_true rfl, Nat.le_of_ble_eq_true rfl⟩ d_15_37_328) (fun a1097 u1095 H locs hp1096 V => ?_)
                        obtain ⟨hI, hu1101, f1098, hA1099, hE1100⟩ := hp1096
                        replace hA1099 : u1095[143]? = (some (q 143, .inl (g 0, (2202 : Int32).toNatClampNeg, .inl f1098)) : Option (Nat × va_E)) := hA1099
                        obtain ⟨p1102, e1103⟩ : ∃ z, z = (F_DR_nextFigure a1092 lx513 lx514 lx515 lx516 lx517 lx518 lx519 lx520 lx521 lx522 lx523 f397 lx525) := ⟨_, rfl⟩
                        have e1104 : a1097 = p1102.1 := congrArg (fun z => z.1) (hE1100.trans e1103.symm)
                        have e1105 : f1098 = p1102.2 := congrArg (fun z => z.2) (hE1100.trans e1103.symm)
                        replace hO558 := (hu1101 _ (by decide)).trans hO558
                        replace hO559 := (hu1101 _ (by decide)).trans hO559
                        replace hO560 := (hu1101 _ (by decide)).trans hO560
                        replace hO561 := (hu1101 _ (by decide)).trans hO561
                        replace hO562 := (hu1101 _ (by decide)).trans hO562
                        replace hO563 := (hu1101 _ (by decide)).trans hO563
                        replace hO564 := (hu1101 _ (by decide)).trans hO564
                        replace hF := q_uc hF hu1101 (by simp)
                        have hR1106 := (show F_DR_divide_c328_21 (F_DR_divide_L268 x2 x3 x4 x5 x6 t0_0 t0_1 t0_2 t0_3 t0_4 t0_5 t0_6 t0_7 t0_8 t0_9 t0_10 t1_0 t2_0 t3_0 t4_0 t5_0 t6_0 t7_0 lx45 j100 j88 lx107 j126 lx367 p431 f397 p492 fm570) x2 x3 x4 x5 x6 t0_0 t0_1 t0_2 t0_3 t0_4 t0_5 t0_6 t0_7 t0_8 t0_9 t0_10 t1_0 t2_0 t3_0 t4_0 t5_0 t6_0 t7_0 lx45 j100 j88 lx107 j126 lx367 p431 f397 p492 lx512 lx513 lx514 lx515 lx516 lx517 lx518 lx519 lx520 lx521 lx522 lx523 lx524 lx525 j573 lx579 p1102 = (F_DR_divide x2 x3 x4 x5 x6 t0_0 t0_1 t0_2 t0_3 t0_4 t0_5 t0_6 t0_7 t0_8 t0_9 t0_10 t1_0 t2_0 t3_0 t4_0 t5_0 t6_0 t7_0) from Eq.trans (by have c603x := c603; rw [← e601, ← e598] at c603x; have c994x := c994; rw [← e992, ← e989, ← e987] at c994x; rw [e1103, ← e1093, ← e1089, ← e1086, ← e1083, F_DR_divide_J290.eq_1, if_neg c603x, if_neg c994x]) hR592)
                        have hS1107 := (show True ∧ S_DR_divide_c328_21 (S_DR_divide_L268 x2 x3 x4 x5 x6 t0_0 t0_1 t0_2 t0_3 t0_4 t0_5 t0_6 t0_7 t0_8 t0_9 t0_10 t1_0 t2_0 t3_0 t4_0 t5_0 t6_0 t7_0 lx45 j100 j88 lx107 j126 lx367 p431 f397 p492 fm570) x2 x3 x4 x5 x6 t0_0 t0_1 t0_2 t0_3 t0_4 t0_5 t0_6 t0_7 t0_8 t0_9 t0_10 t1_0 t2_0 t3_0 t4_0 t5_0 t6_0 t7_0 lx45 j100 j88 lx107 j126 lx367 p431 f397 p492 lx512 lx513 lx514 lx515 lx516 lx517 lx518 lx519 lx520 lx521 lx522 lx523 lx524 lx525 j573 lx579 p1102 from (by rw [e1103, ← e1093, ← e1089, ← e1086, ← e1083]; have h := hS593; rw [S_DR_divide_J290.eq_1] at h; have c603x := c603; rw [← e601, ← e598] at c603x; rw [if_neg c603x] at h; have c994x := c994; rw [← e992, ← e989, ← e987] at c994x; rw [if_neg c994x] at h; replace h := q_s2 h; replace h := q_s2 h; replace h := q_s2 h; with_reducible exact h))
                        have ob1111 : True ∧ S_DR_append a1097 lx513 lx514 lx515 lx516 lx517 lx518 lx519 lx520 lx521 lx522 lx523 lx524 := (by rw [e1104]; have h := hS1107; rw [S_DR_divide_c328_21.eq_1] at h; with_reducible exact h.2.1)
                        refine q_gov V (q_runV (As := [.int a1097]) (rest := []) (d := 1) (mc := 0) (ms := 0) (ci := 14) C0 V rfl LV_DR_160 (X_DR_append l D g q u1095  a1097 hI lx513 lx514 lx515 lx516 lx517 lx518 lx519 lx520 lx521 lx522 lx523 hO558 lx524 hO563 ob1111 _) rfl rfl hO558 rfl hl.1 rfl (Nat.le_of_ble_eq_true rfl) ⟨by decide, by decide⟩ ⟨Nat.le_of_ble_eq_true rfl, Nat.le_of_ble_eq_true rfl⟩ d_15_37_331) (fun u1112 H locs hp1113 V => ?_)
                        obtain ⟨hI, hZ9⟩ := hp1113
                        obtain ⟨hu1156, hZ9⟩ := hZ9
                        obtain ⟨y1115, hZ9⟩ := hZ9
                        obtain ⟨y1116, hZ9⟩ := hZ9
                        obtain ⟨y1117, hZ9⟩ := hZ9
                        obtain ⟨y1118, hZ9⟩ := hZ9
                        obtain ⟨y1119, hZ9⟩ := hZ9
                        obtain ⟨y1120, hZ9⟩ := hZ9
                        obtain ⟨y1121, hZ9⟩ := hZ9
                        obtain ⟨y1122, hZ9⟩ := hZ9
                        obtain ⟨y1123, hZ9⟩ := hZ9
                        obtain ⟨y1124, hZ9⟩ := hZ9
                        obtain ⟨y1125, hZ9⟩ := hZ9
                        obtain ⟨f1126, hZ9⟩ := hZ9
                        obtain ⟨hO1114, hZ9⟩ := hZ9
                        obtain ⟨hA1127, hZ9⟩ := hZ9
                        obtain ⟨b1128, hZ9⟩ := hZ9
                        obtain ⟨b1129, hZ9⟩ := hZ9
                        obtain ⟨b1130, hZ9⟩ := hZ9
                        obtain ⟨b1131, hZ9⟩ := hZ9
                        obtain ⟨b1132, hZ9⟩ := hZ9
                        replace hZ9 := hZ9.2
                        obtain ⟨b1134, hZ9⟩ := hZ9
                        obtain ⟨b1135, hZ9⟩ := hZ9
                        obtain ⟨b1136, hZ9⟩ := hZ9
                        obtain ⟨b1137, hZ9⟩ := hZ9
                        replace hZ9 := hZ9.2
                        obtain ⟨b1139, hZ9⟩ := hZ9
                        obtain ⟨b1140, hZ9⟩ := hZ9
                        replace hZ9 := hZ9.2
                        obtain ⟨b1142, hZ9⟩ := hZ9
                        obtain ⟨b1143, hZ9⟩ := hZ9
                        obtain ⟨b1144, hZ9⟩ := hZ9
                        obtain ⟨b1145, hZ9⟩ := hZ9
                        obtain ⟨b1146, hZ9⟩ := hZ9
                        obtain ⟨b1147, hZ9⟩ := hZ9
                        obtain ⟨b1148, hZ9⟩ := hZ9
                        obtain ⟨b1149, hZ9⟩ := hZ9
                        replace hZ9 := hZ9.2
                        obtain ⟨b1151, hZ9⟩ := hZ9
                        obtain ⟨b1152, hZ9⟩ := hZ9
                        obtain ⟨b1153, hZ9⟩ := hZ9
                        obtain ⟨b1154, hE1155⟩ := hZ9
                        replace hO1114 : u1112[134]? = (some (q 134, .inr (14, [.int y1115, .ref (q 135), .int y1116, .ref (q 136), .ref (q 137), .ref (q 138), .ref (q 139), .ref (q 140), .int y1117, .long y1118, .int y1119, .int y1120, .ref (q 141), .int y1121, .ref (q 142), .int y1122, .ref (q 143), .int y1123, .ref (q 144), .int y1124, .int y1125])) : Option (Nat × va_E)) := hO1114
                        replace hA1127 : u1112[140]? = (some (q 140, .inl (g 0, (4400 : Int32).toNatClampNeg, .inl f1126)) : Option (Nat × va_E)) := hA1127
                        obtain ⟨p1157, e1158⟩ : ∃ z, z = (F_DR_append a1097 lx513 lx514 lx515 lx516 lx517 lx518 lx519 lx520 lx521 lx522 lx523 lx524) := ⟨_, rfl⟩
                        have e1159 : y1115 = p1157.1 := congrArg (fun z => z.1) (hE1155.trans e1158.symm)
                        have e1160 : y1116 = p1157.2.1 := congrArg (fun z => z.2.1) (hE1155.trans e1158.symm)
                        have e1161 : y1117 = p1157.2.2.1 := congrArg (fun z => z.2.2.1) (hE1155.trans e1158.symm)
                        have e1162 : y1118 = p1157.2.2.2.1 := congrArg (fun z => z.2.2.2.1) (hE1155.trans e1158.symm)
                        have e1163 : y1119 = p1157.2.2.2.2.1 := congrArg (fun z => z.2.2.2.2.1) (hE1155.trans e1158.symm)
                        have e1164 : y1120 = p1157.2.2.2.2.2.1 := congrArg (fun z => z.2.2.2.2.2.1) (hE1155.trans e1158.symm)
                        have e1165 : y1121 = p1157.2.2.2.2.2.2.1 := congrArg (fun z => z.2.2.2.2.2.2.1) (hE1155.trans e1158.symm)
                        have e1166 : y1122 = p1157.2.2.2.2.2.2.2.1 := congrArg (fun z => z.2.2.2.2.2.2.2.1) (hE1155.trans e1158.symm)
                        have e1167 : y1123 = p1157.2.2.2.2.2.2.2.2.1 := congrArg (fun z => z.2.2.2.2.2.2.2.2.1) (hE1155.trans e1158.symm)
                        have e1168 : y1124 = p1157.2.2.2.2.2.2.2.2.2.1 := congrArg (fun z => z.2.2.2.2.2.2.2.2.2.1) (hE1155.trans e1158.symm)
                        have e1169 : y1125 = p1157.2.2.2.2.2.2.2.2.2.2.1 := congrArg (fun z => z.2.2.2.2.2.2.2.2.2.2.1) (hE1155.trans e1158.symm)
                        have e1170 : f1126 = p1157.2.2.2.2.2.2.2.2.2.2.2 := congrArg (fun z => z.2.2.2.2.2.2.2.2.2.2.2) (hE1155.trans e1158.symm)
                        replace b1128 : q_F (y1117.toInt ≤ 4400) := b1128
                        replace b1129 : q_F (lx513.toInt ≤ y1115.toInt) := b1129
                        replace b1130 : q_F (y1115.toInt ≤ lx513.toInt) := b1130
                        replace b1131 : q_F (lx514.toInt ≤ y1116.toInt) := b1131
                        replace b1132 : q_F (y1116.toInt ≤ lx514.toInt) := b1132
                        replace b1134 : q_F (lx515.toInt ≤ y1117.toInt) := b1134
                        replace b1135 : q_F (y1117.toInt ≤ lx515.toInt + 1) := b1135
                        replace b1136 : q_F (lx516.toInt ≤ y1118.toInt) := b1136
                        replace b1137 : q_F (y1118.toInt ≤ lx516.toInt) := b1137
                        replace b1139 : q_F (lx517.toInt ≤ y1119.toInt) := b1139
                        replace b1140 : q_F (y1119.toInt ≤ lx517.toInt) := b1140
                        replace b1142 : q_F (lx518.toInt ≤ y1120.toInt) := b1142
                        replace b1143 : q_F (y1120.toInt ≤ lx518.toInt) := b1143
                        replace b1144 : q_F (lx519.toInt ≤ y1121.toInt) := b1144
                        replace b1145 : q_F (y1121.toInt ≤ lx519.toInt) := b1145
                        replace b1146 : q_F (lx520.toInt ≤ y1122.toInt) := b1146
                        replace b1147 : q_F (y1122.toInt ≤ lx520.toInt) := b1147
                        replace b1148 : q_F (lx521.toInt ≤ y1123.toInt) := b1148
                        replace b1149 : q_F (y1123.toInt ≤ lx521.toInt) := b1149
                        replace b1151 : q_F (lx522.toInt ≤ y1124.toInt) := b1151
                        replace b1152 : q_F (y1124.toInt ≤ lx522.toInt) := b1152
                        replace b1153 : q_F (lx523.toInt ≤ y1125.toInt) := b1153
                        replace b1154 : q_F (y1125.toInt ≤ lx523.toInt) := b1154
                        replace hO559 := (hu1156 _ (by decide)).trans hO559
                        replace hO560 := (hu1156 _ (by decide)).trans hO560
                        replace hO561 := (hu1156 _ (by decide)).trans hO561
                        replace hO562 := (hu1156 _ (by decide)).trans hO562
                        replace hO564 := (hu1156 _ (by decide)).trans hO564
                        replace hA1099 := (hu1156 _ (by decide)).trans hA1099
                        replace hF := q_uc hF hu1156 (by simp)
                        have hR1171 := (show F_DR_divide_c331_22 (F_DR_divide_L268 x2 x3 x4 x5 x6 t0_0 t0_1 t0_2 t0_3 t0_4 t0_5 t0_6 t0_7 t0_8 t0_9 t0_10 t1_0 t2_0 t3_0 t4_0 t5_0 t6_0 t7_0 lx45 j100 j88 lx107 j126 lx367 p431 f397 p492 fm570) x2 x3 x4 x5 x6 t0_0 t0_1 t0_2 t0_3 t0_4 t0_5 t0_6 t0_7 t0_8 t0_9 t0_10 t1_0 t2_0 t3_0 t4_0 t5_0 t6_0 t7_0 lx45 j100 j88 lx107 j126 lx367 p431 f397 p492 lx512 lx513 lx514 lx515 lx516 lx517 lx518 lx519 lx520 lx521 lx522 lx523 lx524 lx525 j573 lx579 p1102 f1098 p1157 = (F_DR_divide x2 x3 x4 x5 x6 t0_0 t0_1 t0_2 t0_3 t0_4 t0_5 t0_6 t0_7 t0_8 t0_9 t0_10 t1_0 t2_0 t3_0 t4_0 t5_0 t6_0 t7_0) from Eq.trans (by rw [e1158, e1105, e1104, F_DR_divide_c328_21.eq_1]) hR1106)
                        have hS1172 := (show True ∧ S_DR_divide_c331_22 (S_DR_divide_L268 x2 x3 x4 x5 x6 t0_0 t0_1 t0_2 t0_3 t0_4 t0_5 t0_6 t0_7 t0_8 t0_9 t0_10 t1_0 t2_0 t3_0 t4_0 t5_0 t6_0 t7_0 lx45 j100 j88 lx107 j126 lx367 p431 f397 p492 fm570) x2 x3 x4 x5 x6 t0_0 t0_1 t0_2 t0_3 t0_4 t0_5 t0_6 t0_7 t0_8 t0_9 t0_10 t1_0 t2_0 t3_0 t4_0 t5_0 t6_0 t7_0 lx45 j100 j88 lx107 j126 lx367 p431 f397 p492 lx512 lx513 lx514 lx515 lx516 lx517 lx518 lx519 lx520 lx521 lx522 lx523 lx524 lx525 j573 lx579 p1102 f1098 p1157 from (by rw [e1158, e1105, e1104]; have h := hS1107; rw [S_DR_divide_c328_21.eq_1] at h; replace h := q_s2 h; with_reducible exact h))
                        refine lv_lload hx hb d_15_37_334 (lv_at hl 0 rfl) ?_
                        refine lv_lconst (v := 1) hx hb d_15_37_336 (by decide) ?_
                        refine lv_ladd hx hb d_15_37_337 ?_
                        obtain ⟨j1176, e1177⟩ := q_nm (lx512 + 1 : Int64)
                        refine q_tl (v := j1176) e1177 ?_
                        have b1178 : q_F (j1176.toInt = lx512.toInt + 1) := (by rw [← e1177]; show (lx512 + 1 : Int64).toInt = lx512.toInt + 1; exact q_addL (x := lx512.toInt) (y := 1) rfl (by decide) (by have t1 : a1085.toInt = lx512.toInt := b1087; have _ := q_lo32 (x := a1085); have _ := q_hi32 (x := a1085); omega) (by have t1 : a1085.toInt = lx512.toInt := b1087; have _ := q_lo32 (x := a1085); have _ := q_hi32 (x := a1085); omega))
                        refine lv_lstore (lv' := [(10, .long j1176), (6, .long j88), (0, .ref (q 134)), (1, .int x2), (3, .int x4), (4, .int x5), (5, .int x6)]) hx hb d_15_37_338 hl (by decide) rfl (fun ls hl => ?_)
                        refine lv_goto (tgt := 268) hx hb d_15_37_340 (by decide) ?_
                        exact ih556 ((fm570 : Nat), (j1176 : Int64), (y1115 : Int32), (y1116 : Int32), (y1117 : Int32), (y1118 : Int64), (y1119 : Int32), (y1120 : Int32), (y1121 : Int32), (y1122 : Int32), (y1123 : Int32), (y1124 : Int32), (y1125 : Int32), (f1126 : (Nat → Int32)), (f1098 : (Nat → Int32))) _ _ _ _ (Nat.lt_succ_self _) ⟨(show q_F (0 ≤ y1115.toInt) from (show 0 ≤ y1115.toInt from by have t1 : 0 ≤ lx513.toInt := i526; have t2 : lx513.toInt ≤ y1115.toInt := b1129; omega)), (show q_F (y1115.toInt ≤ 0) from (show y1115.toInt ≤ 0 from by have t1 : lx513.toInt ≤ 0 := i527; have t2 : y1115.toInt ≤ lx513.toInt := b1130; omega)), (show q_F (0 ≤ y1116.toInt) from (show 0 ≤ y1116.toInt from by have t1 : 0 ≤ lx514.toInt := i528; have t2 : lx514.toInt ≤ y1116.toInt := b1131; omega)), (show q_F (y1116.toInt ≤ 4100) from (show y1116.toInt ≤ 4100 from by have t1 : lx514.toInt ≤ 4100 := i529; have t2 : y1116.toInt ≤ lx514.toInt := b1132; omega)), (show q_F (y1117.toInt ≤ 12200) from (show y1117.toInt ≤ 12200 from by have t1 : y1117.toInt ≤ 4400 := b1128; omega)), (show q_F (0 ≤ y1118.toInt + 2147483648) from (show 0 ≤ y1118.toInt + 2147483648 from by have t1 : 0 ≤ lx516.toInt + 2147483648 := i531; have t2 : lx516.toInt ≤ y1118.toInt := b1136; omega)), (show q_F (y1118.toInt ≤ 2147483647) from (show y1118.toInt ≤ 2147483647 from by have t1 : lx516.toInt ≤ 2147483647 := i532; have t2 : y1118.toInt ≤ lx516.toInt := b1137; omega)), (show q_F (y1120.toInt ≤ 10) from (show y1120.toInt ≤ 10 from by have t1 : lx518.toInt ≤ 10 := i533; have t2 : y1120.toInt ≤ lx518.toInt := b1143; omega)), (show q_F (0 ≤ y1124.toInt) from (show 0 ≤ y1124.toInt from by have t1 : 0 ≤ lx522.toInt := i534; have t2 : lx522.toInt ≤ y1124.toInt := b1151; omega)), (show q_F (y1124.toInt ≤ 12200) from (show y1124.toInt ≤ 12200 from by have t1 : lx522.toInt ≤ 12200 := i535; have t2 : y1124.toInt ≤ lx522.toInt := b1152; omega)), (show q_F (y455.toInt ≤ y1116.toInt) from (show y455.toInt ≤ y1116.toInt from by have t1 : y455.toInt ≤ lx514.toInt := i536; have t2 : lx514.toInt ≤ y1116.toInt := b1131; omega)), (show q_F (y1116.toInt ≤ y455.toInt) from (show y1116.toInt ≤ y455.toInt from by have t1 : lx514.toInt ≤ y455.toInt := i537; have t2 : y1116.toInt ≤ lx514.toInt := b1132; omega)), (show q_F (y456.toInt ≤ y1117.toInt) from (show y456.toInt ≤ y1117.toInt from by have t1 : y456.toInt ≤ lx515.toInt := i538; have t2 : lx515.toInt ≤ y1117.toInt := b1134; omega)), (show q_F (y457.toInt ≤ y1118.toInt) from (show y457.toInt ≤ y1118.toInt from by have t1 : y457.toInt ≤ lx516.toInt := i539; have t2 : lx516.toInt ≤ y1118.toInt := b1136; omega)), (show q_F (y1118.toInt ≤ y457.toInt) from (show y1118.toInt ≤ y457.toInt from by have t1 : lx516.toInt ≤ y457.toInt := i540; have t2 : y1118.toInt ≤ lx516.toInt := b1137; omega)), (show q_F (y458.toInt ≤ y1119.toInt) from (show y458.toInt ≤ y1119.toInt from by have t1 : y458.toInt ≤ lx517.toInt := i541; have t2 : lx517.toInt ≤ y1119.toInt := b1139; omega)), (show q_F (y1119.toInt ≤ y458.toInt) from (show y1119.toInt ≤ y458.toInt from by have t1 : lx517.toInt ≤ y458.toInt := i542; have t2 : y1119.toInt ≤ lx517.toInt := b1140; omega)), (show q_F (y459.toInt ≤ y1120.toInt) from (show y459.toInt ≤ y1120.toInt from by have t1 : y459.toInt ≤ lx518.toInt := i543; have t2 : lx518.toInt ≤ y1120.toInt := b1142; omega)), (show q_F (y1120.toInt ≤ y459.toInt) from (show y1120.toInt ≤ y459.toInt from by have t1 : lx518.toInt ≤ y459.toInt := i544; have t2 : y1120.toInt ≤ lx518.toInt := b1143; omega)), (show q_F (y460.toInt ≤ y1121.toInt) from (show y460.toInt ≤ y1121.toInt from by have t1 : y460.toInt ≤ lx519.toInt := i545; have t2 : lx519.toInt ≤ y1121.toInt := b1144; omega)), (show q_F (y1121.toInt ≤ y460.toInt) from (show y1121.toInt ≤ y460.toInt from by have t1 : lx519.toInt ≤ y460.toInt := i546; have t2 : y1121.toInt ≤ lx519.toInt := b1145; omega)), (show q_F (y461.toInt ≤ y1122.toInt) from (show y461.toInt ≤ y1122.toInt from by have t1 : y461.toInt ≤ lx520.toInt := i547; have t2 : lx520.toInt ≤ y1122.toInt := b1146; omega)), (show q_F (y1122.toInt ≤ y461.toInt) from (show y1122.toInt ≤ y461.toInt from by have t1 : lx520.toInt ≤ y461.toInt := i548; have t2 : y1122.toInt ≤ lx520.toInt := b1147; omega)), (show q_F (y462.toInt ≤ y1123.toInt) from (show y462.toInt ≤ y1123.toInt from by have t1 : y462.toInt ≤ lx521.toInt := i549; have t2 : lx521.toInt ≤ y1123.toInt := b1148; omega)), (show q_F (y1123.toInt ≤ y462.toInt) from (show y1123.toInt ≤ y462.toInt from by have t1 : lx521.toInt ≤ y462.toInt := i550; have t2 : y1123.toInt ≤ lx521.toInt := b1149; omega)), (show q_F (y463.toInt ≤ y1124.toInt) from (show y463.toInt ≤ y1124.toInt from by have t1 : y463.toInt ≤ lx522.toInt := i551; have t2 : lx522.toInt ≤ y1124.toInt := b1151; omega)), (show q_F (y1124.toInt ≤ y463.toInt) from (show y1124.toInt ≤ y463.toInt from by have t1 : lx522.toInt ≤ y463.toInt := i552; have t2 : y1124.toInt ≤ lx522.toInt := b1152; omega)), (show q_F (y464.toInt ≤ y1125.toInt) from (show y464.toInt ≤ y1125.toInt from by have t1 : y464.toInt ≤ lx523.toInt := i553; have t2 : lx523.toInt ≤ y1125.toInt := b1153; omega)), (show q_F (y1125.toInt ≤ y464.toInt) from (show y1125.toInt ≤ y464.toInt from by have t1 : lx523.toInt ≤ y464.toInt := i554; have t2 : y1125.toInt ≤ lx523.toInt := b1154; omega)), (show q_F (y1117.toInt ≤ j1176.toInt + y456.toInt) from (show y1117.toInt ≤ j1176.toInt + y456.toInt from by have t1 : lx515.toInt ≤ lx512.toInt + y456.toInt := i555; have t2 : y1117.toInt ≤ lx515.toInt + 1 := b1135; have t3 : j1176.toInt = lx512.toInt + 1 := b1178; omega)), V, q_lw hl (q_lw1 0 rfl (q_lw1 1 rfl (q_lw1 2 rfl (q_lw1 3 rfl (q_lw1 4 rfl (q_lw1 5 rfl (q_lw1 6 rfl q_lw0))))))), hI, hF, hO1114, hO559, hO560, hO561, hO562, hA1127, hO564, hA1099, (show F_DR_divide_L268 x2 x3 x4 x5 x6 t0_0 t0_1 t0_2 t0_3 t0_4 t0_5 t0_6 t0_7 t0_8 t0_9 t0_10 t1_0 t2_0 t3_0 t4_0 t5_0 t6_0 t7_0 lx45 j100 j88 lx107 j126 lx367 p431 f397 p492 fm570 j1176 y1115 y1116 y1117 y1118 y1119 y1120 y1121 y1122 y1123 y1124 y1125 f1126 f1098 = (F_DR_divide x2 x3 x4 x5 x6 t0_0 t0_1 t0_2 t0_3 t0_4 t0_5 t0_6 t0_7 t0_8 t0_9 t0_10 t1_0 t2_0 t3_0 t4_0 t5_0 t6_0 t7_0) from Eq.trans (by rw [← e1177, e1170, e1169, e1168, e1167, e1166, e1165, e1164, e1163, e1162, e1161, e1160, e1159, F_DR_divide_c331_22.eq_1]) hR1171), (show True ∧ S_DR_divide_L268 x2 x3 x4 x5 x6 t0_0 t0_1 t0_2 t0_3 t0_4 t0_5 t0_6 t0_7 t0_8 t0_9 t0_10 t1_0 t2_0 t3_0 t4_0 t5_0 t6_0 t7_0 lx45 j100 j88 lx107 j126 lx367 p431 f397 p492 fm570 j1176 y1115 y1116 y1117 y1118 y1119 y1120 y1121 y1122 y1123 y1124 y1125 f1126 f1098 from (by rw [← e1177, e1170, e1169, e1168, e1167, e1166, e1165, e1164, e1163, e1162, e1161, e1160, e1159]; have h := hS1172; rw [S_DR_divide_c331_22.eq_1] at h; with_reducible exact h))⟩
                  ·
                    intro J588
                    refine lv_if_le (tgt := 289) hx hb d_15_37_281 (by decide) (fun c1179 => ?_) (fun c1179 => ?_)
                    ·
                      have b1180 : q_F (a576.toInt ≤ 0) := (q_leI c1179)
                      refine lv_lconst (v := 0) hx hb d_15_37_289 (by decide) ?_
                      exact J588 ((0 : Int64)) _ _ _ w557 ⟨(show q_F (0 ≤ 6442450942) from (show 0 ≤ 6442450942 from by omega)), (show q_F (j88.toInt ≤ 0) from (show j88.toInt ≤ 0 from by have t1 : -1 ≤ a576.toInt ∧ a576.toInt ≤ 1 ∧ ((a576.toInt = -1 ∧ j88.toInt < 0) ∨ (a576.toInt = 0 ∧ j88.toInt = 0) ∨ (a576.toInt = 1 ∧ 0 < j88.toInt)) := b578; have t2 : a576.toInt ≤ 0 := b1180; omega)), (show q_F (lx513.toInt ≤ 0) from (show lx513.toInt ≤ 0 from by have t1 : lx513.toInt ≤ 0 := i527; omega)), V, q_lw hl (q_lw1 0 rfl (q_lw1 1 rfl (q_lw1 2 rfl (q_lw1 3 rfl (q_lw1 4 rfl (q_lw1 5 rfl (q_lw1 6 rfl q_lw0))))))), (show F_DR_divide_J290 (F_DR_divide_L268 x2 x3 x4 x5 x6 t0_0 t0_1 t0_2 t0_3 t0_4 t0_5 t0_6 t0_7 t0_8 t0_9 t0_10 t1_0 t2_0 t3_0 t4_0 t5_0 t6_0 t7_0 lx45 j100 j88 lx107 j126 lx367 p431 f397 p492 fm570) x2 x3 x4 x5 x6 t0_0 t0_1 t0_2 t0_3 t0_4 t0_5 t0_6 t0_7 t0_8 t0_9 t0_10 t1_0 t2_0 t3_0 t4_0 t5_0 t6_0 t7_0 lx45 j100 j88 lx107 j126 lx367 p431 f397 p492 lx512 lx513 lx514 lx515 lx516 lx517 lx518 lx519 lx520 lx521 lx522 lx523 lx524 lx525 j573 0 = (F_DR_divide x2 x3 x4 x5 x6 t0_0 t0_1 t0_2 t0_3 t0_4 t0_5 t0_6 t0_7 t0_8 t0_9 t0_10 t1_0 t2_0 t3_0 t4_0 t5_0 t6_0 t7_0) from Eq.trans (by have c1179x := c1179; rw [← e577] at c1179x; rw [← e574, ← e572, F_DR_divide_L268.eq_2, if_pos c1179x]) hR566), (show True ∧ S_DR_divide_J290 (S_DR_divide_L268 x2 x3 x4 x5 x6 t0_0 t0_1 t0_2 t0_3 t0_4 t0_5 t0_6 t0_7 t0_8 t0_9 t0_10 t1_0 t2_0 t3_0 t4_0 t5_0 t6_0 t7_0 lx45 j100 j88 lx107 j126 lx367 p431 f397 p492 fm570) x2 x3 x4 x5 x6 t0_0 t0_1 t0_2 t0_3 t0_4 t0_5 t0_6 t0_7 t0_8 t0_9 t0_10 t1_0 t2_0 t3_0 t4_0 t5_0 t6_0 t7_0 lx45 j100 j88 lx107 j126 lx367 p431 f397 p492 lx512 lx513 lx514 lx515 lx516 lx517 lx518 lx519 lx520 lx521 lx522 lx523 lx524 lx525 j573 0 from (by rw [← e574, ← e572]; have h := hS567; rw [S_DR_divide_L268.eq_2] at h; have c1179x := c1179; rw [← e577] at c1179x; rw [if_pos c1179x] at h; with_reducible exact h))⟩
                    ·
                      have b1181 : q_F (0 < a576.toInt) := (q_nleI c1179)
                      refine lv_lload hx hb d_15_37_284 (lv_at hl 1 rfl) ?_
                      refine lv_goto (tgt := 290) hx hb d_15_37_286 (by decide) ?_
                      exact J588 ((j88 : Int64)) _ _ _ w557 ⟨(show q_F (j88.toInt ≤ 6442450942) from (show j88.toInt ≤ 6442450942 from by have t1 : j68.toInt = x5.toInt := b70; have t2 : j75.toInt = a73.toInt := b77; have t3 : j78.toInt = j68.toInt + j75.toInt := b80; have t4 : j85.toInt = a83.toInt := b87; have t5 : j88.toInt = j78.toInt - j85.toInt := b90; have _ := q_lo32 (x := a73); have _ := q_hi32 (x := a73); have _ := q_lo32 (x := a83); have _ := q_hi32 (x := a83); have _ := q_lo32 (x := x5); have _ := q_hi32 (x := x5); omega)), (show q_F (j88.toInt ≤ j88.toInt) from (show j88.toInt ≤ j88.toInt from by omega)), (show q_F (lx513.toInt ≤ j88.toInt) from (show lx513.toInt ≤ j88.toInt from by have t1 : lx513.toInt ≤ 0 := i527; have t2 : -1 ≤ a576.toInt ∧ a576.toInt ≤ 1 ∧ ((a576.toInt = -1 ∧ j88.toInt < 0) ∨ (a576.toInt = 0 ∧ j88.toInt = 0) ∨ (a576.toInt = 1 ∧ 0 < j88.toInt)) := b578; have t3 : 0 < a576.toInt := b1181; omega)), V, q_lw hl (q_lw1 0 rfl (q_lw1 1 rfl (q_lw1 2 rfl (q_lw1 3 rfl (q_lw1 4 rfl (q_lw1 5 rfl (q_lw1 6 rfl q_lw0))))))), (show F_DR_divide_J290 (F_DR_divide_L268 x2 x3 x4 x5 x6 t0_0 t0_1 t0_2 t0_3 t0_4 t0_5 t0_6 t0_7 t0_8 t0_9 t0_10 t1_0 t2_0 t3_0 t4_0 t5_0 t6_0 t7_0 lx45 j100 j88 lx107 j126 lx367 p431 f397 p492 fm570) x2 x3 x4 x5 x6 t0_0 t0_1 t0_2 t0_3 t0_4 t0_5 t0_6 t0_7 t0_8 t0_9 t0_10 t1_0 t2_0 t3_0 t4_0 t5_0 t6_0 t7_0 lx45 j100 j88 lx107 j126 lx367 p431 f397 p492 lx512 lx513 lx514 lx515 lx516 lx517 lx518 lx519 lx520 lx521 lx522 lx523 lx524 lx525 j573 j88 = (F_DR_divide x2 x3 x4 x5 x6 t0_0 t0_1 t0_2 t0_3 t0_4 t0_5 t0_6 t0_7 t0_8 t0_9 t0_10 t1_0 t2_0 t3_0 t4_0 t5_0 t6_0 t7_0) from Eq.trans (by have c1179x := c1179; rw [← e577] at c1179x; rw [← e574, ← e572, F_DR_divide_L268.eq_2, if_neg c1179x]) hR566), (show True ∧ S_DR_divide_J290 (S_DR_divide_L268 x2 x3 x4 x5 x6 t0_0 t0_1 t0_2 t0_3 t0_4 t0_5 t0_6 t0_7 t0_8 t0_9 t0_10 t1_0 t2_0 t3_0 t4_0 t5_0 t6_0 t7_0 lx45 j100 j88 lx107 j126 lx367 p431 f397 p492 fm570) x2 x3 x4 x5 x6 t0_0 t0_1 t0_2 t0_3 t0_4 t0_5 t0_6 t0_7 t0_8 t0_9 t0_10 t1_0 t2_0 t3_0 t4_0 t5_0 t6_0 t7_0 lx45 j100 j88 lx107 j126 lx367 p431 f397 p492 lx512 lx513 lx514 lx515 lx516 lx517 lx518 lx519 lx520 lx521 lx522 lx523 lx524 lx525 j573 j88 from (by rw [← e574, ← e572]; have h := hS567; rw [S_DR_divide_L268.eq_2] at h; have c1179x := c1179; rw [← e577] at c1179x; rw [if_neg c1179x] at h; with_reducible exact h))⟩
                ·
                  intro J376
                  refine lv_if_ge (tgt := 257) hx hb d_15_37_247 (by decide) (fun c1182 => ?_) (fun c1182 => ?_)
                  ·
                    refine lv_iconst (v := 0) hx hb d_15_37_257 (by decide) ?_
                    exact J376 ((0 : Int32)) _ _ _ w133 ⟨V, q_lw hl (q_lw1 1 rfl (q_lw1 2 rfl (q_lw1 3 rfl (q_lw1 5 rfl (q_lw1 6 rfl (q_lw1 7 rfl q_lw0)))))), (show F_DR_divide_J258 x2 x3 x4 x5 x6 t0_0 t0_1 t0_2 t0_3 t0_4 t0_5 t0_6 t0_7 t0_8 t0_9 t0_10 t1_0 t2_0 t3_0 t4_0 t5_0 t6_0 t7_0 lx45 j100 j88 lx107 j126 0 = (F_DR_divide x2 x3 x4 x5 x6 t0_0 t0_1 t0_2 t0_3 t0_4 t0_5 t0_6 t0_7 t0_8 t0_9 t0_10 t1_0 t2_0 t3_0 t4_0 t5_0 t6_0 t7_0) from Eq.trans (by have c356x := c356; rw [e164] at c356x; have c362x := c362; rw [← e360] at c362x; have c1182x := c1182; rw [← e365] at c1182x; rw [F_DR_divide_J183.eq_1, if_pos c356x, if_pos c362x, if_pos c1182x]) hR152), (show True ∧ S_DR_divide_J258 x2 x3 x4 x5 x6 t0_0 t0_1 t0_2 t0_3 t0_4 t0_5 t0_6 t0_7 t0_8 t0_9 t0_10 t1_0 t2_0 t3_0 t4_0 t5_0 t6_0 t7_0 lx45 j100 j88 lx107 j126 0 from (by have h := hS153; rw [S_DR_divide_J183.eq_1] at h; replace h := q_s2 h; have c356x := c356; rw [e164] at c356x; rw [if_pos c356x] at h; have c362x := c362; rw [← e360] at c362x; rw [if_pos c362x] at h; have c1182x := c1182; rw [← e365] at c1182x; rw [if_pos c1182x] at h; with_reducible exact h))⟩
                  ·
                    refine lv_lload hx hb d_15_37_250 (lv_at hl 1 rfl) ?_
                    refine lv_lneg hx hb d_15_37_252 ?_
                    obtain ⟨j1185, e1186⟩ := q_nm (-j88 : Int64)
                    refine q_tl (v := j1185) e1186 ?_
                    refine lv_l2i hx hb d_15_37_253 rfl ?_
                    obtain ⟨a1188, e1189⟩ := q_nm (j1185.toInt32 : Int32)
                    refine q_ti (v := a1188) e1189 ?_
                    refine lv_goto (tgt := 258) hx hb d_15_37_254 (by decide) ?_
                    exact J376 ((a1188 : Int32)) _ _ _ w133 ⟨V, q_lw hl (q_lw1 1 rfl (q_lw1 2 rfl (q_lw1 3 rfl (q_lw1 5 rfl (q_lw1 6 rfl (q_lw1 7 rfl q_lw0)))))), (show F_DR_divide_J258 x2 x3 x4 x5 x6 t0_0 t0_1 t0_2 t0_3 t0_4 t0_5 t0_6 t0_7 t0_8 t0_9 t0_10 t1_0 t2_0 t3_0 t4_0 t5_0 t6_0 t7_0 lx45 j100 j88 lx107 j126 a1188 = (F_DR_divide x2 x3 x4 x5 x6 t0_0 t0_1 t0_2 t0_3 t0_4 t0_5 t0_6 t0_7 t0_8 t0_9 t0_10 t1_0 t2_0 t3_0 t4_0 t5_0 t6_0 t7_0) from Eq.trans (by have c356x := c356; rw [e164] at c356x; have c362x := c362; rw [← e360] at c362x; have c1182x := c1182; rw [← e365] at c1182x; rw [← e1189, ← e1186, F_DR_divide_J183.eq_1, if_pos c356x, if_pos c362x, if_neg c1182x]) hR152), (show True ∧ S_DR_divide_J258 x2 x3 x4 x5 x6 t0_0 t0_1 t0_2 t0_3 t0_4 t0_5 t0_6 t0_7 t0_8 t0_9 t0_10 t1_0 t2_0 t3_0 t4_0 t5_0 t6_0 t7_0 lx45 j100 j88 lx107 j126 a1188 from (by rw [← e1189, ← e1186]; have h := hS153; rw [S_DR_divide_J183.eq_1] at h; replace h := q_s2 h; have c356x := c356; rw [e164] at c356x; rw [if_pos c356x] at h; have c362x := c362; rw [← e360] at c362x; rw [if_pos c362x] at h; have c1182x := c1182; rw [← e365] at c1182x; rw [if_neg c1182x] at h; with_reducible exact h))⟩
              ·
                exact J173 (()) _ _ _ w133 ⟨V, q_lw hl (q_lw1 2 rfl (q_lw1 3 rfl (q_lw1 5 rfl (q_lw1 6 rfl (q_lw1 7 rfl q_lw0))))), (show F_DR_divide_J200 x2 x3 x4 x5 x6 t0_0 t0_1 t0_2 t0_3 t0_4 t0_5 t0_6 t0_7 t0_8 t0_9 t0_10 t1_0 t2_0 t3_0 t4_0 t5_0 t6_0 t7_0 lx45 j100 j88 lx107 j126 = (F_DR_divide x2 x3 x4 x5 x6 t0_0 t0_1 t0_2 t0_3 t0_4 t0_5 t0_6 t0_7 t0_8 t0_9 t0_10 t1_0 t2_0 t3_0 t4_0 t5_0 t6_0 t7_0) from Eq.trans (by have c356x := c356; rw [e164] at c356x; have c362x := c362; rw [← e360] at c362x; rw [F_DR_divide_J183.eq_1, if_pos c356x, if_neg c362x]) hR152), (show True ∧ S_DR_divide_J200 x2 x3 x4 x5 x6 t0_0 t0_1 t0_2 t0_3 t0_4 t0_5 t0_6 t0_7 t0_8 t0_9 t0_10 t1_0 t2_0 t3_0 t4_0 t5_0 t6_0 t7_0 lx45 j100 j88 lx107 j126 from (by have h := hS153; rw [S_DR_divide_J183.eq_1] at h; replace h := q_s2 h; have c356x := c356; rw [e164] at c356x; rw [if_pos c356x] at h; have c362x := c362; rw [← e360] at c362x; rw [if_neg c362x] at h; with_reducible exact h))⟩
        ·
          intro J151
          refine lv_if_ne (tgt := 183) hx hb d_15_37_165 (by decide) (fun c1191 => ?_) (fun c1191 => ?_)
          ·
            exact J151 (()) _ _ _ w133 ⟨V, q_lw hl (q_lw1 0 rfl (q_lw1 1 rfl (q_lw1 2 rfl (q_lw1 3 rfl (q_lw1 4 rfl (q_lw1 5 rfl (q_lw1 6 rfl (q_lw1 7 rfl q_lw0)))))))), (show F_DR_divide_J183 x2 x3 x4 x5 x6 t0_0 t0_1 t0_2 t0_3 t0_4 t0_5 t0_6 t0_7 t0_8 t0_9 t0_10 t1_0 t2_0 t3_0 t4_0 t5_0 t6_0 t7_0 lx45 j100 j88 lx107 j126 = (F_DR_divide x2 x3 x4 x5 x6 t0_0 t0_1 t0_2 t0_3 t0_4 t0_5 t0_6 t0_7 t0_8 t0_9 t0_10 t1_0 t2_0 t3_0 t4_0 t5_0 t6_0 t7_0) from Eq.trans (by have c1191x := c1191; rw [e142, ← e127] at c1191x; rw [← e127, F_DR_divide_J140.eq_1, if_neg c1191x]) hR119), (show True ∧ S_DR_divide_J183 x2 x3 x4 x5 x6 t0_0 t0_1 t0_2 t0_3 t0_4 t0_5 t0_6 t0_7 t0_8 t0_9 t0_10 t1_0 t2_0 t3_0 t4_0 t5_0 t6_0 t7_0 lx45 j100 j88 lx107 j126 from (by rw [← e127]; have h := hS120; rw [S_DR_divide_J140.eq_1] at h; replace h := q_s2 h; have c1191x := c1191; rw [e142, ← e127] at c1191x; rw [if_neg c1191x] at h; with_reducible exact h))⟩
          ·
            refine lv_lload hx hb d_15_37_168 (lv_at hl 0 rfl) ?_
            refine q_ldc2 C0 rfl w_2802 d_15_37_170 ?_
            refine W.lcmp hx hb d_15_37_173 ?_
            obtain ⟨a1194, e1195⟩ := q_nm (lg_cmp j100 1000 : Int32)
            refine q_ti (v := a1194) e1195 ?_
            refine lv_if_le (tgt := 183) hx hb d_15_37_174 (by decide) (fun c1197 => ?_) (fun c1197 => ?_)
            ·
              exact J151 (()) _ _ _ w133 ⟨V, q_lw hl (q_lw1 0 rfl (q_lw1 1 rfl (q_lw1 2 rfl (q_lw1 3 rfl (q_lw1 4 rfl (q_lw1 5 rfl (q_lw1 6 rfl (q_lw1 7 rfl q_lw0)))))))), (show F_DR_divide_J183 x2 x3 x4 x5 x6 t0_0 t0_1 t0_2 t0_3 t0_4 t0_5 t0_6 t0_7 t0_8 t0_9 t0_10 t1_0 t2_0 t3_0 t4_0 t5_0 t6_0 t7_0 lx45 j100 j88 lx107 j126 = (F_DR_divide x2 x3 x4 x5 x6 t0_0 t0_1 t0_2 t0_3 t0_4 t0_5 t0_6 t0_7 t0_8 t0_9 t0_10 t1_0 t2_0 t3_0 t4_0 t5_0 t6_0 t7_0) from Eq.trans (by have c1191x := c1191; rw [e142, ← e127] at c1191x; have c1197x := c1197; rw [← e1195] at c1197x; rw [← e127, F_DR_divide_J140.eq_1, if_pos c1191x, if_pos c1197x]) hR119), (show True ∧ S_DR_divide_J183 x2 x3 x4 x5 x6 t0_0 t0_1 t0_2 t0_3 t0_4 t0_5 t0_6 t0_7 t0_8 t0_9 t0_10 t1_0 t2_0 t3_0 t4_0 t5_0 t6_0 t7_0 lx45 j100 j88 lx107 j126 from (by rw [← e127]; have h := hS120; rw [S_DR_divide_J140.eq_1] at h; replace h := q_s2 h; have c1191x := c1191; rw [e142, ← e127] at c1191x; rw [if_pos c1191x] at h; have c1197x := c1197; rw [← e1195] at c1197x; rw [if_pos c1197x] at h; with_reducible exact h))⟩
            ·
              refine lv_aload_n hx hb d_15_37_177 rfl (lv_at hl 2 rfl) ?_
              refine lv_iconst (v := 2) hx hb d_15_37_178 (by decide) ?_
              refine q_put (ci := 14) (j := 0) (v := .int 2) (ty := .int) C0 V i_DR o_DR n_DR rfl rfl hT0 (by decide) w_1996 rfl rfl rfl rfl (Nat.le_of_ble_eq_true rfl) d_15_37_179 (fun H locs w1200 hu1201 hT0 V => ?_)
              replace hT0 : w1200[134]? = (some (q 134, .inr (14, [.int 2, .ref (q 135), .int t0_1, .ref (q 136), .ref (q 137), .ref (q 138), .ref (q 139), .ref (q 140), .int 0, .long j126, .int 0, .int lx107, .ref (q 141), .int t0_6, .ref (q 142), .int t0_7, .ref (q 143), .int t0_8, .ref (q 144), .int t0_9, .int 2])) : Option (Nat × va_E)) := hT0
              replace hI := n_p134 hI hu1201 hT0 (by first | with_reducible exact q_fe btt0_1 | exact ⟨(by have t1 : 0 ≤ t0_1.toInt ∧ t0_1.toInt ≤ 4100 := btt0_1; omega), (by have t1 : 0 ≤ t0_1.toInt ∧ t0_1.toInt ≤ 4100 := btt0_1; omega)⟩) ⟨(by have z9 : (0 : Int32).toInt = 0 := rfl; omega), (by have z9 : (0 : Int32).toInt = 0 := rfl; omega)⟩ ⟨(by have t1 : 0 ≤ lx45.toInt := i55; have t2 : lx45.toInt ≤ lx107.toInt := i117; omega), (by have t1 : lx45.toInt ≤ 0 := b65; have t2 : lx107.toInt ≤ lx45.toInt + 1 := i118; omega)⟩ (by first | with_reducible exact q_fe btt0_9 | exact ⟨(by have t1 : 0 ≤ t0_9.toInt ∧ t0_9.toInt ≤ 12200 := btt0_9; omega), (by have t1 : 0 ≤ t0_9.toInt ∧ t0_9.toInt ≤ 12200 := btt0_9; omega)⟩)
              replace hT1 := (hu1201 _ (by decide)).trans hT1
              replace hT2 := (hu1201 _ (by decide)).trans hT2
              replace hT3 := (hu1201 _ (by decide)).trans hT3
              replace hT4 := (hu1201 _ (by decide)).trans hT4
              replace hT5 := (hu1201 _ (by decide)).trans hT5
              replace hT6 := (hu1201 _ (by decide)).trans hT6
              replace hT7 := (hu1201 _ (by decide)).trans hT7
              replace hF := q_us hF hu1201 (by simp)
              exact q_retv C0 V (⟨hI, hF, 2, t0_1, 0, j126, 0, lx107, t0_6, t0_7, t0_8, t0_9, 2, t1_0, t2_0, t3_0, t4_0, t5_0, t6_0, t7_0, hT0, hT1, hT2, hT3, hT4, hT5, hT6, hT7, (show 0 ≤ (0 : Int32).toInt from (by have z23 : (2 : Int32).toInt = 2 := rfl; have z25 : (0 : Int32).toInt = 0 := rfl; have z27 : (0 : Int32).toInt = 0 := rfl; have z33 : (2 : Int32).toInt = 2 := rfl; omega)), (show 0 ≤ lx107.toInt from (by have z23 : (2 : Int32).toInt = 2 := rfl; have z25 : (0 : Int32).toInt = 0 := rfl; have z27 : (0 : Int32).toInt = 0 := rfl; have z33 : (2 : Int32).toInt = 2 := rfl; have t1 : 0 ≤ lx45.toInt := i55; have t2 : lx45.toInt ≤ lx107.toInt := i117; omega)), (show t0_1.toInt ≤ t0_1.toInt from (by have z23 : (2 : Int32).toInt = 2 := rfl; have z25 : (0 : Int32).toInt = 0 := rfl; have z27 : (0 : Int32).toInt = 0 := rfl; have z33 : (2 : Int32).toInt = 2 := rfl; omega)), (show t0_1.toInt ≤ t0_1.toInt from (by have z23 : (2 : Int32).toInt = 2 := rfl; have z25 : (0 : Int32).toInt = 0 := rfl; have z27 : (0 : Int32).toInt = 0 := rfl; have z33 : (2 : Int32).toInt = 2 := rfl; omega)), (show t0_6.toInt ≤ t0_6.toInt from (by have z23 : (2 : Int32).toInt = 2 := rfl; have z25 : (0 : Int32).toInt = 0 := rfl; have z27 : (0 : Int32).toInt = 0 := rfl; have z33 : (2 : Int32).toInt = 2 := rfl; omega)), (show t0_6.toInt ≤ t0_6.toInt from (by have z23 : (2 : Int32).toInt = 2 := rfl; have z25 : (0 : Int32).toInt = 0 := rfl; have z27 : (0 : Int32).toInt = 0 := rfl; have z33 : (2 : Int32).toInt = 2 := rfl; omega)), (show t0_8.toInt ≤ t0_8.toInt from (by have z23 : (2 : Int32).toInt = 2 := rfl; have z25 : (0 : Int32).toInt = 0 := rfl; have z27 : (0 : Int32).toInt = 0 := rfl; have z33 : (2 : Int32).toInt = 2 := rfl; omega)), (show t0_8.toInt ≤ t0_8.toInt from (by have z23 : (2 : Int32).toInt = 2 := rfl; have z25 : (0 : Int32).toInt = 0 := rfl; have z27 : (0 : Int32).toInt = 0 := rfl; have z33 : (2 : Int32).toInt = 2 := rfl; omega)), (show t0_9.toInt ≤ t0_9.toInt from (by have z23 : (2 : Int32).toInt = 2 := rfl; have z25 : (0 : Int32).toInt = 0 := rfl; have z27 : (0 : Int32).toInt = 0 := rfl; have z33 : (2 : Int32).toInt = 2 := rfl; omega)), (show t0_9.toInt ≤ t0_9.toInt from (by have z23 : (2 : Int32).toInt = 2 := rfl; have z25 : (0 : Int32).toInt = 0 := rfl; have z27 : (0 : Int32).toInt = 0 := rfl; have z33 : (2 : Int32).toInt = 2 := rfl; omega)), (show ((2 : Int32), t0_1, (0 : Int32), j126, (0 : Int32), lx107, t0_6, t0_7, t0_8, t0_9, (2 : Int32), t1_0, t2_0, t3_0, t4_0, t5_0, t6_0, t7_0) = (F_DR_divide x2 x3 x4 x5 x6 t0_0 t0_1 t0_2 t0_3 t0_4 t0_5 t0_6 t0_7 t0_8 t0_9 t0_10 t1_0 t2_0 t3_0 t4_0 t5_0 t6_0 t7_0) from Eq.trans (by have c1191x := c1191; rw [e142, ← e127] at c1191x; have c1197x := c1197; rw [← e1195] at c1197x; rw [← e127, F_DR_divide_J140.eq_1, if_pos c1191x, if_neg c1197x]) hR119)⟩) d_15_37_182
      ·
        intro J116
        refine lv_icmp_eq (tgt := 139) hx hb d_15_37_132 (by decide) (fun c1202 => ?_) (fun c1202 => ?_)
        ·
          refine lv_iconst (v := 0) hx hb d_15_37_139 (by decide) ?_
          exact J116 ((0 : Int32)) _ _ _ w66 ⟨(show q_F (lx45.toInt ≤ 0) from (show lx45.toInt ≤ 0 from by have t1 : lx45.toInt ≤ 0 := b65; omega)), (show q_F (0 ≤ lx45.toInt + 1) from (show 0 ≤ lx45.toInt + 1 from by have t1 : 0 ≤ lx45.toInt := i55; omega)), V, q_lw hl (q_lw1 0 rfl (q_lw1 1 rfl (q_lw1 2 rfl (q_lw1 3 rfl (q_lw1 4 rfl (q_lw1 5 rfl (q_lw1 6 rfl (q_lw1 7 rfl q_lw0)))))))), (show F_DR_divide_J140 x2 x3 x4 x5 x6 t0_0 t0_1 t0_2 t0_3 t0_4 t0_5 t0_6 t0_7 t0_8 t0_9 t0_10 t1_0 t2_0 t3_0 t4_0 t5_0 t6_0 t7_0 lx45 j100 j88 0 = (F_DR_divide x2 x3 x4 x5 x6 t0_0 t0_1 t0_2 t0_3 t0_4 t0_5 t0_6 t0_7 t0_8 t0_9 t0_10 t1_0 t2_0 t3_0 t4_0 t5_0 t6_0 t7_0) from Eq.trans (by have c1202x := c1202; rw [← e106, ← e104] at c1202x; rw [← e101, ← e98, ← e96, ← e94, ← e92, ← e89, ← e86, ← e84, ← e79, ← e76, ← e74, ← e69, F_DR_divide_J63.eq_1, if_pos c64, if_pos c1202x]) hR57), (show True ∧ S_DR_divide_J140 x2 x3 x4 x5 x6 t0_0 t0_1 t0_2 t0_3 t0_4 t0_5 t0_6 t0_7 t0_8 t0_9 t0_10 t1_0 t2_0 t3_0 t4_0 t5_0 t6_0 t7_0 lx45 j100 j88 0 from (by rw [← e101, ← e98, ← e96, ← e94, ← e92, ← e89, ← e86, ← e84, ← e79, ← e76, ← e74, ← e69]; have h := hS58; rw [S_DR_divide_J63.eq_1] at h; rw [if_pos c64] at h; replace h := q_s2 h; replace h := q_s2 h; replace h := q_s2 h; replace h := q_s2 h; have c1202x := c1202; rw [← e106, ← e104] at c1202x; rw [if_pos c1202x] at h; with_reducible exact h))⟩
        ·
          refine lv_iconst (v := 1) hx hb d_15_37_135 (by decide) ?_
          refine lv_goto (tgt := 140) hx hb d_15_37_136 (by decide) ?_
          exact J116 ((1 : Int32)) _ _ _ w66 ⟨(show q_F (lx45.toInt ≤ 1) from (show lx45.toInt ≤ 1 from by have t1 : lx45.toInt ≤ 0 := b65; omega)), (show q_F (1 ≤ lx45.toInt + 1) from (show 1 ≤ lx45.toInt + 1 from by have t1 : 0 ≤ lx45.toInt := i55; omega)), V, q_lw hl (q_lw1 0 rfl (q_lw1 1 rfl (q_lw1 2 rfl (q_lw1 3 rfl (q_lw1 4 rfl (q_lw1 5 rfl (q_lw1 6 rfl (q_lw1 7 rfl q_lw0)))))))), (show F_DR_divide_J140 x2 x3 x4 x5 x6 t0_0 t0_1 t0_2 t0_3 t0_4 t0_5 t0_6 t0_7 t0_8 t0_9 t0_10 t1_0 t2_0 t3_0 t4_0 t5_0 t6_0 t7_0 lx45 j100 j88 1 = (F_DR_divide x2 x3 x4 x5 x6 t0_0 t0_1 t0_2 t0_3 t0_4 t0_5 t0_6 t0_7 t0_8 t0_9 t0_10 t1_0 t2_0 t3_0 t4_0 t5_0 t6_0 t7_0) from Eq.trans (by have c1202x := c1202; rw [← e106, ← e104] at c1202x; rw [← e101, ← e98, ← e96, ← e94, ← e92, ← e89, ← e86, ← e84, ← e79, ← e76, ← e74, ← e69, F_DR_divide_J63.eq_1, if_pos c64, if_neg c1202x]) hR57), (show True ∧ S_DR_divide_J140 x2 x3 x4 x5 x6 t0_0 t0_1 t0_2 t0_3 t0_4 t0_5 t0_6 t0_7 t0_8 t0_9 t0_10 t1_0 t2_0 t3_0 t4_0 t5_0 t6_0 t7_0 lx45 j100 j88 1 from (by rw [← e101, ← e98, ← e96, ← e94, ← e92, ← e89, ← e86, ← e84, ← e79, ← e76, ← e74, ← e69]; have h := hS58; rw [S_DR_divide_J63.eq_1] at h; rw [if_pos c64] at h; replace h := q_s2 h; replace h := q_s2 h; replace h := q_s2 h; replace h := q_s2 h; have c1202x := c1202; rw [← e106, ← e104] at c1202x; rw [if_neg c1202x] at h; with_reducible exact h))⟩
    ·
      exact q_retv C0 V (⟨hI, hF, lx45, t0_1, t0_2, t0_3, t0_4, t0_5, t0_6, t0_7, t0_8, t0_9, t0_10, t1_0, t2_0, t3_0, t4_0, t5_0, t6_0, t7_0, hT0, hT1, hT2, hT3, hT4, hT5, hT6, hT7, (show 0 ≤ t0_4.toInt from (by first | with_reducible exact (q_fe btt0_4).2 | with_reducible exact (q_fe btt0_4).1 | (have t1 : 0 ≤ t0_4.toInt ∧ t0_4.toInt ≤ 1 := btt0_4; omega))), (show 0 ≤ t0_5.toInt from (by first | with_reducible exact (q_fe btt0_5).2 | with_reducible exact (q_fe btt0_5).1 | (have t1 : 0 ≤ t0_5.toInt ∧ t0_5.toInt ≤ 1 := btt0_5; omega))), (show t0_1.toInt ≤ t0_1.toInt from (by omega)), (show t0_1.toInt ≤ t0_1.toInt from (by omega)), (show t0_6.toInt ≤ t0_6.toInt from (by omega)), (show t0_6.toInt ≤ t0_6.toInt from (by omega)), (show t0_8.toInt ≤ t0_8.toInt from (by omega)), (show t0_8.toInt ≤ t0_8.toInt from (by omega)), (show t0_9.toInt ≤ t0_9.toInt from (by omega)), (show t0_9.toInt ≤ t0_9.toInt from (by omega)), (show (lx45, t0_1, t0_2, t0_3, t0_4, t0_5, t0_6, t0_7, t0_8, t0_9, t0_10, t1_0, t2_0, t3_0, t4_0, t5_0, t6_0, t7_0) = (F_DR_divide x2 x3 x4 x5 x6 t0_0 t0_1 t0_2 t0_3 t0_4 t0_5 t0_6 t0_7 t0_8 t0_9 t0_10 t1_0 t2_0 t3_0 t4_0 t5_0 t6_0 t7_0) from Eq.trans (by rw [F_DR_divide_J63.eq_1, if_neg c64]) hR57)⟩) d_15_37_73
  ·
    intro J54
    refine q_join (X := Unit) (fun z H locs ls _ => q_Wd D g (va_A ws sz) s ws H locs ∧ lv_has ls 12 [(0, .ref (q 134)), (1, .int x2), (2, .int x3), (3, .int x4), (4, .int x5), (5, .int x6)] ∧ F_DR_divide_J46 x2 x3 x4 x5 x6 t0_0 t0_1 t0_2 t0_3 t0_4 t0_5 t0_6 t0_7 t0_8 t0_9 t0_10 t1_0 t2_0 t3_0 t4_0 t5_0 t6_0 t7_0 = (F_DR_divide x2 x3 x4 x5 x6 t0_0 t0_1 t0_2 t0_3 t0_4 t0_5 t0_6 t0_7 t0_8 t0_9 t0_10 t1_0 t2_0 t3_0 t4_0 t5_0 t6_0 t7_0) ∧ True ∧ S_DR_divide_J46 x2 x3 x4 x5 x6 t0_0 t0_1 t0_2 t0_3 t0_4 t0_5 t0_6 t0_7 t0_8 t0_9 t0_10 t1_0 t2_0 t3_0 t4_0 t5_0 t6_0 t7_0) (fun z => [.ref (q 134)]) 46 0 0 ?_ ?_
    ·
      rintro _ H locs ls _ ⟨V, hl, hR1215, hS1216⟩
      replace hl : lv_has ls 12 [(0, .ref (q 134)), (1, .int x2), (2, .int x3), (3, .int x4), (4, .int x5), (5, .int x6)] := hl
      refine lv_iconst (v := 1) hx hb d_15_37_46 (by decide) ?_
      refine lv_goto (tgt := 63) hx hb d_15_37_47 (by decide) ?_
      exact J54 ((1 : Int32)) _ _ _ ws ⟨(show q_F (0 ≤ 1) from (show 0 ≤ 1 from by omega)), (show q_F (1 ≤ 2) from (show 1 ≤ 2 from by omega)), V, q_lw hl (q_lw1 0 rfl (q_lw1 1 rfl (q_lw1 2 rfl (q_lw1 3 rfl (q_lw1 4 rfl (q_lw1 5 rfl q_lw0)))))), (show F_DR_divide_J63 x2 x3 x4 x5 x6 t0_0 t0_1 t0_2 t0_3 t0_4 t0_5 t0_6 t0_7 t0_8 t0_9 t0_10 t1_0 t2_0 t3_0 t4_0 t5_0 t6_0 t7_0 1 = (F_DR_divide x2 x3 x4 x5 x6 t0_0 t0_1 t0_2 t0_3 t0_4 t0_5 t0_6 t0_7 t0_8 t0_9 t0_10 t1_0 t2_0 t3_0 t4_0 t5_0 t6_0 t7_0) from Eq.trans (by rw [F_DR_divide_J46.eq_1]) hR1215), (show True ∧ S_DR_divide_J63 x2 x3 x4 x5 x6 t0_0 t0_1 t0_2 t0_3 t0_4 t0_5 t0_6 t0_7 t0_8 t0_9 t0_10 t1_0 t2_0 t3_0 t4_0 t5_0 t6_0 t7_0 1 from (by have h := hS1216; rw [S_DR_divide_J46.eq_1] at h; with_reducible exact h))⟩
    ·
      intro J1214
      refine lv_if_ne (tgt := 46) hx hb d_15_37_5 (by decide) (fun c1220 => ?_) (fun c1220 => ?_)
      ·
        exact J1214 (()) _ _ _ ws ⟨V, q_lw hl (q_lw1 0 rfl (q_lw1 1 rfl (q_lw1 2 rfl (q_lw1 3 rfl (q_lw1 4 rfl (q_lw1 5 rfl q_lw0)))))), (show F_DR_divide_J46 x2 x3 x4 x5 x6 t0_0 t0_1 t0_2 t0_3 t0_4 t0_5 t0_6 t0_7 t0_8 t0_9 t0_10 t1_0 t2_0 t3_0 t4_0 t5_0 t6_0 t7_0 = (F_DR_divide x2 x3 x4 x5 x6 t0_0 t0_1 t0_2 t0_3 t0_4 t0_5 t0_6 t0_7 t0_8 t0_9 t0_10 t1_0 t2_0 t3_0 t4_0 t5_0 t6_0 t7_0) from (by have c1220x := c1220; rw [e44] at c1220x; rw [F_DR_divide.eq_1, if_neg c1220x])), (show True ∧ S_DR_divide_J46 x2 x3 x4 x5 x6 t0_0 t0_1 t0_2 t0_3 t0_4 t0_5 t0_6 t0_7 t0_8 t0_9 t0_10 t1_0 t2_0 t3_0 t4_0 t5_0 t6_0 t7_0 from (by have h := hS; rw [S_DR_divide.eq_1] at h; have c1220x := c1220; rw [e44] at c1220x; rw [if_neg c1220x] at h; with_reducible exact h))⟩
      ·
        refine lv_iload_n hx hb d_15_37_8 rfl (lv_at hl 2 rfl) ?_
        refine q_goi V (q_runS (As := [.int x3]) (rest := [.ref (q 134)]) (d := 1) (mc := 0) (ms := 0) C0 V rfl LS_DR_113 (X_DR_no l D g q ws  x3 hI   _) rfl hl.1 rfl (Nat.le_of_ble_eq_true rfl) ⟨by decide, by decide⟩ ⟨Nat.le_of_ble_eq_true rfl, Nat.le_of_ble_eq_true rfl⟩ d_15_37_9) (fun a1225 u1223 H locs hp1224 V => ?_)
        obtain ⟨rfl, b1226, b1227, hE1228⟩ := hp1224
        have e1229 : a1225 = (F_DR_no x3) := hE1228
        clear b1226
        clear b1227
        refine lv_if_ne (tgt := 46) hx hb d_15_37_12 (by decide) (fun c1230 => ?_) (fun c1230 => ?_)
        ·
          exact J1214 (()) _ _ _ ws ⟨V, q_lw hl (q_lw1 0 rfl (q_lw1 1 rfl (q_lw1 2 rfl (q_lw1 3 rfl (q_lw1 4 rfl (q_lw1 5 rfl q_lw0)))))), (show F_DR_divide_J46 x2 x3 x4 x5 x6 t0_0 t0_1 t0_2 t0_3 t0_4 t0_5 t0_6 t0_7 t0_8 t0_9 t0_10 t1_0 t2_0 t3_0 t4_0 t5_0 t6_0 t7_0 = (F_DR_divide x2 x3 x4 x5 x6 t0_0 t0_1 t0_2 t0_3 t0_4 t0_5 t0_6 t0_7 t0_8 t0_9 t0_10 t1_0 t2_0 t3_0 t4_0 t5_0 t6_0 t7_0) from (by have c1220x := c1220; rw [e44] at c1220x; have c1230x := c1230; rw [e1229] at c1230x; rw [F_DR_divide.eq_1, if_pos c1220x, if_neg c1230x])), (show True ∧ S_DR_divide_J46 x2 x3 x4 x5 x6 t0_0 t0_1 t0_2 t0_3 t0_4 t0_5 t0_6 t0_7 t0_8 t0_9 t0_10 t1_0 t2_0 t3_0 t4_0 t5_0 t6_0 t7_0 from (by have h := hS; rw [S_DR_divide.eq_1] at h; have c1220x := c1220; rw [e44] at c1220x; rw [if_pos c1220x] at h; have c1230x := c1230; rw [e1229] at c1230x; rw [if_neg c1230x] at h; with_reducible exact h))⟩
        ·
          refine lv_iload_n hx hb d_15_37_15 rfl (lv_at hl 3 rfl) ?_
          refine q_goi V (q_runS (As := [.int x4]) (rest := [.ref (q 134)]) (d := 1) (mc := 0) (ms := 0) C0 V rfl LS_DR_113 (X_DR_no l D g q ws  x4 hI   _) rfl hl.1 rfl (Nat.le_of_ble_eq_true rfl) ⟨by decide, by decide⟩ ⟨Nat.le_of_ble_eq_true rfl, Nat.le_of_ble_eq_true rfl⟩ d_15_37_16) (fun a1235 u1233 H locs hp1234 V => ?_)
          obtain ⟨rfl, b1236, b1237, hE1238⟩ := hp1234
          have e1239 : a1235 = (F_DR_no x4) := hE1238
          clear b1236
          clear b1237
          refine lv_if_ne (tgt := 46) hx hb d_15_37_19 (by decide) (fun c1240 => ?_) (fun c1240 => ?_)
          ·
            exact J1214 (()) _ _ _ ws ⟨V, q_lw hl (q_lw1 0 rfl (q_lw1 1 rfl (q_lw1 2 rfl (q_lw1 3 rfl (q_lw1 4 rfl (q_lw1 5 rfl q_lw0)))))), (show F_DR_divide_J46 x2 x3 x4 x5 x6 t0_0 t0_1 t0_2 t0_3 t0_4 t0_5 t0_6 t0_7 t0_8 t0_9 t0_10 t1_0 t2_0 t3_0 t4_0 t5_0 t6_0 t7_0 = (F_DR_divide x2 x3 x4 x5 x6 t0_0 t0_1 t0_2 t0_3 t0_4 t0_5 t0_6 t0_7 t0_8 t0_9 t0_10 t1_0 t2_0 t3_0 t4_0 t5_0 t6_0 t7_0) from (by have c1220x := c1220; rw [e44] at c1220x; have c1230x := c1230; rw [e1229] at c1230x; have c1240x := c1240; rw [e1239] at c1240x; rw [F_DR_divide.eq_1, if_pos c1220x, if_pos c1230x, if_neg c1240x])), (show True ∧ S_DR_divide_J46 x2 x3 x4 x5 x6 t0_0 t0_1 t0_2 t0_3 t0_4 t0_5 t0_6 t0_7 t0_8 t0_9 t0_10 t1_0 t2_0 t3_0 t4_0 t5_0 t6_0 t7_0 from (by have h := hS; rw [S_DR_divide.eq_1] at h; have c1220x := c1220; rw [e44] at c1220x; rw [if_pos c1220x] at h; have c1230x := c1230; rw [e1229] at c1230x; rw [if_pos c1230x] at h; have c1240x := c1240; rw [e1239] at c1240x; rw [if_neg c1240x] at h; with_reducible exact h))⟩
          ·
            refine lv_iload hx hb d_15_37_22 (lv_at hl 5 rfl) ?_
            refine q_goi V (q_runS (As := [.int x6]) (rest := [.ref (q 134)]) (d := 1) (mc := 0) (ms := 0) C0 V rfl LS_DR_147 (X_DR_noMode l D g q ws  x6 hI   _) rfl hl.1 rfl (Nat.le_of_ble_eq_true rfl) ⟨by decide, by decide⟩ ⟨Nat.le_of_ble_eq_true rfl, Nat.le_of_ble_eq_true rfl⟩ d_15_37_24) (fun a1245 u1243 H locs hp1244 V => ?_)
            obtain ⟨rfl, b1246, b1247, hE1248⟩ := hp1244
            have e1249 : a1245 = (F_DR_noMode x6) := hE1248
            clear b1246
            clear b1247
            refine lv_if_ne (tgt := 46) hx hb d_15_37_27 (by decide) (fun c1250 => ?_) (fun c1250 => ?_)
            ·
              exact J1214 (()) _ _ _ ws ⟨V, q_lw hl (q_lw1 0 rfl (q_lw1 1 rfl (q_lw1 2 rfl (q_lw1 3 rfl (q_lw1 4 rfl (q_lw1 5 rfl q_lw0)))))), (show F_DR_divide_J46 x2 x3 x4 x5 x6 t0_0 t0_1 t0_2 t0_3 t0_4 t0_5 t0_6 t0_7 t0_8 t0_9 t0_10 t1_0 t2_0 t3_0 t4_0 t5_0 t6_0 t7_0 = (F_DR_divide x2 x3 x4 x5 x6 t0_0 t0_1 t0_2 t0_3 t0_4 t0_5 t0_6 t0_7 t0_8 t0_9 t0_10 t1_0 t2_0 t3_0 t4_0 t5_0 t6_0 t7_0) from (by have c1220x := c1220; rw [e44] at c1220x; have c1230x := c1230; rw [e1229] at c1230x; have c1240x := c1240; rw [e1239] at c1240x; have c1250x := c1250; rw [e1249] at c1250x; rw [F_DR_divide.eq_1, if_pos c1220x, if_pos c1230x, if_pos c1240x, if_neg c1250x])), (show True ∧ S_DR_divide_J46 x2 x3 x4 x5 x6 t0_0 t0_1 t0_2 t0_3 t0_4 t0_5 t0_6 t0_7 t0_8 t0_9 t0_10 t1_0 t2_0 t3_0 t4_0 t5_0 t6_0 t7_0 from (by have h := hS; rw [S_DR_divide.eq_1] at h; have c1220x := c1220; rw [e44] at c1220x; rw [if_pos c1220x] at h; have c1230x := c1230; rw [e1229] at c1230x; rw [if_pos c1230x] at h; have c1240x := c1240; rw [e1239] at c1240x; rw [if_pos c1240x] at h; have c1250x := c1250; rw [e1249] at c1250x; rw [if_neg c1250x] at h; with_reducible exact h))⟩
            ·
              refine lv_iload hx hb d_15_37_30 (lv_at hl 4 rfl) ?_
              refine lv_sipush (v := (-10000)) hx hb d_15_37_32 (by decide) ?_
              refine lv_icmp_lt (tgt := 46) hx hb d_15_37_35 (by decide) (fun c1253 => ?_) (fun c1253 => ?_)
              ·
                exact J1214 (()) _ _ _ ws ⟨V, q_lw hl (q_lw1 0 rfl (q_lw1 1 rfl (q_lw1 2 rfl (q_lw1 3 rfl (q_lw1 4 rfl (q_lw1 5 rfl q_lw0)))))), (show F_DR_divide_J46 x2 x3 x4 x5 x6 t0_0 t0_1 t0_2 t0_3 t0_4 t0_5 t0_6 t0_7 t0_8 t0_9 t0_10 t1_0 t2_0 t3_0 t4_0 t5_0 t6_0 t7_0 = (F_DR_divide x2 x3 x4 x5 x6 t0_0 t0_1 t0_2 t0_3 t0_4 t0_5 t0_6 t0_7 t0_8 t0_9 t0_10 t1_0 t2_0 t3_0 t4_0 t5_0 t6_0 t7_0) from (by have c1220x := c1220; rw [e44] at c1220x; have c1230x := c1230; rw [e1229] at c1230x; have c1240x := c1240; rw [e1239] at c1240x; have c1250x := c1250; rw [e1249] at c1250x; rw [F_DR_divide.eq_1, if_pos c1220x, if_pos c1230x, if_pos c1240x, if_pos c1250x, if_pos c1253])), (show True ∧ S_DR_divide_J46 x2 x3 x4 x5 x6 t0_0 t0_1 t0_2 t0_3 t0_4 t0_5 t0_6 t0_7 t0_8 t0_9 t0_10 t1_0 t2_0 t3_0 t4_0 t5_0 t6_0 t7_0 from (by have h := hS; rw [S_DR_divide.eq_1] at h; have c1220x := c1220; rw [e44] at c1220x; rw [if_pos c1220x] at h; have c1230x := c1230; rw [e1229] at c1230x; rw [if_pos c1230x] at h; have c1240x := c1240; rw [e1239] at c1240x; rw [if_pos c1240x] at h; have c1250x := c1250; rw [e1249] at c1250x; rw [if_pos c1250x] at h; rw [if_pos c1253] at h; with_reducible exact h))⟩
              ·
                refine lv_iload hx hb d_15_37_38 (lv_at hl 4 rfl) ?_
                refine lv_sipush (v := 10000) hx hb d_15_37_40 (by decide) ?_
                refine lv_icmp_le (tgt := 50) hx hb d_15_37_43 (by decide) (fun c1256 => ?_) (fun c1256 => ?_)
                ·
                  refine lv_aload_n hx hb d_15_37_50 rfl (lv_at hl 0 rfl) ?_
                  refine lv_iload_n hx hb d_15_37_51 rfl (lv_at hl 2 rfl) ?_
                  have ob1258 : True ∧ S_DR_isZero x3 t0_0 t0_1 t0_2 t0_3 t0_4 t0_5 t0_6 t0_7 t0_8 t0_9 t0_10 t1_0 := (by have h := hS; rw [S_DR_divide.eq_1] at h; have c1220x := c1220; rw [e44] at c1220x; rw [if_pos c1220x] at h; have c1230x := c1230; rw [e1229] at c1230x; rw [if_pos c1230x] at h; have c1240x := c1240; rw [e1239] at c1240x; rw [if_pos c1240x] at h; have c1250x := c1250; rw [e1249] at c1250x; rw [if_pos c1250x] at h; rw [if_neg c1253] at h; rw [if_pos c1256] at h; with_reducible exact h.2.1)
                  refine q_goi V (q_runV (As := [.int x3]) (rest := [.ref (q 134)]) (d := 1) (mc := 0) (ms := 0) (ci := 14) C0 V rfl LV_DR_120 (X_DR_isZero l D g q ws  x3 hI t0_0 t0_1 t0_2 t0_3 t0_4 t0_5 t0_6 t0_7 t0_8 t0_9 t0_10 hT0 t1_0 hT1 ob1258 _) rfl rfl hT0 rfl hl.1 rfl (Nat.le_of_ble_eq_true rfl) ⟨by decide, by decide⟩ ⟨Nat.le_of_ble_eq_true rfl, Nat.le_of_ble_eq_true rfl⟩ d_15_37_52) (fun a1261 u1259 H locs hp1260 V => ?_)
                  obtain ⟨rfl, b1262, b1263, hE1264⟩ := hp1260
                  have e1265 : a1261 = (F_DR_isZero x3 t0_0 t0_1 t0_2 t0_3 t0_4 t0_5 t0_6 t0_7 t0_8 t0_9 t0_10 t1_0) := hE1264
                  clear b1262
                  clear b1263
                  refine lv_if_eq (tgt := 62) hx hb d_15_37_55 (by decide) (fun c1266 => ?_) (fun c1266 => ?_)
                  ·
                    refine lv_iconst (v := 0) hx hb d_15_37_62 (by decide) ?_
                    exact J54 ((0 : Int32)) _ _ _ ws ⟨(show q_F (0 ≤ 0) from (show 0 ≤ 0 from by omega)), (show q_F (0 ≤ 2) from (show 0 ≤ 2 from by omega)), V, q_lw hl (q_lw1 0 rfl (q_lw1 1 rfl (q_lw1 2 rfl (q_lw1 3 rfl (q_lw1 4 rfl (q_lw1 5 rfl q_lw0)))))), (show F_DR_divide_J63 x2 x3 x4 x5 x6 t0_0 t0_1 t0_2 t0_3 t0_4 t0_5 t0_6 t0_7 t0_8 t0_9 t0_10 t1_0 t2_0 t3_0 t4_0 t5_0 t6_0 t7_0 0 = (F_DR_divide x2 x3 x4 x5 x6 t0_0 t0_1 t0_2 t0_3 t0_4 t0_5 t0_6 t0_7 t0_8 t0_9 t0_10 t1_0 t2_0 t3_0 t4_0 t5_0 t6_0 t7_0) from (by have c1220x := c1220; rw [e44] at c1220x; have c1230x := c1230; rw [e1229] at c1230x; have c1240x := c1240; rw [e1239] at c1240x; have c1250x := c1250; rw [e1249] at c1250x; have c1266x := c1266; rw [e1265] at c1266x; rw [F_DR_divide.eq_1, if_pos c1220x, if_pos c1230x, if_pos c1240x, if_pos c1250x, if_neg c1253, if_pos c1256, if_pos c1266x])), (show True ∧ S_DR_divide_J63 x2 x3 x4 x5 x6 t0_0 t0_1 t0_2 t0_3 t0_4 t0_5 t0_6 t0_7 t0_8 t0_9 t0_10 t1_0 t2_0 t3_0 t4_0 t5_0 t6_0 t7_0 0 from (by have h := hS; rw [S_DR_divide.eq_1] at h; have c1220x := c1220; rw [e44] at c1220x; rw [if_pos c1220x] at h; have c1230x := c1230; rw [e1229] at c1230x; rw [if_pos c1230x] at h; have c1240x := c1240; rw [e1239] at c1240x; rw [if_pos c1240x] at h; have c1250x := c1250; rw [e1249] at c1250x; rw [if_pos c1250x] at h; rw [if_neg c1253] at h; rw [if_pos c1256] at h; replace h := q_s2 h; have c1266x := c1266; rw [e1265] at c1266x; rw [if_pos c1266x] at h; with_reducible exact h))⟩
                  ·
                    refine lv_iconst (v := 2) hx hb d_15_37_58 (by decide) ?_
                    refine lv_goto (tgt := 63) hx hb d_15_37_59 (by decide) ?_
                    exact J54 ((2 : Int32)) _ _ _ ws ⟨(show q_F (0 ≤ 2) from (show 0 ≤ 2 from by omega)), (show q_F (2 ≤ 2) from (show 2 ≤ 2 from by omega)), V, q_lw hl (q_lw1 0 rfl (q_lw1 1 rfl (q_lw1 2 rfl (q_lw1 3 rfl (q_lw1 4 rfl (q_lw1 5 rfl q_lw0)))))), (show F_DR_divide_J63 x2 x3 x4 x5 x6 t0_0 t0_1 t0_2 t0_3 t0_4 t0_5 t0_6 t0_7 t0_8 t0_9 t0_10 t1_0 t2_0 t3_0 t4_0 t5_0 t6_0 t7_0 2 = (F_DR_divide x2 x3 x4 x5 x6 t0_0 t0_1 t0_2 t0_3 t0_4 t0_5 t0_6 t0_7 t0_8 t0_9 t0_10 t1_0 t2_0 t3_0 t4_0 t5_0 t6_0 t7_0) from (by have c1220x := c1220; rw [e44] at c1220x; have c1230x := c1230; rw [e1229] at c1230x; have c1240x := c1240; rw [e1239] at c1240x; have c1250x := c1250; rw [e1249] at c1250x; have c1266x := c1266; rw [e1265] at c1266x; rw [F_DR_divide.eq_1, if_pos c1220x, if_pos c1230x, if_pos c1240x, if_pos c1250x, if_neg c1253, if_pos c1256, if_neg c1266x])), (show True ∧ S_DR_divide_J63 x2 x3 x4 x5 x6 t0_0 t0_1 t0_2 t0_3 t0_4 t0_5 t0_6 t0_7 t0_8 t0_9 t0_10 t1_0 t2_0 t3_0 t4_0 t5_0 t6_0 t7_0 2 from (by have h := hS; rw [S_DR_divide.eq_1] at h; have c1220x := c1220; rw [e44] at c1220x; rw [if_pos c1220x] at h; have c1230x := c1230; rw [e1229] at c1230x; rw [if_pos c1230x] at h; have c1240x := c1240; rw [e1239] at c1240x; rw [if_pos c1240x] at h; have c1250x := c1250; rw [e1249] at c1250x; rw [if_pos c1250x] at h; rw [if_neg c1253] at h; rw [if_pos c1256] at h; replace h := q_s2 h; have c1266x := c1266; rw [e1265] at c1266x; rw [if_neg c1266x] at h; with_reducible exact h))⟩
                ·
                  exact J1214 (()) _ _ _ ws ⟨V, q_lw hl (q_lw1 0 rfl (q_lw1 1 rfl (q_lw1 2 rfl (q_lw1 3 rfl (q_lw1 4 rfl (q_lw1 5 rfl q_lw0)))))), (show F_DR_divide_J46 x2 x3 x4 x5 x6 t0_0 t0_1 t0_2 t0_3 t0_4 t0_5 t0_6 t0_7 t0_8 t0_9 t0_10 t1_0 t2_0 t3_0 t4_0 t5_0 t6_0 t7_0 = (F_DR_divide x2 x3 x4 x5 x6 t0_0 t0_1 t0_2 t0_3 t0_4 t0_5 t0_6 t0_7 t0_8 t0_9 t0_10 t1_0 t2_0 t3_0 t4_0 t5_0 t6_0 t7_0) from (by have c1220x := c1220; rw [e44] at c1220x; have c1230x := c1230; rw [e1229] at c1230x; have c1240x := c1240; rw [e1239] at c1240x; have c1250x := c1250; rw [e1249] at c1250x; rw [F_DR_divide.eq_1, if_pos c1220x, if_pos c1230x, if_pos c1240x, if_pos c1250x, if_neg c1253, if_neg c1256])), (show True ∧ S_DR_divide_J46 x2 x3 x4 x5 x6 t0_0 t0_1 t0_2 t0_3 t0_4 t0_5 t0_6 t0_7 t0_8 t0_9 t0_10 t1_0 t2_0 t3_0 t4_0 t5_0 t6_0 t7_0 from (by have h := hS; rw [S_DR_divide.eq_1] at h; have c1220x := c1220; rw [e44] at c1220x; rw [if_pos c1220x] at h; have c1230x := c1230; rw [e1229] at c1230x; rw [if_pos c1230x] at h; have c1240x := c1240; rw [e1239] at c1240x; rw [if_pos c1240x] at h; have c1250x := c1250; rw [e1249] at c1250x; rw [if_pos c1250x] at h; rw [if_neg c1253] at h; rw [if_neg c1256] at h; with_reducible exact h))⟩

