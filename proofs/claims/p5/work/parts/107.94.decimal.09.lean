theorem d_15_39_0 : decode prog_15_method_39_code 0 = .ok (.aload_n 0, 1) := by decide +kernel
theorem d_15_39_1 : decode prog_15_method_39_code 1 = .ok (.iload_n 1, 1) := by decide +kernel
theorem d_15_39_2 : decode prog_15_method_39_code 2 = .ok (.invokestatic 113, 3) := by decide +kernel
theorem d_15_39_39 : decode prog_15_method_39_code 39 = .ok (.putfield 41, 3) := by decide +kernel
theorem d_15_39_42 : decode prog_15_method_39_code 42 = .ok (.aload_n 0, 1) := by decide +kernel
theorem d_15_39_43 : decode prog_15_method_39_code 43 = .ok (.getfield 41, 3) := by decide +kernel
theorem d_15_39_46 : decode prog_15_method_39_code 46 = .ok (.ifCond .le 4, 3) := by decide +kernel
theorem d_15_39_50 : decode prog_15_method_39_code 50 = .ok (.aload_n 0, 1) := by decide +kernel
theorem d_15_39_51 : decode prog_15_method_39_code 51 = .ok (.iconst 2, 1) := by decide +kernel
theorem d_15_39_52 : decode prog_15_method_39_code 52 = .ok (.putfield 66, 3) := by decide +kernel
theorem d_15_39_55 : decode prog_15_method_39_code 55 = .ok (.aload_n 0, 1) := by decide +kernel
theorem d_15_39_56 : decode prog_15_method_39_code 56 = .ok (.getfield 23, 3) := by decide +kernel
theorem d_15_39_59 : decode prog_15_method_39_code 59 = .ok (.iload_n 1, 1) := by decide +kernel
theorem d_15_39_60 : decode prog_15_method_39_code 60 = .ok (.iaload, 1) := by decide +kernel
theorem d_15_39_61 : decode prog_15_method_39_code 61 = .ok (.aload_n 0, 1) := by decide +kernel
theorem d_15_39_62 : decode prog_15_method_39_code 62 = .ok (.getfield 23, 3) := by decide +kernel
theorem d_15_39_65 : decode prog_15_method_39_code 65 = .ok (.iload_n 2, 1) := by decide +kernel
theorem d_15_39_66 : decode prog_15_method_39_code 66 = .ok (.iaload, 1) := by decide +kernel
theorem d_15_39_87 : decode prog_15_method_39_code 87 = .ok (.lstore 4, 2) := by decide +kernel
theorem d_15_39_89 : decode prog_15_method_39_code 89 = .ok (.aload_n 0, 1) := by decide +kernel
theorem d_15_39_90 : decode prog_15_method_39_code 90 = .ok (.iload_n 1, 1) := by decide +kernel
theorem d_15_39_91 : decode prog_15_method_39_code 91 = .ok (.invokevirtual 120, 3) := by decide +kernel
theorem d_15_39_106 : decode prog_15_method_39_code 106 = .ok (.aload_n 0, 1) := by decide +kernel
theorem d_15_39_107 : decode prog_15_method_39_code 107 = .ok (.iload_n 1, 1) := by decide +kernel
theorem d_15_39_108 : decode prog_15_method_39_code 108 = .ok (.invokevirtual 132, 3) := by decide +kernel
theorem d_15_39_111 : decode prog_15_method_39_code 111 = .ok (.lload 4, 2) := by decide +kernel
theorem d_15_39_113 : decode prog_15_method_39_code 113 = .ok (.aload_n 0, 1) := by decide +kernel
theorem d_15_39_114 : decode prog_15_method_39_code 114 = .ok (.getfield 48, 3) := by decide +kernel
theorem d_15_39_117 : decode prog_15_method_39_code 117 = .ok (.lsub, 1) := by decide +kernel
theorem d_15_39_118 : decode prog_15_method_39_code 118 = .ok (.ldc2_w 77, 3) := by decide +kernel
theorem d_15_39_121 : decode prog_15_method_39_code 121 = .ok (.lcmp, 1) := by decide +kernel
theorem d_15_39_122 : decode prog_15_method_39_code 122 = .ok (.ifCond .le 17, 3) := by decide +kernel
theorem d_15_39_139 : decode prog_15_method_39_code 139 = .ok (.aload_n 0, 1) := by decide +kernel
theorem d_15_39_140 : decode prog_15_method_39_code 140 = .ok (.lload 4, 2) := by decide +kernel
theorem d_15_39_142 : decode prog_15_method_39_code 142 = .ok (.iconst 1, 1) := by decide +kernel
theorem d_15_39_143 : decode prog_15_method_39_code 143 = .ok (.iload_n 3, 1) := by decide +kernel
theorem d_15_39_144 : decode prog_15_method_39_code 144 = .ok (.invokevirtual 170, 3) := by decide +kernel
set_option maxRecDepth 100000 in
theorem w_2806 : (Cond.code ({ cls := "NumberHouseModel$DecimalRows", name := "bring", desc := "(JII)V" } : MethodName) prog_15_method_13_code (7 : Nat) (none : Option ClassFile.FieldType)) ∈ q_tbl := q_of12 166 rfl (by decide +kernel)
set_option maxRecDepth 100000 in
theorem w_2803 : (Cond.methodLink "NumberHouseModel$DecimalRows" (170 : Nat) ({ cls := "NumberHouseModel$DecimalRows", name := "bring", desc := "(JII)V" } : MethodName)) ∈ q_tbl := q_of12 163 rfl (by decide +kernel)
set_option maxRecDepth 100000 in
theorem w_2805 : (Cond.instanceMethod ({ cls := "NumberHouseModel$DecimalRows", name := "bring", desc := "(JII)V" } : MethodName)) ∈ q_tbl := q_of12 165 rfl (by decide +kernel)
theorem ws_113 : Cond.selects "NumberHouseModel$DecimalRows" (⟨"NumberHouseModel$DecimalRows", "bring", "(JII)V"⟩ : MethodName) (⟨"NumberHouseModel$DecimalRows", "bring", "(JII)V"⟩ : MethodName) ∈ q_tbl := q_ofs 113 (by decide +kernel) (by decide +kernel)
theorem LV_DR_170 : q_LV "NumberHouseModel$DecimalRows" 170 y_DR_bring prog_15_method_13_code 7 none 3 := ⟨w_2806, w_16, w_2803, w_2805, ws_113, ⟨by decide, by decide, by decide +kernel⟩⟩
theorem d_15_39_147 : decode prog_15_method_39_code 147 = .ok (.return_, 1) := by decide +kernel
theorem d_15_39_125 : decode prog_15_method_39_code 125 = .ok (.aload_n 0, 1) := by decide +kernel
theorem d_15_39_126 : decode prog_15_method_39_code 126 = .ok (.iload_n 1, 1) := by decide +kernel
theorem d_15_39_127 : decode prog_15_method_39_code 127 = .ok (.invokevirtual 120, 3) := by decide +kernel
theorem d_15_39_130 : decode prog_15_method_39_code 130 = .ok (.ifCond .ne 9, 3) := by decide +kernel
theorem d_15_39_133 : decode prog_15_method_39_code 133 = .ok (.aload_n 0, 1) := by decide +kernel
theorem d_15_39_134 : decode prog_15_method_39_code 134 = .ok (.iconst 2, 1) := by decide +kernel
theorem d_15_39_135 : decode prog_15_method_39_code 135 = .ok (.putfield 41, 3) := by decide +kernel
theorem d_15_39_138 : decode prog_15_method_39_code 138 = .ok (.return_, 1) := by decide +kernel
theorem d_15_39_94 : decode prog_15_method_39_code 94 = .ok (.ifCond .ne 12, 3) := by decide +kernel
theorem d_15_39_97 : decode prog_15_method_39_code 97 = .ok (.aload_n 0, 1) := by decide +kernel
theorem d_15_39_98 : decode prog_15_method_39_code 98 = .ok (.iload_n 1, 1) := by decide +kernel
theorem d_15_39_99 : decode prog_15_method_39_code 99 = .ok (.iload_n 2, 1) := by decide +kernel
theorem d_15_39_100 : decode prog_15_method_39_code 100 = .ok (.invokevirtual 123, 3) := by decide +kernel
theorem d_15_39_103 : decode prog_15_method_39_code 103 = .ok (.ifCond .ge 45, 3) := by decide +kernel
theorem d_15_39_148 : decode prog_15_method_39_code 148 = .ok (.lload 4, 2) := by decide +kernel
theorem d_15_39_150 : decode prog_15_method_39_code 150 = .ok (.aload_n 0, 1) := by decide +kernel
theorem d_15_39_151 : decode prog_15_method_39_code 151 = .ok (.getfield 23, 3) := by decide +kernel
theorem d_15_39_154 : decode prog_15_method_39_code 154 = .ok (.iload_n 2, 1) := by decide +kernel
theorem d_15_39_155 : decode prog_15_method_39_code 155 = .ok (.iaload, 1) := by decide +kernel
theorem d_15_39_156 : decode prog_15_method_39_code 156 = .ok (.i2l, 1) := by decide +kernel
theorem d_15_39_157 : decode prog_15_method_39_code 157 = .ok (.lsub, 1) := by decide +kernel
theorem d_15_39_158 : decode prog_15_method_39_code 158 = .ok (.lstore 6, 2) := by decide +kernel
theorem d_15_39_160 : decode prog_15_method_39_code 160 = .ok (.aload_n 0, 1) := by decide +kernel
theorem d_15_39_161 : decode prog_15_method_39_code 161 = .ok (.getfield 19, 3) := by decide +kernel
theorem d_15_39_164 : decode prog_15_method_39_code 164 = .ok (.iload_n 1, 1) := by decide +kernel
theorem d_15_39_165 : decode prog_15_method_39_code 165 = .ok (.baload, 1) := by decide +kernel
theorem d_15_39_166 : decode prog_15_method_39_code 166 = .ok (.istore 8, 2) := by decide +kernel
theorem d_15_39_168 : decode prog_15_method_39_code 168 = .ok (.aload_n 0, 1) := by decide +kernel
theorem d_15_39_169 : decode prog_15_method_39_code 169 = .ok (.iload_n 2, 1) := by decide +kernel
theorem d_15_39_170 : decode prog_15_method_39_code 170 = .ok (.lload 6, 2) := by decide +kernel
theorem d_15_39_172 : decode prog_15_method_39_code 172 = .ok (.l2i, 1) := by decide +kernel
theorem d_15_39_173 : decode prog_15_method_39_code 173 = .ok (.invokevirtual 150, 3) := by decide +kernel
set_option maxRecDepth 100000 in
theorem w_2827 : (Cond.code ({ cls := "NumberHouseModel$DecimalRows", name := "loadUnder", desc := "(II)V" } : MethodName) prog_15_method_30_code (4 : Nat) (none : Option ClassFile.FieldType)) ∈ q_tbl := q_of12 187 rfl (by decide +kernel)
set_option maxRecDepth 100000 in
theorem w_2824 : (Cond.methodLink "NumberHouseModel$DecimalRows" (150 : Nat) ({ cls := "NumberHouseModel$DecimalRows", name := "loadUnder", desc := "(II)V" } : MethodName)) ∈ q_tbl := q_of12 184 rfl (by decide +kernel)
set_option maxRecDepth 100000 in
theorem w_2826 : (Cond.instanceMethod ({ cls := "NumberHouseModel$DecimalRows", name := "loadUnder", desc := "(II)V" } : MethodName)) ∈ q_tbl := q_of12 186 rfl (by decide +kernel)
theorem ws_118 : Cond.selects "NumberHouseModel$DecimalRows" (⟨"NumberHouseModel$DecimalRows", "loadUnder", "(II)V"⟩ : MethodName) (⟨"NumberHouseModel$DecimalRows", "loadUnder", "(II)V"⟩ : MethodName) ∈ q_tbl := q_ofs 118 (by decide +kernel) (by decide +kernel)
theorem LV_DR_150 : q_LV "NumberHouseModel$DecimalRows" 150 y_DR_loadUnder prog_15_method_30_code 4 none 2 := ⟨w_2827, w_16, w_2824, w_2826, ws_118, ⟨by decide, by decide, by decide +kernel⟩⟩
theorem d_15_39_176 : decode prog_15_method_39_code 176 = .ok (.aload_n 0, 1) := by decide +kernel
theorem d_15_39_177 : decode prog_15_method_39_code 177 = .ok (.invokevirtual 154, 3) := by decide +kernel
set_option maxRecDepth 100000 in
theorem w_2831 : (Cond.code ({ cls := "NumberHouseModel$DecimalRows", name := "beginQuotient", desc := "()V" } : MethodName) prog_15_method_35_code (2 : Nat) (none : Option ClassFile.FieldType)) ∈ q_tbl := q_of12 191 rfl (by decide +kernel)
set_option maxRecDepth 100000 in
theorem w_2828 : (Cond.methodLink "NumberHouseModel$DecimalRows" (154 : Nat) ({ cls := "NumberHouseModel$DecimalRows", name := "beginQuotient", desc := "()V" } : MethodName)) ∈ q_tbl := q_of12 188 rfl (by decide +kernel)
set_option maxRecDepth 100000 in
theorem w_2830 : (Cond.instanceMethod ({ cls := "NumberHouseModel$DecimalRows", name := "beginQuotient", desc := "()V" } : MethodName)) ∈ q_tbl := q_of12 190 rfl (by decide +kernel)
theorem ws_119 : Cond.selects "NumberHouseModel$DecimalRows" (⟨"NumberHouseModel$DecimalRows", "beginQuotient", "()V"⟩ : MethodName) (⟨"NumberHouseModel$DecimalRows", "beginQuotient", "()V"⟩ : MethodName) ∈ q_tbl := q_ofs 119 (by decide +kernel) (by decide +kernel)
theorem LV_DR_154 : q_LV "NumberHouseModel$DecimalRows" 154 y_DR_beginQuotient prog_15_method_35_code 2 none 0 := ⟨w_2831, w_16, w_2828, w_2830, ws_119, ⟨by decide, by decide, by decide +kernel⟩⟩
theorem d_15_39_180 : decode prog_15_method_39_code 180 = .ok (.aload_n 0, 1) := by decide +kernel
theorem d_15_39_181 : decode prog_15_method_39_code 181 = .ok (.getfield 16, 3) := by decide +kernel
theorem d_15_39_184 : decode prog_15_method_39_code 184 = .ok (.iload_n 1, 1) := by decide +kernel
theorem d_15_39_185 : decode prog_15_method_39_code 185 = .ok (.iaload, 1) := by decide +kernel
theorem d_15_39_186 : decode prog_15_method_39_code 186 = .ok (.i2l, 1) := by decide +kernel
theorem d_15_39_187 : decode prog_15_method_39_code 187 = .ok (.lload 4, 2) := by decide +kernel
theorem d_15_39_189 : decode prog_15_method_39_code 189 = .ok (.ladd, 1) := by decide +kernel
theorem d_15_39_190 : decode prog_15_method_39_code 190 = .ok (.aload_n 0, 1) := by decide +kernel
theorem d_15_39_191 : decode prog_15_method_39_code 191 = .ok (.getfield 23, 3) := by decide +kernel
theorem d_15_39_194 : decode prog_15_method_39_code 194 = .ok (.iload_n 1, 1) := by decide +kernel
theorem d_15_39_195 : decode prog_15_method_39_code 195 = .ok (.iaload, 1) := by decide +kernel
theorem d_15_39_196 : decode prog_15_method_39_code 196 = .ok (.i2l, 1) := by decide +kernel
theorem d_15_39_197 : decode prog_15_method_39_code 197 = .ok (.lsub, 1) := by decide +kernel
theorem d_15_39_198 : decode prog_15_method_39_code 198 = .ok (.lstore 9, 2) := by decide +kernel
theorem d_15_39_200 : decode prog_15_method_39_code 200 = .ok (.lconst 0, 1) := by decide +kernel
theorem d_15_39_201 : decode prog_15_method_39_code 201 = .ok (.lstore 11, 2) := by decide +kernel
theorem d_15_39_203 : decode prog_15_method_39_code 203 = .ok (.lload 11, 2) := by decide +kernel
theorem d_15_39_205 : decode prog_15_method_39_code 205 = .ok (.lload 9, 2) := by decide +kernel
theorem d_15_39_207 : decode prog_15_method_39_code 207 = .ok (.lcmp, 1) := by decide +kernel
theorem d_15_39_208 : decode prog_15_method_39_code 208 = .ok (.ifCond .ge 49, 3) := by decide +kernel
theorem d_15_39_257 : decode prog_15_method_39_code 257 = .ok (.aload_n 0, 1) := by decide +kernel
theorem d_15_39_258 : decode prog_15_method_39_code 258 = .ok (.aload_n 0, 1) := by decide +kernel
theorem d_15_39_259 : decode prog_15_method_39_code 259 = .ok (.getfield 138, 3) := by decide +kernel
theorem d_15_39_262 : decode prog_15_method_39_code 262 = .ok (.iconst 1, 1) := by decide +kernel
theorem d_15_39_263 : decode prog_15_method_39_code 263 = .ok (.iadd, 1) := by decide +kernel
theorem d_15_39_264 : decode prog_15_method_39_code 264 = .ok (.putfield 45, 3) := by decide +kernel
theorem d_15_39_267 : decode prog_15_method_39_code 267 = .ok (.iconst 0, 1) := by decide +kernel
theorem d_15_39_268 : decode prog_15_method_39_code 268 = .ok (.istore 11, 2) := by decide +kernel
theorem d_15_39_270 : decode prog_15_method_39_code 270 = .ok (.iload 11, 2) := by decide +kernel
theorem d_15_39_272 : decode prog_15_method_39_code 272 = .ok (.aload_n 0, 1) := by decide +kernel
theorem d_15_39_273 : decode prog_15_method_39_code 273 = .ok (.getfield 45, 3) := by decide +kernel
theorem d_15_39_276 : decode prog_15_method_39_code 276 = .ok (.if_icmp .ge 23, 3) := by decide +kernel
theorem d_15_39_299 : decode prog_15_method_39_code 299 = .ok (.aload_n 0, 1) := by decide +kernel
theorem d_15_39_300 : decode prog_15_method_39_code 300 = .ok (.iload 8, 2) := by decide +kernel
theorem d_15_39_302 : decode prog_15_method_39_code 302 = .ok (.putfield 56, 3) := by decide +kernel
theorem d_15_39_305 : decode prog_15_method_39_code 305 = .ok (.aload_n 0, 1) := by decide +kernel
theorem d_15_39_306 : decode prog_15_method_39_code 306 = .ok (.lload 4, 2) := by decide +kernel
theorem d_15_39_308 : decode prog_15_method_39_code 308 = .ok (.putfield 48, 3) := by decide +kernel
theorem d_15_39_311 : decode prog_15_method_39_code 311 = .ok (.aload_n 0, 1) := by decide +kernel
theorem d_15_39_312 : decode prog_15_method_39_code 312 = .ok (.iconst 0, 1) := by decide +kernel
theorem d_15_39_313 : decode prog_15_method_39_code 313 = .ok (.putfield 52, 3) := by decide +kernel
theorem d_15_39_316 : decode prog_15_method_39_code 316 = .ok (.aload_n 0, 1) := by decide +kernel
theorem d_15_39_317 : decode prog_15_method_39_code 317 = .ok (.iload_n 3, 1) := by decide +kernel
theorem d_15_39_318 : decode prog_15_method_39_code 318 = .ok (.invokevirtual 89, 3) := by decide +kernel
theorem d_15_39_321 : decode prog_15_method_39_code 321 = .ok (.return_, 1) := by decide +kernel
theorem d_15_39_279 : decode prog_15_method_39_code 279 = .ok (.aload_n 0, 1) := by decide +kernel
theorem d_15_39_280 : decode prog_15_method_39_code 280 = .ok (.getfield 26, 3) := by decide +kernel
theorem d_15_39_283 : decode prog_15_method_39_code 283 = .ok (.iload 11, 2) := by decide +kernel
theorem d_15_39_285 : decode prog_15_method_39_code 285 = .ok (.aload_n 0, 1) := by decide +kernel
theorem d_15_39_286 : decode prog_15_method_39_code 286 = .ok (.getfield 35, 3) := by decide +kernel
theorem d_15_39_289 : decode prog_15_method_39_code 289 = .ok (.iload 11, 2) := by decide +kernel
theorem d_15_39_291 : decode prog_15_method_39_code 291 = .ok (.iaload, 1) := by decide +kernel
theorem d_15_39_292 : decode prog_15_method_39_code 292 = .ok (.iastore, 1) := by decide +kernel
theorem d_15_39_293 : decode prog_15_method_39_code 293 = .ok (.iinc 11 1, 3) := by decide +kernel
theorem d_15_39_296 : decode prog_15_method_39_code 296 = .ok (.goto (-26), 3) := by decide +kernel
theorem d_15_39_211 : decode prog_15_method_39_code 211 = .ok (.aload_n 0, 1) := by decide +kernel
theorem d_15_39_212 : decode prog_15_method_39_code 212 = .ok (.lload 11, 2) := by decide +kernel
theorem d_15_39_214 : decode prog_15_method_39_code 214 = .ok (.aload_n 0, 1) := by decide +kernel
theorem d_15_39_215 : decode prog_15_method_39_code 215 = .ok (.getfield 16, 3) := by decide +kernel
theorem d_15_39_218 : decode prog_15_method_39_code 218 = .ok (.iload_n 1, 1) := by decide +kernel
theorem d_15_39_219 : decode prog_15_method_39_code 219 = .ok (.iaload, 1) := by decide +kernel
theorem d_15_39_220 : decode prog_15_method_39_code 220 = .ok (.i2l, 1) := by decide +kernel
theorem d_15_39_221 : decode prog_15_method_39_code 221 = .ok (.lcmp, 1) := by decide +kernel
theorem d_15_39_222 : decode prog_15_method_39_code 222 = .ok (.ifCond .ge 20, 3) := by decide +kernel
theorem d_15_39_242 : decode prog_15_method_39_code 242 = .ok (.iconst 0, 1) := by decide +kernel
theorem d_15_39_243 : decode prog_15_method_39_code 243 = .ok (.invokevirtual 157, 3) := by decide +kernel
set_option maxRecDepth 100000 in
theorem w_2835 : (Cond.code ({ cls := "NumberHouseModel$DecimalRows", name := "nextFigure", desc := "(I)I" } : MethodName) prog_15_method_33_code (3 : Nat) (some .int)) ∈ q_tbl := q_of12 195 rfl (by decide +kernel)
set_option maxRecDepth 100000 in
theorem w_2832 : (Cond.methodLink "NumberHouseModel$DecimalRows" (157 : Nat) ({ cls := "NumberHouseModel$DecimalRows", name := "nextFigure", desc := "(I)I" } : MethodName)) ∈ q_tbl := q_of12 192 rfl (by decide +kernel)
set_option maxRecDepth 100000 in
theorem w_2834 : (Cond.instanceMethod ({ cls := "NumberHouseModel$DecimalRows", name := "nextFigure", desc := "(I)I" } : MethodName)) ∈ q_tbl := q_of12 194 rfl (by decide +kernel)
theorem ws_120 : Cond.selects "NumberHouseModel$DecimalRows" (⟨"NumberHouseModel$DecimalRows", "nextFigure", "(I)I"⟩ : MethodName) (⟨"NumberHouseModel$DecimalRows", "nextFigure", "(I)I"⟩ : MethodName) ∈ q_tbl := q_ofs 120 (by decide +kernel) (by decide +kernel)
theorem LV_DR_157 : q_LV "NumberHouseModel$DecimalRows" 157 y_DR_nextFigure prog_15_method_33_code 3 (some .int) 1 := ⟨w_2835, w_16, w_2832, w_2834, ws_120, ⟨by decide, by decide, by decide +kernel⟩⟩
theorem d_15_39_246 : decode prog_15_method_39_code 246 = .ok (.istore 13, 2) := by decide +kernel
theorem d_15_39_248 : decode prog_15_method_39_code 248 = .ok (.lload 11, 2) := by decide +kernel
theorem d_15_39_250 : decode prog_15_method_39_code 250 = .ok (.lconst 1, 1) := by decide +kernel
theorem d_15_39_251 : decode prog_15_method_39_code 251 = .ok (.ladd, 1) := by decide +kernel
theorem d_15_39_252 : decode prog_15_method_39_code 252 = .ok (.lstore 11, 2) := by decide +kernel
theorem d_15_39_254 : decode prog_15_method_39_code 254 = .ok (.goto (-51), 3) := by decide +kernel
theorem d_15_39_225 : decode prog_15_method_39_code 225 = .ok (.aload_n 0, 1) := by decide +kernel
theorem d_15_39_226 : decode prog_15_method_39_code 226 = .ok (.getfield 13, 3) := by decide +kernel
theorem d_15_39_229 : decode prog_15_method_39_code 229 = .ok (.sipush 1000, 3) := by decide +kernel
theorem d_15_39_232 : decode prog_15_method_39_code 232 = .ok (.iload_n 1, 1) := by decide +kernel
theorem d_15_39_233 : decode prog_15_method_39_code 233 = .ok (.imul, 1) := by decide +kernel
theorem d_15_39_234 : decode prog_15_method_39_code 234 = .ok (.lload 11, 2) := by decide +kernel
theorem d_15_39_236 : decode prog_15_method_39_code 236 = .ok (.l2i, 1) := by decide +kernel
theorem d_15_39_237 : decode prog_15_method_39_code 237 = .ok (.iadd, 1) := by decide +kernel
theorem d_15_39_238 : decode prog_15_method_39_code 238 = .ok (.iaload, 1) := by decide +kernel
theorem d_15_39_239 : decode prog_15_method_39_code 239 = .ok (.goto 4, 3) := by decide +kernel
theorem d_15_39_67 : decode prog_15_method_39_code 67 = .ok (.if_icmp .le 13, 3) := by decide +kernel
theorem d_15_39_80 : decode prog_15_method_39_code 80 = .ok (.aload_n 0, 1) := by decide +kernel
theorem d_15_39_81 : decode prog_15_method_39_code 81 = .ok (.getfield 23, 3) := by decide +kernel
theorem d_15_39_84 : decode prog_15_method_39_code 84 = .ok (.iload_n 2, 1) := by decide +kernel
theorem d_15_39_85 : decode prog_15_method_39_code 85 = .ok (.iaload, 1) := by decide +kernel
theorem d_15_39_86 : decode prog_15_method_39_code 86 = .ok (.i2l, 1) := by decide +kernel
theorem d_15_39_70 : decode prog_15_method_39_code 70 = .ok (.aload_n 0, 1) := by decide +kernel
theorem d_15_39_71 : decode prog_15_method_39_code 71 = .ok (.getfield 23, 3) := by decide +kernel
theorem d_15_39_74 : decode prog_15_method_39_code 74 = .ok (.iload_n 1, 1) := by decide +kernel
theorem d_15_39_75 : decode prog_15_method_39_code 75 = .ok (.iaload, 1) := by decide +kernel
theorem d_15_39_76 : decode prog_15_method_39_code 76 = .ok (.i2l, 1) := by decide +kernel
theorem d_15_39_77 : decode prog_15_method_39_code 77 = .ok (.goto 10, 3) := by decide +kernel
theorem d_15_39_49 : decode prog_15_method_39_code 49 = .ok (.return_, 1) := by decide +kernel
theorem d_15_39_22 : decode prog_15_method_39_code 22 = .ok (.iconst 1, 1) := by decide +kernel
theorem d_15_39_23 : decode prog_15_method_39_code 23 = .ok (.goto 16, 3) := by decide +kernel
theorem d_15_39_5 : decode prog_15_method_39_code 5 = .ok (.ifCond .ne 17, 3) := by decide +kernel
theorem d_15_39_8 : decode prog_15_method_39_code 8 = .ok (.iload_n 2, 1) := by decide +kernel
theorem d_15_39_9 : decode prog_15_method_39_code 9 = .ok (.invokestatic 113, 3) := by decide +kernel
theorem d_15_39_12 : decode prog_15_method_39_code 12 = .ok (.ifCond .ne 10, 3) := by decide +kernel
theorem d_15_39_15 : decode prog_15_method_39_code 15 = .ok (.iload_n 3, 1) := by decide +kernel
theorem d_15_39_16 : decode prog_15_method_39_code 16 = .ok (.invokestatic 113, 3) := by decide +kernel
theorem d_15_39_19 : decode prog_15_method_39_code 19 = .ok (.ifCond .eq 7, 3) := by decide +kernel
theorem d_15_39_26 : decode prog_15_method_39_code 26 = .ok (.aload_n 0, 1) := by decide +kernel
theorem d_15_39_27 : decode prog_15_method_39_code 27 = .ok (.iload_n 2, 1) := by decide +kernel
theorem d_15_39_28 : decode prog_15_method_39_code 28 = .ok (.invokevirtual 120, 3) := by decide +kernel
theorem d_15_39_31 : decode prog_15_method_39_code 31 = .ok (.ifCond .eq 7, 3) := by decide +kernel
theorem d_15_39_38 : decode prog_15_method_39_code 38 = .ok (.iconst 0, 1) := by decide +kernel
theorem d_15_39_34 : decode prog_15_method_39_code 34 = .ok (.iconst 2, 1) := by decide +kernel
theorem d_15_39_35 : decode prog_15_method_39_code 35 = .ok (.goto 4, 3) := by decide +kernel
def y_DR_remainder : MethodName := ⟨"NumberHouseModel$DecimalRows", "remainder", "(III)V"⟩
def F_DR_remainder_c144 (x2 : Int32) (x3 : Int32) (x4 : Int32) (t0_0 : Int32) (t0_1 : Int32) (t0_2 : Int32) (t0_3 : Int64) (t0_4 : Int32) (t0_5 : Int32) (t0_6 : Int32) (t0_7 : Int32) (t0_8 : Int32) (t0_9 : Int32) (t0_10 : Int32) (t1_0 : (Nat → Int32)) (t2_0 : (Nat → Int32)) (t3_0 : (Nat → Int32)) (t4_0 : (Nat → Int32)) (t5_0 : (Nat → Int32)) (t6_0 : (Nat → Int32)) (t7_0 : (Nat → Int32)) (lx45 : Int32) (lx76 : Int64) (p157 : (Int32 × Int32 × Int32 × Int64 × Int32 × Int32 × Int32 × Int32 × Int32 × Int32 × Int32 × (Nat → Int32))) (p231 : (Int32 × Int32 × Int32 × Int64 × Int32 × Int32 × Int32 × Int32 × Int32 × Int32 × Int32 × (Nat → Int32) × (Nat → Int32) × (Nat → Int32) × (Nat → Int32) × (Nat → Int32))) : Int32 × Int32 × Int32 × Int64 × Int32 × Int32 × Int32 × Int32 × Int32 × Int32 × Int32 × (Nat → Int32) × (Nat → Int32) × (Nat → Int32) × (Nat → Int32) × (Nat → Int32) × (Nat → Int32) × (Nat → Int32) := ((p231.1 : Int32), (p231.2.1 : Int32), (p231.2.2.1 : Int32), (p231.2.2.2.1 : Int64), (p231.2.2.2.2.1 : Int32), (p231.2.2.2.2.2.1 : Int32), (p231.2.2.2.2.2.2.1 : Int32), (p231.2.2.2.2.2.2.2.1 : Int32), (p231.2.2.2.2.2.2.2.2.1 : Int32), (p231.2.2.2.2.2.2.2.2.2.1 : Int32), (p231.2.2.2.2.2.2.2.2.2.2.1 : Int32), (p231.2.2.2.2.2.2.2.2.2.2.2.1 : (Nat → Int32)), (p231.2.2.2.2.2.2.2.2.2.2.2.2.1 : (Nat → Int32)), (p231.2.2.2.2.2.2.2.2.2.2.2.2.2.1 : (Nat → Int32)), (p231.2.2.2.2.2.2.2.2.2.2.2.2.2.2.1 : (Nat → Int32)), (p231.2.2.2.2.2.2.2.2.2.2.2.2.2.2.2 : (Nat → Int32)), t6_0, t7_0)
def F_DR_remainder_c144_6 (x2 : Int32) (x3 : Int32) (x4 : Int32) (t0_0 : Int32) (t0_1 : Int32) (t0_2 : Int32) (t0_3 : Int64) (t0_4 : Int32) (t0_5 : Int32) (t0_6 : Int32) (t0_7 : Int32) (t0_8 : Int32) (t0_9 : Int32) (t0_10 : Int32) (t1_0 : (Nat → Int32)) (t2_0 : (Nat → Int32)) (t3_0 : (Nat → Int32)) (t4_0 : (Nat → Int32)) (t5_0 : (Nat → Int32)) (t6_0 : (Nat → Int32)) (t7_0 : (Nat → Int32)) (lx45 : Int32) (lx76 : Int64) (p157 : (Int32 × Int32 × Int32 × Int64 × Int32 × Int32 × Int32 × Int32 × Int32 × Int32 × Int32 × (Nat → Int32))) (p312 : (Int32 × Int32 × Int32 × Int64 × Int32 × Int32 × Int32 × Int32 × Int32 × Int32 × Int32 × (Nat → Int32) × (Nat → Int32) × (Nat → Int32) × (Nat → Int32) × (Nat → Int32))) : Int32 × Int32 × Int32 × Int64 × Int32 × Int32 × Int32 × Int32 × Int32 × Int32 × Int32 × (Nat → Int32) × (Nat → Int32) × (Nat → Int32) × (Nat → Int32) × (Nat → Int32) × (Nat → Int32) × (Nat → Int32) := ((p312.1 : Int32), (p312.2.1 : Int32), (p312.2.2.1 : Int32), (p312.2.2.2.1 : Int64), (p312.2.2.2.2.1 : Int32), (p312.2.2.2.2.2.1 : Int32), (p312.2.2.2.2.2.2.1 : Int32), (p312.2.2.2.2.2.2.2.1 : Int32), (p312.2.2.2.2.2.2.2.2.1 : Int32), (p312.2.2.2.2.2.2.2.2.2.1 : Int32), (p312.2.2.2.2.2.2.2.2.2.2.1 : Int32), (p312.2.2.2.2.2.2.2.2.2.2.2.1 : (Nat → Int32)), (p312.2.2.2.2.2.2.2.2.2.2.2.2.1 : (Nat → Int32)), (p312.2.2.2.2.2.2.2.2.2.2.2.2.2.1 : (Nat → Int32)), (p312.2.2.2.2.2.2.2.2.2.2.2.2.2.2.1 : (Nat → Int32)), (p312.2.2.2.2.2.2.2.2.2.2.2.2.2.2.2 : (Nat → Int32)), t6_0, t7_0)
def F_DR_remainder_c108 (x2 : Int32) (x3 : Int32) (x4 : Int32) (t0_0 : Int32) (t0_1 : Int32) (t0_2 : Int32) (t0_3 : Int64) (t0_4 : Int32) (t0_5 : Int32) (t0_6 : Int32) (t0_7 : Int32) (t0_8 : Int32) (t0_9 : Int32) (t0_10 : Int32) (t1_0 : (Nat → Int32)) (t2_0 : (Nat → Int32)) (t3_0 : (Nat → Int32)) (t4_0 : (Nat → Int32)) (t5_0 : (Nat → Int32)) (t6_0 : (Nat → Int32)) (t7_0 : (Nat → Int32)) (lx45 : Int32) (lx76 : Int64) (p157 : (Int32 × Int32 × Int32 × Int64 × Int32 × Int32 × Int32 × Int32 × Int32 × Int32 × Int32 × (Nat → Int32))) : Int32 × Int32 × Int32 × Int64 × Int32 × Int32 × Int32 × Int32 × Int32 × Int32 × Int32 × (Nat → Int32) × (Nat → Int32) × (Nat → Int32) × (Nat → Int32) × (Nat → Int32) × (Nat → Int32) × (Nat → Int32) := if (lg_cmp (lx76 - (p157.2.2.2.1 : Int64) : Int64) 1000 : Int32) ≤ (0 : Int32) then (F_DR_remainder_c144 x2 x3 x4 t0_0 t0_1 t0_2 t0_3 t0_4 t0_5 t0_6 t0_7 t0_8 t0_9 t0_10 t1_0 t2_0 t3_0 t4_0 t5_0 t6_0 t7_0 lx45 lx76 p157 ((F_DR_bring lx76 (1 : Int32) x4 (p157.1 : Int32) (p157.2.1 : Int32) (p157.2.2.1 : Int32) (p157.2.2.2.1 : Int64) (p157.2.2.2.2.1 : Int32) (p157.2.2.2.2.2.1 : Int32) (p157.2.2.2.2.2.2.1 : Int32) (p157.2.2.2.2.2.2.2.1 : Int32) (p157.2.2.2.2.2.2.2.2.1 : Int32) (p157.2.2.2.2.2.2.2.2.2.1 : Int32) (p157.2.2.2.2.2.2.2.2.2.2.1 : Int32) t1_0 t2_0 t3_0 t4_0 (p157.2.2.2.2.2.2.2.2.2.2.2 : (Nat → Int32))) : (Int32 × Int32 × Int32 × Int64 × Int32 × Int32 × Int32 × Int32 × Int32 × Int32 × Int32 × (Nat → Int32) × (Nat → Int32) × (Nat → Int32) × (Nat → Int32) × (Nat → Int32)))) else (if ((F_DR_isZero x2 (p157.1 : Int32) (p157.2.1 : Int32) (p157.2.2.1 : Int32) (p157.2.2.2.1 : Int64) (p157.2.2.2.2.1 : Int32) (p157.2.2.2.2.2.1 : Int32) (p157.2.2.2.2.2.2.1 : Int32) (p157.2.2.2.2.2.2.2.1 : Int32) (p157.2.2.2.2.2.2.2.2.1 : Int32) (p157.2.2.2.2.2.2.2.2.2.1 : Int32) (p157.2.2.2.2.2.2.2.2.2.2.1 : Int32) t1_0) : Int32) = (0 : Int32) then (((2 : Int32), (p157.2.1 : Int32), (p157.2.2.1 : Int32), (p157.2.2.2.1 : Int64), (p157.2.2.2.2.1 : Int32), (p157.2.2.2.2.2.1 : Int32), (p157.2.2.2.2.2.2.1 : Int32), (p157.2.2.2.2.2.2.2.1 : Int32), (p157.2.2.2.2.2.2.2.2.1 : Int32), (p157.2.2.2.2.2.2.2.2.2.1 : Int32), (p157.2.2.2.2.2.2.2.2.2.2.1 : Int32), t1_0, t2_0, t3_0, t4_0, (p157.2.2.2.2.2.2.2.2.2.2.2 : (Nat → Int32)), t6_0, t7_0)) else (F_DR_remainder_c144_6 x2 x3 x4 t0_0 t0_1 t0_2 t0_3 t0_4 t0_5 t0_6 t0_7 t0_8 t0_9 t0_10 t1_0 t2_0 t3_0 t4_0 t5_0 t6_0 t7_0 lx45 lx76 p157 ((F_DR_bring lx76 (1 : Int32) x4 (p157.1 : Int32) (p157.2.1 : Int32) (p157.2.2.1 : Int32) (p157.2.2.2.1 : Int64) (p157.2.2.2.2.1 : Int32) (p157.2.2.2.2.2.1 : Int32) (p157.2.2.2.2.2.2.1 : Int32) (p157.2.2.2.2.2.2.2.1 : Int32) (p157.2.2.2.2.2.2.2.2.1 : Int32) (p157.2.2.2.2.2.2.2.2.2.1 : Int32) (p157.2.2.2.2.2.2.2.2.2.2.1 : Int32) t1_0 t2_0 t3_0 t4_0 (p157.2.2.2.2.2.2.2.2.2.2.2 : (Nat → Int32))) : (Int32 × Int32 × Int32 × Int64 × Int32 × Int32 × Int32 × Int32 × Int32 × Int32 × Int32 × (Nat → Int32) × (Nat → Int32) × (Nat → Int32) × (Nat → Int32) × (Nat → Int32)))))
def F_DR_remainder_J106 (x2 : Int32) (x3 : Int32) (x4 : Int32) (t0_0 : Int32) (t0_1 : Int32) (t0_2 : Int32) (t0_3 : Int64) (t0_4 : Int32) (t0_5 : Int32) (t0_6 : Int32) (t0_7 : Int32) (t0_8 : Int32) (t0_9 : Int32) (t0_10 : Int32) (t1_0 : (Nat → Int32)) (t2_0 : (Nat → Int32)) (t3_0 : (Nat → Int32)) (t4_0 : (Nat → Int32)) (t5_0 : (Nat → Int32)) (t6_0 : (Nat → Int32)) (t7_0 : (Nat → Int32)) (lx45 : Int32) (lx76 : Int64) : Int32 × Int32 × Int32 × Int64 × Int32 × Int32 × Int32 × Int32 × Int32 × Int32 × Int32 × (Nat → Int32) × (Nat → Int32) × (Nat → Int32) × (Nat → Int32) × (Nat → Int32) × (Nat → Int32) × (Nat → Int32) := F_DR_remainder_c108 x2 x3 x4 t0_0 t0_1 t0_2 t0_3 t0_4 t0_5 t0_6 t0_7 t0_8 t0_9 t0_10 t1_0 t2_0 t3_0 t4_0 t5_0 t6_0 t7_0 lx45 lx76 ((F_DR_load x2 lx45 t0_1 t0_2 t0_3 t0_4 t0_5 t0_6 t0_7 t0_8 t0_9 (2 : Int32) t1_0 t2_0 t3_0 t4_0 t5_0) : (Int32 × Int32 × Int32 × Int64 × Int32 × Int32 × Int32 × Int32 × Int32 × Int32 × Int32 × (Nat → Int32)))
def F_DR_remainder_c318 (K_F_DR_remainder_L203 : Int64 → (Nat → Int32) → (Int32 × Int32 × Int32 × Int64 × Int32 × Int32 × Int32 × Int32 × Int32 × Int32 × Int32 × (Nat → Int32) × (Nat → Int32) × (Nat → Int32) × (Nat → Int32) × (Nat → Int32) × (Nat → Int32) × (Nat → Int32))) (K_F_DR_remainder_L270 : Int32 → (Nat → Int32) → (Int32 × Int32 × Int32 × Int64 × Int32 × Int32 × Int32 × Int32 × Int32 × Int32 × Int32 × (Nat → Int32) × (Nat → Int32) × (Nat → Int32) × (Nat → Int32) × (Nat → Int32) × (Nat → Int32) × (Nat → Int32))) (x2 : Int32) (x3 : Int32) (x4 : Int32) (t0_0 : Int32) (t0_1 : Int32) (t0_2 : Int32) (t0_3 : Int64) (t0_4 : Int32) (t0_5 : Int32) (t0_6 : Int32) (t0_7 : Int32) (t0_8 : Int32) (t0_9 : Int32) (t0_10 : Int32) (t1_0 : (Nat → Int32)) (t2_0 : (Nat → Int32)) (t3_0 : (Nat → Int32)) (t4_0 : (Nat → Int32)) (t5_0 : (Nat → Int32)) (t6_0 : (Nat → Int32)) (t7_0 : (Nat → Int32)) (lx45 : Int32) (lx76 : Int64) (a363 : Int32) (j360 : Int64) (p416 : (Int32 × Int32 × Int32 × Int64 × Int32 × Int32 × Int32 × Int32 × Int32 × Int32 × Int32 × (Nat → Int32))) (f382 : (Nat → Int32)) (p477 : (Int32 × Int32 × Int32 × Int64 × Int32 × Int32 × Int32 × Int32 × Int32 × Int32 × Int32 × (Nat → Int32))) (j509 : Int64) (y439 : Int32) (y440 : Int32) (y441 : Int32) (y442 : Int64) (y443 : Int32) (y444 : Int32) (y445 : Int32) (y446 : Int32) (y447 : Int32) (y448 : Int32) (y449 : Int32) (lx513 : Int64) (lx514 : (Nat → Int32)) (a536 : Int32) (lx542 : Int32) (lx543 : (Nat → Int32)) (p620 : (Int32 × Int32 × Int32 × Int64 × Int32 × Int32 × Int32 × Int32 × Int32 × Int32 × Int32 × (Nat → Int32) × (Nat → Int32) × (Nat → Int32) × (Nat → Int32) × (Nat → Int32))) : Int32 × Int32 × Int32 × Int64 × Int32 × Int32 × Int32 × Int32 × Int32 × Int32 × Int32 × (Nat → Int32) × (Nat → Int32) × (Nat → Int32) × (Nat → Int32) × (Nat → Int32) × (Nat → Int32) × (Nat → Int32) := ((p620.1 : Int32), (p620.2.1 : Int32), (p620.2.2.1 : Int32), (p620.2.2.2.1 : Int64), (p620.2.2.2.2.1 : Int32), (p620.2.2.2.2.2.1 : Int32), (p620.2.2.2.2.2.2.1 : Int32), (p620.2.2.2.2.2.2.2.1 : Int32), (p620.2.2.2.2.2.2.2.2.1 : Int32), (p620.2.2.2.2.2.2.2.2.2.1 : Int32), (p620.2.2.2.2.2.2.2.2.2.2.1 : Int32), (p620.2.2.2.2.2.2.2.2.2.2.2.1 : (Nat → Int32)), (p620.2.2.2.2.2.2.2.2.2.2.2.2.1 : (Nat → Int32)), (p620.2.2.2.2.2.2.2.2.2.2.2.2.2.1 : (Nat → Int32)), (p620.2.2.2.2.2.2.2.2.2.2.2.2.2.2.1 : (Nat → Int32)), (p620.2.2.2.2.2.2.2.2.2.2.2.2.2.2.2 : (Nat → Int32)), f382, lx514)
def F_DR_remainder_L270 (K_F_DR_remainder_L203 : Int64 → (Nat → Int32) → (Int32 × Int32 × Int32 × Int64 × Int32 × Int32 × Int32 × Int32 × Int32 × Int32 × Int32 × (Nat → Int32) × (Nat → Int32) × (Nat → Int32) × (Nat → Int32) × (Nat → Int32) × (Nat → Int32) × (Nat → Int32))) (x2 : Int32) (x3 : Int32) (x4 : Int32) (t0_0 : Int32) (t0_1 : Int32) (t0_2 : Int32) (t0_3 : Int64) (t0_4 : Int32) (t0_5 : Int32) (t0_6 : Int32) (t0_7 : Int32) (t0_8 : Int32) (t0_9 : Int32) (t0_10 : Int32) (t1_0 : (Nat → Int32)) (t2_0 : (Nat → Int32)) (t3_0 : (Nat → Int32)) (t4_0 : (Nat → Int32)) (t5_0 : (Nat → Int32)) (t6_0 : (Nat → Int32)) (t7_0 : (Nat → Int32)) (lx45 : Int32) (lx76 : Int64) (a363 : Int32) (j360 : Int64) (p416 : (Int32 × Int32 × Int32 × Int64 × Int32 × Int32 × Int32 × Int32 × Int32 × Int32 × Int32 × (Nat → Int32))) (f382 : (Nat → Int32)) (p477 : (Int32 × Int32 × Int32 × Int64 × Int32 × Int32 × Int32 × Int32 × Int32 × Int32 × Int32 × (Nat → Int32))) (j509 : Int64) (y439 : Int32) (y440 : Int32) (y441 : Int32) (y442 : Int64) (y443 : Int32) (y444 : Int32) (y445 : Int32) (y446 : Int32) (y447 : Int32) (y448 : Int32) (y449 : Int32) (lx513 : Int64) (lx514 : (Nat → Int32)) (a536 : Int32) : Nat → Int32 → (Nat → Int32) → (Int32 × Int32 × Int32 × Int64 × Int32 × Int32 × Int32 × Int32 × Int32 × Int32 × Int32 × (Nat → Int32) × (Nat → Int32) × (Nat → Int32) × (Nat → Int32) × (Nat → Int32) × (Nat → Int32) × (Nat → Int32))
  | 0, _, _ => default
  | fm + 1, lx542, lx543 => if a536 ≤ lx542 then (F_DR_remainder_c318 K_F_DR_remainder_L203 (F_DR_remainder_L270 K_F_DR_remainder_L203 x2 x3 x4 t0_0 t0_1 t0_2 t0_3 t0_4 t0_5 t0_6 t0_7 t0_8 t0_9 t0_10 t1_0 t2_0 t3_0 t4_0 t5_0 t6_0 t7_0 lx45 lx76 a363 j360 p416 f382 p477 j509 y439 y440 y441 y442 y443 y444 y445 y446 y447 y448 y449 lx513 lx514 a536 fm) x2 x3 x4 t0_0 t0_1 t0_2 t0_3 t0_4 t0_5 t0_6 t0_7 t0_8 t0_9 t0_10 t1_0 t2_0 t3_0 t4_0 t5_0 t6_0 t7_0 lx45 lx76 a363 j360 p416 f382 p477 j509 y439 y440 y441 y442 y443 y444 y445 y446 y447 y448 y449 lx513 lx514 a536 lx542 lx543 ((F_DR_store x4 y439 y440 a536 lx76 (0 : Int32) a363 y445 y446 y447 y448 y449 t1_0 t2_0 t3_0 t4_0 lx543) : (Int32 × Int32 × Int32 × Int64 × Int32 × Int32 × Int32 × Int32 × Int32 × Int32 × Int32 × (Nat → Int32) × (Nat → Int32) × (Nat → Int32) × (Nat → Int32) × (Nat → Int32)))) else (F_DR_remainder_L270 K_F_DR_remainder_L203 x2 x3 x4 t0_0 t0_1 t0_2 t0_3 t0_4 t0_5 t0_6 t0_7 t0_8 t0_9 t0_10 t1_0 t2_0 t3_0 t4_0 t5_0 t6_0 t7_0 lx45 lx76 a363 j360 p416 f382 p477 j509 y439 y440 y441 y442 y443 y444 y445 y446 y447 y448 y449 lx513 lx514 a536 fm (lx542 + 1 : Int32) (upd lx543 lx542.toNatClampNeg (lx514 lx542.toNatClampNeg : Int32) : (Nat → Int32)))
def F_DR_remainder_c243 (K_F_DR_remainder_L203 : Int64 → (Nat → Int32) → (Int32 × Int32 × Int32 × Int64 × Int32 × Int32 × Int32 × Int32 × Int32 × Int32 × Int32 × (Nat → Int32) × (Nat → Int32) × (Nat → Int32) × (Nat → Int32) × (Nat → Int32) × (Nat → Int32) × (Nat → Int32))) (x2 : Int32) (x3 : Int32) (x4 : Int32) (t0_0 : Int32) (t0_1 : Int32) (t0_2 : Int32) (t0_3 : Int64) (t0_4 : Int32) (t0_5 : Int32) (t0_6 : Int32) (t0_7 : Int32) (t0_8 : Int32) (t0_9 : Int32) (t0_10 : Int32) (t1_0 : (Nat → Int32)) (t2_0 : (Nat → Int32)) (t3_0 : (Nat → Int32)) (t4_0 : (Nat → Int32)) (t5_0 : (Nat → Int32)) (t6_0 : (Nat → Int32)) (t7_0 : (Nat → Int32)) (lx45 : Int32) (lx76 : Int64) (a363 : Int32) (j360 : Int64) (p416 : (Int32 × Int32 × Int32 × Int64 × Int32 × Int32 × Int32 × Int32 × Int32 × Int32 × Int32 × (Nat → Int32))) (f382 : (Nat → Int32)) (p477 : (Int32 × Int32 × Int32 × Int64 × Int32 × Int32 × Int32 × Int32 × Int32 × Int32 × Int32 × (Nat → Int32))) (j509 : Int64) (y439 : Int32) (y440 : Int32) (y441 : Int32) (y442 : Int64) (y443 : Int32) (y444 : Int32) (y445 : Int32) (y446 : Int32) (y447 : Int32) (y448 : Int32) (y449 : Int32) (lx513 : Int64) (lx514 : (Nat → Int32)) (p673 : (Int32 × (Nat → Int32))) : Int32 × Int32 × Int32 × Int64 × Int32 × Int32 × Int32 × Int32 × Int32 × Int32 × Int32 × (Nat → Int32) × (Nat → Int32) × (Nat → Int32) × (Nat → Int32) × (Nat → Int32) × (Nat → Int32) × (Nat → Int32) := K_F_DR_remainder_L203 (lx513 + 1 : Int64) (p673.2 : (Nat → Int32))
def F_DR_remainder_c243_13 (K_F_DR_remainder_L203 : Int64 → (Nat → Int32) → (Int32 × Int32 × Int32 × Int64 × Int32 × Int32 × Int32 × Int32 × Int32 × Int32 × Int32 × (Nat → Int32) × (Nat → Int32) × (Nat → Int32) × (Nat → Int32) × (Nat → Int32) × (Nat → Int32) × (Nat → Int32))) (x2 : Int32) (x3 : Int32) (x4 : Int32) (t0_0 : Int32) (t0_1 : Int32) (t0_2 : Int32) (t0_3 : Int64) (t0_4 : Int32) (t0_5 : Int32) (t0_6 : Int32) (t0_7 : Int32) (t0_8 : Int32) (t0_9 : Int32) (t0_10 : Int32) (t1_0 : (Nat → Int32)) (t2_0 : (Nat → Int32)) (t3_0 : (Nat → Int32)) (t4_0 : (Nat → Int32)) (t5_0 : (Nat → Int32)) (t6_0 : (Nat → Int32)) (t7_0 : (Nat → Int32)) (lx45 : Int32) (lx76 : Int64) (a363 : Int32) (j360 : Int64) (p416 : (Int32 × Int32 × Int32 × Int64 × Int32 × Int32 × Int32 × Int32 × Int32 × Int32 × Int32 × (Nat → Int32))) (f382 : (Nat → Int32)) (p477 : (Int32 × Int32 × Int32 × Int64 × Int32 × Int32 × Int32 × Int32 × Int32 × Int32 × Int32 × (Nat → Int32))) (j509 : Int64) (y439 : Int32) (y440 : Int32) (y441 : Int32) (y442 : Int64) (y443 : Int32) (y444 : Int32) (y445 : Int32) (y446 : Int32) (y447 : Int32) (y448 : Int32) (y449 : Int32) (lx513 : Int64) (lx514 : (Nat → Int32)) (p706 : (Int32 × (Nat → Int32))) : Int32 × Int32 × Int32 × Int64 × Int32 × Int32 × Int32 × Int32 × Int32 × Int32 × Int32 × (Nat → Int32) × (Nat → Int32) × (Nat → Int32) × (Nat → Int32) × (Nat → Int32) × (Nat → Int32) × (Nat → Int32) := K_F_DR_remainder_L203 (lx513 + 1 : Int64) (p706.2 : (Nat → Int32))
def F_DR_remainder_L203 (x2 : Int32) (x3 : Int32) (x4 : Int32) (t0_0 : Int32) (t0_1 : Int32) (t0_2 : Int32) (t0_3 : Int64) (t0_4 : Int32) (t0_5 : Int32) (t0_6 : Int32) (t0_7 : Int32) (t0_8 : Int32) (t0_9 : Int32) (t0_10 : Int32) (t1_0 : (Nat → Int32)) (t2_0 : (Nat → Int32)) (t3_0 : (Nat → Int32)) (t4_0 : (Nat → Int32)) (t5_0 : (Nat → Int32)) (t6_0 : (Nat → Int32)) (t7_0 : (Nat → Int32)) (lx45 : Int32) (lx76 : Int64) (a363 : Int32) (j360 : Int64) (p416 : (Int32 × Int32 × Int32 × Int64 × Int32 × Int32 × Int32 × Int32 × Int32 × Int32 × Int32 × (Nat → Int32))) (f382 : (Nat → Int32)) (p477 : (Int32 × Int32 × Int32 × Int64 × Int32 × Int32 × Int32 × Int32 × Int32 × Int32 × Int32 × (Nat → Int32))) (j509 : Int64) (y439 : Int32) (y440 : Int32) (y441 : Int32) (y442 : Int64) (y443 : Int32) (y444 : Int32) (y445 : Int32) (y446 : Int32) (y447 : Int32) (y448 : Int32) (y449 : Int32) : Nat → Int64 → (Nat → Int32) → (Int32 × Int32 × Int32 × Int64 × Int32 × Int32 × Int32 × Int32 × Int32 × Int32 × Int32 × (Nat → Int32) × (Nat → Int32) × (Nat → Int32) × (Nat → Int32) × (Nat → Int32) × (Nat → Int32) × (Nat → Int32))
  | 0, _, _ => default
  | fm + 1, lx513, lx514 => if (0 : Int32) ≤ (lg_cmp lx513 j509 : Int32) then (F_DR_remainder_L270 (F_DR_remainder_L203 x2 x3 x4 t0_0 t0_1 t0_2 t0_3 t0_4 t0_5 t0_6 t0_7 t0_8 t0_9 t0_10 t1_0 t2_0 t3_0 t4_0 t5_0 t6_0 t7_0 lx45 lx76 a363 j360 p416 f382 p477 j509 y439 y440 y441 y442 y443 y444 y445 y446 y447 y448 y449 fm) x2 x3 x4 t0_0 t0_1 t0_2 t0_3 t0_4 t0_5 t0_6 t0_7 t0_8 t0_9 t0_10 t1_0 t2_0 t3_0 t4_0 t5_0 t6_0 t7_0 lx45 lx76 a363 j360 p416 f382 p477 j509 y439 y440 y441 y442 y443 y444 y445 y446 y447 y448 y449 lx513 lx514 (y446 + 1 : Int32) ((4099 - (0 : Int32).toInt).toNat + 1) 0 t5_0) else (if (0 : Int32) ≤ (lg_cmp lx513 ((t2_0 x2.toNatClampNeg : Int32).toInt64 : Int64) : Int32) then (F_DR_remainder_c243 (F_DR_remainder_L203 x2 x3 x4 t0_0 t0_1 t0_2 t0_3 t0_4 t0_5 t0_6 t0_7 t0_8 t0_9 t0_10 t1_0 t2_0 t3_0 t4_0 t5_0 t6_0 t7_0 lx45 lx76 a363 j360 p416 f382 p477 j509 y439 y440 y441 y442 y443 y444 y445 y446 y447 y448 y449 fm) x2 x3 x4 t0_0 t0_1 t0_2 t0_3 t0_4 t0_5 t0_6 t0_7 t0_8 t0_9 t0_10 t1_0 t2_0 t3_0 t4_0 t5_0 t6_0 t7_0 lx45 lx76 a363 j360 p416 f382 p477 j509 y439 y440 y441 y442 y443 y444 y445 y446 y447 y448 y449 lx513 lx514 ((F_DR_nextFigure (0 : Int32) y439 y440 y441 y442 y443 y444 y445 y446 y447 y448 y449 f382 lx514) : (Int32 × (Nat → Int32)))) else (F_DR_remainder_c243_13 (F_DR_remainder_L203 x2 x3 x4 t0_0 t0_1 t0_2 t0_3 t0_4 t0_5 t0_6 t0_7 t0_8 t0_9 t0_10 t1_0 t2_0 t3_0 t4_0 t5_0 t6_0 t7_0 lx45 lx76 a363 j360 p416 f382 p477 j509 y439 y440 y441 y442 y443 y444 y445 y446 y447 y448 y449 fm) x2 x3 x4 t0_0 t0_1 t0_2 t0_3 t0_4 t0_5 t0_6 t0_7 t0_8 t0_9 t0_10 t1_0 t2_0 t3_0 t4_0 t5_0 t6_0 t7_0 lx45 lx76 a363 j360 p416 f382 p477 j509 y439 y440 y441 y442 y443 y444 y445 y446 y447 y448 y449 lx513 lx514 ((F_DR_nextFigure (t1_0 ((1000 * x2 : Int32) + (lx513.toInt32 : Int32) : Int32).toNatClampNeg : Int32) y439 y440 y441 y442 y443 y444 y445 y446 y447 y448 y449 f382 lx514) : (Int32 × (Nat → Int32)))))
def F_DR_remainder_c177 (x2 : Int32) (x3 : Int32) (x4 : Int32) (t0_0 : Int32) (t0_1 : Int32) (t0_2 : Int32) (t0_3 : Int64) (t0_4 : Int32) (t0_5 : Int32) (t0_6 : Int32) (t0_7 : Int32) (t0_8 : Int32) (t0_9 : Int32) (t0_10 : Int32) (t1_0 : (Nat → Int32)) (t2_0 : (Nat → Int32)) (t3_0 : (Nat → Int32)) (t4_0 : (Nat → Int32)) (t5_0 : (Nat → Int32)) (t6_0 : (Nat → Int32)) (t7_0 : (Nat → Int32)) (lx45 : Int32) (lx76 : Int64) (a363 : Int32) (j360 : Int64) (p416 : (Int32 × Int32 × Int32 × Int64 × Int32 × Int32 × Int32 × Int32 × Int32 × Int32 × Int32 × (Nat → Int32))) (f382 : (Nat → Int32)) (p477 : (Int32 × Int32 × Int32 × Int64 × Int32 × Int32 × Int32 × Int32 × Int32 × Int32 × Int32 × (Nat → Int32))) : Int32 × Int32 × Int32 × Int64 × Int32 × Int32 × Int32 × Int32 × Int32 × Int32 × Int32 × (Nat → Int32) × (Nat → Int32) × (Nat → Int32) × (Nat → Int32) × (Nat → Int32) × (Nat → Int32) × (Nat → Int32) := F_DR_remainder_L203 x2 x3 x4 t0_0 t0_1 t0_2 t0_3 t0_4 t0_5 t0_6 t0_7 t0_8 t0_9 t0_10 t1_0 t2_0 t3_0 t4_0 t5_0 t6_0 t7_0 lx45 lx76 a363 j360 p416 f382 p477 ((((t2_0 x2.toNatClampNeg : Int32).toInt64 : Int64) + lx76 : Int64) - ((t4_0 x2.toNatClampNeg : Int32).toInt64 : Int64) : Int64) (p477.1 : Int32) (p477.2.1 : Int32) (p477.2.2.1 : Int32) (p477.2.2.2.1 : Int64) (p477.2.2.2.2.1 : Int32) (p477.2.2.2.2.2.1 : Int32) (p477.2.2.2.2.2.2.1 : Int32) (p477.2.2.2.2.2.2.2.1 : Int32) (p477.2.2.2.2.2.2.2.2.1 : Int32) (p477.2.2.2.2.2.2.2.2.2.1 : Int32) (p477.2.2.2.2.2.2.2.2.2.2.1 : Int32) ((((((t2_0 x2.toNatClampNeg : Int32).toInt64 : Int64) + lx76 : Int64) - ((t4_0 x2.toNatClampNeg : Int32).toInt64 : Int64) : Int64).toInt - (0 : Int64).toInt).toNat + 1) 0 (p477.2.2.2.2.2.2.2.2.2.2.2 : (Nat → Int32))
def F_DR_remainder_c173 (x2 : Int32) (x3 : Int32) (x4 : Int32) (t0_0 : Int32) (t0_1 : Int32) (t0_2 : Int32) (t0_3 : Int64) (t0_4 : Int32) (t0_5 : Int32) (t0_6 : Int32) (t0_7 : Int32) (t0_8 : Int32) (t0_9 : Int32) (t0_10 : Int32) (t1_0 : (Nat → Int32)) (t2_0 : (Nat → Int32)) (t3_0 : (Nat → Int32)) (t4_0 : (Nat → Int32)) (t5_0 : (Nat → Int32)) (t6_0 : (Nat → Int32)) (t7_0 : (Nat → Int32)) (lx45 : Int32) (lx76 : Int64) (a363 : Int32) (j360 : Int64) (p416 : (Int32 × Int32 × Int32 × Int64 × Int32 × Int32 × Int32 × Int32 × Int32 × Int32 × Int32 × (Nat → Int32))) : Int32 × Int32 × Int32 × Int64 × Int32 × Int32 × Int32 × Int32 × Int32 × Int32 × Int32 × (Nat → Int32) × (Nat → Int32) × (Nat → Int32) × (Nat → Int32) × (Nat → Int32) × (Nat → Int32) × (Nat → Int32) := F_DR_remainder_c177 x2 x3 x4 t0_0 t0_1 t0_2 t0_3 t0_4 t0_5 t0_6 t0_7 t0_8 t0_9 t0_10 t1_0 t2_0 t3_0 t4_0 t5_0 t6_0 t7_0 lx45 lx76 a363 j360 p416 (p416.2.2.2.2.2.2.2.2.2.2.2 : (Nat → Int32)) ((F_DR_beginQuotient (p416.1 : Int32) (p416.2.1 : Int32) (p416.2.2.1 : Int32) (p416.2.2.2.1 : Int64) (p416.2.2.2.2.1 : Int32) (p416.2.2.2.2.2.1 : Int32) (p416.2.2.2.2.2.2.1 : Int32) (p416.2.2.2.2.2.2.2.1 : Int32) (p416.2.2.2.2.2.2.2.2.1 : Int32) (p416.2.2.2.2.2.2.2.2.2.1 : Int32) (p416.2.2.2.2.2.2.2.2.2.2.1 : Int32) t7_0) : (Int32 × Int32 × Int32 × Int64 × Int32 × Int32 × Int32 × Int32 × Int32 × Int32 × Int32 × (Nat → Int32)))
def F_DR_remainder_J87 (x2 : Int32) (x3 : Int32) (x4 : Int32) (t0_0 : Int32) (t0_1 : Int32) (t0_2 : Int32) (t0_3 : Int64) (t0_4 : Int32) (t0_5 : Int32) (t0_6 : Int32) (t0_7 : Int32) (t0_8 : Int32) (t0_9 : Int32) (t0_10 : Int32) (t1_0 : (Nat → Int32)) (t2_0 : (Nat → Int32)) (t3_0 : (Nat → Int32)) (t4_0 : (Nat → Int32)) (t5_0 : (Nat → Int32)) (t6_0 : (Nat → Int32)) (t7_0 : (Nat → Int32)) (lx45 : Int32) (lx76 : Int64) : Int32 × Int32 × Int32 × Int64 × Int32 × Int32 × Int32 × Int32 × Int32 × Int32 × Int32 × (Nat → Int32) × (Nat → Int32) × (Nat → Int32) × (Nat → Int32) × (Nat → Int32) × (Nat → Int32) × (Nat → Int32) := if ((F_DR_isZero x2 lx45 t0_1 t0_2 t0_3 t0_4 t0_5 t0_6 t0_7 t0_8 t0_9 (2 : Int32) t1_0) : Int32) = (0 : Int32) then (if (0 : Int32) ≤ ((F_DR_compareSizes x2 x3 lx45 t0_1 t0_2 t0_3 t0_4 t0_5 t0_6 t0_7 t0_8 t0_9 (2 : Int32) t1_0 t2_0 t4_0) : Int32) then (F_DR_remainder_c173 x2 x3 x4 t0_0 t0_1 t0_2 t0_3 t0_4 t0_5 t0_6 t0_7 t0_8 t0_9 t0_10 t1_0 t2_0 t3_0 t4_0 t5_0 t6_0 t7_0 lx45 lx76 (t3_0 x2.toNatClampNeg : Int32) (lx76 - ((t4_0 x3.toNatClampNeg : Int32).toInt64 : Int64) : Int64) ((F_DR_loadUnder x3 ((lx76 - ((t4_0 x3.toNatClampNeg : Int32).toInt64 : Int64) : Int64).toInt32 : Int32) lx45 t0_1 t0_2 t0_3 t0_4 t0_5 t0_6 t0_7 t0_8 t0_9 (2 : Int32) t1_0 t2_0 t6_0) : (Int32 × Int32 × Int32 × Int64 × Int32 × Int32 × Int32 × Int32 × Int32 × Int32 × Int32 × (Nat → Int32)))) else (F_DR_remainder_J106 x2 x3 x4 t0_0 t0_1 t0_2 t0_3 t0_4 t0_5 t0_6 t0_7 t0_8 t0_9 t0_10 t1_0 t2_0 t3_0 t4_0 t5_0 t6_0 t7_0 lx45 lx76)) else (F_DR_remainder_J106 x2 x3 x4 t0_0 t0_1 t0_2 t0_3 t0_4 t0_5 t0_6 t0_7 t0_8 t0_9 t0_10 t1_0 t2_0 t3_0 t4_0 t5_0 t6_0 t7_0 lx45 lx76)
def F_DR_remainder_J39 (x2 : Int32) (x3 : Int32) (x4 : Int32) (t0_0 : Int32) (t0_1 : Int32) (t0_2 : Int32) (t0_3 : Int64) (t0_4 : Int32) (t0_5 : Int32) (t0_6 : Int32) (t0_7 : Int32) (t0_8 : Int32) (t0_9 : Int32) (t0_10 : Int32) (t1_0 : (Nat → Int32)) (t2_0 : (Nat → Int32)) (t3_0 : (Nat → Int32)) (t4_0 : (Nat → Int32)) (t5_0 : (Nat → Int32)) (t6_0 : (Nat → Int32)) (t7_0 : (Nat → Int32)) (lx45 : Int32) : Int32 × Int32 × Int32 × Int64 × Int32 × Int32 × Int32 × Int32 × Int32 × Int32 × Int32 × (Nat → Int32) × (Nat → Int32) × (Nat → Int32) × (Nat → Int32) × (Nat → Int32) × (Nat → Int32) × (Nat → Int32) := if lx45 ≤ (0 : Int32) then (if (t4_0 x2.toNatClampNeg : Int32) ≤ (t4_0 x3.toNatClampNeg : Int32) then (F_DR_remainder_J87 x2 x3 x4 t0_0 t0_1 t0_2 t0_3 t0_4 t0_5 t0_6 t0_7 t0_8 t0_9 t0_10 t1_0 t2_0 t3_0 t4_0 t5_0 t6_0 t7_0 lx45 ((t4_0 x3.toNatClampNeg : Int32).toInt64 : Int64)) else (F_DR_remainder_J87 x2 x3 x4 t0_0 t0_1 t0_2 t0_3 t0_4 t0_5 t0_6 t0_7 t0_8 t0_9 t0_10 t1_0 t2_0 t3_0 t4_0 t5_0 t6_0 t7_0 lx45 ((t4_0 x2.toNatClampNeg : Int32).toInt64 : Int64))) else ((lx45, t0_1, t0_2, t0_3, t0_4, t0_5, t0_6, t0_7, t0_8, t0_9, t0_10, t1_0, t2_0, t3_0, t4_0, t5_0, t6_0, t7_0))
def F_DR_remainder_J22 (x2 : Int32) (x3 : Int32) (x4 : Int32) (t0_0 : Int32) (t0_1 : Int32) (t0_2 : Int32) (t0_3 : Int64) (t0_4 : Int32) (t0_5 : Int32) (t0_6 : Int32) (t0_7 : Int32) (t0_8 : Int32) (t0_9 : Int32) (t0_10 : Int32) (t1_0 : (Nat → Int32)) (t2_0 : (Nat → Int32)) (t3_0 : (Nat → Int32)) (t4_0 : (Nat → Int32)) (t5_0 : (Nat → Int32)) (t6_0 : (Nat → Int32)) (t7_0 : (Nat → Int32)) : Int32 × Int32 × Int32 × Int64 × Int32 × Int32 × Int32 × Int32 × Int32 × Int32 × Int32 × (Nat → Int32) × (Nat → Int32) × (Nat → Int32) × (Nat → Int32) × (Nat → Int32) × (Nat → Int32) × (Nat → Int32) := F_DR_remainder_J39 x2 x3 x4 t0_0 t0_1 t0_2 t0_3 t0_4 t0_5 t0_6 t0_7 t0_8 t0_9 t0_10 t1_0 t2_0 t3_0 t4_0 t5_0 t6_0 t7_0 1
def F_DR_remainder (x2 : Int32) (x3 : Int32) (x4 : Int32) (t0_0 : Int32) (t0_1 : Int32) (t0_2 : Int32) (t0_3 : Int64) (t0_4 : Int32) (t0_5 : Int32) (t0_6 : Int32) (t0_7 : Int32) (t0_8 : Int32) (t0_9 : Int32) (t0_10 : Int32) (t1_0 : (Nat → Int32)) (t2_0 : (Nat → Int32)) (t3_0 : (Nat → Int32)) (t4_0 : (Nat → Int32)) (t5_0 : (Nat → Int32)) (t6_0 : (Nat → Int32)) (t7_0 : (Nat → Int32)) : Int32 × Int32 × Int32 × Int64 × Int32 × Int32 × Int32 × Int32 × Int32 × Int32 × Int32 × (Nat → Int32) × (Nat → Int32) × (Nat → Int32) × (Nat → Int32) × (Nat → Int32) × (Nat → Int32) × (Nat → Int32) := if ((F_DR_no x2) : Int32) = (0 : Int32) then (if ((F_DR_no x3) : Int32) = (0 : Int32) then (if ((F_DR_no x4) : Int32) = (0 : Int32) then (if ((F_DR_isZero x3 t0_0 t0_1 t0_2 t0_3 t0_4 t0_5 t0_6 t0_7 t0_8 t0_9 t0_10 t1_0) : Int32) = (0 : Int32) then (F_DR_remainder_J39 x2 x3 x4 t0_0 t0_1 t0_2 t0_3 t0_4 t0_5 t0_6 t0_7 t0_8 t0_9 t0_10 t1_0 t2_0 t3_0 t4_0 t5_0 t6_0 t7_0 0) else (F_DR_remainder_J39 x2 x3 x4 t0_0 t0_1 t0_2 t0_3 t0_4 t0_5 t0_6 t0_7 t0_8 t0_9 t0_10 t1_0 t2_0 t3_0 t4_0 t5_0 t6_0 t7_0 2)) else (F_DR_remainder_J22 x2 x3 x4 t0_0 t0_1 t0_2 t0_3 t0_4 t0_5 t0_6 t0_7 t0_8 t0_9 t0_10 t1_0 t2_0 t3_0 t4_0 t5_0 t6_0 t7_0)) else (F_DR_remainder_J22 x2 x3 x4 t0_0 t0_1 t0_2 t0_3 t0_4 t0_5 t0_6 t0_7 t0_8 t0_9 t0_10 t1_0 t2_0 t3_0 t4_0 t5_0 t6_0 t7_0)) else (F_DR_remainder_J22 x2 x3 x4 t0_0 t0_1 t0_2 t0_3 t0_4 t0_5 t0_6 t0_7 t0_8 t0_9 t0_10 t1_0 t2_0 t3_0 t4_0 t5_0 t6_0 t7_0)
def S_DR_remainder_c144 (x2 : Int32) (x3 : Int32) (x4 : Int32) (t0_0 : Int32) (t0_1 : Int32) (t0_2 : Int32) (t0_3 : Int64) (t0_4 : Int32) (t0_5 : Int32) (t0_6 : Int32) (t0_7 : Int32) (t0_8 : Int32) (t0_9 : Int32) (t0_10 : Int32) (t1_0 : (Nat → Int32)) (t2_0 : (Nat → Int32)) (t3_0 : (Nat → Int32)) (t4_0 : (Nat → Int32)) (t5_0 : (Nat → Int32)) (t6_0 : (Nat → Int32)) (t7_0 : (Nat → Int32)) (lx45 : Int32) (lx76 : Int64) (p157 : (Int32 × Int32 × Int32 × Int64 × Int32 × Int32 × Int32 × Int32 × Int32 × Int32 × Int32 × (Nat → Int32))) (p231 : (Int32 × Int32 × Int32 × Int64 × Int32 × Int32 × Int32 × Int32 × Int32 × Int32 × Int32 × (Nat → Int32) × (Nat → Int32) × (Nat → Int32) × (Nat → Int32) × (Nat → Int32))) : Prop := True
def S_DR_remainder_c144_6 (x2 : Int32) (x3 : Int32) (x4 : Int32) (t0_0 : Int32) (t0_1 : Int32) (t0_2 : Int32) (t0_3 : Int64) (t0_4 : Int32) (t0_5 : Int32) (t0_6 : Int32) (t0_7 : Int32) (t0_8 : Int32) (t0_9 : Int32) (t0_10 : Int32) (t1_0 : (Nat → Int32)) (t2_0 : (Nat → Int32)) (t3_0 : (Nat → Int32)) (t4_0 : (Nat → Int32)) (t5_0 : (Nat → Int32)) (t6_0 : (Nat → Int32)) (t7_0 : (Nat → Int32)) (lx45 : Int32) (lx76 : Int64) (p157 : (Int32 × Int32 × Int32 × Int64 × Int32 × Int32 × Int32 × Int32 × Int32 × Int32 × Int32 × (Nat → Int32))) (p312 : (Int32 × Int32 × Int32 × Int64 × Int32 × Int32 × Int32 × Int32 × Int32 × Int32 × Int32 × (Nat → Int32) × (Nat → Int32) × (Nat → Int32) × (Nat → Int32) × (Nat → Int32))) : Prop := True
def S_DR_remainder_c108 (x2 : Int32) (x3 : Int32) (x4 : Int32) (t0_0 : Int32) (t0_1 : Int32) (t0_2 : Int32) (t0_3 : Int64) (t0_4 : Int32) (t0_5 : Int32) (t0_6 : Int32) (t0_7 : Int32) (t0_8 : Int32) (t0_9 : Int32) (t0_10 : Int32) (t1_0 : (Nat → Int32)) (t2_0 : (Nat → Int32)) (t3_0 : (Nat → Int32)) (t4_0 : (Nat → Int32)) (t5_0 : (Nat → Int32)) (t6_0 : (Nat → Int32)) (t7_0 : (Nat → Int32)) (lx45 : Int32) (lx76 : Int64) (p157 : (Int32 × Int32 × Int32 × Int64 × Int32 × Int32 × Int32 × Int32 × Int32 × Int32 × Int32 × (Nat → Int32))) : Prop := if (lg_cmp (lx76 - (p157.2.2.2.1 : Int64) : Int64) 1000 : Int32) ≤ (0 : Int32) then ((True ∧ S_DR_bring lx76 (1 : Int32) x4 (p157.1 : Int32) (p157.2.1 : Int32) (p157.2.2.1 : Int32) (p157.2.2.2.1 : Int64) (p157.2.2.2.2.1 : Int32) (p157.2.2.2.2.2.1 : Int32) (p157.2.2.2.2.2.2.1 : Int32) (p157.2.2.2.2.2.2.2.1 : Int32) (p157.2.2.2.2.2.2.2.2.1 : Int32) (p157.2.2.2.2.2.2.2.2.2.1 : Int32) (p157.2.2.2.2.2.2.2.2.2.2.1 : Int32) t1_0 t2_0 t3_0 t4_0 (p157.2.2.2.2.2.2.2.2.2.2.2 : (Nat → Int32))) ∧ (S_DR_remainder_c144 x2 x3 x4 t0_0 t0_1 t0_2 t0_3 t0_4 t0_5 t0_6 t0_7 t0_8 t0_9 t0_10 t1_0 t2_0 t3_0 t4_0 t5_0 t6_0 t7_0 lx45 lx76 p157 ((F_DR_bring lx76 (1 : Int32) x4 (p157.1 : Int32) (p157.2.1 : Int32) (p157.2.2.1 : Int32) (p157.2.2.2.1 : Int64) (p157.2.2.2.2.1 : Int32) (p157.2.2.2.2.2.1 : Int32) (p157.2.2.2.2.2.2.1 : Int32) (p157.2.2.2.2.2.2.2.1 : Int32) (p157.2.2.2.2.2.2.2.2.1 : Int32) (p157.2.2.2.2.2.2.2.2.2.1 : Int32) (p157.2.2.2.2.2.2.2.2.2.2.1 : Int32) t1_0 t2_0 t3_0 t4_0 (p157.2.2.2.2.2.2.2.2.2.2.2 : (Nat → Int32))) : (Int32 × Int32 × Int32 × Int64 × Int32 × Int32 × Int32 × Int32 × Int32 × Int32 × Int32 × (Nat → Int32) × (Nat → Int32) × (Nat → Int32) × (Nat → Int32) × (Nat → Int32))))) else ((True ∧ S_DR_isZero x2 (p157.1 : Int32) (p157.2.1 : Int32) (p157.2.2.1 : Int32) (p157.2.2.2.1 : Int64) (p157.2.2.2.2.1 : Int32) (p157.2.2.2.2.2.1 : Int32) (p157.2.2.2.2.2.2.1 : Int32) (p157.2.2.2.2.2.2.2.1 : Int32) (p157.2.2.2.2.2.2.2.2.1 : Int32) (p157.2.2.2.2.2.2.2.2.2.1 : Int32) (p157.2.2.2.2.2.2.2.2.2.2.1 : Int32) t1_0) ∧ (if ((F_DR_isZero x2 (p157.1 : Int32) (p157.2.1 : Int32) (p157.2.2.1 : Int32) (p157.2.2.2.1 : Int64) (p157.2.2.2.2.1 : Int32) (p157.2.2.2.2.2.1 : Int32) (p157.2.2.2.2.2.2.1 : Int32) (p157.2.2.2.2.2.2.2.1 : Int32) (p157.2.2.2.2.2.2.2.2.1 : Int32) (p157.2.2.2.2.2.2.2.2.2.1 : Int32) (p157.2.2.2.2.2.2.2.2.2.2.1 : Int32) t1_0) : Int32) = (0 : Int32) then (True) else ((True ∧ S_DR_bring lx76 (1 : Int32) x4 (p157.1 : Int32) (p157.2.1 : Int32) (p157.2.2.1 : Int32) (p157.2.2.2.1 : Int64) (p157.2.2.2.2.1 : Int32) (p157.2.2.2.2.2.1 : Int32) (p157.2.2.2.2.2.2.1 : Int32) (p157.2.2.2.2.2.2.2.1 : Int32) (p157.2.2.2.2.2.2.2.2.1 : Int32) (p157.2.2.2.2.2.2.2.2.2.1 : Int32) (p157.2.2.2.2.2.2.2.2.2.2.1 : Int32) t1_0 t2_0 t3_0 t4_0 (p157.2.2.2.2.2.2.2.2.2.2.2 : (Nat → Int32))) ∧ (S_DR_remainder_c144_6 x2 x3 x4 t0_0 t0_1 t0_2 t0_3 t0_4 t0_5 t0_6 t0_7 t0_8 t0_9 t0_10 t1_0 t2_0 t3_0 t4_0 t5_0 t6_0 t7_0 lx45 lx76 p157 ((F_DR_bring lx76 (1 : Int32) x4 (p157.1 : Int32) (p157.2.1 : Int32) (p157.2.2.1 : Int32) (p157.2.2.2.1 : Int64) (p157.2.2.2.2.1 : Int32) (p157.2.2.2.2.2.1 : Int32) (p157.2.2.2.2.2.2.1 : Int32) (p157.2.2.2.2.2.2.2.1 : Int32) (p157.2.2.2.2.2.2.2.2.1 : Int32) (p157.2.2.2.2.2.2.2.2.2.1 : Int32) (p157.2.2.2.2.2.2.2.2.2.2.1 : Int32) t1_0 t2_0 t3_0 t4_0 (p157.2.2.2.2.2.2.2.2.2.2.2 : (Nat → Int32))) : (Int32 × Int32 × Int32 × Int64 × Int32 × Int32 × Int32 × Int32 × Int32 × Int32 × Int32 × (Nat → Int32) × (Nat → Int32) × (Nat → Int32) × (Nat → Int32) × (Nat → Int32)))))))
def S_DR_remainder_J106 (x2 : Int32) (x3 : Int32) (x4 : Int32) (t0_0 : Int32) (t0_1 : Int32) (t0_2 : Int32) (t0_3 : Int64) (t0_4 : Int32) (t0_5 : Int32) (t0_6 : Int32) (t0_7 : Int32) (t0_8 : Int32) (t0_9 : Int32) (t0_10 : Int32) (t1_0 : (Nat → Int32)) (t2_0 : (Nat → Int32)) (t3_0 : (Nat → Int32)) (t4_0 : (Nat → Int32)) (t5_0 : (Nat → Int32)) (t6_0 : (Nat → Int32)) (t7_0 : (Nat → Int32)) (lx45 : Int32) (lx76 : Int64) : Prop := (True ∧ S_DR_load x2 lx45 t0_1 t0_2 t0_3 t0_4 t0_5 t0_6 t0_7 t0_8 t0_9 (2 : Int32) t1_0 t2_0 t3_0 t4_0 t5_0) ∧ (S_DR_remainder_c108 x2 x3 x4 t0_0 t0_1 t0_2 t0_3 t0_4 t0_5 t0_6 t0_7 t0_8 t0_9 t0_10 t1_0 t2_0 t3_0 t4_0 t5_0 t6_0 t7_0 lx45 lx76 ((F_DR_load x2 lx45 t0_1 t0_2 t0_3 t0_4 t0_5 t0_6 t0_7 t0_8 t0_9 (2 : Int32) t1_0 t2_0 t3_0 t4_0 t5_0) : (Int32 × Int32 × Int32 × Int64 × Int32 × Int32 × Int32 × Int32 × Int32 × Int32 × Int32 × (Nat → Int32))))
def S_DR_remainder_c318 (K_S_DR_remainder_L203 : Int64 → (Nat → Int32) → Prop) (K_S_DR_remainder_L270 : Int32 → (Nat → Int32) → Prop) (x2 : Int32) (x3 : Int32) (x4 : Int32) (t0_0 : Int32) (t0_1 : Int32) (t0_2 : Int32) (t0_3 : Int64) (t0_4 : Int32) (t0_5 : Int32) (t0_6 : Int32) (t0_7 : Int32) (t0_8 : Int32) (t0_9 : Int32) (t0_10 : Int32) (t1_0 : (Nat → Int32)) (t2_0 : (Nat → Int32)) (t3_0 : (Nat → Int32)) (t4_0 : (Nat → Int32)) (t5_0 : (Nat → Int32)) (t6_0 : (Nat → Int32)) (t7_0 : (Nat → Int32)) (lx45 : Int32) (lx76 : Int64) (a363 : Int32) (j360 : Int64) (p416 : (Int32 × Int32 × Int32 × Int64 × Int32 × Int32 × Int32 × Int32 × Int32 × Int32 × Int32 × (Nat → Int32))) (f382 : (Nat → Int32)) (p477 : (Int32 × Int32 × Int32 × Int64 × Int32 × Int32 × Int32 × Int32 × Int32 × Int32 × Int32 × (Nat → Int32))) (j509 : Int64) (y439 : Int32) (y440 : Int32) (y441 : Int32) (y442 : Int64) (y443 : Int32) (y444 : Int32) (y445 : Int32) (y446 : Int32) (y447 : Int32) (y448 : Int32) (y449 : Int32) (lx513 : Int64) (lx514 : (Nat → Int32)) (a536 : Int32) (lx542 : Int32) (lx543 : (Nat → Int32)) (p620 : (Int32 × Int32 × Int32 × Int64 × Int32 × Int32 × Int32 × Int32 × Int32 × Int32 × Int32 × (Nat → Int32) × (Nat → Int32) × (Nat → Int32) × (Nat → Int32) × (Nat → Int32))) : Prop := True
def S_DR_remainder_L270 (K_S_DR_remainder_L203 : Int64 → (Nat → Int32) → Prop) (x2 : Int32) (x3 : Int32) (x4 : Int32) (t0_0 : Int32) (t0_1 : Int32) (t0_2 : Int32) (t0_3 : Int64) (t0_4 : Int32) (t0_5 : Int32) (t0_6 : Int32) (t0_7 : Int32) (t0_8 : Int32) (t0_9 : Int32) (t0_10 : Int32) (t1_0 : (Nat → Int32)) (t2_0 : (Nat → Int32)) (t3_0 : (Nat → Int32)) (t4_0 : (Nat → Int32)) (t5_0 : (Nat → Int32)) (t6_0 : (Nat → Int32)) (t7_0 : (Nat → Int32)) (lx45 : Int32) (lx76 : Int64) (a363 : Int32) (j360 : Int64) (p416 : (Int32 × Int32 × Int32 × Int64 × Int32 × Int32 × Int32 × Int32 × Int32 × Int32 × Int32 × (Nat → Int32))) (f382 : (Nat → Int32)) (p477 : (Int32 × Int32 × Int32 × Int64 × Int32 × Int32 × Int32 × Int32 × Int32 × Int32 × Int32 × (Nat → Int32))) (j509 : Int64) (y439 : Int32) (y440 : Int32) (y441 : Int32) (y442 : Int64) (y443 : Int32) (y444 : Int32) (y445 : Int32) (y446 : Int32) (y447 : Int32) (y448 : Int32) (y449 : Int32) (lx513 : Int64) (lx514 : (Nat → Int32)) (a536 : Int32) : Nat → Int32 → (Nat → Int32) → Prop
  | 0, _, _ => False
  | fm + 1, lx542, lx543 => if a536 ≤ lx542 then ((0 ≤ a363.toInt) ∧ ((a363.toInt ≤ 1) ∧ ((True ∧ S_DR_store x4 y439 y440 a536 lx76 (0 : Int32) a363 y445 y446 y447 y448 y449 t1_0 t2_0 t3_0 t4_0 lx543) ∧ (S_DR_remainder_c318 K_S_DR_remainder_L203 (S_DR_remainder_L270 K_S_DR_remainder_L203 x2 x3 x4 t0_0 t0_1 t0_2 t0_3 t0_4 t0_5 t0_6 t0_7 t0_8 t0_9 t0_10 t1_0 t2_0 t3_0 t4_0 t5_0 t6_0 t7_0 lx45 lx76 a363 j360 p416 f382 p477 j509 y439 y440 y441 y442 y443 y444 y445 y446 y447 y448 y449 lx513 lx514 a536 fm) x2 x3 x4 t0_0 t0_1 t0_2 t0_3 t0_4 t0_5 t0_6 t0_7 t0_8 t0_9 t0_10 t1_0 t2_0 t3_0 t4_0 t5_0 t6_0 t7_0 lx45 lx76 a363 j360 p416 f382 p477 j509 y439 y440 y441 y442 y443 y444 y445 y446 y447 y448 y449 lx513 lx514 a536 lx542 lx543 ((F_DR_store x4 y439 y440 a536 lx76 (0 : Int32) a363 y445 y446 y447 y448 y449 t1_0 t2_0 t3_0 t4_0 lx543) : (Int32 × Int32 × Int32 × Int64 × Int32 × Int32 × Int32 × Int32 × Int32 × Int32 × Int32 × (Nat → Int32) × (Nat → Int32) × (Nat → Int32) × (Nat → Int32) × (Nat → Int32))))))) else ((lx542.toInt ≤ 2201) ∧ (S_DR_remainder_L270 K_S_DR_remainder_L203 x2 x3 x4 t0_0 t0_1 t0_2 t0_3 t0_4 t0_5 t0_6 t0_7 t0_8 t0_9 t0_10 t1_0 t2_0 t3_0 t4_0 t5_0 t6_0 t7_0 lx45 lx76 a363 j360 p416 f382 p477 j509 y439 y440 y441 y442 y443 y444 y445 y446 y447 y448 y449 lx513 lx514 a536 fm (lx542 + 1 : Int32) (upd lx543 lx542.toNatClampNeg (lx514 lx542.toNatClampNeg : Int32) : (Nat → Int32))))
def S_DR_remainder_c243 (K_S_DR_remainder_L203 : Int64 → (Nat → Int32) → Prop) (x2 : Int32) (x3 : Int32) (x4 : Int32) (t0_0 : Int32) (t0_1 : Int32) (t0_2 : Int32) (t0_3 : Int64) (t0_4 : Int32) (t0_5 : Int32) (t0_6 : Int32) (t0_7 : Int32) (t0_8 : Int32) (t0_9 : Int32) (t0_10 : Int32) (t1_0 : (Nat → Int32)) (t2_0 : (Nat → Int32)) (t3_0 : (Nat → Int32)) (t4_0 : (Nat → Int32)) (t5_0 : (Nat → Int32)) (t6_0 : (Nat → Int32)) (t7_0 : (Nat → Int32)) (lx45 : Int32) (lx76 : Int64) (a363 : Int32) (j360 : Int64) (p416 : (Int32 × Int32 × Int32 × Int64 × Int32 × Int32 × Int32 × Int32 × Int32 × Int32 × Int32 × (Nat → Int32))) (f382 : (Nat → Int32)) (p477 : (Int32 × Int32 × Int32 × Int64 × Int32 × Int32 × Int32 × Int32 × Int32 × Int32 × Int32 × (Nat → Int32))) (j509 : Int64) (y439 : Int32) (y440 : Int32) (y441 : Int32) (y442 : Int64) (y443 : Int32) (y444 : Int32) (y445 : Int32) (y446 : Int32) (y447 : Int32) (y448 : Int32) (y449 : Int32) (lx513 : Int64) (lx514 : (Nat → Int32)) (p673 : (Int32 × (Nat → Int32))) : Prop := K_S_DR_remainder_L203 (lx513 + 1 : Int64) (p673.2 : (Nat → Int32))
def S_DR_remainder_c243_13 (K_S_DR_remainder_L203 : Int64 → (Nat → Int32) → Prop) (x2 : Int32) (x3 : Int32) (x4 : Int32) (t0_0 : Int32) (t0_1 : Int32) (t0_2 : Int32) (t0_3 : Int64) (t0_4 : Int32) (t0_5 : Int32) (t0_6 : Int32) (t0_7 : Int32) (t0_8 : Int32) (t0_9 : Int32) (t0_10 : Int32) (t1_0 : (Nat → Int32)) (t2_0 : (Nat → Int32)) (t3_0 : (Nat → Int32)) (t4_0 : (Nat → Int32)) (t5_0 : (Nat → Int32)) (t6_0 : (Nat → Int32)) (t7_0 : (Nat → Int32)) (lx45 : Int32) (lx76 : Int64) (a363 : Int32) (j360 : Int64) (p416 : (Int32 × Int32 × Int32 × Int64 × Int32 × Int32 × Int32 × Int32 × Int32 × Int32 × Int32 × (Nat → Int32))) (f382 : (Nat → Int32)) (p477 : (Int32 × Int32 × Int32 × Int64 × Int32 × Int32 × Int32 × Int32 × Int32 × Int32 × Int32 × (Nat → Int32))) (j509 : Int64) (y439 : Int32) (y440 : Int32) (y441 : Int32) (y442 : Int64) (y443 : Int32) (y444 : Int32) (y445 : Int32) (y446 : Int32) (y447 : Int32) (y448 : Int32) (y449 : Int32) (lx513 : Int64) (lx514 : (Nat → Int32)) (p706 : (Int32 × (Nat → Int32))) : Prop := K_S_DR_remainder_L203 (lx513 + 1 : Int64) (p706.2 : (Nat → Int32))
def S_DR_remainder_L203 (x2 : Int32) (x3 : Int32) (x4 : Int32) (t0_0 : Int32) (t0_1 : Int32) (t0_2 : Int32) (t0_3 : Int64) (t0_4 : Int32) (t0_5 : Int32) (t0_6 : Int32) (t0_7 : Int32) (t0_8 : Int32) (t0_9 : Int32) (t0_10 : Int32) (t1_0 : (Nat → Int32)) (t2_0 : (Nat → Int32)) (t3_0 : (Nat → Int32)) (t4_0 : (Nat → Int32)) (t5_0 : (Nat → Int32)) (t6_0 : (Nat → Int32)) (t7_0 : (Nat → Int32)) (lx45 : Int32) (lx76 : Int64) (a363 : Int32) (j360 : Int64) (p416 : (Int32 × Int32 × Int32 × Int64 × Int32 × Int32 × Int32 × Int32 × Int32 × Int32 × Int32 × (Nat → Int32))) (f382 : (Nat → Int32)) (p477 : (Int32 × Int32 × Int32 × Int64 × Int32 × Int32 × Int32 × Int32 × Int32 × Int32 × Int32 × (Nat → Int32))) (j509 : Int64) (y439 : Int32) (y440 : Int32) (y441 : Int32) (y442 : Int64) (y443 : Int32) (y444 : Int32) (y445 : Int32) (y446 : Int32) (y447 : Int32) (y448 : Int32) (y449 : Int32) : Nat → Int64 → (Nat → Int32) → Prop
  | 0, _, _ => False
  | fm + 1, lx513, lx514 => if (0 : Int32) ≤ (lg_cmp lx513 j509 : Int32) then (S_DR_remainder_L270 (S_DR_remainder_L203 x2 x3 x4 t0_0 t0_1 t0_2 t0_3 t0_4 t0_5 t0_6 t0_7 t0_8 t0_9 t0_10 t1_0 t2_0 t3_0 t4_0 t5_0 t6_0 t7_0 lx45 lx76 a363 j360 p416 f382 p477 j509 y439 y440 y441 y442 y443 y444 y445 y446 y447 y448 y449 fm) x2 x3 x4 t0_0 t0_1 t0_2 t0_3 t0_4 t0_5 t0_6 t0_7 t0_8 t0_9 t0_10 t1_0 t2_0 t3_0 t4_0 t5_0 t6_0 t7_0 lx45 lx76 a363 j360 p416 f382 p477 j509 y439 y440 y441 y442 y443 y444 y445 y446 y447 y448 y449 lx513 lx514 (y446 + 1 : Int32) ((4099 - (0 : Int32).toInt).toNat + 1) 0 t5_0) else (if (0 : Int32) ≤ (lg_cmp lx513 ((t2_0 x2.toNatClampNeg : Int32).toInt64 : Int64) : Int32) then ((True ∧ S_DR_nextFigure (0 : Int32) y439 y440 y441 y442 y443 y444 y445 y446 y447 y448 y449 f382 lx514) ∧ (S_DR_remainder_c243 (S_DR_remainder_L203 x2 x3 x4 t0_0 t0_1 t0_2 t0_3 t0_4 t0_5 t0_6 t0_7 t0_8 t0_9 t0_10 t1_0 t2_0 t3_0 t4_0 t5_0 t6_0 t7_0 lx45 lx76 a363 j360 p416 f382 p477 j509 y439 y440 y441 y442 y443 y444 y445 y446 y447 y448 y449 fm) x2 x3 x4 t0_0 t0_1 t0_2 t0_3 t0_4 t0_5 t0_6 t0_7 t0_8 t0_9 t0_10 t1_0 t2_0 t3_0 t4_0 t5_0 t6_0 t7_0 lx45 lx76 a363 j360 p416 f382 p477 j509 y439 y440 y441 y442 y443 y444 y445 y446 y447 y448 y449 lx513 lx514 ((F_DR_nextFigure (0 : Int32) y439 y440 y441 y442 y443 y444 y445 y446 y447 y448 y449 f382 lx514) : (Int32 × (Nat → Int32))))) else ((0 ≤ ((1000 * x2 : Int32) + (lx513.toInt32 : Int32) : Int32).toInt) ∧ ((((1000 * x2 : Int32) + (lx513.toInt32 : Int32) : Int32).toInt ≤ 9999) ∧ ((True ∧ S_DR_nextFigure (t1_0 ((1000 * x2 : Int32) + (lx513.toInt32 : Int32) : Int32).toNatClampNeg : Int32) y439 y440 y441 y442 y443 y444 y445 y446 y447 y448 y449 f382 lx514) ∧ (S_DR_remainder_c243_13 (S_DR_remainder_L203 x2 x3 x4 t0_0 t0_1 t0_2 t0_3 t0_4 t0_5 t0_6 t0_7 t0_8 t0_9 t0_10 t1_0 t2_0 t3_0 t4_0 t5_0 t6_0 t7_0 lx45 lx76 a363 j360 p416 f382 p477 j509 y439 y440 y441 y442 y443 y444 y445 y446 y447 y448 y449 fm) x2 x3 x4 t0_0 t0_1 t0_2 t0_3 t0_4 t0_5 t0_6 t0_7 t0_8 t0_9 t0_10 t1_0 t2_0 t3_0 t4_0 t5_0 t6_0 t7_0 lx45 lx76 a363 j360 p416 f382 p477 j509 y439 y440 y441 y442 y443 y444 y445 y446 y447 y448 y449 lx513 lx514 ((F_DR_nextFigure (t1_0 ((1000 * x2 : Int32) + (lx513.toInt32 : Int32) : Int32).toNatClampNeg : Int32) y439 y440 y441 y442 y443 y444 y445 y446 y447 y448 y449 f382 lx514) : (Int32 × (Nat → Int32))))))))
def S_DR_remainder_c177 (x2 : Int32) (x3 : Int32) (x4 : Int32) (t0_0 : Int32) (t0_1 : Int32) (t0_2 : Int32) (t0_3 : Int64) (t0_4 : Int32) (t0_5 : Int32) (t0_6 : Int32) (t0_7 : Int32) (t0_8 : Int32) (t0_9 : Int32) (t0_10 : Int32) (t1_0 : (Nat → Int32)) (t2_0 : (Nat → Int32)) (t3_0 : (Nat → Int32)) (t4_0 : (Nat → Int32)) (t5_0 : (Nat → Int32)) (t6_0 : (Nat → Int32)) (t7_0 : (Nat → Int32)) (lx45 : Int32) (lx76 : Int64) (a363 : Int32) (j360 : Int64) (p416 : (Int32 × Int32 × Int32 × Int64 × Int32 × Int32 × Int32 × Int32 × Int32 × Int32 × Int32 × (Nat → Int32))) (f382 : (Nat → Int32)) (p477 : (Int32 × Int32 × Int32 × Int64 × Int32 × Int32 × Int32 × Int32 × Int32 × Int32 × Int32 × (Nat → Int32))) : Prop := S_DR_remainder_L203 x2 x3 x4 t0_0 t0_1 t0_2 t0_3 t0_4 t0_5 t0_6 t0_7 t0_8 t0_9 t0_10 t1_0 t2_0 t3_0 t4_0 t5_0 t6_0 t7_0 lx45 lx76 a363 j360 p416 f382 p477 ((((t2_0 x2.toNatClampNeg : Int32).toInt64 : Int64) + lx76 : Int64) - ((t4_0 x2.toNatClampNeg : Int32).toInt64 : Int64) : Int64) (p477.1 : Int32) (p477.2.1 : Int32) (p477.2.2.1 : Int32) (p477.2.2.2.1 : Int64) (p477.2.2.2.2.1 : Int32) (p477.2.2.2.2.2.1 : Int32) (p477.2.2.2.2.2.2.1 : Int32) (p477.2.2.2.2.2.2.2.1 : Int32) (p477.2.2.2.2.2.2.2.2.1 : Int32) (p477.2.2.2.2.2.2.2.2.2.1 : Int32) (p477.2.2.2.2.2.2.2.2.2.2.1 : Int32) ((((((t2_0 x2.toNatClampNeg : Int32).toInt64 : Int64) + lx76 : Int64) - ((t4_0 x2.toNatClampNeg : Int32).toInt64 : Int64) : Int64).toInt - (0 : Int64).toInt).toNat + 1) 0 (p477.2.2.2.2.2.2.2.2.2.2.2 : (Nat → Int32))
def S_DR_remainder_c173 (x2 : Int32) (x3 : Int32) (x4 : Int32) (t0_0 : Int32) (t0_1 : Int32) (t0_2 : Int32) (t0_3 : Int64) (t0_4 : Int32) (t0_5 : Int32) (t0_6 : Int32) (t0_7 : Int32) (t0_8 : Int32) (t0_9 : Int32) (t0_10 : Int32) (t1_0 : (Nat → Int32)) (t2_0 : (Nat → Int32)) (t3_0 : (Nat → Int32)) (t4_0 : (Nat → Int32)) (t5_0 : (Nat → Int32)) (t6_0 : (Nat → Int32)) (t7_0 : (Nat → Int32)) (lx45 : Int32) (lx76 : Int64) (a363 : Int32) (j360 : Int64) (p416 : (Int32 × Int32 × Int32 × Int64 × Int32 × Int32 × Int32 × Int32 × Int32 × Int32 × Int32 × (Nat → Int32))) : Prop := (True ∧ S_DR_beginQuotient (p416.1 : Int32) (p416.2.1 : Int32) (p416.2.2.1 : Int32) (p416.2.2.2.1 : Int64) (p416.2.2.2.2.1 : Int32) (p416.2.2.2.2.2.1 : Int32) (p416.2.2.2.2.2.2.1 : Int32) (p416.2.2.2.2.2.2.2.1 : Int32) (p416.2.2.2.2.2.2.2.2.1 : Int32) (p416.2.2.2.2.2.2.2.2.2.1 : Int32) (p416.2.2.2.2.2.2.2.2.2.2.1 : Int32) t7_0) ∧ (S_DR_remainder_c177 x2 x3 x4 t0_0 t0_1 t0_2 t0_3 t0_4 t0_5 t0_6 t0_7 t0_8 t0_9 t0_10 t1_0 t2_0 t3_0 t4_0 t5_0 t6_0 t7_0 lx45 lx76 a363 j360 p416 (p416.2.2.2.2.2.2.2.2.2.2.2 : (Nat → Int32)) ((F_DR_beginQuotient (p416.1 : Int32) (p416.2.1 : Int32) (p416.2.2.1 : Int32) (p416.2.2.2.1 : Int64) (p416.2.2.2.2.1 : Int32) (p416.2.2.2.2.2.1 : Int32) (p416.2.2.2.2.2.2.1 : Int32) (p416.2.2.2.2.2.2.2.1 : Int32) (p416.2.2.2.2.2.2.2.2.1 : Int32) (p416.2.2.2.2.2.2.2.2.2.1 : Int32) (p416.2.2.2.2.2.2.2.2.2.2.1 : Int32) t7_0) : (Int32 × Int32 × Int32 × Int64 × Int32 × Int32 × Int32 × Int32 × Int32 × Int32 × Int32 × (Nat → Int32))))
def S_DR_remainder_J87 (x2 : Int32) (x3 : Int32) (x4 : Int32) (t0_0 : Int32) (t0_1 : Int32) (t0_2 : Int32) (t0_3 : Int64) (t0_4 : Int32) (t0_5 : Int32) (t0_6 : Int32) (t0_7 : Int32) (t0_8 : Int32) (t0_9 : Int32) (t0_10 : Int32) (t1_0 : (Nat → Int32)) (t2_0 : (Nat → Int32)) (t3_0 : (Nat → Int32)) (t4_0 : (Nat → Int32)) (t5_0 : (Nat → Int32)) (t6_0 : (Nat → Int32)) (t7_0 : (Nat → Int32)) (lx45 : Int32) (lx76 : Int64) : Prop := (True ∧ S_DR_isZero x2 lx45 t0_1 t0_2 t0_3 t0_4 t0_5 t0_6 t0_7 t0_8 t0_9 (2 : Int32) t1_0) ∧ (if ((F_DR_isZero x2 lx45 t0_1 t0_2 t0_3 t0_4 t0_5 t0_6 t0_7 t0_8 t0_9 (2 : Int32) t1_0) : Int32) = (0 : Int32) then ((True ∧ S_DR_compareSizes x2 x3 lx45 t0_1 t0_2 t0_3 t0_4 t0_5 t0_6 t0_7 t0_8 t0_9 (2 : Int32) t1_0 t2_0 t4_0) ∧ (if (0 : Int32) ≤ ((F_DR_compareSizes x2 x3 lx45 t0_1 t0_2 t0_3 t0_4 t0_5 t0_6 t0_7 t0_8 t0_9 (2 : Int32) t1_0 t2_0 t4_0) : Int32) then ((True ∧ S_DR_loadUnder x3 ((lx76 - ((t4_0 x3.toNatClampNeg : Int32).toInt64 : Int64) : Int64).toInt32 : Int32) lx45 t0_1 t0_2 t0_3 t0_4 t0_5 t0_6 t0_7 t0_8 t0_9 (2 : Int32) t1_0 t2_0 t6_0) ∧ (S_DR_remainder_c173 x2 x3 x4 t0_0 t0_1 t0_2 t0_3 t0_4 t0_5 t0_6 t0_7 t0_8 t0_9 t0_10 t1_0 t2_0 t3_0 t4_0 t5_0 t6_0 t7_0 lx45 lx76 (t3_0 x2.toNatClampNeg : Int32) (lx76 - ((t4_0 x3.toNatClampNeg : Int32).toInt64 : Int64) : Int64) ((F_DR_loadUnder x3 ((lx76 - ((t4_0 x3.toNatClampNeg : Int32).toInt64 : Int64) : Int64).toInt32 : Int32) lx45 t0_1 t0_2 t0_3 t0_4 t0_5 t0_6 t0_7 t0_8 t0_9 (2 : Int32) t1_0 t2_0 t6_0) : (Int32 × Int32 × Int32 × Int64 × Int32 × Int32 × Int32 × Int32 × Int32 × Int32 × Int32 × (Nat → Int32))))) else (S_DR_remainder_J106 x2 x3 x4 t0_0 t0_1 t0_2 t0_3 t0_4 t0_5 t0_6 t0_7 t0_8 t0_9 t0_10 t1_0 t2_0 t3_0 t4_0 t5_0 t6_0 t7_0 lx45 lx76))) else (S_DR_remainder_J106 x2 x3 x4 t0_0 t0_1 t0_2 t0_3 t0_4 t0_5 t0_6 t0_7 t0_8 t0_9 t0_10 t1_0 t2_0 t3_0 t4_0 t5_0 t6_0 t7_0 lx45 lx76))
def S_DR_remainder_J39 (x2 : Int32) (x3 : Int32) (x4 : Int32) (t0_0 : Int32) (t0_1 : Int32) (t0_2 : Int32) (t0_3 : Int64) (t0_4 : Int32) (t0_5 : Int32) (t0_6 : Int32) (t0_7 : Int32) (t0_8 : Int32) (t0_9 : Int32) (t0_10 : Int32) (t1_0 : (Nat → Int32)) (t2_0 : (Nat → Int32)) (t3_0 : (Nat → Int32)) (t4_0 : (Nat → Int32)) (t5_0 : (Nat → Int32)) (t6_0 : (Nat → Int32)) (t7_0 : (Nat → Int32)) (lx45 : Int32) : Prop := if lx45 ≤ (0 : Int32) then ((0 ≤ x2.toInt) ∧ ((x2.toInt ≤ 9) ∧ ((0 ≤ x3.toInt) ∧ ((x3.toInt ≤ 9) ∧ (if (t4_0 x2.toNatClampNeg : Int32) ≤ (t4_0 x3.toNatClampNeg : Int32) then (S_DR_remainder_J87 x2 x3 x4 t0_0 t0_1 t0_2 t0_3 t0_4 t0_5 t0_6 t0_7 t0_8 t0_9 t0_10 t1_0 t2_0 t3_0 t4_0 t5_0 t6_0 t7_0 lx45 ((t4_0 x3.toNatClampNeg : Int32).toInt64 : Int64)) else (S_DR_remainder_J87 x2 x3 x4 t0_0 t0_1 t0_2 t0_3 t0_4 t0_5 t0_6 t0_7 t0_8 t0_9 t0_10 t1_0 t2_0 t3_0 t4_0 t5_0 t6_0 t7_0 lx45 ((t4_0 x2.toNatClampNeg : Int32).toInt64 : Int64))))))) else (True)
def S_DR_remainder_J22 (x2 : Int32) (x3 : Int32) (x4 : Int32) (t0_0 : Int32) (t0_1 : Int32) (t0_2 : Int32) (t0_3 : Int64) (t0_4 : Int32) (t0_5 : Int32) (t0_6 : Int32) (t0_7 : Int32) (t0_8 : Int32) (t0_9 : Int32) (t0_10 : Int32) (t1_0 : (Nat → Int32)) (t2_0 : (Nat → Int32)) (t3_0 : (Nat → Int32)) (t4_0 : (Nat → Int32)) (t5_0 : (Nat → Int32)) (t6_0 : (Nat → Int32)) (t7_0 : (Nat → Int32)) : Prop := S_DR_remainder_J39 x2 x3 x4 t0_0 t0_1 t0_2 t0_3 t0_4 t0_5 t0_6 t0_7 t0_8 t0_9 t0_10 t1_0 t2_0 t3_0 t4_0 t5_0 t6_0 t7_0 1
def S_DR_remainder (x2 : Int32) (x3 : Int32) (x4 : Int32) (t0_0 : Int32) (t0_1 : Int32) (t0_2 : Int32) (t0_3 : Int64) (t0_4 : Int32) (t0_5 : Int32) (t0_6 : Int32) (t0_7 : Int32) (t0_8 : Int32) (t0_9 : Int32) (t0_10 : Int32) (t1_0 : (Nat → Int32)) (t2_0 : (Nat → Int32)) (t3_0 : (Nat → Int32)) (t4_0 : (Nat → Int32)) (t5_0 : (Nat → Int32)) (t6_0 : (Nat → Int32)) (t7_0 : (Nat → Int32)) : Prop := if ((F_DR_no x2) : Int32) = (0 : Int32) then (if ((F_DR_no x3) : Int32) = (0 : Int32) then (if ((F_DR_no x4) : Int32) = (0 : Int32) then ((True ∧ S_DR_isZero x3 t0_0 t0_1 t0_2 t0_3 t0_4 t0_5 t0_6 t0_7 t0_8 t0_9 t0_10 t1_0) ∧ (if ((F_DR_isZero x3 t0_0 t0_1 t0_2 t0_3 t0_4 t0_5 t0_6 t0_7 t0_8 t0_9 t0_10 t1_0) : Int32) = (0 : Int32) then (S_DR_remainder_J39 x2 x3 x4 t0_0 t0_1 t0_2 t0_3 t0_4 t0_5 t0_6 t0_7 t0_8 t0_9 t0_10 t1_0 t2_0 t3_0 t4_0 t5_0 t6_0 t7_0 0) else (S_DR_remainder_J39 x2 x3 x4 t0_0 t0_1 t0_2 t0_3 t0_4 t0_5 t0_6 t0_7 t0_8 t0_9 t0_10 t1_0 t2_0 t3_0 t4_0 t5_0 t6_0 t7_0 2))) else (S_DR_remainder_J22 x2 x3 x4 t0_0 t0_1 t0_2 t0_3 t0_4 t0_5 t0_6 t0_7 t0_8 t0_9 t0_10 t1_0 t2_0 t3_0 t4_0 t5_0 t6_0 t7_0)) else (S_DR_remainder_J22 x2 x3 x4 t0_0 t0_1 t0_2 t0_3 t0_4 t0_5 t0_6 t0_7 t0_8 t0_9 t0_10 t1_0 t2_0 t3_0 t4_0 t5_0 t6_0 t7_0)) else (S_DR_remainder_J22 x2 x3 x4 t0_0 t0_1 t0_2 t0_3 t0_4 t0_5 t0_6 t0_7 t0_8 t0_9 t0_10 t1_0 t2_0 t3_0 t4_0 t5_0 t6_0 t7_0)
set_option maxRecDepth 100000 in
set_option maxHeartbeats 4000000 in
theorem X_DR_remainder (l : Launch) (D : va_G) (g : Nat → ClassId) (q : Nat → Nat) (ws : va_W) (x2 : Int32) (x3 : Int32) (x4 : Int32) (hI : q_I (msh g q) q ws) (t0_0 : Int32) (t0_1 : Int32) (t0_2 : Int32) (t0_3 : Int64) (t0_4 : Int32) (t0_5 : Int32) (t0_6 : Int32) (t0_7 : Int32) (t0_8 : Int32) (t0_9 : Int32) (t0_10 : Int32) (hT0 : ws[134]? = (some (q 134, .inr (14, [.int t0_0, .ref (q 135), .int t0_1, .ref (q 136), .ref (q 137), .ref (q 138), .ref (q 139), .ref (q 140), .int t0_2, .long t0_3, .int t0_4, .int t0_5, .ref (q 141), .int t0_6, .ref (q 142), .int t0_7, .ref (q 143), .int t0_8, .ref (q 144), .int t0_9, .int t0_10])) : Option (Nat × va_E))) (t1_0 : (Nat → Int32)) (hT1 : ws[136]? = (some (q 136, .inl (g 0, (10000 : Int32).toNatClampNeg, .inl t1_0)) : Option (Nat × va_E))) (t2_0 : (Nat → Int32)) (hT2 : ws[137]? = (some (q 137, .inl (g 0, (10 : Int32).toNatClampNeg, .inl t2_0)) : Option (Nat × va_E))) (t3_0 : (Nat → Int32)) (hT3 : ws[138]? = (some (q 138, .inl (g 3, 10, .inl t3_0)) : Option (Nat × va_E))) (t4_0 : (Nat → Int32)) (hT4 : ws[139]? = (some (q 139, .inl (g 0, (10 : Int32).toNatClampNeg, .inl t4_0)) : Option (Nat × va_E))) (t5_0 : (Nat → Int32)) (hT5 : ws[140]? = (some (q 140, .inl (g 0, (4400 : Int32).toNatClampNeg, .inl t5_0)) : Option (Nat × va_E))) (t6_0 : (Nat → Int32)) (hT6 : ws[142]? = (some (q 142, .inl (g 0, (2200 : Int32).toNatClampNeg, .inl t6_0)) : Option (Nat × va_E))) (t7_0 : (Nat → Int32)) (hT7 : ws[143]? = (some (q 143, .inl (g 0, (2202 : Int32).toNatClampNeg, .inl t7_0)) : Option (Nat × va_E))) (hS : True ∧ S_DR_remainder x2 x3 x4 t0_0 t0_1 t0_2 t0_3 t0_4 t0_5 t0_6 t0_7 t0_8 t0_9 t0_10 t1_0 t2_0 t3_0 t4_0 t5_0 t6_0 t7_0) : q_mV l y_DR_remainder prog_15_method_39_code 14 5 0 0 D g [.ref (q 134), .int x2, .int x3, .int x4] ws (fun u => q_I (msh g q) q u ∧ q_un ws u [134, 136, 137, 138, 139, 140, 142, 143] ∧ ∃ (u0_0 : Int32) (u0_1 : Int32) (u0_2 : Int32) (u0_3 : Int64) (u0_4 : Int32) (u0_5 : Int32) (u0_6 : Int32) (u0_7 : Int32) (u0_8 : Int32) (u0_9 : Int32) (u0_10 : Int32) (u1_0 : (Nat → Int32)) (u2_0 : (Nat → Int32)) (u3_0 : (Nat → Int32)) (u4_0 : (Nat → Int32)) (u5_0 : (Nat → Int32)) (u6_0 : (Nat → Int32)) (u7_0 : (Nat → Int32)), u[134]? = (some (q 134, .inr (14, [.int u0_0, .ref (q 135), .int u0_1, .ref (q 136), .ref (q 137), .ref (q 138), .ref (q 139), .ref (q 140), .int u0_2, .long u0_3, .int u0_4, .int u0_5, .ref (q 141), .int u0_6, .ref (q 142), .int u0_7, .ref (q 143), .int u0_8, .ref (q 144), .int u0_9, .int u0_10])) : Option (Nat × va_E)) ∧ u[136]? = (some (q 136, .inl (g 0, (10000 : Int32).toNatClampNeg, .inl u1_0)) : Option (Nat × va_E)) ∧ u[137]? = (some (q 137, .inl (g 0, (10 : Int32).toNatClampNeg, .inl u2_0)) : Option (Nat × va_E)) ∧ u[138]? = (some (q 138, .inl (g 3, 10, .inl u3_0)) : Option (Nat × va_E)) ∧ u[139]? = (some (q 139, .inl (g 0, (10 : Int32).toNatClampNeg, .inl u4_0)) : Option (Nat × va_E)) ∧ u[140]? = (some (q 140, .inl (g 0, (4400 : Int32).toNatClampNeg, .inl u5_0)) : Option (Nat × va_E)) ∧ u[142]? = (some (q 142, .inl (g 0, (2200 : Int32).toNatClampNeg, .inl u6_0)) : Option (Nat × va_E)) ∧ u[143]? = (some (q 143, .inl (g 0, (2202 : Int32).toNatClampNeg, .inl u7_0)) : Option (Nat × va_E)) ∧ (0 ≤ u0_4.toInt + 1) ∧ (0 ≤ u0_5.toInt) ∧ (u0_5.toInt ≤ 1) ∧ (t0_1.toInt ≤ u0_1.toInt) ∧ (u0_1.toInt ≤ t0_1.toInt) ∧ (u0_4.toInt ≤ t0_4.toInt) ∧ (t0_6.toInt ≤ u0_6.toInt) ∧ (u0_6.toInt ≤ t0_6.toInt) ∧ (t0_8.toInt ≤ u0_8.toInt) ∧ (u0_8.toInt ≤ t0_8.toInt) ∧ (t0_9.toInt ≤ u0_9.toInt) ∧ (u0_9.toInt ≤ t0_9.toInt) ∧ (u0_0, u0_1, u0_2, u0_3, u0_4, u0_5, u0_6, u0_7, u0_8, u0_9, u0_10, u1_0, u2_0, u3_0, u4_0, u5_0, u6_0, u7_0) = (F_DR_remainder x2 x3 x4 t0_0 t0_1 t0_2 t0_3 t0_4 t0_5 t0_6 t0_7 t0_8 t0_9 t0_10 t1_0 t2_0 t3_0 t4_0 t5_0 t6_0 t7_0)) := by
  intro sz
  refine q_into (by decide) (Nat.le_of_ble_eq_true rfl) ?_
  intro p e s m below meth c ls hsz C0 V hl
  have hx := C0.1
  have hb := C0.2.1
  obtain ⟨btt0_1, hZ9⟩ := n_w134 hI hT0
  obtain ⟨btt0_4, hZ9⟩ := hZ9
  obtain ⟨btt0_5, btt0_9⟩ := hZ9
  replace btt0_1 : q_F (0 ≤ t0_1.toInt ∧ t0_1.toInt ≤ 4100) := btt0_1
  replace btt0_4 : q_F (0 ≤ t0_4.toInt ∧ t0_4.toInt ≤ 1) := btt0_4
  replace btt0_5 : q_F (0 ≤ t0_5.toInt ∧ t0_5.toInt ≤ 1) := btt0_5
  replace btt0_9 : q_F (0 ≤ t0_9.toInt ∧ t0_9.toInt ≤ 12200) := btt0_9
  have hF : q_un ws ws [134, 136, 137, 138, 139, 140, 142, 143] := q_u0
  have hl : lv_has ls 14 [(0, .ref (q 134)), (1, .int x2), (2, .int x3), (3, .int x4)] := hl
  refine lv_aload_n hx hb d_15_39_0 rfl (lv_at hl 0 rfl) ?_
  refine lv_iload_n hx hb d_15_39_1 rfl (lv_at hl 1 rfl) ?_
  refine q_goi V (q_runS (As := [.int x2]) (rest := [.ref (q 134)]) (d := 1) (mc := 0) (ms := 0) C0 V rfl LS_DR_113 (X_DR_no l D g q ws  x2 hI   _) rfl hl.1 rfl (Nat.le_of_ble_eq_true rfl) ⟨by decide, by decide⟩ ⟨Nat.le_of_ble_eq_true rfl, Nat.le_of_ble_eq_true rfl⟩ d_15_39_2) (fun a40 u38 H locs hp39 V => ?_)
  obtain ⟨rfl, b41, b42, hE43⟩ := hp39
  have e44 : a40 = (F_DR_no x2) := hE43
  clear b41
  clear b42
  refine q_join (X := Int32) (fun z H locs ls _ => q_F (0 ≤ z.toInt) ∧ q_F (z.toInt ≤ 2) ∧ q_Wd D g (va_A ws sz) s ws H locs ∧ lv_has ls 14 [(0, .ref (q 134)), (1, .int x2), (2, .int x3), (3, .int x4)] ∧ F_DR_remainder_J39 x2 x3 x4 t0_0 t0_1 t0_2 t0_3 t0_4 t0_5 t0_6 t0_7 t0_8 t0_9 t0_10 t1_0 t2_0 t3_0 t4_0 t5_0 t6_0 t7_0 z = (F_DR_remainder x2 x3 x4 t0_0 t0_1 t0_2 t0_3 t0_4 t0_5 t0_6 t0_7 t0_8 t0_9 t0_10 t1_0 t2_0 t3_0 t4_0 t5_0 t6_0 t7_0) ∧ True ∧ S_DR_remainder_J39 x2 x3 x4 t0_0 t0_1 t0_2 t0_3 t0_4 t0_5 t0_6 t0_7 t0_8 t0_9 t0_10 t1_0 t2_0 t3_0 t4_0 t5_0 t6_0 t7_0 z) (fun z => [.int z, .ref (q 134)]) 39 0 0 ?_ ?_
  ·
    rintro lx45 H locs ls _ hZ9
    replace hZ9 := hZ9.2.2
    obtain ⟨V, hZ9⟩ := hZ9
    obtain ⟨hl, hZ9⟩ := hZ9
    obtain ⟨hR57, hS58⟩ := hZ9
    replace hl : lv_has ls 14 [(0, .ref (q 134)), (1, .int x2), (2, .int x3), (3, .int x4)] := hl
    refine q_put (ci := 14) (j := 0) (v := .int lx45) (ty := .int) C0 V i_DR o_DR n_DR rfl rfl hT0 (by decide) w_1996 rfl rfl rfl rfl (Nat.le_of_ble_eq_true rfl) d_15_39_39 (fun H locs w62 hu63 hT0 V => ?_)
    replace hT0 : w62[134]? = (some (q 134, .inr (14, [.int lx45, .ref (q 135), .int t0_1, .ref (q 136), .ref (q 137), .ref (q 138), .ref (q 139), .ref (q 140), .int t0_2, .long t0_3, .int t0_4, .int t0_5, .ref (q 141), .int t0_6, .ref (q 142), .int t0_7, .ref (q 143), .int t0_8, .ref (q 144), .int t0_9, .int t0_10])) : Option (Nat × va_E)) := hT0
    replace hI := n_p134 hI hu63 hT0 (by first | with_reducible exact q_fe btt0_1 | exact ⟨(by have t1 : 0 ≤ t0_1.toInt ∧ t0_1.toInt ≤ 4100 := btt0_1; omega), (by have t1 : 0 ≤ t0_1.toInt ∧ t0_1.toInt ≤ 4100 := btt0_1; omega)⟩) (by first | with_reducible exact q_fe btt0_4 | exact ⟨(by have t1 : 0 ≤ t0_4.toInt ∧ t0_4.toInt ≤ 1 := btt0_4; omega), (by have t1 : 0 ≤ t0_4.toInt ∧ t0_4.toInt ≤ 1 := btt0_4; omega)⟩) (by first | with_reducible exact q_fe btt0_5 | exact ⟨(by have t1 : 0 ≤ t0_5.toInt ∧ t0_5.toInt ≤ 1 := btt0_5; omega), (by have t1 : 0 ≤ t0_5.toInt ∧ t0_5.toInt ≤ 1 := btt0_5; omega)⟩) (by first | with_reducible exact q_fe btt0_9 | exact ⟨(by have t1 : 0 ≤ t0_9.toInt ∧ t0_9.toInt ≤ 12200 := btt0_9; omega), (by have t1 : 0 ≤ t0_9.toInt ∧ t0_9.toInt ≤ 12200 := btt0_9; omega)⟩)
    replace hT1 := (hu63 _ (by decide)).trans hT1
    replace hT2 := (hu63 _ (by decide)).trans hT2
    replace hT3 := (hu63 _ (by decide)).trans hT3
    replace hT4 := (hu63 _ (by decide)).trans hT4
    replace hT5 := (hu63 _ (by decide)).trans hT5
    replace hT6 := (hu63 _ (by decide)).trans hT6
    replace hT7 := (hu63 _ (by decide)).trans hT7
    replace hF := q_us hF hu63 (by simp)
    refine lv_aload_n hx hb d_15_39_42 rfl (lv_at hl 0 rfl) ?_
    refine q_get (ci := 14) (j := 0) (v := .int lx45) C0 V i_DR rfl rfl hT0 (by decide) w_1996 rfl d_15_39_43 ?_
    refine lv_if_le (tgt := 50) hx hb d_15_39_46 (by decide) (fun c64 => ?_) (fun c64 => ?_)
    ·
      refine lv_aload_n hx hb d_15_39_50 rfl (lv_at hl 0 rfl) ?_
      refine lv_iconst (v := 2) hx hb d_15_39_51 (by decide) ?_
      refine q_put (ci := 14) (j := 20) (v := .int 2) (ty := .int) C0 V i_DR o_DR n_DR rfl rfl hT0 (by decide) w_2024 rfl rfl rfl rfl (Nat.le_of_ble_eq_true rfl) d_15_39_52 (fun H locs w66 hu67 hT0 V => ?_)
      replace hT0 : w66[134]? = (some (q 134, .inr (14, [.int lx45, .ref (q 135), .int t0_1, .ref (q 136), .ref (q 137), .ref (q 138), .ref (q 139), .ref (q 140), .int t0_2, .long t0_3, .int t0_4, .int t0_5, .ref (q 141), .int t0_6, .ref (q 142), .int t0_7, .ref (q 143), .int t0_8, .ref (q 144), .int t0_9, .int 2])) : Option (Nat × va_E)) := hT0
      replace hI := n_p134 hI hu67 hT0 (by first | with_reducible exact q_fe btt0_1 | exact ⟨(by have t1 : 0 ≤ t0_1.toInt ∧ t0_1.toInt ≤ 4100 := btt0_1; omega), (by have t1 : 0 ≤ t0_1.toInt ∧ t0_1.toInt ≤ 4100 := btt0_1; omega)⟩) (by first | with_reducible exact q_fe btt0_4 | exact ⟨(by have t1 : 0 ≤ t0_4.toInt ∧ t0_4.toInt ≤ 1 := btt0_4; omega), (by have t1 : 0 ≤ t0_4.toInt ∧ t0_4.toInt ≤ 1 := btt0_4; omega)⟩) (by first | with_reducible exact q_fe btt0_5 | exact ⟨(by have t1 : 0 ≤ t0_5.toInt ∧ t0_5.toInt ≤ 1 := btt0_5; omega), (by have t1 : 0 ≤ t0_5.toInt ∧ t0_5.toInt ≤ 1 := btt0_5; omega)⟩) (by first | with_reducible exact q_fe btt0_9 | exact ⟨(by have t1 : 0 ≤ t0_9.toInt ∧ t0_9.toInt ≤ 12200 := btt0_9; omega), (by have t1 : 0 ≤ t0_9.toInt ∧ t0_9.toInt ≤ 12200 := btt0_9; omega)⟩)
      replace hT1 := (hu67 _ (by decide)).trans hT1
      replace hT2 := (hu67 _ (by decide)).trans hT2
      replace hT3 := (hu67 _ (by decide)).trans hT3
      replace hT4 := (hu67 _ (by decide)).trans hT4
      replace hT5 := (hu67 _ (by decide)).trans hT5
      replace hT6 := (hu67 _ (by decide)).trans hT6
      replace hT7 := (hu67 _ (by decide)).trans hT7
      replace hF := q_us hF hu67 (by simp)
      refine lv_aload_n hx hb d_15_39_55 rfl (lv_at hl 0 rfl) ?_
      refine q_get (ci := 14) (j := 6) (v := .ref (q 139)) C0 V i_DR rfl rfl hT0 (by decide) w_2008 rfl d_15_39_56 ?_
      refine lv_iload_n hx hb d_15_39_59 rfl (lv_at hl 1 rfl) ?_
      have ob68 : q_F (0 ≤ x2.toInt) := (by have h := hS58; rw [S_DR_remainder_J39.eq_1] at h; rw [if_pos c64] at h; exact h.2.1)
      have ob69 : q_F (x2.toInt ≤ 9) := (by have h := hS58; rw [S_DR_remainder_J39.eq_1] at h; rw [if_pos c64] at h; replace h := q_s2 h; exact h.2.1)
      refine q_iald C0 V hT4 (q_ix (x := x2.toInt) rfl (by first | with_reducible exact q_fe ob68 | (have t1 : 0 ≤ x2.toInt := ob68; omega)) (by have t1 : 0 ≤ x2.toInt := ob68; have t2 : x2.toInt ≤ 9 := ob69; have e9 : (((10 : Int32).toNatClampNeg : Nat) : Int) = 10 := (by decide); omega)) d_15_39_60 ?_
      obtain ⟨a70, e71⟩ := q_nm (t4_0 x2.toNatClampNeg : Int32)
      refine q_ti (v := a70) e71 ?_
      refine lv_aload_n hx hb d_15_39_61 rfl (lv_at hl 0 rfl) ?_
      refine q_get (ci := 14) (j := 6) (v := .ref (q 139)) C0 V i_DR rfl rfl hT0 (by decide) w_2008 rfl d_15_39_62 ?_
      refine lv_iload_n hx hb d_15_39_65 rfl (lv_at hl 2 rfl) ?_
      have ob72 : q_F (0 ≤ x3.toInt) := (by have h := hS58; rw [S_DR_remainder_J39.eq_1] at h; rw [if_pos c64] at h; replace h := q_s2 h; replace h := q_s2 h; exact h.2.1)
      have ob73 : q_F (x3.toInt ≤ 9) := (by have h := hS58; rw [S_DR_remainder_J39.eq_1] at h; rw [if_pos c64] at h; replace h := q_s2 h; replace h := q_s2 h; replace h := q_s2 h; exact h.2.1)
      refine q_iald C0 V hT4 (q_ix (x := x3.toInt) rfl (by first | with_reducible exact q_fe ob72 | (have t1 : 0 ≤ x3.toInt := ob72; omega)) (by have t1 : 0 ≤ x3.toInt := ob72; have t2 : x3.toInt ≤ 9 := ob73; have e9 : (((10 : Int32).toNatClampNeg : Nat) : Int) = 10 := (by decide); omega)) d_15_39_66 ?_
      obtain ⟨a74, e75⟩ := q_nm (t4_0 x3.toNatClampNeg : Int32)
      refine q_ti (v := a74) e75 ?_
      refine q_join (X := Int64) (fun z H locs ls _ => q_F (0 ≤ z.toInt + 2147483648) ∧ q_F (z.toInt ≤ 2147483647) ∧ q_Wd D g (va_A ws sz) s w66 H locs ∧ lv_has ls 14 [(0, .ref (q 134)), (1, .int x2), (2, .int x3), (3, .int x4)] ∧ F_DR_remainder_J87 x2 x3 x4 t0_0 t0_1 t0_2 t0_3 t0_4 t0_5 t0_6 t0_7 t0_8 t0_9 t0_10 t1_0 t2_0 t3_0 t4_0 t5_0 t6_0 t7_0 lx45 z = (F_DR_remainder x2 x3 x4 t0_0 t0_1 t0_2 t0_3 t0_4 t0_5 t0_6 t0_7 t0_8 t0_9 t0_10 t1_0 t2_0 t3_0 t4_0 t5_0 t6_0 t7_0) ∧ True ∧ S_DR_remainder_J87 x2 x3 x4 t0_0 t0_1 t0_2 t0_3 t0_4 t0_5 t0_6 t0_7 t0_8 t0_9 t0_10 t1_0 t2_0 t3_0 t4_0 t5_0 t6_0 t7_0 lx45 z) (fun z => [.long z]) 87 0 0 ?_ ?_
      ·
        rintro lx76 H locs ls _ hZ9
        replace hZ9 := hZ9.2.2
        obtain ⟨V, hZ9⟩ := hZ9
        obtain ⟨hl, hZ9⟩ := hZ9
        obtain ⟨hR88, hS89⟩ := hZ9
        replace hl : lv_has ls 14 [(0, .ref (q 134)), (1, .int x2), (2, .int x3), (3, .int x4)] := hl
        refine lv_lstore (lv' := [(4, .long lx76), (0, .ref (q 134)), (1, .int x2), (2, .int x3), (3, .int x4)]) hx hb d_15_39_87 hl (by decide) rfl (fun ls hl => ?_)
        refine lv_aload_n hx hb d_15_39_89 rfl (lv_at hl 1 rfl) ?_
        refine lv_iload_n hx hb d_15_39_90 rfl (lv_at hl 2 rfl) ?_
        have ob93 : True ∧ S_DR_isZero x2 lx45 t0_1 t0_2 t0_3 t0_4 t0_5 t0_6 t0_7 t0_8 t0_9 (2 : Int32) t1_0 := (by have h := hS89; rw [S_DR_remainder_J87.eq_1] at h; with_reducible exact h.2.1)
        refine q_goi V (q_runV (As := [.int x2]) (rest := []) (d := 1) (mc := 0) (ms := 0) (ci := 14) C0 V rfl LV_DR_120 (X_DR_isZero l D g q w66  x2 hI lx45 t0_1 t0_2 t0_3 t0_4 t0_5 t0_6 t0_7 t0_8 t0_9 2 hT0 t1_0 hT1 ob93 _) rfl rfl hT0 rfl hl.1 rfl (Nat.le_of_ble_eq_true rfl) ⟨by decide, by decide⟩ ⟨Nat.le_of_ble_eq_true rfl, Nat.le_of_ble_eq_true rfl⟩ d_15_39_91) (fun a96 u94 H locs hp95 V => ?_)
        obtain ⟨rfl, b97, b98, hE99⟩ := hp95
        have e100 : a96 = (F_DR_isZero x2 lx45 t0_1 t0_2 t0_3 t0_4 t0_5 t0_6 t0_7 t0_8 t0_9 (2 : Int32) t1_0) := hE99
        clear b97
        clear b98
        refine q_join (X := Unit) (fun z H locs ls _ => q_Wd D g (va_A ws sz) s w66 H locs ∧ lv_has ls 14 [(4, .long lx76), (0, .ref (q 134)), (1, .int x2), (3, .int x4)] ∧ F_DR_remainder_J106 x2 x3 x4 t0_0 t0_1 t0_2 t0_3 t0_4 t0_5 t0_6 t0_7 t0_8 t0_9 t0_10 t1_0 t2_0 t3_0 t4_0 t5_0 t6_0 t7_0 lx45 lx76 = (F_DR_remainder x2 x3 x4 t0_0 t0_1 t0_2 t0_3 t0_4 t0_5 t0_6 t0_7 t0_8 t0_9 t0_10 t1_0 t2_0 t3_0 t4_0 t5_0 t6_0 t7_0) ∧ True ∧ S_DR_remainder_J106 x2 x3 x4 t0_0 t0_1 t0_2 t0_3 t0_4 t0_5 t0_6 t0_7 t0_8 t0_9 t0_10 t1_0 t2_0 t3_0 t4_0 t5_0 t6_0 t7_0 lx45 lx76) (fun z => []) 106 0 0 ?_ ?_
        ·
          rintro _ H locs ls _ ⟨V, hl, hR110, hS111⟩
          replace hl : lv_has ls 14 [(4, .long lx76), (0, .ref (q 134)), (1, .int x2), (3, .int x4)] := hl
          refine lv_aload_n hx hb d_15_39_106 rfl (lv_at hl 1 rfl) ?_
          refine lv_iload_n hx hb d_15_39_107 rfl (lv_at hl 2 rfl) ?_
          have ob115 : True ∧ S_DR_load x2 lx45 t0_1 t0_2 t0_3 t0_4 t0_5 t0_6 t0_7 t0_8 t0_9 (2 : Int32) t1_0 t2_0 t3_0 t4_0 t5_0 := (by have h := hS111; rw [S_DR_remainder_J106.eq_1] at h; with_reducible exact h.2.1)
          refine q_gov V (q_runV (As := [.int x2]) (rest := []) (d := 1) (mc := 0) (ms := 0) (ci := 14) C0 V rfl LV_DR_132 (X_DR_load l D g q w66  x2 hI lx45 t0_1 t0_2 t0_3 t0_4 t0_5 t0_6 t0_7 t0_8 t0_9 2 hT0 t1_0 hT1 t2_0 hT2 t3_0 hT3 t4_0 hT4 t5_0 hT5 ob115 _) rfl rfl hT0 rfl hl.1 rfl (Nat.le_of_ble_eq_true rfl) ⟨by decide, by decide⟩ ⟨Nat.le_of_ble_eq_true rfl, Nat.le_of_ble_eq_true rfl⟩ d_15_39_108) (fun u116 H locs hp117 V => ?_)
          obtain ⟨hI, hZ9⟩ := hp117
          obtain ⟨hu156, hZ9⟩ := hZ9
          obtain ⟨y119, hZ9⟩ := hZ9
          obtain ⟨y120, hZ9⟩ := hZ9
          obtain ⟨y121, hZ9⟩ := hZ9
          obtain ⟨y122, hZ9⟩ := hZ9
          obtain ⟨y123, hZ9⟩ := hZ9
          obtain ⟨y124, hZ9⟩ := hZ9
          obtain ⟨y125, hZ9⟩ := hZ9
          obtain ⟨y126, hZ9⟩ := hZ9
          obtain ⟨y127, hZ9⟩ := hZ9
          obtain ⟨y128, hZ9⟩ := hZ9
          obtain ⟨y129, hZ9⟩ := hZ9
          obtain ⟨f130, hZ9⟩ := hZ9
          obtain ⟨hO118, hZ9⟩ := hZ9
          obtain ⟨hA131, hZ9⟩ := hZ9
          replace hZ9 := hZ9.2.2
          obtain ⟨b134, hZ9⟩ := hZ9
          obtain ⟨b135, hZ9⟩ := hZ9
          replace hZ9 := hZ9.2.2
          obtain ⟨b138, hZ9⟩ := hZ9
          obtain ⟨b139, hZ9⟩ := hZ9
          replace hZ9 := hZ9.2.2
          obtain ⟨b142, hZ9⟩ := hZ9
          obtain ⟨b143, hZ9⟩ := hZ9
          replace hZ9 := hZ9.2.2
          obtain ⟨b146, hZ9⟩ := hZ9
          obtain ⟨b147, hZ9⟩ := hZ9
          obtain ⟨b148, hZ9⟩ := hZ9
          obtain ⟨b149, hZ9⟩ := hZ9
          replace hZ9 := hZ9.2.2.2
          obtain ⟨b153, hZ9⟩ := hZ9
          obtain ⟨b154, hE155⟩ := hZ9
          replace hO118 : u116[134]? = (some (q 134, .inr (14, [.int y119, .ref (q 135), .int y120, .ref (q 136), .ref (q 137), .ref (q 138), .ref (q 139), .ref (q 140), .int y121, .long y122, .int y123, .int y124, .ref (q 141), .int y125, .ref (q 142), .int y126, .ref (q 143), .int y127, .ref (q 144), .int y128, .int y129])) : Option (Nat × va_E)) := hO118
          replace hA131 : u116[140]? = (some (q 140, .inl (g 0, (4400 : Int32).toNatClampNeg, .inl f130)) : Option (Nat × va_E)) := hA131
          obtain ⟨p157, e158⟩ : ∃ z, z = (F_DR_load x2 lx45 t0_1 t0_2 t0_3 t0_4 t0_5 t0_6 t0_7 t0_8 t0_9 (2 : Int32) t1_0 t2_0 t3_0 t4_0 t5_0) := ⟨_, rfl⟩
          have e159 : y119 = p157.1 := congrArg (fun z => z.1) (hE155.trans e158.symm)
          have e160 : y120 = p157.2.1 := congrArg (fun z => z.2.1) (hE155.trans e158.symm)
          have e161 : y121 = p157.2.2.1 := congrArg (fun z => z.2.2.1) (hE155.trans e158.symm)
          have e162 : y122 = p157.2.2.2.1 := congrArg (fun z => z.2.2.2.1) (hE155.trans e158.symm)
          have e163 : y123 = p157.2.2.2.2.1 := congrArg (fun z => z.2.2.2.2.1) (hE155.trans e158.symm)
          have e164 : y124 = p157.2.2.2.2.2.1 := congrArg (fun z => z.2.2.2.2.2.1) (hE155.trans e158.symm)
          have e165 : y125 = p157.2.2.2.2.2.2.1 := congrArg (fun z => z.2.2.2.2.2.2.1) (hE155.trans e158.symm)
          have e166 : y126 = p157.2.2.2.2.2.2.2.1 := congrArg (fun z => z.2.2.2.2.2.2.2.1) (hE155.trans e158.symm)
          have e167 : y127 = p157.2.2.2.2.2.2.2.2.1 := congrArg (fun z => z.2.2.2.2.2.2.2.2.1) (hE155.trans e158.symm)
          have e168 : y128 = p157.2.2.2.2.2.2.2.2.2.1 := congrArg (fun z => z.2.2.2.2.2.2.2.2.2.1) (hE155.trans e158.symm)
          have e169 : y129 = p157.2.2.2.2.2.2.2.2.2.2.1 := congrArg (fun z => z.2.2.2.2.2.2.2.2.2.2.1) (hE155.trans e158.symm)
          have e170 : f130 = p157.2.2.2.2.2.2.2.2.2.2.2 := congrArg (fun z => z.2.2.2.2.2.2.2.2.2.2.2) (hE155.trans e158.symm)
          replace b134 : q_F (0 ≤ y123.toInt) := b134
          replace b135 : q_F (y123.toInt ≤ 0) := b135
          replace b138 : q_F (t0_1.toInt ≤ y120.toInt) := b138
          replace b139 : q_F (y120.toInt ≤ t0_1.toInt) := b139
          replace b142 : q_F (t0_6.toInt ≤ y125.toInt) := b142
          replace b143 : q_F (y125.toInt ≤ t0_6.toInt) := b143
          replace b146 : q_F (t0_8.toInt ≤ y127.toInt) := b146
          replace b147 : q_F (y127.toInt ≤ t0_8.toInt) := b147
          replace b148 : q_F (t0_9.toInt ≤ y128.toInt) := b148
          replace b149 : q_F (y128.toInt ≤ t0_9.toInt) := b149
          replace b153 : q_F (y124.toInt ≤ y123.toInt + 1) := b153
          replace b154 : q_F (y123.toInt ≤ y124.toInt) := b154
          replace hT1 := (hu156 _ (by decide)).trans hT1
          replace hT2 := (hu156 _ (by decide)).trans hT2
          replace hT3 := (hu156 _ (by decide)).trans hT3
          replace hT4 := (hu156 _ (by decide)).trans hT4
          replace hT6 := (hu156 _ (by decide)).trans hT6
          replace hT7 := (hu156 _ (by decide)).trans hT7
          replace hF := q_uc hF hu156 (by simp)
          have hR171 := (show F_DR_remainder_c108 x2 x3 x4 t0_0 t0_1 t0_2 t0_3 t0_4 t0_5 t0_6 t0_7 t0_8 t0_9 t0_10 t1_0 t2_0 t3_0 t4_0 t5_0 t6_0 t7_0 lx45 lx76 p157 = (F_DR_remainder x2 x3 x4 t0_0 t0_1 t0_2 t0_3 t0_4 t0_5 t0_6 t0_7 t0_8 t0_9 t0_10 t1_0 t2_0 t3_0 t4_0 t5_0 t6_0 t7_0) from Eq.trans (by rw [e158, F_DR_remainder_J106.eq_1]) hR110)
          have hS172 := (show True ∧ S_DR_remainder_c108 x2 x3 x4 t0_0 t0_1 t0_2 t0_3 t0_4 t0_5 t0_6 t0_7 t0_8 t0_9 t0_10 t1_0 t2_0 t3_0 t4_0 t5_0 t6_0 t7_0 lx45 lx76 p157 from (by rw [e158]; have h := hS111; rw [S_DR_remainder_J106.eq_1] at h; replace h := q_s2 h; with_reducible exact h))
          refine lv_lload hx hb d_15_39_111 (lv_at hl 0 rfl) ?_
          refine lv_aload_n hx hb d_15_39_113 rfl (lv_at hl 1 rfl) ?_
          refine q_get (ci := 14) (j := 9) (v := .long y122) C0 V i_DR rfl rfl hO118 (by decide) w_2012 rfl d_15_39_114 ?_
          refine lv_lsub hx hb d_15_39_117 ?_
          obtain ⟨j176, e177⟩ := q_nm (lx76 - y122 : Int64)
          refine q_tl (v := j176) e177 ?_
          refine q_ldc2 C0 rfl w_2802 d_15_39_118 ?_
          refine W.lcmp hx hb d_15_39_121 ?_
          obtain ⟨a179, e180⟩ := q_nm (lg_cmp j176 1000 : Int32)
          refine q_ti (v := a179) e180 ?_
          refine lv_if_le (tgt := 139) hx hb d_15_39_122 (by decide) (fun c182 => ?_) (fun c182 => ?_)
          ·
            refine lv_aload_n hx hb d_15_39_139 rfl (lv_at hl 1 rfl) ?_
            refine lv_lload hx hb d_15_39_140 (lv_at hl 0 rfl) ?_
            refine lv_iconst (v := 1) hx hb d_15_39_142 (by decide) ?_
            refine lv_iload_n hx hb d_15_39_143 rfl (lv_at hl 3 rfl) ?_
            have ob184 : True ∧ S_DR_bring lx76 (1 : Int32) x4 y119 y120 y121 y122 y123 y124 y125 y126 y127 y128 y129 t1_0 t2_0 t3_0 t4_0 f130 := (by rw [e170, e169, e168, e167, e166, e165, e164, e163, e162, e161, e160, e159]; have h := hS172; rw [S_DR_remainder_c108.eq_1] at h; have c182x := c182; rw [← e180, ← e177, e162] at c182x; rw [if_pos c182x] at h; with_reducible exact h.2.1)
            refine q_gov V (q_runV (As := [.long lx76, .int 1, .int x4]) (rest := []) (d := 4) (mc := 0) (ms := 0) (ci := 14) C0 V rfl LV_DR_170 (X_DR_bring l D g q u116  lx76 1 x4 hI y119 y120 y121 y122 y123 y124 y125 y126 y127 y128 y129 hO118 t1_0 hT1 t2_0 hT2 t3_0 hT3 t4_0 hT4 f130 hA131 ob184 _) rfl rfl hO118 rfl hl.1 rfl (Nat.le_of_ble_eq_true rfl) ⟨by decide, by decide⟩ ⟨Nat.le_of_ble_eq_true rfl, Nat.le_of_ble_eq_true rfl⟩ d_15_39_144) (fun u185 H locs hp186 V => ?_)
            obtain ⟨hI, hZ9⟩ := hp186
            obtain ⟨hu230, hZ9⟩ := hZ9
            obtain ⟨y188, hZ9⟩ := hZ9
            obtain ⟨y189, hZ9⟩ := hZ9
            obtain ⟨y190, hZ9⟩ := hZ9
            obtain ⟨y191, hZ9⟩ := hZ9
            obtain ⟨y192, hZ9⟩ := hZ9
            obtain ⟨y193, hZ9⟩ := hZ9
            obtain ⟨y194, hZ9⟩ := hZ9
            obtain ⟨y195, hZ9⟩ := hZ9
            obtain ⟨y196, hZ9⟩ := hZ9
            obtain ⟨y197, hZ9⟩ := hZ9
            obtain ⟨y198, hZ9⟩ := hZ9
            obtain ⟨f199, hZ9⟩ := hZ9
            obtain ⟨f201, hZ9⟩ := hZ9
            obtain ⟨f203, hZ9⟩ := hZ9
            obtain ⟨f205, hZ9⟩ := hZ9
            obtain ⟨f207, hZ9⟩ := hZ9
            obtain ⟨hO187, hZ9⟩ := hZ9
            obtain ⟨hA200, hZ9⟩ := hZ9
            obtain ⟨hA202, hZ9⟩ := hZ9
            obtain ⟨hA204, hZ9⟩ := hZ9
            obtain ⟨hA206, hZ9⟩ := hZ9
            obtain ⟨hA208, hZ9⟩ := hZ9
            obtain ⟨b209, hZ9⟩ := hZ9
            obtain ⟨b210, hZ9⟩ := hZ9
            obtain ⟨b211, hZ9⟩ := hZ9
            replace hZ9 := hZ9.2.2
            obtain ⟨b214, hZ9⟩ := hZ9
            obtain ⟨b215, hZ9⟩ := hZ9
            replace hZ9 := hZ9.2
            obtain ⟨b217, hZ9⟩ := hZ9
            obtain ⟨b218, hZ9⟩ := hZ9
            obtain ⟨b219, hZ9⟩ := hZ9
            replace hZ9 := hZ9.2.2
            obtain ⟨b222, hZ9⟩ := hZ9
            obtain ⟨b223, hZ9⟩ := hZ9
            replace hZ9 := hZ9.2
            obtain ⟨b225, hZ9⟩ := hZ9
            obtain ⟨b226, hZ9⟩ := hZ9
            replace hZ9 := hZ9.2
            obtain ⟨-, hE229⟩ := hZ9
            replace hO187 : u185[134]? = (some (q 134, .inr (14, [.int y188, .ref (q 135), .int y189, .ref (q 136), .ref (q 137), .ref (q 138), .ref (q 139), .ref (q 140), .int y190, .long y191, .int y192, .int y193, .ref (q 141), .int y194, .ref (q 142), .int y195, .ref (q 143), .int y196, .ref (q 144), .int y197, .int y198])) : Option (Nat × va_E)) := hO187
            replace hA200 : u185[136]? = (some (q 136, .inl (g 0, (10000 : Int32).toNatClampNeg, .inl f199)) : Option (Nat × va_E)) := hA200
            replace hA202 : u185[137]? = (some (q 137, .inl (g 0, (10 : Int32).toNatClampNeg, .inl f201)) : Option (Nat × va_E)) := hA202
            replace hA204 : u185[138]? = (some (q 138, .inl (g 3, 10, .inl f203)) : Option (Nat × va_E)) := hA204
            replace hA206 : u185[139]? = (some (q 139, .inl (g 0, (10 : Int32).toNatClampNeg, .inl f205)) : Option (Nat × va_E)) := hA206
            replace hA208 : u185[140]? = (some (q 140, .inl (g 0, (4400 : Int32).toNatClampNeg, .inl f207)) : Option (Nat × va_E)) := hA208
            obtain ⟨p231, e232⟩ : ∃ z, z = (F_DR_bring lx76 (1 : Int32) x4 y119 y120 y121 y122 y123 y124 y125 y126 y127 y128 y129 t1_0 t2_0 t3_0 t4_0 f130) := ⟨_, rfl⟩
            have e233 : y188 = p231.1 := congrArg (fun z => z.1) (hE229.trans e232.symm)
            have e234 : y189 = p231.2.1 := congrArg (fun z => z.2.1) (hE229.trans e232.symm)
            have e235 : y190 = p231.2.2.1 := congrArg (fun z => z.2.2.1) (hE229.trans e232.symm)
            have e236 : y191 = p231.2.2.2.1 := congrArg (fun z => z.2.2.2.1) (hE229.trans e232.symm)
            have e237 : y192 = p231.2.2.2.2.1 := congrArg (fun z => z.2.2.2.2.1) (hE229.trans e232.symm)
            have e238 : y193 = p231.2.2.2.2.2.1 := congrArg (fun z => z.2.2.2.2.2.1) (hE229.trans e232.symm)
            have e239 : y194 = p231.2.2.2.2.2.2.1 := congrArg (fun z => z.2.2.2.2.2.2.1) (hE229.trans e232.symm)
            have e240 : y195 = p231.2.2.2.2.2.2.2.1 := congrArg (fun z => z.2.2.2.2.2.2.2.1) (hE229.trans e232.symm)
            have e241 : y196 = p231.2.2.2.2.2.2.2.2.1 := congrArg (fun z => z.2.2.2.2.2.2.2.2.1) (hE229.trans e232.symm)
            have e242 : y197 = p231.2.2.2.2.2.2.2.2.2.1 := congrArg (fun z => z.2.2.2.2.2.2.2.2.2.1) (hE229.trans e232.symm)
            have e243 : y198 = p231.2.2.2.2.2.2.2.2.2.2.1 := congrArg (fun z => z.2.2.2.2.2.2.2.2.2.2.1) (hE229.trans e232.symm)
            have e244 : f199 = p231.2.2.2.2.2.2.2.2.2.2.2.1 := congrArg (fun z => z.2.2.2.2.2.2.2.2.2.2.2.1) (hE229.trans e232.symm)
            have e245 : f201 = p231.2.2.2.2.2.2.2.2.2.2.2.2.1 := congrArg (fun z => z.2.2.2.2.2.2.2.2.2.2.2.2.1) (hE229.trans e232.symm)
            have e246 : f203 = p231.2.2.2.2.2.2.2.2.2.2.2.2.2.1 := congrArg (fun z => z.2.2.2.2.2.2.2.2.2.2.2.2.2.1) (hE229.trans e232.symm)
            have e247 : f205 = p231.2.2.2.2.2.2.2.2.2.2.2.2.2.2.1 := congrArg (fun z => z.2.2.2.2.2.2.2.2.2.2.2.2.2.2.1) (hE229.trans e232.symm)
            have e248 : f207 = p231.2.2.2.2.2.2.2.2.2.2.2.2.2.2.2 := congrArg (fun z => z.2.2.2.2.2.2.2.2.2.2.2.2.2.2.2) (hE229.trans e232.symm)
            replace b209 : q_F (0 ≤ y193.toInt) := b209
            replace b210 : q_F (y120.toInt ≤ y189.toInt) := b210
            replace b211 : q_F (y189.toInt ≤ y120.toInt) := b211
            replace b214 : q_F (y123.toInt ≤ y192.toInt + 1) := b214
            replace b215 : q_F (y192.toInt ≤ y123.toInt) := b215
            replace b217 : q_F (y193.toInt ≤ y124.toInt) := b217
            replace b218 : q_F (y125.toInt ≤ y194.toInt) := b218
            replace b219 : q_F (y194.toInt ≤ y125.toInt) := b219
            replace b222 : q_F (y127.toInt ≤ y196.toInt) := b222
            replace b223 : q_F (y196.toInt ≤ y127.toInt) := b223
            replace b225 : q_F (y128.toInt ≤ y197.toInt) := b225
            replace b226 : q_F (y197.toInt ≤ y128.toInt) := b226
            replace hT6 := (hu230 _ (by decide)).trans hT6
            replace hT7 := (hu230 _ (by decide)).trans hT7
            replace hF := q_uc hF hu230 (by simp)
            have hR249 := (show F_DR_remainder_c144 x2 x3 x4 t0_0 t0_1 t0_2 t0_3 t0_4 t0_5 t0_6 t0_7 t0_8 t0_9 t0_10 t1_0 t2_0 t3_0 t4_0 t5_0 t6_0 t7_0 lx45 lx76 p157 p231 = (F_DR_remainder x2 x3 x4 t0_0 t0_1 t0_2 t0_3 t0_4 t0_5 t0_6 t0_7 t0_8 t0_9 t0_10 t1_0 t2_0 t3_0 t4_0 t5_0 t6_0 t7_0) from Eq.trans (by have c182x := c182; rw [← e180, ← e177, e162] at c182x; rw [e232, e170, e169, e168, e167, e166, e165, e164, e163, e162, e161, e160, e159, F_DR_remainder_c108.eq_1, if_pos c182x]) hR171)
            have hS250 := (show True ∧ S_DR_remainder_c144 x2 x3 x4 t0_0 t0_1 t0_2 t0_3 t0_4 t0_5 t0_6 t0_7 t0_8 t0_9 t0_10 t1_0 t2_0 t3_0 t4_0 t5_0 t6_0 t7_0 lx45 lx76 p157 p231 from (by rw [e232, e170, e169, e168, e167, e166, e165, e164, e163, e162, e161, e160, e159]; have h := hS172; rw [S_DR_remainder_c108.eq_1] at h; have c182x := c182; rw [← e180, ← e177, e162] at c182x; rw [if_pos c182x] at h; replace h := q_s2 h; with_reducible exact h))
            exact q_retv C0 V (⟨hI, hF, y188, y189, y190, y191, y192, y193, y194, y195, y196, y197, y198, f199, f201, f203, f205, f207, t6_0, t7_0, hO187, hA200, hA202, hA204, hA206, hA208, hT6, hT7, (show 0 ≤ y192.toInt + 1 from (by have t1 : 0 ≤ y123.toInt := b134; have t2 : y123.toInt ≤ y192.toInt + 1 := b214; omega)), (show 0 ≤ y193.toInt from (by first | with_reducible exact q_fe b209 | (have t1 : 0 ≤ y193.toInt := b209; omega))), (show y193.toInt ≤ 1 from (by have t1 : y123.toInt ≤ 0 := b135; have t2 : y124.toInt ≤ y123.toInt + 1 := b153; have t3 : y193.toInt ≤ y124.toInt := b217; omega)), (show t0_1.toInt ≤ y189.toInt from (by have t1 : t0_1.toInt ≤ y120.toInt := b138; have t2 : y120.toInt ≤ y189.toInt := b210; omega)), (show y189.toInt ≤ t0_1.toInt from (by have t1 : y120.toInt ≤ t0_1.toInt := b139; have t2 : y189.toInt ≤ y120.toInt := b211; omega)), (show y192.toInt ≤ t0_4.toInt from (by have t1 : 0 ≤ t0_4.toInt ∧ t0_4.toInt ≤ 1 := btt0_4; have t2 : y123.toInt ≤ 0 := b135; have t3 : y192.toInt ≤ y123.toInt := b215; omega)), (show t0_6.toInt ≤ y194.toInt from (by have t1 : t0_6.toInt ≤ y125.toInt := b142; have t2 : y125.toInt ≤ y194.toInt := b218; omega)), (show y194.toInt ≤ t0_6.toInt from (by have t1 : y125.toInt ≤ t0_6.toInt := b143; have t2 : y194.toInt ≤ y125.toInt := b219; omega)), (show t0_8.toInt ≤ y196.toInt from (by have t1 : t0_8.toInt ≤ y127.toInt := b146; have t2 : y127.toInt ≤ y196.toInt := b222; omega)), (show y196.toInt ≤ t0_8.toInt from (by have t1 : y127.toInt ≤ t0_8.toInt := b147; have t2 : y196.toInt ≤ y127.toInt := b223; omega)), (show t0_9.toInt ≤ y197.toInt from (by have t1 : t0_9.toInt ≤ y128.toInt := b148; have t2 : y128.toInt ≤ y197.toInt := b225; omega)), (show y197.toInt ≤ t0_9.toInt from (by have t1 : y128.toInt ≤ t0_9.toInt := b149; have t2 : y197.toInt ≤ y128.toInt := b226; omega)), (show (y188, y189, y190, y191, y192, y193, y194, y195, y196, y197, y198, f199, f201, f203, f205, f207, t6_0, t7_0) = (F_DR_remainder x2 x3 x4 t0_0 t0_1 t0_2 t0_3 t0_4 t0_5 t0_6 t0_7 t0_8 t0_9 t0_10 t1_0 t2_0 t3_0 t4_0 t5_0 t6_0 t7_0) from Eq.trans (by rw [e248, e247, e246, e245, e244, e243, e242, e241, e240, e239, e238, e237, e236, e235, e234, e233, F_DR_remainder_c144.eq_1]) hR249)⟩) d_15_39_147
          ·
            refine lv_aload_n hx hb d_15_39_125 rfl (lv_at hl 1 rfl) ?_
            refine lv_iload_n hx hb d_15_39_126 rfl (lv_at hl 2 rfl) ?_
            have ob255 : True ∧ S_DR_isZero x2 y119 y120 y121 y122 y123 y124 y125 y126 y127 y128 y129 t1_0 := (by rw [e169, e168, e167, e166, e165, e164, e163, e162, e161, e160, e159]; have h := hS172; rw [S_DR_remainder_c108.eq_1] at h; have c182x := c182; rw [← e180, ← e177, e162] at c182x; rw [if_neg c182x] at h; with_reducible exact h.2.1)
            refine q_goi V (q_runV (As := [.int x2]) (rest := []) (d := 1) (mc := 0) (ms := 0) (ci := 14) C0 V rfl LV_DR_120 (X_DR_isZero l D g q u116  x2 hI y119 y120 y121 y122 y123 y124 y125 y126 y127 y128 y129 hO118 t1_0 hT1 ob255 _) rfl rfl hO118 rfl hl.1 rfl (Nat.le_of_ble_eq_true rfl) ⟨by decide, by decide⟩ ⟨Nat.le_of_ble_eq_true rfl, Nat.le_of_ble_eq_true rfl⟩ d_15_39_127) (fun a258 u256 H locs hp257 V => ?_)
            obtain ⟨rfl, b259, b260, hE261⟩ := hp257
            have e262 : a258 = (F_DR_isZero x2 y119 y120 y121 y122 y123 y124 y125 y126 y127 y128 y129 t1_0) := hE261
            clear b259
            clear b260
            refine lv_if_ne (tgt := 139) hx hb d_15_39_130 (by decide) (fun c263 => ?_) (fun c263 => ?_)
            ·
              refine lv_aload_n hx hb d_15_39_139 rfl (lv_at hl 1 rfl) ?_
              refine lv_lload hx hb d_15_39_140 (lv_at hl 0 rfl) ?_
              refine lv_iconst (v := 1) hx hb d_15_39_142 (by decide) ?_
              refine lv_iload_n hx hb d_15_39_143 rfl (lv_at hl 3 rfl) ?_
              have ob265 : True ∧ S_DR_bring lx76 (1 : Int32) x4 y119 y120 y121 y122 y123 y124 y125 y126 y127 y128 y129 t1_0 t2_0 t3_0 t4_0 f130 := (by rw [e170, e169, e168, e167, e166, e165, e164, e163, e162, e161, e160, e159]; have h := hS172; rw [S_DR_remainder_c108.eq_1] at h; have c182x := c182; rw [← e180, ← e177, e162] at c182x; rw [if_neg c182x] at h; replace h := q_s2 h; have c263x := c263; rw [e262, e169, e168, e167, e166, e165, e164, e163, e162, e161, e160, e159] at c263x; rw [if_neg c263x] at h; with_reducible exact h.2.1)
              refine q_gov V (q_runV (As := [.long lx76, .int 1, .int x4]) (rest := []) (d := 4) (mc := 0) (ms := 0) (ci := 14) C0 V rfl LV_DR_170 (X_DR_bring l D g q u116  lx76 1 x4 hI y119 y120 y121 y122 y123 y124 y125 y126 y127 y128 y129 hO118 t1_0 hT1 t2_0 hT2 t3_0 hT3 t4_0 hT4 f130 hA131 ob265 _) rfl rfl hO118 rfl hl.1 rfl (Nat.le_of_ble_eq_true rfl) ⟨by decide, by decide⟩ ⟨Nat.le_of_ble_eq_true rfl, Nat.le_of_ble_eq_true rfl⟩ d_15_39_144) (fun u266 H locs hp267 V => ?_)
              obtain ⟨hI, hZ9⟩ := hp267
              obtain ⟨hu311, hZ9⟩ := hZ9
              obtain ⟨y269, hZ9⟩ := hZ9
              obtain ⟨y270, hZ9⟩ := hZ9
              obtain ⟨y271, hZ9⟩ := hZ9
              obtain ⟨y272, hZ9⟩ := hZ9
              obtain ⟨y273, hZ9⟩ := hZ9
              obtain ⟨y274, hZ9⟩ := hZ9
              obtain ⟨y275, hZ9⟩ := hZ9
              obtain ⟨y276, hZ9⟩ := hZ9
              obtain ⟨y277, hZ9⟩ := hZ9
              obtain ⟨y278, hZ9⟩ := hZ9
              obtain ⟨y279, hZ9⟩ := hZ9
              obtain ⟨f280, hZ9⟩ := hZ9
              obtain ⟨f282, hZ9⟩ := hZ9
              obtain ⟨f284, hZ9⟩ := hZ9
              obtain ⟨f286, hZ9⟩ := hZ9
              obtain ⟨f288, hZ9⟩ := hZ9
              obtain ⟨hO268, hZ9⟩ := hZ9
              obtain ⟨hA281, hZ9⟩ := hZ9
              obtain ⟨hA283, hZ9⟩ := hZ9
              obtain ⟨hA285, hZ9⟩ := hZ9
              obtain ⟨hA287, hZ9⟩ := hZ9
              obtain ⟨hA289, hZ9⟩ := hZ9
              obtain ⟨b290, hZ9⟩ := hZ9
              obtain ⟨b291, hZ9⟩ := hZ9
              obtain ⟨b292, hZ9⟩ := hZ9
              replace hZ9 := hZ9.2.2
              obtain ⟨b295, hZ9⟩ := hZ9
              obtain ⟨b296, hZ9⟩ := hZ9
              replace hZ9 := hZ9.2
              obtain ⟨b298, hZ9⟩ := hZ9
              obtain ⟨b299, hZ9⟩ := hZ9
              obtain ⟨b300, hZ9⟩ := hZ9
              replace hZ9 := hZ9.2.2
              obtain ⟨b303, hZ9⟩ := hZ9
              obtain ⟨b304, hZ9⟩ := hZ9
              replace hZ9 := hZ9.2
              obtain ⟨b306, hZ9⟩ := hZ9
              obtain ⟨b307, hZ9⟩ := hZ9
              replace hZ9 := hZ9.2
              obtain ⟨-, hE310⟩ := hZ9
              replace hO268 : u266[134]? = (some (q 134, .inr (14, [.int y269, .ref (q 135), .int y270, .ref (q 136), .ref (q 137), .ref (q 138), .ref (q 139), .ref (q 140), .int y271, .long y272, .int y273, .int y274, .ref (q 141), .int y275, .ref (q 142), .int y276, .ref (q 143), .int y277, .ref (q 144), .int y278, .int y279])) : Option (Nat × va_E)) := hO268
              replace hA281 : u266[136]? = (some (q 136, .inl (g 0, (10000 : Int32).toNatClampNeg, .inl f280)) : Option (Nat × va_E)) := hA281
              replace hA283 : u266[137]? = (some (q 137, .inl (g 0, (10 : Int32).toNatClampNeg, .inl f282)) : Option (Nat × va_E)) := hA283
              replace hA285 : u266[138]? = (some (q 138, .inl (g 3, 10, .inl f284)) : Option (Nat × va_E)) := hA285
              replace hA287 : u266[139]? = (some (q 139, .inl (g 0, (10 : Int32).toNatClampNeg, .inl f286)) : Option (Nat × va_E)) := hA287
              replace hA289 : u266[140]? = (some (q 140, .inl (g 0, (4400 : Int32).toNatClampNeg, .inl f288)) : Option (Nat × va_E)) := hA289
              obtain ⟨p312, e313⟩ : ∃ z, z = (F_DR_bring lx76 (1 : Int32) x4 y119 y120 y121 y122 y123 y124 y125 y126 y127 y128 y129 t1_0 t2_0 t3_0 t4_0 f130) := ⟨_, rfl⟩
              have e314 : y269 = p312.1 := congrArg (fun z => z.1) (hE310.trans e313.symm)
              have e315 : y270 = p312.2.1 := congrArg (fun z => z.2.1) (hE310.trans e313.symm)
              have e316 : y271 = p312.2.2.1 := congrArg (fun z => z.2.2.1) (hE310.trans e313.symm)
              have e317 : y272 = p312.2.2.2.1 := congrArg (fun z => z.2.2.2.1) (hE310.trans e313.symm)
              have e318 : y273 = p312.2.2.2.2.1 := congrArg (fun z => z.2.2.2.2.1) (hE310.trans e313.symm)
              have e319 : y274 = p312.2.2.2.2.2.1 := congrArg (fun z => z.2.2.2.2.2.1) (hE310.trans e313.symm)
              have e320 : y275 = p312.2.2.2.2.2.2.1 := congrArg (fun z => z.2.2.2.2.2.2.1) (hE310.trans e313.symm)
              have e321 : y276 = p312.2.2.2.2.2.2.2.1 := congrArg (fun z => z.2.2.2.2.2.2.2.1) (hE310.trans e313.symm)
              have e322 : y277 = p312.2.2.2.2.2.2.2.2.1 := congrArg (fun z => z.2.2.2.2.2.2.2.2.1) (hE310.trans e313.symm)
              have e323 : y278 = p312.2.2.2.2.2.2.2.2.2.1 := congrArg (fun z => z.2.2.2.2.2.2.2.2.2.1) (hE310.trans e313.symm)
              have e324 : y279 = p312.2.2.2.2.2.2.2.2.2.2.1 := congrArg (fun z => z.2.2.2.2.2.2.2.2.2.2.1) (hE310.trans e313.symm)
              have e325 : f280 = p312.2.2.2.2.2.2.2.2.2.2.2.1 := congrArg (fun z => z.2.2.2.2.2.2.2.2.2.2.2.1) (hE310.trans e313.symm)
              have e326 : f282 = p312.2.2.2.2.2.2.2.2.2.2.2.2.1 := congrArg (fun z => z.2.2.2.2.2.2.2.2.2.2.2.2.1) (hE310.trans e313.symm)
              have e327 : f284 = p312.2.2.2.2.2.2.2.2.2.2.2.2.2.1 := congrArg (fun z => z.2.2.2.2.2.2.2.2.2.2.2.2.2.1) (hE310.trans e313.symm)
              have e328 : f286 = p312.2.2.2.2.2.2.2.2.2.2.2.2.2.2.1 := congrArg (fun z => z.2.2.2.2.2.2.2.2.2.2.2.2.2.2.1) (hE310.trans e313.symm)
              have e329 : f288 = p312.2.2.2.2.2.2.2.2.2.2.2.2.2.2.2 := congrArg (fun z => z.2.2.2.2.2.2.2.2.2.2.2.2.2.2.2) (hE310.trans e313.symm)
              replace b290 : q_F (0 ≤ y274.toInt) := b290
              replace b291 : q_F (y120.toInt ≤ y270.toInt) := b291
              replace b292 : q_F (y270.toInt ≤ y120.toInt) := b292
              replace b295 : q_F (y123.toInt ≤ y273.toInt + 1) := b295
              replace b296 : q_F (y273.toInt ≤ y123.toInt) := b296
              replace b298 : q_F (y274.toInt ≤ y124.toInt) := b298
              replace b299 : q_F (y125.toInt ≤ y275.toInt) := b299
              replace b300 : q_F (y275.toInt ≤ y125.toInt) := b300
              replace b303 : q_F (y127.toInt ≤ y277.toInt) := b303
              replace b304 : q_F (y277.toInt ≤ y127.toInt) := b304
              replace b306 : q_F (y128.toInt ≤ y278.toInt) := b306
              replace b307 : q_F (y278.toInt ≤ y128.toInt) := b307
              replace hT6 := (hu311 _ (by decide)).trans hT6
              replace hT7 := (hu311 _ (by decide)).trans hT7
              replace hF := q_uc hF hu311 (by simp)
              have hR330 := (show F_DR_remainder_c144_6 x2 x3 x4 t0_0 t0_1 t0_2 t0_3 t0_4 t0_5 t0_6 t0_7 t0_8 t0_9 t0_10 t1_0 t2_0 t3_0 t4_0 t5_0 t6_0 t7_0 lx45 lx76 p157 p312 = (F_DR_remainder x2 x3 x4 t0_0 t0_1 t0_2 t0_3 t0_4 t0_5 t0_6 t0_7 t0_8 t0_9 t0_10 t1_0 t2_0 t3_0 t4_0 t5_0 t6_0 t7_0) from Eq.trans (by have c182x := c182; rw [← e180, ← e177, e162] at c182x; have c263x := c263; rw [e262, e169, e168, e167, e166, e165, e164, e163, e162, e161, e160, e159] at c263x; rw [e313, e170, e169, e168, e167, e166, e165, e164, e163, e162, e161, e160, e159, F_DR_remainder_c108.eq_1, if_neg c182x, if_neg c263x]) hR171)
              have hS331 := (show True ∧ S_DR_remainder_c144_6 x2 x3 x4 t0_0 t0_1 t0_2 t0_3 t0_4 t0_5 t0_6 t0_7 t0_8 t0_9 t0_10 t1_0 t2_0 t3_0 t4_0 t5_0 t6_0 t7_0 lx45 lx76 p157 p312 from (by rw [e313, e170, e169, e168, e167, e166, e165, e164, e163, e162, e161, e160, e159]; have h := hS172; rw [S_DR_remainder_c108.eq_1] at h; have c182x := c182; rw [← e180, ← e177, e162] at c182x; rw [if_neg c182x] at h; replace h := q_s2 h; have c263x := c263; rw [e262, e169, e168, e167, e166, e165, e164, e163, e162, e161, e160, e159] at c263x; rw [if_neg c263x] at h; replace h := q_s2 h; with_reducible exact h))
              exact q_retv C0 V (⟨hI, hF, y269, y270, y271, y272, y273, y274, y275, y276, y277, y278, y279, f280, f282, f284, f286, f288, t6_0, t7_0, hO268, hA281, hA283, hA285, hA287, hA289, hT6, hT7, (show 0 ≤ y273.toInt + 1 from (by have t1 : 0 ≤ y123.toInt := b134; have t2 : y123.toInt ≤ y273.toInt + 1 := b295; omega)), (show 0 ≤ y274.toInt from (by first | with_reducible exact q_fe b290 | (have t1 : 0 ≤ y274.toInt := b290; omega))), (show y274.toInt ≤ 1 from (by have t1 : y123.toInt ≤ 0 := b135; have t2 : y124.toInt ≤ y123.toInt + 1 := b153; have t3 : y274.toInt ≤ y124.toInt := b298; omega)), (show t0_1.toInt ≤ y270.toInt from (by have t1 : t0_1.toInt ≤ y120.toInt := b138; have t2 : y120.toInt ≤ y270.toInt := b291; omega)), (show y270.toInt ≤ t0_1.toInt from (by have t1 : y120.toInt ≤ t0_1.toInt := b139; have t2 : y270.toInt ≤ y120.toInt := b292; omega)), (show y273.toInt ≤ t0_4.toInt from (by have t1 : 0 ≤ t0_4.toInt ∧ t0_4.toInt ≤ 1 := btt0_4; have t2 : y123.toInt ≤ 0 := b135; have t3 : y273.toInt ≤ y123.toInt := b296; omega)), (show t0_6.toInt ≤ y275.toInt from (by have t1 : t0_6.toInt ≤ y125.toInt := b142; have t2 : y125.toInt ≤ y275.toInt := b299; omega)), (show y275.toInt ≤ t0_6.toInt from (by have t1 : y125.toInt ≤ t0_6.toInt := b143; have t2 : y275.toInt ≤ y125.toInt := b300; omega)), (show t0_8.toInt ≤ y277.toInt from (by have t1 : t0_8.toInt ≤ y127.toInt := b146; have t2 : y127.toInt ≤ y277.toInt := b303; omega)), (show y277.toInt ≤ t0_8.toInt from (by have t1 : y127.toInt ≤ t0_8.toInt := b147; have t2 : y277.toInt ≤ y127.toInt := b304; omega)), (show t0_9.toInt ≤ y278.toInt from (by have t1 : t0_9.toInt ≤ y128.toInt := b148; have t2 : y128.toInt ≤ y278.toInt := b306; omega)), (show y278.toInt ≤ t0_9.toInt from (by have t1 : y128.toInt ≤ t0_9.toInt := b149; have t2 : y278.toInt ≤ y128.toInt := b307; omega)), (show (y269, y270, y271, y272, y273, y274, y275, y276, y277, y278, y279, f280, f282, f284, f286, f288, t6_0, t7_0) = (F_DR_remainder x2 x3 x4 t0_0 t0_1 t0_2 t0_3 t0_4 t0_5 t0_6 t0_7 t0_8 t0_9 t0_10 t1_0 t2_0 t3_0 t4_0 t5_0 t6_0 t7_0) from Eq.trans (by rw [e329, e328, e327, e326, e325, e324, e323, e322, e321, e320, e319, e318, e317, e316, e315, e314, F_DR_remainder_c144_6.eq_1]) hR330)⟩) d_15_39_147
            ·
              refine lv_aload_n hx hb d_15_39_133 rfl (lv_at hl 1 rfl) ?_
              refine lv_iconst (v := 2) hx hb d_15_39_134 (by decide) ?_
              refine q_put (ci := 14) (j := 0) (v := .int 2) (ty := .int) C0 V i_DR o_DR n_DR rfl rfl hO118 (by decide) w_1996 rfl rfl rfl rfl (Nat.le_of_ble_eq_true rfl) d_15_39_135 (fun H locs w336 hu337 hO118 V => ?_)
              replace hO118 : w336[134]? = (some (q 134, .inr (14, [.int 2, .ref (q 135), .int y120, .ref (q 136), .ref (q 137), .ref (q 138), .ref (q 139), .ref (q 140), .int y121, .long y122, .int y123, .int y124, .ref (q 141), .int y125, .ref (q 142), .int y126, .ref (q 143), .int y127, .ref (q 144), .int y128, .int y129])) : Option (Nat × va_E)) := hO118
              replace hI := n_p134 hI hu337 hO118 ⟨(by have t1 : 0 ≤ t0_1.toInt ∧ t0_1.toInt ≤ 4100 := btt0_1; have t2 : t0_1.toInt ≤ y120.toInt := b138; omega), (by have t1 : 0 ≤ t0_1.toInt ∧ t0_1.toInt ≤ 4100 := btt0_1; have t2 : y120.toInt ≤ t0_1.toInt := b139; omega)⟩ ⟨(by first | with_reducible exact q_fe b134 | (have t1 : 0 ≤ y123.toInt := b134; omega)), (by first | with_reducible exact q_fe b135 | (have t1 : y123.toInt ≤ 0 := b135; omega))⟩ ⟨(by have t1 : 0 ≤ y123.toInt := b134; have t2 : y123.toInt ≤ y124.toInt := b154; omega), (by have t1 : y123.toInt ≤ 0 := b135; have t2 : y124.toInt ≤ y123.toInt + 1 := b153; omega)⟩ ⟨(by have t1 : 0 ≤ t0_9.toInt ∧ t0_9.toInt ≤ 12200 := btt0_9; have t2 : t0_9.toInt ≤ y128.toInt := b148; omega), (by have t1 : 0 ≤ t0_9.toInt ∧ t0_9.toInt ≤ 12200 := btt0_9; have t2 : y128.toInt ≤ t0_9.toInt := b149; omega)⟩
              replace hT1 := (hu337 _ (by decide)).trans hT1
              replace hT2 := (hu337 _ (by decide)).trans hT2
              replace hT3 := (hu337 _ (by decide)).trans hT3
              replace hT4 := (hu337 _ (by decide)).trans hT4
              replace hA131 := (hu337 _ (by decide)).trans hA131
              replace hT6 := (hu337 _ (by decide)).trans hT6
              replace hT7 := (hu337 _ (by decide)).trans hT7
              replace hF := q_us hF hu337 (by simp)
              exact q_retv C0 V (⟨hI, hF, 2, y120, y121, y122, y123, y124, y125, y126, y127, y128, y129, t1_0, t2_0, t3_0, t4_0, f130, t6_0, t7_0, hO118, hT1, hT2, hT3, hT4, hA131, hT6, hT7, (show 0 ≤ y123.toInt + 1 from (by have z21 : (2 : Int32).toInt = 2 := rfl; have t1 : 0 ≤ y123.toInt := b134; omega)), (show 0 ≤ y124.toInt from (by have z21 : (2 : Int32).toInt = 2 := rfl; have t1 : 0 ≤ y123.toInt := b134; have t2 : y123.toInt ≤ y124.toInt := b154; omega)), (show y124.toInt ≤ 1 from (by have z21 : (2 : Int32).toInt = 2 := rfl; have t1 : y123.toInt ≤ 0 := b135; have t2 : y124.toInt ≤ y123.toInt + 1 := b153; omega)), (show t0_1.toInt ≤ y120.toInt from (by have z21 : (2 : Int32).toInt = 2 := rfl; have t1 : t0_1.toInt ≤ y120.toInt := b138; omega)), (show y120.toInt ≤ t0_1.toInt from (by have z21 : (2 : Int32).toInt = 2 := rfl; have t1 : y120.toInt ≤ t0_1.toInt := b139; omega)), (show y123.toInt ≤ t0_4.toInt from (by have z21 : (2 : Int32).toInt = 2 := rfl; have t1 : 0 ≤ t0_4.toInt ∧ t0_4.toInt ≤ 1 := btt0_4; have t2 : y123.toInt ≤ 0 := b135; omega)), (show t0_6.toInt ≤ y125.toInt from (by have z21 : (2 : Int32).toInt = 2 := rfl; have t1 : t0_6.toInt ≤ y125.toInt := b142; omega)), (show y125.toInt ≤ t0_6.toInt from (by have z21 : (2 : Int32).toInt = 2 := rfl; have t1 : y125.toInt ≤ t0_6.toInt := b143; omega)), (show t0_8.toInt ≤ y127.toInt from (by have z21 : (2 : Int32).toInt = 2 := rfl; have t1 : t0_8.toInt ≤ y127.toInt := b146; omega)), (show y127.toInt ≤ t0_8.toInt from (by have z21 : (2 : Int32).toInt = 2 := rfl; have t1 : y127.toInt ≤ t0_8.toInt := b147; omega)), (show t0_9.toInt ≤ y128.toInt from (by have z21 : (2 : Int32).toInt = 2 := rfl; have t1 : t0_9.toInt ≤ y128.toInt := b148; omega)), (show y128.toInt ≤ t0_9.toInt from (by have z21 : (2 : Int32).toInt = 2 := rfl; have t1 : y128.toInt ≤ t0_9.toInt := b149; omega)), (show ((2 : Int32), y120, y121, y122, y123, y124, y125, y126, y127, y128, y129, t1_0, t2_0, t3_0, t4_0, f130, t6_0, t7_0) = (F_DR_remainder x2 x3 x4 t0_0 t0_1 t0_2 t0_3 t0_4 t0_5 t0_6 t0_7 t0_8 t0_9 t0_10 t1_0 t2_0 t3_0 t4_0 t5_0 t6_0 t7_0) from Eq.trans (by have c182x := c182; rw [← e180, ← e177, e162] at c182x; have c263x := c263; rw [e262, e169, e168, e167, e166, e165, e164, e163, e162, e161, e160, e159] at c263x; rw [e170, e169, e168, e167, e166, e165, e164, e163, e162, e161, e160, F_DR_remainder_c108.eq_1, if_neg c182x, if_pos c263x]) hR171)⟩) d_15_39_138
        ·
          intro J109
          refine lv_if_ne (tgt := 106) hx hb d_15_39_94 (by decide) (fun c338 => ?_) (fun c338 => ?_)
          ·
            exact J109 (()) _ _ _ w66 ⟨V, q_lw hl (q_lw1 0 rfl (q_lw1 1 rfl (q_lw1 2 rfl (q_lw1 4 rfl q_lw0)))), (show F_DR_remainder_J106 x2 x3 x4 t0_0 t0_1 t0_2 t0_3 t0_4 t0_5 t0_6 t0_7 t0_8 t0_9 t0_10 t1_0 t2_0 t3_0 t4_0 t5_0 t6_0 t7_0 lx45 lx76 = (F_DR_remainder x2 x3 x4 t0_0 t0_1 t0_2 t0_3 t0_4 t0_5 t0_6 t0_7 t0_8 t0_9 t0_10 t1_0 t2_0 t3_0 t4_0 t5_0 t6_0 t7_0) from Eq.trans (by have c338x := c338; rw [e100] at c338x; rw [F_DR_remainder_J87.eq_1, if_neg c338x]) hR88), (show True ∧ S_DR_remainder_J106 x2 x3 x4 t0_0 t0_1 t0_2 t0_3 t0_4 t0_5 t0_6 t0_7 t0_8 t0_9 t0_10 t1_0 t2_0 t3_0 t4_0 t5_0 t6_0 t7_0 lx45 lx76 from (by have h := hS89; rw [S_DR_remainder_J87.eq_1] at h; replace h := q_s2 h; have c338x := c338; rw [e100] at c338x; rw [if_neg c338x] at h; with_reducible exact h))⟩
          ·
            refine lv_aload_n hx hb d_15_39_97 rfl (lv_at hl 1 rfl) ?_
            refine lv_iload_n hx hb d_15_39_98 rfl (lv_at hl 2 rfl) ?_
            refine lv_iload_n hx hb d_15_39_99 rfl (lv_at hl 3 rfl) ?_
            have ob341 : True ∧ S_DR_compareSizes x2 x3 lx45 t0_1 t0_2 t0_3 t0_4 t0_5 t0_6 t0_7 t0_8 t0_9 (2 : Int32) t1_0 t2_0 t4_0 := (by have h := hS89; rw [S_DR_remainder_J87.eq_1] at h; replace h := q_s2 h; have c338x := c338; rw [e100] at c338x; rw [if_pos c338x] at h; with_reducible exact h.2.1)
            refine q_goi V (q_runV (As := [.int x2, .int x3]) (rest := []) (d := 1) (mc := 0) (ms := 0) (ci := 14) C0 V rfl LV_DR_123 (X_DR_compareSizes l D g q w66  x2 x3 hI lx45 t0_1 t0_2 t0_3 t0_4 t0_5 t0_6 t0_7 t0_8 t0_9 2 hT0 t1_0 hT1 t2_0 hT2 t4_0 hT4 ob341 _) rfl rfl hT0 rfl hl.1 rfl (Nat.le_of_ble_eq_true rfl) ⟨by decide, by decide⟩ ⟨Nat.le_of_ble_eq_true rfl, Nat.le_of_ble_eq_true rfl⟩ d_15_39_100) (fun a344 u342 H locs hp343 V => ?_)
            obtain ⟨rfl, hZ9⟩ := hp343
            replace hZ9 := hZ9.2.2.2.2.2
            obtain ⟨-, hE351⟩ := hZ9
            have e352 : a344 = (F_DR_compareSizes x2 x3 lx45 t0_1 t0_2 t0_3 t0_4 t0_5 t0_6 t0_7 t0_8 t0_9 (2 : Int32) t1_0 t2_0 t4_0) := hE351
            refine lv_if_ge (tgt := 148) hx hb d_15_39_103 (by decide) (fun c353 => ?_) (fun c353 => ?_)
            ·
              refine lv_lload hx hb d_15_39_148 (lv_at hl 0 rfl) ?_
              refine lv_aload_n hx hb d_15_39_150 rfl (lv_at hl 1 rfl) ?_
              refine q_get (ci := 14) (j := 6) (v := .ref (q 139)) C0 V i_DR rfl rfl hT0 (by decide) w_2008 rfl d_15_39_151 ?_
              refine lv_iload_n hx hb d_15_39_154 rfl (lv_at hl 3 rfl) ?_
              refine q_iald C0 V hT4 (q_ix (x := x3.toInt) rfl (by first | with_reducible exact q_fe ob72 | (have t1 : 0 ≤ x3.toInt := ob72; omega)) (by have t1 : 0 ≤ x3.toInt := ob72; have t2 : x3.toInt ≤ 9 := ob73; have e9 : (((10 : Int32).toNatClampNeg : Nat) : Int) = 10 := (by decide); omega)) d_15_39_155 ?_
              obtain ⟨a355, e356⟩ := q_nm (t4_0 x3.toNatClampNeg : Int32)
              refine q_ti (v := a355) e356 ?_
              refine lv_i2l hx hb d_15_39_156 rfl ?_
              obtain ⟨j357, e358⟩ := q_nm (a355.toInt64 : Int64)
              refine q_tl (v := j357) e358 ?_
              refine lv_lsub hx hb d_15_39_157 ?_
              obtain ⟨j360, e361⟩ := q_nm (lx76 - j357 : Int64)
              refine q_tl (v := j360) e361 ?_
              refine lv_lstore (lv' := [(6, .long j360), (4, .long lx76), (0, .ref (q 134)), (1, .int x2), (2, .int x3), (3, .int x4)]) hx hb d_15_39_158 hl (by decide) rfl (fun ls hl => ?_)
              refine lv_aload_n hx hb d_15_39_160 rfl (lv_at hl 2 rfl) ?_
              refine q_get (ci := 14) (j := 5) (v := .ref (q 138)) C0 V i_DR rfl rfl hT0 (by decide) w_2006 rfl d_15_39_161 ?_
              refine lv_iload_n hx hb d_15_39_164 rfl (lv_at hl 3 rfl) ?_
              refine q_zald C0 V hT3 (q_ix (x := x2.toInt) rfl (by first | with_reducible exact q_fe ob68 | (have t1 : 0 ≤ x2.toInt := ob68; omega)) (by have t1 : 0 ≤ x2.toInt := ob68; have t2 : x2.toInt ≤ 9 := ob69; omega)) d_15_39_165 ?_
              obtain ⟨a363, e364⟩ := q_nm (t3_0 x2.toNatClampNeg : Int32)
              refine q_ti (v := a363) e364 ?_
              refine lv_istore (lv' := [(8, .int a363), (6, .long j360), (4, .long lx76), (0, .ref (q 134)), (1, .int x2), (2, .int x3), (3, .int x4)]) hx hb d_15_39_166 hl (by decide) rfl (fun ls hl => ?_)
              refine lv_aload_n hx hb d_15_39_168 rfl (lv_at hl 3 rfl) ?_
              refine lv_iload_n hx hb d_15_39_169 rfl (lv_at hl 5 rfl) ?_
              refine lv_lload hx hb d_15_39_170 (lv_at hl 1 rfl) ?_
              refine lv_l2i hx hb d_15_39_172 rfl ?_
              obtain ⟨a365, e366⟩ := q_nm (j360.toInt32 : Int32)
              refine q_ti (v := a365) e366 ?_
              have ob367 : True ∧ S_DR_loadUnder x3 a365 lx45 t0_1 t0_2 t0_3 t0_4 t0_5 t0_6 t0_7 t0_8 t0_9 (2 : Int32) t1_0 t2_0 t6_0 := (by rw [← e366, ← e361, ← e358, ← e356]; have h := hS89; rw [S_DR_remainder_J87.eq_1] at h; replace h := q_s2 h; have c338x := c338; rw [e100] at c338x; rw [if_pos c338x] at h; replace h := q_s2 h; have c353x := c353; rw [e352] at c353x; rw [if_pos c353x] at h; with_reducible exact h.2.1)
              refine q_gov V (q_runV (As := [.int x3, .int a365]) (rest := []) (d := 1) (mc := 0) (ms := 0) (ci := 14) C0 V rfl LV_DR_150 (X_DR_loadUnder l D g q w66  x3 a365 hI lx45 t0_1 t0_2 t0_3 t0_4 t0_5 t0_6 t0_7 t0_8 t0_9 2 hT0 t1_0 hT1 t2_0 hT2 t6_0 hT6 ob367 _) rfl rfl hT0 rfl hl.1 rfl (Nat.le_of_ble_eq_true rfl) ⟨by decide, by decide⟩ ⟨Nat.le_of_ble_eq_true rfl, Nat.le_of_ble_eq_true rfl⟩ d_15_39_173) (fun u368 H locs hp369 V => ?_)
              obtain ⟨hI, hZ9⟩ := hp369
              obtain ⟨hu415, hZ9⟩ := hZ9
              obtain ⟨y371, hZ9⟩ := hZ9
              obtain ⟨y372, hZ9⟩ := hZ9
              obtain ⟨y373, hZ9⟩ := hZ9
              obtain ⟨y374, hZ9⟩ := hZ9
              obtain ⟨y375, hZ9⟩ := hZ9
              obtain ⟨y376, hZ9⟩ := hZ9
              obtain ⟨y377, hZ9⟩ := hZ9
              obtain ⟨y378, hZ9⟩ := hZ9
              obtain ⟨y379, hZ9⟩ := hZ9
              obtain ⟨y380, hZ9⟩ := hZ9
              obtain ⟨y381, hZ9⟩ := hZ9
              obtain ⟨f382, hZ9⟩ := hZ9
              obtain ⟨hO370, hZ9⟩ := hZ9
              obtain ⟨hA383, hZ9⟩ := hZ9
              replace hZ9 := hZ9.2.2.2.2.2
              obtain ⟨b389, hZ9⟩ := hZ9
              obtain ⟨b390, hZ9⟩ := hZ9
              replace hZ9 := hZ9.2.2.2.2.2.2
              obtain ⟨b397, hZ9⟩ := hZ9
              obtain ⟨b398, hZ9⟩ := hZ9
              replace hZ9 := hZ9.2.2
              obtain ⟨b401, hZ9⟩ := hZ9
              obtain ⟨b402, hZ9⟩ := hZ9
              obtain ⟨b403, hZ9⟩ := hZ9
              obtain ⟨b404, hZ9⟩ := hZ9
              replace hZ9 := hZ9.2
              obtain ⟨b406, hZ9⟩ := hZ9
              obtain ⟨b407, hZ9⟩ := hZ9
              replace hZ9 := hZ9.2.2
              obtain ⟨b410, hZ9⟩ := hZ9
              obtain ⟨b411, hZ9⟩ := hZ9
              replace hZ9 := hZ9.2
              obtain ⟨-, hE414⟩ := hZ9
              replace hO370 : u368[134]? = (some (q 134, .inr (14, [.int y371, .ref (q 135), .int y372, .ref (q 136), .ref (q 137), .ref (q 138), .ref (q 139), .ref (q 140), .int y373, .long y374, .int y375, .int y376, .ref (q 141), .int y377, .ref (q 142), .int y378, .ref (q 143), .int y379, .ref (q 144), .int y380, .int y381])) : Option (Nat × va_E)) := hO370
              replace hA383 : u368[142]? = (some (q 142, .inl (g 0, (2200 : Int32).toNatClampNeg, .inl f382)) : Option (Nat × va_E)) := hA383
              obtain ⟨p416, e417⟩ : ∃ z, z = (F_DR_loadUnder x3 a365 lx45 t0_1 t0_2 t0_3 t0_4 t0_5 t0_6 t0_7 t0_8 t0_9 (2 : Int32) t1_0 t2_0 t6_0) := ⟨_, rfl⟩
              have e418 : y371 = p416.1 := congrArg (fun z => z.1) (hE414.trans e417.symm)
              have e419 : y372 = p416.2.1 := congrArg (fun z => z.2.1) (hE414.trans e417.symm)
              have e420 : y373 = p416.2.2.1 := congrArg (fun z => z.2.2.1) (hE414.trans e417.symm)
              have e421 : y374 = p416.2.2.2.1 := congrArg (fun z => z.2.2.2.1) (hE414.trans e417.symm)
              have e422 : y375 = p416.2.2.2.2.1 := congrArg (fun z => z.2.2.2.2.1) (hE414.trans e417.symm)
              have e423 : y376 = p416.2.2.2.2.2.1 := congrArg (fun z => z.2.2.2.2.2.1) (hE414.trans e417.symm)
              have e424 : y377 = p416.2.2.2.2.2.2.1 := congrArg (fun z => z.2.2.2.2.2.2.1) (hE414.trans e417.symm)
              have e425 : y378 = p416.2.2.2.2.2.2.2.1 := congrArg (fun z => z.2.2.2.2.2.2.2.1) (hE414.trans e417.symm)
              have e426 : y379 = p416.2.2.2.2.2.2.2.2.1 := congrArg (fun z => z.2.2.2.2.2.2.2.2.1) (hE414.trans e417.symm)
              have e427 : y380 = p416.2.2.2.2.2.2.2.2.2.1 := congrArg (fun z => z.2.2.2.2.2.2.2.2.2.1) (hE414.trans e417.symm)
              have e428 : y381 = p416.2.2.2.2.2.2.2.2.2.2.1 := congrArg (fun z => z.2.2.2.2.2.2.2.2.2.2.1) (hE414.trans e417.symm)
              have e429 : f382 = p416.2.2.2.2.2.2.2.2.2.2.2 := congrArg (fun z => z.2.2.2.2.2.2.2.2.2.2.2) (hE414.trans e417.symm)
              replace b389 : q_F (t0_1.toInt ≤ y372.toInt) := b389
              replace b390 : q_F (y372.toInt ≤ t0_1.toInt) := b390
              replace b397 : q_F (t0_4.toInt ≤ y375.toInt) := b397
              replace b398 : q_F (y375.toInt ≤ t0_4.toInt) := b398
              replace b401 : q_F (t0_5.toInt ≤ y376.toInt) := b401
              replace b402 : q_F (y376.toInt ≤ t0_5.toInt) := b402
              replace b403 : q_F (t0_6.toInt ≤ y377.toInt) := b403
              replace b404 : q_F (y377.toInt ≤ t0_6.toInt) := b404
              replace b406 : q_F (t0_8.toInt ≤ y379.toInt) := b406
              replace b407 : q_F (y379.toInt ≤ t0_8.toInt) := b407
              replace b410 : q_F (t0_9.toInt ≤ y380.toInt) := b410
              replace b411 : q_F (y380.toInt ≤ t0_9.toInt) := b411
              replace hT1 := (hu415 _ (by decide)).trans hT1
              replace hT2 := (hu415 _ (by decide)).trans hT2
              replace hT3 := (hu415 _ (by decide)).trans hT3
              replace hT4 := (hu415 _ (by decide)).trans hT4
              replace hT5 := (hu415 _ (by decide)).trans hT5
              replace hT7 := (hu415 _ (by decide)).trans hT7
              replace hF := q_uc hF hu415 (by simp)
              have hR430 := (show F_DR_remainder_c173 x2 x3 x4 t0_0 t0_1 t0_2 t0_3 t0_4 t0_5 t0_6 t0_7 t0_8 t0_9 t0_10 t1_0 t2_0 t3_0 t4_0 t5_0 t6_0 t7_0 lx45 lx76 a363 j360 p416 = (F_DR_remainder x2 x3 x4 t0_0 t0_1 t0_2 t0_3 t0_4 t0_5 t0_6 t0_7 t0_8 t0_9 t0_10 t1_0 t2_0 t3_0 t4_0 t5_0 t6_0 t7_0) from Eq.trans (by have c338x := c338; rw [e100] at c338x; have c353x := c353; rw [e352] at c353x; rw [e417, ← e366, ← e364, ← e361, ← e358, ← e356, F_DR_remainder_J87.eq_1, if_pos c338x, if_pos c353x]) hR88)
              have hS431 := (show True ∧ S_DR_remainder_c173 x2 x3 x4 t0_0 t0_1 t0_2 t0_3 t0_4 t0_5 t0_6 t0_7 t0_8 t0_9 t0_10 t1_0 t2_0 t3_0 t4_0 t5_0 t6_0 t7_0 lx45 lx76 a363 j360 p416 from (by rw [e417, ← e366, ← e364, ← e361, ← e358, ← e356]; have h := hS89; rw [S_DR_remainder_J87.eq_1] at h; replace h := q_s2 h; have c338x := c338; rw [e100] at c338x; rw [if_pos c338x] at h; replace h := q_s2 h; have c353x := c353; rw [e352] at c353x; rw [if_pos c353x] at h; replace h := q_s2 h; with_reducible exact h))
              refine lv_aload_n hx hb d_15_39_176 rfl (lv_at hl 3 rfl) ?_
              have ob435 : True ∧ S_DR_beginQuotient y371 y372 y373 y374 y375 y376 y377 y378 y379 y380 y381 t7_0 := (by rw [e428, e427, e426, e425, e424, e423, e422, e421, e420, e419, e418]; have h := hS431; rw [S_DR_remainder_c173.eq_1] at h; with_reducible exact h.2.1)
              refine q_gov V (q_runV (As := []) (rest := []) (d := 1) (mc := 0) (ms := 0) (ci := 14) C0 V rfl LV_DR_154 (X_DR_beginQuotient l D g q u368   hI y371 y372 y373 y374 y375 y376 y377 y378 y379 y380 y381 hO370 t7_0 hT7 ob435 _) rfl rfl hO370 rfl hl.1 rfl (Nat.le_of_ble_eq_true rfl) ⟨by decide, by decide⟩ ⟨Nat.le_of_ble_eq_true rfl, Nat.le_of_ble_eq_true rfl⟩ d_15_39_177) (fun u436 H locs hp437 V => ?_)
              obtain ⟨hI, hZ9⟩ := hp437
              obtain ⟨hu476, hZ9⟩ := hZ9
              obtain ⟨y439, hZ9⟩ := hZ9
              obtain ⟨y440, hZ9⟩ := hZ9
              obtain ⟨y441, hZ9⟩ := hZ9
              obtain ⟨y442, hZ9⟩ := hZ9
              obtain ⟨y443, hZ9⟩ := hZ9
              obtain ⟨y444, hZ9⟩ := hZ9
              obtain ⟨y445, hZ9⟩ := hZ9
              obtain ⟨y446, hZ9⟩ := hZ9
              obtain ⟨y447, hZ9⟩ := hZ9
              obtain ⟨y448, hZ9⟩ := hZ9
              obtain ⟨y449, hZ9⟩ := hZ9
              obtain ⟨f450, hZ9⟩ := hZ9
              obtain ⟨hO438, hZ9⟩ := hZ9
              obtain ⟨hA451, hZ9⟩ := hZ9
              replace hZ9 := hZ9.2
              obtain ⟨b453, hZ9⟩ := hZ9
              replace hZ9 := hZ9.2.2
              obtain ⟨b456, hZ9⟩ := hZ9
              obtain ⟨b457, hZ9⟩ := hZ9
              replace hZ9 := hZ9.2.2
              obtain ⟨b460, hZ9⟩ := hZ9
              obtain ⟨b461, hZ9⟩ := hZ9
              obtain ⟨b462, hZ9⟩ := hZ9
              obtain ⟨b463, hZ9⟩ := hZ9
              obtain ⟨b464, hZ9⟩ := hZ9
              obtain ⟨b465, hZ9⟩ := hZ9
              replace hZ9 := hZ9.2.2
              obtain ⟨b468, hZ9⟩ := hZ9
              obtain ⟨b469, hZ9⟩ := hZ9
              obtain ⟨b470, hZ9⟩ := hZ9
              obtain ⟨b471, hZ9⟩ := hZ9
              replace hZ9 := hZ9.2.2
              obtain ⟨-, hE475⟩ := hZ9
              replace hO438 : u436[134]? = (some (q 134, .inr (14, [.int y439, .ref (q 135), .int y440, .ref (q 136), .ref (q 137), .ref (q 138), .ref (q 139), .ref (q 140), .int y441, .long y442, .int y443, .int y444, .ref (q 141), .int y445, .ref (q 142), .int y446, .ref (q 143), .int y447, .ref (q 144), .int y448, .int y449])) : Option (Nat × va_E)) := hO438
              replace hA451 : u436[143]? = (some (q 143, .inl (g 0, (2202 : Int32).toNatClampNeg, .inl f450)) : Option (Nat × va_E)) := hA451
              obtain ⟨p477, e478⟩ : ∃ z, z = (F_DR_beginQuotient y371 y372 y373 y374 y375 y376 y377 y378 y379 y380 y381 t7_0) := ⟨_, rfl⟩
              have e479 : y439 = p477.1 := congrArg (fun z => z.1) (hE475.trans e478.symm)
              have e480 : y440 = p477.2.1 := congrArg (fun z => z.2.1) (hE475.trans e478.symm)
              have e481 : y441 = p477.2.2.1 := congrArg (fun z => z.2.2.1) (hE475.trans e478.symm)
              have e482 : y442 = p477.2.2.2.1 := congrArg (fun z => z.2.2.2.1) (hE475.trans e478.symm)
              have e483 : y443 = p477.2.2.2.2.1 := congrArg (fun z => z.2.2.2.2.1) (hE475.trans e478.symm)
              have e484 : y444 = p477.2.2.2.2.2.1 := congrArg (fun z => z.2.2.2.2.2.1) (hE475.trans e478.symm)
              have e485 : y445 = p477.2.2.2.2.2.2.1 := congrArg (fun z => z.2.2.2.2.2.2.1) (hE475.trans e478.symm)
              have e486 : y446 = p477.2.2.2.2.2.2.2.1 := congrArg (fun z => z.2.2.2.2.2.2.2.1) (hE475.trans e478.symm)
              have e487 : y447 = p477.2.2.2.2.2.2.2.2.1 := congrArg (fun z => z.2.2.2.2.2.2.2.2.1) (hE475.trans e478.symm)
              have e488 : y448 = p477.2.2.2.2.2.2.2.2.2.1 := congrArg (fun z => z.2.2.2.2.2.2.2.2.2.1) (hE475.trans e478.symm)
              have e489 : y449 = p477.2.2.2.2.2.2.2.2.2.2.1 := congrArg (fun z => z.2.2.2.2.2.2.2.2.2.2.1) (hE475.trans e478.symm)
              have e490 : f450 = p477.2.2.2.2.2.2.2.2.2.2.2 := congrArg (fun z => z.2.2.2.2.2.2.2.2.2.2.2) (hE475.trans e478.symm)
              replace b453 : q_F (y441.toInt ≤ 0) := b453
              replace b456 : q_F (y372.toInt ≤ y440.toInt) := b456
              replace b457 : q_F (y440.toInt ≤ y372.toInt) := b457
              replace b460 : q_F (y375.toInt ≤ y443.toInt) := b460
              replace b461 : q_F (y443.toInt ≤ y375.toInt) := b461
              replace b462 : q_F (y376.toInt ≤ y444.toInt) := b462
              replace b463 : q_F (y444.toInt ≤ y376.toInt) := b463
              replace b464 : q_F (y377.toInt ≤ y445.toInt) := b464
              replace b465 : q_F (y445.toInt ≤ y377.toInt) := b465
              replace b468 : q_F (y379.toInt ≤ y447.toInt) := b468
              replace b469 : q_F (y447.toInt ≤ y379.toInt) := b469
              replace b470 : q_F (y380.toInt ≤ y448.toInt) := b470
              replace b471 : q_F (y448.toInt ≤ y380.toInt) := b471
              replace hT1 := (hu476 _ (by decide)).trans hT1
              replace hT2 := (hu476 _ (by decide)).trans hT2
              replace hT3 := (hu476 _ (by decide)).trans hT3
              replace hT4 := (hu476 _ (by decide)).trans hT4
              replace hT5 := (hu476 _ (by decide)).trans hT5
              replace hA383 := (hu476 _ (by decide)).trans hA383
              replace hF := q_uc hF hu476 (by simp)
              have hR491 := (show F_DR_remainder_c177 x2 x3 x4 t0_0 t0_1 t0_2 t0_3 t0_4 t0_5 t0_6 t0_7 t0_8 t0_9 t0_10 t1_0 t2_0 t3_0 t4_0 t5_0 t6_0 t7_0 lx45 lx76 a363 j360 p416 f382 p477 = (F_DR_remainder x2 x3 x4 t0_0 t0_1 t0_2 t0_3 t0_4 t0_5 t0_6 t0_7 t0_8 t0_9 t0_10 t1_0 t2_0 t3_0 t4_0 t5_0 t6_0 t7_0) from Eq.trans (by rw [e478, e429, e428, e427, e426, e425, e424, e423, e422, e421, e420, e419, e418, F_DR_remainder_c173.eq_1]) hR430)
              have hS492 := (show True ∧ S_DR_remainder_c177 x2 x3 x4 t0_0 t0_1 t0_2 t0_3 t0_4 t0_5 t0_6 t0_7 t0_8 t0_9 t0_10 t1_0 t2_0 t3_0 t4_0 t5_0 t6_0 t7_0 lx45 lx76 a363 j360 p416 f382 p477 from (by rw [e478, e429, e428, e427, e426, e425, e424, e423, e422, e421, e420, e419, e418]; have h := hS431; rw [S_DR_remainder_c173.eq_1] at h; replace h := q_s2 h; with_reducible exact h))
              refine lv_aload_n hx hb d_15_39_180 rfl (lv_at hl 3 rfl) ?_
              refine q_get (ci := 14) (j := 4) (v := .ref (q 137)) C0 V i_DR rfl rfl hO438 (by decide) w_2004 rfl d_15_39_181 ?_
              refine lv_iload_n hx hb d_15_39_184 rfl (lv_at hl 4 rfl) ?_
              refine q_iald C0 V hT2 (q_ix (x := x2.toInt) rfl (by first | with_reducible exact q_fe ob68 | (have t1 : 0 ≤ x2.toInt := ob68; omega)) (by have t1 : 0 ≤ x2.toInt := ob68; have t2 : x2.toInt ≤ 9 := ob69; have e9 : (((10 : Int32).toNatClampNeg : Nat) : Int) = 10 := (by decide); omega)) d_15_39_185 ?_
              obtain ⟨a496, e497⟩ := q_nm (t2_0 x2.toNatClampNeg : Int32)
              refine q_ti (v := a496) e497 ?_
              refine lv_i2l hx hb d_15_39_186 rfl ?_
              obtain ⟨j498, e499⟩ := q_nm (a496.toInt64 : Int64)
              refine q_tl (v := j498) e499 ?_
              refine lv_lload hx hb d_15_39_187 (lv_at hl 2 rfl) ?_
              refine lv_ladd hx hb d_15_39_189 ?_
              obtain ⟨j501, e502⟩ := q_nm (j498 + lx76 : Int64)
              refine q_tl (v := j501) e502 ?_
              refine lv_aload_n hx hb d_15_39_190 rfl (lv_at hl 3 rfl) ?_
              refine q_get (ci := 14) (j := 6) (v := .ref (q 139)) C0 V i_DR rfl rfl hO438 (by decide) w_2008 rfl d_15_39_191 ?_
              refine lv_iload_n hx hb d_15_39_194 rfl (lv_at hl 4 rfl) ?_
              refine q_iald C0 V hT4 (q_ix (x := x2.toInt) rfl (by first | with_reducible exact q_fe ob68 | (have t1 : 0 ≤ x2.toInt := ob68; omega)) (by have t1 : 0 ≤ x2.toInt := ob68; have t2 : x2.toInt ≤ 9 := ob69; have e9 : (((10 : Int32).toNatClampNeg : Nat) : Int) = 10 := (by decide); omega)) d_15_39_195 ?_
              obtain ⟨a504, e505⟩ := q_nm (t4_0 x2.toNatClampNeg : Int32)
              refine q_ti (v := a504) e505 ?_
              refine lv_i2l hx hb d_15_39_196 rfl ?_
              obtain ⟨j506, e507⟩ := q_nm (a504.toInt64 : Int64)
              refine q_tl (v := j506) e507 ?_
              refine lv_lsub hx hb d_15_39_197 ?_
              obtain ⟨j509, e510⟩ := q_nm (j501 - j506 : Int64)
              refine q_tl (v := j509) e510 ?_
              refine lv_lstore (lv' := [(9, .long j509), (8, .int a363), (6, .long j360), (4, .long lx76), (0, .ref (q 134)), (1, .int x2), (2, .int x3), (3, .int x4)]) hx hb d_15_39_198 hl (by decide) rfl (fun ls hl => ?_)
              refine lv_lconst (v := 0) hx hb d_15_39_200 (by decide) ?_
              refine lv_lstore (lv' := [(11, .long 0), (9, .long j509), (8, .int a363), (6, .long j360), (4, .long lx76), (0, .ref (q 134)), (1, .int x2), (2, .int x3), (3, .int x4)]) hx hb d_15_39_201 hl (by decide) rfl (fun ls hl => ?_)
              refine q_loop (X := Int64 × (Nat → Int32)) (fun z H locs ls w517 => q_F (y441.toInt ≤ z.1.toInt) ∧ q_Wd D g (va_A ws sz) s w517 H locs ∧ lv_has ls 14 [(11, .long z.1), (9, .long j509), (8, .int a363), (4, .long lx76), (0, .ref (q 134)), (1, .int x2), (3, .int x4)] ∧ q_I (msh g q) q w517 ∧ q_un ws w517 [134, 136, 137, 138, 139, 140, 142, 143] ∧ w517[134]? = (some (q 134, .inr (14, [.int y439, .ref (q 135), .int y440, .ref (q 136), .ref (q 137), .ref (q 138), .ref (q 139), .ref (q 140), .int y441, .long y442, .int y443, .int y444, .ref (q 141), .int y445, .ref (q 142), .int y446, .ref (q 143), .int y447, .ref (q 144), .int y448, .int y449])) : Option (Nat × va_E)) ∧ w517[136]? = (some (q 136, .inl (g 0, (10000 : Int32).toNatClampNeg, .inl t1_0)) : Option (Nat × va_E)) ∧ w517[137]? = (some (q 137, .inl (g 0, (10 : Int32).toNatClampNeg, .inl t2_0)) : Option (Nat × va_E)) ∧ w517[138]? = (some (q 138, .inl (g 3, 10, .inl t3_0)) : Option (Nat × va_E)) ∧ w517[139]? = (some (q 139, .inl (g 0, (10 : Int32).toNatClampNeg, .inl t4_0)) : Option (Nat × va_E)) ∧ w517[140]? = (some (q 140, .inl (g 0, (4400 : Int32).toNatClampNeg, .inl t5_0)) : Option (Nat × va_E)) ∧ w517[142]? = (some (q 142, .inl (g 0, (2200 : Int32).toNatClampNeg, .inl f382)) : Option (Nat × va_E)) ∧ w517[143]? = (some (q 143, .inl (g 0, (2202 : Int32).toNatClampNeg, .inl z.2)) : Option (Nat × va_E)) ∧ (∃ n, (j509.toInt - z.1.toInt).toNat < n ∧ F_DR_remainder_L203 x2 x3 x4 t0_0 t0_1 t0_2 t0_3 t0_4 t0_5 t0_6 t0_7 t0_8 t0_9 t0_10 t1_0 t2_0 t3_0 t4_0 t5_0 t6_0 t7_0 lx45 lx76 a363 j360 p416 f382 p477 j509 y439 y440 y441 y442 y443 y444 y445 y446 y447 y448 y449 n z.1 z.2 = (F_DR_remainder x2 x3 x4 t0_0 t0_1 t0_2 t0_3 t0_4 t0_5 t0_6 t0_7 t0_8 t0_9 t0_10 t1_0 t2_0 t3_0 t4_0 t5_0 t6_0 t7_0) ∧ True ∧ S_DR_remainder_L203 x2 x3 x4 t0_0 t0_1 t0_2 t0_3 t0_4 t0_5 t0_6 t0_7 t0_8 t0_9 t0_10 t1_0 t2_0 t3_0 t4_0 t5_0 t6_0 t7_0 lx45 lx76 a363 j360 p416 f382 p477 j509 y439 y440 y441 y442 y443 y444 y445 y446 y447 y448 y449 n z.1 z.2)) (fun z => (j509.toInt - z.1.toInt).toNat) ?_ ((0 : Int64), (f450 : (Nat → Int32))) _ _ _ u436 ⟨(show q_F (y441.toInt ≤ 0) from (show y441.toInt ≤ 0 from by have t1 : y441.toInt ≤ 0 := b453; omega)), V, q_lw hl (q_lw1 0 rfl (q_lw1 1 rfl (q_lw1 2 rfl (q_lw1 4 rfl (q_lw1 5 rfl (q_lw1 6 rfl (q_lw1 8 rfl q_lw0))))))), hI, hF, hO438, hT1, hT2, hT3, hT4, hT5, hA383, hA451, ⟨((j509.toInt - (0 : Int64).toInt).toNat + 1), Nat.lt_succ_self _, (show F_DR_remainder_L203 x2 x3 x4 t0_0 t0_1 t0_2 t0_3 t0_4 t0_5 t0_6 t0_7 t0_8 t0_9 t0_10 t1_0 t2_0 t3_0 t4_0 t5_0 t6_0 t7_0 lx45 lx76 a363 j360 p416 f382 p477 j509 y439 y440 y441 y442 y443 y444 y445 y446 y447 y448 y449 ((j509.toInt - (0 : Int64).toInt).toNat + 1) 0 f450 = (F_DR_remainder x2 x3 x4 t0_0 t0_1 t0_2 t0_3 t0_4 t0_5 t0_6 t0_7 t0_8 t0_9 t0_10 t1_0 t2_0 t3_0 t4_0 t5_0 t6_0 t7_0) from Eq.trans (by rw [← e510, ← e507, ← e505, ← e502, ← e499, ← e497, e490, e489, e488, e487, e486, e485, e484, e483, e482, e481, e480, e479, F_DR_remainder_c177.eq_1]) hR491), (show True ∧ S_DR_remainder_L203 x2 x3 x4 t0_0 t0_1 t0_2 t0_3 t0_4 t0_5 t0_6 t0_7 t0_8 t0_9 t0_10 t1_0 t2_0 t3_0 t4_0 t5_0 t6_0 t7_0 lx45 lx76 a363 j360 p416 f382 p477 j509 y439 y440 y441 y442 y443 y444 y445 y446 y447 y448 y449 ((j509.toInt - (0 : Int64).toInt).toNat + 1) 0 f450 from (by rw [← e510, ← e507, ← e505, ← e502, ← e499, ← e497, e490, e489, e488, e487, e486, e485, e484, e483, e482, e481, e480, e479]; have h := hS492; rw [S_DR_remainder_c177.eq_1] at h; with_reducible exact h))⟩⟩
              rintro ⟨lx513, lx514⟩ H locs ls w517 ⟨i515, V, hl, hI, hF, hO518, hO519, hO520, hO521, hO522, hO523, hO524, hO525, ⟨fu528, hf529, hR526, hS527⟩⟩ ih516
              obtain ⟨fm530, rfl⟩ : ∃ m, fu528 = m + 1 := ⟨fu528 - 1, by omega⟩
              replace i515 : q_F (y441.toInt ≤ lx513.toInt) := i515
              replace hl : lv_has ls 14 [(11, .long lx513), (9, .long j509), (8, .int a363), (4, .long lx76), (0, .ref (q 134)), (1, .int x2), (3, .int x4)] := hl
              replace hO518 : w517[134]? = (some (q 134, .inr (14, [.int y439, .ref (q 135), .int y440, .ref (q 136), .ref (q 137), .ref (q 138), .ref (q 139), .ref (q 140), .int y441, .long y442, .int y443, .int y444, .ref (q 141), .int y445, .ref (q 142), .int y446, .ref (q 143), .int y447, .ref (q 144), .int y448, .int y449])) : Option (Nat × va_E)) := hO518
              replace hO519 : w517[136]? = (some (q 136, .inl (g 0, (10000 : Int32).toNatClampNeg, .inl t1_0)) : Option (Nat × va_E)) := hO519
              replace hO520 : w517[137]? = (some (q 137, .inl (g 0, (10 : Int32).toNatClampNeg, .inl t2_0)) : Option (Nat × va_E)) := hO520
              replace hO521 : w517[138]? = (some (q 138, .inl (g 3, 10, .inl t3_0)) : Option (Nat × va_E)) := hO521
              replace hO522 : w517[139]? = (some (q 139, .inl (g 0, (10 : Int32).toNatClampNeg, .inl t4_0)) : Option (Nat × va_E)) := hO522
              replace hO523 : w517[140]? = (some (q 140, .inl (g 0, (4400 : Int32).toNatClampNeg, .inl t5_0)) : Option (Nat × va_E)) := hO523
              replace hO524 : w517[142]? = (some (q 142, .inl (g 0, (2200 : Int32).toNatClampNeg, .inl f382)) : Option (Nat × va_E)) := hO524
              replace hO525 : w517[143]? = (some (q 143, .inl (g 0, (2202 : Int32).toNatClampNeg, .inl lx514)) : Option (Nat × va_E)) := hO525
              refine lv_lload hx hb d_15_39_203 (lv_at hl 0 rfl) ?_
              refine lv_lload hx hb d_15_39_205 (lv_at hl 1 rfl) ?_
              refine W.lcmp hx hb d_15_39_207 ?_
              obtain ⟨a531, e532⟩ := q_nm (lg_cmp lx513 j509 : Int32)
              refine q_ti (v := a531) e532 ?_
              have b533 : q_F (-1 ≤ a531.toInt ∧ a531.toInt ≤ 1 ∧ ((a531.toInt = -1 ∧ lx513.toInt < j509.toInt) ∨ (a531.toInt = 0 ∧ lx513.toInt = j509.toInt) ∨ (a531.toInt = 1 ∧ j509.toInt < lx513.toInt))) := (by rw [← e532]; show -1 ≤ (lg_cmp lx513 j509 : Int32).toInt ∧ (lg_cmp lx513 j509 : Int32).toInt ≤ 1 ∧ (((lg_cmp lx513 j509 : Int32).toInt = -1 ∧ lx513.toInt < j509.toInt) ∨ ((lg_cmp lx513 j509 : Int32).toInt = 0 ∧ lx513.toInt = j509.toInt) ∨ ((lg_cmp lx513 j509 : Int32).toInt = 1 ∧ j509.toInt < lx513.toInt)); exact s_lcmp)
              refine lv_if_ge (tgt := 257) hx hb d_15_39_208 (by decide) (fun c534 => ?_) (fun c534 => ?_)
              ·
                refine lv_aload_n hx hb d_15_39_257 rfl (lv_at hl 4 rfl) ?_
                refine lv_aload_n hx hb d_15_39_258 rfl (lv_at hl 4 rfl) ?_
                refine q_get (ci := 14) (j := 15) (v := .int y446) C0 V i_DR rfl rfl hO518 (by decide) w_2018 rfl d_15_39_259 ?_
                refine lv_iconst (v := 1) hx hb d_15_39_262 (by decide) ?_
                refine lv_iadd hx hb d_15_39_263 ?_
                obtain ⟨a536, e537⟩ := q_nm (y446 + 1 : Int32)
                refine q_ti (v := a536) e537 ?_
                refine q_put (ci := 14) (j := 8) (v := .int a536) (ty := .int) C0 V i_DR o_DR n_DR rfl rfl hO518 (by decide) w_2011 rfl rfl rfl rfl (Nat.le_of_ble_eq_true rfl) d_15_39_264 (fun H locs w539 hu540 hO518 V => ?_)
                replace hO518 : w539[134]? = (some (q 134, .inr (14, [.int y439, .ref (q 135), .int y440, .ref (q 136), .ref (q 137), .ref (q 138), .ref (q 139), .ref (q 140), .int a536, .long y442, .int y443, .int y444, .ref (q 141), .int y445, .ref (q 142), .int y446, .ref (q 143), .int y447, .ref (q 144), .int y448, .int y449])) : Option (Nat × va_E)) := hO518
                replace hI := n_p134 hI hu540 hO518 ⟨(by have t1 : 0 ≤ t0_1.toInt ∧ t0_1.toInt ≤ 4100 := btt0_1; have t2 : t0_1.toInt ≤ y372.toInt := b389; have t3 : y372.toInt ≤ y440.toInt := b456; omega), (by have t1 : 0 ≤ t0_1.toInt ∧ t0_1.toInt ≤ 4100 := btt0_1; have t2 : y372.toInt ≤ t0_1.toInt := b390; have t3 : y440.toInt ≤ y372.toInt := b457; omega)⟩ ⟨(by have t1 : 0 ≤ t0_4.toInt ∧ t0_4.toInt ≤ 1 := btt0_4; have t2 : t0_4.toInt ≤ y375.toInt := b397; have t3 : y375.toInt ≤ y443.toInt := b460; omega), (by have t1 : 0 ≤ t0_4.toInt ∧ t0_4.toInt ≤ 1 := btt0_4; have t2 : y375.toInt ≤ t0_4.toInt := b398; have t3 : y443.toInt ≤ y375.toInt := b461; omega)⟩ ⟨(by have t1 : 0 ≤ t0_5.toInt ∧ t0_5.toInt ≤ 1 := btt0_5; have t2 : t0_5.toInt ≤ y376.toInt := b401; have t3 : y376.toInt ≤ y444.toInt := b462; omega), (by have t1 : 0 ≤ t0_5.toInt ∧ t0_5.toInt ≤ 1 := btt0_5; have t2 : y376.toInt ≤ t0_5.toInt := b402; have t3 : y444.toInt ≤ y376.toInt := b463; omega)⟩ ⟨(by have t1 : 0 ≤ t0_9.toInt ∧ t0_9.toInt ≤ 12200 := btt0_9; have t2 : t0_9.toInt ≤ y380.toInt := b410; have t3 : y380.toInt ≤ y448.toInt := b470; omega), (by have t1 : 0 ≤ t0_9.toInt ∧ t0_9.toInt ≤ 12200 := btt0_9; have t2 : y380.toInt ≤ t0_9.toInt := b411; have t3 : y448.toInt ≤ y380.toInt := b471; omega)⟩
                replace hO519 := (hu540 _ (by decide)).trans hO519
                replace hO520 := (hu540 _ (by decide)).trans hO520
                replace hO521 := (hu540 _ (by decide)).trans hO521
                replace hO522 := (hu540 _ (by decide)).trans hO522
                replace hO523 := (hu540 _ (by decide)).trans hO523
                replace hO524 := (hu540 _ (by decide)).trans hO524
                replace hO525 := (hu540 _ (by decide)).trans hO525
                replace hF := q_us hF hu540 (by simp)
                refine lv_iconst (v := 0) hx hb d_15_39_267 (by decide) ?_
                refine lv_istore (lv' := [(11, .int 0), (9, .long j509), (8, .int a363), (4, .long lx76), (0, .ref (q 134)), (1, .int x2), (3, .int x4)]) hx hb d_15_39_268 hl (by decide) rfl (fun ls hl => ?_)
                refine q_loop (X := Int32 × (Nat → Int32)) (fun z H locs ls w547 => q_F (0 ≤ z.1.toInt) ∧ q_F (z.1.toInt ≤ 4099) ∧ q_Wd D g (va_A ws sz) s w547 H locs ∧ lv_has ls 14 [(11, .int z.1), (8, .int a363), (4, .long lx76), (0, .ref (q 134)), (3, .int x4)] ∧ q_I (msh g q) q w547 ∧ q_un ws w547 [134, 136, 137, 138, 139, 140, 142, 143] ∧ w547[134]? = (some (q 134, .inr (14, [.int y439, .ref (q 135), .int y440, .ref (q 136), .ref (q 137), .ref (q 138), .ref (q 139), .ref (q 140), .int a536, .long y442, .int y443, .int y444, .ref (q 141), .int y445, .ref (q 142), .int y446, .ref (q 143), .int y447, .ref (q 144), .int y448, .int y449])) : Option (Nat × va_E)) ∧ w547[136]? = (some (q 136, .inl (g 0, (10000 : Int32).toNatClampNeg, .inl t1_0)) : Option (Nat × va_E)) ∧ w547[137]? = (some (q 137, .inl (g 0, (10 : Int32).toNatClampNeg, .inl t2_0)) : Option (Nat × va_E)) ∧ w547[138]? = (some (q 138, .inl (g 3, 10, .inl t3_0)) : Option (Nat × va_E)) ∧ w547[139]? = (some (q 139, .inl (g 0, (10 : Int32).toNatClampNeg, .inl t4_0)) : Option (Nat × va_E)) ∧ w547[140]? = (some (q 140, .inl (g 0, (4400 : Int32).toNatClampNeg, .inl z.2)) : Option (Nat × va_E)) ∧ w547[142]? = (some (q 142, .inl (g 0, (2200 : Int32).toNatClampNeg, .inl f382)) : Option (Nat × va_E)) ∧ w547[143]? = (some (q 143, .inl (g 0, (2202 : Int32).toNatClampNeg, .inl lx514)) : Option (Nat × va_E)) ∧ (∃ n, (4099 - z.1.toInt).toNat < n ∧ F_DR_remainder_L270 (F_DR_remainder_L203 x2 x3 x4 t0_0 t0_1 t0_2 t0_3 t0_4 t0_5 t0_6 t0_7 t0_8 t0_9 t0_10 t1_0 t2_0 t3_0 t4_0 t5_0 t6_0 t7_0 lx45 lx76 a363 j360 p416 f382 p477 j509 y439 y440 y441 y442 y443 y444 y445 y446 y447 y448 y449 fm530) x2 x3 x4 t0_0 t0_1 t0_2 t0_3 t0_4 t0_5 t0_6 t0_7 t0_8 t0_9 t0_10 t1_0 t2_0 t3_0 t4_0 t5_0 t6_0 t7_0 lx45 lx76 a363 j360 p416 f382 p477 j509 y439 y440 y441 y442 y443 y444 y445 y446 y447 y448 y449 lx513 lx514 a536 n z.1 z.2 = (F_DR_remainder x2 x3 x4 t0_0 t0_1 t0_2 t0_3 t0_4 t0_5 t0_6 t0_7 t0_8 t0_9 t0_10 t1_0 t2_0 t3_0 t4_0 t5_0 t6_0 t7_0) ∧ True ∧ S_DR_remainder_L270 (S_DR_remainder_L203 x2 x3 x4 t0_0 t0_1 t0_2 t0_3 t0_4 t0_5 t0_6 t0_7 t0_8 t0_9 t0_10 t1_0 t2_0 t3_0 t4_0 t5_0 t6_0 t7_0 lx45 lx76 a363 j360 p416 f382 p477 j509 y439 y440 y441 y442 y443 y444 y445 y446 y447 y448 y449 fm530) x2 x3 x4 t0_0 t0_1 t0_2 t0_3 t0_4 t0_5 t0_6 t0_7 t0_8 t0_9 t0_10 t1_0 t2_0 t3_0 t4_0 t5_0 t6_0 t7_0 lx45 lx76 a363 j360 p416 f382 p477 j509 y439 y440 y441 y442 y443 y444 y445 y446 y447 y448 y449 lx513 lx514 a536 n z.1 z.2)) (fun z => (4099 - z.1.toInt).toNat) ?_ ((0 : Int32), (t5_0 : (Nat → Int32))) _ _ _ w539 ⟨(show q_F (0 ≤ 0) from (show 0 ≤ 0 from by omega)), (show q_F (0 ≤ 4099) from (show 0 ≤ 4099 from by omega)), V, q_lw hl (q_lw1 0 rfl (q_lw1 2 rfl (q_lw1 3 rfl (q_lw1 4 rfl (q_lw1 6 rfl q_lw0))))), hI, hF, hO518, hO519, hO520, hO521, hO522, hO523, hO524, hO525, ⟨((4099 - (0 : Int32).toInt).toNat + 1), Nat.lt_succ_self _, (show F_DR_remainder_L270 (F_DR_remainder_L203 x2 x3 x4 t0_0 t0_1 t0_2 t0_3 t0_4 t0_5 t0_6 t0_7 t0_8 t0_9 t0_10 t1_0 t2_0 t3_0 t4_0 t5_0 t6_0 t7_0 lx45 lx76 a363 j360 p416 f382 p477 j509 y439 y440 y441 y442 y443 y444 y445 y446 y447 y448 y449 fm530) x2 x3 x4 t0_0 t0_1 t0_2 t0_3 t0_4 t0_5 t0_6 t0_7 t0_8 t0_9 t0_10 t1_0 t2_0 t3_0 t4_0 t5_0 t6_0 t7_0 lx45 lx76 a363 j360 p416 f382 p477 j509 y439 y440 y441 y442 y443 y444 y445 y446 y447 y448 y449 lx513 lx514 a536 ((4099 - (0 : Int32).toInt).toNat + 1) 0 t5_0 = (F_DR_remainder x2 x3 x4 t0_0 t0_1 t0_2 t0_3 t0_4 t0_5 t0_6 t0_7 t0_8 t0_9 t0_10 t1_0 t2_0 t3_0 t4_0 t5_0 t6_0 t7_0) from Eq.trans (by have c534x := c534; rw [← e532] at c534x; rw [← e537, F_DR_remainder_L203.eq_2, if_pos c534x]) hR526), (show True ∧ S_DR_remainder_L270 (S_DR_remainder_L203 x2 x3 x4 t0_0 t0_1 t0_2 t0_3 t0_4 t0_5 t0_6 t0_7 t0_8 t0_9 t0_10 t1_0 t2_0 t3_0 t4_0 t5_0 t6_0 t7_0 lx45 lx76 a363 j360 p416 f382 p477 j509 y439 y440 y441 y442 y443 y444 y445 y446 y447 y448 y449 fm530) x2 x3 x4 t0_0 t0_1 t0_2 t0_3 t0_4 t0_5 t0_6 t0_7 t0_8 t0_9 t0_10 t1_0 t2_0 t3_0 t4_0 t5_0 t6_0 t7_0 lx45 lx76 a363 j360 p416 f382 p477 j509 y439 y440 y441 y442 y443 y444 y445 y446 y447 y448 y449 lx513 lx514 a536 ((4099 - (0 : Int32).toInt).toNat + 1) 0 t5_0 from (by rw [← e537]; have h := hS527; rw [S_DR_remainder_L203.eq_2] at h; have c534x := c534; rw [← e532] at c534x; rw [if_pos c534x] at h; with_reducible exact h))⟩⟩
                rintro ⟨lx542, lx543⟩ H locs ls w547 ⟨i544, i545, V, hl, hI, hF, hO548, hO549, hO550, hO551, hO552, hO553, hO554, hO555, ⟨fu558, hf559, hR556, hS557⟩⟩ ih546
                obtain ⟨fm560, rfl⟩ : ∃ m, fu558 = m + 1 := ⟨fu558 - 1, by omega⟩
                replace i544 : q_F (0 ≤ lx542.toInt) := i544
                replace i545 : q_F (lx542.toInt ≤ 4099) := i545
                replace hl : lv_has ls 14 [(11, .int lx542), (8, .int a363), (4, .long lx76), (0, .ref (q 134)), (3, .int x4)] := hl
                replace hO548 : w547[134]? = (some (q 134, .inr (14, [.int y439, .ref (q 135), .int y440, .ref (q 136), .ref (q 137), .ref (q 138), .ref (q 139), .ref (q 140), .int a536, .long y442, .int y443, .int y444, .ref (q 141), .int y445, .ref (q 142), .int y446, .ref (q 143), .int y447, .ref (q 144), .int y448, .int y449])) : Option (Nat × va_E)) := hO548
                replace hO549 : w547[136]? = (some (q 136, .inl (g 0, (10000 : Int32).toNatClampNeg, .inl t1_0)) : Option (Nat × va_E)) := hO549
                replace hO550 : w547[137]? = (some (q 137, .inl (g 0, (10 : Int32).toNatClampNeg, .inl t2_0)) : Option (Nat × va_E)) := hO550
                replace hO551 : w547[138]? = (some (q 138, .inl (g 3, 10, .inl t3_0)) : Option (Nat × va_E)) := hO551
                replace hO552 : w547[139]? = (some (q 139, .inl (g 0, (10 : Int32).toNatClampNeg, .inl t4_0)) : Option (Nat × va_E)) := hO552
                replace hO553 : w547[140]? = (some (q 140, .inl (g 0, (4400 : Int32).toNatClampNeg, .inl lx543)) : Option (Nat × va_E)) := hO553
                replace hO554 : w547[142]? = (some (q 142, .inl (g 0, (2200 : Int32).toNatClampNeg, .inl f382)) : Option (Nat × va_E)) := hO554
                replace hO555 : w547[143]? = (some (q 143, .inl (g 0, (2202 : Int32).toNatClampNeg, .inl lx514)) : Option (Nat × va_E)) := hO555
                refine lv_iload hx hb d_15_39_270 (lv_at hl 0 rfl) ?_
                refine lv_aload_n hx hb d_15_39_272 rfl (lv_at hl 3 rfl) ?_
                refine q_get (ci := 14) (j := 8) (v := .int a536) C0 V i_DR rfl rfl hO548 (by decide) w_2011 rfl d_15_39_273 ?_
                refine lv_icmp_ge (tgt := 299) hx hb d_15_39_276 (by decide) (fun c561 => ?_) (fun c561 => ?_)
                ·
                  refine lv_aload_n hx hb d_15_39_299 rfl (lv_at hl 3 rfl) ?_
                  refine lv_iload hx hb d_15_39_300 (lv_at hl 1 rfl) ?_
                  have ob565 : q_F (0 ≤ a363.toInt) := (by have h := hS557; rw [S_DR_remainder_L270.eq_2] at h; rw [if_pos c561] at h; exact h.2.1)
                  have ob566 : q_F (a363.toInt ≤ 1) := (by have h := hS557; rw [S_DR_remainder_L270.eq_2] at h; rw [if_pos c561] at h; replace h := q_s2 h; exact h.2.1)
                  refine q_put (ci := 14) (j := 11) (v := .int a363) (ty := .boolean) C0 V i_DR o_DR n_DR rfl rfl hO548 (by decide) w_2014 rfl rfl (q_nz01 (q_Ile (x := 0) (y := a363.toInt) (by decide) rfl (by first | with_reducible exact q_fe ob565 | (have t1 : 0 ≤ a363.toInt := ob565; omega))) (q_Ile (x := a363.toInt) (y := 1) rfl (by decide) (by first | with_reducible exact q_fe ob566 | (have t1 : a363.toInt ≤ 1 := ob566; omega)))) (q_fz01 (q_Ile (x := 0) (y := a363.toInt) (by decide) rfl (by first | with_reducible exact q_fe ob565 | (have t1 : 0 ≤ a363.toInt := ob565; omega))) (q_Ile (x := a363.toInt) (y := 1) rfl (by decide) (by first | with_reducible exact q_fe ob566 | (have t1 : a363.toInt ≤ 1 := ob566; omega)))) (Nat.le_of_ble_eq_true rfl) d_15_39_302 (fun H locs w563 hu564 hO548 V => ?_)
                  replace hO548 : w563[134]? = (some (q 134, .inr (14, [.int y439, .ref (q 135), .int y440, .ref (q 136), .ref (q 137), .ref (q 138), .ref (q 139), .ref (q 140), .int a536, .long y442, .int y443, .int a363, .ref (q 141), .int y445, .ref (q 142), .int y446, .ref (q 143), .int y447, .ref (q 144), .int y448, .int y449])) : Option (Nat × va_E)) := hO548
                  replace hI := n_p134 hI hu564 hO548 ⟨(by have t1 : 0 ≤ t0_1.toInt ∧ t0_1.toInt ≤ 4100 := btt0_1; have t2 : t0_1.toInt ≤ y372.toInt := b389; have t3 : y372.toInt ≤ y440.toInt := b456; omega), (by have t1 : 0 ≤ t0_1.toInt ∧ t0_1.toInt ≤ 4100 := btt0_1; have t2 : y372.toInt ≤ t0_1.toInt := b390; have t3 : y440.toInt ≤ y372.toInt := b457; omega)⟩ ⟨(by have t1 : 0 ≤ t0_4.toInt ∧ t0_4.toInt ≤ 1 := btt0_4; have t2 : t0_4.toInt ≤ y375.toInt := b397; have t3 : y375.toInt ≤ y443.toInt := b460; omega), (by have t1 : 0 ≤ t0_4.toInt ∧ t0_4.toInt ≤ 1 := btt0_4; have t2 : y375.toInt ≤ t0_4.toInt := b398; have t3 : y443.toInt ≤ y375.toInt := b461; omega)⟩ ⟨(by first | with_reducible exact q_fe ob565 | (have t1 : 0 ≤ a363.toInt := ob565; omega)), (by first | with_reducible exact q_fe ob566 | (have t1 : a363.toInt ≤ 1 := ob566; omega))⟩ ⟨(by have t1 : 0 ≤ t0_9.toInt ∧ t0_9.toInt ≤ 12200 := btt0_9; have t2 : t0_9.toInt ≤ y380.toInt := b410; have t3 : y380.toInt ≤ y448.toInt := b470; omega), (by have t1 : 0 ≤ t0_9.toInt ∧ t0_9.toInt ≤ 12200 := btt0_9; have t2 : y380.toInt ≤ t0_9.toInt := b411; have t3 : y448.toInt ≤ y380.toInt := b471; omega)⟩
                  replace hO549 := (hu564 _ (by decide)).trans hO549
                  replace hO550 := (hu564 _ (by decide)).trans hO550
                  replace hO551 := (hu564 _ (by decide)).trans hO551
                  replace hO552 := (hu564 _ (by decide)).trans hO552
                  replace hO553 := (hu564 _ (by decide)).trans hO553
                  replace hO554 := (hu564 _ (by decide)).trans hO554
                  replace hO555 := (hu564 _ (by decide)).trans hO555
                  replace hF := q_us hF hu564 (by simp)
                  refine lv_aload_n hx hb d_15_39_305 rfl (lv_at hl 3 rfl) ?_
                  refine lv_lload hx hb d_15_39_306 (lv_at hl 2 rfl) ?_
                  refine q_put (ci := 14) (j := 9) (v := .long lx76) (ty := .long) C0 V i_DR o_DR n_DR rfl rfl hO548 (by decide) w_2012 rfl rfl rfl rfl (Nat.le_of_ble_eq_true rfl) d_15_39_308 (fun H locs w567 hu568 hO548 V => ?_)
                  replace hO548 : w567[134]? = (some (q 134, .inr (14, [.int y439, .ref (q 135), .int y440, .ref (q 136), .ref (q 137), .ref (q 138), .ref (q 139), .ref (q 140), .int a536, .long lx76, .int y443, .int a363, .ref (q 141), .int y445, .ref (q 142), .int y446, .ref (q 143), .int y447, .ref (q 144), .int y448, .int y449])) : Option (Nat × va_E)) := hO548
                  replace hI := n_p134 hI hu568 hO548 ⟨(by have t1 : 0 ≤ t0_1.toInt ∧ t0_1.toInt ≤ 4100 := btt0_1; have t2 : t0_1.toInt ≤ y372.toInt := b389; have t3 : y372.toInt ≤ y440.toInt := b456; omega), (by have t1 : 0 ≤ t0_1.toInt ∧ t0_1.toInt ≤ 4100 := btt0_1; have t2 : y372.toInt ≤ t0_1.toInt := b390; have t3 : y440.toInt ≤ y372.toInt := b457; omega)⟩ ⟨(by have t1 : 0 ≤ t0_4.toInt ∧ t0_4.toInt ≤ 1 := btt0_4; have t2 : t0_4.toInt ≤ y375.toInt := b397; have t3 : y375.toInt ≤ y443.toInt := b460; omega), (by have t1 : 0 ≤ t0_4.toInt ∧ t0_4.toInt ≤ 1 := btt0_4; have t2 : y375.toInt ≤ t0_4.toInt := b398; have t3 : y443.toInt ≤ y375.toInt := b461; omega)⟩ ⟨(by first | with_reducible exact q_fe ob565 | (have t1 : 0 ≤ a363.toInt := ob565; omega)), (by first | with_reducible exact q_fe ob566 | (have t1 : a363.toInt ≤ 1 := ob566; omega))⟩ ⟨(by have t1 : 0 ≤ t0_9.toInt ∧ t0_9.toInt ≤ 12200 := btt0_9; have t2 : t0_9.toInt ≤ y380.toInt := b410; have t3 : y380.toInt ≤ y448.toInt := b470; omega), (by have t1 : 0 ≤ t0_9.toInt ∧ t0_9.toInt ≤ 12200 := btt0_9; have t2 : y380.toInt ≤ t0_9.toInt := b411; have t3 : y448.toInt ≤ y380.toInt := b471; omega)⟩
                  replace hO549 := (hu568 _ (by decide)).trans hO549
                  replace hO550 := (hu568 _ (by decide)).trans hO550
                  replace hO551 := (hu568 _ (by decide)).trans hO551
                  replace hO552 := (hu568 _ (by decide)).trans hO552
                  replace hO553 := (hu568 _ (by decide)).trans hO553
                  replace hO554 := (hu568 _ (by decide)).trans hO554
                  replace hO555 := (hu568 _ (by decide)).trans hO555
                  replace hF := q_us hF hu568 (by simp)
                  refine lv_aload_n hx hb d_15_39_311 rfl (lv_at hl 3 rfl) ?_
                  refine lv_iconst (v := 0) hx hb d_15_39_312 (by decide) ?_
                  refine q_put (ci := 14) (j := 10) (v := .int 0) (ty := .boolean) C0 V i_DR o_DR n_DR rfl rfl hO548 (by decide) w_2013 rfl rfl rfl rfl (Nat.le_of_ble_eq_true rfl) d_15_39_313 (fun H locs w569 hu570 hO548 V => ?_)
                  replace hO548 : w569[134]? = (some (q 134, .inr (14, [.int y439, .ref (q 135), .int y440, .ref (q 136), .ref (q 137), .ref (q 138), .ref (q 139), .ref (q 140), .int a536, .long lx76, .int 0, .int a363, .ref (q 141), .int y445, .ref (q 142), .int y446, .ref (q 143), .int y447, .ref (q 144), .int y448, .int y449])) : Option (Nat × va_E)) := hO548
                  replace hI := n_p134 hI hu570 hO548 ⟨(by have t1 : 0 ≤ t0_1.toInt ∧ t0_1.toInt ≤ 4100 := btt0_1; have t2 : t0_1.toInt ≤ y372.toInt := b389; have t3 : y372.toInt ≤ y440.toInt := b456; omega), (by have t1 : 0 ≤ t0_1.toInt ∧ t0_1.toInt ≤ 4100 := btt0_1; have t2 : y372.toInt ≤ t0_1.toInt := b390; have t3 : y440.toInt ≤ y372.toInt := b457; omega)⟩ ⟨(by have z9 : (0 : Int32).toInt = 0 := rfl; omega), (by have z9 : (0 : Int32).toInt = 0 := rfl; omega)⟩ ⟨(by first | with_reducible exact q_fe ob565 | (have t1 : 0 ≤ a363.toInt := ob565; omega)), (by first | with_reducible exact q_fe ob566 | (have t1 : a363.toInt ≤ 1 := ob566; omega))⟩ ⟨(by have t1 : 0 ≤ t0_9.toInt ∧ t0_9.toInt ≤ 12200 := btt0_9; have t2 : t0_9.toInt ≤ y380.toInt := b410; have t3 : y380.toInt ≤ y448.toInt := b470; omega), (by have t1 : 0 ≤ t0_9.toInt ∧ t0_9.toInt ≤ 12200 := btt0_9; have t2 : y380.toInt ≤ t0_9.toInt := b411; have t3 : y448.toInt ≤ y380.toInt := b471; omega)⟩
                  replace hO549 := (hu570 _ (by decide)).trans hO549
                  replace hO550 := (hu570 _ (by decide)).trans hO550
                  replace hO551 := (hu570 _ (by decide)).trans hO551
                  replace hO552 := (hu570 _ (by decide)).trans hO552
                  replace hO553 := (hu570 _ (by decide)).trans hO553
                  replace hO554 := (hu570 _ (by decide)).trans hO554
                  replace hO555 := (hu570 _ (by decide)).trans hO555
                  replace hF := q_us hF hu570 (by simp)
                  refine lv_aload_n hx hb d_15_39_316 rfl (lv_at hl 3 rfl) ?_
                  refine lv_iload_n hx hb d_15_39_317 rfl (lv_at hl 4 rfl) ?_
                  have ob571 : True ∧ S_DR_store x4 y439 y440 a536 lx76 (0 : Int32) a363 y445 y446 y447 y448 y449 t1_0 t2_0 t3_0 t4_0 lx543 := (by have h := hS557; rw [S_DR_remainder_L270.eq_2] at h; rw [if_pos c561] at h; replace h := q_s2 h; replace h := q_s2 h; with_reducible exact h.2.1)
                  refine q_gov V (q_runV (As := [.int x4]) (rest := []) (d := 2) (mc := 0) (ms := 0) (ci := 14) C0 V rfl LV_DR_89 (X_DR_store l D g q w569  x4 hI y439 y440 a536 lx76 0 a363 y445 y446 y447 y448 y449 hO548 t1_0 hO549 t2_0 hO550 t3_0 hO551 t4_0 hO552 lx543 hO553 ob571 _) rfl rfl hO548 rfl hl.1 rfl (Nat.le_of_ble_eq_true rfl) ⟨by decide, by decide⟩ ⟨Nat.le_of_ble_eq_true rfl, Nat.le_of_ble_eq_true rfl⟩ d_15_39_318) (fun u572 H locs hp573 V => ?_)
                  obtain ⟨hI, hZ9⟩ := hp573
                  obtain ⟨hu619, hZ9⟩ := hZ9
                  obtain ⟨y575, hZ9⟩ := hZ9
                  obtain ⟨y576, hZ9⟩ := hZ9
                  obtain ⟨y577, hZ9⟩ := hZ9
                  obtain ⟨y578, hZ9⟩ := hZ9
                  obtain ⟨y579, hZ9⟩ := hZ9
                  obtain ⟨y580, hZ9⟩ := hZ9
                  obtain ⟨y581, hZ9⟩ := hZ9
                  obtain ⟨y582, hZ9⟩ := hZ9
                  obtain ⟨y583, hZ9⟩ := hZ9
                  obtain ⟨y584, hZ9⟩ := hZ9
                  obtain ⟨y585, hZ9⟩ := hZ9
                  obtain ⟨f586, hZ9⟩ := hZ9
                  obtain ⟨f588, hZ9⟩ := hZ9
                  obtain ⟨f590, hZ9⟩ := hZ9
                  obtain ⟨f592, hZ9⟩ := hZ9
                  obtain ⟨f594, hZ9⟩ := hZ9
                  obtain ⟨hO574, hZ9⟩ := hZ9
                  obtain ⟨hA587, hZ9⟩ := hZ9
                  obtain ⟨hA589, hZ9⟩ := hZ9
                  obtain ⟨hA591, hZ9⟩ := hZ9
                  obtain ⟨hA593, hZ9⟩ := hZ9
                  obtain ⟨hA595, hZ9⟩ := hZ9
                  obtain ⟨b596, hZ9⟩ := hZ9
                  obtain ⟨b597, hZ9⟩ := hZ9
                  obtain ⟨b598, hZ9⟩ := hZ9
                  replace hZ9 := hZ9.2.2.2.2
                  obtain ⟨b603, hZ9⟩ := hZ9
                  obtain ⟨b604, hZ9⟩ := hZ9
                  replace hZ9 := hZ9.2
                  obtain ⟨b606, hZ9⟩ := hZ9
                  obtain ⟨b607, hZ9⟩ := hZ9
                  obtain ⟨b608, hZ9⟩ := hZ9
                  replace hZ9 := hZ9.2.2
                  obtain ⟨b611, hZ9⟩ := hZ9
                  obtain ⟨b612, hZ9⟩ := hZ9
                  replace hZ9 := hZ9.2
                  obtain ⟨b614, hZ9⟩ := hZ9
                  obtain ⟨b615, hZ9⟩ := hZ9
                  replace hZ9 := hZ9.2
                  obtain ⟨-, hE618⟩ := hZ9
                  replace hO574 : u572[134]? = (some (q 134, .inr (14, [.int y575, .ref (q 135), .int y576, .ref (q 136), .ref (q 137), .ref (q 138), .ref (q 139), .ref (q 140), .int y577, .long y578, .int y579, .int y580, .ref (q 141), .int y581, .ref (q 142), .int y582, .ref (q 143), .int y583, .ref (q 144), .int y584, .int y585])) : Option (Nat × va_E)) := hO574
                  replace hA587 : u572[136]? = (some (q 136, .inl (g 0, (10000 : Int32).toNatClampNeg, .inl f586)) : Option (Nat × va_E)) := hA587
                  replace hA589 : u572[137]? = (some (q 137, .inl (g 0, (10 : Int32).toNatClampNeg, .inl f588)) : Option (Nat × va_E)) := hA589
                  replace hA591 : u572[138]? = (some (q 138, .inl (g 3, 10, .inl f590)) : Option (Nat × va_E)) := hA591
                  replace hA593 : u572[139]? = (some (q 139, .inl (g 0, (10 : Int32).toNatClampNeg, .inl f592)) : Option (Nat × va_E)) := hA593
                  replace hA595 : u572[140]? = (some (q 140, .inl (g 0, (4400 : Int32).toNatClampNeg, .inl f594)) : Option (Nat × va_E)) := hA595
                  obtain ⟨p620, e621⟩ : ∃ z, z = (F_DR_store x4 y439 y440 a536 lx76 (0 : Int32) a363 y445 y446 y447 y448 y449 t1_0 t2_0 t3_0 t4_0 lx543) := ⟨_, rfl⟩
                  have e622 : y575 = p620.1 := congrArg (fun z => z.1) (hE618.trans e621.symm)
                  have e623 : y576 = p620.2.1 := congrArg (fun z => z.2.1) (hE618.trans e621.symm)
                  have e624 : y577 = p620.2.2.1 := congrArg (fun z => z.2.2.1) (hE618.trans e621.symm)
                  have e625 : y578 = p620.2.2.2.1 := congrArg (fun z => z.2.2.2.1) (hE618.trans e621.symm)
                  have e626 : y579 = p620.2.2.2.2.1 := congrArg (fun z => z.2.2.2.2.1) (hE618.trans e621.symm)
                  have e627 : y580 = p620.2.2.2.2.2.1 := congrArg (fun z => z.2.2.2.2.2.1) (hE618.trans e621.symm)
                  have e628 : y581 = p620.2.2.2.2.2.2.1 := congrArg (fun z => z.2.2.2.2.2.2.1) (hE618.trans e621.symm)
                  have e629 : y582 = p620.2.2.2.2.2.2.2.1 := congrArg (fun z => z.2.2.2.2.2.2.2.1) (hE618.trans e621.symm)
                  have e630 : y583 = p620.2.2.2.2.2.2.2.2.1 := congrArg (fun z => z.2.2.2.2.2.2.2.2.1) (hE618.trans e621.symm)
                  have e631 : y584 = p620.2.2.2.2.2.2.2.2.2.1 := congrArg (fun z => z.2.2.2.2.2.2.2.2.2.1) (hE618.trans e621.symm)
                  have e632 : y585 = p620.2.2.2.2.2.2.2.2.2.2.1 := congrArg (fun z => z.2.2.2.2.2.2.2.2.2.2.1) (hE618.trans e621.symm)
                  have e633 : f586 = p620.2.2.2.2.2.2.2.2.2.2.2.1 := congrArg (fun z => z.2.2.2.2.2.2.2.2.2.2.2.1) (hE618.trans e621.symm)
                  have e634 : f588 = p620.2.2.2.2.2.2.2.2.2.2.2.2.1 := congrArg (fun z => z.2.2.2.2.2.2.2.2.2.2.2.2.1) (hE618.trans e621.symm)
                  have e635 : f590 = p620.2.2.2.2.2.2.2.2.2.2.2.2.2.1 := congrArg (fun z => z.2.2.2.2.2.2.2.2.2.2.2.2.2.1) (hE618.trans e621.symm)
                  have e636 : f592 = p620.2.2.2.2.2.2.2.2.2.2.2.2.2.2.1 := congrArg (fun z => z.2.2.2.2.2.2.2.2.2.2.2.2.2.2.1) (hE618.trans e621.symm)
                  have e637 : f594 = p620.2.2.2.2.2.2.2.2.2.2.2.2.2.2.2 := congrArg (fun z => z.2.2.2.2.2.2.2.2.2.2.2.2.2.2.2) (hE618.trans e621.symm)
                  replace b596 : q_F (0 ≤ y580.toInt) := b596
                  replace b597 : q_F (y440.toInt ≤ y576.toInt) := b597
                  replace b598 : q_F (y576.toInt ≤ y440.toInt) := b598
                  replace b603 : q_F (0 ≤ y579.toInt) := b603
                  replace b604 : q_F (y579.toInt ≤ 0) := b604
                  replace b606 : q_F (y580.toInt ≤ a363.toInt) := b606
                  replace b607 : q_F (y445.toInt ≤ y581.toInt) := b607
                  replace b608 : q_F (y581.toInt ≤ y445.toInt) := b608
                  replace b611 : q_F (y447.toInt ≤ y583.toInt) := b611
                  replace b612 : q_F (y583.toInt ≤ y447.toInt) := b612
                  replace b614 : q_F (y448.toInt ≤ y584.toInt) := b614
                  replace b615 : q_F (y584.toInt ≤ y448.toInt) := b615
                  replace hO554 := (hu619 _ (by decide)).trans hO554
                  replace hO555 := (hu619 _ (by decide)).trans hO555
                  replace hF := q_uc hF hu619 (by simp)
                  have hR638 := (show F_DR_remainder_c318 (F_DR_remainder_L203 x2 x3 x4 t0_0 t0_1 t0_2 t0_3 t0_4 t0_5 t0_6 t0_7 t0_8 t0_9 t0_10 t1_0 t2_0 t3_0 t4_0 t5_0 t6_0 t7_0 lx45 lx76 a363 j360 p416 f382 p477 j509 y439 y440 y441 y442 y443 y444 y445 y446 y447 y448 y449 fm530) (F_DR_remainder_L270 (F_DR_remainder_L203 x2 x3 x4 t0_0 t0_1 t0_2 t0_3 t0_4 t0_5 t0_6 t0_7 t0_8 t0_9 t0_10 t1_0 t2_0 t3_0 t4_0 t5_0 t6_0 t7_0 lx45 lx76 a363 j360 p416 f382 p477 j509 y439 y440 y441 y442 y443 y444 y445 y446 y447 y448 y449 fm530) x2 x3 x4 t0_0 t0_1 t0_2 t0_3 t0_4 t0_5 t0_6 t0_7 t0_8 t0_9 t0_10 t1_0 t2_0 t3_0 t4_0 t5_0 t6_0 t7_0 lx45 lx76 a363 j360 p416 f382 p477 j509 y439 y440 y441 y442 y443 y444 y445 y446 y447 y448 y449 lx513 lx514 a536 fm560) x2 x3 x4 t0_0 t0_1 t0_2 t0_3 t0_4 t0_5 t0_6 t0_7 t0_8 t0_9 t0_10 t1_0 t2_0 t3_0 t4_0 t5_0 t6_0 t7_0 lx45 lx76 a363 j360 p416 f382 p477 j509 y439 y440 y441 y442 y443 y444 y445 y446 y447 y448 y449 lx513 lx514 a536 lx542 lx543 p620 = (F_DR_remainder x2 x3 x4 t0_0 t0_1 t0_2 t0_3 t0_4 t0_5 t0_6 t0_7 t0_8 t0_9 t0_10 t1_0 t2_0 t3_0 t4_0 t5_0 t6_0 t7_0) from Eq.trans (by rw [e621, F_DR_remainder_L270.eq_2, if_pos c561]) hR556)
                  have hS639 := (show True ∧ S_DR_remainder_c318 (S_DR_remainder_L203 x2 x3 x4 t0_0 t0_1 t0_2 t0_3 t0_4 t0_5 t0_6 t0_7 t0_8 t0_9 t0_10 t1_0 t2_0 t3_0 t4_0 t5_0 t6_0 t7_0 lx45 lx76 a363 j360 p416 f382 p477 j509 y439 y440 y441 y442 y443 y444 y445 y446 y447 y448 y449 fm530) (S_DR_remainder_L270 (S_DR_remainder_L203 x2 x3 x4 t0_0 t0_1 t0_2 t0_3 t0_4 t0_5 t0_6 t0_7 t0_8 t0_9 t0_10 t1_0 t2_0 t3_0 t4_0 t5_0 t6_0 t7_0 lx45 lx76 a363 j360 p416 f382 p477 j509 y439 y440 y441 y442 y443 y444 y445 y446 y447 y448 y449 fm530) x2 x3 x4 t0_0 t0_1 t0_2 t0_3 t0_4 t0_5 t0_6 t0_7 t0_8 t0_9 t0_10 t1_0 t2_0 t3_0 t4_0 t5_0 t6_0 t7_0 lx45 lx76 a363 j360 p416 f382 p477 j509 y439 y440 y441 y442 y443 y444 y445 y446 y447 y448 y449 lx513 lx514 a536 fm560) x2 x3 x4 t0_0 t0_1 t0_2 t0_3 t0_4 t0_5 t0_6 t0_7 t0_8 t0_9 t0_10 t1_0 t2_0 t3_0 t4_0 t5_0 t6_0 t7_0 lx45 lx76 a363 j360 p416 f382 p477 j509 y439 y440 y441 y442 y443 y444 y445 y446 y447 y448 y449 lx513 lx514 a536 lx542 lx543 p620 from (by rw [e621]; have h := hS557; rw [S_DR_remainder_L270.eq_2] at h; rw [if_pos c561] at h; replace h := q_s2 h; replace h := q_s2 h; replace h := q_s2 h; with_reducible exact h))
                  exact q_retv C0 V (⟨hI, hF, y575, y576, y577, y578, y579, y580, y581, y582, y583, y584, y585, f586, f588, f590, f592, f594, f382, lx514, hO574, hA587, hA589, hA591, hA593, hA595, hO554, hO555, (show 0 ≤ y579.toInt + 1 from (by first | with_reducible exact q_fe b603 | (have t1 : 0 ≤ y579.toInt := b603; omega))), (show 0 ≤ y580.toInt from (by first | with_reducible exact q_fe b596 | (have t1 : 0 ≤ y580.toInt := b596; omega))), (show y580.toInt ≤ 1 from (by have t1 : a363.toInt ≤ 1 := ob566; have t2 : y580.toInt ≤ a363.toInt := b606; omega)), (show t0_1.toInt ≤ y576.toInt from (by have t1 : t0_1.toInt ≤ y372.toInt := b389; have t2 : y372.toInt ≤ y440.toInt := b456; have t3 : y440.toInt ≤ y576.toInt := b597; omega)), (show y576.toInt ≤ t0_1.toInt from (by have t1 : y372.toInt ≤ t0_1.toInt := b390; have t2 : y440.toInt ≤ y372.toInt := b457; have t3 : y576.toInt ≤ y440.toInt := b598; omega)), (show y579.toInt ≤ t0_4.toInt from (by have t1 : 0 ≤ t0_4.toInt ∧ t0_4.toInt ≤ 1 := btt0_4; have t2 : y579.toInt ≤ 0 := b604; omega)), (show t0_6.toInt ≤ y581.toInt from (by have t1 : t0_6.toInt ≤ y377.toInt := b403; have t2 : y377.toInt ≤ y445.toInt := b464; have t3 : y445.toInt ≤ y581.toInt := b607; omega)), (show y581.toInt ≤ t0_6.toInt from (by have t1 : y377.toInt ≤ t0_6.toInt := b404; have t2 : y445.toInt ≤ y377.toInt := b465; have t3 : y581.toInt ≤ y445.toInt := b608; omega)), (show t0_8.toInt ≤ y583.toInt from (by have t1 : t0_8.toInt ≤ y379.toInt := b406; have t2 : y379.toInt ≤ y447.toInt := b468; have t3 : y447.toInt ≤ y583.toInt := b611; omega)), (show y583.toInt ≤ t0_8.toInt from (by have t1 : y379.toInt ≤ t0_8.toInt := b407; have t2 : y447.toInt ≤ y379.toInt := b469; have t3 : y583.toInt ≤ y447.toInt := b612; omega)), (show t0_9.toInt ≤ y584.toInt from (by have t1 : t0_9.toInt ≤ y380.toInt := b410; have t2 : y380.toInt ≤ y448.toInt := b470; have t3 : y448.toInt ≤ y584.toInt := b614; omega)), (show y584.toInt ≤ t0_9.toInt from (by have t1 : y380.toInt ≤ t0_9.toInt := b411; have t2 : y448.toInt ≤ y380.toInt := b471; have t3 : y584.toInt ≤ y448.toInt := b615; omega)), (show (y575, y576, y577, y578, y579, y580, y581, y582, y583, y584, y585, f586, f588, f590, f592, f594, f382, lx514) = (F_DR_remainder x2 x3 x4 t0_0 t0_1 t0_2 t0_3 t0_4 t0_5 t0_6 t0_7 t0_8 t0_9 t0_10 t1_0 t2_0 t3_0 t4_0 t5_0 t6_0 t7_0) from Eq.trans (by rw [e637, e636, e635, e634, e633, e632, e631, e630, e629, e628, e627, e626, e625, e624, e623, e622, F_DR_remainder_c318.eq_1]) hR638)⟩) d_15_39_321
                ·
                  refine lv_aload_n hx hb d_15_39_279 rfl (lv_at hl 3 rfl) ?_
                  refine q_get (ci := 14) (j := 7) (v := .ref (q 140)) C0 V i_DR rfl rfl hO548 (by decide) w_2010 rfl d_15_39_280 ?_
                  refine lv_iload hx hb d_15_39_283 (lv_at hl 0 rfl) ?_
                  refine lv_aload_n hx hb d_15_39_285 rfl (lv_at hl 3 rfl) ?_
                  refine q_get (ci := 14) (j := 16) (v := .ref (q 143)) C0 V i_DR rfl rfl hO548 (by decide) w_2019 rfl d_15_39_286 ?_
                  refine lv_iload hx hb d_15_39_289 (lv_at hl 0 rfl) ?_
                  have ob644 : q_F (lx542.toInt ≤ 2201) := (by have h := hS557; rw [S_DR_remainder_L270.eq_2] at h; rw [if_neg c561] at h; exact h.2.1)
                  refine q_iald C0 V hO555 (q_ix (x := lx542.toInt) rfl (by first | with_reducible exact q_fe i544 | (have t1 : 0 ≤ lx542.toInt := i544; omega)) (by have t1 : 0 ≤ lx542.toInt := i544; have t2 : lx542.toInt ≤ 2201 := ob644; have e9 : (((2202 : Int32).toNatClampNeg : Nat) : Int) = 2202 := (by decide); omega)) d_15_39_291 ?_
                  obtain ⟨a645, e646⟩ := q_nm (lx514 lx542.toNatClampNeg : Int32)
                  refine q_ti (v := a645) e646 ?_
                  refine q_iast C0 V hO553 (q_ix (x := lx542.toInt) rfl (by first | with_reducible exact q_fe i544 | (have t1 : 0 ≤ lx542.toInt := i544; omega)) (by have t1 : 0 ≤ lx542.toInt := i544; have t2 : lx542.toInt ≤ 4099 := i545; have e9 : (((4400 : Int32).toNatClampNeg : Nat) : Int) = 4400 := (by decide); omega)) d_15_39_292 (fun H locs w647 hu648 hO553 V => ?_)
                  replace hI := n_ai' hI (n_r140 g q).1 hu648 hO553 (q_updB (fun _ => s_bnd) s_bnd)
                  replace hO548 := (hu648 _ (by decide)).trans hO548
                  replace hO549 := (hu648 _ (by decide)).trans hO549
                  replace hO550 := (hu648 _ (by decide)).trans hO550
                  replace hO551 := (hu648 _ (by decide)).trans hO551
                  replace hO552 := (hu648 _ (by decide)).trans hO552
                  replace hO554 := (hu648 _ (by decide)).trans hO554
                  replace hO555 := (hu648 _ (by decide)).trans hO555
                  replace hF := q_us hF hu648 (by simp)
                  obtain ⟨f649, e650⟩ := q_nm (upd lx543 lx542.toNatClampNeg a645 : (Nat → Int32))
                  rw [e650] at hO553
                  obtain ⟨a651, e652⟩ := q_nm (lx542 + 1 : Int32)
                  have b653 : q_F (a651.toInt = lx542.toInt + 1) := (by rw [← e652]; exact q_addI (y := 1) rfl (by decide) (by have t1 : 0 ≤ lx542.toInt := i544; have t2 : lx542.toInt ≤ 4099 := i545; omega) (by have t1 : 0 ≤ lx542.toInt := i544; have t2 : lx542.toInt ≤ 4099 := i545; omega))
                  refine lv_iinc (v := a651) (lv' := [(11, .int a651), (8, .int a363), (4, .long lx76), (0, .ref (q 134)), (3, .int x4)]) hx hb d_15_39_293 hl (k := 0) rfl (e652) (by decide) rfl (fun ls hl => ?_)
                  refine lv_goto (tgt := 270) hx hb d_15_39_296 (by decide) ?_
                  exact ih546 ((a651 : Int32), (f649 : (Nat → Int32))) _ _ _ _ (show (4099 - a651.toInt).toNat < (4099 - lx542.toInt).toNat from by have t1 : a651.toInt = lx542.toInt + 1 := b653; have t2 : lx542.toInt ≤ 4099 := i545; have t3 : lx542.toInt ≤ 2201 := ob644; omega) ⟨(show q_F (0 ≤ a651.toInt) from (show 0 ≤ a651.toInt from by have t1 : 0 ≤ lx542.toInt := i544; have t2 : a651.toInt = lx542.toInt + 1 := b653; omega)), (show q_F (a651.toInt ≤ 4099) from (show a651.toInt ≤ 4099 from by have t1 : lx542.toInt ≤ 2201 := ob644; have t2 : a651.toInt = lx542.toInt + 1 := b653; omega)), V, q_lw hl (q_lw1 0 rfl (q_lw1 1 rfl (q_lw1 2 rfl (q_lw1 3 rfl (q_lw1 4 rfl q_lw0))))), hI, hF, hO548, hO549, hO550, hO551, hO552, hO553, hO554, hO555, ⟨fm560, Nat.lt_of_lt_of_le (show (4099 - a651.toInt).toNat < (4099 - lx542.toInt).toNat from by have t1 : a651.toInt = lx542.toInt + 1 := b653; have t2 : lx542.toInt ≤ 4099 := i545; have t3 : lx542.toInt ≤ 2201 := ob644; omega) (Nat.le_of_lt_succ hf559), (show F_DR_remainder_L270 (F_DR_remainder_L203 x2 x3 x4 t0_0 t0_1 t0_2 t0_3 t0_4 t0_5 t0_6 t0_7 t0_8 t0_9 t0_10 t1_0 t2_0 t3_0 t4_0 t5_0 t6_0 t7_0 lx45 lx76 a363 j360 p416 f382 p477 j509 y439 y440 y441 y442 y443 y444 y445 y446 y447 y448 y449 fm530) x2 x3 x4 t0_0 t0_1 t0_2 t0_3 t0_4 t0_5 t0_6 t0_7 t0_8 t0_9 t0_10 t1_0 t2_0 t3_0 t4_0 t5_0 t6_0 t7_0 lx45 lx76 a363 j360 p416 f382 p477 j509 y439 y440 y441 y442 y443 y444 y445 y446 y447 y448 y449 lx513 lx514 a536 fm560 a651 f649 = (F_DR_remainder x2 x3 x4 t0_0 t0_1 t0_2 t0_3 t0_4 t0_5 t0_6 t0_7 t0_8 t0_9 t0_10 t1_0 t2_0 t3_0 t4_0 t5_0 t6_0 t7_0) from Eq.trans (by rw [← e652, ← e650, ← e646, F_DR_remainder_L270.eq_2, if_neg c561]) hR556), (show True ∧ S_DR_remainder_L270 (S_DR_remainder_L203 x2 x3 x4 t0_0 t0_1 t0_2 t0_3 t0_4 t0_5 t0_6 t0_7 t0_8 t0_9 t0_10 t1_0 t2_0 t3_0 t4_0 t5_0 t6_0 t7_0 lx45 lx76 a363 j360 p416 f382 p477 j509 y439 y440 y441 y442 y443 y444 y445 y446 y447 y448 y449 fm530) x2 x3 x4 t0_0 t0_1 t0_2 t0_3 t0_4 t0_5 t0_6 t0_7 t0_8 t0_9 t0_10 t1_0 t2_0 t3_0 t4_0 t5_0 t6_0 t7_0 lx45 lx76 a363 j360 p416 f382 p477 j509 y439 y440 y441 y442 y443 y444 y445 y446 y447 y448 y449 lx513 lx514 a536 fm560 a651 f649 from (by rw [← e652, ← e650, ← e646]; have h := hS557; rw [S_DR_remainder_L270.eq_2] at h; rw [if_neg c561] at h; replace h := q_s2 h; with_reducible exact h))⟩⟩
              ·
                have b654 : q_F (a531.toInt < 0) := (q_nleI c534)
                refine lv_aload_n hx hb d_15_39_211 rfl (lv_at hl 4 rfl) ?_
                refine lv_lload hx hb d_15_39_212 (lv_at hl 0 rfl) ?_
                refine lv_aload_n hx hb d_15_39_214 rfl (lv_at hl 4 rfl) ?_
                refine q_get (ci := 14) (j := 4) (v := .ref (q 137)) C0 V i_DR rfl rfl hO518 (by decide) w_2004 rfl d_15_39_215 ?_
                refine lv_iload_n hx hb d_15_39_218 rfl (lv_at hl 5 rfl) ?_
                refine q_iald C0 V hO520 (q_ix (x := x2.toInt) rfl (by first | with_reducible exact q_fe ob68 | (have t1 : 0 ≤ x2.toInt := ob68; omega)) (by have t1 : 0 ≤ x2.toInt := ob68; have t2 : x2.toInt ≤ 9 := ob69; have e9 : (((10 : Int32).toNatClampNeg : Nat) : Int) = 10 := (by decide); omega)) d_15_39_219 ?_
                obtain ⟨a655, e656⟩ := q_nm (t2_0 x2.toNatClampNeg : Int32)
                refine q_ti (v := a655) e656 ?_
                refine lv_i2l hx hb d_15_39_220 rfl ?_
                obtain ⟨j657, e658⟩ := q_nm (a655.toInt64 : Int64)
                refine q_tl (v := j657) e658 ?_
                have b659 : q_F (j657.toInt = a655.toInt) := (by rw [← e658]; show (a655.toInt64 : Int64).toInt = a655.toInt; exact q_i2l rfl)
                refine W.lcmp hx hb d_15_39_221 ?_
                obtain ⟨a660, e661⟩ := q_nm (lg_cmp lx513 j657 : Int32)
                refine q_ti (v := a660) e661 ?_
                have b662 : q_F (-1 ≤ a660.toInt ∧ a660.toInt ≤ 1 ∧ ((a660.toInt = -1 ∧ lx513.toInt < j657.toInt) ∨ (a660.toInt = 0 ∧ lx513.toInt = j657.toInt) ∨ (a660.toInt = 1 ∧ j657.toInt < lx513.toInt))) := (by rw [← e661]; show -1 ≤ (lg_cmp lx513 j657 : Int32).toInt ∧ (lg_cmp lx513 j657 : Int32).toInt ≤ 1 ∧ (((lg_cmp lx513 j657 : Int32).toInt = -1 ∧ lx513.toInt < j657.toInt) ∨ ((lg_cmp lx513 j657 : Int32).toInt = 0 ∧ lx513.toInt = j657.toInt) ∨ ((lg_cmp lx513 j657 : Int32).toInt = 1 ∧ j657.toInt < lx513.toInt)); exact s_lcmp)
                refine lv_if_ge (tgt := 242) hx hb d_15_39_222 (by decide) (fun c663 => ?_) (fun c663 => ?_)
                ·
                  refine lv_iconst (v := 0) hx hb d_15_39_242 (by decide) ?_
                  have ob665 : True ∧ S_DR_nextFigure (0 : Int32) y439 y440 y441 y442 y443 y444 y445 y446 y447 y448 y449 f382 lx514 := (by have h := hS527; rw [S_DR_remainder_L203.eq_2] at h; have c534x := c534; rw [← e532] at c534x; rw [if_neg c534x] at h; have c663x := c663; rw [← e661, ← e658, ← e656] at c663x; rw [if_pos c663x] at h; with_reducible exact h.2.1)
                  refine q_goi V (q_runV (As := [.int 0]) (rest := []) (d := 2) (mc := 0) (ms := 0) (ci := 14) C0 V rfl LV_DR_157 (X_DR_nextFigure l D g q w517  0 hI y439 y440 y441 y442 y443 y444 y445 y446 y447 y448 y449 hO518 f382 hO524 lx514 hO525 ob665 _) rfl rfl hO518 rfl hl.1 rfl (Nat.le_of_ble_eq_true rfl) ⟨by decide, by decide⟩ ⟨Nat.le_of_ble_eq_true rfl, Nat.le_of_ble_eq_true rfl⟩ d_15_39_243) (fun a668 u666 H locs hp667 V => ?_)
                  obtain ⟨hI, hu672, f669, hA670, hE671⟩ := hp667
                  replace hA670 : u666[143]? = (some (q 143, .inl (g 0, (2202 : Int32).toNatClampNeg, .inl f669)) : Option (Nat × va_E)) := hA670
                  obtain ⟨p673, e674⟩ : ∃ z, z = (F_DR_nextFigure (0 : Int32) y439 y440 y441 y442 y443 y444 y445 y446 y447 y448 y449 f382 lx514) := ⟨_, rfl⟩
                  have e675 : a668 = p673.1 := congrArg (fun z => z.1) (hE671.trans e674.symm)
                  have e676 : f669 = p673.2 := congrArg (fun z => z.2) (hE671.trans e674.symm)
                  replace hO518 := (hu672 _ (by decide)).trans hO518
                  replace hO519 := (hu672 _ (by decide)).trans hO519
                  replace hO520 := (hu672 _ (by decide)).trans hO520
                  replace hO521 := (hu672 _ (by decide)).trans hO521
                  replace hO522 := (hu672 _ (by decide)).trans hO522
                  replace hO523 := (hu672 _ (by decide)).trans hO523
                  replace hO524 := (hu672 _ (by decide)).trans hO524
                  replace hF := q_uc hF hu672 (by simp)
                  have hR677 := (show F_DR_remainder_c243 (F_DR_remainder_L203 x2 x3 x4 t0_0 t0_1 t0_2 t0_3 t0_4 t0_5 t0_6 t0_7 t0_8 t0_9 t0_10 t1_0 t2_0 t3_0 t4_0 t5_0 t6_0 t7_0 lx45 lx76 a363 j360 p416 f382 p477 j509 y439 y440 y441 y442 y443 y444 y445 y446 y447 y448 y449 fm530) x2 x3 x4 t0_0 t0_1 t0_2 t0_3 t0_4 t0_5 t0_6 t0_7 t0_8 t0_9 t0_10 t1_0 t2_0 t3_0 t4_0 t5_0 t6_0 t7_0 lx45 lx76 a363 j360 p416 f382 p477 j509 y439 y440 y441 y442 y443 y444 y445 y446 y447 y448 y449 lx513 lx514 p673 = (F_DR_remainder x2 x3 x4 t0_0 t0_1 t0_2 t0_3 t0_4 t0_5 t0_6 t0_7 t0_8 t0_9 t0_10 t1_0 t2_0 t3_0 t4_0 t5_0 t6_0 t7_0) from Eq.trans (by have c534x := c534; rw [← e532] at c534x; have c663x := c663; rw [← e661, ← e658, ← e656] at c663x; rw [e674, F_DR_remainder_L203.eq_2, if_neg c534x, if_pos c663x]) hR526)
                  have hS678 := (show True ∧ S_DR_remainder_c243 (S_DR_remainder_L203 x2 x3 x4 t0_0 t0_1 t0_2 t0_3 t0_4 t0_5 t0_6 t0_7 t0_8 t0_9 t0_10 t1_0 t2_0 t3_0 t4_0 t5_0 t6_0 t7_0 lx45 lx76 a363 j360 p416 f382 p477 j509 y439 y440 y441 y442 y443 y444 y445 y446 y447 y448 y449 fm530) x2 x3 x4 t0_0 t0_1 t0_2 t0_3 t0_4 t0_5 t0_6 t0_7 t0_8 t0_9 t0_10 t1_0 t2_0 t3_0 t4_0 t5_0 t6_0 t7_0 lx45 lx76 a363 j360 p416 f382 p477 j509 y439 y440 y441 y442 y443 y444 y445 y446 y447 y448 y449 lx513 lx514 p673 from (by rw [e674]; have h := hS527; rw [S_DR_remainder_L203.eq_2] at h; have c534x := c534; rw [← e532] at c534x; rw [if_neg c534x] at h; have c663x := c663; rw [← e661, ← e658, ← e656] at c663x; rw [if_pos c663x] at h; replace h := q_s2 h; with_reducible exact h))
                  refine lv_istore (lv' := [(13, .int a668), (11, .long lx513), (9, .long j509), (8, .int a363), (4, .long lx76), (0, .ref (q 134)), (1, .int x2), (3, .int x4)]) hx hb d_15_39_246 hl (by decide) rfl (fun ls hl => ?_)
                  refine lv_lload hx hb d_15_39_248 (lv_at hl 1 rfl) ?_
                  refine lv_lconst (v := 1) hx hb d_15_39_250 (by decide) ?_
                  refine lv_ladd hx hb d_15_39_251 ?_
                  obtain ⟨j682, e683⟩ := q_nm (lx513 + 1 : Int64)
                  refine q_tl (v := j682) e683 ?_
                  have b684 : q_F (j682.toInt = lx513.toInt + 1) := (by rw [← e683]; show (lx513 + 1 : Int64).toInt = lx513.toInt + 1; exact q_addL (x := lx513.toInt) (y := 1) rfl (by decide) (by have _ := Int64.le_toInt lx513; have _ := Int64.toInt_lt lx513; have t1 : -1 ≤ a531.toInt ∧ a531.toInt ≤ 1 ∧ ((a531.toInt = -1 ∧ lx513.toInt < j509.toInt) ∨ (a531.toInt = 0 ∧ lx513.toInt = j509.toInt) ∨ (a531.toInt = 1 ∧ j509.toInt < lx513.toInt)) := b533; have t2 : a531.toInt < 0 := b654; have _ := Int64.le_toInt j509; have _ := Int64.toInt_lt j509; omega) (by have _ := Int64.le_toInt lx513; have _ := Int64.toInt_lt lx513; have t1 : -1 ≤ a531.toInt ∧ a531.toInt ≤ 1 ∧ ((a531.toInt = -1 ∧ lx513.toInt < j509.toInt) ∨ (a531.toInt = 0 ∧ lx513.toInt = j509.toInt) ∨ (a531.toInt = 1 ∧ j509.toInt < lx513.toInt)) := b533; have t2 : a531.toInt < 0 := b654; have _ := Int64.le_toInt j509; have _ := Int64.toInt_lt j509; omega))
                  refine lv_lstore (lv' := [(11, .long j682), (13, .int a668), (9, .long j509), (8, .int a363), (4, .long lx76), (0, .ref (q 134)), (1, .int x2), (3, .int x4)]) hx hb d_15_39_252 hl (by decide) rfl (fun ls hl => ?_)
                  refine lv_goto (tgt := 203) hx hb d_15_39_254 (by decide) ?_
                  exact ih516 ((j682 : Int64), (f669 : (Nat → Int32))) _ _ _ _ (show (j509.toInt - j682.toInt).toNat < (j509.toInt - lx513.toInt).toNat from by have t1 : j682.toInt = lx513.toInt + 1 := b684; have t2 : -1 ≤ a531.toInt ∧ a531.toInt ≤ 1 ∧ ((a531.toInt = -1 ∧ lx513.toInt < j509.toInt) ∨ (a531.toInt = 0 ∧ lx513.toInt = j509.toInt) ∨ (a531.toInt = 1 ∧ j509.toInt < lx513.toInt)) := b533; have t3 : a531.toInt < 0 := b654; omega) ⟨(show q_F (y441.toInt ≤ j682.toInt) from (show y441.toInt ≤ j682.toInt from by have t1 : y441.toInt ≤ lx513.toInt := i515; have t2 : j682.toInt = lx513.toInt + 1 := b684; omega)), V, q_lw hl (q_lw1 0 rfl (q_lw1 2 rfl (q_lw1 3 rfl (q_lw1 4 rfl (q_lw1 5 rfl (q_lw1 6 rfl (q_lw1 7 rfl q_lw0))))))), hI, hF, hO518, hO519, hO520, hO521, hO522, hO523, hO524, hA670, ⟨fm530, Nat.lt_of_lt_of_le (show (j509.toInt - j682.toInt).toNat < (j509.toInt - lx513.toInt).toNat from by have t1 : j682.toInt = lx513.toInt + 1 := b684; have t2 : -1 ≤ a531.toInt ∧ a531.toInt ≤ 1 ∧ ((a531.toInt = -1 ∧ lx513.toInt < j509.toInt) ∨ (a531.toInt = 0 ∧ lx513.toInt = j509.toInt) ∨ (a531.toInt = 1 ∧ j509.toInt < lx513.toInt)) := b533; have t3 : a531.toInt < 0 := b654; omega) (Nat.le_of_lt_succ hf529), (show F_DR_remainder_L203 x2 x3 x4 t0_0 t0_1 t0_2 t0_3 t0_4 t0_5 t0_6 t0_7 t0_8 t0_9 t0_10 t1_0 t2_0 t3_0 t4_0 t5_0 t6_0 t7_0 lx45 lx76 a363 j360 p416 f382 p477 j509 y439 y440 y441 y442 y443 y444 y445 y446 y447 y448 y449 fm530 j682 f669 = (F_DR_remainder x2 x3 x4 t0_0 t0_1 t0_2 t0_3 t0_4 t0_5 t0_6 t0_7 t0_8 t0_9 t0_10 t1_0 t2_0 t3_0 t4_0 t5_0 t6_0 t7_0) from Eq.trans (by rw [← e683, e676, F_DR_remainder_c243.eq_1]) hR677), (show True ∧ S_DR_remainder_L203 x2 x3 x4 t0_0 t0_1 t0_2 t0_3 t0_4 t0_5 t0_6 t0_7 t0_8 t0_9 t0_10 t1_0 t2_0 t3_0 t4_0 t5_0 t6_0 t7_0 lx45 lx76 a363 j360 p416 f382 p477 j509 y439 y440 y441 y442 y443 y444 y445 y446 y447 y448 y449 fm530 j682 f669 from (by rw [← e683, e676]; have h := hS678; rw [S_DR_remainder_c243.eq_1] at h; with_reducible exact h))⟩⟩
                ·
                  have b685 : q_F (a660.toInt < 0) := (q_nleI c663)
                  refine lv_aload_n hx hb d_15_39_225 rfl (lv_at hl 4 rfl) ?_
                  refine q_get (ci := 14) (j := 3) (v := .ref (q 136)) C0 V i_DR rfl rfl hO518 (by decide) w_2002 rfl d_15_39_226 ?_
                  refine lv_sipush (v := 1000) hx hb d_15_39_229 (by decide) ?_
                  refine lv_iload_n hx hb d_15_39_232 rfl (lv_at hl 5 rfl) ?_
                  refine lv_imul hx hb d_15_39_233 ?_
                  obtain ⟨a686, e687⟩ := q_nm (1000 * x2 : Int32)
                  refine q_ti (v := a686) e687 ?_
                  refine lv_lload hx hb d_15_39_234 (lv_at hl 0 rfl) ?_
                  refine lv_l2i hx hb d_15_39_236 rfl ?_
                  obtain ⟨a689, e690⟩ := q_nm (lx513.toInt32 : Int32)
                  refine q_ti (v := a689) e690 ?_
                  have b691 : q_F (a689.toInt = lx513.toInt) := (by rw [← e690]; show (lx513.toInt32 : Int32).toInt = lx513.toInt; exact s_l2i (by have t1 : y441.toInt ≤ lx513.toInt := i515; have _ := q_lo32 (x := y441); have _ := q_hi32 (x := y441); have t2 : j657.toInt = a655.toInt := b659; have t3 : -1 ≤ a660.toInt ∧ a660.toInt ≤ 1 ∧ ((a660.toInt = -1 ∧ lx513.toInt < j657.toInt) ∨ (a660.toInt = 0 ∧ lx513.toInt = j657.toInt) ∨ (a660.toInt = 1 ∧ j657.toInt < lx513.toInt)) := b662; have t4 : a660.toInt < 0 := b685; have _ := q_lo32 (x := a655); have _ := q_hi32 (x := a655); omega) (by have t1 : y441.toInt ≤ lx513.toInt := i515; have _ := q_lo32 (x := y441); have _ := q_hi32 (x := y441); have t2 : j657.toInt = a655.toInt := b659; have t3 : -1 ≤ a660.toInt ∧ a660.toInt ≤ 1 ∧ ((a660.toInt = -1 ∧ lx513.toInt < j657.toInt) ∨ (a660.toInt = 0 ∧ lx513.toInt = j657.toInt) ∨ (a660.toInt = 1 ∧ j657.toInt < lx513.toInt)) := b662; have t4 : a660.toInt < 0 := b685; have _ := q_lo32 (x := a655); have _ := q_hi32 (x := a655); omega))
                  refine lv_iadd hx hb d_15_39_237 ?_
                  obtain ⟨a692, e693⟩ := q_nm (a686 + a689 : Int32)
                  refine q_ti (v := a692) e693 ?_
                  have ob694 : q_F (0 ≤ a692.toInt) := (by rw [← e693, ← e690, ← e687]; have h := hS527; rw [S_DR_remainder_L203.eq_2] at h; have c534x := c534; rw [← e532] at c534x; rw [if_neg c534x] at h; have c663x := c663; rw [← e661, ← e658, ← e656] at c663x; rw [if_neg c663x] at h; exact h.2.1)
                  have ob695 : q_F (a692.toInt ≤ 9999) := (by rw [← e693, ← e690, ← e687]; have h := hS527; rw [S_DR_remainder_L203.eq_2] at h; have c534x := c534; rw [← e532] at c534x; rw [if_neg c534x] at h; have c663x := c663; rw [← e661, ← e658, ← e656] at c663x; rw [if_neg c663x] at h; replace h := q_s2 h; exact h.2.1)
                  refine q_iald C0 V hO519 (q_ix (x := a692.toInt) rfl (by first | with_reducible exact q_fe ob694 | (have t1 : 0 ≤ a692.toInt := ob694; omega)) (by have t1 : 0 ≤ a692.toInt := ob694; have t2 : a692.toInt ≤ 9999 := ob695; have e9 : (((10000 : Int32).toNatClampNeg : Nat) : Int) = 10000 := (by decide); omega)) d_15_39_238 ?_
                  obtain ⟨a696, e697⟩ := q_nm (t1_0 a692.toNatClampNeg : Int32)
                  refine q_ti (v := a696) e697 ?_
                  refine lv_goto (tgt := 243) hx hb d_15_39_239 (by decide) ?_
                  have ob698 : True ∧ S_DR_nextFigure a696 y439 y440 y441 y442 y443 y444 y445 y446 y447 y448 y449 f382 lx514 := (by rw [← e697, ← e693, ← e690, ← e687]; have h := hS527; rw [S_DR_remainder_L203.eq_2] at h; have c534x := c534; rw [← e532] at c534x; rw [if_neg c534x] at h; have c663x := c663; rw [← e661, ← e658, ← e656] at c663x; rw [if_neg c663x] at h; replace h := q_s2 h; replace h := q_s2 h; with_reducible exact h.2.1)
                  refine q_goi V (q_runV (As := [.int a696]) (rest := []) (d := 2) (mc := 0) (ms := 0) (ci := 14) C0 V rfl LV_DR_157 (X_DR_nextFigure l D g q w517  a696 hI y439 y440 y441 y442 y443 y444 y445 y446 y447 y448 y449 hO518 f382 hO524 lx514 hO525 ob698 _) rfl rfl hO518 rfl hl.1 rfl (Nat.le_of_ble_eq_true rfl) ⟨by decide, by decide⟩ ⟨Nat.le_of_ble_eq_true rfl, Nat.le_of_ble_eq_true rfl⟩ d_15_39_243) (fun a701 u699 H locs hp700 V => ?_)
                  obtain ⟨hI, hu705, f702, hA703, hE704⟩ := hp700
                  replace hA703 : u699[143]? = (some (q 143, .inl (g 0, (2202 : Int32).toNatClampNeg, .inl f702)) : Option (Nat × va_E)) := hA703
                  obtain ⟨p706, e707⟩ : ∃ z, z = (F_DR_nextFigure a696 y439 y440 y441 y442 y443 y444 y445 y446 y447 y448 y449 f382 lx514) := ⟨_, rfl⟩
                  have e708 : a701 = p706.1 := congrArg (fun z => z.1) (hE704.trans e707.symm)
                  have e709 : f702 = p706.2 := congrArg (fun z => z.2) (hE704.trans e707.symm)
                  replace hO518 := (hu705 _ (by decide)).trans hO518
                  replace hO519 := (hu705 _ (by decide)).trans hO519
                  replace hO520 := (hu705 _ (by decide)).trans hO520
                  replace hO521 := (hu705 _ (by decide)).trans hO521
                  replace hO522 := (hu705 _ (by decide)).trans hO522
                  replace hO523 := (hu705 _ (by decide)).trans hO523
                  replace hO524 := (hu705 _ (by decide)).trans hO524
                  replace hF := q_uc hF hu705 (by simp)
                  have hR710 := (show F_DR_remainder_c243_13 (F_DR_remainder_L203 x2 x3 x4 t0_0 t0_1 t0_2 t0_3 t0_4 t0_5 t0_6 t0_7 t0_8 t0_9 t0_10 t1_0 t2_0 t3_0 t4_0 t5_0 t6_0 t7_0 lx45 lx76 a363 j360 p416 f382 p477 j509 y439 y440 y441 y442 y443 y444 y445 y446 y447 y448 y449 fm530) x2 x3 x4 t0_0 t0_1 t0_2 t0_3 t0_4 t0_5 t0_6 t0_7 t0_8 t0_9 t0_10 t1_0 t2_0 t3_0 t4_0 t5_0 t6_0 t7_0 lx45 lx76 a363 j360 p416 f382 p477 j509 y439 y440 y441 y442 y443 y444 y445 y446 y447 y448 y449 lx513 lx514 p706 = (F_DR_remainder x2 x3 x4 t0_0 t0_1 t0_2 t0_3 t0_4 t0_5 t0_6 t0_7 t0_8 t0_9 t0_10 t1_0 t2_0 t3_0 t4_0 t5_0 t6_0 t7_0) from Eq.trans (by have c534x := c534; rw [← e532] at c534x; have c663x := c663; rw [← e661, ← e658, ← e656] at c663x; rw [e707, ← e697, ← e693, ← e690, ← e687, F_DR_remainder_L203.eq_2, if_neg c534x, if_neg c663x]) hR526)
                  have hS711 := (show True ∧ S_DR_remainder_c243_13 (S_DR_remainder_L203 x2 x3 x4 t0_0 t0_1 t0_2 t0_3 t0_4 t0_5 t0_6 t0_7 t0_8 t0_9 t0_10 t1_0 t2_0 t3_0 t4_0 t5_0 t6_0 t7_0 lx45 lx76 a363 j360 p416 f382 p477 j509 y439 y440 y441 y442 y443 y444 y445 y446 y447 y448 y449 fm530) x2 x3 x4 t0_0 t0_1 t0_2 t0_3 t0_4 t0_5 t0_6 t0_7 t0_8 t0_9 t0_10 t1_0 t2_0 t3_0 t4_0 t5_0 t6_0 t7_0 lx45 lx76 a363 j360 p416 f382 p477 j509 y439 y440 y441 y442 y443 y444 y445 y446 y447 y448 y449 lx513 lx514 p706 from (by rw [e707, ← e697, ← e693, ← e690, ← e687]; have h := hS527; rw [S_DR_remainder_L203.eq_2] at h; have c534x := c534; rw [← e532] at c534x; rw [if_neg c534x] at h; have c663x := c663; rw [← e661, ← e658, ← e656] at c663x; rw [if_neg c663x] at h; replace h := q_s2 h; replace h := q_s2 h; replace h := q_s2 h; with_reducible exact h))
                  refine lv_istore (lv' := [(13, .int a701), (11, .long lx513), (9, .long j509), (8, .int a363), (4, .long lx76), (0, .ref (q 134)), (1, .int x2), (3, .int x4)]) hx hb d_15_39_246 hl (by decide) rfl (fun ls hl => ?_)
                  refine lv_lload hx hb d_15_39_248 (lv_at hl 1 rfl) ?_
                  refine lv_lconst (v := 1) hx hb d_15_39_250 (by decide) ?_
                  refine lv_ladd hx hb d_15_39_251 ?_
                  obtain ⟨j715, e716⟩ := q_nm (lx513 + 1 : Int64)
                  refine q_tl (v := j715) e716 ?_
                  have b717 : q_F (j715.toInt = lx513.toInt + 1) := (by rw [← e716]; show (lx513 + 1 : Int64).toInt = lx513.toInt + 1; exact q_addL (x := lx513.toInt) (y := 1) rfl (by decide) (by have t1 : a689.toInt = lx513.toInt := b691; have _ := q_lo32 (x := a689); have _ := q_hi32 (x := a689); omega) (by have t1 : a689.toInt = lx513.toInt := b691; have _ := q_lo32 (x := a689); have _ := q_hi32 (x := a689); omega))
                  refine lv_lstore (lv' := [(11, .long j715), (13, .int a701), (9, .long j509), (8, .int a363), (4, .long lx76), (0, .ref (q 134)), (1, .int x2), (3, .int x4)]) hx hb d_15_39_252 hl (by decide) rfl (fun ls hl => ?_)
                  refine lv_goto (tgt := 203) hx hb d_15_39_254 (by decide) ?_
                  exact ih516 ((j715 : Int64), (f702 : (Nat → Int32))) _ _ _ _ (show (j509.toInt - j715.toInt).toNat < (j509.toInt - lx513.toInt).toNat from by have t1 : j715.toInt = lx513.toInt + 1 := b717; have t2 : -1 ≤ a531.toInt ∧ a531.toInt ≤ 1 ∧ ((a531.toInt = -1 ∧ lx513.toInt < j509.toInt) ∨ (a531.toInt = 0 ∧ lx513.toInt = j509.toInt) ∨ (a531.toInt = 1 ∧ j509.toInt < lx513.toInt)) := b533; have t3 : a531.toInt < 0 := b654; omega) ⟨(show q_F (y441.toInt ≤ j715.toInt) from (show y441.toInt ≤ j715.toInt from by have t1 : y441.toInt ≤ lx513.toInt := i515; have t2 : j715.toInt = lx513.toInt + 1 := b717; omega)), V, q_lw hl (q_lw1 0 rfl (q_lw1 2 rfl (q_lw1 3 rfl (q_lw1 4 rfl (q_lw1 5 rfl (q_lw1 6 rfl (q_lw1 7 rfl q_lw0))))))), hI, hF, hO518, hO519, hO520, hO521, hO522, hO523, hO524, hA703, ⟨fm530, Nat.lt_of_lt_of_le (show (j509.toInt - j715.toInt).toNat < (j509.toInt - lx513.toInt).toNat from by have t1 : j715.toInt = lx513.toInt + 1 := b717; have t2 : -1 ≤ a531.toInt ∧ a531.toInt ≤ 1 ∧ ((a531.toInt = -1 ∧ lx513.toInt < j509.toInt) ∨ (a531.toInt = 0 ∧ lx513.toInt = j509.toInt) ∨ (a531.toInt = 1 ∧ j509.toInt < lx513.toInt)) := b533; have t3 : a531.toInt < 0 := b654; omega) (Nat.le_of_lt_succ hf529), (show F_DR_remainder_L203 x2 x3 x4 t0_0 t0_1 t0_2 t0_3 t0_4 t0_5 t0_6 t0_7 t0_8 t0_9 t0_10 t1_0 t2_0 t3_0 t4_0 t5_0 t6_0 t7_0 lx45 lx76 a363 j360 p416 f382 p477 j509 y439 y440 y441 y442 y443 y444 y445 y446 y447 y448 y449 fm530 j715 f702 = (F_DR_remainder x2 x3 x4 t0_0 t0_1 t0_2 t0_3 t0_4 t0_5 t0_6 t0_7 t0_8 t0_9 t0_10 t1_0 t2_0 t3_0 t4_0 t5_0 t6_0 t7_0) from Eq.trans (by rw [← e716, e709, F_DR_remainder_c243_13.eq_1]) hR710), (show True ∧ S_DR_remainder_L203 x2 x3 x4 t0_0 t0_1 t0_2 t0_3 t0_4 t0_5 t0_6 t0_7 t0_8 t0_9 t0_10 t1_0 t2_0 t3_0 t4_0 t5_0 t6_0 t7_0 lx45 lx76 a363 j360 p416 f382 p477 j509 y439 y440 y441 y442 y443 y444 y445 y446 y447 y448 y449 fm530 j715 f702 from (by rw [← e716, e709]; have h := hS711; rw [S_DR_remainder_c243_13.eq_1] at h; with_reducible exact h))⟩⟩
            ·
              exact J109 (()) _ _ _ w66 ⟨V, q_lw hl (q_lw1 0 rfl (q_lw1 1 rfl (q_lw1 2 rfl (q_lw1 4 rfl q_lw0)))), (show F_DR_remainder_J106 x2 x3 x4 t0_0 t0_1 t0_2 t0_3 t0_4 t0_5 t0_6 t0_7 t0_8 t0_9 t0_10 t1_0 t2_0 t3_0 t4_0 t5_0 t6_0 t7_0 lx45 lx76 = (F_DR_remainder x2 x3 x4 t0_0 t0_1 t0_2 t0_3 t0_4 t0_5 t0_6 t0_7 t0_8 t0_9 t0_10 t1_0 t2_0 t3_0 t4_0 t5_0 t6_0 t7_0) from Eq.trans (by have c338x := c338; rw [e100] at c338x; have c353x := c353; rw [e352] at c353x; rw [F_DR_remainder_J87.eq_1, if_pos c338x, if_neg c353x]) hR88), (show True ∧ S_DR_remainder_J106 x2 x3 x4 t0_0 t0_1 t0_2 t0_3 t0_4 t0_5 t0_6 t0_7 t0_8 t0_9 t0_10 t1_0 t2_0 t3_0 t4_0 t5_0 t6_0 t7_0 lx45 lx76 from (by have h := hS89; rw [S_DR_remainder_J87.eq_1] at h; replace h := q_s2 h; have c338x := c338; rw [e100] at c338x; rw [if_pos c338x] at h; replace h := q_s2 h; have c353x := c353; rw [e352] at c353x; rw [if_neg c353x] at h; with_reducible exact h))⟩
      ·
        intro J85
        refine lv_icmp_le (tgt := 80) hx hb d_15_39_67 (by decide) (fun c719 => ?_) (fun c719 => ?_)
        ·
          refine lv_aload_n hx hb d_15_39_80 rfl (lv_at hl 0 rfl) ?_
          refine q_get (ci := 14) (j := 6) (v := .ref (q 139)) C0 V i_DR rfl rfl hT0 (by decide) w_2008 rfl d_15_39_81 ?_
          refine lv_iload_n hx hb d_15_39_84 rfl (lv_at hl 2 rfl) ?_
          refine q_iald C0 V hT4 (q_ix (x := x3.toInt) rfl (by first | with_reducible exact q_fe ob72 | (have t1 : 0 ≤ x3.toInt := ob72; omega)) (by have t1 : 0 ≤ x3.toInt := ob72; have t2 : x3.toInt ≤ 9 := ob73; have e9 : (((10 : Int32).toNatClampNeg : Nat) : Int) = 10 := (by decide); omega)) d_15_39_85 ?_
          obtain ⟨a721, e722⟩ := q_nm (t4_0 x3.toNatClampNeg : Int32)
          refine q_ti (v := a721) e722 ?_
          refine lv_i2l hx hb d_15_39_86 rfl ?_
          obtain ⟨j723, e724⟩ := q_nm (a721.toInt64 : Int64)
          refine q_tl (v := j723) e724 ?_
          have b725 : q_F (j723.toInt = a721.toInt) := (by rw [← e724]; show (a721.toInt64 : Int64).toInt = a721.toInt; exact q_i2l rfl)
          exact J85 ((j723 : Int64)) _ _ _ w66 ⟨(show q_F (0 ≤ j723.toInt + 2147483648) from (show 0 ≤ j723.toInt + 2147483648 from by have t1 : j723.toInt = a721.toInt := b725; have _ := q_lo32 (x := a721); have _ := q_hi32 (x := a721); omega)), (show q_F (j723.toInt ≤ 2147483647) from (show j723.toInt ≤ 2147483647 from by have t1 : j723.toInt = a721.toInt := b725; have _ := q_lo32 (x := a721); have _ := q_hi32 (x := a721); omega)), V, q_lw hl (q_lw1 0 rfl (q_lw1 1 rfl (q_lw1 2 rfl (q_lw1 3 rfl q_lw0)))), (show F_DR_remainder_J87 x2 x3 x4 t0_0 t0_1 t0_2 t0_3 t0_4 t0_5 t0_6 t0_7 t0_8 t0_9 t0_10 t1_0 t2_0 t3_0 t4_0 t5_0 t6_0 t7_0 lx45 j723 = (F_DR_remainder x2 x3 x4 t0_0 t0_1 t0_2 t0_3 t0_4 t0_5 t0_6 t0_7 t0_8 t0_9 t0_10 t1_0 t2_0 t3_0 t4_0 t5_0 t6_0 t7_0) from Eq.trans (by have c719x := c719; rw [← e75, ← e71] at c719x; rw [← e724, ← e722, F_DR_remainder_J39.eq_1, if_pos c64, if_pos c719x]) hR57), (show True ∧ S_DR_remainder_J87 x2 x3 x4 t0_0 t0_1 t0_2 t0_3 t0_4 t0_5 t0_6 t0_7 t0_8 t0_9 t0_10 t1_0 t2_0 t3_0 t4_0 t5_0 t6_0 t7_0 lx45 j723 from (by rw [← e724, ← e722]; have h := hS58; rw [S_DR_remainder_J39.eq_1] at h; rw [if_pos c64] at h; replace h := q_s2 h; replace h := q_s2 h; replace h := q_s2 h; replace h := q_s2 h; have c719x := c719; rw [← e75, ← e71] at c719x; rw [if_pos c719x] at h; with_reducible exact h))⟩
        ·
          refine lv_aload_n hx hb d_15_39_70 rfl (lv_at hl 0 rfl) ?_
          refine q_get (ci := 14) (j := 6) (v := .ref (q 139)) C0 V i_DR rfl rfl hT0 (by decide) w_2008 rfl d_15_39_71 ?_
          refine lv_iload_n hx hb d_15_39_74 rfl (lv_at hl 1 rfl) ?_
          refine q_iald C0 V hT4 (q_ix (x := x2.toInt) rfl (by first | with_reducible exact q_fe ob68 | (have t1 : 0 ≤ x2.toInt := ob68; omega)) (by have t1 : 0 ≤ x2.toInt := ob68; have t2 : x2.toInt ≤ 9 := ob69; have e9 : (((10 : Int32).toNatClampNeg : Nat) : Int) = 10 := (by decide); omega)) d_15_39_75 ?_
          obtain ⟨a727, e728⟩ := q_nm (t4_0 x2.toNatClampNeg : Int32)
          refine q_ti (v := a727) e728 ?_
          refine lv_i2l hx hb d_15_39_76 rfl ?_
          obtain ⟨j729, e730⟩ := q_nm (a727.toInt64 : Int64)
          refine q_tl (v := j729) e730 ?_
          have b731 : q_F (j729.toInt = a727.toInt) := (by rw [← e730]; show (a727.toInt64 : Int64).toInt = a727.toInt; exact q_i2l rfl)
          refine lv_goto (tgt := 87) hx hb d_15_39_77 (by decide) ?_
          exact J85 ((j729 : Int64)) _ _ _ w66 ⟨(show q_F (0 ≤ j729.toInt + 2147483648) from (show 0 ≤ j729.toInt + 2147483648 from by have t1 : j729.toInt = a727.toInt := b731; have _ := q_lo32 (x := a727); have _ := q_hi32 (x := a727); omega)), (show q_F (j729.toInt ≤ 2147483647) from (show j729.toInt ≤ 2147483647 from by have t1 : j729.toInt = a727.toInt := b731; have _ := q_lo32 (x := a727); have _ := q_hi32 (x := a727); omega)), V, q_lw hl (q_lw1 0 rfl (q_lw1 1 rfl (q_lw1 2 rfl (q_lw1 3 rfl q_lw0)))), (show F_DR_remainder_J87 x2 x3 x4 t0_0 t0_1 t0_2 t0_3 t0_4 t0_5 t0_6 t0_7 t0_8 t0_9 t0_10 t1_0 t2_0 t3_0 t4_0 t5_0 t6_0 t7_0 lx45 j729 = (F_DR_remainder x2 x3 x4 t0_0 t0_1 t0_2 t0_3 t0_4 t0_5 t0_6 t0_7 t0_8 t0_9 t0_10 t1_0 t2_0 t3_0 t4_0 t5_0 t6_0 t7_0) from Eq.trans (by have c719x := c719; rw [← e75, ← e71] at c719x; rw [← e730, ← e728, F_DR_remainder_J39.eq_1, if_pos c64, if_neg c719x]) hR57), (show True ∧ S_DR_remainder_J87 x2 x3 x4 t0_0 t0_1 t0_2 t0_3 t0_4 t0_5 t0_6 t0_7 t0_8 t0_9 t0_10 t1_0 t2_0 t3_0 t4_0 t5_0 t6_0 t7_0 lx45 j729 from (by rw [← e730, ← e728]; have h := hS58; rw [S_DR_remainder_J39.eq_1] at h; rw [if_pos c64] at h; replace h := q_s2 h; replace h := q_s2 h; replace h := q_s2 h; replace h := q_s2 h; have c719x := c719; rw [← e75, ← e71] at c719x; rw [if_neg c719x] at h; with_reducible exact h))⟩
    ·
      exact q_retv C0 V (⟨hI, hF, lx45, t0_1, t0_2, t0_3, t0_4, t0_5, t0_6, t0_7, t0_8, t0_9, t0_10, t1_0, t2_0, t3_0, t4_0, t5_0, t6_0, t7_0, hT0, hT1, hT2, hT3, hT4, hT5, hT6, hT7, (show 0 ≤ t0_4.toInt + 1 from (by first | with_reducible exact (q_fe btt0_4).2 | with_reducible exact (q_fe btt0_4).1 | (have t1 : 0 ≤ t0_4.toInt ∧ t0_4.toInt ≤ 1 := btt0_4; omega))), (show 0 ≤ t0_5.toInt from (by first | with_reducible exact (q_fe btt0_5).2 | with_reducible exact (q_fe btt0_5).1 | (have t1 : 0 ≤ t0_5.toInt ∧ t0_5.toInt ≤ 1 := btt0_5; omega))), (show t0_5.toInt ≤ 1 from (by first | with_reducible exact (q_fe btt0_5).2 | with_reducible exact (q_fe btt0_5).1 | (have t1 : 0 ≤ t0_5.toInt ∧ t0_5.toInt ≤ 1 := btt0_5; omega))), (show t0_1.toInt ≤ t0_1.toInt from (by omega)), (show t0_1.toInt ≤ t0_1.toInt from (by omega)), (show t0_4.toInt ≤ t0_4.toInt from (by omega)), (show t0_6.toInt ≤ t0_6.toInt from (by omega)), (show t0_6.toInt ≤ t0_6.toInt from (by omega)), (show t0_8.toInt ≤ t0_8.toInt from (by omega)), (show t0_8.toInt ≤ t0_8.toInt from (by omega)), (show t0_9.toInt ≤ t0_9.toInt from (by omega)), (show t0_9.toInt ≤ t0_9.toInt from (by omega)), (show (lx45, t0_1, t0_2, t0_3, t0_4, t0_5, t0_6, t0_7, t0_8, t0_9, t0_10, t1_0, t2_0, t3_0, t4_0, t5_0, t6_0, t7_0) = (F_DR_remainder x2 x3 x4 t0_0 t0_1 t0_2 t0_3 t0_4 t0_5 t0_6 t0_7 t0_8 t0_9 t0_10 t1_0 t2_0 t3_0 t4_0 t5_0 t6_0 t7_0) from Eq.trans (by rw [F_DR_remainder_J39.eq_1, if_neg c64]) hR57)⟩) d_15_39_49
  ·
    intro J54
    refine q_join (X := Unit) (fun z H locs ls _ => q_Wd D g (va_A ws sz) s ws H locs ∧ lv_has ls 14 [(0, .ref (q 134)), (1, .int x2), (2, .int x3), (3, .int x4)] ∧ F_DR_remainder_J22 x2 x3 x4 t0_0 t0_1 t0_2 t0_3 t0_4 t0_5 t0_6 t0_7 t0_8 t0_9 t0_10 t1_0 t2_0 t3_0 t4_0 t5_0 t6_0 t7_0 = (F_DR_remainder x2 x3 x4 t0_0 t0_1 t0_2 t0_3 t0_4 t0_5 t0_6 t0_7 t0_8 t0_9 t0_10 t1_0 t2_0 t3_0 t4_0 t5_0 t6_0 t7_0) ∧ True ∧ S_DR_remainder_J22 x2 x3 x4 t0_0 t0_1 t0_2 t0_3 t0_4 t0_5 t0_6 t0_7 t0_8 t0_9 t0_10 t1_0 t2_0 t3_0 t4_0 t5_0 t6_0 t7_0) (fun z => [.ref (q 134)]) 22 0 0 ?_ ?_
    ·
      rintro _ H locs ls _ ⟨V, hl, hR742, hS743⟩
      replace hl : lv_has ls 14 [(0, .ref (q 134)), (1, .int x2), (2, .int x3), (3, .int x4)] := hl
      refine lv_iconst (v := 1) hx hb d_15_39_22 (by decide) ?_
      refine lv_goto (tgt := 39) hx hb d_15_39_23 (by decide) ?_
      exact J54 ((1 : Int32)) _ _ _ ws ⟨(show q_F (0 ≤ 1) from (show 0 ≤ 1 from by omega)), (show q_F (1 ≤ 2) from (show 1 ≤ 2 from by omega)), V, q_lw hl (q_lw1 0 rfl (q_lw1 1 rfl (q_lw1 2 rfl (q_lw1 3 rfl q_lw0)))), (show F_DR_remainder_J39 x2 x3 x4 t0_0 t0_1 t0_2 t0_3 t0_4 t0_5 t0_6 t0_7 t0_8 t0_9 t0_10 t1_0 t2_0 t3_0 t4_0 t5_0 t6_0 t7_0 1 = (F_DR_remainder x2 x3 x4 t0_0 t0_1 t0_2 t0_3 t0_4 t0_5 t0_6 t0_7 t0_8 t0_9 t0_10 t1_0 t2_0 t3_0 t4_0 t5_0 t6_0 t7_0) from Eq.trans (by rw [F_DR_remainder_J22.eq_1]) hR742), (show True ∧ S_DR_remainder_J39 x2 x3 x4 t0_0 t0_1 t0_2 t0_3 t0_4 t0_5 t0_6 t0_7 t0_8 t0_9 t0_10 t1_0 t2_0 t3_0 t4_0 t5_0 t6_0 t7_0 1 from (by have h := hS743; rw [S_DR_remainder_J22.eq_1] at h; with_reducible exact h))⟩
    ·
      intro J741
      refine lv_if_ne (tgt := 22) hx hb d_15_39_5 (by decide) (fun c747 => ?_) (fun c747 => ?_)
      ·
        exact J741 (()) _ _ _ ws ⟨V, q_lw hl (q_lw1 0 rfl (q_lw1 1 rfl (q_lw1 2 rfl (q_lw1 3 rfl q_lw0)))), (show F_DR_remainder_J22 x2 x3 x4 t0_0 t0_1 t0_2 t0_3 t0_4 t0_5 t0_6 t0_7 t0_8 t0_9 t0_10 t1_0 t2_0 t3_0 t4_0 t5_0 t6_0 t7_0 = (F_DR_remainder x2 x3 x4 t0_0 t0_1 t0_2 t0_3 t0_4 t0_5 t0_6 t0_7 t0_8 t0_9 t0_10 t1_0 t2_0 t3_0 t4_0 t5_0 t6_0 t7_0) from (by have c747x := c747; rw [e44] at c747x; rw [F_DR_remainder.eq_1, if_neg c747x])), (show True ∧ S_DR_remainder_J22 x2 x3 x4 t0_0 t0_1 t0_2 t0_3 t0_4 t0_5 t0_6 t0_7 t0_8 t0_9 t0_10 t1_0 t2_0 t3_0 t4_0 t5_0 t6_0 t7_0 from (by have h := hS; rw [S_DR_remainder.eq_1] at h; have c747x := c747; rw [e44] at c747x; rw [if_neg c747x] at h; with_reducible exact h))⟩
      ·
        refine lv_iload_n hx hb d_15_39_8 rfl (lv_at hl 2 rfl) ?_
        refine q_goi V (q_runS (As := [.int x3]) (rest := [.ref (q 134)]) (d := 1) (mc := 0) (ms := 0) C0 V rfl LS_DR_113 (X_DR_no l D g q ws  x3 hI   _) rfl hl.1 rfl (Nat.le_of_ble_eq_true rfl) ⟨by decide, by decide⟩ ⟨Nat.le_of_ble_eq_true rfl, Nat.le_of_ble_eq_true rfl⟩ d_15_39_9) (fun a752 u750 H locs hp751 V => ?_)
        obtain ⟨rfl, b753, b754, hE755⟩ := hp751
        have e756 : a752 = (F_DR_no x3) := hE755
        clear b753
        clear b754
        refine lv_if_ne (tgt := 22) hx hb d_15_39_12 (by decide) (fun c757 => ?_) (fun c757 => ?_)
        ·
          exact J741 (()) _ _ _ ws ⟨V, q_lw hl (q_lw1 0 rfl (q_lw1 1 rfl (q_lw1 2 rfl (q_lw1 3 rfl q_lw0)))), (show F_DR_remainder_J22 x2 x3 x4 t0_0 t0_1 t0_2 t0_3 t0_4 t0_5 t0_6 t0_7 t0_8 t0_9 t0_10 t1_0 t2_0 t3_0 t4_0 t5_0 t6_0 t7_0 = (F_DR_remainder x2 x3 x4 t0_0 t0_1 t0_2 t0_3 t0_4 t0_5 t0_6 t0_7 t0_8 t0_9 t0_10 t1_0 t2_0 t3_0 t4_0 t5_0 t6_0 t7_0) from (by have c747x := c747; rw [e44] at c747x; have c757x := c757; rw [e756] at c757x; rw [F_DR_remainder.eq_1, if_pos c747x, if_neg c757x])), (show True ∧ S_DR_remainder_J22 x2 x3 x4 t0_0 t0_1 t0_2 t0_3 t0_4 t0_5 t0_6 t0_7 t0_8 t0_9 t0_10 t1_0 t2_0 t3_0 t4_0 t5_0 t6_0 t7_0 from (by have h := hS; rw [S_DR_remainder.eq_1] at h; have c747x := c747; rw [e44] at c747x; rw [if_pos c747x] at h; have c757x := c757; rw [e756] at c757x; rw [if_neg c757x] at h; with_reducible exact h))⟩
        ·
          refine lv_iload_n hx hb d_15_39_15 rfl (lv_at hl 3 rfl) ?_
          refine q_goi V (q_runS (As := [.int x4]) (rest := [.ref (q 134)]) (d := 1) (mc := 0) (ms := 0) C0 V rfl LS_DR_113 (X_DR_no l D g q ws  x4 hI   _) rfl hl.1 rfl (Nat.le_of_ble_eq_true rfl) ⟨by decide, by decide⟩ ⟨Nat.le_of_ble_eq_true rfl, Nat.le_of_ble_eq_true rfl⟩ d_15_39_16) (fun a762 u760 H locs hp761 V => ?_)
          obtain ⟨rfl, b763, b764, hE765⟩ := hp761
          have e766 : a762 = (F_DR_no x4) := hE765
          clear b763
          clear b764
          refine lv_if_eq (tgt := 26) hx hb d_15_39_19 (by decide) (fun c767 => ?_) (fun c767 => ?_)
          ·
            refine lv_aload_n hx hb d_15_39_26 rfl (lv_at hl 0 rfl) ?_
            refine lv_iload_n hx hb d_15_39_27 rfl (lv_at hl 2 rfl) ?_
            have ob769 : True ∧ S_DR_isZero x3 t0_0 t0_1 t0_2 t0_3 t0_4 t0_5 t0_6 t0_7 t0_8 t0_9 t0_10 t1_0 := (by have h := hS; rw [S_DR_remainder.eq_1] at h; have c747x := c747; rw [e44] at c747x; rw [if_pos c747x] at h; have c757x := c757; rw [e756] at c757x; rw [if_pos c757x] at h; have c767x := c767; rw [e766] at c767x; rw [if_pos c767x] at h; with_reducible exact h.2.1)
            refine q_goi V (q_runV (As := [.int x3]) (rest := [.ref (q 134)]) (d := 1) (mc := 0) (ms := 0) (ci := 14) C0 V rfl LV_DR_120 (X_DR_isZero l D g q ws  x3 hI t0_0 t0_1 t0_2 t0_3 t0_4 t0_5 t0_6 t0_7 t0_8 t0_9 t0_10 hT0 t1_0 hT1 ob769 _) rfl rfl hT0 rfl hl.1 rfl (Nat.le_of_ble_eq_true rfl) ⟨by decide, by decide⟩ ⟨Nat.le_of_ble_eq_true rfl, Nat.le_of_ble_eq_true rfl⟩ d_15_39_28) (fun a772 u770 H locs hp771 V => ?_)
            obtain ⟨rfl, b773, b774, hE775⟩ := hp771
            have e776 : a772 = (F_DR_isZero x3 t0_0 t0_1 t0_2 t0_3 t0_4 t0_5 t0_6 t0_7 t0_8 t0_9 t0_10 t1_0) := hE775
            clear b773
            clear b774
            refine lv_if_eq (tgt := 38) hx hb d_15_39_31 (by decide) (fun c777 => ?_) (fun c777 => ?_)
            ·
              refine lv_iconst (v := 0) hx hb d_15_39_38 (by decide) ?_
              exact J54 ((0 : Int32)) _ _ _ ws ⟨(show q_F (0 ≤ 0) from (show 0 ≤ 0 from by omega)), (show q_F (0 ≤ 2) from (show 0 ≤ 2 from by omega)), V, q_lw hl (q_lw1 0 rfl (q_lw1 1 rfl (q_lw1 2 rfl (q_lw1 3 rfl q_lw0)))), (show F_DR_remainder_J39 x2 x3 x4 t0_0 t0_1 t0_2 t0_3 t0_4 t0_5 t0_6 t0_7 t0_8 t0_9 t0_10 t1_0 t2_0 t3_0 t4_0 t5_0 t6_0 t7_0 0 = (F_DR_remainder x2 x3 x4 t0_0 t0_1 t0_2 t0_3 t0_4 t0_5 t0_6 t0_7 t0_8 t0_9 t0_10 t1_0 t2_0 t3_0 t4_0 t5_0 t6_0 t7_0) from (by have c747x := c747; rw [e44] at c747x; have c757x := c757; rw [e756] at c757x; have c767x := c767; rw [e766] at c767x; have c777x := c777; rw [e776] at c777x; rw [F_DR_remainder.eq_1, if_pos c747x, if_pos c757x, if_pos c767x, if_pos c777x])), (show True ∧ S_DR_remainder_J39 x2 x3 x4 t0_0 t0_1 t0_2 t0_3 t0_4 t0_5 t0_6 t0_7 t0_8 t0_9 t0_10 t1_0 t2_0 t3_0 t4_0 t5_0 t6_0 t7_0 0 from (by have h := hS; rw [S_DR_remainder.eq_1] at h; have c747x := c747; rw [e44] at c747x; rw [if_pos c747x] at h; have c757x := c757; rw [e756] at c757x; rw [if_pos c757x] at h; have c767x := c767; rw [e766] at c767x; rw [if_pos c767x] at h; replace h := q_s2 h; have c777x := c777; rw [e776] at c777x; rw [if_pos c777x] at h; with_reducible exact h))⟩
            ·
              refine lv_iconst (v := 2) hx hb d_15_39_34 (by decide) ?_
              refine lv_goto (tgt := 39) hx hb d_15_39_35 (by decide) ?_
              exact J54 ((2 : Int32)) _ _ _ ws ⟨(show q_F (0 ≤ 2) from (show 0 ≤ 2 from by omega)), (show q_F (2 ≤ 2) from (show 2 ≤ 2 from by omega)), V, q_lw hl (q_lw1 0 rfl (q_lw1 1 rfl (q_lw1 2 rfl (q_lw1 3 rfl q_lw0)))), (show F_DR_remainder_J39 x2 x3 x4 t0_0 t0_1 t0_2 t0_3 t0_4 t0_5 t0_6 t0_7 t0_8 t0_9 t0_10 t1_0 t2_0 t3_0 t4_0 t5_0 t6_0 t7_0 2 = (F_DR_remainder x2 x3 x4 t0_0 t0_1 t0_2 t0_3 t0_4 t0_5 t0_6 t0_7 t0_8 t0_9 t0_10 t1_0 t2_0 t3_0 t4_0 t5_0 t6_0 t7_0) from (by have c747x := c747; rw [e44] at c747x; have c757x := c757; rw [e756] at c757x; have c767x := c767; rw [e766] at c767x; have c777x := c777; rw [e776] at c777x; rw [F_DR_remainder.eq_1, if_pos c747x, if_pos c757x, if_pos c767x, if_neg c777x])), (show True ∧ S_DR_remainder_J39 x2 x3 x4 t0_0 t0_1 t0_2 t0_3 t0_4 t0_5 t0_6 t0_7 t0_8 t0_9 t0_10 t1_0 t2_0 t3_0 t4_0 t5_0 t6_0 t7_0 2 from (by have h := hS; rw [S_DR_remainder.eq_1] at h; have c747x := c747; rw [e44] at c747x; rw [if_pos c747x] at h; have c757x := c757; rw [e756] at c757x; rw [if_pos c757x] at h; have c767x := c767; rw [e766] at c767x; rw [if_pos c767x] at h; replace h := q_s2 h; have c777x := c777; rw [e776] at c777x; rw [if_neg c777x] at h; with_reducible exact h))⟩
          ·
            exact J741 (()) _ _ _ ws ⟨V, q_lw hl (q_lw1 0 rfl (q_lw1 1 rfl (q_lw1 2 rfl (q_lw1 3 rfl q_lw0)))), (show F_DR_remainder_J22 x2 x3 x4 t0_0 t0_1 t0_2 t0_3 t0_4 t0_5 t0_6 t0_7 t0_8 t0_9 t0_10 t1_0 t2_0 t3_0 t4_0 t5_0 t6_0 t7_0 = (F_DR_remainder x2 x3 x4 t0_0 t0_1 t0_2 t0_3 t0_4 t0_5 t0_6 t0_7 t0_8 t0_9 t0_10 t1_0 t2_0 t3_0 t4_0 t5_0 t6_0 t7_0) from (by have c747x := c747; rw [e44] at c747x; have c757x := c757; rw [e756] at c757x; have c767x := c767; rw [e766] at c767x; rw [F_DR_remainder.eq_1, if_pos c747x, if_pos c757x, if_neg c767x])), (show True ∧ S_DR_remainder_J22 x2 x3 x4 t0_0 t0_1 t0_2 t0_3 t0_4 t0_5 t0_6 t0_7 t0_8 t0_9 t0_10 t1_0 t2_0 t3_0 t4_0 t5_0 t6_0 t7_0 from (by have h := hS; rw [S_DR_remainder.eq_1] at h; have c747x := c747; rw [e44] at c747x; rw [if_pos c747x] at h; have c757x := c757; rw [e756] at c757x; rw [if_pos c757x] at h; have c767x := c767; rw [e766] at c767x; rw [if_neg c767x] at h; with_reducible exact h))⟩

