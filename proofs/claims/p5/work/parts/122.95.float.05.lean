theorem d_17_36_0 : decode prog_17_method_36_code 0 = .ok (.aload_n 0, 1) := by decide +kernel
theorem d_17_36_1 : decode prog_17_method_36_code 1 = .ok (.iconst 0, 1) := by decide +kernel
theorem d_17_36_2 : decode prog_17_method_36_code 2 = .ok (.putfield 31, 3) := by decide +kernel
theorem d_17_36_5 : decode prog_17_method_36_code 5 = .ok (.aload_n 0, 1) := by decide +kernel
theorem d_17_36_6 : decode prog_17_method_36_code 6 = .ok (.lload_n 1, 1) := by decide +kernel
theorem d_17_36_7 : decode prog_17_method_36_code 7 = .ok (.iconst 0, 1) := by decide +kernel
theorem d_17_36_8 : decode prog_17_method_36_code 8 = .ok (.invokevirtual 126, 3) := by decide +kernel
theorem d_17_36_11 : decode prog_17_method_36_code 11 = .ok (.aload_n 0, 1) := by decide +kernel
theorem d_17_36_12 : decode prog_17_method_36_code 12 = .ok (.getfield 41, 3) := by decide +kernel
theorem d_17_36_25 : decode prog_17_method_36_code 25 = .ok (.lstore_n 3, 1) := by decide +kernel
theorem d_17_36_26 : decode prog_17_method_36_code 26 = .ok (.aload_n 0, 1) := by decide +kernel
theorem d_17_36_27 : decode prog_17_method_36_code 27 = .ok (.invokevirtual 130, 3) := by decide +kernel
theorem d_17_36_30 : decode prog_17_method_36_code 30 = .ok (.ifCond .ne 24, 3) := by decide +kernel
theorem d_17_36_54 : decode prog_17_method_36_code 54 = .ok (.aload_n 0, 1) := by decide +kernel
theorem d_17_36_55 : decode prog_17_method_36_code 55 = .ok (.getfield 52, 3) := by decide +kernel
theorem d_17_36_58 : decode prog_17_method_36_code 58 = .ok (.lstore 5, 2) := by decide +kernel
theorem d_17_36_60 : decode prog_17_method_36_code 60 = .ok (.aload_n 0, 1) := by decide +kernel
theorem d_17_36_61 : decode prog_17_method_36_code 61 = .ok (.getfield 55, 3) := by decide +kernel
theorem d_17_36_64 : decode prog_17_method_36_code 64 = .ok (.istore 7, 2) := by decide +kernel
theorem d_17_36_66 : decode prog_17_method_36_code 66 = .ok (.iconst 0, 1) := by decide +kernel
theorem d_17_36_67 : decode prog_17_method_36_code 67 = .ok (.istore 8, 2) := by decide +kernel
theorem d_17_36_69 : decode prog_17_method_36_code 69 = .ok (.iconst 0, 1) := by decide +kernel
theorem d_17_36_70 : decode prog_17_method_36_code 70 = .ok (.istore 9, 2) := by decide +kernel
theorem d_17_36_72 : decode prog_17_method_36_code 72 = .ok (.lload 5, 2) := by decide +kernel
theorem d_17_36_74 : decode prog_17_method_36_code 74 = .ok (.ldc2_w 178, 3) := by decide +kernel
set_option maxRecDepth 100000 in
theorem w_2937 : (Cond.constantLong "NumberHouseModel$FloatRows" (178 : Nat) (16777216 : Int64)) ∈ q_tbl := q_of13 57 rfl (by decide +kernel)
theorem d_17_36_77 : decode prog_17_method_36_code 77 = .ok (.lcmp, 1) := by decide +kernel
theorem d_17_36_89 : decode prog_17_method_36_code 89 = .ok (.iload 8, 2) := by decide +kernel
theorem d_17_36_100 : decode prog_17_method_36_code 100 = .ok (.iconst 1, 1) := by decide +kernel
theorem d_17_36_101 : decode prog_17_method_36_code 101 = .ok (.goto 4, 3) := by decide +kernel
theorem d_17_36_105 : decode prog_17_method_36_code 105 = .ok (.istore 8, 2) := by decide +kernel
theorem d_17_36_107 : decode prog_17_method_36_code 107 = .ok (.lload 5, 2) := by decide +kernel
theorem d_17_36_109 : decode prog_17_method_36_code 109 = .ok (.lconst 1, 1) := by decide +kernel
theorem d_17_36_110 : decode prog_17_method_36_code 110 = .ok (.land, 1) := by decide +kernel
theorem d_17_36_111 : decode prog_17_method_36_code 111 = .ok (.l2i, 1) := by decide +kernel
theorem d_17_36_112 : decode prog_17_method_36_code 112 = .ok (.istore 9, 2) := by decide +kernel
theorem d_17_36_114 : decode prog_17_method_36_code 114 = .ok (.lload 5, 2) := by decide +kernel
theorem d_17_36_116 : decode prog_17_method_36_code 116 = .ok (.iconst 1, 1) := by decide +kernel
theorem d_17_36_117 : decode prog_17_method_36_code 117 = .ok (.lshr, 1) := by decide +kernel
theorem d_17_36_118 : decode prog_17_method_36_code 118 = .ok (.lstore 5, 2) := by decide +kernel
theorem d_17_36_120 : decode prog_17_method_36_code 120 = .ok (.iinc 7 1, 3) := by decide +kernel
theorem d_17_36_123 : decode prog_17_method_36_code 123 = .ok (.goto (-51), 3) := by decide +kernel
theorem d_17_36_91 : decode prog_17_method_36_code 91 = .ok (.ifCond .ne 9, 3) := by decide +kernel
theorem d_17_36_94 : decode prog_17_method_36_code 94 = .ok (.iload 9, 2) := by decide +kernel
theorem d_17_36_96 : decode prog_17_method_36_code 96 = .ok (.iconst 1, 1) := by decide +kernel
theorem d_17_36_97 : decode prog_17_method_36_code 97 = .ok (.if_icmp .ne 7, 3) := by decide +kernel
theorem d_17_36_104 : decode prog_17_method_36_code 104 = .ok (.iconst 0, 1) := by decide +kernel
theorem d_17_36_78 : decode prog_17_method_36_code 78 = .ok (.ifCond .ge 11, 3) := by decide +kernel
theorem d_17_36_81 : decode prog_17_method_36_code 81 = .ok (.iload 7, 2) := by decide +kernel
theorem d_17_36_83 : decode prog_17_method_36_code 83 = .ok (.sipush (-149), 3) := by decide +kernel
theorem d_17_36_86 : decode prog_17_method_36_code 86 = .ok (.if_icmp .ge 40, 3) := by decide +kernel
theorem d_17_36_126 : decode prog_17_method_36_code 126 = .ok (.iload 9, 2) := by decide +kernel
theorem d_17_36_128 : decode prog_17_method_36_code 128 = .ok (.iconst 1, 1) := by decide +kernel
theorem d_17_36_155 : decode prog_17_method_36_code 155 = .ok (.lstore 5, 2) := by decide +kernel
theorem d_17_36_157 : decode prog_17_method_36_code 157 = .ok (.lload 5, 2) := by decide +kernel
theorem d_17_36_159 : decode prog_17_method_36_code 159 = .ok (.lconst 0, 1) := by decide +kernel
theorem d_17_36_160 : decode prog_17_method_36_code 160 = .ok (.lcmp, 1) := by decide +kernel
theorem d_17_36_193 : decode prog_17_method_36_code 193 = .ok (.lload 5, 2) := by decide +kernel
theorem d_17_36_195 : decode prog_17_method_36_code 195 = .ok (.ldc2_w 178, 3) := by decide +kernel
theorem d_17_36_198 : decode prog_17_method_36_code 198 = .ok (.lcmp, 1) := by decide +kernel
theorem d_17_36_211 : decode prog_17_method_36_code 211 = .ok (.iload 7, 2) := by decide +kernel
theorem d_17_36_213 : decode prog_17_method_36_code 213 = .ok (.bipush 104, 2) := by decide +kernel
theorem d_17_36_215 : decode prog_17_method_36_code 215 = .ok (.if_icmp .le 9, 3) := by decide +kernel
theorem d_17_36_224 : decode prog_17_method_36_code 224 = .ok (.lload_n 3, 1) := by decide +kernel
theorem d_17_36_225 : decode prog_17_method_36_code 225 = .ok (.lload 5, 2) := by decide +kernel
theorem d_17_36_227 : decode prog_17_method_36_code 227 = .ok (.ldc2_w 180, 3) := by decide +kernel
set_option maxRecDepth 100000 in
theorem w_2938 : (Cond.constantLong "NumberHouseModel$FloatRows" (180 : Nat) (8388608 : Int64)) ∈ q_tbl := q_of13 58 rfl (by decide +kernel)
theorem d_17_36_230 : decode prog_17_method_36_code 230 = .ok (.lcmp, 1) := by decide +kernel
theorem d_17_36_231 : decode prog_17_method_36_code 231 = .ok (.ifCond .ge 8, 3) := by decide +kernel
theorem d_17_36_239 : decode prog_17_method_36_code 239 = .ok (.iload 7, 2) := by decide +kernel
theorem d_17_36_241 : decode prog_17_method_36_code 241 = .ok (.sipush 150, 3) := by decide +kernel
theorem d_17_36_244 : decode prog_17_method_36_code 244 = .ok (.iadd, 1) := by decide +kernel
theorem d_17_36_245 : decode prog_17_method_36_code 245 = .ok (.i2l, 1) := by decide +kernel
theorem d_17_36_246 : decode prog_17_method_36_code 246 = .ok (.bipush 23, 2) := by decide +kernel
theorem d_17_36_248 : decode prog_17_method_36_code 248 = .ok (.lshl, 1) := by decide +kernel
theorem d_17_36_249 : decode prog_17_method_36_code 249 = .ok (.lload 5, 2) := by decide +kernel
theorem d_17_36_251 : decode prog_17_method_36_code 251 = .ok (.ladd, 1) := by decide +kernel
theorem d_17_36_252 : decode prog_17_method_36_code 252 = .ok (.ldc2_w 180, 3) := by decide +kernel
theorem d_17_36_255 : decode prog_17_method_36_code 255 = .ok (.lsub, 1) := by decide +kernel
theorem d_17_36_256 : decode prog_17_method_36_code 256 = .ok (.lor, 1) := by decide +kernel
theorem d_17_36_257 : decode prog_17_method_36_code 257 = .ok (.lreturn, 1) := by decide +kernel
theorem d_17_36_234 : decode prog_17_method_36_code 234 = .ok (.lload 5, 2) := by decide +kernel
theorem d_17_36_236 : decode prog_17_method_36_code 236 = .ok (.goto 20, 3) := by decide +kernel
theorem d_17_36_218 : decode prog_17_method_36_code 218 = .ok (.lload_n 3, 1) := by decide +kernel
theorem d_17_36_219 : decode prog_17_method_36_code 219 = .ok (.ldc2_w 176, 3) := by decide +kernel
set_option maxRecDepth 100000 in
theorem w_2936 : (Cond.constantLong "NumberHouseModel$FloatRows" (176 : Nat) (2139095040 : Int64)) ∈ q_tbl := q_of13 56 rfl (by decide +kernel)
theorem d_17_36_222 : decode prog_17_method_36_code 222 = .ok (.lor, 1) := by decide +kernel
theorem d_17_36_223 : decode prog_17_method_36_code 223 = .ok (.lreturn, 1) := by decide +kernel
theorem d_17_36_199 : decode prog_17_method_36_code 199 = .ok (.ifCond .ne 12, 3) := by decide +kernel
theorem d_17_36_202 : decode prog_17_method_36_code 202 = .ok (.lload 5, 2) := by decide +kernel
theorem d_17_36_204 : decode prog_17_method_36_code 204 = .ok (.iconst 1, 1) := by decide +kernel
theorem d_17_36_205 : decode prog_17_method_36_code 205 = .ok (.lshr, 1) := by decide +kernel
theorem d_17_36_206 : decode prog_17_method_36_code 206 = .ok (.lstore 5, 2) := by decide +kernel
theorem d_17_36_208 : decode prog_17_method_36_code 208 = .ok (.iinc 7 1, 3) := by decide +kernel
theorem d_17_36_161 : decode prog_17_method_36_code 161 = .ok (.ifCond .eq 32, 3) := by decide +kernel
theorem d_17_36_164 : decode prog_17_method_36_code 164 = .ok (.lload 5, 2) := by decide +kernel
theorem d_17_36_166 : decode prog_17_method_36_code 166 = .ok (.ldc2_w 180, 3) := by decide +kernel
theorem d_17_36_169 : decode prog_17_method_36_code 169 = .ok (.lcmp, 1) := by decide +kernel
theorem d_17_36_170 : decode prog_17_method_36_code 170 = .ok (.ifCond .ge 23, 3) := by decide +kernel
theorem d_17_36_173 : decode prog_17_method_36_code 173 = .ok (.iload 7, 2) := by decide +kernel
theorem d_17_36_175 : decode prog_17_method_36_code 175 = .ok (.sipush (-149), 3) := by decide +kernel
theorem d_17_36_178 : decode prog_17_method_36_code 178 = .ok (.if_icmp .le 15, 3) := by decide +kernel
theorem d_17_36_181 : decode prog_17_method_36_code 181 = .ok (.lload 5, 2) := by decide +kernel
theorem d_17_36_183 : decode prog_17_method_36_code 183 = .ok (.iconst 1, 1) := by decide +kernel
theorem d_17_36_184 : decode prog_17_method_36_code 184 = .ok (.lshl, 1) := by decide +kernel
theorem d_17_36_185 : decode prog_17_method_36_code 185 = .ok (.lstore 5, 2) := by decide +kernel
theorem d_17_36_187 : decode prog_17_method_36_code 187 = .ok (.iinc 7 (-1), 3) := by decide +kernel
theorem d_17_36_190 : decode prog_17_method_36_code 190 = .ok (.goto (-33), 3) := by decide +kernel
theorem d_17_36_153 : decode prog_17_method_36_code 153 = .ok (.lload 5, 2) := by decide +kernel
theorem d_17_36_129 : decode prog_17_method_36_code 129 = .ok (.if_icmp .ne 24, 3) := by decide +kernel
theorem d_17_36_132 : decode prog_17_method_36_code 132 = .ok (.iload 8, 2) := by decide +kernel
theorem d_17_36_146 : decode prog_17_method_36_code 146 = .ok (.lload 5, 2) := by decide +kernel
theorem d_17_36_148 : decode prog_17_method_36_code 148 = .ok (.lconst 1, 1) := by decide +kernel
theorem d_17_36_149 : decode prog_17_method_36_code 149 = .ok (.ladd, 1) := by decide +kernel
theorem d_17_36_150 : decode prog_17_method_36_code 150 = .ok (.goto 5, 3) := by decide +kernel
theorem d_17_36_134 : decode prog_17_method_36_code 134 = .ok (.ifCond .ne 12, 3) := by decide +kernel
theorem d_17_36_137 : decode prog_17_method_36_code 137 = .ok (.lload 5, 2) := by decide +kernel
theorem d_17_36_139 : decode prog_17_method_36_code 139 = .ok (.lconst 1, 1) := by decide +kernel
theorem d_17_36_140 : decode prog_17_method_36_code 140 = .ok (.land, 1) := by decide +kernel
theorem d_17_36_141 : decode prog_17_method_36_code 141 = .ok (.lconst 1, 1) := by decide +kernel
theorem d_17_36_142 : decode prog_17_method_36_code 142 = .ok (.lcmp, 1) := by decide +kernel
theorem d_17_36_143 : decode prog_17_method_36_code 143 = .ok (.ifCond .ne 10, 3) := by decide +kernel
theorem d_17_36_33 : decode prog_17_method_36_code 33 = .ok (.aload_n 0, 1) := by decide +kernel
theorem d_17_36_34 : decode prog_17_method_36_code 34 = .ok (.getfield 48, 3) := by decide +kernel
theorem d_17_36_37 : decode prog_17_method_36_code 37 = .ok (.lconst 0, 1) := by decide +kernel
theorem d_17_36_38 : decode prog_17_method_36_code 38 = .ok (.lcmp, 1) := by decide +kernel
theorem d_17_36_39 : decode prog_17_method_36_code 39 = .ok (.ifCond .eq 9, 3) := by decide +kernel
theorem d_17_36_48 : decode prog_17_method_36_code 48 = .ok (.lload_n 3, 1) := by decide +kernel
theorem d_17_36_49 : decode prog_17_method_36_code 49 = .ok (.ldc2_w 176, 3) := by decide +kernel
theorem d_17_36_52 : decode prog_17_method_36_code 52 = .ok (.lor, 1) := by decide +kernel
theorem d_17_36_53 : decode prog_17_method_36_code 53 = .ok (.lreturn, 1) := by decide +kernel
theorem d_17_36_42 : decode prog_17_method_36_code 42 = .ok (.ldc2_w 174, 3) := by decide +kernel
set_option maxRecDepth 100000 in
theorem w_2935 : (Cond.constantLong "NumberHouseModel$FloatRows" (174 : Nat) (2143289344 : Int64)) ∈ q_tbl := q_of13 55 rfl (by decide +kernel)
theorem d_17_36_45 : decode prog_17_method_36_code 45 = .ok (.goto 8, 3) := by decide +kernel
theorem d_17_36_15 : decode prog_17_method_36_code 15 = .ok (.ifCond .eq 9, 3) := by decide +kernel
theorem d_17_36_24 : decode prog_17_method_36_code 24 = .ok (.lconst 0, 1) := by decide +kernel
theorem d_17_36_18 : decode prog_17_method_36_code 18 = .ok (.ldc2_w 172, 3) := by decide +kernel
set_option maxRecDepth 100000 in
theorem w_2934 : (Cond.constantLong "NumberHouseModel$FloatRows" (172 : Nat) (2147483648 : Int64)) ∈ q_tbl := q_of13 54 rfl (by decide +kernel)
theorem d_17_36_21 : decode prog_17_method_36_code 21 = .ok (.goto 4, 3) := by decide +kernel
def y_FR_narrowed : MethodName := ⟨"NumberHouseModel$FloatRows", "narrowed", "(J)J"⟩
def F_FR_narrowed_J100 (K_F_FR_narrowed_L72 : Int32 → Int32 → Int32 → Int64 → (Int64 × Int32 × Int32 × Int32 × Int32 × Int64 × Int32 × Int32 × Int64 × Int32 × Int64 × Int32)) (x2 : Int64) (t0_0 : Int32) (t0_1 : Int32) (t0_2 : Int32) (t0_3 : Int32) (t0_4 : Int64) (t0_5 : Int32) (t0_6 : Int32) (t0_7 : Int64) (t0_8 : Int32) (t0_9 : Int64) (t0_10 : Int32) (p53 : (Int32 × Int32 × Int32 × Int32 × Int64 × Int32 × Int32 × Int64 × Int32 × Int64 × Int32)) (y19 : Int32) (y20 : Int32) (y21 : Int32) (y22 : Int32) (y23 : Int64) (y24 : Int32) (y25 : Int32) (y26 : Int64) (y27 : Int32) (y28 : Int64) (y29 : Int32) (lx71 : Int64) (lx94 : Int32) (lx95 : Int32) (lx96 : Int32) (lx97 : Int64) : Int64 × Int32 × Int32 × Int32 × Int32 × Int64 × Int32 × Int32 × Int64 × Int32 × Int64 × Int32 := K_F_FR_narrowed_L72 ((lx97 &&& 1 : Int64).toInt32 : Int32) 1 (lx96 + 1 : Int32) (lx97 >>> ((1 : Int32).toInt64 &&& 63) : Int64)
def F_FR_narrowed_J89 (K_F_FR_narrowed_L72 : Int32 → Int32 → Int32 → Int64 → (Int64 × Int32 × Int32 × Int32 × Int32 × Int64 × Int32 × Int32 × Int64 × Int32 × Int64 × Int32)) (x2 : Int64) (t0_0 : Int32) (t0_1 : Int32) (t0_2 : Int32) (t0_3 : Int32) (t0_4 : Int64) (t0_5 : Int32) (t0_6 : Int32) (t0_7 : Int64) (t0_8 : Int32) (t0_9 : Int64) (t0_10 : Int32) (p53 : (Int32 × Int32 × Int32 × Int32 × Int64 × Int32 × Int32 × Int64 × Int32 × Int64 × Int32)) (y19 : Int32) (y20 : Int32) (y21 : Int32) (y22 : Int32) (y23 : Int64) (y24 : Int32) (y25 : Int32) (y26 : Int64) (y27 : Int32) (y28 : Int64) (y29 : Int32) (lx71 : Int64) (lx94 : Int32) (lx95 : Int32) (lx96 : Int32) (lx97 : Int64) : Int64 × Int32 × Int32 × Int32 × Int32 × Int64 × Int32 × Int32 × Int64 × Int32 × Int64 × Int32 := if lx95 = (0 : Int32) then (if lx94 = (1 : Int32) then (F_FR_narrowed_J100 K_F_FR_narrowed_L72 x2 t0_0 t0_1 t0_2 t0_3 t0_4 t0_5 t0_6 t0_7 t0_8 t0_9 t0_10 p53 y19 y20 y21 y22 y23 y24 y25 y26 y27 y28 y29 lx71 lx94 lx95 lx96 lx97) else (K_F_FR_narrowed_L72 ((lx97 &&& 1 : Int64).toInt32 : Int32) 0 (lx96 + 1 : Int32) (lx97 >>> ((1 : Int32).toInt64 &&& 63) : Int64))) else (F_FR_narrowed_J100 K_F_FR_narrowed_L72 x2 t0_0 t0_1 t0_2 t0_3 t0_4 t0_5 t0_6 t0_7 t0_8 t0_9 t0_10 p53 y19 y20 y21 y22 y23 y24 y25 y26 y27 y28 y29 lx71 lx94 lx95 lx96 lx97)
def F_FR_narrowed_J211 (K_F_FR_narrowed_L72 : Int32 → Int32 → Int32 → Int64 → (Int64 × Int32 × Int32 × Int32 × Int32 × Int64 × Int32 × Int32 × Int64 × Int32 × Int64 × Int32)) (K_F_FR_narrowed_L157 : Int64 → Int32 → (Int64 × Int32 × Int32 × Int32 × Int32 × Int64 × Int32 × Int32 × Int64 × Int32 × Int64 × Int32)) (x2 : Int64) (t0_0 : Int32) (t0_1 : Int32) (t0_2 : Int32) (t0_3 : Int32) (t0_4 : Int64) (t0_5 : Int32) (t0_6 : Int32) (t0_7 : Int64) (t0_8 : Int32) (t0_9 : Int64) (t0_10 : Int32) (p53 : (Int32 × Int32 × Int32 × Int32 × Int64 × Int32 × Int32 × Int64 × Int32 × Int64 × Int32)) (y19 : Int32) (y20 : Int32) (y21 : Int32) (y22 : Int32) (y23 : Int64) (y24 : Int32) (y25 : Int32) (y26 : Int64) (y27 : Int32) (y28 : Int64) (y29 : Int32) (lx71 : Int64) (lx94 : Int32) (lx95 : Int32) (lx96 : Int32) (lx97 : Int64) (lx156 : Int64) (lx169 : Int64) (lx170 : Int32) (lx192 : Int64) (lx193 : Int32) : Int64 × Int32 × Int32 × Int32 × Int32 × Int64 × Int32 × Int32 × Int64 × Int32 × Int64 × Int32 := if lx193 ≤ (104 : Int32) then (if (0 : Int32) ≤ (lg_cmp lx192 8388608 : Int32) then (((lx71 ||| (((((lx193 + 150 : Int32).toInt64 : Int64) <<< ((23 : Int32).toInt64 &&& 63) : Int64) + lx192 : Int64) - 8388608 : Int64) : Int64), y19, y20, y21, y22, y23, y24, y25, y26, y27, y28, y29)) else (((lx71 ||| lx192 : Int64), y19, y20, y21, y22, y23, y24, y25, y26, y27, y28, y29))) else (((lx71 ||| 2139095040 : Int64), y19, y20, y21, y22, y23, y24, y25, y26, y27, y28, y29))
def F_FR_narrowed_J193 (K_F_FR_narrowed_L72 : Int32 → Int32 → Int32 → Int64 → (Int64 × Int32 × Int32 × Int32 × Int32 × Int64 × Int32 × Int32 × Int64 × Int32 × Int64 × Int32)) (K_F_FR_narrowed_L157 : Int64 → Int32 → (Int64 × Int32 × Int32 × Int32 × Int32 × Int64 × Int32 × Int32 × Int64 × Int32 × Int64 × Int32)) (x2 : Int64) (t0_0 : Int32) (t0_1 : Int32) (t0_2 : Int32) (t0_3 : Int32) (t0_4 : Int64) (t0_5 : Int32) (t0_6 : Int32) (t0_7 : Int64) (t0_8 : Int32) (t0_9 : Int64) (t0_10 : Int32) (p53 : (Int32 × Int32 × Int32 × Int32 × Int64 × Int32 × Int32 × Int64 × Int32 × Int64 × Int32)) (y19 : Int32) (y20 : Int32) (y21 : Int32) (y22 : Int32) (y23 : Int64) (y24 : Int32) (y25 : Int32) (y26 : Int64) (y27 : Int32) (y28 : Int64) (y29 : Int32) (lx71 : Int64) (lx94 : Int32) (lx95 : Int32) (lx96 : Int32) (lx97 : Int64) (lx156 : Int64) (lx169 : Int64) (lx170 : Int32) : Int64 × Int32 × Int32 × Int32 × Int32 × Int64 × Int32 × Int32 × Int64 × Int32 × Int64 × Int32 := if (lg_cmp lx169 16777216 : Int32) = (0 : Int32) then (F_FR_narrowed_J211 K_F_FR_narrowed_L72 K_F_FR_narrowed_L157 x2 t0_0 t0_1 t0_2 t0_3 t0_4 t0_5 t0_6 t0_7 t0_8 t0_9 t0_10 p53 y19 y20 y21 y22 y23 y24 y25 y26 y27 y28 y29 lx71 lx94 lx95 lx96 lx97 lx156 lx169 lx170 (lx169 >>> ((1 : Int32).toInt64 &&& 63) : Int64) (lx170 + 1 : Int32)) else (F_FR_narrowed_J211 K_F_FR_narrowed_L72 K_F_FR_narrowed_L157 x2 t0_0 t0_1 t0_2 t0_3 t0_4 t0_5 t0_6 t0_7 t0_8 t0_9 t0_10 p53 y19 y20 y21 y22 y23 y24 y25 y26 y27 y28 y29 lx71 lx94 lx95 lx96 lx97 lx156 lx169 lx170 lx169 lx170)
def F_FR_narrowed_L157 (K_F_FR_narrowed_L72 : Int32 → Int32 → Int32 → Int64 → (Int64 × Int32 × Int32 × Int32 × Int32 × Int64 × Int32 × Int32 × Int64 × Int32 × Int64 × Int32)) (x2 : Int64) (t0_0 : Int32) (t0_1 : Int32) (t0_2 : Int32) (t0_3 : Int32) (t0_4 : Int64) (t0_5 : Int32) (t0_6 : Int32) (t0_7 : Int64) (t0_8 : Int32) (t0_9 : Int64) (t0_10 : Int32) (p53 : (Int32 × Int32 × Int32 × Int32 × Int64 × Int32 × Int32 × Int64 × Int32 × Int64 × Int32)) (y19 : Int32) (y20 : Int32) (y21 : Int32) (y22 : Int32) (y23 : Int64) (y24 : Int32) (y25 : Int32) (y26 : Int64) (y27 : Int32) (y28 : Int64) (y29 : Int32) (lx71 : Int64) (lx94 : Int32) (lx95 : Int32) (lx96 : Int32) (lx97 : Int64) (lx156 : Int64) : Nat → Int64 → Int32 → (Int64 × Int32 × Int32 × Int32 × Int32 × Int64 × Int32 × Int32 × Int64 × Int32 × Int64 × Int32)
  | 0, _, _ => default
  | fm + 1, lx169, lx170 => if (lg_cmp lx169 0 : Int32) = (0 : Int32) then (F_FR_narrowed_J193 K_F_FR_narrowed_L72 (F_FR_narrowed_L157 K_F_FR_narrowed_L72 x2 t0_0 t0_1 t0_2 t0_3 t0_4 t0_5 t0_6 t0_7 t0_8 t0_9 t0_10 p53 y19 y20 y21 y22 y23 y24 y25 y26 y27 y28 y29 lx71 lx94 lx95 lx96 lx97 lx156 fm) x2 t0_0 t0_1 t0_2 t0_3 t0_4 t0_5 t0_6 t0_7 t0_8 t0_9 t0_10 p53 y19 y20 y21 y22 y23 y24 y25 y26 y27 y28 y29 lx71 lx94 lx95 lx96 lx97 lx156 lx169 lx170) else (if (0 : Int32) ≤ (lg_cmp lx169 8388608 : Int32) then (F_FR_narrowed_J193 K_F_FR_narrowed_L72 (F_FR_narrowed_L157 K_F_FR_narrowed_L72 x2 t0_0 t0_1 t0_2 t0_3 t0_4 t0_5 t0_6 t0_7 t0_8 t0_9 t0_10 p53 y19 y20 y21 y22 y23 y24 y25 y26 y27 y28 y29 lx71 lx94 lx95 lx96 lx97 lx156 fm) x2 t0_0 t0_1 t0_2 t0_3 t0_4 t0_5 t0_6 t0_7 t0_8 t0_9 t0_10 p53 y19 y20 y21 y22 y23 y24 y25 y26 y27 y28 y29 lx71 lx94 lx95 lx96 lx97 lx156 lx169 lx170) else (if lx170 ≤ (-149 : Int32) then (F_FR_narrowed_J193 K_F_FR_narrowed_L72 (F_FR_narrowed_L157 K_F_FR_narrowed_L72 x2 t0_0 t0_1 t0_2 t0_3 t0_4 t0_5 t0_6 t0_7 t0_8 t0_9 t0_10 p53 y19 y20 y21 y22 y23 y24 y25 y26 y27 y28 y29 lx71 lx94 lx95 lx96 lx97 lx156 fm) x2 t0_0 t0_1 t0_2 t0_3 t0_4 t0_5 t0_6 t0_7 t0_8 t0_9 t0_10 p53 y19 y20 y21 y22 y23 y24 y25 y26 y27 y28 y29 lx71 lx94 lx95 lx96 lx97 lx156 lx169 lx170) else (F_FR_narrowed_L157 K_F_FR_narrowed_L72 x2 t0_0 t0_1 t0_2 t0_3 t0_4 t0_5 t0_6 t0_7 t0_8 t0_9 t0_10 p53 y19 y20 y21 y22 y23 y24 y25 y26 y27 y28 y29 lx71 lx94 lx95 lx96 lx97 lx156 fm (lx169 <<< ((1 : Int32).toInt64 &&& 63) : Int64) (lx170 + (-1) : Int32))))
def F_FR_narrowed_J155 (K_F_FR_narrowed_L72 : Int32 → Int32 → Int32 → Int64 → (Int64 × Int32 × Int32 × Int32 × Int32 × Int64 × Int32 × Int32 × Int64 × Int32 × Int64 × Int32)) (x2 : Int64) (t0_0 : Int32) (t0_1 : Int32) (t0_2 : Int32) (t0_3 : Int32) (t0_4 : Int64) (t0_5 : Int32) (t0_6 : Int32) (t0_7 : Int64) (t0_8 : Int32) (t0_9 : Int64) (t0_10 : Int32) (p53 : (Int32 × Int32 × Int32 × Int32 × Int64 × Int32 × Int32 × Int64 × Int32 × Int64 × Int32)) (y19 : Int32) (y20 : Int32) (y21 : Int32) (y22 : Int32) (y23 : Int64) (y24 : Int32) (y25 : Int32) (y26 : Int64) (y27 : Int32) (y28 : Int64) (y29 : Int32) (lx71 : Int64) (lx94 : Int32) (lx95 : Int32) (lx96 : Int32) (lx97 : Int64) (lx156 : Int64) : Int64 × Int32 × Int32 × Int32 × Int32 × Int64 × Int32 × Int32 × Int64 × Int32 × Int64 × Int32 := F_FR_narrowed_L157 K_F_FR_narrowed_L72 x2 t0_0 t0_1 t0_2 t0_3 t0_4 t0_5 t0_6 t0_7 t0_8 t0_9 t0_10 p53 y19 y20 y21 y22 y23 y24 y25 y26 y27 y28 y29 lx71 lx94 lx95 lx96 lx97 lx156 ((lx96.toInt - ((-1074))).toNat + 1) lx156 lx96
def F_FR_narrowed_J153 (K_F_FR_narrowed_L72 : Int32 → Int32 → Int32 → Int64 → (Int64 × Int32 × Int32 × Int32 × Int32 × Int64 × Int32 × Int32 × Int64 × Int32 × Int64 × Int32)) (x2 : Int64) (t0_0 : Int32) (t0_1 : Int32) (t0_2 : Int32) (t0_3 : Int32) (t0_4 : Int64) (t0_5 : Int32) (t0_6 : Int32) (t0_7 : Int64) (t0_8 : Int32) (t0_9 : Int64) (t0_10 : Int32) (p53 : (Int32 × Int32 × Int32 × Int32 × Int64 × Int32 × Int32 × Int64 × Int32 × Int64 × Int32)) (y19 : Int32) (y20 : Int32) (y21 : Int32) (y22 : Int32) (y23 : Int64) (y24 : Int32) (y25 : Int32) (y26 : Int64) (y27 : Int32) (y28 : Int64) (y29 : Int32) (lx71 : Int64) (lx94 : Int32) (lx95 : Int32) (lx96 : Int32) (lx97 : Int64) : Int64 × Int32 × Int32 × Int32 × Int32 × Int64 × Int32 × Int32 × Int64 × Int32 × Int64 × Int32 := F_FR_narrowed_J155 K_F_FR_narrowed_L72 x2 t0_0 t0_1 t0_2 t0_3 t0_4 t0_5 t0_6 t0_7 t0_8 t0_9 t0_10 p53 y19 y20 y21 y22 y23 y24 y25 y26 y27 y28 y29 lx71 lx94 lx95 lx96 lx97 lx97
def F_FR_narrowed_J146 (K_F_FR_narrowed_L72 : Int32 → Int32 → Int32 → Int64 → (Int64 × Int32 × Int32 × Int32 × Int32 × Int64 × Int32 × Int32 × Int64 × Int32 × Int64 × Int32)) (x2 : Int64) (t0_0 : Int32) (t0_1 : Int32) (t0_2 : Int32) (t0_3 : Int32) (t0_4 : Int64) (t0_5 : Int32) (t0_6 : Int32) (t0_7 : Int64) (t0_8 : Int32) (t0_9 : Int64) (t0_10 : Int32) (p53 : (Int32 × Int32 × Int32 × Int32 × Int64 × Int32 × Int32 × Int64 × Int32 × Int64 × Int32)) (y19 : Int32) (y20 : Int32) (y21 : Int32) (y22 : Int32) (y23 : Int64) (y24 : Int32) (y25 : Int32) (y26 : Int64) (y27 : Int32) (y28 : Int64) (y29 : Int32) (lx71 : Int64) (lx94 : Int32) (lx95 : Int32) (lx96 : Int32) (lx97 : Int64) : Int64 × Int32 × Int32 × Int32 × Int32 × Int64 × Int32 × Int32 × Int64 × Int32 × Int64 × Int32 := F_FR_narrowed_J155 K_F_FR_narrowed_L72 x2 t0_0 t0_1 t0_2 t0_3 t0_4 t0_5 t0_6 t0_7 t0_8 t0_9 t0_10 p53 y19 y20 y21 y22 y23 y24 y25 y26 y27 y28 y29 lx71 lx94 lx95 lx96 lx97 (lx97 + 1 : Int64)
def F_FR_narrowed_L72 (x2 : Int64) (t0_0 : Int32) (t0_1 : Int32) (t0_2 : Int32) (t0_3 : Int32) (t0_4 : Int64) (t0_5 : Int32) (t0_6 : Int32) (t0_7 : Int64) (t0_8 : Int32) (t0_9 : Int64) (t0_10 : Int32) (p53 : (Int32 × Int32 × Int32 × Int32 × Int64 × Int32 × Int32 × Int64 × Int32 × Int64 × Int32)) (y19 : Int32) (y20 : Int32) (y21 : Int32) (y22 : Int32) (y23 : Int64) (y24 : Int32) (y25 : Int32) (y26 : Int64) (y27 : Int32) (y28 : Int64) (y29 : Int32) (lx71 : Int64) : Nat → Int32 → Int32 → Int32 → Int64 → (Int64 × Int32 × Int32 × Int32 × Int32 × Int64 × Int32 × Int32 × Int64 × Int32 × Int64 × Int32)
  | 0, _, _, _, _ => default
  | fm + 1, lx94, lx95, lx96, lx97 => if (0 : Int32) ≤ (lg_cmp lx97 16777216 : Int32) then (F_FR_narrowed_J89 (F_FR_narrowed_L72 x2 t0_0 t0_1 t0_2 t0_3 t0_4 t0_5 t0_6 t0_7 t0_8 t0_9 t0_10 p53 y19 y20 y21 y22 y23 y24 y25 y26 y27 y28 y29 lx71 fm) x2 t0_0 t0_1 t0_2 t0_3 t0_4 t0_5 t0_6 t0_7 t0_8 t0_9 t0_10 p53 y19 y20 y21 y22 y23 y24 y25 y26 y27 y28 y29 lx71 lx94 lx95 lx96 lx97) else (if (-149 : Int32) ≤ lx96 then (if lx94 = (1 : Int32) then (if lx95 = (0 : Int32) then (if (lg_cmp (lx97 &&& 1 : Int64) 1 : Int32) = (0 : Int32) then (F_FR_narrowed_J146 (F_FR_narrowed_L72 x2 t0_0 t0_1 t0_2 t0_3 t0_4 t0_5 t0_6 t0_7 t0_8 t0_9 t0_10 p53 y19 y20 y21 y22 y23 y24 y25 y26 y27 y28 y29 lx71 fm) x2 t0_0 t0_1 t0_2 t0_3 t0_4 t0_5 t0_6 t0_7 t0_8 t0_9 t0_10 p53 y19 y20 y21 y22 y23 y24 y25 y26 y27 y28 y29 lx71 lx94 lx95 lx96 lx97) else (F_FR_narrowed_J153 (F_FR_narrowed_L72 x2 t0_0 t0_1 t0_2 t0_3 t0_4 t0_5 t0_6 t0_7 t0_8 t0_9 t0_10 p53 y19 y20 y21 y22 y23 y24 y25 y26 y27 y28 y29 lx71 fm) x2 t0_0 t0_1 t0_2 t0_3 t0_4 t0_5 t0_6 t0_7 t0_8 t0_9 t0_10 p53 y19 y20 y21 y22 y23 y24 y25 y26 y27 y28 y29 lx71 lx94 lx95 lx96 lx97)) else (F_FR_narrowed_J146 (F_FR_narrowed_L72 x2 t0_0 t0_1 t0_2 t0_3 t0_4 t0_5 t0_6 t0_7 t0_8 t0_9 t0_10 p53 y19 y20 y21 y22 y23 y24 y25 y26 y27 y28 y29 lx71 fm) x2 t0_0 t0_1 t0_2 t0_3 t0_4 t0_5 t0_6 t0_7 t0_8 t0_9 t0_10 p53 y19 y20 y21 y22 y23 y24 y25 y26 y27 y28 y29 lx71 lx94 lx95 lx96 lx97)) else (F_FR_narrowed_J153 (F_FR_narrowed_L72 x2 t0_0 t0_1 t0_2 t0_3 t0_4 t0_5 t0_6 t0_7 t0_8 t0_9 t0_10 p53 y19 y20 y21 y22 y23 y24 y25 y26 y27 y28 y29 lx71 fm) x2 t0_0 t0_1 t0_2 t0_3 t0_4 t0_5 t0_6 t0_7 t0_8 t0_9 t0_10 p53 y19 y20 y21 y22 y23 y24 y25 y26 y27 y28 y29 lx71 lx94 lx95 lx96 lx97)) else (F_FR_narrowed_J89 (F_FR_narrowed_L72 x2 t0_0 t0_1 t0_2 t0_3 t0_4 t0_5 t0_6 t0_7 t0_8 t0_9 t0_10 p53 y19 y20 y21 y22 y23 y24 y25 y26 y27 y28 y29 lx71 fm) x2 t0_0 t0_1 t0_2 t0_3 t0_4 t0_5 t0_6 t0_7 t0_8 t0_9 t0_10 p53 y19 y20 y21 y22 y23 y24 y25 y26 y27 y28 y29 lx71 lx94 lx95 lx96 lx97))
def F_FR_narrowed_J25 (x2 : Int64) (t0_0 : Int32) (t0_1 : Int32) (t0_2 : Int32) (t0_3 : Int32) (t0_4 : Int64) (t0_5 : Int32) (t0_6 : Int32) (t0_7 : Int64) (t0_8 : Int32) (t0_9 : Int64) (t0_10 : Int32) (p53 : (Int32 × Int32 × Int32 × Int32 × Int64 × Int32 × Int32 × Int64 × Int32 × Int64 × Int32)) (y19 : Int32) (y20 : Int32) (y21 : Int32) (y22 : Int32) (y23 : Int64) (y24 : Int32) (y25 : Int32) (y26 : Int64) (y27 : Int32) (y28 : Int64) (y29 : Int32) (lx71 : Int64) : Int64 × Int32 × Int32 × Int32 × Int32 × Int64 × Int32 × Int32 × Int64 × Int32 × Int64 × Int32 := if ((F_FR_isFinite y19 y20 y21 y22 y23 y24 y25 y26 y27 y28 y29) : Int32) = (0 : Int32) then (if (lg_cmp y23 0 : Int32) = (0 : Int32) then (((lx71 ||| 2139095040 : Int64), y19, y20, y21, y22, y23, y24, y25, y26, y27, y28, y29)) else (((2143289344 : Int64), y19, y20, y21, y22, y23, y24, y25, y26, y27, y28, y29))) else (F_FR_narrowed_L72 x2 t0_0 t0_1 t0_2 t0_3 t0_4 t0_5 t0_6 t0_7 t0_8 t0_9 t0_10 p53 y19 y20 y21 y22 y23 y24 y25 y26 y27 y28 y29 lx71 1000000 0 0 y27 y26)
def F_FR_narrowed_c8 (x2 : Int64) (t0_0 : Int32) (t0_1 : Int32) (t0_2 : Int32) (t0_3 : Int32) (t0_4 : Int64) (t0_5 : Int32) (t0_6 : Int32) (t0_7 : Int64) (t0_8 : Int32) (t0_9 : Int64) (t0_10 : Int32) (p53 : (Int32 × Int32 × Int32 × Int32 × Int64 × Int32 × Int32 × Int64 × Int32 × Int64 × Int32)) : Int64 × Int32 × Int32 × Int32 × Int32 × Int64 × Int32 × Int32 × Int64 × Int32 × Int64 × Int32 := if (p53.2.2.1 : Int32) = (0 : Int32) then (F_FR_narrowed_J25 x2 t0_0 t0_1 t0_2 t0_3 t0_4 t0_5 t0_6 t0_7 t0_8 t0_9 t0_10 p53 (p53.1 : Int32) (p53.2.1 : Int32) (p53.2.2.1 : Int32) (p53.2.2.2.1 : Int32) (p53.2.2.2.2.1 : Int64) (p53.2.2.2.2.2.1 : Int32) (p53.2.2.2.2.2.2.1 : Int32) (p53.2.2.2.2.2.2.2.1 : Int64) (p53.2.2.2.2.2.2.2.2.1 : Int32) (p53.2.2.2.2.2.2.2.2.2.1 : Int64) (p53.2.2.2.2.2.2.2.2.2.2 : Int32) 0) else (F_FR_narrowed_J25 x2 t0_0 t0_1 t0_2 t0_3 t0_4 t0_5 t0_6 t0_7 t0_8 t0_9 t0_10 p53 (p53.1 : Int32) (p53.2.1 : Int32) (p53.2.2.1 : Int32) (p53.2.2.2.1 : Int32) (p53.2.2.2.2.1 : Int64) (p53.2.2.2.2.2.1 : Int32) (p53.2.2.2.2.2.2.1 : Int32) (p53.2.2.2.2.2.2.2.1 : Int64) (p53.2.2.2.2.2.2.2.2.1 : Int32) (p53.2.2.2.2.2.2.2.2.2.1 : Int64) (p53.2.2.2.2.2.2.2.2.2.2 : Int32) 2147483648)
def F_FR_narrowed (x2 : Int64) (t0_0 : Int32) (t0_1 : Int32) (t0_2 : Int32) (t0_3 : Int32) (t0_4 : Int64) (t0_5 : Int32) (t0_6 : Int32) (t0_7 : Int64) (t0_8 : Int32) (t0_9 : Int64) (t0_10 : Int32) : Int64 × Int32 × Int32 × Int32 × Int32 × Int64 × Int32 × Int32 × Int64 × Int32 × Int64 × Int32 := F_FR_narrowed_c8 x2 t0_0 t0_1 t0_2 t0_3 t0_4 t0_5 t0_6 t0_7 t0_8 t0_9 t0_10 ((F_FR_open x2 (0 : Int32) (0 : Int32) t0_1 t0_2 t0_3 t0_4 t0_5 t0_6 t0_7 t0_8 t0_9 t0_10) : (Int32 × Int32 × Int32 × Int32 × Int64 × Int32 × Int32 × Int64 × Int32 × Int64 × Int32))
def S_FR_narrowed_J100 (K_S_FR_narrowed_L72 : Int32 → Int32 → Int32 → Int64 → Prop) (x2 : Int64) (t0_0 : Int32) (t0_1 : Int32) (t0_2 : Int32) (t0_3 : Int32) (t0_4 : Int64) (t0_5 : Int32) (t0_6 : Int32) (t0_7 : Int64) (t0_8 : Int32) (t0_9 : Int64) (t0_10 : Int32) (p53 : (Int32 × Int32 × Int32 × Int32 × Int64 × Int32 × Int32 × Int64 × Int32 × Int64 × Int32)) (y19 : Int32) (y20 : Int32) (y21 : Int32) (y22 : Int32) (y23 : Int64) (y24 : Int32) (y25 : Int32) (y26 : Int64) (y27 : Int32) (y28 : Int64) (y29 : Int32) (lx71 : Int64) (lx94 : Int32) (lx95 : Int32) (lx96 : Int32) (lx97 : Int64) : Prop := K_S_FR_narrowed_L72 ((lx97 &&& 1 : Int64).toInt32 : Int32) 1 (lx96 + 1 : Int32) (lx97 >>> ((1 : Int32).toInt64 &&& 63) : Int64)
def S_FR_narrowed_J89 (K_S_FR_narrowed_L72 : Int32 → Int32 → Int32 → Int64 → Prop) (x2 : Int64) (t0_0 : Int32) (t0_1 : Int32) (t0_2 : Int32) (t0_3 : Int32) (t0_4 : Int64) (t0_5 : Int32) (t0_6 : Int32) (t0_7 : Int64) (t0_8 : Int32) (t0_9 : Int64) (t0_10 : Int32) (p53 : (Int32 × Int32 × Int32 × Int32 × Int64 × Int32 × Int32 × Int64 × Int32 × Int64 × Int32)) (y19 : Int32) (y20 : Int32) (y21 : Int32) (y22 : Int32) (y23 : Int64) (y24 : Int32) (y25 : Int32) (y26 : Int64) (y27 : Int32) (y28 : Int64) (y29 : Int32) (lx71 : Int64) (lx94 : Int32) (lx95 : Int32) (lx96 : Int32) (lx97 : Int64) : Prop := if lx95 = (0 : Int32) then (if lx94 = (1 : Int32) then (S_FR_narrowed_J100 K_S_FR_narrowed_L72 x2 t0_0 t0_1 t0_2 t0_3 t0_4 t0_5 t0_6 t0_7 t0_8 t0_9 t0_10 p53 y19 y20 y21 y22 y23 y24 y25 y26 y27 y28 y29 lx71 lx94 lx95 lx96 lx97) else (K_S_FR_narrowed_L72 ((lx97 &&& 1 : Int64).toInt32 : Int32) 0 (lx96 + 1 : Int32) (lx97 >>> ((1 : Int32).toInt64 &&& 63) : Int64))) else (S_FR_narrowed_J100 K_S_FR_narrowed_L72 x2 t0_0 t0_1 t0_2 t0_3 t0_4 t0_5 t0_6 t0_7 t0_8 t0_9 t0_10 p53 y19 y20 y21 y22 y23 y24 y25 y26 y27 y28 y29 lx71 lx94 lx95 lx96 lx97)
def S_FR_narrowed_J211 (K_S_FR_narrowed_L72 : Int32 → Int32 → Int32 → Int64 → Prop) (K_S_FR_narrowed_L157 : Int64 → Int32 → Prop) (x2 : Int64) (t0_0 : Int32) (t0_1 : Int32) (t0_2 : Int32) (t0_3 : Int32) (t0_4 : Int64) (t0_5 : Int32) (t0_6 : Int32) (t0_7 : Int64) (t0_8 : Int32) (t0_9 : Int64) (t0_10 : Int32) (p53 : (Int32 × Int32 × Int32 × Int32 × Int64 × Int32 × Int32 × Int64 × Int32 × Int64 × Int32)) (y19 : Int32) (y20 : Int32) (y21 : Int32) (y22 : Int32) (y23 : Int64) (y24 : Int32) (y25 : Int32) (y26 : Int64) (y27 : Int32) (y28 : Int64) (y29 : Int32) (lx71 : Int64) (lx94 : Int32) (lx95 : Int32) (lx96 : Int32) (lx97 : Int64) (lx156 : Int64) (lx169 : Int64) (lx170 : Int32) (lx192 : Int64) (lx193 : Int32) : Prop := if lx193 ≤ (104 : Int32) then (if (0 : Int32) ≤ (lg_cmp lx192 8388608 : Int32) then (True) else (True)) else (True)
def S_FR_narrowed_J193 (K_S_FR_narrowed_L72 : Int32 → Int32 → Int32 → Int64 → Prop) (K_S_FR_narrowed_L157 : Int64 → Int32 → Prop) (x2 : Int64) (t0_0 : Int32) (t0_1 : Int32) (t0_2 : Int32) (t0_3 : Int32) (t0_4 : Int64) (t0_5 : Int32) (t0_6 : Int32) (t0_7 : Int64) (t0_8 : Int32) (t0_9 : Int64) (t0_10 : Int32) (p53 : (Int32 × Int32 × Int32 × Int32 × Int64 × Int32 × Int32 × Int64 × Int32 × Int64 × Int32)) (y19 : Int32) (y20 : Int32) (y21 : Int32) (y22 : Int32) (y23 : Int64) (y24 : Int32) (y25 : Int32) (y26 : Int64) (y27 : Int32) (y28 : Int64) (y29 : Int32) (lx71 : Int64) (lx94 : Int32) (lx95 : Int32) (lx96 : Int32) (lx97 : Int64) (lx156 : Int64) (lx169 : Int64) (lx170 : Int32) : Prop := if (lg_cmp lx169 16777216 : Int32) = (0 : Int32) then (S_FR_narrowed_J211 K_S_FR_narrowed_L72 K_S_FR_narrowed_L157 x2 t0_0 t0_1 t0_2 t0_3 t0_4 t0_5 t0_6 t0_7 t0_8 t0_9 t0_10 p53 y19 y20 y21 y22 y23 y24 y25 y26 y27 y28 y29 lx71 lx94 lx95 lx96 lx97 lx156 lx169 lx170 (lx169 >>> ((1 : Int32).toInt64 &&& 63) : Int64) (lx170 + 1 : Int32)) else (S_FR_narrowed_J211 K_S_FR_narrowed_L72 K_S_FR_narrowed_L157 x2 t0_0 t0_1 t0_2 t0_3 t0_4 t0_5 t0_6 t0_7 t0_8 t0_9 t0_10 p53 y19 y20 y21 y22 y23 y24 y25 y26 y27 y28 y29 lx71 lx94 lx95 lx96 lx97 lx156 lx169 lx170 lx169 lx170)
def S_FR_narrowed_L157 (K_S_FR_narrowed_L72 : Int32 → Int32 → Int32 → Int64 → Prop) (x2 : Int64) (t0_0 : Int32) (t0_1 : Int32) (t0_2 : Int32) (t0_3 : Int32) (t0_4 : Int64) (t0_5 : Int32) (t0_6 : Int32) (t0_7 : Int64) (t0_8 : Int32) (t0_9 : Int64) (t0_10 : Int32) (p53 : (Int32 × Int32 × Int32 × Int32 × Int64 × Int32 × Int32 × Int64 × Int32 × Int64 × Int32)) (y19 : Int32) (y20 : Int32) (y21 : Int32) (y22 : Int32) (y23 : Int64) (y24 : Int32) (y25 : Int32) (y26 : Int64) (y27 : Int32) (y28 : Int64) (y29 : Int32) (lx71 : Int64) (lx94 : Int32) (lx95 : Int32) (lx96 : Int32) (lx97 : Int64) (lx156 : Int64) : Nat → Int64 → Int32 → Prop
  | 0, _, _ => False
  | fm + 1, lx169, lx170 => if (lg_cmp lx169 0 : Int32) = (0 : Int32) then (S_FR_narrowed_J193 K_S_FR_narrowed_L72 (S_FR_narrowed_L157 K_S_FR_narrowed_L72 x2 t0_0 t0_1 t0_2 t0_3 t0_4 t0_5 t0_6 t0_7 t0_8 t0_9 t0_10 p53 y19 y20 y21 y22 y23 y24 y25 y26 y27 y28 y29 lx71 lx94 lx95 lx96 lx97 lx156 fm) x2 t0_0 t0_1 t0_2 t0_3 t0_4 t0_5 t0_6 t0_7 t0_8 t0_9 t0_10 p53 y19 y20 y21 y22 y23 y24 y25 y26 y27 y28 y29 lx71 lx94 lx95 lx96 lx97 lx156 lx169 lx170) else (if (0 : Int32) ≤ (lg_cmp lx169 8388608 : Int32) then (S_FR_narrowed_J193 K_S_FR_narrowed_L72 (S_FR_narrowed_L157 K_S_FR_narrowed_L72 x2 t0_0 t0_1 t0_2 t0_3 t0_4 t0_5 t0_6 t0_7 t0_8 t0_9 t0_10 p53 y19 y20 y21 y22 y23 y24 y25 y26 y27 y28 y29 lx71 lx94 lx95 lx96 lx97 lx156 fm) x2 t0_0 t0_1 t0_2 t0_3 t0_4 t0_5 t0_6 t0_7 t0_8 t0_9 t0_10 p53 y19 y20 y21 y22 y23 y24 y25 y26 y27 y28 y29 lx71 lx94 lx95 lx96 lx97 lx156 lx169 lx170) else (if lx170 ≤ (-149 : Int32) then (S_FR_narrowed_J193 K_S_FR_narrowed_L72 (S_FR_narrowed_L157 K_S_FR_narrowed_L72 x2 t0_0 t0_1 t0_2 t0_3 t0_4 t0_5 t0_6 t0_7 t0_8 t0_9 t0_10 p53 y19 y20 y21 y22 y23 y24 y25 y26 y27 y28 y29 lx71 lx94 lx95 lx96 lx97 lx156 fm) x2 t0_0 t0_1 t0_2 t0_3 t0_4 t0_5 t0_6 t0_7 t0_8 t0_9 t0_10 p53 y19 y20 y21 y22 y23 y24 y25 y26 y27 y28 y29 lx71 lx94 lx95 lx96 lx97 lx156 lx169 lx170) else (S_FR_narrowed_L157 K_S_FR_narrowed_L72 x2 t0_0 t0_1 t0_2 t0_3 t0_4 t0_5 t0_6 t0_7 t0_8 t0_9 t0_10 p53 y19 y20 y21 y22 y23 y24 y25 y26 y27 y28 y29 lx71 lx94 lx95 lx96 lx97 lx156 fm (lx169 <<< ((1 : Int32).toInt64 &&& 63) : Int64) (lx170 + (-1) : Int32))))
def S_FR_narrowed_J155 (K_S_FR_narrowed_L72 : Int32 → Int32 → Int32 → Int64 → Prop) (x2 : Int64) (t0_0 : Int32) (t0_1 : Int32) (t0_2 : Int32) (t0_3 : Int32) (t0_4 : Int64) (t0_5 : Int32) (t0_6 : Int32) (t0_7 : Int64) (t0_8 : Int32) (t0_9 : Int64) (t0_10 : Int32) (p53 : (Int32 × Int32 × Int32 × Int32 × Int64 × Int32 × Int32 × Int64 × Int32 × Int64 × Int32)) (y19 : Int32) (y20 : Int32) (y21 : Int32) (y22 : Int32) (y23 : Int64) (y24 : Int32) (y25 : Int32) (y26 : Int64) (y27 : Int32) (y28 : Int64) (y29 : Int32) (lx71 : Int64) (lx94 : Int32) (lx95 : Int32) (lx96 : Int32) (lx97 : Int64) (lx156 : Int64) : Prop := S_FR_narrowed_L157 K_S_FR_narrowed_L72 x2 t0_0 t0_1 t0_2 t0_3 t0_4 t0_5 t0_6 t0_7 t0_8 t0_9 t0_10 p53 y19 y20 y21 y22 y23 y24 y25 y26 y27 y28 y29 lx71 lx94 lx95 lx96 lx97 lx156 ((lx96.toInt - ((-1074))).toNat + 1) lx156 lx96
def S_FR_narrowed_J153 (K_S_FR_narrowed_L72 : Int32 → Int32 → Int32 → Int64 → Prop) (x2 : Int64) (t0_0 : Int32) (t0_1 : Int32) (t0_2 : Int32) (t0_3 : Int32) (t0_4 : Int64) (t0_5 : Int32) (t0_6 : Int32) (t0_7 : Int64) (t0_8 : Int32) (t0_9 : Int64) (t0_10 : Int32) (p53 : (Int32 × Int32 × Int32 × Int32 × Int64 × Int32 × Int32 × Int64 × Int32 × Int64 × Int32)) (y19 : Int32) (y20 : Int32) (y21 : Int32) (y22 : Int32) (y23 : Int64) (y24 : Int32) (y25 : Int32) (y26 : Int64) (y27 : Int32) (y28 : Int64) (y29 : Int32) (lx71 : Int64) (lx94 : Int32) (lx95 : Int32) (lx96 : Int32) (lx97 : Int64) : Prop := S_FR_narrowed_J155 K_S_FR_narrowed_L72 x2 t0_0 t0_1 t0_2 t0_3 t0_4 t0_5 t0_6 t0_7 t0_8 t0_9 t0_10 p53 y19 y20 y21 y22 y23 y24 y25 y26 y27 y28 y29 lx71 lx94 lx95 lx96 lx97 lx97
def S_FR_narrowed_J146 (K_S_FR_narrowed_L72 : Int32 → Int32 → Int32 → Int64 → Prop) (x2 : Int64) (t0_0 : Int32) (t0_1 : Int32) (t0_2 : Int32) (t0_3 : Int32) (t0_4 : Int64) (t0_5 : Int32) (t0_6 : Int32) (t0_7 : Int64) (t0_8 : Int32) (t0_9 : Int64) (t0_10 : Int32) (p53 : (Int32 × Int32 × Int32 × Int32 × Int64 × Int32 × Int32 × Int64 × Int32 × Int64 × Int32)) (y19 : Int32) (y20 : Int32) (y21 : Int32) (y22 : Int32) (y23 : Int64) (y24 : Int32) (y25 : Int32) (y26 : Int64) (y27 : Int32) (y28 : Int64) (y29 : Int32) (lx71 : Int64) (lx94 : Int32) (lx95 : Int32) (lx96 : Int32) (lx97 : Int64) : Prop := S_FR_narrowed_J155 K_S_FR_narrowed_L72 x2 t0_0 t0_1 t0_2 t0_3 t0_4 t0_5 t0_6 t0_7 t0_8 t0_9 t0_10 p53 y19 y20 y21 y22 y23 y24 y25 y26 y27 y28 y29 lx71 lx94 lx95 lx96 lx97 (lx97 + 1 : Int64)
def S_FR_narrowed_L72 (x2 : Int64) (t0_0 : Int32) (t0_1 : Int32) (t0_2 : Int32) (t0_3 : Int32) (t0_4 : Int64) (t0_5 : Int32) (t0_6 : Int32) (t0_7 : Int64) (t0_8 : Int32) (t0_9 : Int64) (t0_10 : Int32) (p53 : (Int32 × Int32 × Int32 × Int32 × Int64 × Int32 × Int32 × Int64 × Int32 × Int64 × Int32)) (y19 : Int32) (y20 : Int32) (y21 : Int32) (y22 : Int32) (y23 : Int64) (y24 : Int32) (y25 : Int32) (y26 : Int64) (y27 : Int32) (y28 : Int64) (y29 : Int32) (lx71 : Int64) : Nat → Int32 → Int32 → Int32 → Int64 → Prop
  | 0, _, _, _, _ => False
  | fm + 1, lx94, lx95, lx96, lx97 => if (0 : Int32) ≤ (lg_cmp lx97 16777216 : Int32) then (S_FR_narrowed_J89 (S_FR_narrowed_L72 x2 t0_0 t0_1 t0_2 t0_3 t0_4 t0_5 t0_6 t0_7 t0_8 t0_9 t0_10 p53 y19 y20 y21 y22 y23 y24 y25 y26 y27 y28 y29 lx71 fm) x2 t0_0 t0_1 t0_2 t0_3 t0_4 t0_5 t0_6 t0_7 t0_8 t0_9 t0_10 p53 y19 y20 y21 y22 y23 y24 y25 y26 y27 y28 y29 lx71 lx94 lx95 lx96 lx97) else (if (-149 : Int32) ≤ lx96 then (if lx94 = (1 : Int32) then (if lx95 = (0 : Int32) then (if (lg_cmp (lx97 &&& 1 : Int64) 1 : Int32) = (0 : Int32) then (S_FR_narrowed_J146 (S_FR_narrowed_L72 x2 t0_0 t0_1 t0_2 t0_3 t0_4 t0_5 t0_6 t0_7 t0_8 t0_9 t0_10 p53 y19 y20 y21 y22 y23 y24 y25 y26 y27 y28 y29 lx71 fm) x2 t0_0 t0_1 t0_2 t0_3 t0_4 t0_5 t0_6 t0_7 t0_8 t0_9 t0_10 p53 y19 y20 y21 y22 y23 y24 y25 y26 y27 y28 y29 lx71 lx94 lx95 lx96 lx97) else (S_FR_narrowed_J153 (S_FR_narrowed_L72 x2 t0_0 t0_1 t0_2 t0_3 t0_4 t0_5 t0_6 t0_7 t0_8 t0_9 t0_10 p53 y19 y20 y21 y22 y23 y24 y25 y26 y27 y28 y29 lx71 fm) x2 t0_0 t0_1 t0_2 t0_3 t0_4 t0_5 t0_6 t0_7 t0_8 t0_9 t0_10 p53 y19 y20 y21 y22 y23 y24 y25 y26 y27 y28 y29 lx71 lx94 lx95 lx96 lx97)) else (S_FR_narrowed_J146 (S_FR_narrowed_L72 x2 t0_0 t0_1 t0_2 t0_3 t0_4 t0_5 t0_6 t0_7 t0_8 t0_9 t0_10 p53 y19 y20 y21 y22 y23 y24 y25 y26 y27 y28 y29 lx71 fm) x2 t0_0 t0_1 t0_2 t0_3 t0_4 t0_5 t0_6 t0_7 t0_8 t0_9 t0_10 p53 y19 y20 y21 y22 y23 y24 y25 y26 y27 y28 y29 lx71 lx94 lx95 lx96 lx97)) else (S_FR_narrowed_J153 (S_FR_narrowed_L72 x2 t0_0 t0_1 t0_2 t0_3 t0_4 t0_5 t0_6 t0_7 t0_8 t0_9 t0_10 p53 y19 y20 y21 y22 y23 y24 y25 y26 y27 y28 y29 lx71 fm) x2 t0_0 t0_1 t0_2 t0_3 t0_4 t0_5 t0_6 t0_7 t0_8 t0_9 t0_10 p53 y19 y20 y21 y22 y23 y24 y25 y26 y27 y28 y29 lx71 lx94 lx95 lx96 lx97)) else (S_FR_narrowed_J89 (S_FR_narrowed_L72 x2 t0_0 t0_1 t0_2 t0_3 t0_4 t0_5 t0_6 t0_7 t0_8 t0_9 t0_10 p53 y19 y20 y21 y22 y23 y24 y25 y26 y27 y28 y29 lx71 fm) x2 t0_0 t0_1 t0_2 t0_3 t0_4 t0_5 t0_6 t0_7 t0_8 t0_9 t0_10 p53 y19 y20 y21 y22 y23 y24 y25 y26 y27 y28 y29 lx71 lx94 lx95 lx96 lx97))
def S_FR_narrowed_J25 (x2 : Int64) (t0_0 : Int32) (t0_1 : Int32) (t0_2 : Int32) (t0_3 : Int32) (t0_4 : Int64) (t0_5 : Int32) (t0_6 : Int32) (t0_7 : Int64) (t0_8 : Int32) (t0_9 : Int64) (t0_10 : Int32) (p53 : (Int32 × Int32 × Int32 × Int32 × Int64 × Int32 × Int32 × Int64 × Int32 × Int64 × Int32)) (y19 : Int32) (y20 : Int32) (y21 : Int32) (y22 : Int32) (y23 : Int64) (y24 : Int32) (y25 : Int32) (y26 : Int64) (y27 : Int32) (y28 : Int64) (y29 : Int32) (lx71 : Int64) : Prop := if ((F_FR_isFinite y19 y20 y21 y22 y23 y24 y25 y26 y27 y28 y29) : Int32) = (0 : Int32) then (if (lg_cmp y23 0 : Int32) = (0 : Int32) then (True) else (True)) else (S_FR_narrowed_L72 x2 t0_0 t0_1 t0_2 t0_3 t0_4 t0_5 t0_6 t0_7 t0_8 t0_9 t0_10 p53 y19 y20 y21 y22 y23 y24 y25 y26 y27 y28 y29 lx71 1000000 0 0 y27 y26)
def S_FR_narrowed_c8 (x2 : Int64) (t0_0 : Int32) (t0_1 : Int32) (t0_2 : Int32) (t0_3 : Int32) (t0_4 : Int64) (t0_5 : Int32) (t0_6 : Int32) (t0_7 : Int64) (t0_8 : Int32) (t0_9 : Int64) (t0_10 : Int32) (p53 : (Int32 × Int32 × Int32 × Int32 × Int64 × Int32 × Int32 × Int64 × Int32 × Int64 × Int32)) : Prop := if (p53.2.2.1 : Int32) = (0 : Int32) then (S_FR_narrowed_J25 x2 t0_0 t0_1 t0_2 t0_3 t0_4 t0_5 t0_6 t0_7 t0_8 t0_9 t0_10 p53 (p53.1 : Int32) (p53.2.1 : Int32) (p53.2.2.1 : Int32) (p53.2.2.2.1 : Int32) (p53.2.2.2.2.1 : Int64) (p53.2.2.2.2.2.1 : Int32) (p53.2.2.2.2.2.2.1 : Int32) (p53.2.2.2.2.2.2.2.1 : Int64) (p53.2.2.2.2.2.2.2.2.1 : Int32) (p53.2.2.2.2.2.2.2.2.2.1 : Int64) (p53.2.2.2.2.2.2.2.2.2.2 : Int32) 0) else (S_FR_narrowed_J25 x2 t0_0 t0_1 t0_2 t0_3 t0_4 t0_5 t0_6 t0_7 t0_8 t0_9 t0_10 p53 (p53.1 : Int32) (p53.2.1 : Int32) (p53.2.2.1 : Int32) (p53.2.2.2.1 : Int32) (p53.2.2.2.2.1 : Int64) (p53.2.2.2.2.2.1 : Int32) (p53.2.2.2.2.2.2.1 : Int32) (p53.2.2.2.2.2.2.2.1 : Int64) (p53.2.2.2.2.2.2.2.2.1 : Int32) (p53.2.2.2.2.2.2.2.2.2.1 : Int64) (p53.2.2.2.2.2.2.2.2.2.2 : Int32) 2147483648)
def S_FR_narrowed (x2 : Int64) (t0_0 : Int32) (t0_1 : Int32) (t0_2 : Int32) (t0_3 : Int32) (t0_4 : Int64) (t0_5 : Int32) (t0_6 : Int32) (t0_7 : Int64) (t0_8 : Int32) (t0_9 : Int64) (t0_10 : Int32) : Prop := S_FR_narrowed_c8 x2 t0_0 t0_1 t0_2 t0_3 t0_4 t0_5 t0_6 t0_7 t0_8 t0_9 t0_10 ((F_FR_open x2 (0 : Int32) (0 : Int32) t0_1 t0_2 t0_3 t0_4 t0_5 t0_6 t0_7 t0_8 t0_9 t0_10) : (Int32 × Int32 × Int32 × Int32 × Int64 × Int32 × Int32 × Int64 × Int32 × Int64 × Int32))
set_option maxRecDepth 100000 in
set_option maxHeartbeats 4000000 in
theorem X_FR_narrowed (l : Launch) (D : va_G) (g : Nat → ClassId) (q : Nat → Nat) (ws : va_W) (x2 : Int64) (hI : q_I (msh g q) q ws) (t0_0 : Int32) (t0_1 : Int32) (t0_2 : Int32) (t0_3 : Int32) (t0_4 : Int64) (t0_5 : Int32) (t0_6 : Int32) (t0_7 : Int64) (t0_8 : Int32) (t0_9 : Int64) (t0_10 : Int32) (hT0 : ws[145]? = (some (q 145, .inr (15, [.int t0_0, .ref (q 146), .ref (q 147), .ref (q 148), .ref (q 149), .ref (q 150), .ref (q 151), .ref (q 152), .int t0_1, .int t0_2, .int t0_3, .long t0_4, .int t0_5, .int t0_6, .long t0_7, .int t0_8, .long t0_9, .int t0_10])) : Option (Nat × va_E))) (hS : True ∧ S_FR_narrowed x2 t0_0 t0_1 t0_2 t0_3 t0_4 t0_5 t0_6 t0_7 t0_8 t0_9 t0_10) : q_mL l y_FR_narrowed prog_17_method_36_code 10 2 0 0 D g [.ref (q 145), .long x2] ws (fun r u => q_I (msh g q) q u ∧ q_un ws u [145] ∧ ∃ (u0_0 : Int32) (u0_1 : Int32) (u0_2 : Int32) (u0_3 : Int32) (u0_4 : Int64) (u0_5 : Int32) (u0_6 : Int32) (u0_7 : Int64) (u0_8 : Int32) (u0_9 : Int64) (u0_10 : Int32), u[145]? = (some (q 145, .inr (15, [.int u0_0, .ref (q 146), .ref (q 147), .ref (q 148), .ref (q 149), .ref (q 150), .ref (q 151), .ref (q 152), .int u0_1, .int u0_2, .int u0_3, .long u0_4, .int u0_5, .int u0_6, .long u0_7, .int u0_8, .long u0_9, .int u0_10])) : Option (Nat × va_E)) ∧ (0 ≤ u0_0.toInt) ∧ (u0_0.toInt ≤ 0) ∧ (t0_1.toInt ≤ u0_1.toInt) ∧ (u0_1.toInt ≤ t0_1.toInt) ∧ (t0_9.toInt ≤ u0_9.toInt) ∧ (u0_9.toInt ≤ t0_9.toInt) ∧ (t0_10.toInt ≤ u0_10.toInt) ∧ (u0_10.toInt ≤ t0_10.toInt) ∧ (u0_2.toInt ≤ u0_0.toInt + 1) ∧ (u0_0.toInt ≤ u0_2.toInt) ∧ (u0_0.toInt ≤ u0_3.toInt) ∧ (u0_5.toInt ≤ u0_0.toInt + 52) ∧ (u0_0.toInt + 23 ≤ u0_5.toInt) ∧ (u0_6.toInt ≤ u0_0.toInt + 2047) ∧ (u0_0.toInt + 255 ≤ u0_6.toInt) ∧ (u0_8.toInt ≤ u0_0.toInt + 1896) ∧ (u0_0.toInt ≤ u0_8.toInt + 1074) ∧ (u0_3.toInt ≤ u0_6.toInt) ∧ (u0_8.toInt + 149 ≤ u0_3.toInt) ∧ (u0_3.toInt ≤ u0_8.toInt + 1075) ∧ (u0_8.toInt + 150 ≤ u0_6.toInt) ∧ (r, u0_0, u0_1, u0_2, u0_3, u0_4, u0_5, u0_6, u0_7, u0_8, u0_9, u0_10) = (F_FR_narrowed x2 t0_0 t0_1 t0_2 t0_3 t0_4 t0_5 t0_6 t0_7 t0_8 t0_9 t0_10)) := by
  intro sz
  refine q_into (by decide) (Nat.le_of_ble_eq_true rfl) ?_
  intro p e s m below meth c ls hsz C0 V hl
  have hx := C0.1
  have hb := C0.2.1
  have btt0_2 := n_w145 hI hT0
  replace btt0_2 : q_F (0 ≤ t0_2.toInt ∧ t0_2.toInt ≤ 1) := btt0_2
  have hF : q_un ws ws [145] := q_u0
  have hl : lv_has ls 10 [(0, .ref (q 145)), (1, .long x2)] := hl
  refine lv_aload_n hx hb d_17_36_0 rfl (lv_at hl 0 rfl) ?_
  refine lv_iconst (v := 0) hx hb d_17_36_1 (by decide) ?_
  refine q_put (ci := 15) (j := 0) (v := .int 0) (ty := .int) C0 V i_FR o_FR n_FR rfl rfl hT0 (by decide) w_2074 rfl rfl rfl rfl (Nat.le_of_ble_eq_true rfl) d_17_36_2 (fun H locs w14 hu15 hT0 V => ?_)
  replace hT0 : w14[145]? = (some (q 145, .inr (15, [.int 0, .ref (q 146), .ref (q 147), .ref (q 148), .ref (q 149), .ref (q 150), .ref (q 151), .ref (q 152), .int t0_1, .int t0_2, .int t0_3, .long t0_4, .int t0_5, .int t0_6, .long t0_7, .int t0_8, .long t0_9, .int t0_10])) : Option (Nat × va_E)) := hT0
  replace hI := n_p145 hI hu15 hT0 (by first | with_reducible exact q_fe btt0_2 | exact ⟨(by have t1 : 0 ≤ t0_2.toInt ∧ t0_2.toInt ≤ 1 := btt0_2; omega), (by have t1 : 0 ≤ t0_2.toInt ∧ t0_2.toInt ≤ 1 := btt0_2; omega)⟩)
  replace hF := q_us hF hu15 (by simp)
  refine lv_aload_n hx hb d_17_36_5 rfl (lv_at hl 0 rfl) ?_
  refine lv_lload_n hx hb d_17_36_6 rfl (lv_at hl 1 rfl) ?_
  refine lv_iconst (v := 0) hx hb d_17_36_7 (by decide) ?_
  refine q_gov V (q_runV (As := [.long x2, .int 0]) (rest := []) (d := 1) (mc := 0) (ms := 0) (ci := 15) C0 V rfl LV_FR_126 (X_FR_open l D g q w14  x2 0 hI 0 t0_1 t0_2 t0_3 t0_4 t0_5 t0_6 t0_7 t0_8 t0_9 t0_10 hT0 ⟨(by have y0 : (0 : Int32).toInt = 0 := rfl; have y1 : (0 : Int32).toInt = 0 := rfl; omega), (by have y0 : (0 : Int32).toInt = 0 := rfl; have y1 : (0 : Int32).toInt = 0 := rfl; omega)⟩ _) rfl rfl hT0 rfl hl.1 rfl (Nat.le_of_ble_eq_true rfl) ⟨by decide, by decide⟩ ⟨Nat.le_of_ble_eq_true rfl, Nat.le_of_ble_eq_true rfl⟩ d_17_36_8) (fun u16 H locs hp17 V => ?_)
  obtain ⟨hI, hZ9⟩ := hp17
  obtain ⟨hu52, hZ9⟩ := hZ9
  obtain ⟨y19, hZ9⟩ := hZ9
  obtain ⟨y20, hZ9⟩ := hZ9
  obtain ⟨y21, hZ9⟩ := hZ9
  obtain ⟨y22, hZ9⟩ := hZ9
  obtain ⟨y23, hZ9⟩ := hZ9
  obtain ⟨y24, hZ9⟩ := hZ9
  obtain ⟨y25, hZ9⟩ := hZ9
  obtain ⟨y26, hZ9⟩ := hZ9
  obtain ⟨y27, hZ9⟩ := hZ9
  obtain ⟨y28, hZ9⟩ := hZ9
  obtain ⟨y29, hZ9⟩ := hZ9
  obtain ⟨hO18, hZ9⟩ := hZ9
  obtain ⟨b30, hZ9⟩ := hZ9
  obtain ⟨b31, hZ9⟩ := hZ9
  obtain ⟨b32, hZ9⟩ := hZ9
  obtain ⟨b33, hZ9⟩ := hZ9
  obtain ⟨b34, hZ9⟩ := hZ9
  obtain ⟨b35, hZ9⟩ := hZ9
  obtain ⟨b36, hZ9⟩ := hZ9
  obtain ⟨b37, hZ9⟩ := hZ9
  obtain ⟨b38, hZ9⟩ := hZ9
  obtain ⟨b39, hZ9⟩ := hZ9
  obtain ⟨b40, hZ9⟩ := hZ9
  obtain ⟨b41, hZ9⟩ := hZ9
  obtain ⟨b42, hZ9⟩ := hZ9
  obtain ⟨b43, hZ9⟩ := hZ9
  obtain ⟨b44, hZ9⟩ := hZ9
  obtain ⟨b45, hZ9⟩ := hZ9
  obtain ⟨b46, hZ9⟩ := hZ9
  obtain ⟨b47, hZ9⟩ := hZ9
  obtain ⟨b48, hZ9⟩ := hZ9
  obtain ⟨b49, hZ9⟩ := hZ9
  obtain ⟨b50, hE51⟩ := hZ9
  replace hO18 : u16[145]? = (some (q 145, .inr (15, [.int y19, .ref (q 146), .ref (q 147), .ref (q 148), .ref (q 149), .ref (q 150), .ref (q 151), .ref (q 152), .int y20, .int y21, .int y22, .long y23, .int y24, .int y25, .long y26, .int y27, .long y28, .int y29])) : Option (Nat × va_E)) := hO18
  obtain ⟨p53, e54⟩ : ∃ z, z = (F_FR_open x2 (0 : Int32) (0 : Int32) t0_1 t0_2 t0_3 t0_4 t0_5 t0_6 t0_7 t0_8 t0_9 t0_10) := ⟨_, rfl⟩
  have e55 : y19 = p53.1 := congrArg (fun z => z.1) (hE51.trans e54.symm)
  have e56 : y20 = p53.2.1 := congrArg (fun z => z.2.1) (hE51.trans e54.symm)
  have e57 : y21 = p53.2.2.1 := congrArg (fun z => z.2.2.1) (hE51.trans e54.symm)
  have e58 : y22 = p53.2.2.2.1 := congrArg (fun z => z.2.2.2.1) (hE51.trans e54.symm)
  have e59 : y23 = p53.2.2.2.2.1 := congrArg (fun z => z.2.2.2.2.1) (hE51.trans e54.symm)
  have e60 : y24 = p53.2.2.2.2.2.1 := congrArg (fun z => z.2.2.2.2.2.1) (hE51.trans e54.symm)
  have e61 : y25 = p53.2.2.2.2.2.2.1 := congrArg (fun z => z.2.2.2.2.2.2.1) (hE51.trans e54.symm)
  have e62 : y26 = p53.2.2.2.2.2.2.2.1 := congrArg (fun z => z.2.2.2.2.2.2.2.1) (hE51.trans e54.symm)
  have e63 : y27 = p53.2.2.2.2.2.2.2.2.1 := congrArg (fun z => z.2.2.2.2.2.2.2.2.1) (hE51.trans e54.symm)
  have e64 : y28 = p53.2.2.2.2.2.2.2.2.2.1 := congrArg (fun z => z.2.2.2.2.2.2.2.2.2.1) (hE51.trans e54.symm)
  have e65 : y29 = p53.2.2.2.2.2.2.2.2.2.2 := congrArg (fun z => z.2.2.2.2.2.2.2.2.2.2) (hE51.trans e54.symm)
  replace b30 : q_F (0 ≤ y21.toInt) := b30
  replace b31 : q_F (y21.toInt ≤ 1) := b31
  replace b32 : q_F (0 ≤ y22.toInt) := b32
  replace b33 : q_F (23 ≤ y24.toInt) := b33
  replace b34 : q_F (y24.toInt ≤ 52) := b34
  replace b35 : q_F (255 ≤ y25.toInt) := b35
  replace b36 : q_F (y25.toInt ≤ 2047) := b36
  replace b37 : q_F (0 ≤ y19.toInt) := b37
  replace b38 : q_F (y19.toInt ≤ 0) := b38
  replace b39 : q_F (t0_1.toInt ≤ y20.toInt) := b39
  replace b40 : q_F (y20.toInt ≤ t0_1.toInt) := b40
  replace b41 : q_F (0 ≤ y27.toInt + 1074) := b41
  replace b42 : q_F (y27.toInt ≤ 0 + 1896) := b42
  replace b43 : q_F (t0_9.toInt ≤ y28.toInt) := b43
  replace b44 : q_F (y28.toInt ≤ t0_9.toInt) := b44
  replace b45 : q_F (t0_10.toInt ≤ y29.toInt) := b45
  replace b46 : q_F (y29.toInt ≤ t0_10.toInt) := b46
  replace b47 : q_F (y22.toInt ≤ y25.toInt) := b47
  replace b48 : q_F (y27.toInt + 149 ≤ y22.toInt) := b48
  replace b49 : q_F (y22.toInt ≤ y27.toInt + 1075) := b49
  replace b50 : q_F (y27.toInt + 150 ≤ y25.toInt) := b50
  replace hF := q_uc hF hu52 (by simp)
  have hR66 := (show F_FR_narrowed_c8 x2 t0_0 t0_1 t0_2 t0_3 t0_4 t0_5 t0_6 t0_7 t0_8 t0_9 t0_10 p53 = (F_FR_narrowed x2 t0_0 t0_1 t0_2 t0_3 t0_4 t0_5 t0_6 t0_7 t0_8 t0_9 t0_10) from (by rw [e54, F_FR_narrowed.eq_1]))
  have hS67 := (show True ∧ S_FR_narrowed_c8 x2 t0_0 t0_1 t0_2 t0_3 t0_4 t0_5 t0_6 t0_7 t0_8 t0_9 t0_10 p53 from (by rw [e54]; have h := hS; rw [S_FR_narrowed.eq_1] at h; with_reducible exact h))
  refine lv_aload_n hx hb d_17_36_11 rfl (lv_at hl 0 rfl) ?_
  refine q_get (ci := 15) (j := 9) (v := .int y21) C0 V i_FR rfl rfl hO18 (by decide) w_2085 rfl d_17_36_12 ?_
  refine q_join (X := Int64) (fun z H locs ls _ => q_F (z.toInt ≤ 2147483648) ∧ q_F (y21.toInt ≤ z.toInt) ∧ q_Wd D g (va_A ws sz) s u16 H locs ∧ lv_has ls 10 [(0, .ref (q 145))] ∧ F_FR_narrowed_J25 x2 t0_0 t0_1 t0_2 t0_3 t0_4 t0_5 t0_6 t0_7 t0_8 t0_9 t0_10 p53 y19 y20 y21 y22 y23 y24 y25 y26 y27 y28 y29 z = (F_FR_narrowed x2 t0_0 t0_1 t0_2 t0_3 t0_4 t0_5 t0_6 t0_7 t0_8 t0_9 t0_10) ∧ True ∧ S_FR_narrowed_J25 x2 t0_0 t0_1 t0_2 t0_3 t0_4 t0_5 t0_6 t0_7 t0_8 t0_9 t0_10 p53 y19 y20 y21 y22 y23 y24 y25 y26 y27 y28 y29 z) (fun z => [.long z]) 25 0 0 ?_ ?_
  ·
    rintro lx71 H locs ls _ hZ9
    replace hZ9 := hZ9.2.2
    obtain ⟨V, hZ9⟩ := hZ9
    obtain ⟨hl, hZ9⟩ := hZ9
    obtain ⟨hR76, hS77⟩ := hZ9
    replace hl : lv_has ls 10 [(0, .ref (q 145))] := hl
    refine lv_lstore_n (lv' := [(3, .long lx71), (0, .ref (q 145))]) hx hb d_17_36_25 rfl hl (by decide) rfl (fun ls hl => ?_)
    refine lv_aload_n hx hb d_17_36_26 rfl (lv_at hl 1 rfl) ?_
    refine q_goi V (q_runV (As := []) (rest := []) (d := 1) (mc := 0) (ms := 0) (ci := 15) C0 V rfl LV_FR_130 (X_FR_isFinite l D g q u16   hI y19 y20 y21 y22 y23 y24 y25 y26 y27 y28 y29 hO18  _) rfl rfl hO18 rfl hl.1 rfl (Nat.le_of_ble_eq_true rfl) ⟨by decide, by decide⟩ ⟨Nat.le_of_ble_eq_true rfl, Nat.le_of_ble_eq_true rfl⟩ d_17_36_27) (fun a83 u81 H locs hp82 V => ?_)
    obtain ⟨rfl, b84, b85, hE86⟩ := hp82
    have e87 : a83 = (F_FR_isFinite y19 y20 y21 y22 y23 y24 y25 y26 y27 y28 y29) := hE86
    clear b84
    clear b85
    refine lv_if_ne (tgt := 54) hx hb d_17_36_30 (by decide) (fun c88 => ?_) (fun c88 => ?_)
    ·
      refine lv_aload_n hx hb d_17_36_54 rfl (lv_at hl 1 rfl) ?_
      refine q_get (ci := 15) (j := 14) (v := .long y26) C0 V i_FR rfl rfl hO18 (by decide) w_2090 rfl d_17_36_55 ?_
      refine lv_lstore (lv' := [(5, .long y26), (3, .long lx71), (0, .ref (q 145))]) hx hb d_17_36_58 hl (by decide) rfl (fun ls hl => ?_)
      refine lv_aload_n hx hb d_17_36_60 rfl (lv_at hl 2 rfl) ?_
      refine q_get (ci := 15) (j := 15) (v := .int y27) C0 V i_FR rfl rfl hO18 (by decide) w_2091 rfl d_17_36_61 ?_
      refine lv_istore (lv' := [(7, .int y27), (5, .long y26), (3, .long lx71), (0, .ref (q 145))]) hx hb d_17_36_64 hl (by decide) rfl (fun ls hl => ?_)
      refine lv_iconst (v := 0) hx hb d_17_36_66 (by decide) ?_
      refine lv_istore (lv' := [(8, .int 0), (7, .int y27), (5, .long y26), (3, .long lx71), (0, .ref (q 145))]) hx hb d_17_36_67 hl (by decide) rfl (fun ls hl => ?_)
      refine lv_iconst (v := 0) hx hb d_17_36_69 (by decide) ?_
      refine lv_istore (lv' := [(9, .int 0), (8, .int 0), (7, .int y27), (5, .long y26), (3, .long lx71), (0, .ref (q 145))]) hx hb d_17_36_70 hl (by decide) rfl (fun ls hl => ?_)
      refine q_loop (X := Nat × Int32 × Int32 × Int32 × Int64) (fun z H locs ls _ => q_F (z.2.1.toInt ≤ 1) ∧ q_F (z.2.2.1.toInt ≤ 1) ∧ q_F (y19.toInt ≤ z.2.1.toInt) ∧ q_F (y19.toInt ≤ z.2.2.1.toInt) ∧ q_Wd D g (va_A ws sz) s u16 H locs ∧ lv_has ls 10 [(9, .int z.2.1), (8, .int z.2.2.1), (7, .int z.2.2.2.1), (5, .long z.2.2.2.2), (3, .long lx71)] ∧ F_FR_narrowed_L72 x2 t0_0 t0_1 t0_2 t0_3 t0_4 t0_5 t0_6 t0_7 t0_8 t0_9 t0_10 p53 y19 y20 y21 y22 y23 y24 y25 y26 y27 y28 y29 lx71 z.1 z.2.1 z.2.2.1 z.2.2.2.1 z.2.2.2.2 = (F_FR_narrowed x2 t0_0 t0_1 t0_2 t0_3 t0_4 t0_5 t0_6 t0_7 t0_8 t0_9 t0_10) ∧ True ∧ S_FR_narrowed_L72 x2 t0_0 t0_1 t0_2 t0_3 t0_4 t0_5 t0_6 t0_7 t0_8 t0_9 t0_10 p53 y19 y20 y21 y22 y23 y24 y25 y26 y27 y28 y29 lx71 z.1 z.2.1 z.2.2.1 z.2.2.2.1 z.2.2.2.2) (fun z => z.1) ?_ ((1000000 : Nat), (0 : Int32), (0 : Int32), (y27 : Int32), (y26 : Int64)) _ _ _ u16 ⟨(show q_F (0 ≤ 1) from (show 0 ≤ 1 from by omega)), (show q_F (0 ≤ 1) from (show 0 ≤ 1 from by omega)), (show q_F (y19.toInt ≤ 0) from (show y19.toInt ≤ 0 from by have t1 : y19.toInt ≤ 0 := b38; omega)), (show q_F (y19.toInt ≤ 0) from (show y19.toInt ≤ 0 from by have t1 : y19.toInt ≤ 0 := b38; omega)), V, q_lw hl (q_lw1 0 rfl (q_lw1 1 rfl (q_lw1 2 rfl (q_lw1 3 rfl (q_lw1 4 rfl q_lw0))))), (show F_FR_narrowed_L72 x2 t0_0 t0_1 t0_2 t0_3 t0_4 t0_5 t0_6 t0_7 t0_8 t0_9 t0_10 p53 y19 y20 y21 y22 y23 y24 y25 y26 y27 y28 y29 lx71 1000000 0 0 y27 y26 = (F_FR_narrowed x2 t0_0 t0_1 t0_2 t0_3 t0_4 t0_5 t0_6 t0_7 t0_8 t0_9 t0_10) from Eq.trans (by have c88x := c88; rw [e87] at c88x; rw [F_FR_narrowed_J25.eq_1, if_neg c88x]) hR76), (show True ∧ S_FR_narrowed_L72 x2 t0_0 t0_1 t0_2 t0_3 t0_4 t0_5 t0_6 t0_7 t0_8 t0_9 t0_10 p53 y19 y20 y21 y22 y23 y24 y25 y26 y27 y28 y29 lx71 1000000 0 0 y27 y26 from (by have h := hS77; rw [S_FR_narrowed_J25.eq_1] at h; have c88x := c88; rw [e87] at c88x; rw [if_neg c88x] at h; with_reducible exact h))⟩
      rintro ⟨fu105, lx94, lx95, lx96, lx97⟩ H locs ls _ ⟨i98, i99, i100, i101, V, hl, hR103, hS104⟩ ih102
      obtain ⟨fm107, rfl⟩ : ∃ m, fu105 = m + 1 := Nat.exists_eq_succ_of_ne_zero (fun e => by subst e; rw [S_FR_narrowed_L72.eq_1] at hS104; exact hS104.2)
      clear i98
      clear i99
      replace i100 : q_F (y19.toInt ≤ lx94.toInt) := i100
      clear i101
      replace hl : lv_has ls 10 [(9, .int lx94), (8, .int lx95), (7, .int lx96), (5, .long lx97), (3, .long lx71)] := hl
      refine lv_lload hx hb d_17_36_72 (lv_at hl 3 rfl) ?_
      refine q_ldc2 C0 rfl w_2937 d_17_36_74 ?_
      refine W.lcmp hx hb d_17_36_77 ?_
      obtain ⟨a108, e109⟩ := q_nm (lg_cmp lx97 16777216 : Int32)
      refine q_ti (v := a108) e109 ?_
      have b110 : q_F (-1 ≤ a108.toInt ∧ a108.toInt ≤ 1 ∧ ((a108.toInt = -1 ∧ lx97.toInt < 16777216) ∨ (a108.toInt = 0 ∧ lx97.toInt = 16777216) ∨ (a108.toInt = 1 ∧ 16777216 < lx97.toInt))) := (by rw [← e109]; show -1 ≤ (lg_cmp lx97 16777216 : Int32).toInt ∧ (lg_cmp lx97 16777216 : Int32).toInt ≤ 1 ∧ (((lg_cmp lx97 16777216 : Int32).toInt = -1 ∧ lx97.toInt < 16777216) ∨ ((lg_cmp lx97 16777216 : Int32).toInt = 0 ∧ lx97.toInt = 16777216) ∨ ((lg_cmp lx97 16777216 : Int32).toInt = 1 ∧ 16777216 < lx97.toInt)); exact (by have y1 : (16777216 : Int64).toInt = 16777216 := rfl; have z := s_lcmp (a := lx97) (b := 16777216); omega))
      refine q_join (X := Unit) (fun z H locs ls _ => q_Wd D g (va_A ws sz) s u16 H locs ∧ lv_has ls 10 [(9, .int lx94), (8, .int lx95), (7, .int lx96), (5, .long lx97), (3, .long lx71)] ∧ F_FR_narrowed_J89 (F_FR_narrowed_L72 x2 t0_0 t0_1 t0_2 t0_3 t0_4 t0_5 t0_6 t0_7 t0_8 t0_9 t0_10 p53 y19 y20 y21 y22 y23 y24 y25 y26 y27 y28 y29 lx71 fm107) x2 t0_0 t0_1 t0_2 t0_3 t0_4 t0_5 t0_6 t0_7 t0_8 t0_9 t0_10 p53 y19 y20 y21 y22 y23 y24 y25 y26 y27 y28 y29 lx71 lx94 lx95 lx96 lx97 = (F_FR_narrowed x2 t0_0 t0_1 t0_2 t0_3 t0_4 t0_5 t0_6 t0_7 t0_8 t0_9 t0_10) ∧ True ∧ S_FR_narrowed_J89 (S_FR_narrowed_L72 x2 t0_0 t0_1 t0_2 t0_3 t0_4 t0_5 t0_6 t0_7 t0_8 t0_9 t0_10 p53 y19 y20 y21 y22 y23 y24 y25 y26 y27 y28 y29 lx71 fm107) x2 t0_0 t0_1 t0_2 t0_3 t0_4 t0_5 t0_6 t0_7 t0_8 t0_9 t0_10 p53 y19 y20 y21 y22 y23 y24 y25 y26 y27 y28 y29 lx71 lx94 lx95 lx96 lx97) (fun z => []) 89 0 0 ?_ ?_
      ·
        rintro _ H locs ls _ ⟨V, hl, hR113, hS114⟩
        replace hl : lv_has ls 10 [(9, .int lx94), (8, .int lx95), (7, .int lx96), (5, .long lx97), (3, .long lx71)] := hl
        refine lv_iload hx hb d_17_36_89 (lv_at hl 1 rfl) ?_
        refine q_join (X := Unit) (fun z H locs ls _ => q_Wd D g (va_A ws sz) s u16 H locs ∧ lv_has ls 10 [(7, .int lx96), (5, .long lx97), (3, .long lx71)] ∧ F_FR_narrowed_J100 (F_FR_narrowed_L72 x2 t0_0 t0_1 t0_2 t0_3 t0_4 t0_5 t0_6 t0_7 t0_8 t0_9 t0_10 p53 y19 y20 y21 y22 y23 y24 y25 y26 y27 y28 y29 lx71 fm107) x2 t0_0 t0_1 t0_2 t0_3 t0_4 t0_5 t0_6 t0_7 t0_8 t0_9 t0_10 p53 y19 y20 y21 y22 y23 y24 y25 y26 y27 y28 y29 lx71 lx94 lx95 lx96 lx97 = (F_FR_narrowed x2 t0_0 t0_1 t0_2 t0_3 t0_4 t0_5 t0_6 t0_7 t0_8 t0_9 t0_10) ∧ True ∧ S_FR_narrowed_J100 (S_FR_narrowed_L72 x2 t0_0 t0_1 t0_2 t0_3 t0_4 t0_5 t0_6 t0_7 t0_8 t0_9 t0_10 p53 y19 y20 y21 y22 y23 y24 y25 y26 y27 y28 y29 lx71 fm107) x2 t0_0 t0_1 t0_2 t0_3 t0_4 t0_5 t0_6 t0_7 t0_8 t0_9 t0_10 p53 y19 y20 y21 y22 y23 y24 y25 y26 y27 y28 y29 lx71 lx94 lx95 lx96 lx97) (fun z => []) 100 0 0 ?_ ?_
        ·
          rintro _ H locs ls _ ⟨V, hl, hR120, hS121⟩
          replace hl : lv_has ls 10 [(7, .int lx96), (5, .long lx97), (3, .long lx71)] := hl
          refine lv_iconst (v := 1) hx hb d_17_36_100 (by decide) ?_
          refine lv_goto (tgt := 105) hx hb d_17_36_101 (by decide) ?_
          refine lv_istore (lv' := [(8, .int 1), (7, .int lx96), (5, .long lx97), (3, .long lx71)]) hx hb d_17_36_105 hl (by decide) rfl (fun ls hl => ?_)
          refine lv_lload hx hb d_17_36_107 (lv_at hl 2 rfl) ?_
          refine lv_lconst (v := 1) hx hb d_17_36_109 (by decide) ?_
          refine lv_land hx hb d_17_36_110 ?_
          obtain ⟨j125, e126⟩ := q_nm (lx97 &&& 1 : Int64)
          refine q_tl (v := j125) e126 ?_
          have b127 : q_F (0 ≤ j125.toInt ∧ j125.toInt ≤ 1) := (by rw [← e126]; show 0 ≤ (lx97 &&& 1 : Int64).toInt ∧ (lx97 &&& 1 : Int64).toInt ≤ 1; exact s_andJ (by decide))
          refine lv_l2i hx hb d_17_36_111 rfl ?_
          obtain ⟨a128, e129⟩ := q_nm (j125.toInt32 : Int32)
          refine q_ti (v := a128) e129 ?_
          have b130 : q_F (a128.toInt = j125.toInt) := (by rw [← e129]; show (j125.toInt32 : Int32).toInt = j125.toInt; exact s_l2i (by first | with_reducible exact (q_fe b127).2 | with_reducible exact (q_fe b127).1 | (have t1 : 0 ≤ j125.toInt ∧ j125.toInt ≤ 1 := b127; omega)) (by first | with_reducible exact (q_fe b127).2 | with_reducible exact (q_fe b127).1 | (have t1 : 0 ≤ j125.toInt ∧ j125.toInt ≤ 1 := b127; omega)))
          refine lv_istore (lv' := [(9, .int a128), (8, .int 1), (7, .int lx96), (5, .long lx97), (3, .long lx71)]) hx hb d_17_36_112 hl (by decide) rfl (fun ls hl => ?_)
          refine lv_lload hx hb d_17_36_114 (lv_at hl 3 rfl) ?_
          refine lv_iconst (v := 1) hx hb d_17_36_116 (by decide) ?_
          refine lv_lshr hx hb d_17_36_117 rfl ?_
          obtain ⟨j131, e132⟩ := q_nm (lx97 >>> ((1 : Int32).toInt64 &&& 63) : Int64)
          refine q_tl (v := j131) e132 ?_
          refine lv_lstore (lv' := [(5, .long j131), (9, .int a128), (8, .int 1), (7, .int lx96), (3, .long lx71)]) hx hb d_17_36_118 hl (by decide) rfl (fun ls hl => ?_)
          obtain ⟨a133, e134⟩ := q_nm (lx96 + 1 : Int32)
          refine lv_iinc (v := a133) (lv' := [(7, .int a133), (5, .long j131), (9, .int a128), (8, .int 1), (3, .long lx71)]) hx hb d_17_36_120 hl (k := 3) rfl (e134) (by decide) rfl (fun ls hl => ?_)
          refine lv_goto (tgt := 72) hx hb d_17_36_123 (by decide) ?_
          exact ih102 ((fm107 : Nat), (a128 : Int32), (1 : Int32), (a133 : Int32), (j131 : Int64)) _ _ _ u16 (Nat.lt_succ_self _) ⟨(show q_F (a128.toInt ≤ 1) from (show a128.toInt ≤ 1 from by have t1 : 0 ≤ j125.toInt ∧ j125.toInt ≤ 1 := b127; have t2 : a128.toInt = j125.toInt := b130; omega)), (show q_F (1 ≤ 1) from (show 1 ≤ 1 from by omega)), (show q_F (y19.toInt ≤ a128.toInt) from (show y19.toInt ≤ a128.toInt from by have t1 : y19.toInt ≤ 0 := b38; have t2 : 0 ≤ j125.toInt ∧ j125.toInt ≤ 1 := b127; have t3 : a128.toInt = j125.toInt := b130; omega)), (show q_F (y19.toInt ≤ 1) from (show y19.toInt ≤ 1 from by have t1 : y19.toInt ≤ 0 := b38; omega)), V, q_lw hl (q_lw1 2 rfl (q_lw1 3 rfl (q_lw1 0 rfl (q_lw1 1 rfl (q_lw1 4 rfl q_lw0))))), (show F_FR_narrowed_L72 x2 t0_0 t0_1 t0_2 t0_3 t0_4 t0_5 t0_6 t0_7 t0_8 t0_9 t0_10 p53 y19 y20 y21 y22 y23 y24 y25 y26 y27 y28 y29 lx71 fm107 a128 1 a133 j131 = (F_FR_narrowed x2 t0_0 t0_1 t0_2 t0_3 t0_4 t0_5 t0_6 t0_7 t0_8 t0_9 t0_10) from Eq.trans (by rw [← e134, ← e132, ← e129, ← e126, F_FR_narrowed_J100.eq_1]) hR120), (show True ∧ S_FR_narrowed_L72 x2 t0_0 t0_1 t0_2 t0_3 t0_4 t0_5 t0_6 t0_7 t0_8 t0_9 t0_10 p53 y19 y20 y21 y22 y23 y24 y25 y26 y27 y28 y29 lx71 fm107 a128 1 a133 j131 from (by rw [← e134, ← e132, ← e129, ← e126]; have h := hS121; rw [S_FR_narrowed_J100.eq_1] at h; with_reducible exact h))⟩
        ·
          intro J119
          refine lv_if_ne (tgt := 100) hx hb d_17_36_91 (by decide) (fun c135 => ?_) (fun c135 => ?_)
          ·
            exact J119 (()) _ _ _ u16 ⟨V, q_lw hl (q_lw1 2 rfl (q_lw1 3 rfl (q_lw1 4 rfl q_lw0))), (show F_FR_narrowed_J100 (F_FR_narrowed_L72 x2 t0_0 t0_1 t0_2 t0_3 t0_4 t0_5 t0_6 t0_7 t0_8 t0_9 t0_10 p53 y19 y20 y21 y22 y23 y24 y25 y26 y27 y28 y29 lx71 fm107) x2 t0_0 t0_1 t0_2 t0_3 t0_4 t0_5 t0_6 t0_7 t0_8 t0_9 t0_10 p53 y19 y20 y21 y22 y23 y24 y25 y26 y27 y28 y29 lx71 lx94 lx95 lx96 lx97 = (F_FR_narrowed x2 t0_0 t0_1 t0_2 t0_3 t0_4 t0_5 t0_6 t0_7 t0_8 t0_9 t0_10) from Eq.trans (by rw [F_FR_narrowed_J89.eq_1, if_neg c135]) hR113), (show True ∧ S_FR_narrowed_J100 (S_FR_narrowed_L72 x2 t0_0 t0_1 t0_2 t0_3 t0_4 t0_5 t0_6 t0_7 t0_8 t0_9 t0_10 p53 y19 y20 y21 y22 y23 y24 y25 y26 y27 y28 y29 lx71 fm107) x2 t0_0 t0_1 t0_2 t0_3 t0_4 t0_5 t0_6 t0_7 t0_8 t0_9 t0_10 p53 y19 y20 y21 y22 y23 y24 y25 y26 y27 y28 y29 lx71 lx94 lx95 lx96 lx97 from (by have h := hS114; rw [S_FR_narrowed_J89.eq_1] at h; rw [if_neg c135] at h; with_reducible exact h))⟩
          ·
            refine lv_iload hx hb d_17_36_94 (lv_at hl 0 rfl) ?_
            refine lv_iconst (v := 1) hx hb d_17_36_96 (by decide) ?_
            refine lv_icmp_ne (tgt := 104) hx hb d_17_36_97 (by decide) (fun c138 => ?_) (fun c138 => ?_)
            ·
              refine lv_iconst (v := 0) hx hb d_17_36_104 (by decide) ?_
              refine lv_istore (lv' := [(8, .int 0), (9, .int lx94), (7, .int lx96), (5, .long lx97), (3, .long lx71)]) hx hb d_17_36_105 hl (by decide) rfl (fun ls hl => ?_)
              refine lv_lload hx hb d_17_36_107 (lv_at hl 3 rfl) ?_
              refine lv_lconst (v := 1) hx hb d_17_36_109 (by decide) ?_
              refine lv_land hx hb d_17_36_110 ?_
              obtain ⟨j140, e141⟩ := q_nm (lx97 &&& 1 : Int64)
              refine q_tl (v := j140) e141 ?_
              have b142 : q_F (0 ≤ j140.toInt ∧ j140.toInt ≤ 1) := (by rw [← e141]; show 0 ≤ (lx97 &&& 1 : Int64).toInt ∧ (lx97 &&& 1 : Int64).toInt ≤ 1; exact s_andJ (by decide))
              refine lv_l2i hx hb d_17_36_111 rfl ?_
              obtain ⟨a143, e144⟩ := q_nm (j140.toInt32 : Int32)
              refine q_ti (v := a143) e144 ?_
              have b145 : q_F (a143.toInt = j140.toInt) := (by rw [← e144]; show (j140.toInt32 : Int32).toInt = j140.toInt; exact s_l2i (by first | with_reducible exact (q_fe b142).2 | with_reducible exact (q_fe b142).1 | (have t1 : 0 ≤ j140.toInt ∧ j140.toInt ≤ 1 := b142; omega)) (by first | with_reducible exact (q_fe b142).2 | with_reducible exact (q_fe b142).1 | (have t1 : 0 ≤ j140.toInt ∧ j140.toInt ≤ 1 := b142; omega)))
              refine lv_istore (lv' := [(9, .int a143), (8, .int 0), (7, .int lx96), (5, .long lx97), (3, .long lx71)]) hx hb d_17_36_112 hl (by decide) rfl (fun ls hl => ?_)
              refine lv_lload hx hb d_17_36_114 (lv_at hl 3 rfl) ?_
              refine lv_iconst (v := 1) hx hb d_17_36_116 (by decide) ?_
              refine lv_lshr hx hb d_17_36_117 rfl ?_
              obtain ⟨j146, e147⟩ := q_nm (lx97 >>> ((1 : Int32).toInt64 &&& 63) : Int64)
              refine q_tl (v := j146) e147 ?_
              refine lv_lstore (lv' := [(5, .long j146), (9, .int a143), (8, .int 0), (7, .int lx96), (3, .long lx71)]) hx hb d_17_36_118 hl (by decide) rfl (fun ls hl => ?_)
              obtain ⟨a148, e149⟩ := q_nm (lx96 + 1 : Int32)
              refine lv_iinc (v := a148) (lv' := [(7, .int a148), (5, .long j146), (9, .int a143), (8, .int 0), (3, .long lx71)]) hx hb d_17_36_120 hl (k := 3) rfl (e149) (by decide) rfl (fun ls hl => ?_)
              refine lv_goto (tgt := 72) hx hb d_17_36_123 (by decide) ?_
              exact ih102 ((fm107 : Nat), (a143 : Int32), (0 : Int32), (a148 : Int32), (j146 : Int64)) _ _ _ u16 (Nat.lt_succ_self _) ⟨(show q_F (a143.toInt ≤ 1) from (show a143.toInt ≤ 1 from by have t1 : 0 ≤ j140.toInt ∧ j140.toInt ≤ 1 := b142; have t2 : a143.toInt = j140.toInt := b145; omega)), (show q_F (0 ≤ 1) from (show 0 ≤ 1 from by omega)), (show q_F (y19.toInt ≤ a143.toInt) from (show y19.toInt ≤ a143.toInt from by have t1 : y19.toInt ≤ 0 := b38; have t2 : 0 ≤ j140.toInt ∧ j140.toInt ≤ 1 := b142; have t3 : a143.toInt = j140.toInt := b145; omega)), (show q_F (y19.toInt ≤ 0) from (show y19.toInt ≤ 0 from by have t1 : y19.toInt ≤ 0 := b38; omega)), V, q_lw hl (q_lw1 2 rfl (q_lw1 3 rfl (q_lw1 0 rfl (q_lw1 1 rfl (q_lw1 4 rfl q_lw0))))), (show F_FR_narrowed_L72 x2 t0_0 t0_1 t0_2 t0_3 t0_4 t0_5 t0_6 t0_7 t0_8 t0_9 t0_10 p53 y19 y20 y21 y22 y23 y24 y25 y26 y27 y28 y29 lx71 fm107 a143 0 a148 j146 = (F_FR_narrowed x2 t0_0 t0_1 t0_2 t0_3 t0_4 t0_5 t0_6 t0_7 t0_8 t0_9 t0_10) from Eq.trans (by rw [← e149, ← e147, ← e144, ← e141, F_FR_narrowed_J89.eq_1, if_pos c135, if_neg c138]) hR113), (show True ∧ S_FR_narrowed_L72 x2 t0_0 t0_1 t0_2 t0_3 t0_4 t0_5 t0_6 t0_7 t0_8 t0_9 t0_10 p53 y19 y20 y21 y22 y23 y24 y25 y26 y27 y28 y29 lx71 fm107 a143 0 a148 j146 from (by rw [← e149, ← e147, ← e144, ← e141]; have h := hS114; rw [S_FR_narrowed_J89.eq_1] at h; rw [if_pos c135] at h; rw [if_neg c138] at h; with_reducible exact h))⟩
            ·
              exact J119 (()) _ _ _ u16 ⟨V, q_lw hl (q_lw1 2 rfl (q_lw1 3 rfl (q_lw1 4 rfl q_lw0))), (show F_FR_narrowed_J100 (F_FR_narrowed_L72 x2 t0_0 t0_1 t0_2 t0_3 t0_4 t0_5 t0_6 t0_7 t0_8 t0_9 t0_10 p53 y19 y20 y21 y22 y23 y24 y25 y26 y27 y28 y29 lx71 fm107) x2 t0_0 t0_1 t0_2 t0_3 t0_4 t0_5 t0_6 t0_7 t0_8 t0_9 t0_10 p53 y19 y20 y21 y22 y23 y24 y25 y26 y27 y28 y29 lx71 lx94 lx95 lx96 lx97 = (F_FR_narrowed x2 t0_0 t0_1 t0_2 t0_3 t0_4 t0_5 t0_6 t0_7 t0_8 t0_9 t0_10) from Eq.trans (by rw [F_FR_narrowed_J89.eq_1, if_pos c135, if_pos c138]) hR113), (show True ∧ S_FR_narrowed_J100 (S_FR_narrowed_L72 x2 t0_0 t0_1 t0_2 t0_3 t0_4 t0_5 t0_6 t0_7 t0_8 t0_9 t0_10 p53 y19 y20 y21 y22 y23 y24 y25 y26 y27 y28 y29 lx71 fm107) x2 t0_0 t0_1 t0_2 t0_3 t0_4 t0_5 t0_6 t0_7 t0_8 t0_9 t0_10 p53 y19 y20 y21 y22 y23 y24 y25 y26 y27 y28 y29 lx71 lx94 lx95 lx96 lx97 from (by have h := hS114; rw [S_FR_narrowed_J89.eq_1] at h; rw [if_pos c135] at h; rw [if_pos c138] at h; with_reducible exact h))⟩
      ·
        intro J112
        refine lv_if_ge (tgt := 89) hx hb d_17_36_78 (by decide) (fun c151 => ?_) (fun c151 => ?_)
        ·
          exact J112 (()) _ _ _ u16 ⟨V, q_lw hl (q_lw1 0 rfl (q_lw1 1 rfl (q_lw1 2 rfl (q_lw1 3 rfl (q_lw1 4 rfl q_lw0))))), (show F_FR_narrowed_J89 (F_FR_narrowed_L72 x2 t0_0 t0_1 t0_2 t0_3 t0_4 t0_5 t0_6 t0_7 t0_8 t0_9 t0_10 p53 y19 y20 y21 y22 y23 y24 y25 y26 y27 y28 y29 lx71 fm107) x2 t0_0 t0_1 t0_2 t0_3 t0_4 t0_5 t0_6 t0_7 t0_8 t0_9 t0_10 p53 y19 y20 y21 y22 y23 y24 y25 y26 y27 y28 y29 lx71 lx94 lx95 lx96 lx97 = (F_FR_narrowed x2 t0_0 t0_1 t0_2 t0_3 t0_4 t0_5 t0_6 t0_7 t0_8 t0_9 t0_10) from Eq.trans (by have c151x := c151; rw [← e109] at c151x; rw [F_FR_narrowed_L72.eq_2, if_pos c151x]) hR103), (show True ∧ S_FR_narrowed_J89 (S_FR_narrowed_L72 x2 t0_0 t0_1 t0_2 t0_3 t0_4 t0_5 t0_6 t0_7 t0_8 t0_9 t0_10 p53 y19 y20 y21 y22 y23 y24 y25 y26 y27 y28 y29 lx71 fm107) x2 t0_0 t0_1 t0_2 t0_3 t0_4 t0_5 t0_6 t0_7 t0_8 t0_9 t0_10 p53 y19 y20 y21 y22 y23 y24 y25 y26 y27 y28 y29 lx71 lx94 lx95 lx96 lx97 from (by have h := hS104; rw [S_FR_narrowed_L72.eq_2] at h; have c151x := c151; rw [← e109] at c151x; rw [if_pos c151x] at h; with_reducible exact h))⟩
        ·
          have b153 : q_F (a108.toInt < 0) := (q_nleI c151)
          refine lv_iload hx hb d_17_36_81 (lv_at hl 2 rfl) ?_
          refine lv_sipush (v := (-149)) hx hb d_17_36_83 (by decide) ?_
          refine lv_icmp_ge (tgt := 126) hx hb d_17_36_86 (by decide) (fun c154 => ?_) (fun c154 => ?_)
          ·
            have b155 : q_F ((-149) ≤ lx96.toInt) := (q_leI c154)
            refine lv_iload hx hb d_17_36_126 (lv_at hl 0 rfl) ?_
            refine lv_iconst (v := 1) hx hb d_17_36_128 (by decide) ?_
            refine q_join (X := Int64) (fun z H locs ls _ => q_F (z.toInt ≤ lx94.toInt + 16777215) ∧ q_F (lx97.toInt ≤ z.toInt) ∧ q_F (z.toInt ≤ lx97.toInt + 1) ∧ q_Wd D g (va_A ws sz) s u16 H locs ∧ lv_has ls 10 [(7, .int lx96), (3, .long lx71)] ∧ F_FR_narrowed_J155 (F_FR_narrowed_L72 x2 t0_0 t0_1 t0_2 t0_3 t0_4 t0_5 t0_6 t0_7 t0_8 t0_9 t0_10 p53 y19 y20 y21 y22 y23 y24 y25 y26 y27 y28 y29 lx71 fm107) x2 t0_0 t0_1 t0_2 t0_3 t0_4 t0_5 t0_6 t0_7 t0_8 t0_9 t0_10 p53 y19 y20 y21 y22 y23 y24 y25 y26 y27 y28 y29 lx71 lx94 lx95 lx96 lx97 z = (F_FR_narrowed x2 t0_0 t0_1 t0_2 t0_3 t0_4 t0_5 t0_6 t0_7 t0_8 t0_9 t0_10) ∧ True ∧ S_FR_narrowed_J155 (S_FR_narrowed_L72 x2 t0_0 t0_1 t0_2 t0_3 t0_4 t0_5 t0_6 t0_7 t0_8 t0_9 t0_10 p53 y19 y20 y21 y22 y23 y24 y25 y26 y27 y28 y29 lx71 fm107) x2 t0_0 t0_1 t0_2 t0_3 t0_4 t0_5 t0_6 t0_7 t0_8 t0_9 t0_10 p53 y19 y20 y21 y22 y23 y24 y25 y26 y27 y28 y29 lx71 lx94 lx95 lx96 lx97 z) (fun z => [.long z]) 155 0 0 ?_ ?_
            ·
              rintro lx156 H locs ls _ hZ9
              replace hZ9 := hZ9.2.2.2
              obtain ⟨V, hZ9⟩ := hZ9
              obtain ⟨hl, hZ9⟩ := hZ9
              obtain ⟨hR162, hS163⟩ := hZ9
              replace hl : lv_has ls 10 [(7, .int lx96), (3, .long lx71)] := hl
              refine lv_lstore (lv' := [(5, .long lx156), (7, .int lx96), (3, .long lx71)]) hx hb d_17_36_155 hl (by decide) rfl (fun ls hl => ?_)
              refine q_loop (X := Int64 × Int32) (fun z H locs ls _ => q_F (z.2.toInt ≤ lx96.toInt) ∧ q_F (y19.toInt ≤ z.2.toInt + 149) ∧ q_Wd D g (va_A ws sz) s u16 H locs ∧ lv_has ls 10 [(5, .long z.1), (7, .int z.2), (3, .long lx71)] ∧ (∃ n, (z.2.toInt - ((-1074))).toNat < n ∧ F_FR_narrowed_L157 (F_FR_narrowed_L72 x2 t0_0 t0_1 t0_2 t0_3 t0_4 t0_5 t0_6 t0_7 t0_8 t0_9 t0_10 p53 y19 y20 y21 y22 y23 y24 y25 y26 y27 y28 y29 lx71 fm107) x2 t0_0 t0_1 t0_2 t0_3 t0_4 t0_5 t0_6 t0_7 t0_8 t0_9 t0_10 p53 y19 y20 y21 y22 y23 y24 y25 y26 y27 y28 y29 lx71 lx94 lx95 lx96 lx97 lx156 n z.1 z.2 = (F_FR_narrowed x2 t0_0 t0_1 t0_2 t0_3 t0_4 t0_5 t0_6 t0_7 t0_8 t0_9 t0_10) ∧ True ∧ S_FR_narrowed_L157 (S_FR_narrowed_L72 x2 t0_0 t0_1 t0_2 t0_3 t0_4 t0_5 t0_6 t0_7 t0_8 t0_9 t0_10 p53 y19 y20 y21 y22 y23 y24 y25 y26 y27 y28 y29 lx71 fm107) x2 t0_0 t0_1 t0_2 t0_3 t0_4 t0_5 t0_6 t0_7 t0_8 t0_9 t0_10 p53 y19 y20 y21 y22 y23 y24 y25 y26 y27 y28 y29 lx71 lx94 lx95 lx96 lx97 lx156 n z.1 z.2)) (fun z => (z.2.toInt - ((-1074))).toNat) ?_ ((lx156 : Int64), (lx96 : Int32)) _ _ _ u16 ⟨(show q_F (lx96.toInt ≤ lx96.toInt) from (show lx96.toInt ≤ lx96.toInt from by omega)), (show q_F (y19.toInt ≤ lx96.toInt + 149) from (show y19.toInt ≤ lx96.toInt + 149 from by have t1 : y19.toInt ≤ 0 := b38; have t2 : (-149) ≤ lx96.toInt := b155; omega)), V, q_lw hl (q_lw1 0 rfl (q_lw1 1 rfl (q_lw1 2 rfl q_lw0))), ⟨((lx96.toInt - ((-1074))).toNat + 1), Nat.lt_succ_self _, (show F_FR_narrowed_L157 (F_FR_narrowed_L72 x2 t0_0 t0_1 t0_2 t0_3 t0_4 t0_5 t0_6 t0_7 t0_8 t0_9 t0_10 p53 y19 y20 y21 y22 y23 y24 y25 y26 y27 y28 y29 lx71 fm107) x2 t0_0 t0_1 t0_2 t0_3 t0_4 t0_5 t0_6 t0_7 t0_8 t0_9 t0_10 p53 y19 y20 y21 y22 y23 y24 y25 y26 y27 y28 y29 lx71 lx94 lx95 lx96 lx97 lx156 ((lx96.toInt - ((-1074))).toNat + 1) lx156 lx96 = (F_FR_narrowed x2 t0_0 t0_1 t0_2 t0_3 t0_4 t0_5 t0_6 t0_7 t0_8 t0_9 t0_10) from Eq.trans (by rw [F_FR_narrowed_J155.eq_1]) hR162), (show True ∧ S_FR_narrowed_L157 (S_FR_narrowed_L72 x2 t0_0 t0_1 t0_2 t0_3 t0_4 t0_5 t0_6 t0_7 t0_8 t0_9 t0_10 p53 y19 y20 y21 y22 y23 y24 y25 y26 y27 y28 y29 lx71 fm107) x2 t0_0 t0_1 t0_2 t0_3 t0_4 t0_5 t0_6 t0_7 t0_8 t0_9 t0_10 p53 y19 y20 y21 y22 y23 y24 y25 y26 y27 y28 y29 lx71 lx94 lx95 lx96 lx97 lx156 ((lx96.toInt - ((-1074))).toNat + 1) lx156 lx96 from (by have h := hS163; rw [S_FR_narrowed_J155.eq_1] at h; with_reducible exact h))⟩⟩
              rintro ⟨lx169, lx170⟩ H locs ls _ ⟨i171, i172, V, hl, ⟨fu176, hf177, hR174, hS175⟩⟩ ih173
              obtain ⟨fm178, rfl⟩ : ∃ m, fu176 = m + 1 := ⟨fu176 - 1, by omega⟩
              replace i171 : q_F (lx170.toInt ≤ lx96.toInt) := i171
              clear i172
              replace hl : lv_has ls 10 [(5, .long lx169), (7, .int lx170), (3, .long lx71)] := hl
              refine lv_lload hx hb d_17_36_157 (lv_at hl 0 rfl) ?_
              refine lv_lconst (v := 0) hx hb d_17_36_159 (by decide) ?_
              refine W.lcmp hx hb d_17_36_160 ?_
              obtain ⟨a179, e180⟩ := q_nm (lg_cmp lx169 0 : Int32)
              refine q_ti (v := a179) e180 ?_
              refine q_join (X := Unit) (fun z H locs ls _ => q_Wd D g (va_A ws sz) s u16 H locs ∧ lv_has ls 10 [(5, .long lx169), (7, .int lx170), (3, .long lx71)] ∧ F_FR_narrowed_J193 (F_FR_narrowed_L72 x2 t0_0 t0_1 t0_2 t0_3 t0_4 t0_5 t0_6 t0_7 t0_8 t0_9 t0_10 p53 y19 y20 y21 y22 y23 y24 y25 y26 y27 y28 y29 lx71 fm107) (F_FR_narrowed_L157 (F_FR_narrowed_L72 x2 t0_0 t0_1 t0_2 t0_3 t0_4 t0_5 t0_6 t0_7 t0_8 t0_9 t0_10 p53 y19 y20 y21 y22 y23 y24 y25 y26 y27 y28 y29 lx71 fm107) x2 t0_0 t0_1 t0_2 t0_3 t0_4 t0_5 t0_6 t0_7 t0_8 t0_9 t0_10 p53 y19 y20 y21 y22 y23 y24 y25 y26 y27 y28 y29 lx71 lx94 lx95 lx96 lx97 lx156 fm178) x2 t0_0 t0_1 t0_2 t0_3 t0_4 t0_5 t0_6 t0_7 t0_8 t0_9 t0_10 p53 y19 y20 y21 y22 y23 y24 y25 y26 y27 y28 y29 lx71 lx94 lx95 lx96 lx97 lx156 lx169 lx170 = (F_FR_narrowed x2 t0_0 t0_1 t0_2 t0_3 t0_4 t0_5 t0_6 t0_7 t0_8 t0_9 t0_10) ∧ True ∧ S_FR_narrowed_J193 (S_FR_narrowed_L72 x2 t0_0 t0_1 t0_2 t0_3 t0_4 t0_5 t0_6 t0_7 t0_8 t0_9 t0_10 p53 y19 y20 y21 y22 y23 y24 y25 y26 y27 y28 y29 lx71 fm107) (S_FR_narrowed_L157 (S_FR_narrowed_L72 x2 t0_0 t0_1 t0_2 t0_3 t0_4 t0_5 t0_6 t0_7 t0_8 t0_9 t0_10 p53 y19 y20 y21 y22 y23 y24 y25 y26 y27 y28 y29 lx71 fm107) x2 t0_0 t0_1 t0_2 t0_3 t0_4 t0_5 t0_6 t0_7 t0_8 t0_9 t0_10 p53 y19 y20 y21 y22 y23 y24 y25 y26 y27 y28 y29 lx71 lx94 lx95 lx96 lx97 lx156 fm178) x2 t0_0 t0_1 t0_2 t0_3 t0_4 t0_5 t0_6 t0_7 t0_8 t0_9 t0_10 p53 y19 y20 y21 y22 y23 y24 y25 y26 y27 y28 y29 lx71 lx94 lx95 lx96 lx97 lx156 lx169 lx170) (fun z => []) 193 0 0 ?_ ?_
              ·
                rintro _ H locs ls _ ⟨V, hl, hR184, hS185⟩
                replace hl : lv_has ls 10 [(5, .long lx169), (7, .int lx170), (3, .long lx71)] := hl
                refine lv_lload hx hb d_17_36_193 (lv_at hl 0 rfl) ?_
                refine q_ldc2 C0 rfl w_2937 d_17_36_195 ?_
                refine W.lcmp hx hb d_17_36_198 ?_
                obtain ⟨a189, e190⟩ := q_nm (lg_cmp lx169 16777216 : Int32)
                refine q_ti (v := a189) e190 ?_
                refine q_join (X := Int64 × Int32) (fun z H locs ls _ => q_Wd D g (va_A ws sz) s u16 H locs ∧ lv_has ls 10 [(5, .long z.1), (7, .int z.2), (3, .long lx71)] ∧ F_FR_narrowed_J211 (F_FR_narrowed_L72 x2 t0_0 t0_1 t0_2 t0_3 t0_4 t0_5 t0_6 t0_7 t0_8 t0_9 t0_10 p53 y19 y20 y21 y22 y23 y24 y25 y26 y27 y28 y29 lx71 fm107) (F_FR_narrowed_L157 (F_FR_narrowed_L72 x2 t0_0 t0_1 t0_2 t0_3 t0_4 t0_5 t0_6 t0_7 t0_8 t0_9 t0_10 p53 y19 y20 y21 y22 y23 y24 y25 y26 y27 y28 y29 lx71 fm107) x2 t0_0 t0_1 t0_2 t0_3 t0_4 t0_5 t0_6 t0_7 t0_8 t0_9 t0_10 p53 y19 y20 y21 y22 y23 y24 y25 y26 y27 y28 y29 lx71 lx94 lx95 lx96 lx97 lx156 fm178) x2 t0_0 t0_1 t0_2 t0_3 t0_4 t0_5 t0_6 t0_7 t0_8 t0_9 t0_10 p53 y19 y20 y21 y22 y23 y24 y25 y26 y27 y28 y29 lx71 lx94 lx95 lx96 lx97 lx156 lx169 lx170 z.1 z.2 = (F_FR_narrowed x2 t0_0 t0_1 t0_2 t0_3 t0_4 t0_5 t0_6 t0_7 t0_8 t0_9 t0_10) ∧ True ∧ S_FR_narrowed_J211 (S_FR_narrowed_L72 x2 t0_0 t0_1 t0_2 t0_3 t0_4 t0_5 t0_6 t0_7 t0_8 t0_9 t0_10 p53 y19 y20 y21 y22 y23 y24 y25 y26 y27 y28 y29 lx71 fm107) (S_FR_narrowed_L157 (S_FR_narrowed_L72 x2 t0_0 t0_1 t0_2 t0_3 t0_4 t0_5 t0_6 t0_7 t0_8 t0_9 t0_10 p53 y19 y20 y21 y22 y23 y24 y25 y26 y27 y28 y29 lx71 fm107) x2 t0_0 t0_1 t0_2 t0_3 t0_4 t0_5 t0_6 t0_7 t0_8 t0_9 t0_10 p53 y19 y20 y21 y22 y23 y24 y25 y26 y27 y28 y29 lx71 lx94 lx95 lx96 lx97 lx156 fm178) x2 t0_0 t0_1 t0_2 t0_3 t0_4 t0_5 t0_6 t0_7 t0_8 t0_9 t0_10 p53 y19 y20 y21 y22 y23 y24 y25 y26 y27 y28 y29 lx71 lx94 lx95 lx96 lx97 lx156 lx169 lx170 z.1 z.2) (fun z => []) 211 0 0 ?_ ?_
                ·
                  rintro ⟨lx192, lx193⟩ H locs ls _ ⟨V, hl, hR196, hS197⟩
                  replace hl : lv_has ls 10 [(5, .long lx192), (7, .int lx193), (3, .long lx71)] := hl
                  refine lv_iload hx hb d_17_36_211 (lv_at hl 1 rfl) ?_
                  refine lv_bipush (v := 104) hx hb d_17_36_213 (by decide) ?_
                  refine lv_icmp_le (tgt := 224) hx hb d_17_36_215 (by decide) (fun c201 => ?_) (fun c201 => ?_)
                  ·
                    refine lv_lload_n hx hb d_17_36_224 rfl (lv_at hl 2 rfl) ?_
                    refine lv_lload hx hb d_17_36_225 (lv_at hl 0 rfl) ?_
                    refine q_ldc2 C0 rfl w_2938 d_17_36_227 ?_
                    refine W.lcmp hx hb d_17_36_230 ?_
                    obtain ⟨a203, e204⟩ := q_nm (lg_cmp lx192 8388608 : Int32)
                    refine q_ti (v := a203) e204 ?_
                    refine lv_if_ge (tgt := 239) hx hb d_17_36_231 (by decide) (fun c206 => ?_) (fun c206 => ?_)
                    ·
                      refine lv_iload hx hb d_17_36_239 (lv_at hl 1 rfl) ?_
                      refine lv_sipush (v := 150) hx hb d_17_36_241 (by decide) ?_
                      refine lv_iadd hx hb d_17_36_244 ?_
                      obtain ⟨a208, e209⟩ := q_nm (lx193 + 150 : Int32)
                      refine q_ti (v := a208) e209 ?_
                      refine lv_i2l hx hb d_17_36_245 rfl ?_
                      obtain ⟨j211, e212⟩ := q_nm (a208.toInt64 : Int64)
                      refine q_tl (v := j211) e212 ?_
                      refine lv_bipush (v := 23) hx hb d_17_36_246 (by decide) ?_
                      refine lv_lshl hx hb d_17_36_248 rfl ?_
                      obtain ⟨j214, e215⟩ := q_nm (j211 <<< ((23 : Int32).toInt64 &&& 63) : Int64)
                      refine q_tl (v := j214) e215 ?_
                      refine lv_lload hx hb d_17_36_249 (lv_at hl 0 rfl) ?_
                      refine lv_ladd hx hb d_17_36_251 ?_
                      obtain ⟨j216, e217⟩ := q_nm (j214 + lx192 : Int64)
                      refine q_tl (v := j216) e217 ?_
                      refine q_ldc2 C0 rfl w_2938 d_17_36_252 ?_
                      refine lv_lsub hx hb d_17_36_255 ?_
                      obtain ⟨j218, e219⟩ := q_nm (j216 - 8388608 : Int64)
                      refine q_tl (v := j218) e219 ?_
                      refine lv_lor hx hb d_17_36_256 ?_
                      obtain ⟨j220, e221⟩ := q_nm (lx71 ||| j218 : Int64)
                      refine q_tl (v := j220) e221 ?_
                      exact q_retl C0 V (⟨hI, hF, y19, y20, y21, y22, y23, y24, y25, y26, y27, y28, y29, hO18, (show 0 ≤ y19.toInt from (by first | with_reducible exact q_fe b37 | (have t1 : 0 ≤ y19.toInt := b37; omega))), (show y19.toInt ≤ 0 from (by first | with_reducible exact q_fe b38 | (have t1 : y19.toInt ≤ 0 := b38; omega))), (show t0_1.toInt ≤ y20.toInt from (by first | with_reducible exact q_fe b39 | (have t1 : t0_1.toInt ≤ y20.toInt := b39; omega))), (show y20.toInt ≤ t0_1.toInt from (by first | with_reducible exact q_fe b40 | (have t1 : y20.toInt ≤ t0_1.toInt := b40; omega))), (show t0_9.toInt ≤ y28.toInt from (by first | with_reducible exact q_fe b43 | (have t1 : t0_9.toInt ≤ y28.toInt := b43; omega))), (show y28.toInt ≤ t0_9.toInt from (by first | with_reducible exact q_fe b44 | (have t1 : y28.toInt ≤ t0_9.toInt := b44; omega))), (show t0_10.toInt ≤ y29.toInt from (by first | with_reducible exact q_fe b45 | (have t1 : t0_10.toInt ≤ y29.toInt := b45; omega))), (show y29.toInt ≤ t0_10.toInt from (by first | with_reducible exact q_fe b46 | (have t1 : y29.toInt ≤ t0_10.toInt := b46; omega))), (show y21.toInt ≤ y19.toInt + 1 from (by have t1 : y21.toInt ≤ 1 := b31; have t2 : 0 ≤ y19.toInt := b37; omega)), (show y19.toInt ≤ y21.toInt from (by have t1 : 0 ≤ y21.toInt := b30; have t2 : y19.toInt ≤ 0 := b38; omega)), (show y19.toInt ≤ y22.toInt from (by have t1 : 0 ≤ y22.toInt := b32; have t2 : y19.toInt ≤ 0 := b38; omega)), (show y24.toInt ≤ y19.toInt + 52 from (by have t1 : y24.toInt ≤ 52 := b34; have t2 : 0 ≤ y19.toInt := b37; omega)), (show y19.toInt + 23 ≤ y24.toInt from (by have t1 : 23 ≤ y24.toInt := b33; have t2 : y19.toInt ≤ 0 := b38; omega)), (show y25.toInt ≤ y19.toInt + 2047 from (by have t1 : y25.toInt ≤ 2047 := b36; have t2 : 0 ≤ y19.toInt := b37; omega)), (show y19.toInt + 255 ≤ y25.toInt from (by have t1 : 255 ≤ y25.toInt := b35; have t2 : y19.toInt ≤ 0 := b38; omega)), (show y27.toInt ≤ y19.toInt + 1896 from (by have t1 : 0 ≤ y19.toInt := b37; have t2 : y27.toInt ≤ 0 + 1896 := b42; omega)), (show y19.toInt ≤ y27.toInt + 1074 from (by have t1 : y19.toInt ≤ 0 := b38; have t2 : 0 ≤ y27.toInt + 1074 := b41; omega)), (show y22.toInt ≤ y25.toInt from (by first | with_reducible exact q_fe b47 | (have t1 : y22.toInt ≤ y25.toInt := b47; omega))), (show y27.toInt + 149 ≤ y22.toInt from (by first | with_reducible exact q_fe b48 | (have t1 : y27.toInt + 149 ≤ y22.toInt := b48; omega))), (show y22.toInt ≤ y27.toInt + 1075 from (by first | with_reducible exact q_fe b49 | (have t1 : y22.toInt ≤ y27.toInt + 1075 := b49; omega))), (show y27.toInt + 150 ≤ y25.toInt from (by first | with_reducible exact q_fe b50 | (have t1 : y27.toInt + 150 ≤ y25.toInt := b50; omega))), (show (j220, y19, y20, y21, y22, y23, y24, y25, y26, y27, y28, y29) = (F_FR_narrowed x2 t0_0 t0_1 t0_2 t0_3 t0_4 t0_5 t0_6 t0_7 t0_8 t0_9 t0_10) from Eq.trans (by have c206x := c206; rw [← e204] at c206x; rw [← e221, ← e219, ← e217, ← e215, ← e212, ← e209, F_FR_narrowed_J211.eq_1, if_pos c201, if_pos c206x]) hR196)⟩) d_17_36_257
                    ·
                      refine lv_lload hx hb d_17_36_234 (lv_at hl 0 rfl) ?_
                      refine lv_goto (tgt := 256) hx hb d_17_36_236 (by decide) ?_
                      refine lv_lor hx hb d_17_36_256 ?_
                      obtain ⟨j223, e224⟩ := q_nm (lx71 ||| lx192 : Int64)
                      refine q_tl (v := j223) e224 ?_
                      exact q_retl C0 V (⟨hI, hF, y19, y20, y21, y22, y23, y24, y25, y26, y27, y28, y29, hO18, (show 0 ≤ y19.toInt from (by first | with_reducible exact q_fe b37 | (have t1 : 0 ≤ y19.toInt := b37; omega))), (show y19.toInt ≤ 0 from (by first | with_reducible exact q_fe b38 | (have t1 : y19.toInt ≤ 0 := b38; omega))), (show t0_1.toInt ≤ y20.toInt from (by first | with_reducible exact q_fe b39 | (have t1 : t0_1.toInt ≤ y20.toInt := b39; omega))), (show y20.toInt ≤ t0_1.toInt from (by first | with_reducible exact q_fe b40 | (have t1 : y20.toInt ≤ t0_1.toInt := b40; omega))), (show t0_9.toInt ≤ y28.toInt from (by first | with_reducible exact q_fe b43 | (have t1 : t0_9.toInt ≤ y28.toInt := b43; omega))), (show y28.toInt ≤ t0_9.toInt from (by first | with_reducible exact q_fe b44 | (have t1 : y28.toInt ≤ t0_9.toInt := b44; omega))), (show t0_10.toInt ≤ y29.toInt from (by first | with_reducible exact q_fe b45 | (have t1 : t0_10.toInt ≤ y29.toInt := b45; omega))), (show y29.toInt ≤ t0_10.toInt from (by first | with_reducible exact q_fe b46 | (have t1 : y29.toInt ≤ t0_10.toInt := b46; omega))), (show y21.toInt ≤ y19.toInt + 1 from (by have t1 : y21.toInt ≤ 1 := b31; have t2 : 0 ≤ y19.toInt := b37; omega)), (show y19.toInt ≤ y21.toInt from (by have t1 : 0 ≤ y21.toInt := b30; have t2 : y19.toInt ≤ 0 := b38; omega)), (show y19.toInt ≤ y22.toInt from (by have t1 : 0 ≤ y22.toInt := b32; have t2 : y19.toInt ≤ 0 := b38; omega)), (show y24.toInt ≤ y19.toInt + 52 from (by have t1 : y24.toInt ≤ 52 := b34; have t2 : 0 ≤ y19.toInt := b37; omega)), (show y19.toInt + 23 ≤ y24.toInt from (by have t1 : 23 ≤ y24.toInt := b33; have t2 : y19.toInt ≤ 0 := b38; omega)), (show y25.toInt ≤ y19.toInt + 2047 from (by have t1 : y25.toInt ≤ 2047 := b36; have t2 : 0 ≤ y19.toInt := b37; omega)), (show y19.toInt + 255 ≤ y25.toInt from (by have t1 : 255 ≤ y25.toInt := b35; have t2 : y19.toInt ≤ 0 := b38; omega)), (show y27.toInt ≤ y19.toInt + 1896 from (by have t1 : 0 ≤ y19.toInt := b37; have t2 : y27.toInt ≤ 0 + 1896 := b42; omega)), (show y19.toInt ≤ y27.toInt + 1074 from (by have t1 : y19.toInt ≤ 0 := b38; have t2 : 0 ≤ y27.toInt + 1074 := b41; omega)), (show y22.toInt ≤ y25.toInt from (by first | with_reducible exact q_fe b47 | (have t1 : y22.toInt ≤ y25.toInt := b47; omega))), (show y27.toInt + 149 ≤ y22.toInt from (by first | with_reducible exact q_fe b48 | (have t1 : y27.toInt + 149 ≤ y22.toInt := b48; omega))), (show y22.toInt ≤ y27.toInt + 1075 from (by first | with_reducible exact q_fe b49 | (have t1 : y22.toInt ≤ y27.toInt + 1075 := b49; omega))), (show y27.toInt + 150 ≤ y25.toInt from (by first | with_reducible exact q_fe b50 | (have t1 : y27.toInt + 150 ≤ y25.toInt := b50; omega))), (show (j223, y19, y20, y21, y22, y23, y24, y25, y26, y27, y28, y29) = (F_FR_narrowed x2 t0_0 t0_1 t0_2 t0_3 t0_4 t0_5 t0_6 t0_7 t0_8 t0_9 t0_10) from Eq.trans (by have c206x := c206; rw [← e204] at c206x; rw [← e224, F_FR_narrowed_J211.eq_1, if_pos c201, if_neg c206x]) hR196)⟩) d_17_36_257
                  ·
                    refine lv_lload_n hx hb d_17_36_218 rfl (lv_at hl 2 rfl) ?_
                    refine q_ldc2 C0 rfl w_2936 d_17_36_219 ?_
                    refine lv_lor hx hb d_17_36_222 ?_
                    obtain ⟨j226, e227⟩ := q_nm (lx71 ||| 2139095040 : Int64)
                    refine q_tl (v := j226) e227 ?_
                    exact q_retl C0 V (⟨hI, hF, y19, y20, y21, y22, y23, y24, y25, y26, y27, y28, y29, hO18, (show 0 ≤ y19.toInt from (by first | with_reducible exact q_fe b37 | (have t1 : 0 ≤ y19.toInt := b37; omega))), (show y19.toInt ≤ 0 from (by first | with_reducible exact q_fe b38 | (have t1 : y19.toInt ≤ 0 := b38; omega))), (show t0_1.toInt ≤ y20.toInt from (by first | with_reducible exact q_fe b39 | (have t1 : t0_1.toInt ≤ y20.toInt := b39; omega))), (show y20.toInt ≤ t0_1.toInt from (by first | with_reducible exact q_fe b40 | (have t1 : y20.toInt ≤ t0_1.toInt := b40; omega))), (show t0_9.toInt ≤ y28.toInt from (by first | with_reducible exact q_fe b43 | (have t1 : t0_9.toInt ≤ y28.toInt := b43; omega))), (show y28.toInt ≤ t0_9.toInt from (by first | with_reducible exact q_fe b44 | (have t1 : y28.toInt ≤ t0_9.toInt := b44; omega))), (show t0_10.toInt ≤ y29.toInt from (by first | with_reducible exact q_fe b45 | (have t1 : t0_10.toInt ≤ y29.toInt := b45; omega))), (show y29.toInt ≤ t0_10.toInt from (by first | with_reducible exact q_fe b46 | (have t1 : y29.toInt ≤ t0_10.toInt := b46; omega))), (show y21.toInt ≤ y19.toInt + 1 from (by have t1 : y21.toInt ≤ 1 := b31; have t2 : 0 ≤ y19.toInt := b37; omega)), (show y19.toInt ≤ y21.toInt from (by have t1 : 0 ≤ y21.toInt := b30; have t2 : y19.toInt ≤ 0 := b38; omega)), (show y19.toInt ≤ y22.toInt from (by have t1 : 0 ≤ y22.toInt := b32; have t2 : y19.toInt ≤ 0 := b38; omega)), (show y24.toInt ≤ y19.toInt + 52 from (by have t1 : y24.toInt ≤ 52 := b34; have t2 : 0 ≤ y19.toInt := b37; omega)), (show y19.toInt + 23 ≤ y24.toInt from (by have t1 : 23 ≤ y24.toInt := b33; have t2 : y19.toInt ≤ 0 := b38; omega)), (show y25.toInt ≤ y19.toInt + 2047 from (by have t1 : y25.toInt ≤ 2047 := b36; have t2 : 0 ≤ y19.toInt := b37; omega)), (show y19.toInt + 255 ≤ y25.toInt from (by have t1 : 255 ≤ y25.toInt := b35; have t2 : y19.toInt ≤ 0 := b38; omega)), (show y27.toInt ≤ y19.toInt + 1896 from (by have t1 : 0 ≤ y19.toInt := b37; have t2 : y27.toInt ≤ 0 + 1896 := b42; omega)), (show y19.toInt ≤ y27.toInt + 1074 from (by have t1 : y19.toInt ≤ 0 := b38; have t2 : 0 ≤ y27.toInt + 1074 := b41; omega)), (show y22.toInt ≤ y25.toInt from (by first | with_reducible exact q_fe b47 | (have t1 : y22.toInt ≤ y25.toInt := b47; omega))), (show y27.toInt + 149 ≤ y22.toInt from (by first | with_reducible exact q_fe b48 | (have t1 : y27.toInt + 149 ≤ y22.toInt := b48; omega))), (show y22.toInt ≤ y27.toInt + 1075 from (by first | with_reducible exact q_fe b49 | (have t1 : y22.toInt ≤ y27.toInt + 1075 := b49; omega))), (show y27.toInt + 150 ≤ y25.toInt from (by first | with_reducible exact q_fe b50 | (have t1 : y27.toInt + 150 ≤ y25.toInt := b50; omega))), (show (j226, y19, y20, y21, y22, y23, y24, y25, y26, y27, y28, y29) = (F_FR_narrowed x2 t0_0 t0_1 t0_2 t0_3 t0_4 t0_5 t0_6 t0_7 t0_8 t0_9 t0_10) from Eq.trans (by rw [← e227, F_FR_narrowed_J211.eq_1, if_neg c201]) hR196)⟩) d_17_36_223
                ·
                  intro J195
                  refine lv_if_ne (tgt := 211) hx hb d_17_36_199 (by decide) (fun c228 => ?_) (fun c228 => ?_)
                  ·
                    exact J195 ((lx169 : Int64), (lx170 : Int32)) _ _ _ u16 ⟨V, q_lw hl (q_lw1 0 rfl (q_lw1 1 rfl (q_lw1 2 rfl q_lw0))), (show F_FR_narrowed_J211 (F_FR_narrowed_L72 x2 t0_0 t0_1 t0_2 t0_3 t0_4 t0_5 t0_6 t0_7 t0_8 t0_9 t0_10 p53 y19 y20 y21 y22 y23 y24 y25 y26 y27 y28 y29 lx71 fm107) (F_FR_narrowed_L157 (F_FR_narrowed_L72 x2 t0_0 t0_1 t0_2 t0_3 t0_4 t0_5 t0_6 t0_7 t0_8 t0_9 t0_10 p53 y19 y20 y21 y22 y23 y24 y25 y26 y27 y28 y29 lx71 fm107) x2 t0_0 t0_1 t0_2 t0_3 t0_4 t0_5 t0_6 t0_7 t0_8 t0_9 t0_10 p53 y19 y20 y21 y22 y23 y24 y25 y26 y27 y28 y29 lx71 lx94 lx95 lx96 lx97 lx156 fm178) x2 t0_0 t0_1 t0_2 t0_3 t0_4 t0_5 t0_6 t0_7 t0_8 t0_9 t0_10 p53 y19 y20 y21 y22 y23 y24 y25 y26 y27 y28 y29 lx71 lx94 lx95 lx96 lx97 lx156 lx169 lx170 lx169 lx170 = (F_FR_narrowed x2 t0_0 t0_1 t0_2 t0_3 t0_4 t0_5 t0_6 t0_7 t0_8 t0_9 t0_10) from Eq.trans (by have c228x := c228; rw [← e190] at c228x; rw [F_FR_narrowed_J193.eq_1, if_neg c228x]) hR184), (show True ∧ S_FR_narrowed_J211 (S_FR_narrowed_L72 x2 t0_0 t0_1 t0_2 t0_3 t0_4 t0_5 t0_6 t0_7 t0_8 t0_9 t0_10 p53 y19 y20 y21 y22 y23 y24 y25 y26 y27 y28 y29 lx71 fm107) (S_FR_narrowed_L157 (S_FR_narrowed_L72 x2 t0_0 t0_1 t0_2 t0_3 t0_4 t0_5 t0_6 t0_7 t0_8 t0_9 t0_10 p53 y19 y20 y21 y22 y23 y24 y25 y26 y27 y28 y29 lx71 fm107) x2 t0_0 t0_1 t0_2 t0_3 t0_4 t0_5 t0_6 t0_7 t0_8 t0_9 t0_10 p53 y19 y20 y21 y22 y23 y24 y25 y26 y27 y28 y29 lx71 lx94 lx95 lx96 lx97 lx156 fm178) x2 t0_0 t0_1 t0_2 t0_3 t0_4 t0_5 t0_6 t0_7 t0_8 t0_9 t0_10 p53 y19 y20 y21 y22 y23 y24 y25 y26 y27 y28 y29 lx71 lx94 lx95 lx96 lx97 lx156 lx169 lx170 lx169 lx170 from (by have h := hS185; rw [S_FR_narrowed_J193.eq_1] at h; have c228x := c228; rw [← e190] at c228x; rw [if_neg c228x] at h; with_reducible exact h))⟩
                  ·
                    refine lv_lload hx hb d_17_36_202 (lv_at hl 0 rfl) ?_
                    refine lv_iconst (v := 1) hx hb d_17_36_204 (by decide) ?_
                    refine lv_lshr hx hb d_17_36_205 rfl ?_
                    obtain ⟨j231, e232⟩ := q_nm (lx169 >>> ((1 : Int32).toInt64 &&& 63) : Int64)
                    refine q_tl (v := j231) e232 ?_
                    refine lv_lstore (lv' := [(5, .long j231), (7, .int lx170), (3, .long lx71)]) hx hb d_17_36_206 hl (by decide) rfl (fun ls hl => ?_)
                    obtain ⟨a233, e234⟩ := q_nm (lx170 + 1 : Int32)
                    refine lv_iinc (v := a233) (lv' := [(7, .int a233), (5, .long j231), (3, .long lx71)]) hx hb d_17_36_208 hl (k := 1) rfl (e234) (by decide) rfl (fun ls hl => ?_)
                    exact J195 ((j231 : Int64), (a233 : Int32)) _ _ _ u16 ⟨V, q_lw hl (q_lw1 1 rfl (q_lw1 0 rfl (q_lw1 2 rfl q_lw0))), (show F_FR_narrowed_J211 (F_FR_narrowed_L72 x2 t0_0 t0_1 t0_2 t0_3 t0_4 t0_5 t0_6 t0_7 t0_8 t0_9 t0_10 p53 y19 y20 y21 y22 y23 y24 y25 y26 y27 y28 y29 lx71 fm107) (F_FR_narrowed_L157 (F_FR_narrowed_L72 x2 t0_0 t0_1 t0_2 t0_3 t0_4 t0_5 t0_6 t0_7 t0_8 t0_9 t0_10 p53 y19 y20 y21 y22 y23 y24 y25 y26 y27 y28 y29 lx71 fm107) x2 t0_0 t0_1 t0_2 t0_3 t0_4 t0_5 t0_6 t0_7 t0_8 t0_9 t0_10 p53 y19 y20 y21 y22 y23 y24 y25 y26 y27 y28 y29 lx71 lx94 lx95 lx96 lx97 lx156 fm178) x2 t0_0 t0_1 t0_2 t0_3 t0_4 t0_5 t0_6 t0_7 t0_8 t0_9 t0_10 p53 y19 y20 y21 y22 y23 y24 y25 y26 y27 y28 y29 lx71 lx94 lx95 lx96 lx97 lx156 lx169 lx170 j231 a233 = (F_FR_narrowed x2 t0_0 t0_1 t0_2 t0_3 t0_4 t0_5 t0_6 t0_7 t0_8 t0_9 t0_10) from Eq.trans (by have c228x := c228; rw [← e190] at c228x; rw [← e234, ← e232, F_FR_narrowed_J193.eq_1, if_pos c228x]) hR184), (show True ∧ S_FR_narrowed_J211 (S_FR_narrowed_L72 x2 t0_0 t0_1 t0_2 t0_3 t0_4 t0_5 t0_6 t0_7 t0_8 t0_9 t0_10 p53 y19 y20 y21 y22 y23 y24 y25 y26 y27 y28 y29 lx71 fm107) (S_FR_narrowed_L157 (S_FR_narrowed_L72 x2 t0_0 t0_1 t0_2 t0_3 t0_4 t0_5 t0_6 t0_7 t0_8 t0_9 t0_10 p53 y19 y20 y21 y22 y23 y24 y25 y26 y27 y28 y29 lx71 fm107) x2 t0_0 t0_1 t0_2 t0_3 t0_4 t0_5 t0_6 t0_7 t0_8 t0_9 t0_10 p53 y19 y20 y21 y22 y23 y24 y25 y26 y27 y28 y29 lx71 lx94 lx95 lx96 lx97 lx156 fm178) x2 t0_0 t0_1 t0_2 t0_3 t0_4 t0_5 t0_6 t0_7 t0_8 t0_9 t0_10 p53 y19 y20 y21 y22 y23 y24 y25 y26 y27 y28 y29 lx71 lx94 lx95 lx96 lx97 lx156 lx169 lx170 j231 a233 from (by rw [← e234, ← e232]; have h := hS185; rw [S_FR_narrowed_J193.eq_1] at h; have c228x := c228; rw [← e190] at c228x; rw [if_pos c228x] at h; with_reducible exact h))⟩
              ·
                intro J183
                refine lv_if_eq (tgt := 193) hx hb d_17_36_161 (by decide) (fun c235 => ?_) (fun c235 => ?_)
                ·
                  exact J183 (()) _ _ _ u16 ⟨V, q_lw hl (q_lw1 0 rfl (q_lw1 1 rfl (q_lw1 2 rfl q_lw0))), (show F_FR_narrowed_J193 (F_FR_narrowed_L72 x2 t0_0 t0_1 t0_2 t0_3 t0_4 t0_5 t0_6 t0_7 t0_8 t0_9 t0_10 p53 y19 y20 y21 y22 y23 y24 y25 y26 y27 y28 y29 lx71 fm107) (F_FR_narrowed_L157 (F_FR_narrowed_L72 x2 t0_0 t0_1 t0_2 t0_3 t0_4 t0_5 t0_6 t0_7 t0_8 t0_9 t0_10 p53 y19 y20 y21 y22 y23 y24 y25 y26 y27 y28 y29 lx71 fm107) x2 t0_0 t0_1 t0_2 t0_3 t0_4 t0_5 t0_6 t0_7 t0_8 t0_9 t0_10 p53 y19 y20 y21 y22 y23 y24 y25 y26 y27 y28 y29 lx71 lx94 lx95 lx96 lx97 lx156 fm178) x2 t0_0 t0_1 t0_2 t0_3 t0_4 t0_5 t0_6 t0_7 t0_8 t0_9 t0_10 p53 y19 y20 y21 y22 y23 y24 y25 y26 y27 y28 y29 lx71 lx94 lx95 lx96 lx97 lx156 lx169 lx170 = (F_FR_narrowed x2 t0_0 t0_1 t0_2 t0_3 t0_4 t0_5 t0_6 t0_7 t0_8 t0_9 t0_10) from Eq.trans (by have c235x := c235; rw [← e180] at c235x; rw [F_FR_narrowed_L157.eq_2, if_pos c235x]) hR174), (show True ∧ S_FR_narrowed_J193 (S_FR_narrowed_L72 x2 t0_0 t0_1 t0_2 t0_3 t0_4 t0_5 t0_6 t0_7 t0_8 t0_9 t0_10 p53 y19 y20 y21 y22 y23 y24 y25 y26 y27 y28 y29 lx71 fm107) (S_FR_narrowed_L157 (S_FR_narrowed_L72 x2 t0_0 t0_1 t0_2 t0_3 t0_4 t0_5 t0_6 t0_7 t0_8 t0_9 t0_10 p53 y19 y20 y21 y22 y23 y24 y25 y26 y27 y28 y29 lx71 fm107) x2 t0_0 t0_1 t0_2 t0_3 t0_4 t0_5 t0_6 t0_7 t0_8 t0_9 t0_10 p53 y19 y20 y21 y22 y23 y24 y25 y26 y27 y28 y29 lx71 lx94 lx95 lx96 lx97 lx156 fm178) x2 t0_0 t0_1 t0_2 t0_3 t0_4 t0_5 t0_6 t0_7 t0_8 t0_9 t0_10 p53 y19 y20 y21 y22 y23 y24 y25 y26 y27 y28 y29 lx71 lx94 lx95 lx96 lx97 lx156 lx169 lx170 from (by have h := hS175; rw [S_FR_narrowed_L157.eq_2] at h; have c235x := c235; rw [← e180] at c235x; rw [if_pos c235x] at h; with_reducible exact h))⟩
                ·
                  refine lv_lload hx hb d_17_36_164 (lv_at hl 0 rfl) ?_
                  refine q_ldc2 C0 rfl w_2938 d_17_36_166 ?_
                  refine W.lcmp hx hb d_17_36_169 ?_
                  obtain ⟨a238, e239⟩ := q_nm (lg_cmp lx169 8388608 : Int32)
                  refine q_ti (v := a238) e239 ?_
                  refine lv_if_ge (tgt := 193) hx hb d_17_36_170 (by decide) (fun c241 => ?_) (fun c241 => ?_)
                  ·
                    exact J183 (()) _ _ _ u16 ⟨V, q_lw hl (q_lw1 0 rfl (q_lw1 1 rfl (q_lw1 2 rfl q_lw0))), (show F_FR_narrowed_J193 (F_FR_narrowed_L72 x2 t0_0 t0_1 t0_2 t0_3 t0_4 t0_5 t0_6 t0_7 t0_8 t0_9 t0_10 p53 y19 y20 y21 y22 y23 y24 y25 y26 y27 y28 y29 lx71 fm107) (F_FR_narrowed_L157 (F_FR_narrowed_L72 x2 t0_0 t0_1 t0_2 t0_3 t0_4 t0_5 t0_6 t0_7 t0_8 t0_9 t0_10 p53 y19 y20 y21 y22 y23 y24 y25 y26 y27 y28 y29 lx71 fm107) x2 t0_0 t0_1 t0_2 t0_3 t0_4 t0_5 t0_6 t0_7 t0_8 t0_9 t0_10 p53 y19 y20 y21 y22 y23 y24 y25 y26 y27 y28 y29 lx71 lx94 lx95 lx96 lx97 lx156 fm178) x2 t0_0 t0_1 t0_2 t0_3 t0_4 t0_5 t0_6 t0_7 t0_8 t0_9 t0_10 p53 y19 y20 y21 y22 y23 y24 y25 y26 y27 y28 y29 lx71 lx94 lx95 lx96 lx97 lx156 lx169 lx170 = (F_FR_narrowed x2 t0_0 t0_1 t0_2 t0_3 t0_4 t0_5 t0_6 t0_7 t0_8 t0_9 t0_10) from Eq.trans (by have c235x := c235; rw [← e180] at c235x; have c241x := c241; rw [← e239] at c241x; rw [F_FR_narrowed_L157.eq_2, if_neg c235x, if_pos c241x]) hR174), (show True ∧ S_FR_narrowed_J193 (S_FR_narrowed_L72 x2 t0_0 t0_1 t0_2 t0_3 t0_4 t0_5 t0_6 t0_7 t0_8 t0_9 t0_10 p53 y19 y20 y21 y22 y23 y24 y25 y26 y27 y28 y29 lx71 fm107) (S_FR_narrowed_L157 (S_FR_narrowed_L72 x2 t0_0 t0_1 t0_2 t0_3 t0_4 t0_5 t0_6 t0_7 t0_8 t0_9 t0_10 p53 y19 y20 y21 y22 y23 y24 y25 y26 y27 y28 y29 lx71 fm107) x2 t0_0 t0_1 t0_2 t0_3 t0_4 t0_5 t0_6 t0_7 t0_8 t0_9 t0_10 p53 y19 y20 y21 y22 y23 y24 y25 y26 y27 y28 y29 lx71 lx94 lx95 lx96 lx97 lx156 fm178) x2 t0_0 t0_1 t0_2 t0_3 t0_4 t0_5 t0_6 t0_7 t0_8 t0_9 t0_10 p53 y19 y20 y21 y22 y23 y24 y25 y26 y27 y28 y29 lx71 lx94 lx95 lx96 lx97 lx156 lx169 lx170 from (by have h := hS175; rw [S_FR_narrowed_L157.eq_2] at h; have c235x := c235; rw [← e180] at c235x; rw [if_neg c235x] at h; have c241x := c241; rw [← e239] at c241x; rw [if_pos c241x] at h; with_reducible exact h))⟩
                  ·
                    refine lv_iload hx hb d_17_36_173 (lv_at hl 1 rfl) ?_
                    refine lv_sipush (v := (-149)) hx hb d_17_36_175 (by decide) ?_
                    refine lv_icmp_le (tgt := 193) hx hb d_17_36_178 (by decide) (fun c244 => ?_) (fun c244 => ?_)
                    ·
                      exact J183 (()) _ _ _ u16 ⟨V, q_lw hl (q_lw1 0 rfl (q_lw1 1 rfl (q_lw1 2 rfl q_lw0))), (show F_FR_narrowed_J193 (F_FR_narrowed_L72 x2 t0_0 t0_1 t0_2 t0_3 t0_4 t0_5 t0_6 t0_7 t0_8 t0_9 t0_10 p53 y19 y20 y21 y22 y23 y24 y25 y26 y27 y28 y29 lx71 fm107) (F_FR_narrowed_L157 (F_FR_narrowed_L72 x2 t0_0 t0_1 t0_2 t0_3 t0_4 t0_5 t0_6 t0_7 t0_8 t0_9 t0_10 p53 y19 y20 y21 y22 y23 y24 y25 y26 y27 y28 y29 lx71 fm107) x2 t0_0 t0_1 t0_2 t0_3 t0_4 t0_5 t0_6 t0_7 t0_8 t0_9 t0_10 p53 y19 y20 y21 y22 y23 y24 y25 y26 y27 y28 y29 lx71 lx94 lx95 lx96 lx97 lx156 fm178) x2 t0_0 t0_1 t0_2 t0_3 t0_4 t0_5 t0_6 t0_7 t0_8 t0_9 t0_10 p53 y19 y20 y21 y22 y23 y24 y25 y26 y27 y28 y29 lx71 lx94 lx95 lx96 lx97 lx156 lx169 lx170 = (F_FR_narrowed x2 t0_0 t0_1 t0_2 t0_3 t0_4 t0_5 t0_6 t0_7 t0_8 t0_9 t0_10) from Eq.trans (by have c235x := c235; rw [← e180] at c235x; have c241x := c241; rw [← e239] at c241x; rw [F_FR_narrowed_L157.eq_2, if_neg c235x, if_neg c241x, if_pos c244]) hR174), (show True ∧ S_FR_narrowed_J193 (S_FR_narrowed_L72 x2 t0_0 t0_1 t0_2 t0_3 t0_4 t0_5 t0_6 t0_7 t0_8 t0_9 t0_10 p53 y19 y20 y21 y22 y23 y24 y25 y26 y27 y28 y29 lx71 fm107) (S_FR_narrowed_L157 (S_FR_narrowed_L72 x2 t0_0 t0_1 t0_2 t0_3 t0_4 t0_5 t0_6 t0_7 t0_8 t0_9 t0_10 p53 y19 y20 y21 y22 y23 y24 y25 y26 y27 y28 y29 lx71 fm107) x2 t0_0 t0_1 t0_2 t0_3 t0_4 t0_5 t0_6 t0_7 t0_8 t0_9 t0_10 p53 y19 y20 y21 y22 y23 y24 y25 y26 y27 y28 y29 lx71 lx94 lx95 lx96 lx97 lx156 fm178) x2 t0_0 t0_1 t0_2 t0_3 t0_4 t0_5 t0_6 t0_7 t0_8 t0_9 t0_10 p53 y19 y20 y21 y22 y23 y24 y25 y26 y27 y28 y29 lx71 lx94 lx95 lx96 lx97 lx156 lx169 lx170 from (by have h := hS175; rw [S_FR_narrowed_L157.eq_2] at h; have c235x := c235; rw [← e180] at c235x; rw [if_neg c235x] at h; have c241x := c241; rw [← e239] at c241x; rw [if_neg c241x] at h; rw [if_pos c244] at h; with_reducible exact h))⟩
                    ·
                      have b246 : q_F ((-149) < lx170.toInt) := (q_nleI c244)
                      refine lv_lload hx hb d_17_36_181 (lv_at hl 0 rfl) ?_
                      refine lv_iconst (v := 1) hx hb d_17_36_183 (by decide) ?_
                      refine lv_lshl hx hb d_17_36_184 rfl ?_
                      obtain ⟨j247, e248⟩ := q_nm (lx169 <<< ((1 : Int32).toInt64 &&& 63) : Int64)
                      refine q_tl (v := j247) e248 ?_
                      refine lv_lstore (lv' := [(5, .long j247), (7, .int lx170), (3, .long lx71)]) hx hb d_17_36_185 hl (by decide) rfl (fun ls hl => ?_)
                      obtain ⟨a249, e250⟩ := q_nm (lx170 + (-1) : Int32)
                      have b251 : q_F (a249.toInt = lx170.toInt + (-1)) := (by rw [← e250]; exact q_addI (y := (-1)) rfl (by decide) (by have t1 : (-149) < lx170.toInt := b246; have _ := q_lo32 (x := lx170); have _ := q_hi32 (x := lx170); omega) (by have t1 : (-149) < lx170.toInt := b246; have _ := q_lo32 (x := lx170); have _ := q_hi32 (x := lx170); omega))
                      refine lv_iinc (v := a249) (lv' := [(7, .int a249), (5, .long j247), (3, .long lx71)]) hx hb d_17_36_187 hl (k := 1) rfl (e250) (by decide) rfl (fun ls hl => ?_)
                      refine lv_goto (tgt := 157) hx hb d_17_36_190 (by decide) ?_
                      exact ih173 ((j247 : Int64), (a249 : Int32)) _ _ _ u16 (show (a249.toInt - ((-1074))).toNat < (lx170.toInt - ((-1074))).toNat from by have t1 : a249.toInt = lx170.toInt + (-1) := b251; have t2 : (-149) < lx170.toInt := b246; omega) ⟨(show q_F (a249.toInt ≤ lx96.toInt) from (show a249.toInt ≤ lx96.toInt from by have t1 : lx170.toInt ≤ lx96.toInt := i171; have t2 : a249.toInt = lx170.toInt + (-1) := b251; omega)), (show q_F (y19.toInt ≤ a249.toInt + 149) from (show y19.toInt ≤ a249.toInt + 149 from by have t1 : y19.toInt ≤ 0 := b38; have t2 : (-149) < lx170.toInt := b246; have t3 : a249.toInt = lx170.toInt + (-1) := b251; omega)), V, q_lw hl (q_lw1 1 rfl (q_lw1 0 rfl (q_lw1 2 rfl q_lw0))), ⟨fm178, Nat.lt_of_lt_of_le (show (a249.toInt - ((-1074))).toNat < (lx170.toInt - ((-1074))).toNat from by have t1 : a249.toInt = lx170.toInt + (-1) := b251; have t2 : (-149) < lx170.toInt := b246; omega) (Nat.le_of_lt_succ hf177), (show F_FR_narrowed_L157 (F_FR_narrowed_L72 x2 t0_0 t0_1 t0_2 t0_3 t0_4 t0_5 t0_6 t0_7 t0_8 t0_9 t0_10 p53 y19 y20 y21 y22 y23 y24 y25 y26 y27 y28 y29 lx71 fm107) x2 t0_0 t0_1 t0_2 t0_3 t0_4 t0_5 t0_6 t0_7 t0_8 t0_9 t0_10 p53 y19 y20 y21 y22 y23 y24 y25 y26 y27 y28 y29 lx71 lx94 lx95 lx96 lx97 lx156 fm178 j247 a249 = (F_FR_narrowed x2 t0_0 t0_1 t0_2 t0_3 t0_4 t0_5 t0_6 t0_7 t0_8 t0_9 t0_10) from Eq.trans (by have c235x := c235; rw [← e180] at c235x; have c241x := c241; rw [← e239] at c241x; rw [← e250, ← e248, F_FR_narrowed_L157.eq_2, if_neg c235x, if_neg c241x, if_neg c244]) hR174), (show True ∧ S_FR_narrowed_L157 (S_FR_narrowed_L72 x2 t0_0 t0_1 t0_2 t0_3 t0_4 t0_5 t0_6 t0_7 t0_8 t0_9 t0_10 p53 y19 y20 y21 y22 y23 y24 y25 y26 y27 y28 y29 lx71 fm107) x2 t0_0 t0_1 t0_2 t0_3 t0_4 t0_5 t0_6 t0_7 t0_8 t0_9 t0_10 p53 y19 y20 y21 y22 y23 y24 y25 y26 y27 y28 y29 lx71 lx94 lx95 lx96 lx97 lx156 fm178 j247 a249 from (by rw [← e250, ← e248]; have h := hS175; rw [S_FR_narrowed_L157.eq_2] at h; have c235x := c235; rw [← e180] at c235x; rw [if_neg c235x] at h; have c241x := c241; rw [← e239] at c241x; rw [if_neg c241x] at h; rw [if_neg c244] at h; with_reducible exact h))⟩⟩
            ·
              intro J158
              refine q_join (X := Unit) (fun z H locs ls _ => q_Wd D g (va_A ws sz) s u16 H locs ∧ lv_has ls 10 [(7, .int lx96), (5, .long lx97), (3, .long lx71)] ∧ F_FR_narrowed_J153 (F_FR_narrowed_L72 x2 t0_0 t0_1 t0_2 t0_3 t0_4 t0_5 t0_6 t0_7 t0_8 t0_9 t0_10 p53 y19 y20 y21 y22 y23 y24 y25 y26 y27 y28 y29 lx71 fm107) x2 t0_0 t0_1 t0_2 t0_3 t0_4 t0_5 t0_6 t0_7 t0_8 t0_9 t0_10 p53 y19 y20 y21 y22 y23 y24 y25 y26 y27 y28 y29 lx71 lx94 lx95 lx96 lx97 = (F_FR_narrowed x2 t0_0 t0_1 t0_2 t0_3 t0_4 t0_5 t0_6 t0_7 t0_8 t0_9 t0_10) ∧ True ∧ S_FR_narrowed_J153 (S_FR_narrowed_L72 x2 t0_0 t0_1 t0_2 t0_3 t0_4 t0_5 t0_6 t0_7 t0_8 t0_9 t0_10 p53 y19 y20 y21 y22 y23 y24 y25 y26 y27 y28 y29 lx71 fm107) x2 t0_0 t0_1 t0_2 t0_3 t0_4 t0_5 t0_6 t0_7 t0_8 t0_9 t0_10 p53 y19 y20 y21 y22 y23 y24 y25 y26 y27 y28 y29 lx71 lx94 lx95 lx96 lx97) (fun z => []) 153 0 0 ?_ ?_
              ·
                rintro _ H locs ls _ ⟨V, hl, hR254, hS255⟩
                replace hl : lv_has ls 10 [(7, .int lx96), (5, .long lx97), (3, .long lx71)] := hl
                refine lv_lload hx hb d_17_36_153 (lv_at hl 1 rfl) ?_
                exact J158 ((lx97 : Int64)) _ _ _ u16 ⟨(show q_F (lx97.toInt ≤ lx94.toInt + 16777215) from (show lx97.toInt ≤ lx94.toInt + 16777215 from by have t1 : 0 ≤ y19.toInt := b37; have t2 : y19.toInt ≤ lx94.toInt := i100; have t3 : -1 ≤ a108.toInt ∧ a108.toInt ≤ 1 ∧ ((a108.toInt = -1 ∧ lx97.toInt < 16777216) ∨ (a108.toInt = 0 ∧ lx97.toInt = 16777216) ∨ (a108.toInt = 1 ∧ 16777216 < lx97.toInt)) := b110; have t4 : a108.toInt < 0 := b153; omega)), (show q_F (lx97.toInt ≤ lx97.toInt) from (show lx97.toInt ≤ lx97.toInt from by omega)), (show q_F (lx97.toInt ≤ lx97.toInt + 1) from (show lx97.toInt ≤ lx97.toInt + 1 from by omega)), V, q_lw hl (q_lw1 0 rfl (q_lw1 2 rfl q_lw0)), (show F_FR_narrowed_J155 (F_FR_narrowed_L72 x2 t0_0 t0_1 t0_2 t0_3 t0_4 t0_5 t0_6 t0_7 t0_8 t0_9 t0_10 p53 y19 y20 y21 y22 y23 y24 y25 y26 y27 y28 y29 lx71 fm107) x2 t0_0 t0_1 t0_2 t0_3 t0_4 t0_5 t0_6 t0_7 t0_8 t0_9 t0_10 p53 y19 y20 y21 y22 y23 y24 y25 y26 y27 y28 y29 lx71 lx94 lx95 lx96 lx97 lx97 = (F_FR_narrowed x2 t0_0 t0_1 t0_2 t0_3 t0_4 t0_5 t0_6 t0_7 t0_8 t0_9 t0_10) from Eq.trans (by rw [F_FR_narrowed_J153.eq_1]) hR254), (show True ∧ S_FR_narrowed_J155 (S_FR_narrowed_L72 x2 t0_0 t0_1 t0_2 t0_3 t0_4 t0_5 t0_6 t0_7 t0_8 t0_9 t0_10 p53 y19 y20 y21 y22 y23 y24 y25 y26 y27 y28 y29 lx71 fm107) x2 t0_0 t0_1 t0_2 t0_3 t0_4 t0_5 t0_6 t0_7 t0_8 t0_9 t0_10 p53 y19 y20 y21 y22 y23 y24 y25 y26 y27 y28 y29 lx71 lx94 lx95 lx96 lx97 lx97 from (by have h := hS255; rw [S_FR_narrowed_J153.eq_1] at h; with_reducible exact h))⟩
              ·
                intro J253
                refine lv_icmp_ne (tgt := 153) hx hb d_17_36_129 (by decide) (fun c259 => ?_) (fun c259 => ?_)
                ·
                  exact J253 (()) _ _ _ u16 ⟨V, q_lw hl (q_lw1 2 rfl (q_lw1 3 rfl (q_lw1 4 rfl q_lw0))), (show F_FR_narrowed_J153 (F_FR_narrowed_L72 x2 t0_0 t0_1 t0_2 t0_3 t0_4 t0_5 t0_6 t0_7 t0_8 t0_9 t0_10 p53 y19 y20 y21 y22 y23 y24 y25 y26 y27 y28 y29 lx71 fm107) x2 t0_0 t0_1 t0_2 t0_3 t0_4 t0_5 t0_6 t0_7 t0_8 t0_9 t0_10 p53 y19 y20 y21 y22 y23 y24 y25 y26 y27 y28 y29 lx71 lx94 lx95 lx96 lx97 = (F_FR_narrowed x2 t0_0 t0_1 t0_2 t0_3 t0_4 t0_5 t0_6 t0_7 t0_8 t0_9 t0_10) from Eq.trans (by have c151x := c151; rw [← e109] at c151x; rw [F_FR_narrowed_L72.eq_2, if_neg c151x, if_pos c154, if_neg c259]) hR103), (show True ∧ S_FR_narrowed_J153 (S_FR_narrowed_L72 x2 t0_0 t0_1 t0_2 t0_3 t0_4 t0_5 t0_6 t0_7 t0_8 t0_9 t0_10 p53 y19 y20 y21 y22 y23 y24 y25 y26 y27 y28 y29 lx71 fm107) x2 t0_0 t0_1 t0_2 t0_3 t0_4 t0_5 t0_6 t0_7 t0_8 t0_9 t0_10 p53 y19 y20 y21 y22 y23 y24 y25 y26 y27 y28 y29 lx71 lx94 lx95 lx96 lx97 from (by have h := hS104; rw [S_FR_narrowed_L72.eq_2] at h; have c151x := c151; rw [← e109] at c151x; rw [if_neg c151x] at h; rw [if_pos c154] at h; rw [if_neg c259] at h; with_reducible exact h))⟩
                ·
                  have b261 : q_F (lx94.toInt = 1) := (q_eqI c259)
                  refine lv_iload hx hb d_17_36_132 (lv_at hl 1 rfl) ?_
                  refine q_join (X := Unit) (fun z H locs ls _ => q_Wd D g (va_A ws sz) s u16 H locs ∧ lv_has ls 10 [(7, .int lx96), (5, .long lx97), (3, .long lx71)] ∧ F_FR_narrowed_J146 (F_FR_narrowed_L72 x2 t0_0 t0_1 t0_2 t0_3 t0_4 t0_5 t0_6 t0_7 t0_8 t0_9 t0_10 p53 y19 y20 y21 y22 y23 y24 y25 y26 y27 y28 y29 lx71 fm107) x2 t0_0 t0_1 t0_2 t0_3 t0_4 t0_5 t0_6 t0_7 t0_8 t0_9 t0_10 p53 y19 y20 y21 y22 y23 y24 y25 y26 y27 y28 y29 lx71 lx94 lx95 lx96 lx97 = (F_FR_narrowed x2 t0_0 t0_1 t0_2 t0_3 t0_4 t0_5 t0_6 t0_7 t0_8 t0_9 t0_10) ∧ True ∧ S_FR_narrowed_J146 (S_FR_narrowed_L72 x2 t0_0 t0_1 t0_2 t0_3 t0_4 t0_5 t0_6 t0_7 t0_8 t0_9 t0_10 p53 y19 y20 y21 y22 y23 y24 y25 y26 y27 y28 y29 lx71 fm107) x2 t0_0 t0_1 t0_2 t0_3 t0_4 t0_5 t0_6 t0_7 t0_8 t0_9 t0_10 p53 y19 y20 y21 y22 y23 y24 y25 y26 y27 y28 y29 lx71 lx94 lx95 lx96 lx97) (fun z => []) 146 0 0 ?_ ?_
                  ·
                    rintro _ H locs ls _ ⟨V, hl, hR264, hS265⟩
                    replace hl : lv_has ls 10 [(7, .int lx96), (5, .long lx97), (3, .long lx71)] := hl
                    refine lv_lload hx hb d_17_36_146 (lv_at hl 1 rfl) ?_
                    refine lv_lconst (v := 1) hx hb d_17_36_148 (by decide) ?_
                    refine lv_ladd hx hb d_17_36_149 ?_
                    obtain ⟨j269, e270⟩ := q_nm (lx97 + 1 : Int64)
                    refine q_tl (v := j269) e270 ?_
                    have b271 : q_F (j269.toInt = lx97.toInt + 1) := (by rw [← e270]; show (lx97 + 1 : Int64).toInt = lx97.toInt + 1; exact q_addL (x := lx97.toInt) (y := 1) rfl (by decide) (by have _ := Int64.le_toInt lx97; have _ := Int64.toInt_lt lx97; have t1 : -1 ≤ a108.toInt ∧ a108.toInt ≤ 1 ∧ ((a108.toInt = -1 ∧ lx97.toInt < 16777216) ∨ (a108.toInt = 0 ∧ lx97.toInt = 16777216) ∨ (a108.toInt = 1 ∧ 16777216 < lx97.toInt)) := b110; have t2 : a108.toInt < 0 := b153; omega) (by have _ := Int64.le_toInt lx97; have _ := Int64.toInt_lt lx97; have t1 : -1 ≤ a108.toInt ∧ a108.toInt ≤ 1 ∧ ((a108.toInt = -1 ∧ lx97.toInt < 16777216) ∨ (a108.toInt = 0 ∧ lx97.toInt = 16777216) ∨ (a108.toInt = 1 ∧ 16777216 < lx97.toInt)) := b110; have t2 : a108.toInt < 0 := b153; omega))
                    refine lv_goto (tgt := 155) hx hb d_17_36_150 (by decide) ?_
                    exact J158 ((j269 : Int64)) _ _ _ u16 ⟨(show q_F (j269.toInt ≤ lx94.toInt + 16777215) from (show j269.toInt ≤ lx94.toInt + 16777215 from by have t1 : -1 ≤ a108.toInt ∧ a108.toInt ≤ 1 ∧ ((a108.toInt = -1 ∧ lx97.toInt < 16777216) ∨ (a108.toInt = 0 ∧ lx97.toInt = 16777216) ∨ (a108.toInt = 1 ∧ 16777216 < lx97.toInt)) := b110; have t2 : a108.toInt < 0 := b153; have t3 : lx94.toInt = 1 := b261; have t4 : j269.toInt = lx97.toInt + 1 := b271; omega)), (show q_F (lx97.toInt ≤ j269.toInt) from (show lx97.toInt ≤ j269.toInt from by have t1 : j269.toInt = lx97.toInt + 1 := b271; omega)), (show q_F (j269.toInt ≤ lx97.toInt + 1) from (show j269.toInt ≤ lx97.toInt + 1 from by have t1 : j269.toInt = lx97.toInt + 1 := b271; omega)), V, q_lw hl (q_lw1 0 rfl (q_lw1 2 rfl q_lw0)), (show F_FR_narrowed_J155 (F_FR_narrowed_L72 x2 t0_0 t0_1 t0_2 t0_3 t0_4 t0_5 t0_6 t0_7 t0_8 t0_9 t0_10 p53 y19 y20 y21 y22 y23 y24 y25 y26 y27 y28 y29 lx71 fm107) x2 t0_0 t0_1 t0_2 t0_3 t0_4 t0_5 t0_6 t0_7 t0_8 t0_9 t0_10 p53 y19 y20 y21 y22 y23 y24 y25 y26 y27 y28 y29 lx71 lx94 lx95 lx96 lx97 j269 = (F_FR_narrowed x2 t0_0 t0_1 t0_2 t0_3 t0_4 t0_5 t0_6 t0_7 t0_8 t0_9 t0_10) from Eq.trans (by rw [← e270, F_FR_narrowed_J146.eq_1]) hR264), (show True ∧ S_FR_narrowed_J155 (S_FR_narrowed_L72 x2 t0_0 t0_1 t0_2 t0_3 t0_4 t0_5 t0_6 t0_7 t0_8 t0_9 t0_10 p53 y19 y20 y21 y22 y23 y24 y25 y26 y27 y28 y29 lx71 fm107) x2 t0_0 t0_1 t0_2 t0_3 t0_4 t0_5 t0_6 t0_7 t0_8 t0_9 t0_10 p53 y19 y20 y21 y22 y23 y24 y25 y26 y27 y28 y29 lx71 lx94 lx95 lx96 lx97 j269 from (by rw [← e270]; have h := hS265; rw [S_FR_narrowed_J146.eq_1] at h; with_reducible exact h))⟩
                  ·
                    intro J263
                    refine lv_if_ne (tgt := 146) hx hb d_17_36_134 (by decide) (fun c272 => ?_) (fun c272 => ?_)
                    ·
                      exact J263 (()) _ _ _ u16 ⟨V, q_lw hl (q_lw1 2 rfl (q_lw1 3 rfl (q_lw1 4 rfl q_lw0))), (show F_FR_narrowed_J146 (F_FR_narrowed_L72 x2 t0_0 t0_1 t0_2 t0_3 t0_4 t0_5 t0_6 t0_7 t0_8 t0_9 t0_10 p53 y19 y20 y21 y22 y23 y24 y25 y26 y27 y28 y29 lx71 fm107) x2 t0_0 t0_1 t0_2 t0_3 t0_4 t0_5 t0_6 t0_7 t0_8 t0_9 t0_10 p53 y19 y20 y21 y22 y23 y24 y25 y26 y27 y28 y29 lx71 lx94 lx95 lx96 lx97 = (F_FR_narrowed x2 t0_0 t0_1 t0_2 t0_3 t0_4 t0_5 t0_6 t0_7 t0_8 t0_9 t0_10) from Eq.trans (by have c151x := c151; rw [← e109] at c151x; rw [F_FR_narrowed_L72.eq_2, if_neg c151x, if_pos c154, if_pos c259, if_neg c272]) hR103), (show True ∧ S_FR_narrowed_J146 (S_FR_narrowed_L72 x2 t0_0 t0_1 t0_2 t0_3 t0_4 t0_5 t0_6 t0_7 t0_8 t0_9 t0_10 p53 y19 y20 y21 y22 y23 y24 y25 y26 y27 y28 y29 lx71 fm107) x2 t0_0 t0_1 t0_2 t0_3 t0_4 t0_5 t0_6 t0_7 t0_8 t0_9 t0_10 p53 y19 y20 y21 y22 y23 y24 y25 y26 y27 y28 y29 lx71 lx94 lx95 lx96 lx97 from (by have h := hS104; rw [S_FR_narrowed_L72.eq_2] at h; have c151x := c151; rw [← e109] at c151x; rw [if_neg c151x] at h; rw [if_pos c154] at h; rw [if_pos c259] at h; rw [if_neg c272] at h; with_reducible exact h))⟩
                    ·
                      refine lv_lload hx hb d_17_36_137 (lv_at hl 3 rfl) ?_
                      refine lv_lconst (v := 1) hx hb d_17_36_139 (by decide) ?_
                      refine lv_land hx hb d_17_36_140 ?_
                      obtain ⟨j275, e276⟩ := q_nm (lx97 &&& 1 : Int64)
                      refine q_tl (v := j275) e276 ?_
                      refine lv_lconst (v := 1) hx hb d_17_36_141 (by decide) ?_
                      refine W.lcmp hx hb d_17_36_142 ?_
                      obtain ⟨a278, e279⟩ := q_nm (lg_cmp j275 1 : Int32)
                      refine q_ti (v := a278) e279 ?_
                      refine lv_if_ne (tgt := 153) hx hb d_17_36_143 (by decide) (fun c281 => ?_) (fun c281 => ?_)
                      ·
                        exact J253 (()) _ _ _ u16 ⟨V, q_lw hl (q_lw1 2 rfl (q_lw1 3 rfl (q_lw1 4 rfl q_lw0))), (show F_FR_narrowed_J153 (F_FR_narrowed_L72 x2 t0_0 t0_1 t0_2 t0_3 t0_4 t0_5 t0_6 t0_7 t0_8 t0_9 t0_10 p53 y19 y20 y21 y22 y23 y24 y25 y26 y27 y28 y29 lx71 fm107) x2 t0_0 t0_1 t0_2 t0_3 t0_4 t0_5 t0_6 t0_7 t0_8 t0_9 t0_10 p53 y19 y20 y21 y22 y23 y24 y25 y26 y27 y28 y29 lx71 lx94 lx95 lx96 lx97 = (F_FR_narrowed x2 t0_0 t0_1 t0_2 t0_3 t0_4 t0_5 t0_6 t0_7 t0_8 t0_9 t0_10) from Eq.trans (by have c151x := c151; rw [← e109] at c151x; have c281x := c281; rw [← e279, ← e276] at c281x; rw [F_FR_narrowed_L72.eq_2, if_neg c151x, if_pos c154, if_pos c259, if_pos c272, if_neg c281x]) hR103), (show True ∧ S_FR_narrowed_J153 (S_FR_narrowed_L72 x2 t0_0 t0_1 t0_2 t0_3 t0_4 t0_5 t0_6 t0_7 t0_8 t0_9 t0_10 p53 y19 y20 y21 y22 y23 y24 y25 y26 y27 y28 y29 lx71 fm107) x2 t0_0 t0_1 t0_2 t0_3 t0_4 t0_5 t0_6 t0_7 t0_8 t0_9 t0_10 p53 y19 y20 y21 y22 y23 y24 y25 y26 y27 y28 y29 lx71 lx94 lx95 lx96 lx97 from (by have h := hS104; rw [S_FR_narrowed_L72.eq_2] at h; have c151x := c151; rw [← e109] at c151x; rw [if_neg c151x] at h; rw [if_pos c154] at h; rw [if_pos c259] at h; rw [if_pos c272] at h; have c281x := c281; rw [← e279, ← e276] at c281x; rw [if_neg c281x] at h; with_reducible exact h))⟩
                      ·
                        exact J263 (()) _ _ _ u16 ⟨V, q_lw hl (q_lw1 2 rfl (q_lw1 3 rfl (q_lw1 4 rfl q_lw0))), (show F_FR_narrowed_J146 (F_FR_narrowed_L72 x2 t0_0 t0_1 t0_2 t0_3 t0_4 t0_5 t0_6 t0_7 t0_8 t0_9 t0_10 p53 y19 y20 y21 y22 y23 y24 y25 y26 y27 y28 y29 lx71 fm107) x2 t0_0 t0_1 t0_2 t0_3 t0_4 t0_5 t0_6 t0_7 t0_8 t0_9 t0_10 p53 y19 y20 y21 y22 y23 y24 y25 y26 y27 y28 y29 lx71 lx94 lx95 lx96 lx97 = (F_FR_narrowed x2 t0_0 t0_1 t0_2 t0_3 t0_4 t0_5 t0_6 t0_7 t0_8 t0_9 t0_10) from Eq.trans (by have c151x := c151; rw [← e109] at c151x; have c281x := c281; rw [← e279, ← e276] at c281x; rw [F_FR_narrowed_L72.eq_2, if_neg c151x, if_pos c154, if_pos c259, if_pos c272, if_pos c281x]) hR103), (show True ∧ S_FR_narrowed_J146 (S_FR_narrowed_L72 x2 t0_0 t0_1 t0_2 t0_3 t0_4 t0_5 t0_6 t0_7 t0_8 t0_9 t0_10 p53 y19 y20 y21 y22 y23 y24 y25 y26 y27 y28 y29 lx71 fm107) x2 t0_0 t0_1 t0_2 t0_3 t0_4 t0_5 t0_6 t0_7 t0_8 t0_9 t0_10 p53 y19 y20 y21 y22 y23 y24 y25 y26 y27 y28 y29 lx71 lx94 lx95 lx96 lx97 from (by have h := hS104; rw [S_FR_narrowed_L72.eq_2] at h; have c151x := c151; rw [← e109] at c151x; rw [if_neg c151x] at h; rw [if_pos c154] at h; rw [if_pos c259] at h; rw [if_pos c272] at h; have c281x := c281; rw [← e279, ← e276] at c281x; rw [if_pos c281x] at h; with_reducible exact h))⟩
          ·
            exact J112 (()) _ _ _ u16 ⟨V, q_lw hl (q_lw1 0 rfl (q_lw1 1 rfl (q_lw1 2 rfl (q_lw1 3 rfl (q_lw1 4 rfl q_lw0))))), (show F_FR_narrowed_J89 (F_FR_narrowed_L72 x2 t0_0 t0_1 t0_2 t0_3 t0_4 t0_5 t0_6 t0_7 t0_8 t0_9 t0_10 p53 y19 y20 y21 y22 y23 y24 y25 y26 y27 y28 y29 lx71 fm107) x2 t0_0 t0_1 t0_2 t0_3 t0_4 t0_5 t0_6 t0_7 t0_8 t0_9 t0_10 p53 y19 y20 y21 y22 y23 y24 y25 y26 y27 y28 y29 lx71 lx94 lx95 lx96 lx97 = (F_FR_narrowed x2 t0_0 t0_1 t0_2 t0_3 t0_4 t0_5 t0_6 t0_7 t0_8 t0_9 t0_10) from Eq.trans (by have c151x := c151; rw [← e109] at c151x; rw [F_FR_narrowed_L72.eq_2, if_neg c151x, if_neg c154]) hR103), (show True ∧ S_FR_narrowed_J89 (S_FR_narrowed_L72 x2 t0_0 t0_1 t0_2 t0_3 t0_4 t0_5 t0_6 t0_7 t0_8 t0_9 t0_10 p53 y19 y20 y21 y22 y23 y24 y25 y26 y27 y28 y29 lx71 fm107) x2 t0_0 t0_1 t0_2 t0_3 t0_4 t0_5 t0_6 t0_7 t0_8 t0_9 t0_10 p53 y19 y20 y21 y22 y23 y24 y25 y26 y27 y28 y29 lx71 lx94 lx95 lx96 lx97 from (by have h := hS104; rw [S_FR_narrowed_L72.eq_2] at h; have c151x := c151; rw [← e109] at c151x; rw [if_neg c151x] at h; rw [if_neg c154] at h; with_reducible exact h))⟩
    ·
      refine lv_aload_n hx hb d_17_36_33 rfl (lv_at hl 1 rfl) ?_
      refine q_get (ci := 15) (j := 11) (v := .long y23) C0 V i_FR rfl rfl hO18 (by decide) w_2087 rfl d_17_36_34 ?_
      refine lv_lconst (v := 0) hx hb d_17_36_37 (by decide) ?_
      refine W.lcmp hx hb d_17_36_38 ?_
      obtain ⟨a286, e287⟩ := q_nm (lg_cmp y23 0 : Int32)
      refine q_ti (v := a286) e287 ?_
      refine lv_if_eq (tgt := 48) hx hb d_17_36_39 (by decide) (fun c289 => ?_) (fun c289 => ?_)
      ·
        refine lv_lload_n hx hb d_17_36_48 rfl (lv_at hl 0 rfl) ?_
        refine q_ldc2 C0 rfl w_2936 d_17_36_49 ?_
        refine lv_lor hx hb d_17_36_52 ?_
        obtain ⟨j291, e292⟩ := q_nm (lx71 ||| 2139095040 : Int64)
        refine q_tl (v := j291) e292 ?_
        exact q_retl C0 V (⟨hI, hF, y19, y20, y21, y22, y23, y24, y25, y26, y27, y28, y29, hO18, (show 0 ≤ y19.toInt from (by first | with_reducible exact q_fe b37 | (have t1 : 0 ≤ y19.toInt := b37; omega))), (show y19.toInt ≤ 0 from (by first | with_reducible exact q_fe b38 | (have t1 : y19.toInt ≤ 0 := b38; omega))), (show t0_1.toInt ≤ y20.toInt from (by first | with_reducible exact q_fe b39 | (have t1 : t0_1.toInt ≤ y20.toInt := b39; omega))), (show y20.toInt ≤ t0_1.toInt from (by first | with_reducible exact q_fe b40 | (have t1 : y20.toInt ≤ t0_1.toInt := b40; omega))), (show t0_9.toInt ≤ y28.toInt from (by first | with_reducible exact q_fe b43 | (have t1 : t0_9.toInt ≤ y28.toInt := b43; omega))), (show y28.toInt ≤ t0_9.toInt from (by first | with_reducible exact q_fe b44 | (have t1 : y28.toInt ≤ t0_9.toInt := b44; omega))), (show t0_10.toInt ≤ y29.toInt from (by first | with_reducible exact q_fe b45 | (have t1 : t0_10.toInt ≤ y29.toInt := b45; omega))), (show y29.toInt ≤ t0_10.toInt from (by first | with_reducible exact q_fe b46 | (have t1 : y29.toInt ≤ t0_10.toInt := b46; omega))), (show y21.toInt ≤ y19.toInt + 1 from (by have t1 : y21.toInt ≤ 1 := b31; have t2 : 0 ≤ y19.toInt := b37; omega)), (show y19.toInt ≤ y21.toInt from (by have t1 : 0 ≤ y21.toInt := b30; have t2 : y19.toInt ≤ 0 := b38; omega)), (show y19.toInt ≤ y22.toInt from (by have t1 : 0 ≤ y22.toInt := b32; have t2 : y19.toInt ≤ 0 := b38; omega)), (show y24.toInt ≤ y19.toInt + 52 from (by have t1 : y24.toInt ≤ 52 := b34; have t2 : 0 ≤ y19.toInt := b37; omega)), (show y19.toInt + 23 ≤ y24.toInt from (by have t1 : 23 ≤ y24.toInt := b33; have t2 : y19.toInt ≤ 0 := b38; omega)), (show y25.toInt ≤ y19.toInt + 2047 from (by have t1 : y25.toInt ≤ 2047 := b36; have t2 : 0 ≤ y19.toInt := b37; omega)), (show y19.toInt + 255 ≤ y25.toInt from (by have t1 : 255 ≤ y25.toInt := b35; have t2 : y19.toInt ≤ 0 := b38; omega)), (show y27.toInt ≤ y19.toInt + 1896 from (by have t1 : 0 ≤ y19.toInt := b37; have t2 : y27.toInt ≤ 0 + 1896 := b42; omega)), (show y19.toInt ≤ y27.toInt + 1074 from (by have t1 : y19.toInt ≤ 0 := b38; have t2 : 0 ≤ y27.toInt + 1074 := b41; omega)), (show y22.toInt ≤ y25.toInt from (by first | with_reducible exact q_fe b47 | (have t1 : y22.toInt ≤ y25.toInt := b47; omega))), (show y27.toInt + 149 ≤ y22.toInt from (by first | with_reducible exact q_fe b48 | (have t1 : y27.toInt + 149 ≤ y22.toInt := b48; omega))), (show y22.toInt ≤ y27.toInt + 1075 from (by first | with_reducible exact q_fe b49 | (have t1 : y22.toInt ≤ y27.toInt + 1075 := b49; omega))), (show y27.toInt + 150 ≤ y25.toInt from (by first | with_reducible exact q_fe b50 | (have t1 : y27.toInt + 150 ≤ y25.toInt := b50; omega))), (show (j291, y19, y20, y21, y22, y23, y24, y25, y26, y27, y28, y29) = (F_FR_narrowed x2 t0_0 t0_1 t0_2 t0_3 t0_4 t0_5 t0_6 t0_7 t0_8 t0_9 t0_10) from Eq.trans (by have c88x := c88; rw [e87] at c88x; have c289x := c289; rw [← e287] at c289x; rw [← e292, F_FR_narrowed_J25.eq_1, if_pos c88x, if_pos c289x]) hR76)⟩) d_17_36_53
      ·
        refine q_ldc2 C0 rfl w_2935 d_17_36_42 ?_
        refine lv_goto (tgt := 53) hx hb d_17_36_45 (by decide) ?_
        exact q_retl C0 V (⟨hI, hF, y19, y20, y21, y22, y23, y24, y25, y26, y27, y28, y29, hO18, (show 0 ≤ y19.toInt from (by have z12 : (2143289344 : Int64).toInt = 2143289344 := rfl; have t1 : 0 ≤ y19.toInt := b37; omega)), (show y19.toInt ≤ 0 from (by have z12 : (2143289344 : Int64).toInt = 2143289344 := rfl; have t1 : y19.toInt ≤ 0 := b38; omega)), (show t0_1.toInt ≤ y20.toInt from (by have z12 : (2143289344 : Int64).toInt = 2143289344 := rfl; have t1 : t0_1.toInt ≤ y20.toInt := b39; omega)), (show y20.toInt ≤ t0_1.toInt from (by have z12 : (2143289344 : Int64).toInt = 2143289344 := rfl; have t1 : y20.toInt ≤ t0_1.toInt := b40; omega)), (show t0_9.toInt ≤ y28.toInt from (by have z12 : (2143289344 : Int64).toInt = 2143289344 := rfl; have t1 : t0_9.toInt ≤ y28.toInt := b43; omega)), (show y28.toInt ≤ t0_9.toInt from (by have z12 : (2143289344 : Int64).toInt = 2143289344 := rfl; have t1 : y28.toInt ≤ t0_9.toInt := b44; omega)), (show t0_10.toInt ≤ y29.toInt from (by have z12 : (2143289344 : Int64).toInt = 2143289344 := rfl; have t1 : t0_10.toInt ≤ y29.toInt := b45; omega)), (show y29.toInt ≤ t0_10.toInt from (by have z12 : (2143289344 : Int64).toInt = 2143289344 := rfl; have t1 : y29.toInt ≤ t0_10.toInt := b46; omega)), (show y21.toInt ≤ y19.toInt + 1 from (by have z12 : (2143289344 : Int64).toInt = 2143289344 := rfl; have t1 : y21.toInt ≤ 1 := b31; have t2 : 0 ≤ y19.toInt := b37; omega)), (show y19.toInt ≤ y21.toInt from (by have z12 : (2143289344 : Int64).toInt = 2143289344 := rfl; have t1 : 0 ≤ y21.toInt := b30; have t2 : y19.toInt ≤ 0 := b38; omega)), (show y19.toInt ≤ y22.toInt from (by have z12 : (2143289344 : Int64).toInt = 2143289344 := rfl; have t1 : 0 ≤ y22.toInt := b32; have t2 : y19.toInt ≤ 0 := b38; omega)), (show y24.toInt ≤ y19.toInt + 52 from (by have z12 : (2143289344 : Int64).toInt = 2143289344 := rfl; have t1 : y24.toInt ≤ 52 := b34; have t2 : 0 ≤ y19.toInt := b37; omega)), (show y19.toInt + 23 ≤ y24.toInt from (by have z12 : (2143289344 : Int64).toInt = 2143289344 := rfl; have t1 : 23 ≤ y24.toInt := b33; have t2 : y19.toInt ≤ 0 := b38; omega)), (show y25.toInt ≤ y19.toInt + 2047 from (by have z12 : (2143289344 : Int64).toInt = 2143289344 := rfl; have t1 : y25.toInt ≤ 2047 := b36; have t2 : 0 ≤ y19.toInt := b37; omega)), (show y19.toInt + 255 ≤ y25.toInt from (by have z12 : (2143289344 : Int64).toInt = 2143289344 := rfl; have t1 : 255 ≤ y25.toInt := b35; have t2 : y19.toInt ≤ 0 := b38; omega)), (show y27.toInt ≤ y19.toInt + 1896 from (by have z12 : (2143289344 : Int64).toInt = 2143289344 := rfl; have t1 : 0 ≤ y19.toInt := b37; have t2 : y27.toInt ≤ 0 + 1896 := b42; omega)), (show y19.toInt ≤ y27.toInt + 1074 from (by have z12 : (2143289344 : Int64).toInt = 2143289344 := rfl; have t1 : y19.toInt ≤ 0 := b38; have t2 : 0 ≤ y27.toInt + 1074 := b41; omega)), (show y22.toInt ≤ y25.toInt from (by have z12 : (2143289344 : Int64).toInt = 2143289344 := rfl; have t1 : y22.toInt ≤ y25.toInt := b47; omega)), (show y27.toInt + 149 ≤ y22.toInt from (by have z12 : (2143289344 : Int64).toInt = 2143289344 := rfl; have t1 : y27.toInt + 149 ≤ y22.toInt := b48; omega)), (show y22.toInt ≤ y27.toInt + 1075 from (by have z12 : (2143289344 : Int64).toInt = 2143289344 := rfl; have t1 : y22.toInt ≤ y27.toInt + 1075 := b49; omega)), (show y27.toInt + 150 ≤ y25.toInt from (by have z12 : (2143289344 : Int64).toInt = 2143289344 := rfl; have t1 : y27.toInt + 150 ≤ y25.toInt := b50; omega)), (show ((2143289344 : Int64), y19, y20, y21, y22, y23, y24, y25, y26, y27, y28, y29) = (F_FR_narrowed x2 t0_0 t0_1 t0_2 t0_3 t0_4 t0_5 t0_6 t0_7 t0_8 t0_9 t0_10) from Eq.trans (by have c88x := c88; rw [e87] at c88x; have c289x := c289; rw [← e287] at c289x; rw [F_FR_narrowed_J25.eq_1, if_pos c88x, if_neg c289x]) hR76)⟩) d_17_36_53
  ·
    intro J73
    refine lv_if_eq (tgt := 24) hx hb d_17_36_15 (by decide) (fun c294 => ?_) (fun c294 => ?_)
    ·
      have b295 : q_F (y21.toInt = 0) := (q_eqI c294)
      refine lv_lconst (v := 0) hx hb d_17_36_24 (by decide) ?_
      exact J73 ((0 : Int64)) _ _ _ u16 ⟨(show q_F (0 ≤ 2147483648) from (show 0 ≤ 2147483648 from by omega)), (show q_F (y21.toInt ≤ 0) from (show y21.toInt ≤ 0 from by have t1 : y21.toInt = 0 := b295; omega)), V, q_lw hl (q_lw1 0 rfl q_lw0), (show F_FR_narrowed_J25 x2 t0_0 t0_1 t0_2 t0_3 t0_4 t0_5 t0_6 t0_7 t0_8 t0_9 t0_10 p53 y19 y20 y21 y22 y23 y24 y25 y26 y27 y28 y29 0 = (F_FR_narrowed x2 t0_0 t0_1 t0_2 t0_3 t0_4 t0_5 t0_6 t0_7 t0_8 t0_9 t0_10) from Eq.trans (by have c294x := c294; rw [e57] at c294x; rw [e65, e64, e63, e62, e61, e60, e59, e58, e57, e56, e55, F_FR_narrowed_c8.eq_1, if_pos c294x]) hR66), (show True ∧ S_FR_narrowed_J25 x2 t0_0 t0_1 t0_2 t0_3 t0_4 t0_5 t0_6 t0_7 t0_8 t0_9 t0_10 p53 y19 y20 y21 y22 y23 y24 y25 y26 y27 y28 y29 0 from (by rw [e65, e64, e63, e62, e61, e60, e59, e58, e57, e56, e55]; have h := hS67; rw [S_FR_narrowed_c8.eq_1] at h; have c294x := c294; rw [e57] at c294x; rw [if_pos c294x] at h; with_reducible exact h))⟩
    ·
      refine q_ldc2 C0 rfl w_2934 d_17_36_18 ?_
      refine lv_goto (tgt := 25) hx hb d_17_36_21 (by decide) ?_
      exact J73 ((2147483648 : Int64)) _ _ _ u16 ⟨(show q_F (2147483648 ≤ 2147483648) from (show 2147483648 ≤ 2147483648 from by omega)), (show q_F (y21.toInt ≤ 2147483648) from (show y21.toInt ≤ 2147483648 from by have t1 : y21.toInt ≤ 1 := b31; omega)), V, q_lw hl (q_lw1 0 rfl q_lw0), (show F_FR_narrowed_J25 x2 t0_0 t0_1 t0_2 t0_3 t0_4 t0_5 t0_6 t0_7 t0_8 t0_9 t0_10 p53 y19 y20 y21 y22 y23 y24 y25 y26 y27 y28 y29 2147483648 = (F_FR_narrowed x2 t0_0 t0_1 t0_2 t0_3 t0_4 t0_5 t0_6 t0_7 t0_8 t0_9 t0_10) from Eq.trans (by have c294x := c294; rw [e57] at c294x; rw [e65, e64, e63, e62, e61, e60, e59, e58, e57, e56, e55, F_FR_narrowed_c8.eq_1, if_neg c294x]) hR66), (show True ∧ S_FR_narrowed_J25 x2 t0_0 t0_1 t0_2 t0_3 t0_4 t0_5 t0_6 t0_7 t0_8 t0_9 t0_10 p53 y19 y20 y21 y22 y23 y24 y25 y26 y27 y28 y29 2147483648 from (by rw [e65, e64, e63, e62, e61, e60, e59, e58, e57, e56, e55]; have h := hS67; rw [S_FR_narrowed_c8.eq_1] at h; have c294x := c294; rw [e57] at c294x; rw [if_neg c294x] at h; with_reducible exact h))⟩

theorem d_17_37_0 : decode prog_17_method_37_code 0 = .ok (.aload_n 0, 1) := by decide +kernel
theorem d_17_37_1 : decode prog_17_method_37_code 1 = .ok (.lload_n 1, 1) := by decide +kernel
theorem d_17_37_2 : decode prog_17_method_37_code 2 = .ok (.iconst 1, 1) := by decide +kernel
theorem d_17_37_3 : decode prog_17_method_37_code 3 = .ok (.invokestatic 122, 3) := by decide +kernel
theorem d_17_37_14 : decode prog_17_method_37_code 14 = .ok (.putfield 31, 3) := by decide +kernel
theorem d_17_37_17 : decode prog_17_method_37_code 17 = .ok (.aload_n 0, 1) := by decide +kernel
theorem d_17_37_18 : decode prog_17_method_37_code 18 = .ok (.getfield 31, 3) := by decide +kernel
theorem d_17_37_21 : decode prog_17_method_37_code 21 = .ok (.ifCond .le 5, 3) := by decide +kernel
theorem d_17_37_26 : decode prog_17_method_37_code 26 = .ok (.aload_n 0, 1) := by decide +kernel
theorem d_17_37_27 : decode prog_17_method_37_code 27 = .ok (.lload_n 1, 1) := by decide +kernel
theorem d_17_37_28 : decode prog_17_method_37_code 28 = .ok (.iconst 1, 1) := by decide +kernel
theorem d_17_37_29 : decode prog_17_method_37_code 29 = .ok (.invokevirtual 126, 3) := by decide +kernel
theorem d_17_37_32 : decode prog_17_method_37_code 32 = .ok (.aload_n 0, 1) := by decide +kernel
theorem d_17_37_33 : decode prog_17_method_37_code 33 = .ok (.getfield 41, 3) := by decide +kernel
theorem d_17_37_46 : decode prog_17_method_37_code 46 = .ok (.lstore_n 3, 1) := by decide +kernel
theorem d_17_37_47 : decode prog_17_method_37_code 47 = .ok (.aload_n 0, 1) := by decide +kernel
theorem d_17_37_48 : decode prog_17_method_37_code 48 = .ok (.invokevirtual 130, 3) := by decide +kernel
theorem d_17_37_51 : decode prog_17_method_37_code 51 = .ok (.ifCond .ne 24, 3) := by decide +kernel
theorem d_17_37_75 : decode prog_17_method_37_code 75 = .ok (.aload_n 0, 1) := by decide +kernel
theorem d_17_37_76 : decode prog_17_method_37_code 76 = .ok (.getfield 52, 3) := by decide +kernel
theorem d_17_37_79 : decode prog_17_method_37_code 79 = .ok (.lconst 0, 1) := by decide +kernel
theorem d_17_37_80 : decode prog_17_method_37_code 80 = .ok (.lcmp, 1) := by decide +kernel
theorem d_17_37_81 : decode prog_17_method_37_code 81 = .ok (.ifCond .ne 5, 3) := by decide +kernel
theorem d_17_37_86 : decode prog_17_method_37_code 86 = .ok (.aload_n 0, 1) := by decide +kernel
theorem d_17_37_87 : decode prog_17_method_37_code 87 = .ok (.getfield 52, 3) := by decide +kernel
theorem d_17_37_90 : decode prog_17_method_37_code 90 = .ok (.lstore 5, 2) := by decide +kernel
theorem d_17_37_92 : decode prog_17_method_37_code 92 = .ok (.aload_n 0, 1) := by decide +kernel
theorem d_17_37_93 : decode prog_17_method_37_code 93 = .ok (.getfield 55, 3) := by decide +kernel
theorem d_17_37_96 : decode prog_17_method_37_code 96 = .ok (.istore 7, 2) := by decide +kernel
theorem d_17_37_98 : decode prog_17_method_37_code 98 = .ok (.lload 5, 2) := by decide +kernel
theorem d_17_37_100 : decode prog_17_method_37_code 100 = .ok (.ldc2_w 188, 3) := by decide +kernel
set_option maxRecDepth 100000 in
theorem w_2946 : (Cond.constantLong "NumberHouseModel$FloatRows" (188 : Nat) (4503599627370496 : Int64)) ∈ q_tbl := q_of13 66 rfl (by decide +kernel)
theorem d_17_37_103 : decode prog_17_method_37_code 103 = .ok (.lcmp, 1) := by decide +kernel
theorem d_17_37_104 : decode prog_17_method_37_code 104 = .ok (.ifCond .ge 15, 3) := by decide +kernel
theorem d_17_37_119 : decode prog_17_method_37_code 119 = .ok (.lload_n 3, 1) := by decide +kernel
theorem d_17_37_120 : decode prog_17_method_37_code 120 = .ok (.iload 7, 2) := by decide +kernel
theorem d_17_37_122 : decode prog_17_method_37_code 122 = .ok (.sipush 1075, 3) := by decide +kernel
theorem d_17_37_125 : decode prog_17_method_37_code 125 = .ok (.iadd, 1) := by decide +kernel
theorem d_17_37_126 : decode prog_17_method_37_code 126 = .ok (.i2l, 1) := by decide +kernel
theorem d_17_37_127 : decode prog_17_method_37_code 127 = .ok (.bipush 52, 2) := by decide +kernel
theorem d_17_37_129 : decode prog_17_method_37_code 129 = .ok (.lshl, 1) := by decide +kernel
theorem d_17_37_130 : decode prog_17_method_37_code 130 = .ok (.lload 5, 2) := by decide +kernel
theorem d_17_37_132 : decode prog_17_method_37_code 132 = .ok (.ladd, 1) := by decide +kernel
theorem d_17_37_133 : decode prog_17_method_37_code 133 = .ok (.ldc2_w 188, 3) := by decide +kernel
theorem d_17_37_136 : decode prog_17_method_37_code 136 = .ok (.lsub, 1) := by decide +kernel
theorem d_17_37_137 : decode prog_17_method_37_code 137 = .ok (.lor, 1) := by decide +kernel
theorem d_17_37_138 : decode prog_17_method_37_code 138 = .ok (.lreturn, 1) := by decide +kernel
theorem d_17_37_107 : decode prog_17_method_37_code 107 = .ok (.lload 5, 2) := by decide +kernel
theorem d_17_37_109 : decode prog_17_method_37_code 109 = .ok (.iconst 1, 1) := by decide +kernel
theorem d_17_37_110 : decode prog_17_method_37_code 110 = .ok (.lshl, 1) := by decide +kernel
theorem d_17_37_111 : decode prog_17_method_37_code 111 = .ok (.lstore 5, 2) := by decide +kernel
theorem d_17_37_113 : decode prog_17_method_37_code 113 = .ok (.iinc 7 (-1), 3) := by decide +kernel
theorem d_17_37_116 : decode prog_17_method_37_code 116 = .ok (.goto (-18), 3) := by decide +kernel
theorem d_17_37_84 : decode prog_17_method_37_code 84 = .ok (.lload_n 3, 1) := by decide +kernel
theorem d_17_37_85 : decode prog_17_method_37_code 85 = .ok (.lreturn, 1) := by decide +kernel
theorem d_17_37_54 : decode prog_17_method_37_code 54 = .ok (.aload_n 0, 1) := by decide +kernel
theorem d_17_37_55 : decode prog_17_method_37_code 55 = .ok (.getfield 48, 3) := by decide +kernel
theorem d_17_37_58 : decode prog_17_method_37_code 58 = .ok (.lconst 0, 1) := by decide +kernel
theorem d_17_37_59 : decode prog_17_method_37_code 59 = .ok (.lcmp, 1) := by decide +kernel
theorem d_17_37_60 : decode prog_17_method_37_code 60 = .ok (.ifCond .eq 9, 3) := by decide +kernel
theorem d_17_37_69 : decode prog_17_method_37_code 69 = .ok (.lload_n 3, 1) := by decide +kernel
theorem d_17_37_70 : decode prog_17_method_37_code 70 = .ok (.ldc2_w 186, 3) := by decide +kernel
set_option maxRecDepth 100000 in
theorem w_2945 : (Cond.constantLong "NumberHouseModel$FloatRows" (186 : Nat) (9218868437227405312 : Int64)) ∈ q_tbl := q_of13 65 rfl (by decide +kernel)
theorem d_17_37_73 : decode prog_17_method_37_code 73 = .ok (.lor, 1) := by decide +kernel
theorem d_17_37_74 : decode prog_17_method_37_code 74 = .ok (.lreturn, 1) := by decide +kernel
theorem d_17_37_63 : decode prog_17_method_37_code 63 = .ok (.ldc2_w 184, 3) := by decide +kernel
set_option maxRecDepth 100000 in
theorem w_2944 : (Cond.constantLong "NumberHouseModel$FloatRows" (184 : Nat) (9221120237041090560 : Int64)) ∈ q_tbl := q_of13 64 rfl (by decide +kernel)
theorem d_17_37_66 : decode prog_17_method_37_code 66 = .ok (.goto 8, 3) := by decide +kernel
theorem d_17_37_36 : decode prog_17_method_37_code 36 = .ok (.ifCond .eq 9, 3) := by decide +kernel
theorem d_17_37_45 : decode prog_17_method_37_code 45 = .ok (.lconst 0, 1) := by decide +kernel
theorem d_17_37_39 : decode prog_17_method_37_code 39 = .ok (.ldc2_w 182, 3) := by decide +kernel
set_option maxRecDepth 100000 in
theorem w_2943 : (Cond.constantLong "NumberHouseModel$FloatRows" (182 : Nat) (-9223372036854775808 : Int64)) ∈ q_tbl := q_of13 63 rfl (by decide +kernel)
theorem d_17_37_42 : decode prog_17_method_37_code 42 = .ok (.goto 4, 3) := by decide +kernel
theorem d_17_37_24 : decode prog_17_method_37_code 24 = .ok (.lconst 0, 1) := by decide +kernel
theorem d_17_37_25 : decode prog_17_method_37_code 25 = .ok (.lreturn, 1) := by decide +kernel
theorem d_17_37_6 : decode prog_17_method_37_code 6 = .ok (.ifCond .eq 7, 3) := by decide +kernel
theorem d_17_37_13 : decode prog_17_method_37_code 13 = .ok (.iconst 0, 1) := by decide +kernel
theorem d_17_37_9 : decode prog_17_method_37_code 9 = .ok (.iconst 1, 1) := by decide +kernel
theorem d_17_37_10 : decode prog_17_method_37_code 10 = .ok (.goto 4, 3) := by decide +kernel
def y_FR_widened : MethodName := ⟨"NumberHouseModel$FloatRows", "widened", "(J)J"⟩
def F_FR_widened_L98 (x2 : Int64) (t0_0 : Int32) (t0_1 : Int32) (t0_2 : Int32) (t0_3 : Int32) (t0_4 : Int64) (t0_5 : Int32) (t0_6 : Int32) (t0_7 : Int64) (t0_8 : Int32) (t0_9 : Int64) (t0_10 : Int32) (lx21 : Int32) (p72 : (Int32 × Int32 × Int32 × Int32 × Int64 × Int32 × Int32 × Int64 × Int32 × Int64 × Int32)) (y38 : Int32) (y39 : Int32) (y40 : Int32) (y41 : Int32) (y42 : Int64) (y43 : Int32) (y44 : Int32) (y45 : Int64) (y46 : Int32) (y47 : Int64) (y48 : Int32) (lx90 : Int64) : Nat → Int32 → Int64 → (Int64 × Int32 × Int32 × Int32 × Int32 × Int64 × Int32 × Int32 × Int64 × Int32 × Int64 × Int32)
  | 0, _, _ => default
  | fm + 1, lx115, lx116 => if (0 : Int32) ≤ (lg_cmp lx116 4503599627370496 : Int32) then (((lx90 ||| (((((lx115 + 1075 : Int32).toInt64 : Int64) <<< ((52 : Int32).toInt64 &&& 63) : Int64) + lx116 : Int64) - 4503599627370496 : Int64) : Int64), y38, y39, y40, y41, y42, y43, y44, y45, y46, y47, y48)) else (F_FR_widened_L98 x2 t0_0 t0_1 t0_2 t0_3 t0_4 t0_5 t0_6 t0_7 t0_8 t0_9 t0_10 lx21 p72 y38 y39 y40 y41 y42 y43 y44 y45 y46 y47 y48 lx90 fm (lx115 + (-1) : Int32) (lx116 <<< ((1 : Int32).toInt64 &&& 63) : Int64))
def F_FR_widened_J46 (x2 : Int64) (t0_0 : Int32) (t0_1 : Int32) (t0_2 : Int32) (t0_3 : Int32) (t0_4 : Int64) (t0_5 : Int32) (t0_6 : Int32) (t0_7 : Int64) (t0_8 : Int32) (t0_9 : Int64) (t0_10 : Int32) (lx21 : Int32) (p72 : (Int32 × Int32 × Int32 × Int32 × Int64 × Int32 × Int32 × Int64 × Int32 × Int64 × Int32)) (y38 : Int32) (y39 : Int32) (y40 : Int32) (y41 : Int32) (y42 : Int64) (y43 : Int32) (y44 : Int32) (y45 : Int64) (y46 : Int32) (y47 : Int64) (y48 : Int32) (lx90 : Int64) : Int64 × Int32 × Int32 × Int32 × Int32 × Int64 × Int32 × Int32 × Int64 × Int32 × Int64 × Int32 := if ((F_FR_isFinite y38 y39 y40 y41 y42 y43 y44 y45 y46 y47 y48) : Int32) = (0 : Int32) then (if (lg_cmp y42 0 : Int32) = (0 : Int32) then (((lx90 ||| 9218868437227405312 : Int64), y38, y39, y40, y41, y42, y43, y44, y45, y46, y47, y48)) else (((9221120237041090560 : Int64), y38, y39, y40, y41, y42, y43, y44, y45, y46, y47, y48))) else (if (lg_cmp y45 0 : Int32) = (0 : Int32) then ((lx90, y38, y39, y40, y41, y42, y43, y44, y45, y46, y47, y48)) else (F_FR_widened_L98 x2 t0_0 t0_1 t0_2 t0_3 t0_4 t0_5 t0_6 t0_7 t0_8 t0_9 t0_10 lx21 p72 y38 y39 y40 y41 y42 y43 y44 y45 y46 y47 y48 lx90 1000000 y46 y45))
def F_FR_widened_c29 (x2 : Int64) (t0_0 : Int32) (t0_1 : Int32) (t0_2 : Int32) (t0_3 : Int32) (t0_4 : Int64) (t0_5 : Int32) (t0_6 : Int32) (t0_7 : Int64) (t0_8 : Int32) (t0_9 : Int64) (t0_10 : Int32) (lx21 : Int32) (p72 : (Int32 × Int32 × Int32 × Int32 × Int64 × Int32 × Int32 × Int64 × Int32 × Int64 × Int32)) : Int64 × Int32 × Int32 × Int32 × Int32 × Int64 × Int32 × Int32 × Int64 × Int32 × Int64 × Int32 := if (p72.2.2.1 : Int32) = (0 : Int32) then (F_FR_widened_J46 x2 t0_0 t0_1 t0_2 t0_3 t0_4 t0_5 t0_6 t0_7 t0_8 t0_9 t0_10 lx21 p72 (p72.1 : Int32) (p72.2.1 : Int32) (p72.2.2.1 : Int32) (p72.2.2.2.1 : Int32) (p72.2.2.2.2.1 : Int64) (p72.2.2.2.2.2.1 : Int32) (p72.2.2.2.2.2.2.1 : Int32) (p72.2.2.2.2.2.2.2.1 : Int64) (p72.2.2.2.2.2.2.2.2.1 : Int32) (p72.2.2.2.2.2.2.2.2.2.1 : Int64) (p72.2.2.2.2.2.2.2.2.2.2 : Int32) 0) else (F_FR_widened_J46 x2 t0_0 t0_1 t0_2 t0_3 t0_4 t0_5 t0_6 t0_7 t0_8 t0_9 t0_10 lx21 p72 (p72.1 : Int32) (p72.2.1 : Int32) (p72.2.2.1 : Int32) (p72.2.2.2.1 : Int32) (p72.2.2.2.2.1 : Int64) (p72.2.2.2.2.2.1 : Int32) (p72.2.2.2.2.2.2.1 : Int32) (p72.2.2.2.2.2.2.2.1 : Int64) (p72.2.2.2.2.2.2.2.2.1 : Int32) (p72.2.2.2.2.2.2.2.2.2.1 : Int64) (p72.2.2.2.2.2.2.2.2.2.2 : Int32) (-9223372036854775808))
def F_FR_widened_J14 (x2 : Int64) (t0_0 : Int32) (t0_1 : Int32) (t0_2 : Int32) (t0_3 : Int32) (t0_4 : Int64) (t0_5 : Int32) (t0_6 : Int32) (t0_7 : Int64) (t0_8 : Int32) (t0_9 : Int64) (t0_10 : Int32) (lx21 : Int32) : Int64 × Int32 × Int32 × Int32 × Int32 × Int64 × Int32 × Int32 × Int64 × Int32 × Int64 × Int32 := if lx21 ≤ (0 : Int32) then (F_FR_widened_c29 x2 t0_0 t0_1 t0_2 t0_3 t0_4 t0_5 t0_6 t0_7 t0_8 t0_9 t0_10 lx21 ((F_FR_open x2 (1 : Int32) lx21 t0_1 t0_2 t0_3 t0_4 t0_5 t0_6 t0_7 t0_8 t0_9 t0_10) : (Int32 × Int32 × Int32 × Int32 × Int64 × Int32 × Int32 × Int64 × Int32 × Int64 × Int32))) else (((0 : Int64), lx21, t0_1, t0_2, t0_3, t0_4, t0_5, t0_6, t0_7, t0_8, t0_9, t0_10))
def F_FR_widened (x2 : Int64) (t0_0 : Int32) (t0_1 : Int32) (t0_2 : Int32) (t0_3 : Int32) (t0_4 : Int64) (t0_5 : Int32) (t0_6 : Int32) (t0_7 : Int64) (t0_8 : Int32) (t0_9 : Int64) (t0_10 : Int32) : Int64 × Int32 × Int32 × Int32 × Int32 × Int64 × Int32 × Int32 × Int64 × Int32 × Int64 × Int32 := if ((F_FR_isWrong x2 (1 : Int32)) : Int32) = (0 : Int32) then (F_FR_widened_J14 x2 t0_0 t0_1 t0_2 t0_3 t0_4 t0_5 t0_6 t0_7 t0_8 t0_9 t0_10 0) else (F_FR_widened_J14 x2 t0_0 t0_1 t0_2 t0_3 t0_4 t0_5 t0_6 t0_7 t0_8 t0_9 t0_10 1)
def S_FR_widened_L98 (x2 : Int64) (t0_0 : Int32) (t0_1 : Int32) (t0_2 : Int32) (t0_3 : Int32) (t0_4 : Int64) (t0_5 : Int32) (t0_6 : Int32) (t0_7 : Int64) (t0_8 : Int32) (t0_9 : Int64) (t0_10 : Int32) (lx21 : Int32) (p72 : (Int32 × Int32 × Int32 × Int32 × Int64 × Int32 × Int32 × Int64 × Int32 × Int64 × Int32)) (y38 : Int32) (y39 : Int32) (y40 : Int32) (y41 : Int32) (y42 : Int64) (y43 : Int32) (y44 : Int32) (y45 : Int64) (y46 : Int32) (y47 : Int64) (y48 : Int32) (lx90 : Int64) : Nat → Int32 → Int64 → Prop
  | 0, _, _ => False
  | fm + 1, lx115, lx116 => if (0 : Int32) ≤ (lg_cmp lx116 4503599627370496 : Int32) then (True) else (S_FR_widened_L98 x2 t0_0 t0_1 t0_2 t0_3 t0_4 t0_5 t0_6 t0_7 t0_8 t0_9 t0_10 lx21 p72 y38 y39 y40 y41 y42 y43 y44 y45 y46 y47 y48 lx90 fm (lx115 + (-1) : Int32) (lx116 <<< ((1 : Int32).toInt64 &&& 63) : Int64))
def S_FR_widened_J46 (x2 : Int64) (t0_0 : Int32) (t0_1 : Int32) (t0_2 : Int32) (t0_3 : Int32) (t0_4 : Int64) (t0_5 : Int32) (t0_6 : Int32) (t0_7 : Int64) (t0_8 : Int32) (t0_9 : Int64) (t0_10 : Int32) (lx21 : Int32) (p72 : (Int32 × Int32 × Int32 × Int32 × Int64 × Int32 × Int32 × Int64 × Int32 × Int64 × Int32)) (y38 : Int32) (y39 : Int32) (y40 : Int32) (y41 : Int32) (y42 : Int64) (y43 : Int32) (y44 : Int32) (y45 : Int64) (y46 : Int32) (y47 : Int64) (y48 : Int32) (lx90 : Int64) : Prop := if ((F_FR_isFinite y38 y39 y40 y41 y42 y43 y44 y45 y46 y47 y48) : Int32) = (0 : Int32) then (if (lg_cmp y42 0 : Int32) = (0 : Int32) then (True) else (True)) else (if (lg_cmp y45 0 : Int32) = (0 : Int32) then (True) else (S_FR_widened_L98 x2 t0_0 t0_1 t0_2 t0_3 t0_4 t0_5 t0_6 t0_7 t0_8 t0_9 t0_10 lx21 p72 y38 y39 y40 y41 y42 y43 y44 y45 y46 y47 y48 lx90 1000000 y46 y45))
def S_FR_widened_c29 (x2 : Int64) (t0_0 : Int32) (t0_1 : Int32) (t0_2 : Int32) (t0_3 : Int32) (t0_4 : Int64) (t0_5 : Int32) (t0_6 : Int32) (t0_7 : Int64) (t0_8 : Int32) (t0_9 : Int64) (t0_10 : Int32) (lx21 : Int32) (p72 : (Int32 × Int32 × Int32 × Int32 × Int64 × Int32 × Int32 × Int64 × Int32 × Int64 × Int32)) : Prop := if (p72.2.2.1 : Int32) = (0 : Int32) then (S_FR_widened_J46 x2 t0_0 t0_1 t0_2 t0_3 t0_4 t0_5 t0_6 t0_7 t0_8 t0_9 t0_10 lx21 p72 (p72.1 : Int32) (p72.2.1 : Int32) (p72.2.2.1 : Int32) (p72.2.2.2.1 : Int32) (p72.2.2.2.2.1 : Int64) (p72.2.2.2.2.2.1 : Int32) (p72.2.2.2.2.2.2.1 : Int32) (p72.2.2.2.2.2.2.2.1 : Int64) (p72.2.2.2.2.2.2.2.2.1 : Int32) (p72.2.2.2.2.2.2.2.2.2.1 : Int64) (p72.2.2.2.2.2.2.2.2.2.2 : Int32) 0) else (S_FR_widened_J46 x2 t0_0 t0_1 t0_2 t0_3 t0_4 t0_5 t0_6 t0_7 t0_8 t0_9 t0_10 lx21 p72 (p72.1 : Int32) (p72.2.1 : Int32) (p72.2.2.1 : Int32) (p72.2.2.2.1 : Int32) (p72.2.2.2.2.1 : Int64) (p72.2.2.2.2.2.1 : Int32) (p72.2.2.2.2.2.2.1 : Int32) (p72.2.2.2.2.2.2.2.1 : Int64) (p72.2.2.2.2.2.2.2.2.1 : Int32) (p72.2.2.2.2.2.2.2.2.2.1 : Int64) (p72.2.2.2.2.2.2.2.2.2.2 : Int32) (-9223372036854775808))
def S_FR_widened_J14 (x2 : Int64) (t0_0 : Int32) (t0_1 : Int32) (t0_2 : Int32) (t0_3 : Int32) (t0_4 : Int64) (t0_5 : Int32) (t0_6 : Int32) (t0_7 : Int64) (t0_8 : Int32) (t0_9 : Int64) (t0_10 : Int32) (lx21 : Int32) : Prop := if lx21 ≤ (0 : Int32) then (S_FR_widened_c29 x2 t0_0 t0_1 t0_2 t0_3 t0_4 t0_5 t0_6 t0_7 t0_8 t0_9 t0_10 lx21 ((F_FR_open x2 (1 : Int32) lx21 t0_1 t0_2 t0_3 t0_4 t0_5 t0_6 t0_7 t0_8 t0_9 t0_10) : (Int32 × Int32 × Int32 × Int32 × Int64 × Int32 × Int32 × Int64 × Int32 × Int64 × Int32))) else (True)
def S_FR_widened (x2 : Int64) (t0_0 : Int32) (t0_1 : Int32) (t0_2 : Int32) (t0_3 : Int32) (t0_4 : Int64) (t0_5 : Int32) (t0_6 : Int32) (t0_7 : Int64) (t0_8 : Int32) (t0_9 : Int64) (t0_10 : Int32) : Prop := if ((F_FR_isWrong x2 (1 : Int32)) : Int32) = (0 : Int32) then (S_FR_widened_J14 x2 t0_0 t0_1 t0_2 t0_3 t0_4 t0_5 t0_6 t0_7 t0_8 t0_9 t0_10 0) else (S_FR_widened_J14 x2 t0_0 t0_1 t0_2 t0_3 t0_4 t0_5 t0_6 t0_7 t0_8 t0_9 t0_10 1)
set_option maxRecDepth 100000 in
set_option maxHeartbeats 4000000 in
theorem X_FR_widened (l : Launch) (D : va_G) (g : Nat → ClassId) (q : Nat → Nat) (ws : va_W) (x2 : Int64) (hI : q_I (msh g q) q ws) (t0_0 : Int32) (t0_1 : Int32) (t0_2 : Int32) (t0_3 : Int32) (t0_4 : Int64) (t0_5 : Int32) (t0_6 : Int32) (t0_7 : Int64) (t0_8 : Int32) (t0_9 : Int64) (t0_10 : Int32) (hT0 : ws[145]? = (some (q 145, .inr (15, [.int t0_0, .ref (q 146), .ref (q 147), .ref (q 148), .ref (q 149), .ref (q 150), .ref (q 151), .ref (q 152), .int t0_1, .int t0_2, .int t0_3, .long t0_4, .int t0_5, .int t0_6, .long t0_7, .int t0_8, .long t0_9, .int t0_10])) : Option (Nat × va_E))) (hS : True ∧ S_FR_widened x2 t0_0 t0_1 t0_2 t0_3 t0_4 t0_5 t0_6 t0_7 t0_8 t0_9 t0_10) : q_mL l y_FR_widened prog_17_method_37_code 8 2 0 0 D g [.ref (q 145), .long x2] ws (fun r u => q_I (msh g q) q u ∧ q_un ws u [145] ∧ ∃ (u0_0 : Int32) (u0_1 : Int32) (u0_2 : Int32) (u0_3 : Int32) (u0_4 : Int64) (u0_5 : Int32) (u0_6 : Int32) (u0_7 : Int64) (u0_8 : Int32) (u0_9 : Int64) (u0_10 : Int32), u[145]? = (some (q 145, .inr (15, [.int u0_0, .ref (q 146), .ref (q 147), .ref (q 148), .ref (q 149), .ref (q 150), .ref (q 151), .ref (q 152), .int u0_1, .int u0_2, .int u0_3, .long u0_4, .int u0_5, .int u0_6, .long u0_7, .int u0_8, .long u0_9, .int u0_10])) : Option (Nat × va_E)) ∧ (0 ≤ u0_0.toInt) ∧ (u0_0.toInt ≤ 1) ∧ (0 ≤ u0_2.toInt) ∧ (u0_2.toInt ≤ 1) ∧ (t0_1.toInt ≤ u0_1.toInt) ∧ (u0_1.toInt ≤ t0_1.toInt) ∧ (t0_9.toInt ≤ u0_9.toInt) ∧ (u0_9.toInt ≤ t0_9.toInt) ∧ (t0_10.toInt ≤ u0_10.toInt) ∧ (u0_10.toInt ≤ t0_10.toInt) ∧ (r, u0_0, u0_1, u0_2, u0_3, u0_4, u0_5, u0_6, u0_7, u0_8, u0_9, u0_10) = (F_FR_widened x2 t0_0 t0_1 t0_2 t0_3 t0_4 t0_5 t0_6 t0_7 t0_8 t0_9 t0_10)) := by
  intro sz
  refine q_into (by decide) (Nat.le_of_ble_eq_true rfl) ?_
  intro p e s m below meth c ls hsz C0 V hl
  have hx := C0.1
  have hb := C0.2.1
  have btt0_2 := n_w145 hI hT0
  replace btt0_2 : q_F (0 ≤ t0_2.toInt ∧ t0_2.toInt ≤ 1) := btt0_2
  have hF : q_un ws ws [145] := q_u0
  have hl : lv_has ls 8 [(0, .ref (q 145)), (1, .long x2)] := hl
  refine lv_aload_n hx hb d_17_37_0 rfl (lv_at hl 0 rfl) ?_
  refine lv_lload_n hx hb d_17_37_1 rfl (lv_at hl 1 rfl) ?_
  refine lv_iconst (v := 1) hx hb d_17_37_2 (by decide) ?_
  refine q_goi V (q_runS (As := [.long x2, .int 1]) (rest := [.ref (q 145)]) (d := 1) (mc := 0) (ms := 0) C0 V rfl LS_FR_122 (X_FR_isWrong l D g q ws  x2 1 hI  ⟨(by have y0 : (1 : Int32).toInt = 1 := rfl; omega), (by have y0 : (1 : Int32).toInt = 1 := rfl; omega)⟩ _) rfl hl.1 rfl (Nat.le_of_ble_eq_true rfl) ⟨by decide, by decide⟩ ⟨Nat.le_of_ble_eq_true rfl, Nat.le_of_ble_eq_true rfl⟩ d_17_37_3) (fun a16 u14 H locs hp15 V => ?_)
  obtain ⟨rfl, b17, b18, hE19⟩ := hp15
  have e20 : a16 = (F_FR_isWrong x2 (1 : Int32)) := hE19
  clear b17
  clear b18
  refine q_join (X := Int32) (fun z H locs ls _ => q_F (0 ≤ z.toInt) ∧ q_F (z.toInt ≤ 1) ∧ q_Wd D g (va_A ws sz) s ws H locs ∧ lv_has ls 8 [(0, .ref (q 145)), (1, .long x2)] ∧ F_FR_widened_J14 x2 t0_0 t0_1 t0_2 t0_3 t0_4 t0_5 t0_6 t0_7 t0_8 t0_9 t0_10 z = (F_FR_widened x2 t0_0 t0_1 t0_2 t0_3 t0_4 t0_5 t0_6 t0_7 t0_8 t0_9 t0_10) ∧ True ∧ S_FR_widened_J14 x2 t0_0 t0_1 t0_2 t0_3 t0_4 t0_5 t0_6 t0_7 t0_8 t0_9 t0_10 z) (fun z => [.int z, .ref (q 145)]) 14 0 0 ?_ ?_
  ·
    rintro lx21 H locs ls _ hZ9
    obtain ⟨i24, hZ9⟩ := hZ9
    obtain ⟨i25, hZ9⟩ := hZ9
    obtain ⟨V, hZ9⟩ := hZ9
    obtain ⟨hl, hZ9⟩ := hZ9
    obtain ⟨hR26, hS27⟩ := hZ9
    replace i24 : q_F (0 ≤ lx21.toInt) := i24
    replace i25 : q_F (lx21.toInt ≤ 1) := i25
    replace hl : lv_has ls 8 [(0, .ref (q 145)), (1, .long x2)] := hl
    refine q_put (ci := 15) (j := 0) (v := .int lx21) (ty := .int) C0 V i_FR o_FR n_FR rfl rfl hT0 (by decide) w_2074 rfl rfl rfl rfl (Nat.le_of_ble_eq_true rfl) d_17_37_14 (fun H locs w31 hu32 hT0 V => ?_)
    replace hT0 : w31[145]? = (some (q 145, .inr (15, [.int lx21, .ref (q 146), .ref (q 147), .ref (q 148), .ref (q 149), .ref (q 150), .ref (q 151), .ref (q 152), .int t0_1, .int t0_2, .int t0_3, .long t0_4, .int t0_5, .int t0_6, .long t0_7, .int t0_8, .long t0_9, .int t0_10])) : Option (Nat × va_E)) := hT0
    replace hI := n_p145 hI hu32 hT0 (by first | with_reducible exact q_fe btt0_2 | exact ⟨(by have t1 : 0 ≤ t0_2.toInt ∧ t0_2.toInt ≤ 1 := btt0_2; omega), (by have t1 : 0 ≤ t0_2.toInt ∧ t0_2.toInt ≤ 1 := btt0_2; omega)⟩)
    replace hF := q_us hF hu32 (by simp)
    refine lv_aload_n hx hb d_17_37_17 rfl (lv_at hl 0 rfl) ?_
    refine q_get (ci := 15) (j := 0) (v := .int lx21) C0 V i_FR rfl rfl hT0 (by decide) w_2074 rfl d_17_37_18 ?_
    refine lv_if_le (tgt := 26) hx hb d_17_37_21 (by decide) (fun c33 => ?_) (fun c33 => ?_)
    ·
      refine lv_aload_n hx hb d_17_37_26 rfl (lv_at hl 0 rfl) ?_
      refine lv_lload_n hx hb d_17_37_27 rfl (lv_at hl 1 rfl) ?_
      refine lv_iconst (v := 1) hx hb d_17_37_28 (by decide) ?_
      refine q_gov V (q_runV (As := [.long x2, .int 1]) (rest := []) (d := 1) (mc := 0) (ms := 0) (ci := 15) C0 V rfl LV_FR_126 (X_FR_open l D g q w31  x2 1 hI lx21 t0_1 t0_2 t0_3 t0_4 t0_5 t0_6 t0_7 t0_8 t0_9 t0_10 hT0 ⟨(by have y0 : (1 : Int32).toInt = 1 := rfl; omega), (by have y0 : (1 : Int32).toInt = 1 := rfl; omega)⟩ _) rfl rfl hT0 rfl hl.1 rfl (Nat.le_of_ble_eq_true rfl) ⟨by decide, by decide⟩ ⟨Nat.le_of_ble_eq_true rfl, Nat.le_of_ble_eq_true rfl⟩ d_17_37_29) (fun u35 H locs hp36 V => ?_)
      obtain ⟨hI, hZ9⟩ := hp36
      obtain ⟨hu71, hZ9⟩ := hZ9
      obtain ⟨y38, hZ9⟩ := hZ9
      obtain ⟨y39, hZ9⟩ := hZ9
      obtain ⟨y40, hZ9⟩ := hZ9
      obtain ⟨y41, hZ9⟩ := hZ9
      obtain ⟨y42, hZ9⟩ := hZ9
      obtain ⟨y43, hZ9⟩ := hZ9
      obtain ⟨y44, hZ9⟩ := hZ9
      obtain ⟨y45, hZ9⟩ := hZ9
      obtain ⟨y46, hZ9⟩ := hZ9
      obtain ⟨y47, hZ9⟩ := hZ9
      obtain ⟨y48, hZ9⟩ := hZ9
      obtain ⟨hO37, hZ9⟩ := hZ9
      obtain ⟨b49, hZ9⟩ := hZ9
      obtain ⟨b50, hZ9⟩ := hZ9
      replace hZ9 := hZ9.2.2.2.2.2
      obtain ⟨b56, hZ9⟩ := hZ9
      obtain ⟨b57, hZ9⟩ := hZ9
      obtain ⟨b58, hZ9⟩ := hZ9
      obtain ⟨b59, hZ9⟩ := hZ9
      replace hZ9 := hZ9.2.2
      obtain ⟨b62, hZ9⟩ := hZ9
      obtain ⟨b63, hZ9⟩ := hZ9
      obtain ⟨b64, hZ9⟩ := hZ9
      obtain ⟨b65, hZ9⟩ := hZ9
      replace hZ9 := hZ9.2.2.2
      obtain ⟨-, hE70⟩ := hZ9
      replace hO37 : u35[145]? = (some (q 145, .inr (15, [.int y38, .ref (q 146), .ref (q 147), .ref (q 148), .ref (q 149), .ref (q 150), .ref (q 151), .ref (q 152), .int y39, .int y40, .int y41, .long y42, .int y43, .int y44, .long y45, .int y46, .long y47, .int y48])) : Option (Nat × va_E)) := hO37
      obtain ⟨p72, e73⟩ : ∃ z, z = (F_FR_open x2 (1 : Int32) lx21 t0_1 t0_2 t0_3 t0_4 t0_5 t0_6 t0_7 t0_8 t0_9 t0_10) := ⟨_, rfl⟩
      have e74 : y38 = p72.1 := congrArg (fun z => z.1) (hE70.trans e73.symm)
      have e75 : y39 = p72.2.1 := congrArg (fun z => z.2.1) (hE70.trans e73.symm)
      have e76 : y40 = p72.2.2.1 := congrArg (fun z => z.2.2.1) (hE70.trans e73.symm)
      have e77 : y41 = p72.2.2.2.1 := congrArg (fun z => z.2.2.2.1) (hE70.trans e73.symm)
      have e78 : y42 = p72.2.2.2.2.1 := congrArg (fun z => z.2.2.2.2.1) (hE70.trans e73.symm)
      have e79 : y43 = p72.2.2.2.2.2.1 := congrArg (fun z => z.2.2.2.2.2.1) (hE70.trans e73.symm)
      have e80 : y44 = p72.2.2.2.2.2.2.1 := congrArg (fun z => z.2.2.2.2.2.2.1) (hE70.trans e73.symm)
      have e81 : y45 = p72.2.2.2.2.2.2.2.1 := congrArg (fun z => z.2.2.2.2.2.2.2.1) (hE70.trans e73.symm)
      have e82 : y46 = p72.2.2.2.2.2.2.2.2.1 := congrArg (fun z => z.2.2.2.2.2.2.2.2.1) (hE70.trans e73.symm)
      have e83 : y47 = p72.2.2.2.2.2.2.2.2.2.1 := congrArg (fun z => z.2.2.2.2.2.2.2.2.2.1) (hE70.trans e73.symm)
      have e84 : y48 = p72.2.2.2.2.2.2.2.2.2.2 := congrArg (fun z => z.2.2.2.2.2.2.2.2.2.2) (hE70.trans e73.symm)
      replace b49 : q_F (0 ≤ y40.toInt) := b49
      replace b50 : q_F (y40.toInt ≤ 1) := b50
      replace b56 : q_F (lx21.toInt ≤ y38.toInt) := b56
      replace b57 : q_F (y38.toInt ≤ lx21.toInt) := b57
      replace b58 : q_F (t0_1.toInt ≤ y39.toInt) := b58
      replace b59 : q_F (y39.toInt ≤ t0_1.toInt) := b59
      replace b62 : q_F (t0_9.toInt ≤ y47.toInt) := b62
      replace b63 : q_F (y47.toInt ≤ t0_9.toInt) := b63
      replace b64 : q_F (t0_10.toInt ≤ y48.toInt) := b64
      replace b65 : q_F (y48.toInt ≤ t0_10.toInt) := b65
      replace hF := q_uc hF hu71 (by simp)
      have hR85 := (show F_FR_widened_c29 x2 t0_0 t0_1 t0_2 t0_3 t0_4 t0_5 t0_6 t0_7 t0_8 t0_9 t0_10 lx21 p72 = (F_FR_widened x2 t0_0 t0_1 t0_2 t0_3 t0_4 t0_5 t0_6 t0_7 t0_8 t0_9 t0_10) from Eq.trans (by rw [e73, F_FR_widened_J14.eq_1, if_pos c33]) hR26)
      have hS86 := (show True ∧ S_FR_widened_c29 x2 t0_0 t0_1 t0_2 t0_3 t0_4 t0_5 t0_6 t0_7 t0_8 t0_9 t0_10 lx21 p72 from (by rw [e73]; have h := hS27; rw [S_FR_widened_J14.eq_1] at h; rw [if_pos c33] at h; with_reducible exact h))
      refine lv_aload_n hx hb d_17_37_32 rfl (lv_at hl 0 rfl) ?_
      refine q_get (ci := 15) (j := 9) (v := .int y40) C0 V i_FR rfl rfl hO37 (by decide) w_2085 rfl d_17_37_33 ?_
      refine q_join (X := Int64) (fun z H locs ls _ => q_F (z.toInt ≤ 0) ∧ q_Wd D g (va_A ws sz) s u35 H locs ∧ lv_has ls 8 [(0, .ref (q 145))] ∧ F_FR_widened_J46 x2 t0_0 t0_1 t0_2 t0_3 t0_4 t0_5 t0_6 t0_7 t0_8 t0_9 t0_10 lx21 p72 y38 y39 y40 y41 y42 y43 y44 y45 y46 y47 y48 z = (F_FR_widened x2 t0_0 t0_1 t0_2 t0_3 t0_4 t0_5 t0_6 t0_7 t0_8 t0_9 t0_10) ∧ True ∧ S_FR_widened_J46 x2 t0_0 t0_1 t0_2 t0_3 t0_4 t0_5 t0_6 t0_7 t0_8 t0_9 t0_10 lx21 p72 y38 y39 y40 y41 y42 y43 y44 y45 y46 y47 y48 z) (fun z => [.long z]) 46 0 0 ?_ ?_
      ·
        rintro lx90 H locs ls _ ⟨i93, V, hl, hR94, hS95⟩
        clear i93
        replace hl : lv_has ls 8 [(0, .ref (q 145))] := hl
        refine lv_lstore_n (lv' := [(3, .long lx90), (0, .ref (q 145))]) hx hb d_17_37_46 rfl hl (by decide) rfl (fun ls hl => ?_)
        refine lv_aload_n hx hb d_17_37_47 rfl (lv_at hl 1 rfl) ?_
        refine q_goi V (q_runV (As := []) (rest := []) (d := 1) (mc := 0) (ms := 0) (ci := 15) C0 V rfl LV_FR_130 (X_FR_isFinite l D g q u35   hI y38 y39 y40 y41 y42 y43 y44 y45 y46 y47 y48 hO37  _) rfl rfl hO37 rfl hl.1 rfl (Nat.le_of_ble_eq_true rfl) ⟨by decide, by decide⟩ ⟨Nat.le_of_ble_eq_true rfl, Nat.le_of_ble_eq_true rfl⟩ d_17_37_48) (fun a101 u99 H locs hp100 V => ?_)
        obtain ⟨rfl, b102, b103, hE104⟩ := hp100
        have e105 : a101 = (F_FR_isFinite y38 y39 y40 y41 y42 y43 y44 y45 y46 y47 y48) := hE104
        clear b102
        clear b103
        refine lv_if_ne (tgt := 75) hx hb d_17_37_51 (by decide) (fun c106 => ?_) (fun c106 => ?_)
        ·
          refine lv_aload_n hx hb d_17_37_75 rfl (lv_at hl 1 rfl) ?_
          refine q_get (ci := 15) (j := 14) (v := .long y45) C0 V i_FR rfl rfl hO37 (by decide) w_2090 rfl d_17_37_76 ?_
          refine lv_lconst (v := 0) hx hb d_17_37_79 (by decide) ?_
          refine W.lcmp hx hb d_17_37_80 ?_
          obtain ⟨a108, e109⟩ := q_nm (lg_cmp y45 0 : Int32)
          refine q_ti (v := a108) e109 ?_
          refine lv_if_ne (tgt := 86) hx hb d_17_37_81 (by decide) (fun c111 => ?_) (fun c111 => ?_)
          ·
            refine lv_aload_n hx hb d_17_37_86 rfl (lv_at hl 1 rfl) ?_
            refine q_get (ci := 15) (j := 14) (v := .long y45) C0 V i_FR rfl rfl hO37 (by decide) w_2090 rfl d_17_37_87 ?_
            refine lv_lstore (lv' := [(5, .long y45), (3, .long lx90), (0, .ref (q 145))]) hx hb d_17_37_90 hl (by decide) rfl (fun ls hl => ?_)
            refine lv_aload_n hx hb d_17_37_92 rfl (lv_at hl 2 rfl) ?_
            refine q_get (ci := 15) (j := 15) (v := .int y46) C0 V i_FR rfl rfl hO37 (by decide) w_2091 rfl d_17_37_93 ?_
            refine lv_istore (lv' := [(7, .int y46), (5, .long y45), (3, .long lx90), (0, .ref (q 145))]) hx hb d_17_37_96 hl (by decide) rfl (fun ls hl => ?_)
            refine q_loop (X := Nat × Int32 × Int64) (fun z H locs ls _ => q_Wd D g (va_A ws sz) s u35 H locs ∧ lv_has ls 8 [(7, .int z.2.1), (5, .long z.2.2), (3, .long lx90)] ∧ F_FR_widened_L98 x2 t0_0 t0_1 t0_2 t0_3 t0_4 t0_5 t0_6 t0_7 t0_8 t0_9 t0_10 lx21 p72 y38 y39 y40 y41 y42 y43 y44 y45 y46 y47 y48 lx90 z.1 z.2.1 z.2.2 = (F_FR_widened x2 t0_0 t0_1 t0_2 t0_3 t0_4 t0_5 t0_6 t0_7 t0_8 t0_9 t0_10) ∧ True ∧ S_FR_widened_L98 x2 t0_0 t0_1 t0_2 t0_3 t0_4 t0_5 t0_6 t0_7 t0_8 t0_9 t0_10 lx21 p72 y38 y39 y40 y41 y42 y43 y44 y45 y46 y47 y48 lx90 z.1 z.2.1 z.2.2) (fun z => z.1) ?_ ((1000000 : Nat), (y46 : Int32), (y45 : Int64)) _ _ _ u35 ⟨V, q_lw hl (q_lw1 0 rfl (q_lw1 1 rfl (q_lw1 2 rfl q_lw0))), (show F_FR_widened_L98 x2 t0_0 t0_1 t0_2 t0_3 t0_4 t0_5 t0_6 t0_7 t0_8 t0_9 t0_10 lx21 p72 y38 y39 y40 y41 y42 y43 y44 y45 y46 y47 y48 lx90 1000000 y46 y45 = (F_FR_widened x2 t0_0 t0_1 t0_2 t0_3 t0_4 t0_5 t0_6 t0_7 t0_8 t0_9 t0_10) from Eq.trans (by have c106x := c106; rw [e105] at c106x; have c111x := c111; rw [← e109] at c111x; rw [F_FR_widened_J46.eq_1, if_neg c106x, if_neg c111x]) hR94), (show True ∧ S_FR_widened_L98 x2 t0_0 t0_1 t0_2 t0_3 t0_4 t0_5 t0_6 t0_7 t0_8 t0_9 t0_10 lx21 p72 y38 y39 y40 y41 y42 y43 y44 y45 y46 y47 y48 lx90 1000000 y46 y45 from (by have h := hS95; rw [S_FR_widened_J46.eq_1] at h; have c106x := c106; rw [e105] at c106x; rw [if_neg c106x] at h; have c111x := c111; rw [← e109] at c111x; rw [if_neg c111x] at h; with_reducible exact h))⟩
            rintro ⟨fu120, lx115, lx116⟩ H locs ls _ ⟨V, hl, hR118, hS119⟩ ih117
            obtain ⟨fm122, rfl⟩ : ∃ m, fu120 = m + 1 := Nat.exists_eq_succ_of_ne_zero (fun e => by subst e; rw [S_FR_widened_L98.eq_1] at hS119; exact hS119.2)
            replace hl : lv_has ls 8 [(7, .int lx115), (5, .long lx116), (3, .long lx90)] := hl
            refine lv_lload hx hb d_17_37_98 (lv_at hl 1 rfl) ?_
            refine q_ldc2 C0 rfl w_2946 d_17_37_100 ?_
            refine W.lcmp hx hb d_17_37_103 ?_
            obtain ⟨a123, e124⟩ := q_nm (lg_cmp lx116 4503599627370496 : Int32)
            refine q_ti (v := a123) e124 ?_
            refine lv_if_ge (tgt := 119) hx hb d_17_37_104 (by decide) (fun c126 => ?_) (fun c126 => ?_)
            ·
              refine lv_lload_n hx hb d_17_37_119 rfl (lv_at hl 2 rfl) ?_
              refine lv_iload hx hb d_17_37_120 (lv_at hl 0 rfl) ?_
              refine lv_sipush (v := 1075) hx hb d_17_37_122 (by decide) ?_
              refine lv_iadd hx hb d_17_37_125 ?_
              obtain ⟨a128, e129⟩ := q_nm (lx115 + 1075 : Int32)
              refine q_ti (v := a128) e129 ?_
              refine lv_i2l hx hb d_17_37_126 rfl ?_
              obtain ⟨j130, e131⟩ := q_nm (a128.toInt64 : Int64)
              refine q_tl (v := j130) e131 ?_
              refine lv_bipush (v := 52) hx hb d_17_37_127 (by decide) ?_
              refine lv_lshl hx hb d_17_37_129 rfl ?_
              obtain ⟨j133, e134⟩ := q_nm (j130 <<< ((52 : Int32).toInt64 &&& 63) : Int64)
              refine q_tl (v := j133) e134 ?_
              refine lv_lload hx hb d_17_37_130 (lv_at hl 1 rfl) ?_
              refine lv_ladd hx hb d_17_37_132 ?_
              obtain ⟨j135, e136⟩ := q_nm (j133 + lx116 : Int64)
              refine q_tl (v := j135) e136 ?_
              refine q_ldc2 C0 rfl w_2946 d_17_37_133 ?_
              refine lv_lsub hx hb d_17_37_136 ?_
              obtain ⟨j137, e138⟩ := q_nm (j135 - 4503599627370496 : Int64)
              refine q_tl (v := j137) e138 ?_
              refine lv_lor hx hb d_17_37_137 ?_
              obtain ⟨j139, e140⟩ := q_nm (lx90 ||| j137 : Int64)
              refine q_tl (v := j139) e140 ?_
              exact q_retl C0 V (⟨hI, hF, y38, y39, y40, y41, y42, y43, y44, y45, y46, y47, y48, hO37, (show 0 ≤ y38.toInt from (by have t1 : 0 ≤ lx21.toInt := i24; have t2 : lx21.toInt ≤ y38.toInt := b56; omega)), (show y38.toInt ≤ 1 from (by have t1 : lx21.toInt ≤ 1 := i25; have t2 : y38.toInt ≤ lx21.toInt := b57; omega)), (show 0 ≤ y40.toInt from (by first | with_reducible exact q_fe b49 | (have t1 : 0 ≤ y40.toInt := b49; omega))), (show y40.toInt ≤ 1 from (by first | with_reducible exact q_fe b50 | (have t1 : y40.toInt ≤ 1 := b50; omega))), (show t0_1.toInt ≤ y39.toInt from (by first | with_reducible exact q_fe b58 | (have t1 : t0_1.toInt ≤ y39.toInt := b58; omega))), (show y39.toInt ≤ t0_1.toInt from (by first | with_reducible exact q_fe b59 | (have t1 : y39.toInt ≤ t0_1.toInt := b59; omega))), (show t0_9.toInt ≤ y47.toInt from (by first | with_reducible exact q_fe b62 | (have t1 : t0_9.toInt ≤ y47.toInt := b62; omega))), (show y47.toInt ≤ t0_9.toInt from (by first | with_reducible exact q_fe b63 | (have t1 : y47.toInt ≤ t0_9.toInt := b63; omega))), (show t0_10.toInt ≤ y48.toInt from (by first | with_reducible exact q_fe b64 | (have t1 : t0_10.toInt ≤ y48.toInt := b64; omega))), (show y48.toInt ≤ t0_10.toInt from (by first | with_reducible exact q_fe b65 | (have t1 : y48.toInt ≤ t0_10.toInt := b65; omega))), (show (j139, y38, y39, y40, y41, y42, y43, y44, y45, y46, y47, y48) = (F_FR_widened x2 t0_0 t0_1 t0_2 t0_3 t0_4 t0_5 t0_6 t0_7 t0_8 t0_9 t0_10) from Eq.trans (by have c126x := c126; rw [← e124] at c126x; rw [← e140, ← e138, ← e136, ← e134, ← e131, ← e129, F_FR_widened_L98.eq_2, if_pos c126x]) hR118)⟩) d_17_37_138
            ·
              refine lv_lload hx hb d_17_37_107 (lv_at hl 1 rfl) ?_
              refine lv_iconst (v := 1) hx hb d_17_37_109 (by decide) ?_
              refine lv_lshl hx hb d_17_37_110 rfl ?_
              obtain ⟨j142, e143⟩ := q_nm (lx116 <<< ((1 : Int32).toInt64 &&& 63) : Int64)
              refine q_tl (v := j142) e143 ?_
              refine lv_lstore (lv' := [(5, .long j142), (7, .int lx115), (3, .long lx90)]) hx hb d_17_37_111 hl (by decide) rfl (fun ls hl => ?_)
              obtain ⟨a144, e145⟩ := q_nm (lx115 + (-1) : Int32)
              refine lv_iinc (v := a144) (lv' := [(7, .int a144), (5, .long j142), (3, .long lx90)]) hx hb d_17_37_113 hl (k := 1) rfl (e145) (by decide) rfl (fun ls hl => ?_)
              refine lv_goto (tgt := 98) hx hb d_17_37_116 (by decide) ?_
              exact ih117 ((fm122 : Nat), (a144 : Int32), (j142 : Int64)) _ _ _ u35 (Nat.lt_succ_self _) ⟨V, q_lw hl (q_lw1 0 rfl (q_lw1 1 rfl (q_lw1 2 rfl q_lw0))), (show F_FR_widened_L98 x2 t0_0 t0_1 t0_2 t0_3 t0_4 t0_5 t0_6 t0_7 t0_8 t0_9 t0_10 lx21 p72 y38 y39 y40 y41 y42 y43 y44 y45 y46 y47 y48 lx90 fm122 a144 j142 = (F_FR_widened x2 t0_0 t0_1 t0_2 t0_3 t0_4 t0_5 t0_6 t0_7 t0_8 t0_9 t0_10) from Eq.trans (by have c126x := c126; rw [← e124] at c126x; rw [← e145, ← e143, F_FR_widened_L98.eq_2, if_neg c126x]) hR118), (show True ∧ S_FR_widened_L98 x2 t0_0 t0_1 t0_2 t0_3 t0_4 t0_5 t0_6 t0_7 t0_8 t0_9 t0_10 lx21 p72 y38 y39 y40 y41 y42 y43 y44 y45 y46 y47 y48 lx90 fm122 a144 j142 from (by rw [← e145, ← e143]; have h := hS119; rw [S_FR_widened_L98.eq_2] at h; have c126x := c126; rw [← e124] at c126x; rw [if_neg c126x] at h; with_reducible exact h))⟩
          ·
            refine lv_lload_n hx hb d_17_37_84 rfl (lv_at hl 0 rfl) ?_
            exact q_retl C0 V (⟨hI, hF, y38, y39, y40, y41, y42, y43, y44, y45, y46, y47, y48, hO37, (show 0 ≤ y38.toInt from (by have t1 : 0 ≤ lx21.toInt := i24; have t2 : lx21.toInt ≤ y38.toInt := b56; omega)), (show y38.toInt ≤ 1 from (by have t1 : lx21.toInt ≤ 1 := i25; have t2 : y38.toInt ≤ lx21.toInt := b57; omega)), (show 0 ≤ y40.toInt from (by first | with_reducible exact q_fe b49 | (have t1 : 0 ≤ y40.toInt := b49; omega))), (show y40.toInt ≤ 1 from (by first | with_reducible exact q_fe b50 | (have t1 : y40.toInt ≤ 1 := b50; omega))), (show t0_1.toInt ≤ y39.toInt from (by first | with_reducible exact q_fe b58 | (have t1 : t0_1.toInt ≤ y39.toInt := b58; omega))), (show y39.toInt ≤ t0_1.toInt from (by first | with_reducible exact q_fe b59 | (have t1 : y39.toInt ≤ t0_1.toInt := b59; omega))), (show t0_9.toInt ≤ y47.toInt from (by first | with_reducible exact q_fe b62 | (have t1 : t0_9.toInt ≤ y47.toInt := b62; omega))), (show y47.toInt ≤ t0_9.toInt from (by first | with_reducible exact q_fe b63 | (have t1 : y47.toInt ≤ t0_9.toInt := b63; omega))), (show t0_10.toInt ≤ y48.toInt from (by first | with_reducible exact q_fe b64 | (have t1 : t0_10.toInt ≤ y48.toInt := b64; omega))), (show y48.toInt ≤ t0_10.toInt from (by first | with_reducible exact q_fe b65 | (have t1 : y48.toInt ≤ t0_10.toInt := b65; omega))), (show (lx90, y38, y39, y40, y41, y42, y43, y44, y45, y46, y47, y48) = (F_FR_widened x2 t0_0 t0_1 t0_2 t0_3 t0_4 t0_5 t0_6 t0_7 t0_8 t0_9 t0_10) from Eq.trans (by have c106x := c106; rw [e105] at c106x; have c111x := c111; rw [← e109] at c111x; rw [F_FR_widened_J46.eq_1, if_neg c106x, if_pos c111x]) hR94)⟩) d_17_37_85
        ·
          refine lv_aload_n hx hb d_17_37_54 rfl (lv_at hl 1 rfl) ?_
          refine q_get (ci := 15) (j := 11) (v := .long y42) C0 V i_FR rfl rfl hO37 (by decide) w_2087 rfl d_17_37_55 ?_
          refine lv_lconst (v := 0) hx hb d_17_37_58 (by decide) ?_
          refine W.lcmp hx hb d_17_37_59 ?_
          obtain ⟨a148, e149⟩ := q_nm (lg_cmp y42 0 : Int32)
          refine q_ti (v := a148) e149 ?_
          refine lv_if_eq (tgt := 69) hx hb d_17_37_60 (by decide) (fun c151 => ?_) (fun c151 => ?_)
          ·
            refine lv_lload_n hx hb d_17_37_69 rfl (lv_at hl 0 rfl) ?_
            refine q_ldc2 C0 rfl w_2945 d_17_37_70 ?_
            refine lv_lor hx hb d_17_37_73 ?_
            obtain ⟨j153, e154⟩ := q_nm (lx90 ||| 9218868437227405312 : Int64)
            refine q_tl (v := j153) e154 ?_
            exact q_retl C0 V (⟨hI, hF, y38, y39, y40, y41, y42, y43, y44, y45, y46, y47, y48, hO37, (show 0 ≤ y38.toInt from (by have t1 : 0 ≤ lx21.toInt := i24; have t2 : lx21.toInt ≤ y38.toInt := b56; omega)), (show y38.toInt ≤ 1 from (by have t1 : lx21.toInt ≤ 1 := i25; have t2 : y38.toInt ≤ lx21.toInt := b57; omega)), (show 0 ≤ y40.toInt from (by first | with_reducible exact q_fe b49 | (have t1 : 0 ≤ y40.toInt := b49; omega))), (show y40.toInt ≤ 1 from (by first | with_reducible exact q_fe b50 | (have t1 : y40.toInt ≤ 1 := b50; omega))), (show t0_1.toInt ≤ y39.toInt from (by first | with_reducible exact q_fe b58 | (have t1 : t0_1.toInt ≤ y39.toInt := b58; omega))), (show y39.toInt ≤ t0_1.toInt from (by first | with_reducible exact q_fe b59 | (have t1 : y39.toInt ≤ t0_1.toInt := b59; omega))), (show t0_9.toInt ≤ y47.toInt from (by first | with_reducible exact q_fe b62 | (have t1 : t0_9.toInt ≤ y47.toInt := b62; omega))), (show y47.toInt ≤ t0_9.toInt from (by first | with_reducible exact q_fe b63 | (have t1 : y47.toInt ≤ t0_9.toInt := b63; omega))), (show t0_10.toInt ≤ y48.toInt from (by first | with_reducible exact q_fe b64 | (have t1 : t0_10.toInt ≤ y48.toInt := b64; omega))), (show y48.toInt ≤ t0_10.toInt from (by first | with_reducible exact q_fe b65 | (have t1 : y48.toInt ≤ t0_10.toInt := b65; omega))), (show (j153, y38, y39, y40, y41, y42, y43, y44, y45, y46, y47, y48) = (F_FR_widened x2 t0_0 t0_1 t0_2 t0_3 t0_4 t0_5 t0_6 t0_7 t0_8 t0_9 t0_10) from Eq.trans (by have c106x := c106; rw [e105] at c106x; have c151x := c151; rw [← e149] at c151x; rw [← e154, F_FR_widened_J46.eq_1, if_pos c106x, if_pos c151x]) hR94)⟩) d_17_37_74
          ·
            refine q_ldc2 C0 rfl w_2944 d_17_37_63 ?_
            refine lv_goto (tgt := 74) hx hb d_17_37_66 (by decide) ?_
            exact q_retl C0 V (⟨hI, hF, y38, y39, y40, y41, y42, y43, y44, y45, y46, y47, y48, hO37, (show 0 ≤ y38.toInt from (by have z12 : (9221120237041090560 : Int64).toInt = 9221120237041090560 := rfl; have t1 : 0 ≤ lx21.toInt := i24; have t2 : lx21.toInt ≤ y38.toInt := b56; omega)), (show y38.toInt ≤ 1 from (by have z12 : (9221120237041090560 : Int64).toInt = 9221120237041090560 := rfl; have t1 : lx21.toInt ≤ 1 := i25; have t2 : y38.toInt ≤ lx21.toInt := b57; omega)), (show 0 ≤ y40.toInt from (by have z12 : (9221120237041090560 : Int64).toInt = 9221120237041090560 := rfl; have t1 : 0 ≤ y40.toInt := b49; omega)), (show y40.toInt ≤ 1 from (by have z12 : (9221120237041090560 : Int64).toInt = 9221120237041090560 := rfl; have t1 : y40.toInt ≤ 1 := b50; omega)), (show t0_1.toInt ≤ y39.toInt from (by have z12 : (9221120237041090560 : Int64).toInt = 9221120237041090560 := rfl; have t1 : t0_1.toInt ≤ y39.toInt := b58; omega)), (show y39.toInt ≤ t0_1.toInt from (by have z12 : (9221120237041090560 : Int64).toInt = 9221120237041090560 := rfl; have t1 : y39.toInt ≤ t0_1.toInt := b59; omega)), (show t0_9.toInt ≤ y47.toInt from (by have z12 : (9221120237041090560 : Int64).toInt = 9221120237041090560 := rfl; have t1 : t0_9.toInt ≤ y47.toInt := b62; omega)), (show y47.toInt ≤ t0_9.toInt from (by have z12 : (9221120237041090560 : Int64).toInt = 9221120237041090560 := rfl; have t1 : y47.toInt ≤ t0_9.toInt := b63; omega)), (show t0_10.toInt ≤ y48.toInt from (by have z12 : (9221120237041090560 : Int64).toInt = 9221120237041090560 := rfl; have t1 : t0_10.toInt ≤ y48.toInt := b64; omega)), (show y48.toInt ≤ t0_10.toInt from (by have z12 : (9221120237041090560 : Int64).toInt = 9221120237041090560 := rfl; have t1 : y48.toInt ≤ t0_10.toInt := b65; omega)), (show ((9221120237041090560 : Int64), y38, y39, y40, y41, y42, y43, y44, y45, y46, y47, y48) = (F_FR_widened x2 t0_0 t0_1 t0_2 t0_3 t0_4 t0_5 t0_6 t0_7 t0_8 t0_9 t0_10) from Eq.trans (by have c106x := c106; rw [e105] at c106x; have c151x := c151; rw [← e149] at c151x; rw [F_FR_widened_J46.eq_1, if_pos c106x, if_neg c151x]) hR94)⟩) d_17_37_74
      ·
        intro J92
        refine lv_if_eq (tgt := 45) hx hb d_17_37_36 (by decide) (fun c156 => ?_) (fun c156 => ?_)
        ·
          refine lv_lconst (v := 0) hx hb d_17_37_45 (by decide) ?_
          exact J92 ((0 : Int64)) _ _ _ u35 ⟨(show q_F (0 ≤ 0) from (show 0 ≤ 0 from by omega)), V, q_lw hl (q_lw1 0 rfl q_lw0), (show F_FR_widened_J46 x2 t0_0 t0_1 t0_2 t0_3 t0_4 t0_5 t0_6 t0_7 t0_8 t0_9 t0_10 lx21 p72 y38 y39 y40 y41 y42 y43 y44 y45 y46 y47 y48 0 = (F_FR_widened x2 t0_0 t0_1 t0_2 t0_3 t0_4 t0_5 t0_6 t0_7 t0_8 t0_9 t0_10) from Eq.trans (by have c156x := c156; rw [e76] at c156x; rw [e84, e83, e82, e81, e80, e79, e78, e77, e76, e75, e74, F_FR_widened_c29.eq_1, if_pos c156x]) hR85), (show True ∧ S_FR_widened_J46 x2 t0_0 t0_1 t0_2 t0_3 t0_4 t0_5 t0_6 t0_7 t0_8 t0_9 t0_10 lx21 p72 y38 y39 y40 y41 y42 y43 y44 y45 y46 y47 y48 0 from (by rw [e84, e83, e82, e81, e80, e79, e78, e77, e76, e75, e74]; have h := hS86; rw [S_FR_widened_c29.eq_1] at h; have c156x := c156; rw [e76] at c156x; rw [if_pos c156x] at h; with_reducible exact h))⟩
        ·
          refine q_ldc2 C0 rfl w_2943 d_17_37_39 ?_
          refine lv_goto (tgt := 46) hx hb d_17_37_42 (by decide) ?_
          exact J92 (((-9223372036854775808) : Int64)) _ _ _ u35 ⟨(show q_F ((-9223372036854775808) ≤ 0) from (show (-9223372036854775808) ≤ 0 from by omega)), V, q_lw hl (q_lw1 0 rfl q_lw0), (show F_FR_widened_J46 x2 t0_0 t0_1 t0_2 t0_3 t0_4 t0_5 t0_6 t0_7 t0_8 t0_9 t0_10 lx21 p72 y38 y39 y40 y41 y42 y43 y44 y45 y46 y47 y48 (-9223372036854775808) = (F_FR_widened x2 t0_0 t0_1 t0_2 t0_3 t0_4 t0_5 t0_6 t0_7 t0_8 t0_9 t0_10) from Eq.trans (by have c156x := c156; rw [e76] at c156x; rw [e84, e83, e82, e81, e80, e79, e78, e77, e76, e75, e74, F_FR_widened_c29.eq_1, if_neg c156x]) hR85), (show True ∧ S_FR_widened_J46 x2 t0_0 t0_1 t0_2 t0_3 t0_4 t0_5 t0_6 t0_7 t0_8 t0_9 t0_10 lx21 p72 y38 y39 y40 y41 y42 y43 y44 y45 y46 y47 y48 (-9223372036854775808) from (by rw [e84, e83, e82, e81, e80, e79, e78, e77, e76, e75, e74]; have h := hS86; rw [S_FR_widened_c29.eq_1] at h; have c156x := c156; rw [e76] at c156x; rw [if_neg c156x] at h; with_reducible exact h))⟩
    ·
      refine lv_lconst (v := 0) hx hb d_17_37_24 (by decide) ?_
      exact q_retl C0 V (⟨hI, hF, lx21, t0_1, t0_2, t0_3, t0_4, t0_5, t0_6, t0_7, t0_8, t0_9, t0_10, hT0, (show 0 ≤ lx21.toInt from (by have z12 : (0 : Int64).toInt = 0 := rfl; have t1 : 0 ≤ lx21.toInt := i24; omega)), (show lx21.toInt ≤ 1 from (by have z12 : (0 : Int64).toInt = 0 := rfl; have t1 : lx21.toInt ≤ 1 := i25; omega)), (show 0 ≤ t0_2.toInt from (by have z12 : (0 : Int64).toInt = 0 := rfl; have t1 : 0 ≤ t0_2.toInt ∧ t0_2.toInt ≤ 1 := btt0_2; omega)), (show t0_2.toInt ≤ 1 from (by have z12 : (0 : Int64).toInt = 0 := rfl; have t1 : 0 ≤ t0_2.toInt ∧ t0_2.toInt ≤ 1 := btt0_2; omega)), (show t0_1.toInt ≤ t0_1.toInt from (by have z12 : (0 : Int64).toInt = 0 := rfl; omega)), (show t0_1.toInt ≤ t0_1.toInt from (by have z12 : (0 : Int64).toInt = 0 := rfl; omega)), (show t0_9.toInt ≤ t0_9.toInt from (by have z12 : (0 : Int64).toInt = 0 := rfl; omega)), (show t0_9.toInt ≤ t0_9.toInt from (by have z12 : (0 : Int64).toInt = 0 := rfl; omega)), (show t0_10.toInt ≤ t0_10.toInt from (by have z12 : (0 : Int64).toInt = 0 := rfl; omega)), (show t0_10.toInt ≤ t0_10.toInt from (by have z12 : (0 : Int64).toInt = 0 := rfl; omega)), (show ((0 : Int64), lx21, t0_1, t0_2, t0_3, t0_4, t0_5, t0_6, t0_7, t0_8, t0_9, t0_10) = (F_FR_widened x2 t0_0 t0_1 t0_2 t0_3 t0_4 t0_5 t0_6 t0_7 t0_8 t0_9 t0_10) from Eq.trans (by rw [F_FR_widened_J14.eq_1, if_neg c33]) hR26)⟩) d_17_37_25
  ·
    intro J23
    refine lv_if_eq (tgt := 13) hx hb d_17_37_6 (by decide) (fun c160 => ?_) (fun c160 => ?_)
    ·
      refine lv_iconst (v := 0) hx hb d_17_37_13 (by decide) ?_
      exact J23 ((0 : Int32)) _ _ _ ws ⟨(show q_F (0 ≤ 0) from (show 0 ≤ 0 from by omega)), (show q_F (0 ≤ 1) from (show 0 ≤ 1 from by omega)), V, q_lw hl (q_lw1 0 rfl (q_lw1 1 rfl q_lw0)), (show F_FR_widened_J14 x2 t0_0 t0_1 t0_2 t0_3 t0_4 t0_5 t0_6 t0_7 t0_8 t0_9 t0_10 0 = (F_FR_widened x2 t0_0 t0_1 t0_2 t0_3 t0_4 t0_5 t0_6 t0_7 t0_8 t0_9 t0_10) from (by have c160x := c160; rw [e20] at c160x; rw [F_FR_widened.eq_1, if_pos c160x])), (show True ∧ S_FR_widened_J14 x2 t0_0 t0_1 t0_2 t0_3 t0_4 t0_5 t0_6 t0_7 t0_8 t0_9 t0_10 0 from (by have h := hS; rw [S_FR_widened.eq_1] at h; have c160x := c160; rw [e20] at c160x; rw [if_pos c160x] at h; with_reducible exact h))⟩
    ·
      refine lv_iconst (v := 1) hx hb d_17_37_9 (by decide) ?_
      refine lv_goto (tgt := 14) hx hb d_17_37_10 (by decide) ?_
      exact J23 ((1 : Int32)) _ _ _ ws ⟨(show q_F (0 ≤ 1) from (show 0 ≤ 1 from by omega)), (show q_F (1 ≤ 1) from (show 1 ≤ 1 from by omega)), V, q_lw hl (q_lw1 0 rfl (q_lw1 1 rfl q_lw0)), (show F_FR_widened_J14 x2 t0_0 t0_1 t0_2 t0_3 t0_4 t0_5 t0_6 t0_7 t0_8 t0_9 t0_10 1 = (F_FR_widened x2 t0_0 t0_1 t0_2 t0_3 t0_4 t0_5 t0_6 t0_7 t0_8 t0_9 t0_10) from (by have c160x := c160; rw [e20] at c160x; rw [F_FR_widened.eq_1, if_neg c160x])), (show True ∧ S_FR_widened_J14 x2 t0_0 t0_1 t0_2 t0_3 t0_4 t0_5 t0_6 t0_7 t0_8 t0_9 t0_10 1 from (by have h := hS; rw [S_FR_widened.eq_1] at h; have c160x := c160; rw [e20] at c160x; rw [if_neg c160x] at h; with_reducible exact h))⟩
theorem d_17_28_0 : decode prog_17_method_28_code 0 = .ok (.aload_n 0, 1) := by decide +kernel
theorem d_17_28_1 : decode prog_17_method_28_code 1 = .ok (.aload_n 0, 1) := by decide +kernel
theorem d_17_28_2 : decode prog_17_method_28_code 2 = .ok (.getfield 55, 3) := by decide +kernel
theorem d_17_28_5 : decode prog_17_method_28_code 5 = .ok (.invokevirtual 61, 3) := by decide +kernel
theorem d_17_28_8 : decode prog_17_method_28_code 8 = .ok (.aload_n 0, 1) := by decide +kernel
theorem d_17_28_9 : decode prog_17_method_28_code 9 = .ok (.aload_n 0, 1) := by decide +kernel
theorem d_17_28_10 : decode prog_17_method_28_code 10 = .ok (.getfield 16, 3) := by decide +kernel
theorem d_17_28_13 : decode prog_17_method_28_code 13 = .ok (.aload_n 0, 1) := by decide +kernel
theorem d_17_28_14 : decode prog_17_method_28_code 14 = .ok (.getfield 52, 3) := by decide +kernel
theorem d_17_28_17 : decode prog_17_method_28_code 17 = .ok (.invokevirtual 67, 3) := by decide +kernel
theorem d_17_28_20 : decode prog_17_method_28_code 20 = .ok (.return_, 1) := by decide +kernel
def y_FR_setValue : MethodName := ⟨"NumberHouseModel$FloatRows", "setValue", "()V"⟩
def F_FR_setValue_c17 (t0_0 : Int32) (t0_1 : Int32) (t0_2 : Int32) (t0_3 : Int32) (t0_4 : Int64) (t0_5 : Int32) (t0_6 : Int32) (t0_7 : Int64) (t0_8 : Int32) (t0_9 : Int64) (t0_10 : Int32) (t1_0 : (Nat → Int32)) (t2_0 : (Nat → Int32)) (t3_0 : (Nat → Int32)) (f25 : (Nat → Int32)) (p39 : ((Nat → Int32) × (Nat → Int32))) : (Nat → Int32) × (Nat → Int32) × (Nat → Int32) := (f25, (p39.1 : (Nat → Int32)), (p39.2 : (Nat → Int32)))
def F_FR_setValue (t0_0 : Int32) (t0_1 : Int32) (t0_2 : Int32) (t0_3 : Int32) (t0_4 : Int64) (t0_5 : Int32) (t0_6 : Int32) (t0_7 : Int64) (t0_8 : Int32) (t0_9 : Int64) (t0_10 : Int32) (t1_0 : (Nat → Int32)) (t2_0 : (Nat → Int32)) (t3_0 : (Nat → Int32)) : (Nat → Int32) × (Nat → Int32) × (Nat → Int32) := F_FR_setValue_c17 t0_0 t0_1 t0_2 t0_3 t0_4 t0_5 t0_6 t0_7 t0_8 t0_9 t0_10 t1_0 t2_0 t3_0 ((F_FR_setUnit t0_8 t0_0 t0_1 t0_2 t0_3 t0_4 t0_5 t0_6 t0_7 t0_8 t0_9 t0_10 t1_0) : (Nat → Int32)) ((F_FR_set (1404 : Int32) t0_7 t0_0 t0_1 t0_2 t0_3 t0_4 t0_5 t0_6 t0_7 t0_8 t0_9 t0_10 ((F_FR_setUnit t0_8 t0_0 t0_1 t0_2 t0_3 t0_4 t0_5 t0_6 t0_7 t0_8 t0_9 t0_10 t1_0) : (Nat → Int32)) t2_0 t3_0) : ((Nat → Int32) × (Nat → Int32)))
def S_FR_setValue_c17 (t0_0 : Int32) (t0_1 : Int32) (t0_2 : Int32) (t0_3 : Int32) (t0_4 : Int64) (t0_5 : Int32) (t0_6 : Int32) (t0_7 : Int64) (t0_8 : Int32) (t0_9 : Int64) (t0_10 : Int32) (t1_0 : (Nat → Int32)) (t2_0 : (Nat → Int32)) (t3_0 : (Nat → Int32)) (f25 : (Nat → Int32)) (p39 : ((Nat → Int32) × (Nat → Int32))) : Prop := True
def S_FR_setValue (t0_0 : Int32) (t0_1 : Int32) (t0_2 : Int32) (t0_3 : Int32) (t0_4 : Int64) (t0_5 : Int32) (t0_6 : Int32) (t0_7 : Int64) (t0_8 : Int32) (t0_9 : Int64) (t0_10 : Int32) (t1_0 : (Nat → Int32)) (t2_0 : (Nat → Int32)) (t3_0 : (Nat → Int32)) : Prop := (True ∧ S_FR_set (1404 : Int32) t0_7 t0_0 t0_1 t0_2 t0_3 t0_4 t0_5 t0_6 t0_7 t0_8 t0_9 t0_10 ((F_FR_setUnit t0_8 t0_0 t0_1 t0_2 t0_3 t0_4 t0_5 t0_6 t0_7 t0_8 t0_9 t0_10 t1_0) : (Nat → Int32)) t2_0 t3_0) ∧ (S_FR_setValue_c17 t0_0 t0_1 t0_2 t0_3 t0_4 t0_5 t0_6 t0_7 t0_8 t0_9 t0_10 t1_0 t2_0 t3_0 ((F_FR_setUnit t0_8 t0_0 t0_1 t0_2 t0_3 t0_4 t0_5 t0_6 t0_7 t0_8 t0_9 t0_10 t1_0) : (Nat → Int32)) ((F_FR_set (1404 : Int32) t0_7 t0_0 t0_1 t0_2 t0_3 t0_4 t0_5 t0_6 t0_7 t0_8 t0_9 t0_10 ((F_FR_setUnit t0_8 t0_0 t0_1 t0_2 t0_3 t0_4 t0_5 t0_6 t0_7 t0_8 t0_9 t0_10 t1_0) : (Nat → Int32)) t2_0 t3_0) : ((Nat → Int32) × (Nat → Int32))))
set_option maxRecDepth 100000 in
set_option maxHeartbeats 4000000 in
theorem X_FR_setValue (l : Launch) (D : va_G) (g : Nat → ClassId) (q : Nat → Nat) (ws : va_W) (hI : q_I (msh g q) q ws) (t0_0 : Int32) (t0_1 : Int32) (t0_2 : Int32) (t0_3 : Int32) (t0_4 : Int64) (t0_5 : Int32) (t0_6 : Int32) (t0_7 : Int64) (t0_8 : Int32) (t0_9 : Int64) (t0_10 : Int32) (hT0 : ws[145]? = (some (q 145, .inr (15, [.int t0_0, .ref (q 146), .ref (q 147), .ref (q 148), .ref (q 149), .ref (q 150), .ref (q 151), .ref (q 152), .int t0_1, .int t0_2, .int t0_3, .long t0_4, .int t0_5, .int t0_6, .long t0_7, .int t0_8, .long t0_9, .int t0_10])) : Option (Nat × va_E))) (t1_0 : (Nat → Int32)) (hT1 : ws[146]? = (some (q 146, .inl (g 0, (156 : Int32).toNatClampNeg, .inl t1_0)) : Option (Nat × va_E))) (t2_0 : (Nat → Int32)) (hT2 : ws[147]? = (some (q 147, .inl (g 0, (156 : Int32).toNatClampNeg, .inl t2_0)) : Option (Nat × va_E))) (t3_0 : (Nat → Int32)) (hT3 : ws[148]? = (some (q 148, .inl (g 0, (1404 : Int32).toNatClampNeg, .inl t3_0)) : Option (Nat × va_E))) (hS : True ∧ S_FR_setValue t0_0 t0_1 t0_2 t0_3 t0_4 t0_5 t0_6 t0_7 t0_8 t0_9 t0_10 t1_0 t2_0 t3_0) : q_mV l y_FR_setValue prog_17_method_28_code 1 2 0 0 D g [.ref (q 145)] ws (fun u => q_I (msh g q) q u ∧ q_un ws u [146, 147, 148] ∧ ∃ (u1_0 : (Nat → Int32)) (u2_0 : (Nat → Int32)) (u3_0 : (Nat → Int32)), u[146]? = (some (q 146, .inl (g 0, (156 : Int32).toNatClampNeg, .inl u1_0)) : Option (Nat × va_E)) ∧ u[147]? = (some (q 147, .inl (g 0, (156 : Int32).toNatClampNeg, .inl u2_0)) : Option (Nat × va_E)) ∧ u[148]? = (some (q 148, .inl (g 0, (1404 : Int32).toNatClampNeg, .inl u3_0)) : Option (Nat × va_E)) ∧ (u1_0, u2_0, u3_0) = (F_FR_setValue t0_0 t0_1 t0_2 t0_3 t0_4 t0_5 t0_6 t0_7 t0_8 t0_9 t0_10 t1_0 t2_0 t3_0)) := by
  intro sz
  refine q_into (by decide) (Nat.le_of_ble_eq_true rfl) ?_
  intro p e s m below meth c ls hsz C0 V hl
  have hx := C0.1
  have hb := C0.2.1
  have btt0_2 := n_w145 hI hT0
  clear btt0_2
  have hF : q_un ws ws [146, 147, 148] := q_u0
  have hl : lv_has ls 1 [(0, .ref (q 145))] := hl
  refine lv_aload_n hx hb d_17_28_0 rfl (lv_at hl 0 rfl) ?_
  refine lv_aload_n hx hb d_17_28_1 rfl (lv_at hl 0 rfl) ?_
  refine q_get (ci := 15) (j := 15) (v := .int t0_8) C0 V i_FR rfl rfl hT0 (by decide) w_2091 rfl d_17_28_2 ?_
  refine q_gov V (q_runV (As := [.int t0_8]) (rest := []) (d := 1) (mc := 0) (ms := 0) (ci := 15) C0 V rfl LV_FR_61 (X_FR_setUnit l D g q ws  t0_8 hI t0_0 t0_1 t0_2 t0_3 t0_4 t0_5 t0_6 t0_7 t0_8 t0_9 t0_10 hT0 t1_0 hT1  _) rfl rfl hT0 rfl hl.1 rfl (Nat.le_of_ble_eq_true rfl) ⟨by decide, by decide⟩ ⟨Nat.le_of_ble_eq_true rfl, Nat.le_of_ble_eq_true rfl⟩ d_17_28_5) (fun u23 H locs hp24 V => ?_)
  obtain ⟨hI, hu28, f25, hA26, hE27⟩ := hp24
  replace hA26 : u23[146]? = (some (q 146, .inl (g 0, (156 : Int32).toNatClampNeg, .inl f25)) : Option (Nat × va_E)) := hA26
  have e29 : f25 = (F_FR_setUnit t0_8 t0_0 t0_1 t0_2 t0_3 t0_4 t0_5 t0_6 t0_7 t0_8 t0_9 t0_10 t1_0) := hE27
  replace hT0 := (hu28 _ (by decide)).trans hT0
  replace hT2 := (hu28 _ (by decide)).trans hT2
  replace hT3 := (hu28 _ (by decide)).trans hT3
  replace hF := q_uc hF hu28 (by simp)
  refine lv_aload_n hx hb d_17_28_8 rfl (lv_at hl 0 rfl) ?_
  refine lv_aload_n hx hb d_17_28_9 rfl (lv_at hl 0 rfl) ?_
  refine q_get (ci := 15) (j := 3) (v := .ref (q 148)) C0 V i_FR rfl rfl hT0 (by decide) w_2078 rfl d_17_28_10 ?_
  refine lv_aload_n hx hb d_17_28_13 rfl (lv_at hl 0 rfl) ?_
  refine q_get (ci := 15) (j := 14) (v := .long t0_7) C0 V i_FR rfl rfl hT0 (by decide) w_2090 rfl d_17_28_14 ?_
  have ob30 : True ∧ S_FR_set (1404 : Int32) t0_7 t0_0 t0_1 t0_2 t0_3 t0_4 t0_5 t0_6 t0_7 t0_8 t0_9 t0_10 f25 t2_0 t3_0 := (by rw [e29]; have h := hS; rw [S_FR_setValue.eq_1] at h; with_reducible exact h.2.1)
  refine q_gov V (q_runV (As := [.ref (q 148), .long t0_7]) (rest := []) (d := 1) (mc := 0) (ms := 0) (ci := 15) C0 V rfl LV_FR_67 (X_FR_set l D g q u23 148 1404 (n_r148 g q) t0_7 (by decide) (by decide) hI t0_0 t0_1 t0_2 t0_3 t0_4 t0_5 t0_6 t0_7 t0_8 t0_9 t0_10 hT0 f25 hA26 t2_0 hT2 t3_0 hT3 ob30 _) rfl rfl hT0 rfl hl.1 rfl (Nat.le_of_ble_eq_true rfl) ⟨by decide, by decide⟩ ⟨Nat.le_of_ble_eq_true rfl, Nat.le_of_ble_eq_true rfl⟩ d_17_28_17) (fun u31 H locs hp32 V => ?_)
  obtain ⟨hI, hZ9⟩ := hp32
  obtain ⟨hu38, hZ9⟩ := hZ9
  obtain ⟨f33, hZ9⟩ := hZ9
  obtain ⟨f35, hZ9⟩ := hZ9
  obtain ⟨hA34, hZ9⟩ := hZ9
  obtain ⟨hA36, hE37⟩ := hZ9
  replace hA34 : u31[147]? = (some (q 147, .inl (g 0, (156 : Int32).toNatClampNeg, .inl f33)) : Option (Nat × va_E)) := hA34
  replace hA36 : u31[148]? = (some (q 148, .inl (g 0, (1404 : Int32).toNatClampNeg, .inl f35)) : Option (Nat × va_E)) := hA36
  obtain ⟨p39, e40⟩ : ∃ z, z = (F_FR_set (1404 : Int32) t0_7 t0_0 t0_1 t0_2 t0_3 t0_4 t0_5 t0_6 t0_7 t0_8 t0_9 t0_10 f25 t2_0 t3_0) := ⟨_, rfl⟩
  have e41 : f33 = p39.1 := congrArg (fun z => z.1) (hE37.trans e40.symm)
  have e42 : f35 = p39.2 := congrArg (fun z => z.2) (hE37.trans e40.symm)
  replace hA26 := (hu38 _ (by decide)).trans hA26
  replace hF := q_uc hF hu38 (by simp)
  have hR43 := (show F_FR_setValue_c17 t0_0 t0_1 t0_2 t0_3 t0_4 t0_5 t0_6 t0_7 t0_8 t0_9 t0_10 t1_0 t2_0 t3_0 f25 p39 = (F_FR_setValue t0_0 t0_1 t0_2 t0_3 t0_4 t0_5 t0_6 t0_7 t0_8 t0_9 t0_10 t1_0 t2_0 t3_0) from (by rw [e40, e29, F_FR_setValue.eq_1]))
  have hS44 := (show True ∧ S_FR_setValue_c17 t0_0 t0_1 t0_2 t0_3 t0_4 t0_5 t0_6 t0_7 t0_8 t0_9 t0_10 t1_0 t2_0 t3_0 f25 p39 from (by rw [e40, e29]; have h := hS; rw [S_FR_setValue.eq_1] at h; replace h := q_s2 h; with_reducible exact h))
  exact q_retv C0 V (⟨hI, hF, f25, f33, f35, hA26, hA34, hA36, (show (f25, f33, f35) = (F_FR_setValue t0_0 t0_1 t0_2 t0_3 t0_4 t0_5 t0_6 t0_7 t0_8 t0_9 t0_10 t1_0 t2_0 t3_0) from Eq.trans (by rw [e42, e41, F_FR_setValue_c17.eq_1]) hR43)⟩) d_17_28_20
theorem d_17_26_0 : decode prog_17_method_26_code 0 = .ok (.iconst 0, 1) := by decide +kernel
theorem d_17_26_1 : decode prog_17_method_26_code 1 = .ok (.istore_n 3, 1) := by decide +kernel
theorem d_17_26_2 : decode prog_17_method_26_code 2 = .ok (.iconst 0, 1) := by decide +kernel
theorem d_17_26_3 : decode prog_17_method_26_code 3 = .ok (.istore 4, 2) := by decide +kernel
theorem d_17_26_5 : decode prog_17_method_26_code 5 = .ok (.iload 4, 2) := by decide +kernel
theorem d_17_26_7 : decode prog_17_method_26_code 7 = .ok (.iload_n 1, 1) := by decide +kernel
theorem d_17_26_8 : decode prog_17_method_26_code 8 = .ok (.if_icmp .ge 29, 3) := by decide +kernel
theorem d_17_26_37 : decode prog_17_method_26_code 37 = .ok (.iload_n 3, 1) := by decide +kernel
theorem d_17_26_38 : decode prog_17_method_26_code 38 = .ok (.ifCond .eq 7, 3) := by decide +kernel
theorem d_17_26_45 : decode prog_17_method_26_code 45 = .ok (.iconst 0, 1) := by decide +kernel
theorem d_17_26_46 : decode prog_17_method_26_code 46 = .ok (.ireturn, 1) := by decide +kernel
theorem d_17_26_41 : decode prog_17_method_26_code 41 = .ok (.iload_n 2, 1) := by decide +kernel
theorem d_17_26_42 : decode prog_17_method_26_code 42 = .ok (.ifCond .ne 5, 3) := by decide +kernel
theorem d_17_26_47 : decode prog_17_method_26_code 47 = .ok (.aload_n 0, 1) := by decide +kernel
theorem d_17_26_48 : decode prog_17_method_26_code 48 = .ok (.iload_n 1, 1) := by decide +kernel
theorem d_17_26_49 : decode prog_17_method_26_code 49 = .ok (.invokevirtual 98, 3) := by decide +kernel
theorem d_17_26_52 : decode prog_17_method_26_code 52 = .ok (.istore 4, 2) := by decide +kernel
theorem d_17_26_54 : decode prog_17_method_26_code 54 = .ok (.iload_n 2, 1) := by decide +kernel
theorem d_17_26_55 : decode prog_17_method_26_code 55 = .ok (.iconst 1, 1) := by decide +kernel
theorem d_17_26_56 : decode prog_17_method_26_code 56 = .ok (.if_icmp .eq 30, 3) := by decide +kernel
theorem d_17_26_86 : decode prog_17_method_26_code 86 = .ok (.iconst 1, 1) := by decide +kernel
theorem d_17_26_87 : decode prog_17_method_26_code 87 = .ok (.goto 4, 3) := by decide +kernel
theorem d_17_26_91 : decode prog_17_method_26_code 91 = .ok (.ireturn, 1) := by decide +kernel
theorem d_17_26_59 : decode prog_17_method_26_code 59 = .ok (.iload 4, 2) := by decide +kernel
theorem d_17_26_61 : decode prog_17_method_26_code 61 = .ok (.ifCond .gt 25, 3) := by decide +kernel
theorem d_17_26_64 : decode prog_17_method_26_code 64 = .ok (.iload 4, 2) := by decide +kernel
theorem d_17_26_66 : decode prog_17_method_26_code 66 = .ok (.ifCond .ne 24, 3) := by decide +kernel
theorem d_17_26_90 : decode prog_17_method_26_code 90 = .ok (.iconst 0, 1) := by decide +kernel
theorem d_17_26_69 : decode prog_17_method_26_code 69 = .ok (.iload_n 2, 1) := by decide +kernel
theorem d_17_26_70 : decode prog_17_method_26_code 70 = .ok (.iconst 2, 1) := by decide +kernel
theorem d_17_26_71 : decode prog_17_method_26_code 71 = .ok (.if_icmp .eq 15, 3) := by decide +kernel
theorem d_17_26_74 : decode prog_17_method_26_code 74 = .ok (.aload_n 0, 1) := by decide +kernel
theorem d_17_26_75 : decode prog_17_method_26_code 75 = .ok (.getfield 16, 3) := by decide +kernel
theorem d_17_26_78 : decode prog_17_method_26_code 78 = .ok (.iload_n 1, 1) := by decide +kernel
theorem d_17_26_79 : decode prog_17_method_26_code 79 = .ok (.iaload, 1) := by decide +kernel
theorem d_17_26_80 : decode prog_17_method_26_code 80 = .ok (.iconst 2, 1) := by decide +kernel
theorem d_17_26_81 : decode prog_17_method_26_code 81 = .ok (.irem, 1) := by decide +kernel
theorem d_17_26_82 : decode prog_17_method_26_code 82 = .ok (.iconst 1, 1) := by decide +kernel
theorem d_17_26_83 : decode prog_17_method_26_code 83 = .ok (.if_icmp .ne 7, 3) := by decide +kernel
theorem d_17_26_11 : decode prog_17_method_26_code 11 = .ok (.iload_n 3, 1) := by decide +kernel
theorem d_17_26_12 : decode prog_17_method_26_code 12 = .ok (.ifCond .ne 13, 3) := by decide +kernel
theorem d_17_26_25 : decode prog_17_method_26_code 25 = .ok (.iconst 1, 1) := by decide +kernel
theorem d_17_26_26 : decode prog_17_method_26_code 26 = .ok (.goto 4, 3) := by decide +kernel
theorem d_17_26_30 : decode prog_17_method_26_code 30 = .ok (.istore_n 3, 1) := by decide +kernel
theorem d_17_26_31 : decode prog_17_method_26_code 31 = .ok (.iinc 4 1, 3) := by decide +kernel
theorem d_17_26_34 : decode prog_17_method_26_code 34 = .ok (.goto (-29), 3) := by decide +kernel
theorem d_17_26_15 : decode prog_17_method_26_code 15 = .ok (.aload_n 0, 1) := by decide +kernel
theorem d_17_26_16 : decode prog_17_method_26_code 16 = .ok (.getfield 16, 3) := by decide +kernel
theorem d_17_26_19 : decode prog_17_method_26_code 19 = .ok (.iload 4, 2) := by decide +kernel
theorem d_17_26_21 : decode prog_17_method_26_code 21 = .ok (.iaload, 1) := by decide +kernel
theorem d_17_26_22 : decode prog_17_method_26_code 22 = .ok (.ifCond .eq 7, 3) := by decide +kernel
theorem d_17_26_29 : decode prog_17_method_26_code 29 = .ok (.iconst 0, 1) := by decide +kernel
def y_FR_isMore : MethodName := ⟨"NumberHouseModel$FloatRows", "isMore", "(II)Z"⟩
def F_FR_isMore_L5 (x2 : Int32) (x3 : Int32) (t0_0 : Int32) (t0_1 : Int32) (t0_2 : Int32) (t0_3 : Int32) (t0_4 : Int64) (t0_5 : Int32) (t0_6 : Int32) (t0_7 : Int64) (t0_8 : Int32) (t0_9 : Int64) (t0_10 : Int32) (t1_0 : (Nat → Int32)) : Nat → Int32 → Int32 → Int32
  | 0, _, _ => default
  | fm + 1, lx19, lx20 => if x2 ≤ lx19 then (if lx20 = (0 : Int32) then ((0 : Int32)) else (if x3 = (0 : Int32) then ((0 : Int32)) else (if x3 = (1 : Int32) then ((1 : Int32)) else (if (0 : Int32) < ((F_FR_half x2 t0_0 t0_1 t0_2 t0_3 t0_4 t0_5 t0_6 t0_7 t0_8 t0_9 t0_10 t1_0) : Int32) then ((1 : Int32)) else (if ((F_FR_half x2 t0_0 t0_1 t0_2 t0_3 t0_4 t0_5 t0_6 t0_7 t0_8 t0_9 t0_10 t1_0) : Int32) = (0 : Int32) then (if x3 = (2 : Int32) then ((1 : Int32)) else (if ((t1_0 x2.toNatClampNeg : Int32) - (t1_0 x2.toNatClampNeg : Int32) / 2 * 2 : Int32) = (1 : Int32) then ((1 : Int32)) else ((0 : Int32)))) else ((0 : Int32))))))) else (if lx20 = (0 : Int32) then (if (t1_0 lx19.toNatClampNeg : Int32) = (0 : Int32) then (F_FR_isMore_L5 x2 x3 t0_0 t0_1 t0_2 t0_3 t0_4 t0_5 t0_6 t0_7 t0_8 t0_9 t0_10 t1_0 fm (lx19 + 1 : Int32) 0) else (F_FR_isMore_L5 x2 x3 t0_0 t0_1 t0_2 t0_3 t0_4 t0_5 t0_6 t0_7 t0_8 t0_9 t0_10 t1_0 fm (lx19 + 1 : Int32) 1)) else (F_FR_isMore_L5 x2 x3 t0_0 t0_1 t0_2 t0_3 t0_4 t0_5 t0_6 t0_7 t0_8 t0_9 t0_10 t1_0 fm (lx19 + 1 : Int32) 1))
def F_FR_isMore (x2 : Int32) (x3 : Int32) (t0_0 : Int32) (t0_1 : Int32) (t0_2 : Int32) (t0_3 : Int32) (t0_4 : Int64) (t0_5 : Int32) (t0_6 : Int32) (t0_7 : Int64) (t0_8 : Int32) (t0_9 : Int64) (t0_10 : Int32) (t1_0 : (Nat → Int32)) : Int32 := F_FR_isMore_L5 x2 x3 t0_0 t0_1 t0_2 t0_3 t0_4 t0_5 t0_6 t0_7 t0_8 t0_9 t0_10 t1_0 ((x2.toInt - (0 : Int32).toInt).toNat + 1) 0 0
def S_FR_isMore_L5 (x2 : Int32) (x3 : Int32) (t0_0 : Int32) (t0_1 : Int32) (t0_2 : Int32) (t0_3 : Int32) (t0_4 : Int64) (t0_5 : Int32) (t0_6 : Int32) (t0_7 : Int64) (t0_8 : Int32) (t0_9 : Int64) (t0_10 : Int32) (t1_0 : (Nat → Int32)) : Nat → Int32 → Int32 → Prop
  | 0, _, _ => False
  | fm + 1, lx19, lx20 => if x2 ≤ lx19 then (if lx20 = (0 : Int32) then (True) else (if x3 = (0 : Int32) then (True) else ((True ∧ S_FR_half x2 t0_0 t0_1 t0_2 t0_3 t0_4 t0_5 t0_6 t0_7 t0_8 t0_9 t0_10 t1_0) ∧ (if x3 = (1 : Int32) then (True) else (if (0 : Int32) < ((F_FR_half x2 t0_0 t0_1 t0_2 t0_3 t0_4 t0_5 t0_6 t0_7 t0_8 t0_9 t0_10 t1_0) : Int32) then (True) else (if ((F_FR_half x2 t0_0 t0_1 t0_2 t0_3 t0_4 t0_5 t0_6 t0_7 t0_8 t0_9 t0_10 t1_0) : Int32) = (0 : Int32) then (if x3 = (2 : Int32) then (True) else ((0 ≤ x2.toInt) ∧ ((x2.toInt ≤ 1403) ∧ (if ((t1_0 x2.toNatClampNeg : Int32) - (t1_0 x2.toNatClampNeg : Int32) / 2 * 2 : Int32) = (1 : Int32) then (True) else (True))))) else (True))))))) else (if lx20 = (0 : Int32) then ((lx19.toInt ≤ 1403) ∧ (if (t1_0 lx19.toNatClampNeg : Int32) = (0 : Int32) then (S_FR_isMore_L5 x2 x3 t0_0 t0_1 t0_2 t0_3 t0_4 t0_5 t0_6 t0_7 t0_8 t0_9 t0_10 t1_0 fm (lx19 + 1 : Int32) 0) else (S_FR_isMore_L5 x2 x3 t0_0 t0_1 t0_2 t0_3 t0_4 t0_5 t0_6 t0_7 t0_8 t0_9 t0_10 t1_0 fm (lx19 + 1 : Int32) 1))) else (S_FR_isMore_L5 x2 x3 t0_0 t0_1 t0_2 t0_3 t0_4 t0_5 t0_6 t0_7 t0_8 t0_9 t0_10 t1_0 fm (lx19 + 1 : Int32) 1))
def S_FR_isMore (x2 : Int32) (x3 : Int32) (t0_0 : Int32) (t0_1 : Int32) (t0_2 : Int32) (t0_3 : Int32) (t0_4 : Int64) (t0_5 : Int32) (t0_6 : Int32) (t0_7 : Int64) (t0_8 : Int32) (t0_9 : Int64) (t0_10 : Int32) (t1_0 : (Nat → Int32)) : Prop := S_FR_isMore_L5 x2 x3 t0_0 t0_1 t0_2 t0_3 t0_4 t0_5 t0_6 t0_7 t0_8 t0_9 t0_10 t1_0 ((x2.toInt - (0 : Int32).toInt).toNat + 1) 0 0
set_option maxRecDepth 100000 in
set_option maxHeartbeats 4000000 in
theorem X_FR_isMore (l : Launch) (D : va_G) (g : Nat → ClassId) (q : Nat → Nat) (ws : va_W) (x2 : Int32) (x3 : Int32) (hI : q_I (msh g q) q ws) (t0_0 : Int32) (t0_1 : Int32) (t0_2 : Int32) (t0_3 : Int32) (t0_4 : Int64) (t0_5 : Int32) (t0_6 : Int32) (t0_7 : Int64) (t0_8 : Int32) (t0_9 : Int64) (t0_10 : Int32) (hT0 : ws[145]? = (some (q 145, .inr (15, [.int t0_0, .ref (q 146), .ref (q 147), .ref (q 148), .ref (q 149), .ref (q 150), .ref (q 151), .ref (q 152), .int t0_1, .int t0_2, .int t0_3, .long t0_4, .int t0_5, .int t0_6, .long t0_7, .int t0_8, .long t0_9, .int t0_10])) : Option (Nat × va_E))) (t1_0 : (Nat → Int32)) (hT1 : ws[148]? = (some (q 148, .inl (g 0, (1404 : Int32).toNatClampNeg, .inl t1_0)) : Option (Nat × va_E))) (hS : True ∧ S_FR_isMore x2 x3 t0_0 t0_1 t0_2 t0_3 t0_4 t0_5 t0_6 t0_7 t0_8 t0_9 t0_10 t1_0) : q_mI l y_FR_isMore prog_17_method_26_code 5 (.boolean) 2 0 0 D g [.ref (q 145), .int x2, .int x3] ws (fun r u => ws = u ∧ (0 ≤ r.toInt) ∧ (r.toInt ≤ 1) ∧ r = (F_FR_isMore x2 x3 t0_0 t0_1 t0_2 t0_3 t0_4 t0_5 t0_6 t0_7 t0_8 t0_9 t0_10 t1_0)) := by
  intro sz
  refine q_into (by decide) (Nat.le_of_ble_eq_true rfl) ?_
  intro p e s m below meth c ls hsz C0 V hl
  have hx := C0.1
  have hb := C0.2.1
  have btt0_2 := n_w145 hI hT0
  clear btt0_2
  have hl : lv_has ls 5 [(0, .ref (q 145)), (1, .int x2), (2, .int x3)] := hl
  refine lv_iconst (v := 0) hx hb d_17_26_0 (by decide) ?_
  refine lv_istore_n (lv' := [(3, .int 0), (0, .ref (q 145)), (1, .int x2), (2, .int x3)]) hx hb d_17_26_1 rfl hl (by decide) rfl (fun ls hl => ?_)
  refine lv_iconst (v := 0) hx hb d_17_26_2 (by decide) ?_
  refine lv_istore (lv' := [(4, .int 0), (3, .int 0), (0, .ref (q 145)), (1, .int x2), (2, .int x3)]) hx hb d_17_26_3 hl (by decide) rfl (fun ls hl => ?_)
  refine q_loop (X := Int32 × Int32) (fun z H locs ls _ => q_F (0 ≤ z.2.toInt) ∧ q_F (z.2.toInt ≤ 1) ∧ q_F (z.2.toInt ≤ z.1.toInt) ∧ q_Wd D g (va_A ws sz) s ws H locs ∧ lv_has ls 5 [(4, .int z.1), (3, .int z.2), (0, .ref (q 145)), (1, .int x2), (2, .int x3)] ∧ (∃ n, (x2.toInt - z.1.toInt).toNat < n ∧ F_FR_isMore_L5 x2 x3 t0_0 t0_1 t0_2 t0_3 t0_4 t0_5 t0_6 t0_7 t0_8 t0_9 t0_10 t1_0 n z.1 z.2 = (F_FR_isMore x2 x3 t0_0 t0_1 t0_2 t0_3 t0_4 t0_5 t0_6 t0_7 t0_8 t0_9 t0_10 t1_0) ∧ True ∧ S_FR_isMore_L5 x2 x3 t0_0 t0_1 t0_2 t0_3 t0_4 t0_5 t0_6 t0_7 t0_8 t0_9 t0_10 t1_0 n z.1 z.2)) (fun z => (x2.toInt - z.1.toInt).toNat) ?_ ((0 : Int32), (0 : Int32)) _ _ _ ws ⟨(show q_F (0 ≤ 0) from (show 0 ≤ 0 from by omega)), (show q_F (0 ≤ 1) from (show 0 ≤ 1 from by omega)), (show q_F (0 ≤ 0) from (show 0 ≤ 0 from by omega)), V, q_lw hl (q_lw1 0 rfl (q_lw1 1 rfl (q_lw1 2 rfl (q_lw1 3 rfl (q_lw1 4 rfl q_lw0))))), ⟨((x2.toInt - (0 : Int32).toInt).toNat + 1), Nat.lt_succ_self _, (show F_FR_isMore_L5 x2 x3 t0_0 t0_1 t0_2 t0_3 t0_4 t0_5 t0_6 t0_7 t0_8 t0_9 t0_10 t1_0 ((x2.toInt - (0 : Int32).toInt).toNat + 1) 0 0 = (F_FR_isMore x2 x3 t0_0 t0_1 t0_2 t0_3 t0_4 t0_5 t0_6 t0_7 t0_8 t0_9 t0_10 t1_0) from (by rw [F_FR_isMore.eq_1])), (show True ∧ S_FR_isMore_L5 x2 x3 t0_0 t0_1 t0_2 t0_3 t0_4 t0_5 t0_6 t0_7 t0_8 t0_9 t0_10 t1_0 ((x2.toInt - (0 : Int32).toInt).toNat + 1) 0 0 from (by have h := hS; rw [S_FR_isMore.eq_1] at h; with_reducible exact h))⟩⟩
  rintro ⟨lx19, lx20⟩ H locs ls _ ⟨i21, i22, i23, V, hl, ⟨fu27, hf28, hR25, hS26⟩⟩ ih24
  obtain ⟨fm29, rfl⟩ : ∃ m, fu27 = m + 1 := ⟨fu27 - 1, by omega⟩
  replace i21 : q_F (0 ≤ lx20.toInt) := i21
  clear i22
  replace i23 : q_F (lx20.toInt ≤ lx19.toInt) := i23
  replace hl : lv_has ls 5 [(4, .int lx19), (3, .int lx20), (0, .ref (q 145)), (1, .int x2), (2, .int x3)] := hl
  refine lv_iload hx hb d_17_26_5 (lv_at hl 0 rfl) ?_
  refine lv_iload_n hx hb d_17_26_7 rfl (lv_at hl 3 rfl) ?_
  refine lv_icmp_ge (tgt := 37) hx hb d_17_26_8 (by decide) (fun c30 => ?_) (fun c30 => ?_)
  ·
    refine lv_iload_n hx hb d_17_26_37 rfl (lv_at hl 1 rfl) ?_
    refine lv_if_eq (tgt := 45) hx hb d_17_26_38 (by decide) (fun c32 => ?_) (fun c32 => ?_)
    ·
      refine lv_iconst (v := 0) hx hb d_17_26_45 (by decide) ?_
      exact q_retz C0 V (by decide) (⟨rfl, (show 0 ≤ (0 : Int32).toInt from (by have z14 : (0 : Int32).toInt = 0 := rfl; omega)), (show (0 : Int32).toInt ≤ 1 from (by have z14 : (0 : Int32).toInt = 0 := rfl; omega)), (show (0 : Int32) = (F_FR_isMore x2 x3 t0_0 t0_1 t0_2 t0_3 t0_4 t0_5 t0_6 t0_7 t0_8 t0_9 t0_10 t1_0) from Eq.trans (by rw [F_FR_isMore_L5.eq_2, if_pos c30, if_pos c32]) hR25)⟩) d_17_26_46
    ·
      refine lv_iload_n hx hb d_17_26_41 rfl (lv_at hl 4 rfl) ?_
      refine lv_if_ne (tgt := 47) hx hb d_17_26_42 (by decide) (fun c35 => ?_) (fun c35 => ?_)
      ·
        refine lv_aload_n hx hb d_17_26_47 rfl (lv_at hl 2 rfl) ?_
        refine lv_iload_n hx hb d_17_26_48 rfl (lv_at hl 3 rfl) ?_
        have ob37 : True ∧ S_FR_half x2 t0_0 t0_1 t0_2 t0_3 t0_4 t0_5 t0_6 t0_7 t0_8 t0_9 t0_10 t1_0 := (by have h := hS26; rw [S_FR_isMore_L5.eq_2] at h; rw [if_pos c30] at h; rw [if_neg c32] at h; rw [if_neg c35] at h; with_reducible exact h.2.1)
        refine q_goi V (q_runV (As := [.int x2]) (rest := []) (d := 1) (mc := 0) (ms := 0) (ci := 15) C0 V rfl LV_FR_98 (X_FR_half l D g q ws  x2 hI t0_0 t0_1 t0_2 t0_3 t0_4 t0_5 t0_6 t0_7 t0_8 t0_9 t0_10 hT0 t1_0 hT1 ob37 _) rfl rfl hT0 rfl hl.1 rfl (Nat.le_of_ble_eq_true rfl) ⟨by decide, by decide⟩ ⟨Nat.le_of_ble_eq_true rfl, Nat.le_of_ble_eq_true rfl⟩ d_17_26_49) (fun a40 u38 H locs hp39 V => ?_)
        obtain ⟨rfl, b41, b42, hE43⟩ := hp39
        have e44 : a40 = (F_FR_half x2 t0_0 t0_1 t0_2 t0_3 t0_4 t0_5 t0_6 t0_7 t0_8 t0_9 t0_10 t1_0) := hE43
        clear b41
        clear b42
        refine lv_istore (lv' := [(4, .int a40), (3, .int lx20), (0, .ref (q 145)), (1, .int x2), (2, .int x3)]) hx hb d_17_26_52 hl (by decide) rfl (fun ls hl => ?_)
        refine lv_iload_n hx hb d_17_26_54 rfl (lv_at hl 4 rfl) ?_
        refine lv_iconst (v := 1) hx hb d_17_26_55 (by decide) ?_
        refine lv_icmp_eq (tgt := 86) hx hb d_17_26_56 (by decide) (fun c45 => ?_) (fun c45 => ?_)
        ·
          refine lv_iconst (v := 1) hx hb d_17_26_86 (by decide) ?_
          refine lv_goto (tgt := 91) hx hb d_17_26_87 (by decide) ?_
          exact q_retz C0 V (by decide) (⟨rfl, (show 0 ≤ (1 : Int32).toInt from (by have z14 : (1 : Int32).toInt = 1 := rfl; omega)), (show (1 : Int32).toInt ≤ 1 from (by have z14 : (1 : Int32).toInt = 1 := rfl; omega)), (show (1 : Int32) = (F_FR_isMore x2 x3 t0_0 t0_1 t0_2 t0_3 t0_4 t0_5 t0_6 t0_7 t0_8 t0_9 t0_10 t1_0) from Eq.trans (by rw [F_FR_isMore_L5.eq_2, if_pos c30, if_neg c32, if_neg c35, if_pos c45]) hR25)⟩) d_17_26_91
        ·
          refine lv_iload hx hb d_17_26_59 (lv_at hl 0 rfl) ?_
          refine lv_if_gt (tgt := 86) hx hb d_17_26_61 (by decide) (fun c48 => ?_) (fun c48 => ?_)
          ·
            refine lv_iconst (v := 1) hx hb d_17_26_86 (by decide) ?_
            refine lv_goto (tgt := 91) hx hb d_17_26_87 (by decide) ?_
            exact q_retz C0 V (by decide) (⟨rfl, (show 0 ≤ (1 : Int32).toInt from (by have z14 : (1 : Int32).toInt = 1 := rfl; omega)), (show (1 : Int32).toInt ≤ 1 from (by have z14 : (1 : Int32).toInt = 1 := rfl; omega)), (show (1 : Int32) = (F_FR_isMore x2 x3 t0_0 t0_1 t0_2 t0_3 t0_4 t0_5 t0_6 t0_7 t0_8 t0_9 t0_10 t1_0) from Eq.trans (by have c48x := c48; rw [e44] at c48x; rw [F_FR_isMore_L5.eq_2, if_pos c30, if_neg c32, if_neg c35, if_neg c45, if_pos c48x]) hR25)⟩) d_17_26_91
          ·
            refine lv_iload hx hb d_17_26_64 (lv_at hl 0 rfl) ?_
            refine lv_if_ne (tgt := 90) hx hb d_17_26_66 (by decide) (fun c51 => ?_) (fun c51 => ?_)
            ·
              refine lv_iconst (v := 0) hx hb d_17_26_90 (by decide) ?_
              exact q_retz C0 V (by decide) (⟨rfl, (show 0 ≤ (0 : Int32).toInt from (by have z14 : (0 : Int32).toInt = 0 := rfl; omega)), (show (0 : Int32).toInt ≤ 1 from (by have z14 : (0 : Int32).toInt = 0 := rfl; omega)), (show (0 : Int32) = (F_FR_isMore x2 x3 t0_0 t0_1 t0_2 t0_3 t0_4 t0_5 t0_6 t0_7 t0_8 t0_9 t0_10 t1_0) from Eq.trans (by have c48x := c48; rw [e44] at c48x; have c51x := c51; rw [e44] at c51x; rw [F_FR_isMore_L5.eq_2, if_pos c30, if_neg c32, if_neg c35, if_neg c45, if_neg c48x, if_neg c51x]) hR25)⟩) d_17_26_91
            ·
              refine lv_iload_n hx hb d_17_26_69 rfl (lv_at hl 4 rfl) ?_
              refine lv_iconst (v := 2) hx hb d_17_26_70 (by decide) ?_
              refine lv_icmp_eq (tgt := 86) hx hb d_17_26_71 (by decide) (fun c54 => ?_) (fun c54 => ?_)
              ·
                refine lv_iconst (v := 1) hx hb d_17_26_86 (by decide) ?_
                refine lv_goto (tgt := 91) hx hb d_17_26_87 (by decide) ?_
                exact q_retz C0 V (by decide) (⟨rfl, (show 0 ≤ (1 : Int32).toInt from (by have z14 : (1 : Int32).toInt = 1 := rfl; omega)), (show (1 : Int32).toInt ≤ 1 from (by have z14 : (1 : Int32).toInt = 1 := rfl; omega)), (show (1 : Int32) = (F_FR_isMore x2 x3 t0_0 t0_1 t0_2 t0_3 t0_4 t0_5 t0_6 t0_7 t0_8 t0_9 t0_10 t1_0) from Eq.trans (by have c48x := c48; rw [e44] at c48x; have c51x := c51; rw [e44] at c51x; rw [F_FR_isMore_L5.eq_2, if_pos c30, if_neg c32, if_neg c35, if_neg c45, if_neg c48x, if_pos c51x, if_pos c54]) hR25)⟩) d_17_26_91
              ·
                refine lv_aload_n hx hb d_17_26_74 rfl (lv_at hl 2 rfl) ?_
                refine q_get (ci := 15) (j := 3) (v := .ref (q 148)) C0 V i_FR rfl rfl hT0 (by decide) w_2078 rfl d_17_26_75 ?_
                refine lv_iload_n hx hb d_17_26_78 rfl (lv_at hl 3 rfl) ?_
                have ob57 : q_F (0 ≤ x2.toInt) := (by have h := hS26; rw [S_FR_isMore_L5.eq_2] at h; rw [if_pos c30] at h; rw [if_neg c32] at h; rw [if_neg c35] at h; replace h := q_s2 h; rw [if_neg c45] at h; have c48x := c48; rw [e44] at c48x; rw [if_neg c48x] at h; have c51x := c51; rw [e44] at c51x; rw [if_pos c51x] at h; rw [if_neg c54] at h; exact h.2.1)
                have ob58 : q_F (x2.toInt ≤ 1403) := (by have h := hS26; rw [S_FR_isMore_L5.eq_2] at h; rw [if_pos c30] at h; rw [if_neg c32] at h; rw [if_neg c35] at h; replace h := q_s2 h; rw [if_neg c45] at h; have c48x := c48; rw [e44] at c48x; rw [if_neg c48x] at h; have c51x := c51; rw [e44] at c51x; rw [if_pos c51x] at h; rw [if_neg c54] at h; replace h := q_s2 h; exact h.2.1)
                refine q_iald C0 V hT1 (q_ix (x := x2.toInt) rfl (by first | with_reducible exact q_fe ob57 | (have t1 : 0 ≤ x2.toInt := ob57; omega)) (by have t1 : 0 ≤ x2.toInt := ob57; have t2 : x2.toInt ≤ 1403 := ob58; have e9 : (((1404 : Int32).toNatClampNeg : Nat) : Int) = 1404 := (by decide); omega)) d_17_26_79 ?_
                obtain ⟨a59, e60⟩ := q_nm (t1_0 x2.toNatClampNeg : Int32)
                refine q_ti (v := a59) e60 ?_
                refine lv_iconst (v := 2) hx hb d_17_26_80 (by decide) ?_
                refine lv_irem hx hb d_17_26_81 (by decide) ?_
                obtain ⟨a61, e62⟩ := q_nm (a59 - a59 / 2 * 2 : Int32)
                refine q_ti (v := a61) e62 ?_
                refine lv_iconst (v := 1) hx hb d_17_26_82 (by decide) ?_
                refine lv_icmp_ne (tgt := 90) hx hb d_17_26_83 (by decide) (fun c63 => ?_) (fun c63 => ?_)
                ·
                  refine lv_iconst (v := 0) hx hb d_17_26_90 (by decide) ?_
                  exact q_retz C0 V (by decide) (⟨rfl, (show 0 ≤ (0 : Int32).toInt from (by have z14 : (0 : Int32).toInt = 0 := rfl; omega)), (show (0 : Int32).toInt ≤ 1 from (by have z14 : (0 : Int32).toInt = 0 := rfl; omega)), (show (0 : Int32) = (F_FR_isMore x2 x3 t0_0 t0_1 t0_2 t0_3 t0_4 t0_5 t0_6 t0_7 t0_8 t0_9 t0_10 t1_0) from Eq.trans (by have c48x := c48; rw [e44] at c48x; have c51x := c51; rw [e44] at c51x; have c63x := c63; rw [← e62, ← e60] at c63x; rw [F_FR_isMore_L5.eq_2, if_pos c30, if_neg c32, if_neg c35, if_neg c45, if_neg c48x, if_pos c51x, if_neg c54, if_neg c63x]) hR25)⟩) d_17_26_91
                ·
                  refine lv_iconst (v := 1) hx hb d_17_26_86 (by decide) ?_
                  refine lv_goto (tgt := 91) hx hb d_17_26_87 (by decide) ?_
                  exact q_retz C0 V (by decide) (⟨rfl, (show 0 ≤ (1 : Int32).toInt from (by have z14 : (1 : Int32).toInt = 1 := rfl; omega)), (show (1 : Int32).toInt ≤ 1 from (by have z14 : (1 : Int32).toInt = 1 := rfl; omega)), (show (1 : Int32) = (F_FR_isMore x2 x3 t0_0 t0_1 t0_2 t0_3 t0_4 t0_5 t0_6 t0_7 t0_8 t0_9 t0_10 t1_0) from Eq.trans (by have c48x := c48; rw [e44] at c48x; have c51x := c51; rw [e44] at c51x; have c63x := c63; rw [← e62, ← e60] at c63x; rw [F_FR_isMore_L5.eq_2, if_pos c30, if_neg c32, if_neg c35, if_neg c45, if_neg c48x, if_pos c51x, if_neg c54, if_pos c63x]) hR25)⟩) d_17_26_91
      ·
        refine lv_iconst (v := 0) hx hb d_17_26_45 (by decide) ?_
        exact q_retz C0 V (by decide) (⟨rfl, (show 0 ≤ (0 : Int32).toInt from (by have z14 : (0 : Int32).toInt = 0 := rfl; omega)), (show (0 : Int32).toInt ≤ 1 from (by have z14 : (0 : Int32).toInt = 0 := rfl; omega)), (show (0 : Int32) = (F_FR_isMore x2 x3 t0_0 t0_1 t0_2 t0_3 t0_4 t0_5 t0_6 t0_7 t0_8 t0_9 t0_10 t1_0) from Eq.trans (by rw [F_FR_isMore_L5.eq_2, if_pos c30, if_neg c32, if_pos c35]) hR25)⟩) d_17_26_46
  ·
    have b67 : q_F (lx19.toInt < x2.toInt) := (q_nleI c30)
    refine lv_iload_n hx hb d_17_26_11 rfl (lv_at hl 1 rfl) ?_
    refine lv_if_ne (tgt := 25) hx hb d_17_26_12 (by decide) (fun c68 => ?_) (fun c68 => ?_)
    ·
      refine lv_iconst (v := 1) hx hb d_17_26_25 (by decide) ?_
      refine lv_goto (tgt := 30) hx hb d_17_26_26 (by decide) ?_
      refine lv_istore_n (lv' := [(3, .int 1), (4, .int lx19), (0, .ref (q 145)), (1, .int x2), (2, .int x3)]) hx hb d_17_26_30 rfl hl (by decide) rfl (fun ls hl => ?_)
      obtain ⟨a70, e71⟩ := q_nm (lx19 + 1 : Int32)
      have b72 : q_F (a70.toInt = lx19.toInt + 1) := (by rw [← e71]; exact q_addI (y := 1) rfl (by decide) (by have _ := q_lo32 (x := lx19); have _ := q_hi32 (x := lx19); have t1 : lx19.toInt < x2.toInt := b67; have _ := q_lo32 (x := x2); have _ := q_hi32 (x := x2); omega) (by have _ := q_lo32 (x := lx19); have _ := q_hi32 (x := lx19); have t1 : lx19.toInt < x2.toInt := b67; have _ := q_lo32 (x := x2); have _ := q_hi32 (x := x2); omega))
      refine lv_iinc (v := a70) (lv' := [(4, .int a70), (3, .int 1), (0, .ref (q 145)), (1, .int x2), (2, .int x3)]) hx hb d_17_26_31 hl (k := 1) rfl (e71) (by decide) rfl (fun ls hl => ?_)
      refine lv_goto (tgt := 5) hx hb d_17_26_34 (by decide) ?_
      exact ih24 ((a70 : Int32), (1 : Int32)) _ _ _ ws (show (x2.toInt - a70.toInt).toNat < (x2.toInt - lx19.toInt).toNat from by have t1 : a70.toInt = lx19.toInt + 1 := b72; have t2 : lx19.toInt < x2.toInt := b67; omega) ⟨(show q_F (0 ≤ 1) from (show 0 ≤ 1 from by omega)), (show q_F (1 ≤ 1) from (show 1 ≤ 1 from by omega)), (show q_F (1 ≤ a70.toInt) from (show 1 ≤ a70.toInt from by have t1 : 0 ≤ lx20.toInt := i21; have t2 : lx20.toInt ≤ lx19.toInt := i23; have t3 : a70.toInt = lx19.toInt + 1 := b72; omega)), V, q_lw hl (q_lw1 0 rfl (q_lw1 1 rfl (q_lw1 2 rfl (q_lw1 3 rfl (q_lw1 4 rfl q_lw0))))), ⟨fm29, Nat.lt_of_lt_of_le (show (x2.toInt - a70.toInt).toNat < (x2.toInt - lx19.toInt).toNat from by have t1 : a70.toInt = lx19.toInt + 1 := b72; have t2 : lx19.toInt < x2.toInt := b67; omega) (Nat.le_of_lt_succ hf28), (show F_FR_isMore_L5 x2 x3 t0_0 t0_1 t0_2 t0_3 t0_4 t0_5 t0_6 t0_7 t0_8 t0_9 t0_10 t1_0 fm29 a70 1 = (F_FR_isMore x2 x3 t0_0 t0_1 t0_2 t0_3 t0_4 t0_5 t0_6 t0_7 t0_8 t0_9 t0_10 t1_0) from Eq.trans (by rw [← e71, F_FR_isMore_L5.eq_2, if_neg c30, if_neg c68]) hR25), (show True ∧ S_FR_isMore_L5 x2 x3 t0_0 t0_1 t0_2 t0_3 t0_4 t0_5 t0_6 t0_7 t0_8 t0_9 t0_10 t1_0 fm29 a70 1 from (by rw [← e71]; have h := hS26; rw [S_FR_isMore_L5.eq_2] at h; rw [if_neg c30] at h; rw [if_neg c68] at h; with_reducible exact h))⟩⟩
    ·
      refine lv_aload_n hx hb d_17_26_15 rfl (lv_at hl 2 rfl) ?_
      refine q_get (ci := 15) (j := 3) (v := .ref (q 148)) C0 V i_FR rfl rfl hT0 (by decide) w_2078 rfl d_17_26_16 ?_
      refine lv_iload hx hb d_17_26_19 (lv_at hl 0 rfl) ?_
      have ob74 : q_F (lx19.toInt ≤ 1403) := (by have h := hS26; rw [S_FR_isMore_L5.eq_2] at h; rw [if_neg c30] at h; rw [if_pos c68] at h; exact h.2.1)
      refine q_iald C0 V hT1 (q_ix (x := lx19.toInt) rfl (by have t1 : 0 ≤ lx20.toInt := i21; have t2 : lx20.toInt ≤ lx19.toInt := i23; omega) (by have t1 : 0 ≤ lx20.toInt := i21; have t2 : lx20.toInt ≤ lx19.toInt := i23; have t3 : lx19.toInt ≤ 1403 := ob74; have e9 : (((1404 : Int32).toNatClampNeg : Nat) : Int) = 1404 := (by decide); omega)) d_17_26_21 ?_
      obtain ⟨a75, e76⟩ := q_nm (t1_0 lx19.toNatClampNeg : Int32)
      refine q_ti (v := a75) e76 ?_
      refine lv_if_eq (tgt := 29) hx hb d_17_26_22 (by decide) (fun c77 => ?_) (fun c77 => ?_)
      ·
        refine lv_iconst (v := 0) hx hb d_17_26_29 (by decide) ?_
        refine lv_istore_n (lv' := [(3, .int 0), (4, .int lx19), (0, .ref (q 145)), (1, .int x2), (2, .int x3)]) hx hb d_17_26_30 rfl hl (by decide) rfl (fun ls hl => ?_)
        obtain ⟨a79, e80⟩ := q_nm (lx19 + 1 : Int32)
        have b81 : q_F (a79.toInt = lx19.toInt + 1) := (by rw [← e80]; exact q_addI (y := 1) rfl (by decide) (by have _ := q_lo32 (x := lx19); have _ := q_hi32 (x := lx19); have t1 : lx19.toInt ≤ 1403 := ob74; omega) (by have _ := q_lo32 (x := lx19); have _ := q_hi32 (x := lx19); have t1 : lx19.toInt ≤ 1403 := ob74; omega))
        refine lv_iinc (v := a79) (lv' := [(4, .int a79), (3, .int 0), (0, .ref (q 145)), (1, .int x2), (2, .int x3)]) hx hb d_17_26_31 hl (k := 1) rfl (e80) (by decide) rfl (fun ls hl => ?_)
        refine lv_goto (tgt := 5) hx hb d_17_26_34 (by decide) ?_
        exact ih24 ((a79 : Int32), (0 : Int32)) _ _ _ ws (show (x2.toInt - a79.toInt).toNat < (x2.toInt - lx19.toInt).toNat from by have t1 : a79.toInt = lx19.toInt + 1 := b81; have t2 : lx19.toInt < x2.toInt := b67; omega) ⟨(show q_F (0 ≤ 0) from (show 0 ≤ 0 from by omega)), (show q_F (0 ≤ 1) from (show 0 ≤ 1 from by omega)), (show q_F (0 ≤ a79.toInt) from (show 0 ≤ a79.toInt from by have t1 : 0 ≤ lx20.toInt := i21; have t2 : lx20.toInt ≤ lx19.toInt := i23; have t3 : a79.toInt = lx19.toInt + 1 := b81; omega)), V, q_lw hl (q_lw1 0 rfl (q_lw1 1 rfl (q_lw1 2 rfl (q_lw1 3 rfl (q_lw1 4 rfl q_lw0))))), ⟨fm29, Nat.lt_of_lt_of_le (show (x2.toInt - a79.toInt).toNat < (x2.toInt - lx19.toInt).toNat from by have t1 : a79.toInt = lx19.toInt + 1 := b81; have t2 : lx19.toInt < x2.toInt := b67; omega) (Nat.le_of_lt_succ hf28), (show F_FR_isMore_L5 x2 x3 t0_0 t0_1 t0_2 t0_3 t0_4 t0_5 t0_6 t0_7 t0_8 t0_9 t0_10 t1_0 fm29 a79 0 = (F_FR_isMore x2 x3 t0_0 t0_1 t0_2 t0_3 t0_4 t0_5 t0_6 t0_7 t0_8 t0_9 t0_10 t1_0) from Eq.trans (by have c77x := c77; rw [← e76] at c77x; rw [← e80, F_FR_isMore_L5.eq_2, if_neg c30, if_pos c68, if_pos c77x]) hR25), (show True ∧ S_FR_isMore_L5 x2 x3 t0_0 t0_1 t0_2 t0_3 t0_4 t0_5 t0_6 t0_7 t0_8 t0_9 t0_10 t1_0 fm29 a79 0 from (by rw [← e80]; have h := hS26; rw [S_FR_isMore_L5.eq_2] at h; rw [if_neg c30] at h; rw [if_pos c68] at h; replace h := q_s2 h; have c77x := c77; rw [← e76] at c77x; rw [if_pos c77x] at h; with_reducible exact h))⟩⟩
      ·
        refine lv_iconst (v := 1) hx hb d_17_26_25 (by decide) ?_
        refine lv_goto (tgt := 30) hx hb d_17_26_26 (by decide) ?_
        refine lv_istore_n (lv' := [(3, .int 1), (4, .int lx19), (0, .ref (q 145)), (1, .int x2), (2, .int x3)]) hx hb d_17_26_30 rfl hl (by decide) rfl (fun ls hl => ?_)
        obtain ⟨a83, e84⟩ := q_nm (lx19 + 1 : Int32)
        have b85 : q_F (a83.toInt = lx19.toInt + 1) := (by rw [← e84]; exact q_addI (y := 1) rfl (by decide) (by have _ := q_lo32 (x := lx19); have _ := q_hi32 (x := lx19); have t1 : lx19.toInt ≤ 1403 := ob74; omega) (by have _ := q_lo32 (x := lx19); have _ := q_hi32 (x := lx19); have t1 : lx19.toInt ≤ 1403 := ob74; omega))
        refine lv_iinc (v := a83) (lv' := [(4, .int a83), (3, .int 1), (0, .ref (q 145)), (1, .int x2), (2, .int x3)]) hx hb d_17_26_31 hl (k := 1) rfl (e84) (by decide) rfl (fun ls hl => ?_)
        refine lv_goto (tgt := 5) hx hb d_17_26_34 (by decide) ?_
        exact ih24 ((a83 : Int32), (1 : Int32)) _ _ _ ws (show (x2.toInt - a83.toInt).toNat < (x2.toInt - lx19.toInt).toNat from by have t1 : a83.toInt = lx19.toInt + 1 := b85; have t2 : lx19.toInt < x2.toInt := b67; omega) ⟨(show q_F (0 ≤ 1) from (show 0 ≤ 1 from by omega)), (show q_F (1 ≤ 1) from (show 1 ≤ 1 from by omega)), (show q_F (1 ≤ a83.toInt) from (show 1 ≤ a83.toInt from by have t1 : 0 ≤ lx20.toInt := i21; have t2 : lx20.toInt ≤ lx19.toInt := i23; have t3 : a83.toInt = lx19.toInt + 1 := b85; omega)), V, q_lw hl (q_lw1 0 rfl (q_lw1 1 rfl (q_lw1 2 rfl (q_lw1 3 rfl (q_lw1 4 rfl q_lw0))))), ⟨fm29, Nat.lt_of_lt_of_le (show (x2.toInt - a83.toInt).toNat < (x2.toInt - lx19.toInt).toNat from by have t1 : a83.toInt = lx19.toInt + 1 := b85; have t2 : lx19.toInt < x2.toInt := b67; omega) (Nat.le_of_lt_succ hf28), (show F_FR_isMore_L5 x2 x3 t0_0 t0_1 t0_2 t0_3 t0_4 t0_5 t0_6 t0_7 t0_8 t0_9 t0_10 t1_0 fm29 a83 1 = (F_FR_isMore x2 x3 t0_0 t0_1 t0_2 t0_3 t0_4 t0_5 t0_6 t0_7 t0_8 t0_9 t0_10 t1_0) from Eq.trans (by have c77x := c77; rw [← e76] at c77x; rw [← e84, F_FR_isMore_L5.eq_2, if_neg c30, if_pos c68, if_neg c77x]) hR25), (show True ∧ S_FR_isMore_L5 x2 x3 t0_0 t0_1 t0_2 t0_3 t0_4 t0_5 t0_6 t0_7 t0_8 t0_9 t0_10 t1_0 fm29 a83 1 from (by rw [← e84]; have h := hS26; rw [S_FR_isMore_L5.eq_2] at h; rw [if_neg c30] at h; rw [if_pos c68] at h; replace h := q_s2 h; have c77x := c77; rw [← e76] at c77x; rw [if_neg c77x] at h; with_reducible exact h))⟩⟩
theorem d_17_16_0 : decode prog_17_method_16_code 0 = .ok (.aload_n 0, 1) := by decide +kernel
theorem d_17_16_1 : decode prog_17_method_16_code 1 = .ok (.getfield 28, 3) := by decide +kernel
theorem d_17_16_4 : decode prog_17_method_16_code 4 = .ok (.aload_n 0, 1) := by decide +kernel
theorem d_17_16_5 : decode prog_17_method_16_code 5 = .ok (.getfield 107, 3) := by decide +kernel
set_option maxRecDepth 100000 in
theorem w_2084 : (Cond.fieldLink "NumberHouseModel$FloatRows" (107 : Nat) "NumberHouseModel$FloatRows" "length" "I") ∈ q_tbl := q_of9 164 rfl (by decide +kernel)
theorem d_17_16_8 : decode prog_17_method_16_code 8 = .ok (.iload_n 1, 1) := by decide +kernel
theorem d_17_16_9 : decode prog_17_method_16_code 9 = .ok (.iastore, 1) := by decide +kernel
theorem d_17_16_10 : decode prog_17_method_16_code 10 = .ok (.aload_n 0, 1) := by decide +kernel
theorem d_17_16_11 : decode prog_17_method_16_code 11 = .ok (.dup, 1) := by decide +kernel
theorem d_17_16_12 : decode prog_17_method_16_code 12 = .ok (.getfield 107, 3) := by decide +kernel
theorem d_17_16_15 : decode prog_17_method_16_code 15 = .ok (.iconst 1, 1) := by decide +kernel
theorem d_17_16_16 : decode prog_17_method_16_code 16 = .ok (.iadd, 1) := by decide +kernel
theorem d_17_16_17 : decode prog_17_method_16_code 17 = .ok (.putfield 107, 3) := by decide +kernel
theorem d_17_16_20 : decode prog_17_method_16_code 20 = .ok (.return_, 1) := by decide +kernel
def y_FR_add : MethodName := ⟨"NumberHouseModel$FloatRows", "add", "(I)V"⟩
def F_FR_add (x2 : Int32) (t0_0 : Int32) (t0_1 : Int32) (t0_2 : Int32) (t0_3 : Int32) (t0_4 : Int64) (t0_5 : Int32) (t0_6 : Int32) (t0_7 : Int64) (t0_8 : Int32) (t0_9 : Int64) (t0_10 : Int32) (t1_0 : (Nat → Int32)) : Int32 × Int32 × Int32 × Int32 × Int64 × Int32 × Int32 × Int64 × Int32 × Int64 × Int32 × (Nat → Int32) := (t0_0, (t0_1 + 1 : Int32), t0_2, t0_3, t0_4, t0_5, t0_6, t0_7, t0_8, t0_9, t0_10, (upd t1_0 t0_1.toNatClampNeg x2 : (Nat → Int32)))
def S_FR_add (x2 : Int32) (t0_0 : Int32) (t0_1 : Int32) (t0_2 : Int32) (t0_3 : Int32) (t0_4 : Int64) (t0_5 : Int32) (t0_6 : Int32) (t0_7 : Int64) (t0_8 : Int32) (t0_9 : Int64) (t0_10 : Int32) (t1_0 : (Nat → Int32)) : Prop := (0 ≤ t0_1.toInt) ∧ ((t0_1.toInt ≤ 1599) ∧ (True))
set_option maxRecDepth 100000 in
set_option maxHeartbeats 4000000 in
theorem X_FR_add (l : Launch) (D : va_G) (g : Nat → ClassId) (q : Nat → Nat) (ws : va_W) (x2 : Int32) (hI : q_I (msh g q) q ws) (t0_0 : Int32) (t0_1 : Int32) (t0_2 : Int32) (t0_3 : Int32) (t0_4 : Int64) (t0_5 : Int32) (t0_6 : Int32) (t0_7 : Int64) (t0_8 : Int32) (t0_9 : Int64) (t0_10 : Int32) (hT0 : ws[145]? = (some (q 145, .inr (15, [.int t0_0, .ref (q 146), .ref (q 147), .ref (q 148), .ref (q 149), .ref (q 150), .ref (q 151), .ref (q 152), .int t0_1, .int t0_2, .int t0_3, .long t0_4, .int t0_5, .int t0_6, .long t0_7, .int t0_8, .long t0_9, .int t0_10])) : Option (Nat × va_E))) (t1_0 : (Nat → Int32)) (hT1 : ws[152]? = (some (q 152, .inl (g 0, (1600 : Int32).toNatClampNeg, .inl t1_0)) : Option (Nat × va_E))) (hS : True ∧ S_FR_add x2 t0_0 t0_1 t0_2 t0_3 t0_4 t0_5 t0_6 t0_7 t0_8 t0_9 t0_10 t1_0) : q_mV l y_FR_add prog_17_method_16_code 2 1 0 0 D g [.ref (q 145), .int x2] ws (fun u => q_I (msh g q) q u ∧ q_un ws u [145, 152] ∧ ∃ (u0_0 : Int32) (u0_1 : Int32) (u0_2 : Int32) (u0_3 : Int32) (u0_4 : Int64) (u0_5 : Int32) (u0_6 : Int32) (u0_7 : Int64) (u0_8 : Int32) (u0_9 : Int64) (u0_10 : Int32) (u1_0 : (Nat → Int32)), u[145]? = (some (q 145, .inr (15, [.int u0_0, .ref (q 146), .ref (q 147), .ref (q 148), .ref (q 149), .ref (q 150), .ref (q 151), .ref (q 152), .int u0_1, .int u0_2, .int u0_3, .long u0_4, .int u0_5, .int u0_6, .long u0_7, .int u0_8, .long u0_9, .int u0_10])) : Option (Nat × va_E)) ∧ u[152]? = (some (q 152, .inl (g 0, (1600 : Int32).toNatClampNeg, .inl u1_0)) : Option (Nat × va_E)) ∧ (1 ≤ u0_1.toInt) ∧ (u0_1.toInt ≤ 1600) ∧ (t0_0.toInt ≤ u0_0.toInt) ∧ (u0_0.toInt ≤ t0_0.toInt) ∧ (t0_1.toInt + 1 ≤ u0_1.toInt) ∧ (u0_1.toInt ≤ t0_1.toInt + 1) ∧ (t0_2.toInt ≤ u0_2.toInt) ∧ (u0_2.toInt ≤ t0_2.toInt) ∧ (t0_3.toInt ≤ u0_3.toInt) ∧ (u0_3.toInt ≤ t0_3.toInt) ∧ (t0_4.toInt ≤ u0_4.toInt) ∧ (u0_4.toInt ≤ t0_4.toInt) ∧ (t0_5.toInt ≤ u0_5.toInt) ∧ (u0_5.toInt ≤ t0_5.toInt) ∧ (t0_6.toInt ≤ u0_6.toInt) ∧ (u0_6.toInt ≤ t0_6.toInt) ∧ (t0_7.toInt ≤ u0_7.toInt) ∧ (u0_7.toInt ≤ t0_7.toInt) ∧ (t0_8.toInt ≤ u0_8.toInt) ∧ (u0_8.toInt ≤ t0_8.toInt) ∧ (t0_9.toInt ≤ u0_9.toInt) ∧ (u0_9.toInt ≤ t0_9.toInt) ∧ (t0_10.toInt ≤ u0_10.toInt) ∧ (u0_10.toInt ≤ t0_10.toInt) ∧ (u0_0, u0_1, u0_2, u0_3, u0_4, u0_5, u0_6, u0_7, u0_8, u0_9, u0_10, u1_0) = (F_FR_add x2 t0_0 t0_1 t0_2 t0_3 t0_4 t0_5 t0_6 t0_7 t0_8 t0_9 t0_10 t1_0)) := by
  intro sz
  refine q_into (by decide) (Nat.le_of_ble_eq_true rfl) ?_
  intro p e s m below meth c ls hsz C0 V hl
  have hx := C0.1
  have hb := C0.2.1
  have btt0_2 := n_w145 hI hT0
  replace btt0_2 : q_F (0 ≤ t0_2.toInt ∧ t0_2.toInt ≤ 1) := btt0_2
  have hF : q_un ws ws [145, 152] := q_u0
  have hl : lv_has ls 2 [(0, .ref (q 145)), (1, .int x2)] := hl
  refine lv_aload_n hx hb d_17_16_0 rfl (lv_at hl 0 rfl) ?_
  refine q_get (ci := 15) (j := 7) (v := .ref (q 152)) C0 V i_FR rfl rfl hT0 (by decide) w_2082 rfl d_17_16_1 ?_
  refine lv_aload_n hx hb d_17_16_4 rfl (lv_at hl 0 rfl) ?_
  refine q_get (ci := 15) (j := 8) (v := .int t0_1) C0 V i_FR rfl rfl hT0 (by decide) w_2084 rfl d_17_16_5 ?_
  refine lv_iload_n hx hb d_17_16_8 rfl (lv_at hl 1 rfl) ?_
  have ob17 : q_F (0 ≤ t0_1.toInt) := (by have h := hS; rw [S_FR_add.eq_1] at h; exact h.2.1)
  have ob18 : q_F (t0_1.toInt ≤ 1599) := (by have h := hS; rw [S_FR_add.eq_1] at h; replace h := q_s2 h; exact h.2.1)
  refine q_iast C0 V hT1 (q_ix (x := t0_1.toInt) rfl (by first | with_reducible exact q_fe ob17 | (have t1 : 0 ≤ t0_1.toInt := ob17; omega)) (by have t1 : 0 ≤ t0_1.toInt := ob17; have t2 : t0_1.toInt ≤ 1599 := ob18; have e9 : (((1600 : Int32).toNatClampNeg : Nat) : Int) = 1600 := (by decide); omega)) d_17_16_9 (fun H locs w19 hu20 hT1 V => ?_)
  replace hI := n_ai' hI (n_r152 g q).1 hu20 hT1 (q_updB (fun _ => s_bnd) s_bnd)
  replace hT0 := (hu20 _ (by decide)).trans hT0
  replace hF := q_us hF hu20 (by simp)
  obtain ⟨f21, e22⟩ := q_nm (upd t1_0 t0_1.toNatClampNeg x2 : (Nat → Int32))
  rw [e22] at hT1
  refine lv_aload_n hx hb d_17_16_10 rfl (lv_at hl 0 rfl) ?_
  refine lv_dup hx hb d_17_16_11 rfl ?_
  refine q_get (ci := 15) (j := 8) (v := .int t0_1) C0 V i_FR rfl rfl hT0 (by decide) w_2084 rfl d_17_16_12 ?_
  refine lv_iconst (v := 1) hx hb d_17_16_15 (by decide) ?_
  refine lv_iadd hx hb d_17_16_16 ?_
  obtain ⟨a23, e24⟩ := q_nm (t0_1 + 1 : Int32)
  refine q_ti (v := a23) e24 ?_
  have b25 : q_F (a23.toInt = t0_1.toInt + 1) := (by rw [← e24]; show (t0_1 + 1 : Int32).toInt = t0_1.toInt + 1; exact q_addI (x := t0_1.toInt) (y := 1) rfl (by decide) (by have t1 : 0 ≤ t0_1.toInt := ob17; have t2 : t0_1.toInt ≤ 1599 := ob18; omega) (by have t1 : 0 ≤ t0_1.toInt := ob17; have t2 : t0_1.toInt ≤ 1599 := ob18; omega))
  refine q_put (ci := 15) (j := 8) (v := .int a23) (ty := .int) C0 V i_FR o_FR n_FR rfl rfl hT0 (by decide) w_2084 rfl rfl rfl rfl (Nat.le_of_ble_eq_true rfl) d_17_16_17 (fun H locs w26 hu27 hT0 V => ?_)
  replace hT0 : w26[145]? = (some (q 145, .inr (15, [.int t0_0, .ref (q 146), .ref (q 147), .ref (q 148), .ref (q 149), .ref (q 150), .ref (q 151), .ref (q 152), .int a23, .int t0_2, .int t0_3, .long t0_4, .int t0_5, .int t0_6, .long t0_7, .int t0_8, .long t0_9, .int t0_10])) : Option (Nat × va_E)) := hT0
  replace hI := n_p145 hI hu27 hT0 (by first | with_reducible exact q_fe btt0_2 | exact ⟨(by have t1 : 0 ≤ t0_2.toInt ∧ t0_2.toInt ≤ 1 := btt0_2; omega), (by have t1 : 0 ≤ t0_2.toInt ∧ t0_2.toInt ≤ 1 := btt0_2; omega)⟩)
  replace hT1 := (hu27 _ (by decide)).trans hT1
  replace hF := q_us hF hu27 (by simp)
  exact q_retv C0 V (⟨hI, hF, t0_0, a23, t0_2, t0_3, t0_4, t0_5, t0_6, t0_7, t0_8, t0_9, t0_10, f21, hT0, hT1, (show 1 ≤ a23.toInt from (by have t1 : 0 ≤ t0_1.toInt := ob17; have t2 : a23.toInt = t0_1.toInt + 1 := b25; omega)), (show a23.toInt ≤ 1600 from (by have t1 : t0_1.toInt ≤ 1599 := ob18; have t2 : a23.toInt = t0_1.toInt + 1 := b25; omega)), (show t0_0.toInt ≤ t0_0.toInt from (by omega)), (show t0_0.toInt ≤ t0_0.toInt from (by omega)), (show t0_1.toInt + 1 ≤ a23.toInt from (by first | with_reducible exact q_fe b25 | (have t1 : a23.toInt = t0_1.toInt + 1 := b25; omega))), (show a23.toInt ≤ t0_1.toInt + 1 from (by first | with_reducible exact q_fe b25 | (have t1 : a23.toInt = t0_1.toInt + 1 := b25; omega))), (show t0_2.toInt ≤ t0_2.toInt from (by omega)), (show t0_2.toInt ≤ t0_2.toInt from (by omega)), (show t0_3.toInt ≤ t0_3.toInt from (by omega)), (show t0_3.toInt ≤ t0_3.toInt from (by omega)), (show t0_4.toInt ≤ t0_4.toInt from (by omega)), (show t0_4.toInt ≤ t0_4.toInt from (by omega)), (show t0_5.toInt ≤ t0_5.toInt from (by omega)), (show t0_5.toInt ≤ t0_5.toInt from (by omega)), (show t0_6.toInt ≤ t0_6.toInt from (by omega)), (show t0_6.toInt ≤ t0_6.toInt from (by omega)), (show t0_7.toInt ≤ t0_7.toInt from (by omega)), (show t0_7.toInt ≤ t0_7.toInt from (by omega)), (show t0_8.toInt ≤ t0_8.toInt from (by omega)), (show t0_8.toInt ≤ t0_8.toInt from (by omega)), (show t0_9.toInt ≤ t0_9.toInt from (by omega)), (show t0_9.toInt ≤ t0_9.toInt from (by omega)), (show t0_10.toInt ≤ t0_10.toInt from (by omega)), (show t0_10.toInt ≤ t0_10.toInt from (by omega)), (show (t0_0, a23, t0_2, t0_3, t0_4, t0_5, t0_6, t0_7, t0_8, t0_9, t0_10, f21) = (F_FR_add x2 t0_0 t0_1 t0_2 t0_3 t0_4 t0_5 t0_6 t0_7 t0_8 t0_9 t0_10 t1_0) from (by rw [← e24, ← e22, F_FR_add.eq_1]))⟩) d_17_16_20
theorem d_17_17_0 : decode prog_17_method_17_code 0 = .ok (.aload_n 0, 1) := by decide +kernel
theorem d_17_17_1 : decode prog_17_method_17_code 1 = .ok (.iconst 0, 1) := by decide +kernel
theorem d_17_17_2 : decode prog_17_method_17_code 2 = .ok (.putfield 107, 3) := by decide +kernel
theorem d_17_17_5 : decode prog_17_method_17_code 5 = .ok (.aload_n 0, 1) := by decide +kernel
theorem d_17_17_6 : decode prog_17_method_17_code 6 = .ok (.getfield 41, 3) := by decide +kernel
theorem d_17_17_9 : decode prog_17_method_17_code 9 = .ok (.ifCond .eq 9, 3) := by decide +kernel
theorem d_17_17_18 : decode prog_17_method_17_code 18 = .ok (.return_, 1) := by decide +kernel
theorem d_17_17_12 : decode prog_17_method_17_code 12 = .ok (.aload_n 0, 1) := by decide +kernel
theorem d_17_17_13 : decode prog_17_method_17_code 13 = .ok (.bipush 45, 2) := by decide +kernel
theorem d_17_17_15 : decode prog_17_method_17_code 15 = .ok (.invokevirtual 110, 3) := by decide +kernel
set_option maxRecDepth 100000 in
theorem w_3002 : (Cond.code ({ cls := "NumberHouseModel$FloatRows", name := "add", desc := "(I)V" } : MethodName) prog_17_method_16_code (2 : Nat) (none : Option ClassFile.FieldType)) ∈ q_tbl := q_of13 122 rfl (by decide +kernel)
set_option maxRecDepth 100000 in
theorem w_2999 : (Cond.methodLink "NumberHouseModel$FloatRows" (110 : Nat) ({ cls := "NumberHouseModel$FloatRows", name := "add", desc := "(I)V" } : MethodName)) ∈ q_tbl := q_of13 119 rfl (by decide +kernel)
set_option maxRecDepth 100000 in
theorem w_3001 : (Cond.instanceMethod ({ cls := "NumberHouseModel$FloatRows", name := "add", desc := "(I)V" } : MethodName)) ∈ q_tbl := q_of13 121 rfl (by decide +kernel)
theorem ws_138 : Cond.selects "NumberHouseModel$FloatRows" (⟨"NumberHouseModel$FloatRows", "add", "(I)V"⟩ : MethodName) (⟨"NumberHouseModel$FloatRows", "add", "(I)V"⟩ : MethodName) ∈ q_tbl := q_ofs 138 (by decide +kernel) (by decide +kernel)
theorem LV_FR_110 : q_LV "NumberHouseModel$FloatRows" 110 y_FR_add prog_17_method_16_code 2 none 1 := ⟨w_3002, w_17, w_2999, w_3001, ws_138, ⟨by decide, by decide, by decide +kernel⟩⟩
def y_FR_begin : MethodName := ⟨"NumberHouseModel$FloatRows", "begin", "()V"⟩
def F_FR_begin_c15 (t0_0 : Int32) (t0_1 : Int32) (t0_2 : Int32) (t0_3 : Int32) (t0_4 : Int64) (t0_5 : Int32) (t0_6 : Int32) (t0_7 : Int64) (t0_8 : Int32) (t0_9 : Int64) (t0_10 : Int32) (t1_0 : (Nat → Int32)) (p65 : (Int32 × Int32 × Int32 × Int32 × Int64 × Int32 × Int32 × Int64 × Int32 × Int64 × Int32 × (Nat → Int32))) : Int32 × Int32 × Int32 × Int32 × Int64 × Int32 × Int32 × Int64 × Int32 × Int64 × Int32 × (Nat → Int32) := ((p65.1 : Int32), (p65.2.1 : Int32), (p65.2.2.1 : Int32), (p65.2.2.2.1 : Int32), (p65.2.2.2.2.1 : Int64), (p65.2.2.2.2.2.1 : Int32), (p65.2.2.2.2.2.2.1 : Int32), (p65.2.2.2.2.2.2.2.1 : Int64), (p65.2.2.2.2.2.2.2.2.1 : Int32), (p65.2.2.2.2.2.2.2.2.2.1 : Int64), (p65.2.2.2.2.2.2.2.2.2.2.1 : Int32), (p65.2.2.2.2.2.2.2.2.2.2.2 : (Nat → Int32)))
def F_FR_begin (t0_0 : Int32) (t0_1 : Int32) (t0_2 : Int32) (t0_3 : Int32) (t0_4 : Int64) (t0_5 : Int32) (t0_6 : Int32) (t0_7 : Int64) (t0_8 : Int32) (t0_9 : Int64) (t0_10 : Int32) (t1_0 : (Nat → Int32)) : Int32 × Int32 × Int32 × Int32 × Int64 × Int32 × Int32 × Int64 × Int32 × Int64 × Int32 × (Nat → Int32) := if t0_2 = (0 : Int32) then ((t0_0, (0 : Int32), t0_2, t0_3, t0_4, t0_5, t0_6, t0_7, t0_8, t0_9, t0_10, t1_0)) else (F_FR_begin_c15 t0_0 t0_1 t0_2 t0_3 t0_4 t0_5 t0_6 t0_7 t0_8 t0_9 t0_10 t1_0 ((F_FR_add (45 : Int32) t0_0 (0 : Int32) t0_2 t0_3 t0_4 t0_5 t0_6 t0_7 t0_8 t0_9 t0_10 t1_0) : (Int32 × Int32 × Int32 × Int32 × Int64 × Int32 × Int32 × Int64 × Int32 × Int64 × Int32 × (Nat → Int32))))
def S_FR_begin_c15 (t0_0 : Int32) (t0_1 : Int32) (t0_2 : Int32) (t0_3 : Int32) (t0_4 : Int64) (t0_5 : Int32) (t0_6 : Int32) (t0_7 : Int64) (t0_8 : Int32) (t0_9 : Int64) (t0_10 : Int32) (t1_0 : (Nat → Int32)) (p65 : (Int32 × Int32 × Int32 × Int32 × Int64 × Int32 × Int32 × Int64 × Int32 × Int64 × Int32 × (Nat → Int32))) : Prop := True
def S_FR_begin (t0_0 : Int32) (t0_1 : Int32) (t0_2 : Int32) (t0_3 : Int32) (t0_4 : Int64) (t0_5 : Int32) (t0_6 : Int32) (t0_7 : Int64) (t0_8 : Int32) (t0_9 : Int64) (t0_10 : Int32) (t1_0 : (Nat → Int32)) : Prop := if t0_2 = (0 : Int32) then (True) else ((True ∧ S_FR_add (45 : Int32) t0_0 (0 : Int32) t0_2 t0_3 t0_4 t0_5 t0_6 t0_7 t0_8 t0_9 t0_10 t1_0) ∧ (S_FR_begin_c15 t0_0 t0_1 t0_2 t0_3 t0_4 t0_5 t0_6 t0_7 t0_8 t0_9 t0_10 t1_0 ((F_FR_add (45 : Int32) t0_0 (0 : Int32) t0_2 t0_3 t0_4 t0_5 t0_6 t0_7 t0_8 t0_9 t0_10 t1_0) : (Int32 × Int32 × Int32 × Int32 × Int64 × Int32 × Int32 × Int64 × Int32 × Int64 × Int32 × (Nat → Int32)))))
set_option maxRecDepth 100000 in
set_option maxHeartbeats 4000000 in
theorem X_FR_begin (l : Launch) (D : va_G) (g : Nat → ClassId) (q : Nat → Nat) (ws : va_W) (hI : q_I (msh g q) q ws) (t0_0 : Int32) (t0_1 : Int32) (t0_2 : Int32) (t0_3 : Int32) (t0_4 : Int64) (t0_5 : Int32) (t0_6 : Int32) (t0_7 : Int64) (t0_8 : Int32) (t0_9 : Int64) (t0_10 : Int32) (hT0 : ws[145]? = (some (q 145, .inr (15, [.int t0_0, .ref (q 146), .ref (q 147), .ref (q 148), .ref (q 149), .ref (q 150), .ref (q 151), .ref (q 152), .int t0_1, .int t0_2, .int t0_3, .long t0_4, .int t0_5, .int t0_6, .long t0_7, .int t0_8, .long t0_9, .int t0_10])) : Option (Nat × va_E))) (t1_0 : (Nat → Int32)) (hT1 : ws[152]? = (some (q 152, .inl (g 0, (1600 : Int32).toNatClampNeg, .inl t1_0)) : Option (Nat × va_E))) (hS : True ∧ S_FR_begin t0_0 t0_1 t0_2 t0_3 t0_4 t0_5 t0_6 t0_7 t0_8 t0_9 t0_10 t1_0) : q_mV l y_FR_begin prog_17_method_17_code 1 2 0 0 D g [.ref (q 145)] ws (fun u => q_I (msh g q) q u ∧ q_un ws u [145, 152] ∧ ∃ (u0_0 : Int32) (u0_1 : Int32) (u0_2 : Int32) (u0_3 : Int32) (u0_4 : Int64) (u0_5 : Int32) (u0_6 : Int32) (u0_7 : Int64) (u0_8 : Int32) (u0_9 : Int64) (u0_10 : Int32) (u1_0 : (Nat → Int32)), u[145]? = (some (q 145, .inr (15, [.int u0_0, .ref (q 146), .ref (q 147), .ref (q 148), .ref (q 149), .ref (q 150), .ref (q 151), .ref (q 152), .int u0_1, .int u0_2, .int u0_3, .long u0_4, .int u0_5, .int u0_6, .long u0_7, .int u0_8, .long u0_9, .int u0_10])) : Option (Nat × va_E)) ∧ u[152]? = (some (q 152, .inl (g 0, (1600 : Int32).toNatClampNeg, .inl u1_0)) : Option (Nat × va_E)) ∧ (t0_0.toInt ≤ u0_0.toInt) ∧ (u0_0.toInt ≤ t0_0.toInt) ∧ (t0_2.toInt ≤ u0_2.toInt) ∧ (u0_2.toInt ≤ t0_2.toInt) ∧ (t0_3.toInt ≤ u0_3.toInt) ∧ (u0_3.toInt ≤ t0_3.toInt) ∧ (t0_4.toInt ≤ u0_4.toInt) ∧ (u0_4.toInt ≤ t0_4.toInt) ∧ (t0_5.toInt ≤ u0_5.toInt) ∧ (u0_5.toInt ≤ t0_5.toInt) ∧ (t0_6.toInt ≤ u0_6.toInt) ∧ (u0_6.toInt ≤ t0_6.toInt) ∧ (t0_7.toInt ≤ u0_7.toInt) ∧ (u0_7.toInt ≤ t0_7.toInt) ∧ (t0_8.toInt ≤ u0_8.toInt) ∧ (u0_8.toInt ≤ t0_8.toInt) ∧ (t0_9.toInt ≤ u0_9.toInt) ∧ (u0_9.toInt ≤ t0_9.toInt) ∧ (t0_10.toInt ≤ u0_10.toInt) ∧ (u0_10.toInt ≤ t0_10.toInt) ∧ (u0_2.toInt ≤ u0_1.toInt) ∧ (u0_1.toInt ≤ u0_2.toInt) ∧ (u0_0, u0_1, u0_2, u0_3, u0_4, u0_5, u0_6, u0_7, u0_8, u0_9, u0_10, u1_0) = (F_FR_begin t0_0 t0_1 t0_2 t0_3 t0_4 t0_5 t0_6 t0_7 t0_8 t0_9 t0_10 t1_0)) := by
  intro sz
  refine q_into (by decide) (Nat.le_of_ble_eq_true rfl) ?_
  intro p e s m below meth c ls hsz C0 V hl
  have hx := C0.1
  have hb := C0.2.1
  have btt0_2 := n_w145 hI hT0
  replace btt0_2 : q_F (0 ≤ t0_2.toInt ∧ t0_2.toInt ≤ 1) := btt0_2
  have hF : q_un ws ws [145, 152] := q_u0
  have hl : lv_has ls 1 [(0, .ref (q 145))] := hl
  refine lv_aload_n hx hb d_17_17_0 rfl (lv_at hl 0 rfl) ?_
  refine lv_iconst (v := 0) hx hb d_17_17_1 (by decide) ?_
  refine q_put (ci := 15) (j := 8) (v := .int 0) (ty := .int) C0 V i_FR o_FR n_FR rfl rfl hT0 (by decide) w_2084 rfl rfl rfl rfl (Nat.le_of_ble_eq_true rfl) d_17_17_2 (fun H locs w17 hu18 hT0 V => ?_)
  replace hT0 : w17[145]? = (some (q 145, .inr (15, [.int t0_0, .ref (q 146), .ref (q 147), .ref (q 148), .ref (q 149), .ref (q 150), .ref (q 151), .ref (q 152), .int 0, .int t0_2, .int t0_3, .long t0_4, .int t0_5, .int t0_6, .long t0_7, .int t0_8, .long t0_9, .int t0_10])) : Option (Nat × va_E)) := hT0
  replace hI := n_p145 hI hu18 hT0 (by first | with_reducible exact q_fe btt0_2 | exact ⟨(by have t1 : 0 ≤ t0_2.toInt ∧ t0_2.toInt ≤ 1 := btt0_2; omega), (by have t1 : 0 ≤ t0_2.toInt ∧ t0_2.toInt ≤ 1 := btt0_2; omega)⟩)
  replace hT1 := (hu18 _ (by decide)).trans hT1
  replace hF := q_us hF hu18 (by simp)
  refine lv_aload_n hx hb d_17_17_5 rfl (lv_at hl 0 rfl) ?_
  refine q_get (ci := 15) (j := 9) (v := .int t0_2) C0 V i_FR rfl rfl hT0 (by decide) w_2085 rfl d_17_17_6 ?_
  refine lv_if_eq (tgt := 18) hx hb d_17_17_9 (by decide) (fun c19 => ?_) (fun c19 => ?_)
  ·
    have b20 : q_F (t0_2.toInt = 0) := (q_eqI c19)
    exact q_retv C0 V (⟨hI, hF, t0_0, 0, t0_2, t0_3, t0_4, t0_5, t0_6, t0_7, t0_8, t0_9, t0_10, t1_0, hT0, hT1, (show t0_0.toInt ≤ t0_0.toInt from (by have z13 : (0 : Int32).toInt = 0 := rfl; omega)), (show t0_0.toInt ≤ t0_0.toInt from (by have z13 : (0 : Int32).toInt = 0 := rfl; omega)), (show t0_2.toInt ≤ t0_2.toInt from (by have z13 : (0 : Int32).toInt = 0 := rfl; omega)), (show t0_2.toInt ≤ t0_2.toInt from (by have z13 : (0 : Int32).toInt = 0 := rfl; omega)), (show t0_3.toInt ≤ t0_3.toInt from (by have z13 : (0 : Int32).toInt = 0 := rfl; omega)), (show t0_3.toInt ≤ t0_3.toInt from (by have z13 : (0 : Int32).toInt = 0 := rfl; omega)), (show t0_4.toInt ≤ t0_4.toInt from (by have z13 : (0 : Int32).toInt = 0 := rfl; omega)), (show t0_4.toInt ≤ t0_4.toInt from (by have z13 : (0 : Int32).toInt = 0 := rfl; omega)), (show t0_5.toInt ≤ t0_5.toInt from (by have z13 : (0 : Int32).toInt = 0 := rfl; omega)), (show t0_5.toInt ≤ t0_5.toInt from (by have z13 : (0 : Int32).toInt = 0 := rfl; omega)), (show t0_6.toInt ≤ t0_6.toInt from (by have z13 : (0 : Int32).toInt = 0 := rfl; omega)), (show t0_6.toInt ≤ t0_6.toInt from (by have z13 : (0 : Int32).toInt = 0 := rfl; omega)), (show t0_7.toInt ≤ t0_7.toInt from (by have z13 : (0 : Int32).toInt = 0 := rfl; omega)), (show t0_7.toInt ≤ t0_7.toInt from (by have z13 : (0 : Int32).toInt = 0 := rfl; omega)), (show t0_8.toInt ≤ t0_8.toInt from (by have z13 : (0 : Int32).toInt = 0 := rfl; omega)), (show t0_8.toInt ≤ t0_8.toInt from (by have z13 : (0 : Int32).toInt = 0 := rfl; omega)), (show t0_9.toInt ≤ t0_9.toInt from (by have z13 : (0 : Int32).toInt = 0 := rfl; omega)), (show t0_9.toInt ≤ t0_9.toInt from (by have z13 : (0 : Int32).toInt = 0 := rfl; omega)), (show t0_10.toInt ≤ t0_10.toInt from (by have z13 : (0 : Int32).toInt = 0 := rfl; omega)), (show t0_10.toInt ≤ t0_10.toInt from (by have z13 : (0 : Int32).toInt = 0 := rfl; omega)), (show t0_2.toInt ≤ (0 : Int32).toInt from (by have z13 : (0 : Int32).toInt = 0 := rfl; have t1 : t0_2.toInt = 0 := b20; omega)), (show (0 : Int32).toInt ≤ t0_2.toInt from (by have z13 : (0 : Int32).toInt = 0 := rfl; have t1 : 0 ≤ t0_2.toInt ∧ t0_2.toInt ≤ 1 := btt0_2; omega)), (show (t0_0, (0 : Int32), t0_2, t0_3, t0_4, t0_5, t0_6, t0_7, t0_8, t0_9, t0_10, t1_0) = (F_FR_begin t0_0 t0_1 t0_2 t0_3 t0_4 t0_5 t0_6 t0_7 t0_8 t0_9 t0_10 t1_0) from (by rw [F_FR_begin.eq_1, if_pos c19]))⟩) d_17_17_18
  ·
    have b21 : q_F (t0_2.toInt ≠ 0) := (q_neI c19)
    refine lv_aload_n hx hb d_17_17_12 rfl (lv_at hl 0 rfl) ?_
    refine lv_bipush (v := 45) hx hb d_17_17_13 (by decide) ?_
    have ob22 : True ∧ S_FR_add (45 : Int32) t0_0 (0 : Int32) t0_2 t0_3 t0_4 t0_5 t0_6 t0_7 t0_8 t0_9 t0_10 t1_0 := (by have h := hS; rw [S_FR_begin.eq_1] at h; rw [if_neg c19] at h; with_reducible exact h.2.1)
    refine q_gov V (q_runV (As := [.int 45]) (rest := []) (d := 1) (mc := 0) (ms := 0) (ci := 15) C0 V rfl LV_FR_110 (X_FR_add l D g q w17  45 hI t0_0 0 t0_2 t0_3 t0_4 t0_5 t0_6 t0_7 t0_8 t0_9 t0_10 hT0 t1_0 hT1 ob22 _) rfl rfl hT0 rfl hl.1 rfl (Nat.le_of_ble_eq_true rfl) ⟨by decide, by decide⟩ ⟨Nat.le_of_ble_eq_true rfl, Nat.le_of_ble_eq_true rfl⟩ d_17_17_15) (fun u23 H locs hp24 V => ?_)
    obtain ⟨hI, hZ9⟩ := hp24
    obtain ⟨hu64, hZ9⟩ := hZ9
    obtain ⟨y26, hZ9⟩ := hZ9
    obtain ⟨y27, hZ9⟩ := hZ9
    obtain ⟨y28, hZ9⟩ := hZ9
    obtain ⟨y29, hZ9⟩ := hZ9
    obtain ⟨y30, hZ9⟩ := hZ9
    obtain ⟨y31, hZ9⟩ := hZ9
    obtain ⟨y32, hZ9⟩ := hZ9
    obtain ⟨y33, hZ9⟩ := hZ9
    obtain ⟨y34, hZ9⟩ := hZ9
    obtain ⟨y35, hZ9⟩ := hZ9
    obtain ⟨y36, hZ9⟩ := hZ9
    obtain ⟨f37, hZ9⟩ := hZ9
    obtain ⟨hO25, hZ9⟩ := hZ9
    obtain ⟨hA38, hZ9⟩ := hZ9
    obtain ⟨b39, hZ9⟩ := hZ9
    replace hZ9 := hZ9.2
    obtain ⟨b41, hZ9⟩ := hZ9
    obtain ⟨b42, hZ9⟩ := hZ9
    replace hZ9 := hZ9.2
    obtain ⟨b44, hZ9⟩ := hZ9
    obtain ⟨b45, hZ9⟩ := hZ9
    obtain ⟨b46, hZ9⟩ := hZ9
    obtain ⟨b47, hZ9⟩ := hZ9
    obtain ⟨b48, hZ9⟩ := hZ9
    obtain ⟨b49, hZ9⟩ := hZ9
    obtain ⟨b50, hZ9⟩ := hZ9
    obtain ⟨b51, hZ9⟩ := hZ9
    obtain ⟨b52, hZ9⟩ := hZ9
    obtain ⟨b53, hZ9⟩ := hZ9
    obtain ⟨b54, hZ9⟩ := hZ9
    obtain ⟨b55, hZ9⟩ := hZ9
    obtain ⟨b56, hZ9⟩ := hZ9
    obtain ⟨b57, hZ9⟩ := hZ9
    obtain ⟨b58, hZ9⟩ := hZ9
    obtain ⟨b59, hZ9⟩ := hZ9
    obtain ⟨b60, hZ9⟩ := hZ9
    obtain ⟨b61, hZ9⟩ := hZ9
    obtain ⟨b62, hE63⟩ := hZ9
    replace hO25 : u23[145]? = (some (q 145, .inr (15, [.int y26, .ref (q 146), .ref (q 147), .ref (q 148), .ref (q 149), .ref (q 150), .ref (q 151), .ref (q 152), .int y27, .int y28, .int y29, .long y30, .int y31, .int y32, .long y33, .int y34, .long y35, .int y36])) : Option (Nat × va_E)) := hO25
    replace hA38 : u23[152]? = (some (q 152, .inl (g 0, (1600 : Int32).toNatClampNeg, .inl f37)) : Option (Nat × va_E)) := hA38
    obtain ⟨p65, e66⟩ : ∃ z, z = (F_FR_add (45 : Int32) t0_0 (0 : Int32) t0_2 t0_3 t0_4 t0_5 t0_6 t0_7 t0_8 t0_9 t0_10 t1_0) := ⟨_, rfl⟩
    have e67 : y26 = p65.1 := congrArg (fun z => z.1) (hE63.trans e66.symm)
    have e68 : y27 = p65.2.1 := congrArg (fun z => z.2.1) (hE63.trans e66.symm)
    have e69 : y28 = p65.2.2.1 := congrArg (fun z => z.2.2.1) (hE63.trans e66.symm)
    have e70 : y29 = p65.2.2.2.1 := congrArg (fun z => z.2.2.2.1) (hE63.trans e66.symm)
    have e71 : y30 = p65.2.2.2.2.1 := congrArg (fun z => z.2.2.2.2.1) (hE63.trans e66.symm)
    have e72 : y31 = p65.2.2.2.2.2.1 := congrArg (fun z => z.2.2.2.2.2.1) (hE63.trans e66.symm)
    have e73 : y32 = p65.2.2.2.2.2.2.1 := congrArg (fun z => z.2.2.2.2.2.2.1) (hE63.trans e66.symm)
    have e74 : y33 = p65.2.2.2.2.2.2.2.1 := congrArg (fun z => z.2.2.2.2.2.2.2.1) (hE63.trans e66.symm)
    have e75 : y34 = p65.2.2.2.2.2.2.2.2.1 := congrArg (fun z => z.2.2.2.2.2.2.2.2.1) (hE63.trans e66.symm)
    have e76 : y35 = p65.2.2.2.2.2.2.2.2.2.1 := congrArg (fun z => z.2.2.2.2.2.2.2.2.2.1) (hE63.trans e66.symm)
    have e77 : y36 = p65.2.2.2.2.2.2.2.2.2.2.1 := congrArg (fun z => z.2.2.2.2.2.2.2.2.2.2.1) (hE63.trans e66.symm)
    have e78 : f37 = p65.2.2.2.2.2.2.2.2.2.2.2 := congrArg (fun z => z.2.2.2.2.2.2.2.2.2.2.2) (hE63.trans e66.symm)
    replace b39 : q_F (1 ≤ y27.toInt) := b39
    replace b41 : q_F (t0_0.toInt ≤ y26.toInt) := b41
    replace b42 : q_F (y26.toInt ≤ t0_0.toInt) := b42
    replace b44 : q_F (y27.toInt ≤ 0 + 1) := b44
    replace b45 : q_F (t0_2.toInt ≤ y28.toInt) := b45
    replace b46 : q_F (y28.toInt ≤ t0_2.toInt) := b46
    replace b47 : q_F (t0_3.toInt ≤ y29.toInt) := b47
    replace b48 : q_F (y29.toInt ≤ t0_3.toInt) := b48
    replace b49 : q_F (t0_4.toInt ≤ y30.toInt) := b49
    replace b50 : q_F (y30.toInt ≤ t0_4.toInt) := b50
    replace b51 : q_F (t0_5.toInt ≤ y31.toInt) := b51
    replace b52 : q_F (y31.toInt ≤ t0_5.toInt) := b52
    replace b53 : q_F (t0_6.toInt ≤ y32.toInt) := b53
    replace b54 : q_F (y32.toInt ≤ t0_6.toInt) := b54
    replace b55 : q_F (t0_7.toInt ≤ y33.toInt) := b55
    replace b56 : q_F (y33.toInt ≤ t0_7.toInt) := b56
    replace b57 : q_F (t0_8.toInt ≤ y34.toInt) := b57
    replace b58 : q_F (y34.toInt ≤ t0_8.toInt) := b58
    replace b59 : q_F (t0_9.toInt ≤ y35.toInt) := b59
    replace b60 : q_F (y35.toInt ≤ t0_9.toInt) := b60
    replace b61 : q_F (t0_10.toInt ≤ y36.toInt) := b61
    replace b62 : q_F (y36.toInt ≤ t0_10.toInt) := b62
    replace hF := q_uc hF hu64 (by simp)
    have hR79 := (show F_FR_begin_c15 t0_0 t0_1 t0_2 t0_3 t0_4 t0_5 t0_6 t0_7 t0_8 t0_9 t0_10 t1_0 p65 = (F_FR_begin t0_0 t0_1 t0_2 t0_3 t0_4 t0_5 t0_6 t0_7 t0_8 t0_9 t0_10 t1_0) from (by rw [e66, F_FR_begin.eq_1, if_neg c19]))
    have hS80 := (show True ∧ S_FR_begin_c15 t0_0 t0_1 t0_2 t0_3 t0_4 t0_5 t0_6 t0_7 t0_8 t0_9 t0_10 t1_0 p65 from (by rw [e66]; have h := hS; rw [S_FR_begin.eq_1] at h; rw [if_neg c19] at h; replace h := q_s2 h; with_reducible exact h))
    exact q_retv C0 V (⟨hI, hF, y26, y27, y28, y29, y30, y31, y32, y33, y34, y35, y36, f37, hO25, hA38, (show t0_0.toInt ≤ y26.toInt from (by first | with_reducible exact q_fe b41 | (have t1 : t0_0.toInt ≤ y26.toInt := b41; omega))), (show y26.toInt ≤ t0_0.toInt from (by first | with_reducible exact q_fe b42 | (have t1 : y26.toInt ≤ t0_0.toInt := b42; omega))), (show t0_2.toInt ≤ y28.toInt from (by first | with_reducible exact q_fe b45 | (have t1 : t0_2.toInt ≤ y28.toInt := b45; omega))), (show y28.toInt ≤ t0_2.toInt from (by first | with_reducible exact q_fe b46 | (have t1 : y28.toInt ≤ t0_2.toInt := b46; omega))), (show t0_3.toInt ≤ y29.toInt from (by first | with_reducible exact q_fe b47 | (have t1 : t0_3.toInt ≤ y29.toInt := b47; omega))), (show y29.toInt ≤ t0_3.toInt from (by first | with_reducible exact q_fe b48 | (have t1 : y29.toInt ≤ t0_3.toInt := b48; omega))), (show t0_4.toInt ≤ y30.toInt from (by first | with_reducible exact q_fe b49 | (have t1 : t0_4.toInt ≤ y30.toInt := b49; omega))), (show y30.toInt ≤ t0_4.toInt from (by first | with_reducible exact q_fe b50 | (have t1 : y30.toInt ≤ t0_4.toInt := b50; omega))), (show t0_5.toInt ≤ y31.toInt from (by first | with_reducible exact q_fe b51 | (have t1 : t0_5.toInt ≤ y31.toInt := b51; omega))), (show y31.toInt ≤ t0_5.toInt from (by first | with_reducible exact q_fe b52 | (have t1 : y31.toInt ≤ t0_5.toInt := b52; omega))), (show t0_6.toInt ≤ y32.toInt from (by first | with_reducible exact q_fe b53 | (have t1 : t0_6.toInt ≤ y32.toInt := b53; omega))), (show y32.toInt ≤ t0_6.toInt from (by first | with_reducible exact q_fe b54 | (have t1 : y32.toInt ≤ t0_6.toInt := b54; omega))), (show t0_7.toInt ≤ y33.toInt from (by first | with_reducible exact q_fe b55 | (have t1 : t0_7.toInt ≤ y33.toInt := b55; omega))), (show y33.toInt ≤ t0_7.toInt from (by first | with_reducible exact q_fe b56 | (have t1 : y33.toInt ≤ t0_7.toInt := b56; omega))), (show t0_8.toInt ≤ y34.toInt from (by first | with_reducible exact q_fe b57 | (have t1 : t0_8.toInt ≤ y34.toInt := b57; omega))), (show y34.toInt ≤ t0_8.toInt from (by first | with_reducible exact q_fe b58 | (have t1 : y34.toInt ≤ t0_8.toInt := b58; omega))), (show t0_9.toInt ≤ y35.toInt from (by first | with_reducible exact q_fe b59 | (have t1 : t0_9.toInt ≤ y35.toInt := b59; omega))), (show y35.toInt ≤ t0_9.toInt from (by first | with_reducible exact q_fe b60 | (have t1 : y35.toInt ≤ t0_9.toInt := b60; omega))), (show t0_10.toInt ≤ y36.toInt from (by first | with_reducible exact q_fe b61 | (have t1 : t0_10.toInt ≤ y36.toInt := b61; omega))), (show y36.toInt ≤ t0_10.toInt from (by first | with_reducible exact q_fe b62 | (have t1 : y36.toInt ≤ t0_10.toInt := b62; omega))), (show y28.toInt ≤ y27.toInt from (by have t1 : 0 ≤ t0_2.toInt ∧ t0_2.toInt ≤ 1 := btt0_2; have t2 : 1 ≤ y27.toInt := b39; have t3 : y28.toInt ≤ t0_2.toInt := b46; omega)), (show y27.toInt ≤ y28.toInt from (by have t1 : 0 ≤ t0_2.toInt ∧ t0_2.toInt ≤ 1 := btt0_2; have t2 : t0_2.toInt ≠ 0 := b21; have t3 : y27.toInt ≤ 0 + 1 := b44; have t4 : t0_2.toInt ≤ y28.toInt := b45; omega)), (show (y26, y27, y28, y29, y30, y31, y32, y33, y34, y35, y36, f37) = (F_FR_begin t0_0 t0_1 t0_2 t0_3 t0_4 t0_5 t0_6 t0_7 t0_8 t0_9 t0_10 t1_0) from Eq.trans (by rw [e78, e77, e76, e75, e74, e73, e72, e71, e70, e69, e68, e67, F_FR_begin_c15.eq_1]) hR79)⟩) d_17_17_18

