theorem d_16_37_0 : decode prog_16_method_37_code 0 = .ok (.aload_n 0, 1) := by decide +kernel
theorem d_16_37_1 : decode prog_16_method_37_code 1 = .ok (.getfield 13, 3) := by decide +kernel
theorem d_16_37_4 : decode prog_16_method_37_code 4 = .ok (.aload_n 0, 1) := by decide +kernel
theorem d_16_37_5 : decode prog_16_method_37_code 5 = .ok (.getfield 113, 3) := by decide +kernel
theorem d_16_37_8 : decode prog_16_method_37_code 8 = .ok (.iaload, 1) := by decide +kernel
theorem d_16_37_9 : decode prog_16_method_37_code 9 = .ok (.tableswitch 120 1 4 #[31, 61, 120, 78], 31) := by decide +kernel
theorem d_16_37_40 : decode prog_16_method_37_code 40 = .ok (.aload_n 0, 1) := by decide +kernel
theorem d_16_37_41 : decode prog_16_method_37_code 41 = .ok (.aload_n 0, 1) := by decide +kernel
theorem d_16_37_42 : decode prog_16_method_37_code 42 = .ok (.getfield 19, 3) := by decide +kernel
theorem d_16_37_45 : decode prog_16_method_37_code 45 = .ok (.aload_n 0, 1) := by decide +kernel
theorem d_16_37_46 : decode prog_16_method_37_code 46 = .ok (.getfield 113, 3) := by decide +kernel
theorem d_16_37_49 : decode prog_16_method_37_code 49 = .ok (.laload, 1) := by decide +kernel
theorem d_16_37_50 : decode prog_16_method_37_code 50 = .ok (.lconst 1, 1) := by decide +kernel
theorem d_16_37_51 : decode prog_16_method_37_code 51 = .ok (.lcmp, 1) := by decide +kernel
theorem d_16_37_52 : decode prog_16_method_37_code 52 = .ok (.ifCond .ne 9, 3) := by decide +kernel
theorem d_16_37_61 : decode prog_16_method_37_code 61 = .ok (.ldc2_w 182, 3) := by decide +kernel
set_option maxRecDepth 100000 in
theorem w_3171 : (Cond.constantLong "NumberHouseModel$DirectiveRows" (182 : Nat) (435728179558 : Int64)) ∈ q_tbl := q_of14 51 rfl (by decide +kernel)
theorem d_16_37_64 : decode prog_16_method_37_code 64 = .ok (.invokevirtual 170, 3) := by decide +kernel
set_option maxRecDepth 100000 in
theorem w_3176 : (Cond.code ({ cls := "NumberHouseModel$DirectiveRows", name := "word", desc := "(J)V" } : MethodName) prog_16_method_25_code (5 : Nat) (none : Option ClassFile.FieldType)) ∈ q_tbl := q_of14 56 rfl (by decide +kernel)
set_option maxRecDepth 100000 in
theorem w_3173 : (Cond.methodLink "NumberHouseModel$DirectiveRows" (170 : Nat) ({ cls := "NumberHouseModel$DirectiveRows", name := "word", desc := "(J)V" } : MethodName)) ∈ q_tbl := q_of14 53 rfl (by decide +kernel)
set_option maxRecDepth 100000 in
theorem w_3175 : (Cond.instanceMethod ({ cls := "NumberHouseModel$DirectiveRows", name := "word", desc := "(J)V" } : MethodName)) ∈ q_tbl := q_of14 55 rfl (by decide +kernel)
theorem ws_163 : Cond.selects "NumberHouseModel$DirectiveRows" (⟨"NumberHouseModel$DirectiveRows", "word", "(J)V"⟩ : MethodName) (⟨"NumberHouseModel$DirectiveRows", "word", "(J)V"⟩ : MethodName) ∈ q_tbl := q_ofs 163 (by decide +kernel) (by decide +kernel)
theorem LV_VR_170 : q_LV "NumberHouseModel$DirectiveRows" 170 y_VR_word prog_16_method_25_code 5 none 1 := ⟨w_3176, w_19, w_3173, w_3175, ws_163, ⟨by decide, by decide, by decide +kernel⟩⟩
theorem d_16_37_67 : decode prog_16_method_37_code 67 = .ok (.goto 162, 3) := by decide +kernel
theorem d_16_37_229 : decode prog_16_method_37_code 229 = .ok (.return_, 1) := by decide +kernel
theorem d_16_37_55 : decode prog_16_method_37_code 55 = .ok (.ldc2_w 180, 3) := by decide +kernel
set_option maxRecDepth 100000 in
theorem w_3172 : (Cond.constantLong "NumberHouseModel$DirectiveRows" (180 : Nat) (1702195828 : Int64)) ∈ q_tbl := q_of14 52 rfl (by decide +kernel)
theorem d_16_37_58 : decode prog_16_method_37_code 58 = .ok (.goto 6, 3) := by decide +kernel
theorem d_16_37_70 : decode prog_16_method_37_code 70 = .ok (.aload_n 0, 1) := by decide +kernel
theorem d_16_37_71 : decode prog_16_method_37_code 71 = .ok (.aload_n 0, 1) := by decide +kernel
theorem d_16_37_72 : decode prog_16_method_37_code 72 = .ok (.getfield 19, 3) := by decide +kernel
theorem d_16_37_75 : decode prog_16_method_37_code 75 = .ok (.aload_n 0, 1) := by decide +kernel
theorem d_16_37_76 : decode prog_16_method_37_code 76 = .ok (.getfield 113, 3) := by decide +kernel
theorem d_16_37_79 : decode prog_16_method_37_code 79 = .ok (.laload, 1) := by decide +kernel
theorem d_16_37_80 : decode prog_16_method_37_code 80 = .ok (.l2i, 1) := by decide +kernel
theorem d_16_37_81 : decode prog_16_method_37_code 81 = .ok (.invokevirtual 122, 3) := by decide +kernel
theorem d_16_37_84 : decode prog_16_method_37_code 84 = .ok (.goto 145, 3) := by decide +kernel
theorem d_16_37_129 : decode prog_16_method_37_code 129 = .ok (.aload_n 0, 1) := by decide +kernel
theorem d_16_37_130 : decode prog_16_method_37_code 130 = .ok (.getfield 19, 3) := by decide +kernel
theorem d_16_37_133 : decode prog_16_method_37_code 133 = .ok (.aload_n 0, 1) := by decide +kernel
theorem d_16_37_134 : decode prog_16_method_37_code 134 = .ok (.getfield 113, 3) := by decide +kernel
theorem d_16_37_137 : decode prog_16_method_37_code 137 = .ok (.laload, 1) := by decide +kernel
theorem d_16_37_138 : decode prog_16_method_37_code 138 = .ok (.lconst 0, 1) := by decide +kernel
theorem d_16_37_139 : decode prog_16_method_37_code 139 = .ok (.lcmp, 1) := by decide +kernel
theorem d_16_37_149 : decode prog_16_method_37_code 149 = .ok (.aload_n 0, 1) := by decide +kernel
theorem d_16_37_150 : decode prog_16_method_37_code 150 = .ok (.aload_n 0, 1) := by decide +kernel
theorem d_16_37_151 : decode prog_16_method_37_code 151 = .ok (.getfield 19, 3) := by decide +kernel
theorem d_16_37_154 : decode prog_16_method_37_code 154 = .ok (.aload_n 0, 1) := by decide +kernel
theorem d_16_37_155 : decode prog_16_method_37_code 155 = .ok (.getfield 113, 3) := by decide +kernel
theorem d_16_37_158 : decode prog_16_method_37_code 158 = .ok (.laload, 1) := by decide +kernel
theorem d_16_37_159 : decode prog_16_method_37_code 159 = .ok (.invokestatic 149, 3) := by decide +kernel
set_option maxRecDepth 100000 in
theorem w_3184 : (Cond.code ({ cls := "NumberHouseModel$DirectiveRows", name := "size64", desc := "(J)J" } : MethodName) prog_16_method_35_code (2 : Nat) (some .long)) ∈ q_tbl := q_of14 64 rfl (by decide +kernel)
set_option maxRecDepth 100000 in
theorem w_3182 : (Cond.methodLink "NumberHouseModel$DirectiveRows" (149 : Nat) ({ cls := "NumberHouseModel$DirectiveRows", name := "size64", desc := "(J)J" } : MethodName)) ∈ q_tbl := q_of14 62 rfl (by decide +kernel)
set_option maxRecDepth 100000 in
theorem w_3183 : (Cond.static ({ cls := "NumberHouseModel$DirectiveRows", name := "size64", desc := "(J)J" } : MethodName)) ∈ q_tbl := q_of14 63 rfl (by decide +kernel)
theorem LS_VR_149 : q_LS "NumberHouseModel$DirectiveRows" 149 y_VR_size64 prog_16_method_35_code 2 (some .long) 1 := ⟨w_3184, w_19, w_3182, w_3183, ⟨by decide, by decide, by decide +kernel⟩⟩
theorem d_16_37_162 : decode prog_16_method_37_code 162 = .ok (.bipush 10, 2) := by decide +kernel
theorem d_16_37_164 : decode prog_16_method_37_code 164 = .ok (.invokevirtual 153, 3) := by decide +kernel
set_option maxRecDepth 100000 in
theorem w_3188 : (Cond.code ({ cls := "NumberHouseModel$DirectiveRows", name := "spread", desc := "(JI)V" } : MethodName) prog_16_method_26_code (10 : Nat) (none : Option ClassFile.FieldType)) ∈ q_tbl := q_of14 68 rfl (by decide +kernel)
set_option maxRecDepth 100000 in
theorem w_3185 : (Cond.methodLink "NumberHouseModel$DirectiveRows" (153 : Nat) ({ cls := "NumberHouseModel$DirectiveRows", name := "spread", desc := "(JI)V" } : MethodName)) ∈ q_tbl := q_of14 65 rfl (by decide +kernel)
set_option maxRecDepth 100000 in
theorem w_3187 : (Cond.instanceMethod ({ cls := "NumberHouseModel$DirectiveRows", name := "spread", desc := "(JI)V" } : MethodName)) ∈ q_tbl := q_of14 67 rfl (by decide +kernel)
theorem ws_165 : Cond.selects "NumberHouseModel$DirectiveRows" (⟨"NumberHouseModel$DirectiveRows", "spread", "(JI)V"⟩ : MethodName) (⟨"NumberHouseModel$DirectiveRows", "spread", "(JI)V"⟩ : MethodName) ∈ q_tbl := q_ofs 165 (by decide +kernel) (by decide +kernel)
theorem LV_VR_153 : q_LV "NumberHouseModel$DirectiveRows" 153 y_VR_spread prog_16_method_26_code 10 none 2 := ⟨w_3188, w_19, w_3185, w_3187, ws_165, ⟨by decide, by decide, by decide +kernel⟩⟩
theorem d_16_37_167 : decode prog_16_method_37_code 167 = .ok (.aload_n 0, 1) := by decide +kernel
theorem d_16_37_168 : decode prog_16_method_37_code 168 = .ok (.aload_n 0, 1) := by decide +kernel
theorem d_16_37_169 : decode prog_16_method_37_code 169 = .ok (.getfield 13, 3) := by decide +kernel
theorem d_16_37_172 : decode prog_16_method_37_code 172 = .ok (.aload_n 0, 1) := by decide +kernel
theorem d_16_37_173 : decode prog_16_method_37_code 173 = .ok (.getfield 113, 3) := by decide +kernel
theorem d_16_37_176 : decode prog_16_method_37_code 176 = .ok (.iaload, 1) := by decide +kernel
theorem d_16_37_177 : decode prog_16_method_37_code 177 = .ok (.iconst 5, 1) := by decide +kernel
theorem d_16_37_202 : decode prog_16_method_37_code 202 = .ok (.putfield 131, 3) := by decide +kernel
theorem d_16_37_205 : decode prog_16_method_37_code 205 = .ok (.aload_n 0, 1) := by decide +kernel
theorem d_16_37_206 : decode prog_16_method_37_code 206 = .ok (.aload_n 0, 1) := by decide +kernel
theorem d_16_37_207 : decode prog_16_method_37_code 207 = .ok (.getfield 68, 3) := by decide +kernel
theorem d_16_37_210 : decode prog_16_method_37_code 210 = .ok (.bipush (-19), 2) := by decide +kernel
theorem d_16_37_212 : decode prog_16_method_37_code 212 = .ok (.iand, 1) := by decide +kernel
theorem d_16_37_213 : decode prog_16_method_37_code 213 = .ok (.putfield 68, 3) := by decide +kernel
theorem d_16_37_216 : decode prog_16_method_37_code 216 = .ok (.aload_n 0, 1) := by decide +kernel
theorem d_16_37_217 : decode prog_16_method_37_code 217 = .ok (.aload_n 0, 1) := by decide +kernel
theorem d_16_37_218 : decode prog_16_method_37_code 218 = .ok (.getfield 126, 3) := by decide +kernel
theorem d_16_37_221 : decode prog_16_method_37_code 221 = .ok (.aload_n 0, 1) := by decide +kernel
theorem d_16_37_222 : decode prog_16_method_37_code 222 = .ok (.getfield 131, 3) := by decide +kernel
theorem d_16_37_225 : decode prog_16_method_37_code 225 = .ok (.isub, 1) := by decide +kernel
theorem d_16_37_226 : decode prog_16_method_37_code 226 = .ok (.invokevirtual 140, 3) := by decide +kernel
set_option maxRecDepth 100000 in
theorem w_3193 : (Cond.code ({ cls := "NumberHouseModel$DirectiveRows", name := "plain", desc := "(I)V" } : MethodName) prog_16_method_29_code (5 : Nat) (none : Option ClassFile.FieldType)) ∈ q_tbl := q_of14 73 rfl (by decide +kernel)
set_option maxRecDepth 100000 in
theorem w_3190 : (Cond.methodLink "NumberHouseModel$DirectiveRows" (140 : Nat) ({ cls := "NumberHouseModel$DirectiveRows", name := "plain", desc := "(I)V" } : MethodName)) ∈ q_tbl := q_of14 70 rfl (by decide +kernel)
set_option maxRecDepth 100000 in
theorem w_3192 : (Cond.instanceMethod ({ cls := "NumberHouseModel$DirectiveRows", name := "plain", desc := "(I)V" } : MethodName)) ∈ q_tbl := q_of14 72 rfl (by decide +kernel)
theorem ws_166 : Cond.selects "NumberHouseModel$DirectiveRows" (⟨"NumberHouseModel$DirectiveRows", "plain", "(I)V"⟩ : MethodName) (⟨"NumberHouseModel$DirectiveRows", "plain", "(I)V"⟩ : MethodName) ∈ q_tbl := q_ofs 166 (by decide +kernel) (by decide +kernel)
theorem LV_VR_140 : q_LV "NumberHouseModel$DirectiveRows" 140 y_VR_plain prog_16_method_29_code 5 none 1 := ⟨w_3193, w_19, w_3190, w_3192, ws_166, ⟨by decide, by decide, by decide +kernel⟩⟩
theorem d_16_37_178 : decode prog_16_method_37_code 178 = .ok (.if_icmp .ne 20, 3) := by decide +kernel
theorem d_16_37_198 : decode prog_16_method_37_code 198 = .ok (.aload_n 0, 1) := by decide +kernel
theorem d_16_37_199 : decode prog_16_method_37_code 199 = .ok (.getfield 126, 3) := by decide +kernel
theorem d_16_37_181 : decode prog_16_method_37_code 181 = .ok (.aload_n 0, 1) := by decide +kernel
theorem d_16_37_182 : decode prog_16_method_37_code 182 = .ok (.getfield 126, 3) := by decide +kernel
theorem d_16_37_185 : decode prog_16_method_37_code 185 = .ok (.aload_n 0, 1) := by decide +kernel
theorem d_16_37_186 : decode prog_16_method_37_code 186 = .ok (.getfield 16, 3) := by decide +kernel
theorem d_16_37_189 : decode prog_16_method_37_code 189 = .ok (.aload_n 0, 1) := by decide +kernel
theorem d_16_37_190 : decode prog_16_method_37_code 190 = .ok (.getfield 113, 3) := by decide +kernel
theorem d_16_37_193 : decode prog_16_method_37_code 193 = .ok (.iaload, 1) := by decide +kernel
theorem d_16_37_194 : decode prog_16_method_37_code 194 = .ok (.isub, 1) := by decide +kernel
theorem d_16_37_195 : decode prog_16_method_37_code 195 = .ok (.goto 7, 3) := by decide +kernel
theorem d_16_37_140 : decode prog_16_method_37_code 140 = .ok (.ifCond .ge 9, 3) := by decide +kernel
theorem d_16_37_143 : decode prog_16_method_37_code 143 = .ok (.aload_n 0, 1) := by decide +kernel
theorem d_16_37_144 : decode prog_16_method_37_code 144 = .ok (.bipush 45, 2) := by decide +kernel
theorem d_16_37_146 : decode prog_16_method_37_code 146 = .ok (.invokevirtual 122, 3) := by decide +kernel
theorem d_16_37_87 : decode prog_16_method_37_code 87 = .ok (.iconst 0, 1) := by decide +kernel
theorem d_16_37_88 : decode prog_16_method_37_code 88 = .ok (.istore_n 1, 1) := by decide +kernel
theorem d_16_37_89 : decode prog_16_method_37_code 89 = .ok (.iload_n 1, 1) := by decide +kernel
theorem d_16_37_90 : decode prog_16_method_37_code 90 = .ok (.aload_n 0, 1) := by decide +kernel
theorem d_16_37_91 : decode prog_16_method_37_code 91 = .ok (.getfield 16, 3) := by decide +kernel
theorem d_16_37_94 : decode prog_16_method_37_code 94 = .ok (.aload_n 0, 1) := by decide +kernel
theorem d_16_37_95 : decode prog_16_method_37_code 95 = .ok (.getfield 113, 3) := by decide +kernel
theorem d_16_37_98 : decode prog_16_method_37_code 98 = .ok (.iaload, 1) := by decide +kernel
theorem d_16_37_99 : decode prog_16_method_37_code 99 = .ok (.if_icmp .ge 27, 3) := by decide +kernel
theorem d_16_37_126 : decode prog_16_method_37_code 126 = .ok (.goto 103, 3) := by decide +kernel
theorem d_16_37_102 : decode prog_16_method_37_code 102 = .ok (.aload_n 0, 1) := by decide +kernel
theorem d_16_37_103 : decode prog_16_method_37_code 103 = .ok (.aload_n 0, 1) := by decide +kernel
theorem d_16_37_104 : decode prog_16_method_37_code 104 = .ok (.getfield 23, 3) := by decide +kernel
theorem d_16_37_107 : decode prog_16_method_37_code 107 = .ok (.bipush 64, 2) := by decide +kernel
theorem d_16_37_109 : decode prog_16_method_37_code 109 = .ok (.aload_n 0, 1) := by decide +kernel
theorem d_16_37_110 : decode prog_16_method_37_code 110 = .ok (.getfield 113, 3) := by decide +kernel
theorem d_16_37_113 : decode prog_16_method_37_code 113 = .ok (.imul, 1) := by decide +kernel
theorem d_16_37_114 : decode prog_16_method_37_code 114 = .ok (.iload_n 1, 1) := by decide +kernel
theorem d_16_37_115 : decode prog_16_method_37_code 115 = .ok (.iadd, 1) := by decide +kernel
theorem d_16_37_116 : decode prog_16_method_37_code 116 = .ok (.iaload, 1) := by decide +kernel
theorem d_16_37_117 : decode prog_16_method_37_code 117 = .ok (.invokevirtual 122, 3) := by decide +kernel
theorem d_16_37_120 : decode prog_16_method_37_code 120 = .ok (.iinc 1 1, 3) := by decide +kernel
theorem d_16_37_123 : decode prog_16_method_37_code 123 = .ok (.goto (-34), 3) := by decide +kernel
def y_VR_string : MethodName := ⟨"NumberHouseModel$DirectiveRows", "string", "()V"⟩
def F_VR_string_c64 (t0_0 : Int32) (t0_1 : Int32) (t0_2 : Int32) (t0_3 : Int32) (t0_4 : Int32) (t0_5 : Int32) (t0_6 : Int32) (t0_7 : Int32) (t0_8 : Int32) (t0_9 : Int32) (t0_10 : Int32) (t0_11 : Int32) (t0_12 : Int32) (t0_13 : Int32) (t0_14 : Int32) (t0_15 : Int32) (t0_16 : Int32) (t0_17 : Int32) (t0_18 : Int32) (t0_19 : Int32) (t0_20 : Int32) (t0_21 : Int32) (t1_0 : (Nat → Int32)) (t2_0 : (Nat → Int32)) (t3_0 : (Nat → Int64)) (t4_0 : (Nat → Int32)) (t5_0 : (Nat → Int32)) (t6_0 : (Nat → Int32)) (p68 : (Int32 × (Nat → Int32))) : Int32 × Int32 × Int32 × Int32 × (Nat → Int32) × (Nat → Int32) := (t0_9, (p68.1 : Int32), t0_20, t0_21, (p68.2 : (Nat → Int32)), t6_0)
def F_VR_string_c64_2 (t0_0 : Int32) (t0_1 : Int32) (t0_2 : Int32) (t0_3 : Int32) (t0_4 : Int32) (t0_5 : Int32) (t0_6 : Int32) (t0_7 : Int32) (t0_8 : Int32) (t0_9 : Int32) (t0_10 : Int32) (t0_11 : Int32) (t0_12 : Int32) (t0_13 : Int32) (t0_14 : Int32) (t0_15 : Int32) (t0_16 : Int32) (t0_17 : Int32) (t0_18 : Int32) (t0_19 : Int32) (t0_20 : Int32) (t0_21 : Int32) (t1_0 : (Nat → Int32)) (t2_0 : (Nat → Int32)) (t3_0 : (Nat → Int64)) (t4_0 : (Nat → Int32)) (t5_0 : (Nat → Int32)) (t6_0 : (Nat → Int32)) (p87 : (Int32 × (Nat → Int32))) : Int32 × Int32 × Int32 × Int32 × (Nat → Int32) × (Nat → Int32) := (t0_9, (p87.1 : Int32), t0_20, t0_21, (p87.2 : (Nat → Int32)), t6_0)
def F_VR_string_c81 (t0_0 : Int32) (t0_1 : Int32) (t0_2 : Int32) (t0_3 : Int32) (t0_4 : Int32) (t0_5 : Int32) (t0_6 : Int32) (t0_7 : Int32) (t0_8 : Int32) (t0_9 : Int32) (t0_10 : Int32) (t0_11 : Int32) (t0_12 : Int32) (t0_13 : Int32) (t0_14 : Int32) (t0_15 : Int32) (t0_16 : Int32) (t0_17 : Int32) (t0_18 : Int32) (t0_19 : Int32) (t0_20 : Int32) (t0_21 : Int32) (t1_0 : (Nat → Int32)) (t2_0 : (Nat → Int32)) (t3_0 : (Nat → Int64)) (t4_0 : (Nat → Int32)) (t5_0 : (Nat → Int32)) (t6_0 : (Nat → Int32)) (p116 : (Int32 × (Nat → Int32))) : Int32 × Int32 × Int32 × Int32 × (Nat → Int32) × (Nat → Int32) := (t0_9, (p116.1 : Int32), t0_20, t0_21, (p116.2 : (Nat → Int32)), t6_0)
def F_VR_string_c226 (t0_0 : Int32) (t0_1 : Int32) (t0_2 : Int32) (t0_3 : Int32) (t0_4 : Int32) (t0_5 : Int32) (t0_6 : Int32) (t0_7 : Int32) (t0_8 : Int32) (t0_9 : Int32) (t0_10 : Int32) (t0_11 : Int32) (t0_12 : Int32) (t0_13 : Int32) (t0_14 : Int32) (t0_15 : Int32) (t0_16 : Int32) (t0_17 : Int32) (t0_18 : Int32) (t0_19 : Int32) (t0_20 : Int32) (t0_21 : Int32) (t1_0 : (Nat → Int32)) (t2_0 : (Nat → Int32)) (t3_0 : (Nat → Int64)) (t4_0 : (Nat → Int32)) (t5_0 : (Nat → Int32)) (t6_0 : (Nat → Int32)) (lx133 : Int32) (lx134 : (Nat → Int32)) (p170 : (Int32 × Int32 × (Nat → Int32))) (y160 : Int32) (y161 : Int32) (f162 : (Nat → Int32)) (lx182 : Int32) (a198 : Int32) (p213 : (Int32 × (Nat → Int32))) : Int32 × Int32 × Int32 × Int32 × (Nat → Int32) × (Nat → Int32) := (a198, (p213.1 : Int32), y160, lx182, (p213.2 : (Nat → Int32)), f162)
def F_VR_string_J202 (t0_0 : Int32) (t0_1 : Int32) (t0_2 : Int32) (t0_3 : Int32) (t0_4 : Int32) (t0_5 : Int32) (t0_6 : Int32) (t0_7 : Int32) (t0_8 : Int32) (t0_9 : Int32) (t0_10 : Int32) (t0_11 : Int32) (t0_12 : Int32) (t0_13 : Int32) (t0_14 : Int32) (t0_15 : Int32) (t0_16 : Int32) (t0_17 : Int32) (t0_18 : Int32) (t0_19 : Int32) (t0_20 : Int32) (t0_21 : Int32) (t1_0 : (Nat → Int32)) (t2_0 : (Nat → Int32)) (t3_0 : (Nat → Int64)) (t4_0 : (Nat → Int32)) (t5_0 : (Nat → Int32)) (t6_0 : (Nat → Int32)) (lx133 : Int32) (lx134 : (Nat → Int32)) (p170 : (Int32 × Int32 × (Nat → Int32))) (y160 : Int32) (y161 : Int32) (f162 : (Nat → Int32)) (lx182 : Int32) : Int32 × Int32 × Int32 × Int32 × (Nat → Int32) × (Nat → Int32) := F_VR_string_c226 t0_0 t0_1 t0_2 t0_3 t0_4 t0_5 t0_6 t0_7 t0_8 t0_9 t0_10 t0_11 t0_12 t0_13 t0_14 t0_15 t0_16 t0_17 t0_18 t0_19 t0_20 t0_21 t1_0 t2_0 t3_0 t4_0 t5_0 t6_0 lx133 lx134 p170 y160 y161 f162 lx182 (t0_9 &&& (-19) : Int32) ((F_VR_plain (y160 - lx182 : Int32) t0_0 t0_1 t0_2 t0_3 t0_4 t0_5 t0_6 t0_7 t0_8 (t0_9 &&& (-19) : Int32) t0_10 t0_11 t0_12 t0_13 t0_14 t0_15 t0_16 lx133 t0_18 t0_19 y160 lx182 lx134 f162) : (Int32 × (Nat → Int32)))
def F_VR_string_c164 (t0_0 : Int32) (t0_1 : Int32) (t0_2 : Int32) (t0_3 : Int32) (t0_4 : Int32) (t0_5 : Int32) (t0_6 : Int32) (t0_7 : Int32) (t0_8 : Int32) (t0_9 : Int32) (t0_10 : Int32) (t0_11 : Int32) (t0_12 : Int32) (t0_13 : Int32) (t0_14 : Int32) (t0_15 : Int32) (t0_16 : Int32) (t0_17 : Int32) (t0_18 : Int32) (t0_19 : Int32) (t0_20 : Int32) (t0_21 : Int32) (t1_0 : (Nat → Int32)) (t2_0 : (Nat → Int32)) (t3_0 : (Nat → Int64)) (t4_0 : (Nat → Int32)) (t5_0 : (Nat → Int32)) (t6_0 : (Nat → Int32)) (lx133 : Int32) (lx134 : (Nat → Int32)) (p170 : (Int32 × Int32 × (Nat → Int32))) : Int32 × Int32 × Int32 × Int32 × (Nat → Int32) × (Nat → Int32) := if (t1_0 t0_14.toNatClampNeg : Int32) = (5 : Int32) then (F_VR_string_J202 t0_0 t0_1 t0_2 t0_3 t0_4 t0_5 t0_6 t0_7 t0_8 t0_9 t0_10 t0_11 t0_12 t0_13 t0_14 t0_15 t0_16 t0_17 t0_18 t0_19 t0_20 t0_21 t1_0 t2_0 t3_0 t4_0 t5_0 t6_0 lx133 lx134 p170 (p170.1 : Int32) (p170.2.1 : Int32) (p170.2.2 : (Nat → Int32)) ((p170.1 : Int32) - (t2_0 t0_14.toNatClampNeg : Int32) : Int32)) else (F_VR_string_J202 t0_0 t0_1 t0_2 t0_3 t0_4 t0_5 t0_6 t0_7 t0_8 t0_9 t0_10 t0_11 t0_12 t0_13 t0_14 t0_15 t0_16 t0_17 t0_18 t0_19 t0_20 t0_21 t1_0 t2_0 t3_0 t4_0 t5_0 t6_0 lx133 lx134 p170 (p170.1 : Int32) (p170.2.1 : Int32) (p170.2.2 : (Nat → Int32)) (p170.1 : Int32))
def F_VR_string_J149 (t0_0 : Int32) (t0_1 : Int32) (t0_2 : Int32) (t0_3 : Int32) (t0_4 : Int32) (t0_5 : Int32) (t0_6 : Int32) (t0_7 : Int32) (t0_8 : Int32) (t0_9 : Int32) (t0_10 : Int32) (t0_11 : Int32) (t0_12 : Int32) (t0_13 : Int32) (t0_14 : Int32) (t0_15 : Int32) (t0_16 : Int32) (t0_17 : Int32) (t0_18 : Int32) (t0_19 : Int32) (t0_20 : Int32) (t0_21 : Int32) (t1_0 : (Nat → Int32)) (t2_0 : (Nat → Int32)) (t3_0 : (Nat → Int64)) (t4_0 : (Nat → Int32)) (t5_0 : (Nat → Int32)) (t6_0 : (Nat → Int32)) (lx133 : Int32) (lx134 : (Nat → Int32)) : Int32 × Int32 × Int32 × Int32 × (Nat → Int32) × (Nat → Int32) := F_VR_string_c164 t0_0 t0_1 t0_2 t0_3 t0_4 t0_5 t0_6 t0_7 t0_8 t0_9 t0_10 t0_11 t0_12 t0_13 t0_14 t0_15 t0_16 t0_17 t0_18 t0_19 t0_20 t0_21 t1_0 t2_0 t3_0 t4_0 t5_0 t6_0 lx133 lx134 ((F_VR_spread ((F_VR_size64 (t3_0 t0_14.toNatClampNeg : Int64)) : Int64) (10 : Int32) t0_0 t0_1 t0_2 t0_3 t0_4 t0_5 t0_6 t0_7 t0_8 t0_9 t0_10 t0_11 t0_12 t0_13 t0_14 t0_15 t0_16 lx133 t0_18 t0_19 t0_20 t0_21 t6_0) : (Int32 × Int32 × (Nat → Int32)))
def F_VR_string_c146 (t0_0 : Int32) (t0_1 : Int32) (t0_2 : Int32) (t0_3 : Int32) (t0_4 : Int32) (t0_5 : Int32) (t0_6 : Int32) (t0_7 : Int32) (t0_8 : Int32) (t0_9 : Int32) (t0_10 : Int32) (t0_11 : Int32) (t0_12 : Int32) (t0_13 : Int32) (t0_14 : Int32) (t0_15 : Int32) (t0_16 : Int32) (t0_17 : Int32) (t0_18 : Int32) (t0_19 : Int32) (t0_20 : Int32) (t0_21 : Int32) (t1_0 : (Nat → Int32)) (t2_0 : (Nat → Int32)) (t3_0 : (Nat → Int64)) (t4_0 : (Nat → Int32)) (t5_0 : (Nat → Int32)) (t6_0 : (Nat → Int32)) (p245 : (Int32 × (Nat → Int32))) : Int32 × Int32 × Int32 × Int32 × (Nat → Int32) × (Nat → Int32) := F_VR_string_J149 t0_0 t0_1 t0_2 t0_3 t0_4 t0_5 t0_6 t0_7 t0_8 t0_9 t0_10 t0_11 t0_12 t0_13 t0_14 t0_15 t0_16 t0_17 t0_18 t0_19 t0_20 t0_21 t1_0 t2_0 t3_0 t4_0 t5_0 t6_0 (p245.1 : Int32) (p245.2 : (Nat → Int32))
def F_VR_string_c117 (K_F_VR_string_L89 : Int32 → Int32 → (Nat → Int32) → (Int32 × Int32 × Int32 × Int32 × (Nat → Int32) × (Nat → Int32))) (t0_0 : Int32) (t0_1 : Int32) (t0_2 : Int32) (t0_3 : Int32) (t0_4 : Int32) (t0_5 : Int32) (t0_6 : Int32) (t0_7 : Int32) (t0_8 : Int32) (t0_9 : Int32) (t0_10 : Int32) (t0_11 : Int32) (t0_12 : Int32) (t0_13 : Int32) (t0_14 : Int32) (t0_15 : Int32) (t0_16 : Int32) (t0_17 : Int32) (t0_18 : Int32) (t0_19 : Int32) (t0_20 : Int32) (t0_21 : Int32) (t1_0 : (Nat → Int32)) (t2_0 : (Nat → Int32)) (t3_0 : (Nat → Int64)) (t4_0 : (Nat → Int32)) (t5_0 : (Nat → Int32)) (t6_0 : (Nat → Int32)) (lx258 : Int32) (lx259 : Int32) (lx260 : (Nat → Int32)) (p305 : (Int32 × (Nat → Int32))) : Int32 × Int32 × Int32 × Int32 × (Nat → Int32) × (Nat → Int32) := K_F_VR_string_L89 (lx258 + 1 : Int32) (p305.1 : Int32) (p305.2 : (Nat → Int32))
def F_VR_string_L89 (t0_0 : Int32) (t0_1 : Int32) (t0_2 : Int32) (t0_3 : Int32) (t0_4 : Int32) (t0_5 : Int32) (t0_6 : Int32) (t0_7 : Int32) (t0_8 : Int32) (t0_9 : Int32) (t0_10 : Int32) (t0_11 : Int32) (t0_12 : Int32) (t0_13 : Int32) (t0_14 : Int32) (t0_15 : Int32) (t0_16 : Int32) (t0_17 : Int32) (t0_18 : Int32) (t0_19 : Int32) (t0_20 : Int32) (t0_21 : Int32) (t1_0 : (Nat → Int32)) (t2_0 : (Nat → Int32)) (t3_0 : (Nat → Int64)) (t4_0 : (Nat → Int32)) (t5_0 : (Nat → Int32)) (t6_0 : (Nat → Int32)) : Nat → Int32 → Int32 → (Nat → Int32) → (Int32 × Int32 × Int32 × Int32 × (Nat → Int32) × (Nat → Int32))
  | 0, _, _, _ => default
  | fm + 1, lx258, lx259, lx260 => if (t2_0 t0_14.toNatClampNeg : Int32) ≤ lx258 then ((t0_9, lx259, t0_20, t0_21, lx260, t6_0)) else (F_VR_string_c117 (F_VR_string_L89 t0_0 t0_1 t0_2 t0_3 t0_4 t0_5 t0_6 t0_7 t0_8 t0_9 t0_10 t0_11 t0_12 t0_13 t0_14 t0_15 t0_16 t0_17 t0_18 t0_19 t0_20 t0_21 t1_0 t2_0 t3_0 t4_0 t5_0 t6_0 fm) t0_0 t0_1 t0_2 t0_3 t0_4 t0_5 t0_6 t0_7 t0_8 t0_9 t0_10 t0_11 t0_12 t0_13 t0_14 t0_15 t0_16 t0_17 t0_18 t0_19 t0_20 t0_21 t1_0 t2_0 t3_0 t4_0 t5_0 t6_0 lx258 lx259 lx260 ((F_VR_put (t4_0 ((64 * t0_14 : Int32) + lx258 : Int32).toNatClampNeg : Int32) t0_0 t0_1 t0_2 t0_3 t0_4 t0_5 t0_6 t0_7 t0_8 t0_9 t0_10 t0_11 t0_12 t0_13 t0_14 t0_15 t0_16 lx259 t0_18 t0_19 t0_20 t0_21 lx260) : (Int32 × (Nat → Int32))))
def F_VR_string_c226_14 (t0_0 : Int32) (t0_1 : Int32) (t0_2 : Int32) (t0_3 : Int32) (t0_4 : Int32) (t0_5 : Int32) (t0_6 : Int32) (t0_7 : Int32) (t0_8 : Int32) (t0_9 : Int32) (t0_10 : Int32) (t0_11 : Int32) (t0_12 : Int32) (t0_13 : Int32) (t0_14 : Int32) (t0_15 : Int32) (t0_16 : Int32) (t0_17 : Int32) (t0_18 : Int32) (t0_19 : Int32) (t0_20 : Int32) (t0_21 : Int32) (t1_0 : (Nat → Int32)) (t2_0 : (Nat → Int32)) (t3_0 : (Nat → Int64)) (t4_0 : (Nat → Int32)) (t5_0 : (Nat → Int32)) (t6_0 : (Nat → Int32)) (lx323 : Int32) (lx324 : (Nat → Int32)) (p360 : (Int32 × Int32 × (Nat → Int32))) (y350 : Int32) (y351 : Int32) (f352 : (Nat → Int32)) (lx372 : Int32) (a388 : Int32) (p403 : (Int32 × (Nat → Int32))) : Int32 × Int32 × Int32 × Int32 × (Nat → Int32) × (Nat → Int32) := (a388, (p403.1 : Int32), y350, lx372, (p403.2 : (Nat → Int32)), f352)
def F_VR_string_J202_13 (t0_0 : Int32) (t0_1 : Int32) (t0_2 : Int32) (t0_3 : Int32) (t0_4 : Int32) (t0_5 : Int32) (t0_6 : Int32) (t0_7 : Int32) (t0_8 : Int32) (t0_9 : Int32) (t0_10 : Int32) (t0_11 : Int32) (t0_12 : Int32) (t0_13 : Int32) (t0_14 : Int32) (t0_15 : Int32) (t0_16 : Int32) (t0_17 : Int32) (t0_18 : Int32) (t0_19 : Int32) (t0_20 : Int32) (t0_21 : Int32) (t1_0 : (Nat → Int32)) (t2_0 : (Nat → Int32)) (t3_0 : (Nat → Int64)) (t4_0 : (Nat → Int32)) (t5_0 : (Nat → Int32)) (t6_0 : (Nat → Int32)) (lx323 : Int32) (lx324 : (Nat → Int32)) (p360 : (Int32 × Int32 × (Nat → Int32))) (y350 : Int32) (y351 : Int32) (f352 : (Nat → Int32)) (lx372 : Int32) : Int32 × Int32 × Int32 × Int32 × (Nat → Int32) × (Nat → Int32) := F_VR_string_c226_14 t0_0 t0_1 t0_2 t0_3 t0_4 t0_5 t0_6 t0_7 t0_8 t0_9 t0_10 t0_11 t0_12 t0_13 t0_14 t0_15 t0_16 t0_17 t0_18 t0_19 t0_20 t0_21 t1_0 t2_0 t3_0 t4_0 t5_0 t6_0 lx323 lx324 p360 y350 y351 f352 lx372 (t0_9 &&& (-19) : Int32) ((F_VR_plain (y350 - lx372 : Int32) t0_0 t0_1 t0_2 t0_3 t0_4 t0_5 t0_6 t0_7 t0_8 (t0_9 &&& (-19) : Int32) t0_10 t0_11 t0_12 t0_13 t0_14 t0_15 t0_16 lx323 t0_18 t0_19 y350 lx372 lx324 f352) : (Int32 × (Nat → Int32)))
def F_VR_string_c164_12 (t0_0 : Int32) (t0_1 : Int32) (t0_2 : Int32) (t0_3 : Int32) (t0_4 : Int32) (t0_5 : Int32) (t0_6 : Int32) (t0_7 : Int32) (t0_8 : Int32) (t0_9 : Int32) (t0_10 : Int32) (t0_11 : Int32) (t0_12 : Int32) (t0_13 : Int32) (t0_14 : Int32) (t0_15 : Int32) (t0_16 : Int32) (t0_17 : Int32) (t0_18 : Int32) (t0_19 : Int32) (t0_20 : Int32) (t0_21 : Int32) (t1_0 : (Nat → Int32)) (t2_0 : (Nat → Int32)) (t3_0 : (Nat → Int64)) (t4_0 : (Nat → Int32)) (t5_0 : (Nat → Int32)) (t6_0 : (Nat → Int32)) (lx323 : Int32) (lx324 : (Nat → Int32)) (p360 : (Int32 × Int32 × (Nat → Int32))) : Int32 × Int32 × Int32 × Int32 × (Nat → Int32) × (Nat → Int32) := if (t1_0 t0_14.toNatClampNeg : Int32) = (5 : Int32) then (F_VR_string_J202_13 t0_0 t0_1 t0_2 t0_3 t0_4 t0_5 t0_6 t0_7 t0_8 t0_9 t0_10 t0_11 t0_12 t0_13 t0_14 t0_15 t0_16 t0_17 t0_18 t0_19 t0_20 t0_21 t1_0 t2_0 t3_0 t4_0 t5_0 t6_0 lx323 lx324 p360 (p360.1 : Int32) (p360.2.1 : Int32) (p360.2.2 : (Nat → Int32)) ((p360.1 : Int32) - (t2_0 t0_14.toNatClampNeg : Int32) : Int32)) else (F_VR_string_J202_13 t0_0 t0_1 t0_2 t0_3 t0_4 t0_5 t0_6 t0_7 t0_8 t0_9 t0_10 t0_11 t0_12 t0_13 t0_14 t0_15 t0_16 t0_17 t0_18 t0_19 t0_20 t0_21 t1_0 t2_0 t3_0 t4_0 t5_0 t6_0 lx323 lx324 p360 (p360.1 : Int32) (p360.2.1 : Int32) (p360.2.2 : (Nat → Int32)) (p360.1 : Int32))
def F_VR_string_J149_11 (t0_0 : Int32) (t0_1 : Int32) (t0_2 : Int32) (t0_3 : Int32) (t0_4 : Int32) (t0_5 : Int32) (t0_6 : Int32) (t0_7 : Int32) (t0_8 : Int32) (t0_9 : Int32) (t0_10 : Int32) (t0_11 : Int32) (t0_12 : Int32) (t0_13 : Int32) (t0_14 : Int32) (t0_15 : Int32) (t0_16 : Int32) (t0_17 : Int32) (t0_18 : Int32) (t0_19 : Int32) (t0_20 : Int32) (t0_21 : Int32) (t1_0 : (Nat → Int32)) (t2_0 : (Nat → Int32)) (t3_0 : (Nat → Int64)) (t4_0 : (Nat → Int32)) (t5_0 : (Nat → Int32)) (t6_0 : (Nat → Int32)) (lx323 : Int32) (lx324 : (Nat → Int32)) : Int32 × Int32 × Int32 × Int32 × (Nat → Int32) × (Nat → Int32) := F_VR_string_c164_12 t0_0 t0_1 t0_2 t0_3 t0_4 t0_5 t0_6 t0_7 t0_8 t0_9 t0_10 t0_11 t0_12 t0_13 t0_14 t0_15 t0_16 t0_17 t0_18 t0_19 t0_20 t0_21 t1_0 t2_0 t3_0 t4_0 t5_0 t6_0 lx323 lx324 ((F_VR_spread ((F_VR_size64 (t3_0 t0_14.toNatClampNeg : Int64)) : Int64) (10 : Int32) t0_0 t0_1 t0_2 t0_3 t0_4 t0_5 t0_6 t0_7 t0_8 t0_9 t0_10 t0_11 t0_12 t0_13 t0_14 t0_15 t0_16 lx323 t0_18 t0_19 t0_20 t0_21 t6_0) : (Int32 × Int32 × (Nat → Int32)))
def F_VR_string_c146_15 (t0_0 : Int32) (t0_1 : Int32) (t0_2 : Int32) (t0_3 : Int32) (t0_4 : Int32) (t0_5 : Int32) (t0_6 : Int32) (t0_7 : Int32) (t0_8 : Int32) (t0_9 : Int32) (t0_10 : Int32) (t0_11 : Int32) (t0_12 : Int32) (t0_13 : Int32) (t0_14 : Int32) (t0_15 : Int32) (t0_16 : Int32) (t0_17 : Int32) (t0_18 : Int32) (t0_19 : Int32) (t0_20 : Int32) (t0_21 : Int32) (t1_0 : (Nat → Int32)) (t2_0 : (Nat → Int32)) (t3_0 : (Nat → Int64)) (t4_0 : (Nat → Int32)) (t5_0 : (Nat → Int32)) (t6_0 : (Nat → Int32)) (p435 : (Int32 × (Nat → Int32))) : Int32 × Int32 × Int32 × Int32 × (Nat → Int32) × (Nat → Int32) := F_VR_string_J149_11 t0_0 t0_1 t0_2 t0_3 t0_4 t0_5 t0_6 t0_7 t0_8 t0_9 t0_10 t0_11 t0_12 t0_13 t0_14 t0_15 t0_16 t0_17 t0_18 t0_19 t0_20 t0_21 t1_0 t2_0 t3_0 t4_0 t5_0 t6_0 (p435.1 : Int32) (p435.2 : (Nat → Int32))
def F_VR_string (t0_0 : Int32) (t0_1 : Int32) (t0_2 : Int32) (t0_3 : Int32) (t0_4 : Int32) (t0_5 : Int32) (t0_6 : Int32) (t0_7 : Int32) (t0_8 : Int32) (t0_9 : Int32) (t0_10 : Int32) (t0_11 : Int32) (t0_12 : Int32) (t0_13 : Int32) (t0_14 : Int32) (t0_15 : Int32) (t0_16 : Int32) (t0_17 : Int32) (t0_18 : Int32) (t0_19 : Int32) (t0_20 : Int32) (t0_21 : Int32) (t1_0 : (Nat → Int32)) (t2_0 : (Nat → Int32)) (t3_0 : (Nat → Int64)) (t4_0 : (Nat → Int32)) (t5_0 : (Nat → Int32)) (t6_0 : (Nat → Int32)) : Int32 × Int32 × Int32 × Int32 × (Nat → Int32) × (Nat → Int32) := if (t1_0 t0_14.toNatClampNeg : Int32) = (1 : Int32) then (if (lg_cmp (t3_0 t0_14.toNatClampNeg : Int64) 1 : Int32) = (0 : Int32) then (F_VR_string_c64_2 t0_0 t0_1 t0_2 t0_3 t0_4 t0_5 t0_6 t0_7 t0_8 t0_9 t0_10 t0_11 t0_12 t0_13 t0_14 t0_15 t0_16 t0_17 t0_18 t0_19 t0_20 t0_21 t1_0 t2_0 t3_0 t4_0 t5_0 t6_0 ((F_VR_word (1702195828 : Int64) t0_0 t0_1 t0_2 t0_3 t0_4 t0_5 t0_6 t0_7 t0_8 t0_9 t0_10 t0_11 t0_12 t0_13 t0_14 t0_15 t0_16 t0_17 t0_18 t0_19 t0_20 t0_21 t5_0) : (Int32 × (Nat → Int32)))) else (F_VR_string_c64 t0_0 t0_1 t0_2 t0_3 t0_4 t0_5 t0_6 t0_7 t0_8 t0_9 t0_10 t0_11 t0_12 t0_13 t0_14 t0_15 t0_16 t0_17 t0_18 t0_19 t0_20 t0_21 t1_0 t2_0 t3_0 t4_0 t5_0 t6_0 ((F_VR_word (435728179558 : Int64) t0_0 t0_1 t0_2 t0_3 t0_4 t0_5 t0_6 t0_7 t0_8 t0_9 t0_10 t0_11 t0_12 t0_13 t0_14 t0_15 t0_16 t0_17 t0_18 t0_19 t0_20 t0_21 t5_0) : (Int32 × (Nat → Int32))))) else (if (t1_0 t0_14.toNatClampNeg : Int32) = (2 : Int32) then (F_VR_string_c81 t0_0 t0_1 t0_2 t0_3 t0_4 t0_5 t0_6 t0_7 t0_8 t0_9 t0_10 t0_11 t0_12 t0_13 t0_14 t0_15 t0_16 t0_17 t0_18 t0_19 t0_20 t0_21 t1_0 t2_0 t3_0 t4_0 t5_0 t6_0 ((F_VR_put ((t3_0 t0_14.toNatClampNeg : Int64).toInt32 : Int32) t0_0 t0_1 t0_2 t0_3 t0_4 t0_5 t0_6 t0_7 t0_8 t0_9 t0_10 t0_11 t0_12 t0_13 t0_14 t0_15 t0_16 t0_17 t0_18 t0_19 t0_20 t0_21 t5_0) : (Int32 × (Nat → Int32)))) else (if (t1_0 t0_14.toNatClampNeg : Int32) = (3 : Int32) then (if (0 : Int32) ≤ (lg_cmp (t3_0 t0_14.toNatClampNeg : Int64) 0 : Int32) then (F_VR_string_J149 t0_0 t0_1 t0_2 t0_3 t0_4 t0_5 t0_6 t0_7 t0_8 t0_9 t0_10 t0_11 t0_12 t0_13 t0_14 t0_15 t0_16 t0_17 t0_18 t0_19 t0_20 t0_21 t1_0 t2_0 t3_0 t4_0 t5_0 t6_0 t0_17 t5_0) else (F_VR_string_c146 t0_0 t0_1 t0_2 t0_3 t0_4 t0_5 t0_6 t0_7 t0_8 t0_9 t0_10 t0_11 t0_12 t0_13 t0_14 t0_15 t0_16 t0_17 t0_18 t0_19 t0_20 t0_21 t1_0 t2_0 t3_0 t4_0 t5_0 t6_0 ((F_VR_put (45 : Int32) t0_0 t0_1 t0_2 t0_3 t0_4 t0_5 t0_6 t0_7 t0_8 t0_9 t0_10 t0_11 t0_12 t0_13 t0_14 t0_15 t0_16 t0_17 t0_18 t0_19 t0_20 t0_21 t5_0) : (Int32 × (Nat → Int32))))) else (if (t1_0 t0_14.toNatClampNeg : Int32) = (4 : Int32) then (F_VR_string_L89 t0_0 t0_1 t0_2 t0_3 t0_4 t0_5 t0_6 t0_7 t0_8 t0_9 t0_10 t0_11 t0_12 t0_13 t0_14 t0_15 t0_16 t0_17 t0_18 t0_19 t0_20 t0_21 t1_0 t2_0 t3_0 t4_0 t5_0 t6_0 1000000 0 t0_17 t5_0) else (if (0 : Int32) ≤ (lg_cmp (t3_0 t0_14.toNatClampNeg : Int64) 0 : Int32) then (F_VR_string_J149_11 t0_0 t0_1 t0_2 t0_3 t0_4 t0_5 t0_6 t0_7 t0_8 t0_9 t0_10 t0_11 t0_12 t0_13 t0_14 t0_15 t0_16 t0_17 t0_18 t0_19 t0_20 t0_21 t1_0 t2_0 t3_0 t4_0 t5_0 t6_0 t0_17 t5_0) else (F_VR_string_c146_15 t0_0 t0_1 t0_2 t0_3 t0_4 t0_5 t0_6 t0_7 t0_8 t0_9 t0_10 t0_11 t0_12 t0_13 t0_14 t0_15 t0_16 t0_17 t0_18 t0_19 t0_20 t0_21 t1_0 t2_0 t3_0 t4_0 t5_0 t6_0 ((F_VR_put (45 : Int32) t0_0 t0_1 t0_2 t0_3 t0_4 t0_5 t0_6 t0_7 t0_8 t0_9 t0_10 t0_11 t0_12 t0_13 t0_14 t0_15 t0_16 t0_17 t0_18 t0_19 t0_20 t0_21 t5_0) : (Int32 × (Nat → Int32))))))))
def S_VR_string_c64 (t0_0 : Int32) (t0_1 : Int32) (t0_2 : Int32) (t0_3 : Int32) (t0_4 : Int32) (t0_5 : Int32) (t0_6 : Int32) (t0_7 : Int32) (t0_8 : Int32) (t0_9 : Int32) (t0_10 : Int32) (t0_11 : Int32) (t0_12 : Int32) (t0_13 : Int32) (t0_14 : Int32) (t0_15 : Int32) (t0_16 : Int32) (t0_17 : Int32) (t0_18 : Int32) (t0_19 : Int32) (t0_20 : Int32) (t0_21 : Int32) (t1_0 : (Nat → Int32)) (t2_0 : (Nat → Int32)) (t3_0 : (Nat → Int64)) (t4_0 : (Nat → Int32)) (t5_0 : (Nat → Int32)) (t6_0 : (Nat → Int32)) (p68 : (Int32 × (Nat → Int32))) : Prop := True
def S_VR_string_c64_2 (t0_0 : Int32) (t0_1 : Int32) (t0_2 : Int32) (t0_3 : Int32) (t0_4 : Int32) (t0_5 : Int32) (t0_6 : Int32) (t0_7 : Int32) (t0_8 : Int32) (t0_9 : Int32) (t0_10 : Int32) (t0_11 : Int32) (t0_12 : Int32) (t0_13 : Int32) (t0_14 : Int32) (t0_15 : Int32) (t0_16 : Int32) (t0_17 : Int32) (t0_18 : Int32) (t0_19 : Int32) (t0_20 : Int32) (t0_21 : Int32) (t1_0 : (Nat → Int32)) (t2_0 : (Nat → Int32)) (t3_0 : (Nat → Int64)) (t4_0 : (Nat → Int32)) (t5_0 : (Nat → Int32)) (t6_0 : (Nat → Int32)) (p87 : (Int32 × (Nat → Int32))) : Prop := True
def S_VR_string_c81 (t0_0 : Int32) (t0_1 : Int32) (t0_2 : Int32) (t0_3 : Int32) (t0_4 : Int32) (t0_5 : Int32) (t0_6 : Int32) (t0_7 : Int32) (t0_8 : Int32) (t0_9 : Int32) (t0_10 : Int32) (t0_11 : Int32) (t0_12 : Int32) (t0_13 : Int32) (t0_14 : Int32) (t0_15 : Int32) (t0_16 : Int32) (t0_17 : Int32) (t0_18 : Int32) (t0_19 : Int32) (t0_20 : Int32) (t0_21 : Int32) (t1_0 : (Nat → Int32)) (t2_0 : (Nat → Int32)) (t3_0 : (Nat → Int64)) (t4_0 : (Nat → Int32)) (t5_0 : (Nat → Int32)) (t6_0 : (Nat → Int32)) (p116 : (Int32 × (Nat → Int32))) : Prop := True
def S_VR_string_c226 (t0_0 : Int32) (t0_1 : Int32) (t0_2 : Int32) (t0_3 : Int32) (t0_4 : Int32) (t0_5 : Int32) (t0_6 : Int32) (t0_7 : Int32) (t0_8 : Int32) (t0_9 : Int32) (t0_10 : Int32) (t0_11 : Int32) (t0_12 : Int32) (t0_13 : Int32) (t0_14 : Int32) (t0_15 : Int32) (t0_16 : Int32) (t0_17 : Int32) (t0_18 : Int32) (t0_19 : Int32) (t0_20 : Int32) (t0_21 : Int32) (t1_0 : (Nat → Int32)) (t2_0 : (Nat → Int32)) (t3_0 : (Nat → Int64)) (t4_0 : (Nat → Int32)) (t5_0 : (Nat → Int32)) (t6_0 : (Nat → Int32)) (lx133 : Int32) (lx134 : (Nat → Int32)) (p170 : (Int32 × Int32 × (Nat → Int32))) (y160 : Int32) (y161 : Int32) (f162 : (Nat → Int32)) (lx182 : Int32) (a198 : Int32) (p213 : (Int32 × (Nat → Int32))) : Prop := True
def S_VR_string_J202 (t0_0 : Int32) (t0_1 : Int32) (t0_2 : Int32) (t0_3 : Int32) (t0_4 : Int32) (t0_5 : Int32) (t0_6 : Int32) (t0_7 : Int32) (t0_8 : Int32) (t0_9 : Int32) (t0_10 : Int32) (t0_11 : Int32) (t0_12 : Int32) (t0_13 : Int32) (t0_14 : Int32) (t0_15 : Int32) (t0_16 : Int32) (t0_17 : Int32) (t0_18 : Int32) (t0_19 : Int32) (t0_20 : Int32) (t0_21 : Int32) (t1_0 : (Nat → Int32)) (t2_0 : (Nat → Int32)) (t3_0 : (Nat → Int64)) (t4_0 : (Nat → Int32)) (t5_0 : (Nat → Int32)) (t6_0 : (Nat → Int32)) (lx133 : Int32) (lx134 : (Nat → Int32)) (p170 : (Int32 × Int32 × (Nat → Int32))) (y160 : Int32) (y161 : Int32) (f162 : (Nat → Int32)) (lx182 : Int32) : Prop := (True ∧ S_VR_plain (y160 - lx182 : Int32) t0_0 t0_1 t0_2 t0_3 t0_4 t0_5 t0_6 t0_7 t0_8 (t0_9 &&& (-19) : Int32) t0_10 t0_11 t0_12 t0_13 t0_14 t0_15 t0_16 lx133 t0_18 t0_19 y160 lx182 lx134 f162) ∧ (S_VR_string_c226 t0_0 t0_1 t0_2 t0_3 t0_4 t0_5 t0_6 t0_7 t0_8 t0_9 t0_10 t0_11 t0_12 t0_13 t0_14 t0_15 t0_16 t0_17 t0_18 t0_19 t0_20 t0_21 t1_0 t2_0 t3_0 t4_0 t5_0 t6_0 lx133 lx134 p170 y160 y161 f162 lx182 (t0_9 &&& (-19) : Int32) ((F_VR_plain (y160 - lx182 : Int32) t0_0 t0_1 t0_2 t0_3 t0_4 t0_5 t0_6 t0_7 t0_8 (t0_9 &&& (-19) : Int32) t0_10 t0_11 t0_12 t0_13 t0_14 t0_15 t0_16 lx133 t0_18 t0_19 y160 lx182 lx134 f162) : (Int32 × (Nat → Int32))))
def S_VR_string_c164 (t0_0 : Int32) (t0_1 : Int32) (t0_2 : Int32) (t0_3 : Int32) (t0_4 : Int32) (t0_5 : Int32) (t0_6 : Int32) (t0_7 : Int32) (t0_8 : Int32) (t0_9 : Int32) (t0_10 : Int32) (t0_11 : Int32) (t0_12 : Int32) (t0_13 : Int32) (t0_14 : Int32) (t0_15 : Int32) (t0_16 : Int32) (t0_17 : Int32) (t0_18 : Int32) (t0_19 : Int32) (t0_20 : Int32) (t0_21 : Int32) (t1_0 : (Nat → Int32)) (t2_0 : (Nat → Int32)) (t3_0 : (Nat → Int64)) (t4_0 : (Nat → Int32)) (t5_0 : (Nat → Int32)) (t6_0 : (Nat → Int32)) (lx133 : Int32) (lx134 : (Nat → Int32)) (p170 : (Int32 × Int32 × (Nat → Int32))) : Prop := if (t1_0 t0_14.toNatClampNeg : Int32) = (5 : Int32) then (S_VR_string_J202 t0_0 t0_1 t0_2 t0_3 t0_4 t0_5 t0_6 t0_7 t0_8 t0_9 t0_10 t0_11 t0_12 t0_13 t0_14 t0_15 t0_16 t0_17 t0_18 t0_19 t0_20 t0_21 t1_0 t2_0 t3_0 t4_0 t5_0 t6_0 lx133 lx134 p170 (p170.1 : Int32) (p170.2.1 : Int32) (p170.2.2 : (Nat → Int32)) ((p170.1 : Int32) - (t2_0 t0_14.toNatClampNeg : Int32) : Int32)) else (S_VR_string_J202 t0_0 t0_1 t0_2 t0_3 t0_4 t0_5 t0_6 t0_7 t0_8 t0_9 t0_10 t0_11 t0_12 t0_13 t0_14 t0_15 t0_16 t0_17 t0_18 t0_19 t0_20 t0_21 t1_0 t2_0 t3_0 t4_0 t5_0 t6_0 lx133 lx134 p170 (p170.1 : Int32) (p170.2.1 : Int32) (p170.2.2 : (Nat → Int32)) (p170.1 : Int32))
def S_VR_string_J149 (t0_0 : Int32) (t0_1 : Int32) (t0_2 : Int32) (t0_3 : Int32) (t0_4 : Int32) (t0_5 : Int32) (t0_6 : Int32) (t0_7 : Int32) (t0_8 : Int32) (t0_9 : Int32) (t0_10 : Int32) (t0_11 : Int32) (t0_12 : Int32) (t0_13 : Int32) (t0_14 : Int32) (t0_15 : Int32) (t0_16 : Int32) (t0_17 : Int32) (t0_18 : Int32) (t0_19 : Int32) (t0_20 : Int32) (t0_21 : Int32) (t1_0 : (Nat → Int32)) (t2_0 : (Nat → Int32)) (t3_0 : (Nat → Int64)) (t4_0 : (Nat → Int32)) (t5_0 : (Nat → Int32)) (t6_0 : (Nat → Int32)) (lx133 : Int32) (lx134 : (Nat → Int32)) : Prop := (True ∧ S_VR_spread ((F_VR_size64 (t3_0 t0_14.toNatClampNeg : Int64)) : Int64) (10 : Int32) t0_0 t0_1 t0_2 t0_3 t0_4 t0_5 t0_6 t0_7 t0_8 t0_9 t0_10 t0_11 t0_12 t0_13 t0_14 t0_15 t0_16 lx133 t0_18 t0_19 t0_20 t0_21 t6_0) ∧ (S_VR_string_c164 t0_0 t0_1 t0_2 t0_3 t0_4 t0_5 t0_6 t0_7 t0_8 t0_9 t0_10 t0_11 t0_12 t0_13 t0_14 t0_15 t0_16 t0_17 t0_18 t0_19 t0_20 t0_21 t1_0 t2_0 t3_0 t4_0 t5_0 t6_0 lx133 lx134 ((F_VR_spread ((F_VR_size64 (t3_0 t0_14.toNatClampNeg : Int64)) : Int64) (10 : Int32) t0_0 t0_1 t0_2 t0_3 t0_4 t0_5 t0_6 t0_7 t0_8 t0_9 t0_10 t0_11 t0_12 t0_13 t0_14 t0_15 t0_16 lx133 t0_18 t0_19 t0_20 t0_21 t6_0) : (Int32 × Int32 × (Nat → Int32))))
def S_VR_string_c146 (t0_0 : Int32) (t0_1 : Int32) (t0_2 : Int32) (t0_3 : Int32) (t0_4 : Int32) (t0_5 : Int32) (t0_6 : Int32) (t0_7 : Int32) (t0_8 : Int32) (t0_9 : Int32) (t0_10 : Int32) (t0_11 : Int32) (t0_12 : Int32) (t0_13 : Int32) (t0_14 : Int32) (t0_15 : Int32) (t0_16 : Int32) (t0_17 : Int32) (t0_18 : Int32) (t0_19 : Int32) (t0_20 : Int32) (t0_21 : Int32) (t1_0 : (Nat → Int32)) (t2_0 : (Nat → Int32)) (t3_0 : (Nat → Int64)) (t4_0 : (Nat → Int32)) (t5_0 : (Nat → Int32)) (t6_0 : (Nat → Int32)) (p245 : (Int32 × (Nat → Int32))) : Prop := S_VR_string_J149 t0_0 t0_1 t0_2 t0_3 t0_4 t0_5 t0_6 t0_7 t0_8 t0_9 t0_10 t0_11 t0_12 t0_13 t0_14 t0_15 t0_16 t0_17 t0_18 t0_19 t0_20 t0_21 t1_0 t2_0 t3_0 t4_0 t5_0 t6_0 (p245.1 : Int32) (p245.2 : (Nat → Int32))
def S_VR_string_c117 (K_S_VR_string_L89 : Int32 → Int32 → (Nat → Int32) → Prop) (t0_0 : Int32) (t0_1 : Int32) (t0_2 : Int32) (t0_3 : Int32) (t0_4 : Int32) (t0_5 : Int32) (t0_6 : Int32) (t0_7 : Int32) (t0_8 : Int32) (t0_9 : Int32) (t0_10 : Int32) (t0_11 : Int32) (t0_12 : Int32) (t0_13 : Int32) (t0_14 : Int32) (t0_15 : Int32) (t0_16 : Int32) (t0_17 : Int32) (t0_18 : Int32) (t0_19 : Int32) (t0_20 : Int32) (t0_21 : Int32) (t1_0 : (Nat → Int32)) (t2_0 : (Nat → Int32)) (t3_0 : (Nat → Int64)) (t4_0 : (Nat → Int32)) (t5_0 : (Nat → Int32)) (t6_0 : (Nat → Int32)) (lx258 : Int32) (lx259 : Int32) (lx260 : (Nat → Int32)) (p305 : (Int32 × (Nat → Int32))) : Prop := K_S_VR_string_L89 (lx258 + 1 : Int32) (p305.1 : Int32) (p305.2 : (Nat → Int32))
def S_VR_string_L89 (t0_0 : Int32) (t0_1 : Int32) (t0_2 : Int32) (t0_3 : Int32) (t0_4 : Int32) (t0_5 : Int32) (t0_6 : Int32) (t0_7 : Int32) (t0_8 : Int32) (t0_9 : Int32) (t0_10 : Int32) (t0_11 : Int32) (t0_12 : Int32) (t0_13 : Int32) (t0_14 : Int32) (t0_15 : Int32) (t0_16 : Int32) (t0_17 : Int32) (t0_18 : Int32) (t0_19 : Int32) (t0_20 : Int32) (t0_21 : Int32) (t1_0 : (Nat → Int32)) (t2_0 : (Nat → Int32)) (t3_0 : (Nat → Int64)) (t4_0 : (Nat → Int32)) (t5_0 : (Nat → Int32)) (t6_0 : (Nat → Int32)) : Nat → Int32 → Int32 → (Nat → Int32) → Prop
  | 0, _, _, _ => False
  | fm + 1, lx258, lx259, lx260 => if (t2_0 t0_14.toNatClampNeg : Int32) ≤ lx258 then (True) else ((0 ≤ ((64 * t0_14 : Int32) + lx258 : Int32).toInt) ∧ ((((64 * t0_14 : Int32) + lx258 : Int32).toInt ≤ 575) ∧ ((True ∧ S_VR_put (t4_0 ((64 * t0_14 : Int32) + lx258 : Int32).toNatClampNeg : Int32) t0_0 t0_1 t0_2 t0_3 t0_4 t0_5 t0_6 t0_7 t0_8 t0_9 t0_10 t0_11 t0_12 t0_13 t0_14 t0_15 t0_16 lx259 t0_18 t0_19 t0_20 t0_21 lx260) ∧ (S_VR_string_c117 (S_VR_string_L89 t0_0 t0_1 t0_2 t0_3 t0_4 t0_5 t0_6 t0_7 t0_8 t0_9 t0_10 t0_11 t0_12 t0_13 t0_14 t0_15 t0_16 t0_17 t0_18 t0_19 t0_20 t0_21 t1_0 t2_0 t3_0 t4_0 t5_0 t6_0 fm) t0_0 t0_1 t0_2 t0_3 t0_4 t0_5 t0_6 t0_7 t0_8 t0_9 t0_10 t0_11 t0_12 t0_13 t0_14 t0_15 t0_16 t0_17 t0_18 t0_19 t0_20 t0_21 t1_0 t2_0 t3_0 t4_0 t5_0 t6_0 lx258 lx259 lx260 ((F_VR_put (t4_0 ((64 * t0_14 : Int32) + lx258 : Int32).toNatClampNeg : Int32) t0_0 t0_1 t0_2 t0_3 t0_4 t0_5 t0_6 t0_7 t0_8 t0_9 t0_10 t0_11 t0_12 t0_13 t0_14 t0_15 t0_16 lx259 t0_18 t0_19 t0_20 t0_21 lx260) : (Int32 × (Nat → Int32)))))))
def S_VR_string_c226_14 (t0_0 : Int32) (t0_1 : Int32) (t0_2 : Int32) (t0_3 : Int32) (t0_4 : Int32) (t0_5 : Int32) (t0_6 : Int32) (t0_7 : Int32) (t0_8 : Int32) (t0_9 : Int32) (t0_10 : Int32) (t0_11 : Int32) (t0_12 : Int32) (t0_13 : Int32) (t0_14 : Int32) (t0_15 : Int32) (t0_16 : Int32) (t0_17 : Int32) (t0_18 : Int32) (t0_19 : Int32) (t0_20 : Int32) (t0_21 : Int32) (t1_0 : (Nat → Int32)) (t2_0 : (Nat → Int32)) (t3_0 : (Nat → Int64)) (t4_0 : (Nat → Int32)) (t5_0 : (Nat → Int32)) (t6_0 : (Nat → Int32)) (lx323 : Int32) (lx324 : (Nat → Int32)) (p360 : (Int32 × Int32 × (Nat → Int32))) (y350 : Int32) (y351 : Int32) (f352 : (Nat → Int32)) (lx372 : Int32) (a388 : Int32) (p403 : (Int32 × (Nat → Int32))) : Prop := True
def S_VR_string_J202_13 (t0_0 : Int32) (t0_1 : Int32) (t0_2 : Int32) (t0_3 : Int32) (t0_4 : Int32) (t0_5 : Int32) (t0_6 : Int32) (t0_7 : Int32) (t0_8 : Int32) (t0_9 : Int32) (t0_10 : Int32) (t0_11 : Int32) (t0_12 : Int32) (t0_13 : Int32) (t0_14 : Int32) (t0_15 : Int32) (t0_16 : Int32) (t0_17 : Int32) (t0_18 : Int32) (t0_19 : Int32) (t0_20 : Int32) (t0_21 : Int32) (t1_0 : (Nat → Int32)) (t2_0 : (Nat → Int32)) (t3_0 : (Nat → Int64)) (t4_0 : (Nat → Int32)) (t5_0 : (Nat → Int32)) (t6_0 : (Nat → Int32)) (lx323 : Int32) (lx324 : (Nat → Int32)) (p360 : (Int32 × Int32 × (Nat → Int32))) (y350 : Int32) (y351 : Int32) (f352 : (Nat → Int32)) (lx372 : Int32) : Prop := (True ∧ S_VR_plain (y350 - lx372 : Int32) t0_0 t0_1 t0_2 t0_3 t0_4 t0_5 t0_6 t0_7 t0_8 (t0_9 &&& (-19) : Int32) t0_10 t0_11 t0_12 t0_13 t0_14 t0_15 t0_16 lx323 t0_18 t0_19 y350 lx372 lx324 f352) ∧ (S_VR_string_c226_14 t0_0 t0_1 t0_2 t0_3 t0_4 t0_5 t0_6 t0_7 t0_8 t0_9 t0_10 t0_11 t0_12 t0_13 t0_14 t0_15 t0_16 t0_17 t0_18 t0_19 t0_20 t0_21 t1_0 t2_0 t3_0 t4_0 t5_0 t6_0 lx323 lx324 p360 y350 y351 f352 lx372 (t0_9 &&& (-19) : Int32) ((F_VR_plain (y350 - lx372 : Int32) t0_0 t0_1 t0_2 t0_3 t0_4 t0_5 t0_6 t0_7 t0_8 (t0_9 &&& (-19) : Int32) t0_10 t0_11 t0_12 t0_13 t0_14 t0_15 t0_16 lx323 t0_18 t0_19 y350 lx372 lx324 f352) : (Int32 × (Nat → Int32))))
def S_VR_string_c164_12 (t0_0 : Int32) (t0_1 : Int32) (t0_2 : Int32) (t0_3 : Int32) (t0_4 : Int32) (t0_5 : Int32) (t0_6 : Int32) (t0_7 : Int32) (t0_8 : Int32) (t0_9 : Int32) (t0_10 : Int32) (t0_11 : Int32) (t0_12 : Int32) (t0_13 : Int32) (t0_14 : Int32) (t0_15 : Int32) (t0_16 : Int32) (t0_17 : Int32) (t0_18 : Int32) (t0_19 : Int32) (t0_20 : Int32) (t0_21 : Int32) (t1_0 : (Nat → Int32)) (t2_0 : (Nat → Int32)) (t3_0 : (Nat → Int64)) (t4_0 : (Nat → Int32)) (t5_0 : (Nat → Int32)) (t6_0 : (Nat → Int32)) (lx323 : Int32) (lx324 : (Nat → Int32)) (p360 : (Int32 × Int32 × (Nat → Int32))) : Prop := if (t1_0 t0_14.toNatClampNeg : Int32) = (5 : Int32) then (S_VR_string_J202_13 t0_0 t0_1 t0_2 t0_3 t0_4 t0_5 t0_6 t0_7 t0_8 t0_9 t0_10 t0_11 t0_12 t0_13 t0_14 t0_15 t0_16 t0_17 t0_18 t0_19 t0_20 t0_21 t1_0 t2_0 t3_0 t4_0 t5_0 t6_0 lx323 lx324 p360 (p360.1 : Int32) (p360.2.1 : Int32) (p360.2.2 : (Nat → Int32)) ((p360.1 : Int32) - (t2_0 t0_14.toNatClampNeg : Int32) : Int32)) else (S_VR_string_J202_13 t0_0 t0_1 t0_2 t0_3 t0_4 t0_5 t0_6 t0_7 t0_8 t0_9 t0_10 t0_11 t0_12 t0_13 t0_14 t0_15 t0_16 t0_17 t0_18 t0_19 t0_20 t0_21 t1_0 t2_0 t3_0 t4_0 t5_0 t6_0 lx323 lx324 p360 (p360.1 : Int32) (p360.2.1 : Int32) (p360.2.2 : (Nat → Int32)) (p360.1 : Int32))
def S_VR_string_J149_11 (t0_0 : Int32) (t0_1 : Int32) (t0_2 : Int32) (t0_3 : Int32) (t0_4 : Int32) (t0_5 : Int32) (t0_6 : Int32) (t0_7 : Int32) (t0_8 : Int32) (t0_9 : Int32) (t0_10 : Int32) (t0_11 : Int32) (t0_12 : Int32) (t0_13 : Int32) (t0_14 : Int32) (t0_15 : Int32) (t0_16 : Int32) (t0_17 : Int32) (t0_18 : Int32) (t0_19 : Int32) (t0_20 : Int32) (t0_21 : Int32) (t1_0 : (Nat → Int32)) (t2_0 : (Nat → Int32)) (t3_0 : (Nat → Int64)) (t4_0 : (Nat → Int32)) (t5_0 : (Nat → Int32)) (t6_0 : (Nat → Int32)) (lx323 : Int32) (lx324 : (Nat → Int32)) : Prop := (True ∧ S_VR_spread ((F_VR_size64 (t3_0 t0_14.toNatClampNeg : Int64)) : Int64) (10 : Int32) t0_0 t0_1 t0_2 t0_3 t0_4 t0_5 t0_6 t0_7 t0_8 t0_9 t0_10 t0_11 t0_12 t0_13 t0_14 t0_15 t0_16 lx323 t0_18 t0_19 t0_20 t0_21 t6_0) ∧ (S_VR_string_c164_12 t0_0 t0_1 t0_2 t0_3 t0_4 t0_5 t0_6 t0_7 t0_8 t0_9 t0_10 t0_11 t0_12 t0_13 t0_14 t0_15 t0_16 t0_17 t0_18 t0_19 t0_20 t0_21 t1_0 t2_0 t3_0 t4_0 t5_0 t6_0 lx323 lx324 ((F_VR_spread ((F_VR_size64 (t3_0 t0_14.toNatClampNeg : Int64)) : Int64) (10 : Int32) t0_0 t0_1 t0_2 t0_3 t0_4 t0_5 t0_6 t0_7 t0_8 t0_9 t0_10 t0_11 t0_12 t0_13 t0_14 t0_15 t0_16 lx323 t0_18 t0_19 t0_20 t0_21 t6_0) : (Int32 × Int32 × (Nat → Int32))))
def S_VR_string_c146_15 (t0_0 : Int32) (t0_1 : Int32) (t0_2 : Int32) (t0_3 : Int32) (t0_4 : Int32) (t0_5 : Int32) (t0_6 : Int32) (t0_7 : Int32) (t0_8 : Int32) (t0_9 : Int32) (t0_10 : Int32) (t0_11 : Int32) (t0_12 : Int32) (t0_13 : Int32) (t0_14 : Int32) (t0_15 : Int32) (t0_16 : Int32) (t0_17 : Int32) (t0_18 : Int32) (t0_19 : Int32) (t0_20 : Int32) (t0_21 : Int32) (t1_0 : (Nat → Int32)) (t2_0 : (Nat → Int32)) (t3_0 : (Nat → Int64)) (t4_0 : (Nat → Int32)) (t5_0 : (Nat → Int32)) (t6_0 : (Nat → Int32)) (p435 : (Int32 × (Nat → Int32))) : Prop := S_VR_string_J149_11 t0_0 t0_1 t0_2 t0_3 t0_4 t0_5 t0_6 t0_7 t0_8 t0_9 t0_10 t0_11 t0_12 t0_13 t0_14 t0_15 t0_16 t0_17 t0_18 t0_19 t0_20 t0_21 t1_0 t2_0 t3_0 t4_0 t5_0 t6_0 (p435.1 : Int32) (p435.2 : (Nat → Int32))
def S_VR_string (t0_0 : Int32) (t0_1 : Int32) (t0_2 : Int32) (t0_3 : Int32) (t0_4 : Int32) (t0_5 : Int32) (t0_6 : Int32) (t0_7 : Int32) (t0_8 : Int32) (t0_9 : Int32) (t0_10 : Int32) (t0_11 : Int32) (t0_12 : Int32) (t0_13 : Int32) (t0_14 : Int32) (t0_15 : Int32) (t0_16 : Int32) (t0_17 : Int32) (t0_18 : Int32) (t0_19 : Int32) (t0_20 : Int32) (t0_21 : Int32) (t1_0 : (Nat → Int32)) (t2_0 : (Nat → Int32)) (t3_0 : (Nat → Int64)) (t4_0 : (Nat → Int32)) (t5_0 : (Nat → Int32)) (t6_0 : (Nat → Int32)) : Prop := (0 ≤ t0_14.toInt) ∧ ((t0_14.toInt ≤ 8) ∧ (if (t1_0 t0_14.toNatClampNeg : Int32) = (1 : Int32) then (if (lg_cmp (t3_0 t0_14.toNatClampNeg : Int64) 1 : Int32) = (0 : Int32) then ((True ∧ S_VR_word (1702195828 : Int64) t0_0 t0_1 t0_2 t0_3 t0_4 t0_5 t0_6 t0_7 t0_8 t0_9 t0_10 t0_11 t0_12 t0_13 t0_14 t0_15 t0_16 t0_17 t0_18 t0_19 t0_20 t0_21 t5_0) ∧ (S_VR_string_c64_2 t0_0 t0_1 t0_2 t0_3 t0_4 t0_5 t0_6 t0_7 t0_8 t0_9 t0_10 t0_11 t0_12 t0_13 t0_14 t0_15 t0_16 t0_17 t0_18 t0_19 t0_20 t0_21 t1_0 t2_0 t3_0 t4_0 t5_0 t6_0 ((F_VR_word (1702195828 : Int64) t0_0 t0_1 t0_2 t0_3 t0_4 t0_5 t0_6 t0_7 t0_8 t0_9 t0_10 t0_11 t0_12 t0_13 t0_14 t0_15 t0_16 t0_17 t0_18 t0_19 t0_20 t0_21 t5_0) : (Int32 × (Nat → Int32))))) else ((True ∧ S_VR_word (435728179558 : Int64) t0_0 t0_1 t0_2 t0_3 t0_4 t0_5 t0_6 t0_7 t0_8 t0_9 t0_10 t0_11 t0_12 t0_13 t0_14 t0_15 t0_16 t0_17 t0_18 t0_19 t0_20 t0_21 t5_0) ∧ (S_VR_string_c64 t0_0 t0_1 t0_2 t0_3 t0_4 t0_5 t0_6 t0_7 t0_8 t0_9 t0_10 t0_11 t0_12 t0_13 t0_14 t0_15 t0_16 t0_17 t0_18 t0_19 t0_20 t0_21 t1_0 t2_0 t3_0 t4_0 t5_0 t6_0 ((F_VR_word (435728179558 : Int64) t0_0 t0_1 t0_2 t0_3 t0_4 t0_5 t0_6 t0_7 t0_8 t0_9 t0_10 t0_11 t0_12 t0_13 t0_14 t0_15 t0_16 t0_17 t0_18 t0_19 t0_20 t0_21 t5_0) : (Int32 × (Nat → Int32)))))) else (if (t1_0 t0_14.toNatClampNeg : Int32) = (2 : Int32) then ((True ∧ S_VR_put ((t3_0 t0_14.toNatClampNeg : Int64).toInt32 : Int32) t0_0 t0_1 t0_2 t0_3 t0_4 t0_5 t0_6 t0_7 t0_8 t0_9 t0_10 t0_11 t0_12 t0_13 t0_14 t0_15 t0_16 t0_17 t0_18 t0_19 t0_20 t0_21 t5_0) ∧ (S_VR_string_c81 t0_0 t0_1 t0_2 t0_3 t0_4 t0_5 t0_6 t0_7 t0_8 t0_9 t0_10 t0_11 t0_12 t0_13 t0_14 t0_15 t0_16 t0_17 t0_18 t0_19 t0_20 t0_21 t1_0 t2_0 t3_0 t4_0 t5_0 t6_0 ((F_VR_put ((t3_0 t0_14.toNatClampNeg : Int64).toInt32 : Int32) t0_0 t0_1 t0_2 t0_3 t0_4 t0_5 t0_6 t0_7 t0_8 t0_9 t0_10 t0_11 t0_12 t0_13 t0_14 t0_15 t0_16 t0_17 t0_18 t0_19 t0_20 t0_21 t5_0) : (Int32 × (Nat → Int32))))) else (if (t1_0 t0_14.toNatClampNeg : Int32) = (3 : Int32) then (if (0 : Int32) ≤ (lg_cmp (t3_0 t0_14.toNatClampNeg : Int64) 0 : Int32) then (S_VR_string_J149 t0_0 t0_1 t0_2 t0_3 t0_4 t0_5 t0_6 t0_7 t0_8 t0_9 t0_10 t0_11 t0_12 t0_13 t0_14 t0_15 t0_16 t0_17 t0_18 t0_19 t0_20 t0_21 t1_0 t2_0 t3_0 t4_0 t5_0 t6_0 t0_17 t5_0) else ((True ∧ S_VR_put (45 : Int32) t0_0 t0_1 t0_2 t0_3 t0_4 t0_5 t0_6 t0_7 t0_8 t0_9 t0_10 t0_11 t0_12 t0_13 t0_14 t0_15 t0_16 t0_17 t0_18 t0_19 t0_20 t0_21 t5_0) ∧ (S_VR_string_c146 t0_0 t0_1 t0_2 t0_3 t0_4 t0_5 t0_6 t0_7 t0_8 t0_9 t0_10 t0_11 t0_12 t0_13 t0_14 t0_15 t0_16 t0_17 t0_18 t0_19 t0_20 t0_21 t1_0 t2_0 t3_0 t4_0 t5_0 t6_0 ((F_VR_put (45 : Int32) t0_0 t0_1 t0_2 t0_3 t0_4 t0_5 t0_6 t0_7 t0_8 t0_9 t0_10 t0_11 t0_12 t0_13 t0_14 t0_15 t0_16 t0_17 t0_18 t0_19 t0_20 t0_21 t5_0) : (Int32 × (Nat → Int32)))))) else (if (t1_0 t0_14.toNatClampNeg : Int32) = (4 : Int32) then (S_VR_string_L89 t0_0 t0_1 t0_2 t0_3 t0_4 t0_5 t0_6 t0_7 t0_8 t0_9 t0_10 t0_11 t0_12 t0_13 t0_14 t0_15 t0_16 t0_17 t0_18 t0_19 t0_20 t0_21 t1_0 t2_0 t3_0 t4_0 t5_0 t6_0 1000000 0 t0_17 t5_0) else (if (0 : Int32) ≤ (lg_cmp (t3_0 t0_14.toNatClampNeg : Int64) 0 : Int32) then (S_VR_string_J149_11 t0_0 t0_1 t0_2 t0_3 t0_4 t0_5 t0_6 t0_7 t0_8 t0_9 t0_10 t0_11 t0_12 t0_13 t0_14 t0_15 t0_16 t0_17 t0_18 t0_19 t0_20 t0_21 t1_0 t2_0 t3_0 t4_0 t5_0 t6_0 t0_17 t5_0) else ((True ∧ S_VR_put (45 : Int32) t0_0 t0_1 t0_2 t0_3 t0_4 t0_5 t0_6 t0_7 t0_8 t0_9 t0_10 t0_11 t0_12 t0_13 t0_14 t0_15 t0_16 t0_17 t0_18 t0_19 t0_20 t0_21 t5_0) ∧ (S_VR_string_c146_15 t0_0 t0_1 t0_2 t0_3 t0_4 t0_5 t0_6 t0_7 t0_8 t0_9 t0_10 t0_11 t0_12 t0_13 t0_14 t0_15 t0_16 t0_17 t0_18 t0_19 t0_20 t0_21 t1_0 t2_0 t3_0 t4_0 t5_0 t6_0 ((F_VR_put (45 : Int32) t0_0 t0_1 t0_2 t0_3 t0_4 t0_5 t0_6 t0_7 t0_8 t0_9 t0_10 t0_11 t0_12 t0_13 t0_14 t0_15 t0_16 t0_17 t0_18 t0_19 t0_20 t0_21 t5_0) : (Int32 × (Nat → Int32)))))))))))
set_option maxRecDepth 100000 in
set_option maxHeartbeats 4000000 in
theorem X_VR_string (l : Launch) (D : va_G) (g : Nat → ClassId) (q : Nat → Nat) (ws : va_W) (hI : q_I (msh g q) q ws) (t0_0 : Int32) (t0_1 : Int32) (t0_2 : Int32) (t0_3 : Int32) (t0_4 : Int32) (t0_5 : Int32) (t0_6 : Int32) (t0_7 : Int32) (t0_8 : Int32) (t0_9 : Int32) (t0_10 : Int32) (t0_11 : Int32) (t0_12 : Int32) (t0_13 : Int32) (t0_14 : Int32) (t0_15 : Int32) (t0_16 : Int32) (t0_17 : Int32) (t0_18 : Int32) (t0_19 : Int32) (t0_20 : Int32) (t0_21 : Int32) (hT0 : ws[157]? = (some (q 157, .inr (17, [.int t0_0, .ref (q 158), .int t0_1, .int t0_2, .ref (q 159), .ref (q 160), .ref (q 161), .ref (q 162), .ref (q 163), .int t0_3, .ref (q 164), .int t0_4, .int t0_5, .int t0_6, .int t0_7, .int t0_8, .int t0_9, .int t0_10, .int t0_11, .int t0_12, .int t0_13, .int t0_14, .int t0_15, .int t0_16, .ref (q 165), .int t0_17, .int t0_18, .int t0_19, .ref (q 166), .int t0_20, .int t0_21])) : Option (Nat × va_E))) (t1_0 : (Nat → Int32)) (hT1 : ws[159]? = (some (q 159, .inl (g 0, (9 : Int32).toNatClampNeg, .inl t1_0)) : Option (Nat × va_E))) (t2_0 : (Nat → Int32)) (hT2 : ws[160]? = (some (q 160, .inl (g 0, (9 : Int32).toNatClampNeg, .inl t2_0)) : Option (Nat × va_E))) (t3_0 : (Nat → Int64)) (hT3 : ws[161]? = (some (q 161, .inl (g 1, 9, .inr (.inl t3_0))) : Option (Nat × va_E))) (t4_0 : (Nat → Int32)) (hT4 : ws[162]? = (some (q 162, .inl (g 0, (576 : Int32).toNatClampNeg, .inl t4_0)) : Option (Nat × va_E))) (t5_0 : (Nat → Int32)) (hT5 : ws[165]? = (some (q 165, .inl (g 0, (20200 : Int32).toNatClampNeg, .inl t5_0)) : Option (Nat × va_E))) (t6_0 : (Nat → Int32)) (hT6 : ws[166]? = (some (q 166, .inl (g 0, (64 : Int32).toNatClampNeg, .inl t6_0)) : Option (Nat × va_E))) (hS : True ∧ S_VR_string t0_0 t0_1 t0_2 t0_3 t0_4 t0_5 t0_6 t0_7 t0_8 t0_9 t0_10 t0_11 t0_12 t0_13 t0_14 t0_15 t0_16 t0_17 t0_18 t0_19 t0_20 t0_21 t1_0 t2_0 t3_0 t4_0 t5_0 t6_0) : q_mV l y_VR_string prog_16_method_37_code 2 4 0 0 D g [.ref (q 157)] ws (fun u => q_I (msh g q) q u ∧ q_un ws u [157, 165, 166] ∧ ∃ (u0_9 : Int32) (u0_17 : Int32) (u0_20 : Int32) (u0_21 : Int32) (u5_0 : (Nat → Int32)) (u6_0 : (Nat → Int32)), u[157]? = (some (q 157, .inr (17, [.int t0_0, .ref (q 158), .int t0_1, .int t0_2, .ref (q 159), .ref (q 160), .ref (q 161), .ref (q 162), .ref (q 163), .int t0_3, .ref (q 164), .int t0_4, .int t0_5, .int t0_6, .int t0_7, .int t0_8, .int u0_9, .int t0_10, .int t0_11, .int t0_12, .int t0_13, .int t0_14, .int t0_15, .int t0_16, .ref (q 165), .int u0_17, .int t0_18, .int t0_19, .ref (q 166), .int u0_20, .int u0_21])) : Option (Nat × va_E)) ∧ u[165]? = (some (q 165, .inl (g 0, (20200 : Int32).toNatClampNeg, .inl u5_0)) : Option (Nat × va_E)) ∧ u[166]? = (some (q 166, .inl (g 0, (64 : Int32).toNatClampNeg, .inl u6_0)) : Option (Nat × va_E)) ∧ (u0_9, u0_17, u0_20, u0_21, u5_0, u6_0) = (F_VR_string t0_0 t0_1 t0_2 t0_3 t0_4 t0_5 t0_6 t0_7 t0_8 t0_9 t0_10 t0_11 t0_12 t0_13 t0_14 t0_15 t0_16 t0_17 t0_18 t0_19 t0_20 t0_21 t1_0 t2_0 t3_0 t4_0 t5_0 t6_0)) := by
  intro sz
  refine q_into (by decide) (Nat.le_of_ble_eq_true rfl) ?_
  intro p e s m below meth c ls hsz C0 V hl
  have hx := C0.1
  have hb := C0.2.1
  obtain ⟨yy0_0, yy0_1, yy0_2, yy0_3, yy0_4, yy0_5, yy0_6, yy0_7, yy0_8, yy0_9, yy0_10, yy0_11, yy0_12, yy0_13, yy0_14, yy0_15, yy0_16, yy0_17, yy0_18, yy0_19, yy0_20, yy0_21, hh0, btt0_1, btt0_2, btt0_3, btt0_10, btt0_19⟩ := n_o157 hI
  obtain ⟨rfl, rfl, rfl, rfl, rfl, rfl, rfl, rfl, rfl, rfl, rfl, rfl, rfl, rfl, rfl, rfl, rfl, rfl, rfl, rfl, rfl, rfl⟩ : t0_0 = yy0_0 ∧ t0_1 = yy0_1 ∧ t0_2 = yy0_2 ∧ t0_3 = yy0_3 ∧ t0_4 = yy0_4 ∧ t0_5 = yy0_5 ∧ t0_6 = yy0_6 ∧ t0_7 = yy0_7 ∧ t0_8 = yy0_8 ∧ t0_9 = yy0_9 ∧ t0_10 = yy0_10 ∧ t0_11 = yy0_11 ∧ t0_12 = yy0_12 ∧ t0_13 = yy0_13 ∧ t0_14 = yy0_14 ∧ t0_15 = yy0_15 ∧ t0_16 = yy0_16 ∧ t0_17 = yy0_17 ∧ t0_18 = yy0_18 ∧ t0_19 = yy0_19 ∧ t0_20 = yy0_20 ∧ t0_21 = yy0_21 := by have z := Option.some.inj (hT0.symm.trans hh0); simpa using z
  replace btt0_1 : q_F (0 ≤ t0_1.toInt ∧ t0_1.toInt ≤ 256) := btt0_1
  replace btt0_2 : q_F (0 ≤ t0_2.toInt ∧ t0_2.toInt ≤ 9) := btt0_2
  replace btt0_3 : q_F (0 ≤ t0_3.toInt ∧ t0_3.toInt ≤ 4096) := btt0_3
  replace btt0_10 : q_F (0 ≤ t0_10.toInt ∧ t0_10.toInt ≤ 1) := btt0_10
  replace btt0_19 : q_F (0 ≤ t0_19.toInt ∧ t0_19.toInt ≤ 1) := btt0_19
  have hF : q_un ws ws [157, 165, 166] := q_u0
  have hl : lv_has ls 2 [(0, .ref (q 157))] := hl
  refine lv_aload_n hx hb d_16_37_0 rfl (lv_at hl 0 rfl) ?_
  refine q_get (ci := 17) (j := 4) (v := .ref (q 159)) C0 V i_VR rfl rfl hT0 (by decide) w_2205 rfl d_16_37_1 ?_
  refine lv_aload_n hx hb d_16_37_4 rfl (lv_at hl 0 rfl) ?_
  refine q_get (ci := 17) (j := 21) (v := .int t0_14) C0 V i_VR rfl rfl hT0 (by decide) w_2225 rfl d_16_37_5 ?_
  have ob46 : q_F (0 ≤ t0_14.toInt) := (by have h := hS; rw [S_VR_string.eq_1] at h; exact h.2.1)
  have ob47 : q_F (t0_14.toInt ≤ 8) := (by have h := hS; rw [S_VR_string.eq_1] at h; replace h := q_s2 h; exact h.2.1)
  refine q_iald C0 V hT1 (q_ix (x := t0_14.toInt) rfl (by have t1 : 0 ≤ t0_14.toInt := ob46; omega) (by have t1 : 0 ≤ t0_14.toInt := ob46; have t2 : t0_14.toInt ≤ 8 := ob47; have e9 : (((9 : Int32).toNatClampNeg : Nat) : Int) = 9 := (by decide); omega)) d_16_37_8 ?_
  obtain ⟨a48, e49⟩ := q_nm (t1_0 t0_14.toNatClampNeg : Int32)
  refine q_ti (v := a48) e49 ?_
  by_cases c50 : a48 = 1
  ·
    have b51 : q_F (a48.toInt = 1) := (q_eqI c50)
    refine q_ti (v := 1) c50 ?_
    refine lv_tableIn (tgt := 40) (off := 31) hx hb d_16_37_9 (by decide) (by decide) (by decide) (by decide) ?_
    refine lv_aload_n hx hb d_16_37_40 rfl (lv_at hl 0 rfl) ?_
    refine lv_aload_n hx hb d_16_37_41 rfl (lv_at hl 0 rfl) ?_
    refine q_get (ci := 17) (j := 6) (v := .ref (q 161)) C0 V i_VR rfl rfl hT0 (by decide) w_2207 rfl d_16_37_42 ?_
    refine lv_aload_n hx hb d_16_37_45 rfl (lv_at hl 0 rfl) ?_
    refine q_get (ci := 17) (j := 21) (v := .int t0_14) C0 V i_VR rfl rfl hT0 (by decide) w_2225 rfl d_16_37_46 ?_
    refine q_lald C0 V hT3 (q_ix (x := t0_14.toInt) rfl (by have t1 : 0 ≤ t0_14.toInt := ob46; omega) (by have t1 : 0 ≤ t0_14.toInt := ob46; have t2 : t0_14.toInt ≤ 8 := ob47; omega)) d_16_37_49 ?_
    obtain ⟨j52, e53⟩ := q_nm (t3_0 t0_14.toNatClampNeg : Int64)
    refine q_tl (v := j52) e53 ?_
    refine lv_lconst (v := 1) hx hb d_16_37_50 (by decide) ?_
    refine W.lcmp hx hb d_16_37_51 ?_
    obtain ⟨a54, e55⟩ := q_nm (lg_cmp j52 1 : Int32)
    refine q_ti (v := a54) e55 ?_
    have b56 : q_F (-1 ≤ a54.toInt ∧ a54.toInt ≤ 1 ∧ ((a54.toInt = -1 ∧ j52.toInt < 1) ∨ (a54.toInt = 0 ∧ j52.toInt = 1) ∨ (a54.toInt = 1 ∧ 1 < j52.toInt))) := (by rw [← e55]; show -1 ≤ (lg_cmp j52 1 : Int32).toInt ∧ (lg_cmp j52 1 : Int32).toInt ≤ 1 ∧ (((lg_cmp j52 1 : Int32).toInt = -1 ∧ j52.toInt < 1) ∨ ((lg_cmp j52 1 : Int32).toInt = 0 ∧ j52.toInt = 1) ∨ ((lg_cmp j52 1 : Int32).toInt = 1 ∧ 1 < j52.toInt)); exact (by have y1 : (1 : Int64).toInt = 1 := rfl; have z := s_lcmp (a := j52) (b := 1); omega))
    refine lv_if_ne (tgt := 61) hx hb d_16_37_52 (by decide) (fun c57 => ?_) (fun c57 => ?_)
    ·
      have b58 : q_F (a54.toInt ≠ 0) := (q_neI c57)
      refine q_ldc2 C0 rfl w_3171 d_16_37_61 ?_
      have ob59 : True ∧ S_VR_word (435728179558 : Int64) t0_0 t0_1 t0_2 t0_3 t0_4 t0_5 t0_6 t0_7 t0_8 t0_9 t0_10 t0_11 t0_12 t0_13 t0_14 t0_15 t0_16 t0_17 t0_18 t0_19 t0_20 t0_21 t5_0 := (by have h := hS; rw [S_VR_string.eq_1] at h; replace h := q_s2 h; replace h := q_s2 h; have c50x := c50; rw [← e49] at c50x; rw [if_pos c50x] at h; have c57x := c57; rw [← e55, ← e53] at c57x; rw [if_neg c57x] at h; with_reducible exact h.2.1)
      refine q_gov V (q_runV (As := [.long 435728179558]) (rest := []) (d := 2) (mc := 0) (ms := 0) (ci := 17) C0 V rfl LV_VR_170 (X_VR_word l D g q ws  435728179558 hI t0_0 t0_1 t0_2 t0_3 t0_4 t0_5 t0_6 t0_7 t0_8 t0_9 t0_10 t0_11 t0_12 t0_13 t0_14 t0_15 t0_16 t0_17 t0_18 t0_19 t0_20 t0_21 hT0 t5_0 hT5 ob59 _) rfl rfl hT0 rfl hl.1 rfl (Nat.le_of_ble_eq_true rfl) ⟨by decide, by decide⟩ ⟨Nat.le_of_ble_eq_true rfl, Nat.le_of_ble_eq_true rfl⟩ d_16_37_64) (fun u60 H locs hp61 V => ?_)
      obtain ⟨hI, hu67, y63, f64, hO62, hA65, hE66⟩ := hp61
      replace hO62 : u60[157]? = (some (q 157, .inr (17, [.int t0_0, .ref (q 158), .int t0_1, .int t0_2, .ref (q 159), .ref (q 160), .ref (q 161), .ref (q 162), .ref (q 163), .int t0_3, .ref (q 164), .int t0_4, .int t0_5, .int t0_6, .int t0_7, .int t0_8, .int t0_9, .int t0_10, .int t0_11, .int t0_12, .int t0_13, .int t0_14, .int t0_15, .int t0_16, .ref (q 165), .int y63, .int t0_18, .int t0_19, .ref (q 166), .int t0_20, .int t0_21])) : Option (Nat × va_E)) := hO62
      replace hA65 : u60[165]? = (some (q 165, .inl (g 0, (20200 : Int32).toNatClampNeg, .inl f64)) : Option (Nat × va_E)) := hA65
      obtain ⟨p68, e69⟩ : ∃ z, z = (F_VR_word (435728179558 : Int64) t0_0 t0_1 t0_2 t0_3 t0_4 t0_5 t0_6 t0_7 t0_8 t0_9 t0_10 t0_11 t0_12 t0_13 t0_14 t0_15 t0_16 t0_17 t0_18 t0_19 t0_20 t0_21 t5_0) := ⟨_, rfl⟩
      have e70 : y63 = p68.1 := congrArg (fun z => z.1) (hE66.trans e69.symm)
      have e71 : f64 = p68.2 := congrArg (fun z => z.2) (hE66.trans e69.symm)
      replace hT1 := (hu67 _ (by decide)).trans hT1
      replace hT2 := (hu67 _ (by decide)).trans hT2
      replace hT3 := (hu67 _ (by decide)).trans hT3
      replace hT4 := (hu67 _ (by decide)).trans hT4
      replace hT6 := (hu67 _ (by decide)).trans hT6
      replace hF := q_uc hF hu67 (by simp)
      have hR72 := (show F_VR_string_c64 t0_0 t0_1 t0_2 t0_3 t0_4 t0_5 t0_6 t0_7 t0_8 t0_9 t0_10 t0_11 t0_12 t0_13 t0_14 t0_15 t0_16 t0_17 t0_18 t0_19 t0_20 t0_21 t1_0 t2_0 t3_0 t4_0 t5_0 t6_0 p68 = (F_VR_string t0_0 t0_1 t0_2 t0_3 t0_4 t0_5 t0_6 t0_7 t0_8 t0_9 t0_10 t0_11 t0_12 t0_13 t0_14 t0_15 t0_16 t0_17 t0_18 t0_19 t0_20 t0_21 t1_0 t2_0 t3_0 t4_0 t5_0 t6_0) from (by have c50x := c50; rw [← e49] at c50x; have c57x := c57; rw [← e55, ← e53] at c57x; rw [e69, F_VR_string.eq_1, if_pos c50x, if_neg c57x]))
      have hS73 := (show True ∧ S_VR_string_c64 t0_0 t0_1 t0_2 t0_3 t0_4 t0_5 t0_6 t0_7 t0_8 t0_9 t0_10 t0_11 t0_12 t0_13 t0_14 t0_15 t0_16 t0_17 t0_18 t0_19 t0_20 t0_21 t1_0 t2_0 t3_0 t4_0 t5_0 t6_0 p68 from (by rw [e69]; have h := hS; rw [S_VR_string.eq_1] at h; replace h := q_s2 h; replace h := q_s2 h; have c50x := c50; rw [← e49] at c50x; rw [if_pos c50x] at h; have c57x := c57; rw [← e55, ← e53] at c57x; rw [if_neg c57x] at h; replace h := q_s2 h; with_reducible exact h))
      refine lv_goto (tgt := 229) hx hb d_16_37_67 (by decide) ?_
      exact q_retv C0 V (⟨hI, hF, t0_9, y63, t0_20, t0_21, f64, t6_0, hO62, hA65, hT6, (show (t0_9, y63, t0_20, t0_21, f64, t6_0) = (F_VR_string t0_0 t0_1 t0_2 t0_3 t0_4 t0_5 t0_6 t0_7 t0_8 t0_9 t0_10 t0_11 t0_12 t0_13 t0_14 t0_15 t0_16 t0_17 t0_18 t0_19 t0_20 t0_21 t1_0 t2_0 t3_0 t4_0 t5_0 t6_0) from Eq.trans (by rw [e71, e70, F_VR_string_c64.eq_1]) hR72)⟩) d_16_37_229
    ·
      have b77 : q_F (a54.toInt = 0) := (q_eqI c57)
      refine q_ldc2 C0 rfl w_3172 d_16_37_55 ?_
      refine lv_goto (tgt := 64) hx hb d_16_37_58 (by decide) ?_
      have ob78 : True ∧ S_VR_word (1702195828 : Int64) t0_0 t0_1 t0_2 t0_3 t0_4 t0_5 t0_6 t0_7 t0_8 t0_9 t0_10 t0_11 t0_12 t0_13 t0_14 t0_15 t0_16 t0_17 t0_18 t0_19 t0_20 t0_21 t5_0 := (by have h := hS; rw [S_VR_string.eq_1] at h; replace h := q_s2 h; replace h := q_s2 h; have c50x := c50; rw [← e49] at c50x; rw [if_pos c50x] at h; have c57x := c57; rw [← e55, ← e53] at c57x; rw [if_pos c57x] at h; with_reducible exact h.2.1)
      refine q_gov V (q_runV (As := [.long 1702195828]) (rest := []) (d := 2) (mc := 0) (ms := 0) (ci := 17) C0 V rfl LV_VR_170 (X_VR_word l D g q ws  1702195828 hI t0_0 t0_1 t0_2 t0_3 t0_4 t0_5 t0_6 t0_7 t0_8 t0_9 t0_10 t0_11 t0_12 t0_13 t0_14 t0_15 t0_16 t0_17 t0_18 t0_19 t0_20 t0_21 hT0 t5_0 hT5 ob78 _) rfl rfl hT0 rfl hl.1 rfl (Nat.le_of_ble_eq_true rfl) ⟨by decide, by decide⟩ ⟨Nat.le_of_ble_eq_true rfl, Nat.le_of_ble_eq_true rfl⟩ d_16_37_64) (fun u79 H locs hp80 V => ?_)
      obtain ⟨hI, hu86, y82, f83, hO81, hA84, hE85⟩ := hp80
      replace hO81 : u79[157]? = (some (q 157, .inr (17, [.int t0_0, .ref (q 158), .int t0_1, .int t0_2, .ref (q 159), .ref (q 160), .ref (q 161), .ref (q 162), .ref (q 163), .int t0_3, .ref (q 164), .int t0_4, .int t0_5, .int t0_6, .int t0_7, .int t0_8, .int t0_9, .int t0_10, .int t0_11, .int t0_12, .int t0_13, .int t0_14, .int t0_15, .int t0_16, .ref (q 165), .int y82, .int t0_18, .int t0_19, .ref (q 166), .int t0_20, .int t0_21])) : Option (Nat × va_E)) := hO81
      replace hA84 : u79[165]? = (some (q 165, .inl (g 0, (20200 : Int32).toNatClampNeg, .inl f83)) : Option (Nat × va_E)) := hA84
      obtain ⟨p87, e88⟩ : ∃ z, z = (F_VR_word (1702195828 : Int64) t0_0 t0_1 t0_2 t0_3 t0_4 t0_5 t0_6 t0_7 t0_8 t0_9 t0_10 t0_11 t0_12 t0_13 t0_14 t0_15 t0_16 t0_17 t0_18 t0_19 t0_20 t0_21 t5_0) := ⟨_, rfl⟩
      have e89 : y82 = p87.1 := congrArg (fun z => z.1) (hE85.trans e88.symm)
      have e90 : f83 = p87.2 := congrArg (fun z => z.2) (hE85.trans e88.symm)
      replace hT1 := (hu86 _ (by decide)).trans hT1
      replace hT2 := (hu86 _ (by decide)).trans hT2
      replace hT3 := (hu86 _ (by decide)).trans hT3
      replace hT4 := (hu86 _ (by decide)).trans hT4
      replace hT6 := (hu86 _ (by decide)).trans hT6
      replace hF := q_uc hF hu86 (by simp)
      have hR91 := (show F_VR_string_c64_2 t0_0 t0_1 t0_2 t0_3 t0_4 t0_5 t0_6 t0_7 t0_8 t0_9 t0_10 t0_11 t0_12 t0_13 t0_14 t0_15 t0_16 t0_17 t0_18 t0_19 t0_20 t0_21 t1_0 t2_0 t3_0 t4_0 t5_0 t6_0 p87 = (F_VR_string t0_0 t0_1 t0_2 t0_3 t0_4 t0_5 t0_6 t0_7 t0_8 t0_9 t0_10 t0_11 t0_12 t0_13 t0_14 t0_15 t0_16 t0_17 t0_18 t0_19 t0_20 t0_21 t1_0 t2_0 t3_0 t4_0 t5_0 t6_0) from (by have c50x := c50; rw [← e49] at c50x; have c57x := c57; rw [← e55, ← e53] at c57x; rw [e88, F_VR_string.eq_1, if_pos c50x, if_pos c57x]))
      have hS92 := (show True ∧ S_VR_string_c64_2 t0_0 t0_1 t0_2 t0_3 t0_4 t0_5 t0_6 t0_7 t0_8 t0_9 t0_10 t0_11 t0_12 t0_13 t0_14 t0_15 t0_16 t0_17 t0_18 t0_19 t0_20 t0_21 t1_0 t2_0 t3_0 t4_0 t5_0 t6_0 p87 from (by rw [e88]; have h := hS; rw [S_VR_string.eq_1] at h; replace h := q_s2 h; replace h := q_s2 h; have c50x := c50; rw [← e49] at c50x; rw [if_pos c50x] at h; have c57x := c57; rw [← e55, ← e53] at c57x; rw [if_pos c57x] at h; replace h := q_s2 h; with_reducible exact h))
      refine lv_goto (tgt := 229) hx hb d_16_37_67 (by decide) ?_
      exact q_retv C0 V (⟨hI, hF, t0_9, y82, t0_20, t0_21, f83, t6_0, hO81, hA84, hT6, (show (t0_9, y82, t0_20, t0_21, f83, t6_0) = (F_VR_string t0_0 t0_1 t0_2 t0_3 t0_4 t0_5 t0_6 t0_7 t0_8 t0_9 t0_10 t0_11 t0_12 t0_13 t0_14 t0_15 t0_16 t0_17 t0_18 t0_19 t0_20 t0_21 t1_0 t2_0 t3_0 t4_0 t5_0 t6_0) from Eq.trans (by rw [e90, e89, F_VR_string_c64_2.eq_1]) hR91)⟩) d_16_37_229
  have b96 : q_F (a48.toInt ≠ 1) := (q_neI c50)
  by_cases c97 : a48 = 2
  ·
    have b98 : q_F (a48.toInt = 2) := (q_eqI c97)
    refine q_ti (v := 2) c97 ?_
    refine lv_tableIn (tgt := 70) (off := 61) hx hb d_16_37_9 (by decide) (by decide) (by decide) (by decide) ?_
    refine lv_aload_n hx hb d_16_37_70 rfl (lv_at hl 0 rfl) ?_
    refine lv_aload_n hx hb d_16_37_71 rfl (lv_at hl 0 rfl) ?_
    refine q_get (ci := 17) (j := 6) (v := .ref (q 161)) C0 V i_VR rfl rfl hT0 (by decide) w_2207 rfl d_16_37_72 ?_
    refine lv_aload_n hx hb d_16_37_75 rfl (lv_at hl 0 rfl) ?_
    refine q_get (ci := 17) (j := 21) (v := .int t0_14) C0 V i_VR rfl rfl hT0 (by decide) w_2225 rfl d_16_37_76 ?_
    refine q_lald C0 V hT3 (q_ix (x := t0_14.toInt) rfl (by have t1 : 0 ≤ t0_14.toInt := ob46; omega) (by have t1 : 0 ≤ t0_14.toInt := ob46; have t2 : t0_14.toInt ≤ 8 := ob47; omega)) d_16_37_79 ?_
    obtain ⟨j99, e100⟩ := q_nm (t3_0 t0_14.toNatClampNeg : Int64)
    refine q_tl (v := j99) e100 ?_
    refine lv_l2i hx hb d_16_37_80 rfl ?_
    obtain ⟨a101, e102⟩ := q_nm (j99.toInt32 : Int32)
    refine q_ti (v := a101) e102 ?_
    have ob103 : True ∧ S_VR_put a101 t0_0 t0_1 t0_2 t0_3 t0_4 t0_5 t0_6 t0_7 t0_8 t0_9 t0_10 t0_11 t0_12 t0_13 t0_14 t0_15 t0_16 t0_17 t0_18 t0_19 t0_20 t0_21 t5_0 := (by rw [← e102, ← e100]; have h := hS; rw [S_VR_string.eq_1] at h; replace h := q_s2 h; replace h := q_s2 h; have c50x := c50; rw [← e49] at c50x; rw [if_neg c50x] at h; have c97x := c97; rw [← e49] at c97x; rw [if_pos c97x] at h; with_reducible exact h.2.1)
    refine q_gov V (q_runV (As := [.int a101]) (rest := []) (d := 1) (mc := 0) (ms := 0) (ci := 17) C0 V rfl LV_VR_122 (X_VR_put l D g q ws  a101 hI t0_0 t0_1 t0_2 t0_3 t0_4 t0_5 t0_6 t0_7 t0_8 t0_9 t0_10 t0_11 t0_12 t0_13 t0_14 t0_15 t0_16 t0_17 t0_18 t0_19 t0_20 t0_21 hT0 t5_0 hT5 ob103 _) rfl rfl hT0 rfl hl.1 rfl (Nat.le_of_ble_eq_true rfl) ⟨by decide, by decide⟩ ⟨Nat.le_of_ble_eq_true rfl, Nat.le_of_ble_eq_true rfl⟩ d_16_37_81) (fun u104 H locs hp105 V => ?_)
    obtain ⟨hI, hu115, y107, f108, hO106, hA109, b110, b111, b112, b113, hE114⟩ := hp105
    replace hO106 : u104[157]? = (some (q 157, .inr (17, [.int t0_0, .ref (q 158), .int t0_1, .int t0_2, .ref (q 159), .ref (q 160), .ref (q 161), .ref (q 162), .ref (q 163), .int t0_3, .ref (q 164), .int t0_4, .int t0_5, .int t0_6, .int t0_7, .int t0_8, .int t0_9, .int t0_10, .int t0_11, .int t0_12, .int t0_13, .int t0_14, .int t0_15, .int t0_16, .ref (q 165), .int y107, .int t0_18, .int t0_19, .ref (q 166), .int t0_20, .int t0_21])) : Option (Nat × va_E)) := hO106
    replace hA109 : u104[165]? = (some (q 165, .inl (g 0, (20200 : Int32).toNatClampNeg, .inl f108)) : Option (Nat × va_E)) := hA109
    obtain ⟨p116, e117⟩ : ∃ z, z = (F_VR_put a101 t0_0 t0_1 t0_2 t0_3 t0_4 t0_5 t0_6 t0_7 t0_8 t0_9 t0_10 t0_11 t0_12 t0_13 t0_14 t0_15 t0_16 t0_17 t0_18 t0_19 t0_20 t0_21 t5_0) := ⟨_, rfl⟩
    have e118 : y107 = p116.1 := congrArg (fun z => z.1) (hE114.trans e117.symm)
    have e119 : f108 = p116.2 := congrArg (fun z => z.2) (hE114.trans e117.symm)
    replace b110 : q_F (1 ≤ y107.toInt) := b110
    replace b111 : q_F (y107.toInt ≤ 20200) := b111
    replace b112 : q_F (t0_17.toInt + 1 ≤ y107.toInt) := b112
    replace b113 : q_F (y107.toInt ≤ t0_17.toInt + 1) := b113
    replace hT1 := (hu115 _ (by decide)).trans hT1
    replace hT2 := (hu115 _ (by decide)).trans hT2
    replace hT3 := (hu115 _ (by decide)).trans hT3
    replace hT4 := (hu115 _ (by decide)).trans hT4
    replace hT6 := (hu115 _ (by decide)).trans hT6
    replace hF := q_uc hF hu115 (by simp)
    have hR120 := (show F_VR_string_c81 t0_0 t0_1 t0_2 t0_3 t0_4 t0_5 t0_6 t0_7 t0_8 t0_9 t0_10 t0_11 t0_12 t0_13 t0_14 t0_15 t0_16 t0_17 t0_18 t0_19 t0_20 t0_21 t1_0 t2_0 t3_0 t4_0 t5_0 t6_0 p116 = (F_VR_string t0_0 t0_1 t0_2 t0_3 t0_4 t0_5 t0_6 t0_7 t0_8 t0_9 t0_10 t0_11 t0_12 t0_13 t0_14 t0_15 t0_16 t0_17 t0_18 t0_19 t0_20 t0_21 t1_0 t2_0 t3_0 t4_0 t5_0 t6_0) from (by have c50x := c50; rw [← e49] at c50x; have c97x := c97; rw [← e49] at c97x; rw [e117, ← e102, ← e100, F_VR_string.eq_1, if_neg c50x, if_pos c97x]))
    have hS121 := (show True ∧ S_VR_string_c81 t0_0 t0_1 t0_2 t0_3 t0_4 t0_5 t0_6 t0_7 t0_8 t0_9 t0_10 t0_11 t0_12 t0_13 t0_14 t0_15 t0_16 t0_17 t0_18 t0_19 t0_20 t0_21 t1_0 t2_0 t3_0 t4_0 t5_0 t6_0 p116 from (by rw [e117, ← e102, ← e100]; have h := hS; rw [S_VR_string.eq_1] at h; replace h := q_s2 h; replace h := q_s2 h; have c50x := c50; rw [← e49] at c50x; rw [if_neg c50x] at h; have c97x := c97; rw [← e49] at c97x; rw [if_pos c97x] at h; replace h := q_s2 h; with_reducible exact h))
    refine lv_goto (tgt := 229) hx hb d_16_37_84 (by decide) ?_
    exact q_retv C0 V (⟨hI, hF, t0_9, y107, t0_20, t0_21, f108, t6_0, hO106, hA109, hT6, (show (t0_9, y107, t0_20, t0_21, f108, t6_0) = (F_VR_string t0_0 t0_1 t0_2 t0_3 t0_4 t0_5 t0_6 t0_7 t0_8 t0_9 t0_10 t0_11 t0_12 t0_13 t0_14 t0_15 t0_16 t0_17 t0_18 t0_19 t0_20 t0_21 t1_0 t2_0 t3_0 t4_0 t5_0 t6_0) from Eq.trans (by rw [e119, e118, F_VR_string_c81.eq_1]) hR120)⟩) d_16_37_229
  have b125 : q_F (a48.toInt ≠ 2) := (q_neI c97)
  by_cases c126 : a48 = 3
  ·
    have b127 : q_F (a48.toInt = 3) := (q_eqI c126)
    refine q_ti (v := 3) c126 ?_
    refine lv_tableIn (tgt := 129) (off := 120) hx hb d_16_37_9 (by decide) (by decide) (by decide) (by decide) ?_
    refine lv_aload_n hx hb d_16_37_129 rfl (lv_at hl 0 rfl) ?_
    refine q_get (ci := 17) (j := 6) (v := .ref (q 161)) C0 V i_VR rfl rfl hT0 (by decide) w_2207 rfl d_16_37_130 ?_
    refine lv_aload_n hx hb d_16_37_133 rfl (lv_at hl 0 rfl) ?_
    refine q_get (ci := 17) (j := 21) (v := .int t0_14) C0 V i_VR rfl rfl hT0 (by decide) w_2225 rfl d_16_37_134 ?_
    refine q_lald C0 V hT3 (q_ix (x := t0_14.toInt) rfl (by have t1 : 0 ≤ t0_14.toInt := ob46; omega) (by have t1 : 0 ≤ t0_14.toInt := ob46; have t2 : t0_14.toInt ≤ 8 := ob47; omega)) d_16_37_137 ?_
    obtain ⟨j128, e129⟩ := q_nm (t3_0 t0_14.toNatClampNeg : Int64)
    refine q_tl (v := j128) e129 ?_
    refine lv_lconst (v := 0) hx hb d_16_37_138 (by decide) ?_
    refine W.lcmp hx hb d_16_37_139 ?_
    obtain ⟨a130, e131⟩ := q_nm (lg_cmp j128 0 : Int32)
    refine q_ti (v := a130) e131 ?_
    have b132 : q_F (-1 ≤ a130.toInt ∧ a130.toInt ≤ 1 ∧ ((a130.toInt = -1 ∧ j128.toInt < 0) ∨ (a130.toInt = 0 ∧ j128.toInt = 0) ∨ (a130.toInt = 1 ∧ 0 < j128.toInt))) := (by rw [← e131]; show -1 ≤ (lg_cmp j128 0 : Int32).toInt ∧ (lg_cmp j128 0 : Int32).toInt ≤ 1 ∧ (((lg_cmp j128 0 : Int32).toInt = -1 ∧ j128.toInt < 0) ∨ ((lg_cmp j128 0 : Int32).toInt = 0 ∧ j128.toInt = 0) ∨ ((lg_cmp j128 0 : Int32).toInt = 1 ∧ 0 < j128.toInt)); exact (by have y1 : (0 : Int64).toInt = 0 := rfl; have z := s_lcmp (a := j128) (b := 0); omega))
    refine q_join (X := Int32 × (Nat → Int32)) (fun z H locs ls w143 => q_Wd D g (va_A ws sz) s w143 H locs ∧ lv_has ls 2 [(0, .ref (q 157))] ∧ q_I (msh g q) q w143 ∧ q_un ws w143 [157, 165, 166] ∧ w143[157]? = (some (q 157, .inr (17, [.int t0_0, .ref (q 158), .int t0_1, .int t0_2, .ref (q 159), .ref (q 160), .ref (q 161), .ref (q 162), .ref (q 163), .int t0_3, .ref (q 164), .int t0_4, .int t0_5, .int t0_6, .int t0_7, .int t0_8, .int t0_9, .int t0_10, .int t0_11, .int t0_12, .int t0_13, .int t0_14, .int t0_15, .int t0_16, .ref (q 165), .int z.1, .int t0_18, .int t0_19, .ref (q 166), .int t0_20, .int t0_21])) : Option (Nat × va_E)) ∧ w143[159]? = (some (q 159, .inl (g 0, (9 : Int32).toNatClampNeg, .inl t1_0)) : Option (Nat × va_E)) ∧ w143[160]? = (some (q 160, .inl (g 0, (9 : Int32).toNatClampNeg, .inl t2_0)) : Option (Nat × va_E)) ∧ w143[161]? = (some (q 161, .inl (g 1, 9, .inr (.inl t3_0))) : Option (Nat × va_E)) ∧ w143[162]? = (some (q 162, .inl (g 0, (576 : Int32).toNatClampNeg, .inl t4_0)) : Option (Nat × va_E)) ∧ w143[165]? = (some (q 165, .inl (g 0, (20200 : Int32).toNatClampNeg, .inl z.2)) : Option (Nat × va_E)) ∧ w143[166]? = (some (q 166, .inl (g 0, (64 : Int32).toNatClampNeg, .inl t6_0)) : Option (Nat × va_E)) ∧ F_VR_string_J149 t0_0 t0_1 t0_2 t0_3 t0_4 t0_5 t0_6 t0_7 t0_8 t0_9 t0_10 t0_11 t0_12 t0_13 t0_14 t0_15 t0_16 t0_17 t0_18 t0_19 t0_20 t0_21 t1_0 t2_0 t3_0 t4_0 t5_0 t6_0 z.1 z.2 = (F_VR_string t0_0 t0_1 t0_2 t0_3 t0_4 t0_5 t0_6 t0_7 t0_8 t0_9 t0_10 t0_11 t0_12 t0_13 t0_14 t0_15 t0_16 t0_17 t0_18 t0_19 t0_20 t0_21 t1_0 t2_0 t3_0 t4_0 t5_0 t6_0) ∧ True ∧ S_VR_string_J149 t0_0 t0_1 t0_2 t0_3 t0_4 t0_5 t0_6 t0_7 t0_8 t0_9 t0_10 t0_11 t0_12 t0_13 t0_14 t0_15 t0_16 t0_17 t0_18 t0_19 t0_20 t0_21 t1_0 t2_0 t3_0 t4_0 t5_0 t6_0 z.1 z.2) (fun z => []) 149 0 0 ?_ ?_
    ·
      rintro ⟨lx133, lx134⟩ H locs ls w143 ⟨V, hl, hI, hF, hO135, hA136, hA137, hA138, hA139, hA140, hA141, hR144, hS145⟩
      replace hl : lv_has ls 2 [(0, .ref (q 157))] := hl
      replace hO135 : w143[157]? = (some (q 157, .inr (17, [.int t0_0, .ref (q 158), .int t0_1, .int t0_2, .ref (q 159), .ref (q 160), .ref (q 161), .ref (q 162), .ref (q 163), .int t0_3, .ref (q 164), .int t0_4, .int t0_5, .int t0_6, .int t0_7, .int t0_8, .int t0_9, .int t0_10, .int t0_11, .int t0_12, .int t0_13, .int t0_14, .int t0_15, .int t0_16, .ref (q 165), .int lx133, .int t0_18, .int t0_19, .ref (q 166), .int t0_20, .int t0_21])) : Option (Nat × va_E)) := hO135
      replace hA136 : w143[159]? = (some (q 159, .inl (g 0, (9 : Int32).toNatClampNeg, .inl t1_0)) : Option (Nat × va_E)) := hA136
      replace hA137 : w143[160]? = (some (q 160, .inl (g 0, (9 : Int32).toNatClampNeg, .inl t2_0)) : Option (Nat × va_E)) := hA137
      replace hA138 : w143[161]? = (some (q 161, .inl (g 1, 9, .inr (.inl t3_0))) : Option (Nat × va_E)) := hA138
      replace hA139 : w143[162]? = (some (q 162, .inl (g 0, (576 : Int32).toNatClampNeg, .inl t4_0)) : Option (Nat × va_E)) := hA139
      replace hA140 : w143[165]? = (some (q 165, .inl (g 0, (20200 : Int32).toNatClampNeg, .inl lx134)) : Option (Nat × va_E)) := hA140
      replace hA141 : w143[166]? = (some (q 166, .inl (g 0, (64 : Int32).toNatClampNeg, .inl t6_0)) : Option (Nat × va_E)) := hA141
      refine lv_aload_n hx hb d_16_37_149 rfl (lv_at hl 0 rfl) ?_
      refine lv_aload_n hx hb d_16_37_150 rfl (lv_at hl 0 rfl) ?_
      refine q_get (ci := 17) (j := 6) (v := .ref (q 161)) C0 V i_VR rfl rfl hO135 (by decide) w_2207 rfl d_16_37_151 ?_
      refine lv_aload_n hx hb d_16_37_154 rfl (lv_at hl 0 rfl) ?_
      refine q_get (ci := 17) (j := 21) (v := .int t0_14) C0 V i_VR rfl rfl hO135 (by decide) w_2225 rfl d_16_37_155 ?_
      refine q_lald C0 V hA138 (q_ix (x := t0_14.toInt) rfl (by have t1 : 0 ≤ t0_14.toInt := ob46; omega) (by have t1 : 0 ≤ t0_14.toInt := ob46; have t2 : t0_14.toInt ≤ 8 := ob47; omega)) d_16_37_158 ?_
      obtain ⟨j149, e150⟩ := q_nm (t3_0 t0_14.toNatClampNeg : Int64)
      refine q_tl (v := j149) e150 ?_
      refine q_gol V (q_runS (As := [.long j149]) (rest := [.ref (q 157)]) (d := 1) (mc := 0) (ms := 0) C0 V rfl LS_VR_149 (X_VR_size64 l D g q w143  j149 hI   _) rfl hl.1 rfl (Nat.le_of_ble_eq_true rfl) ⟨by decide, by decide⟩ ⟨Nat.le_of_ble_eq_true rfl, Nat.le_of_ble_eq_true rfl⟩ d_16_37_159) (fun j153 u151 H locs hp152 V => ?_)
      obtain ⟨rfl, hE154⟩ := hp152
      have e155 : j153 = (F_VR_size64 j149) := hE154
      refine lv_bipush (v := 10) hx hb d_16_37_162 (by decide) ?_
      have ob156 : True ∧ S_VR_spread j153 (10 : Int32) t0_0 t0_1 t0_2 t0_3 t0_4 t0_5 t0_6 t0_7 t0_8 t0_9 t0_10 t0_11 t0_12 t0_13 t0_14 t0_15 t0_16 lx133 t0_18 t0_19 t0_20 t0_21 t6_0 := (by rw [e155, ← e150]; have h := hS145; rw [S_VR_string_J149.eq_1] at h; with_reducible exact h.2.1)
      refine q_gov V (q_runV (As := [.long j153, .int 10]) (rest := []) (d := 1) (mc := 0) (ms := 0) (ci := 17) C0 V rfl LV_VR_153 (X_VR_spread l D g q w143  j153 10 hI t0_0 t0_1 t0_2 t0_3 t0_4 t0_5 t0_6 t0_7 t0_8 t0_9 t0_10 t0_11 t0_12 t0_13 t0_14 t0_15 t0_16 lx133 t0_18 t0_19 t0_20 t0_21 hO135 t6_0 hA141 ob156 _) rfl rfl hO135 rfl hl.1 rfl (Nat.le_of_ble_eq_true rfl) ⟨by decide, by decide⟩ ⟨Nat.le_of_ble_eq_true rfl, Nat.le_of_ble_eq_true rfl⟩ d_16_37_164) (fun u157 H locs hp158 V => ?_)
      obtain ⟨hI, hu169, y160, y161, f162, hO159, hA163, b164, b165, b166, b167, hE168⟩ := hp158
      replace hO159 : u157[157]? = (some (q 157, .inr (17, [.int t0_0, .ref (q 158), .int t0_1, .int t0_2, .ref (q 159), .ref (q 160), .ref (q 161), .ref (q 162), .ref (q 163), .int t0_3, .ref (q 164), .int t0_4, .int t0_5, .int t0_6, .int t0_7, .int t0_8, .int t0_9, .int t0_10, .int t0_11, .int t0_12, .int t0_13, .int t0_14, .int t0_15, .int t0_16, .ref (q 165), .int lx133, .int t0_18, .int t0_19, .ref (q 166), .int y160, .int y161])) : Option (Nat × va_E)) := hO159
      replace hA163 : u157[166]? = (some (q 166, .inl (g 0, (64 : Int32).toNatClampNeg, .inl f162)) : Option (Nat × va_E)) := hA163
      obtain ⟨p170, e171⟩ : ∃ z, z = (F_VR_spread j153 (10 : Int32) t0_0 t0_1 t0_2 t0_3 t0_4 t0_5 t0_6 t0_7 t0_8 t0_9 t0_10 t0_11 t0_12 t0_13 t0_14 t0_15 t0_16 lx133 t0_18 t0_19 t0_20 t0_21 t6_0) := ⟨_, rfl⟩
      have e172 : y160 = p170.1 := congrArg (fun z => z.1) (hE168.trans e171.symm)
      have e173 : y161 = p170.2.1 := congrArg (fun z => z.2.1) (hE168.trans e171.symm)
      have e174 : f162 = p170.2.2 := congrArg (fun z => z.2.2) (hE168.trans e171.symm)
      replace b164 : q_F (1 ≤ y161.toInt) := b164
      replace b165 : q_F (y161.toInt ≤ 256) := b165
      replace b166 : q_F (y161.toInt ≤ y160.toInt) := b166
      replace b167 : q_F (y160.toInt ≤ y161.toInt) := b167
      replace hA136 := (hu169 _ (by decide)).trans hA136
      replace hA137 := (hu169 _ (by decide)).trans hA137
      replace hA138 := (hu169 _ (by decide)).trans hA138
      replace hA139 := (hu169 _ (by decide)).trans hA139
      replace hA140 := (hu169 _ (by decide)).trans hA140
      replace hF := q_uc hF hu169 (by simp)
      have hR175 := (show F_VR_string_c164 t0_0 t0_1 t0_2 t0_3 t0_4 t0_5 t0_6 t0_7 t0_8 t0_9 t0_10 t0_11 t0_12 t0_13 t0_14 t0_15 t0_16 t0_17 t0_18 t0_19 t0_20 t0_21 t1_0 t2_0 t3_0 t4_0 t5_0 t6_0 lx133 lx134 p170 = (F_VR_string t0_0 t0_1 t0_2 t0_3 t0_4 t0_5 t0_6 t0_7 t0_8 t0_9 t0_10 t0_11 t0_12 t0_13 t0_14 t0_15 t0_16 t0_17 t0_18 t0_19 t0_20 t0_21 t1_0 t2_0 t3_0 t4_0 t5_0 t6_0) from Eq.trans (by rw [e171, e155, ← e150, F_VR_string_J149.eq_1]) hR144)
      have hS176 := (show True ∧ S_VR_string_c164 t0_0 t0_1 t0_2 t0_3 t0_4 t0_5 t0_6 t0_7 t0_8 t0_9 t0_10 t0_11 t0_12 t0_13 t0_14 t0_15 t0_16 t0_17 t0_18 t0_19 t0_20 t0_21 t1_0 t2_0 t3_0 t4_0 t5_0 t6_0 lx133 lx134 p170 from (by rw [e171, e155, ← e150]; have h := hS145; rw [S_VR_string_J149.eq_1] at h; replace h := q_s2 h; with_reducible exact h))
      refine lv_aload_n hx hb d_16_37_167 rfl (lv_at hl 0 rfl) ?_
      refine lv_aload_n hx hb d_16_37_168 rfl (lv_at hl 0 rfl) ?_
      refine q_get (ci := 17) (j := 4) (v := .ref (q 159)) C0 V i_VR rfl rfl hO159 (by decide) w_2205 rfl d_16_37_169 ?_
      refine lv_aload_n hx hb d_16_37_172 rfl (lv_at hl 0 rfl) ?_
      refine q_get (ci := 17) (j := 21) (v := .int t0_14) C0 V i_VR rfl rfl hO159 (by decide) w_2225 rfl d_16_37_173 ?_
      refine q_iald C0 V hA136 (q_ix (x := t0_14.toInt) rfl (by have t1 : 0 ≤ t0_14.toInt := ob46; omega) (by have t1 : 0 ≤ t0_14.toInt := ob46; have t2 : t0_14.toInt ≤ 8 := ob47; have e9 : (((9 : Int32).toNatClampNeg : Nat) : Int) = 9 := (by decide); omega)) d_16_37_176 ?_
      obtain ⟨a180, e181⟩ := q_nm (t1_0 t0_14.toNatClampNeg : Int32)
      refine q_ti (v := a180) e181 ?_
      refine lv_iconst (v := 5) hx hb d_16_37_177 (by decide) ?_
      refine q_join (X := Int32) (fun z H locs ls _ => q_Wd D g (va_A ws sz) s u157 H locs ∧ lv_has ls 2 [(0, .ref (q 157))] ∧ F_VR_string_J202 t0_0 t0_1 t0_2 t0_3 t0_4 t0_5 t0_6 t0_7 t0_8 t0_9 t0_10 t0_11 t0_12 t0_13 t0_14 t0_15 t0_16 t0_17 t0_18 t0_19 t0_20 t0_21 t1_0 t2_0 t3_0 t4_0 t5_0 t6_0 lx133 lx134 p170 y160 y161 f162 z = (F_VR_string t0_0 t0_1 t0_2 t0_3 t0_4 t0_5 t0_6 t0_7 t0_8 t0_9 t0_10 t0_11 t0_12 t0_13 t0_14 t0_15 t0_16 t0_17 t0_18 t0_19 t0_20 t0_21 t1_0 t2_0 t3_0 t4_0 t5_0 t6_0) ∧ True ∧ S_VR_string_J202 t0_0 t0_1 t0_2 t0_3 t0_4 t0_5 t0_6 t0_7 t0_8 t0_9 t0_10 t0_11 t0_12 t0_13 t0_14 t0_15 t0_16 t0_17 t0_18 t0_19 t0_20 t0_21 t1_0 t2_0 t3_0 t4_0 t5_0 t6_0 lx133 lx134 p170 y160 y161 f162 z) (fun z => [.int z, .ref (q 157)]) 202 0 0 ?_ ?_
      ·
        rintro lx182 H locs ls _ ⟨V, hl, hR191, hS192⟩
        replace hl : lv_has ls 2 [(0, .ref (q 157))] := hl
        refine q_put (ci := 17) (j := 30) (v := .int lx182) (ty := .int) C0 V i_VR o_VR n_VR rfl rfl hO159 (by decide) w_2234 rfl rfl rfl rfl (Nat.le_of_ble_eq_true rfl) d_16_37_202 (fun H locs w196 hu197 hO159 V => ?_)
        replace hO159 : w196[157]? = (some (q 157, .inr (17, [.int t0_0, .ref (q 158), .int t0_1, .int t0_2, .ref (q 159), .ref (q 160), .ref (q 161), .ref (q 162), .ref (q 163), .int t0_3, .ref (q 164), .int t0_4, .int t0_5, .int t0_6, .int t0_7, .int t0_8, .int t0_9, .int t0_10, .int t0_11, .int t0_12, .int t0_13, .int t0_14, .int t0_15, .int t0_16, .ref (q 165), .int lx133, .int t0_18, .int t0_19, .ref (q 166), .int y160, .int lx182])) : Option (Nat × va_E)) := hO159
        replace hI := n_p157 hI hu197 hO159 ⟨(by have t1 : 0 ≤ t0_1.toInt ∧ t0_1.toInt ≤ 256 := btt0_1; omega), (by have t1 : 0 ≤ t0_1.toInt ∧ t0_1.toInt ≤ 256 := btt0_1; omega)⟩ ⟨(by have t1 : 0 ≤ t0_2.toInt ∧ t0_2.toInt ≤ 9 := btt0_2; omega), (by have t1 : 0 ≤ t0_2.toInt ∧ t0_2.toInt ≤ 9 := btt0_2; omega)⟩ ⟨(by have t1 : 0 ≤ t0_3.toInt ∧ t0_3.toInt ≤ 4096 := btt0_3; omega), (by have t1 : 0 ≤ t0_3.toInt ∧ t0_3.toInt ≤ 4096 := btt0_3; omega)⟩ ⟨(by have t1 : 0 ≤ t0_10.toInt ∧ t0_10.toInt ≤ 1 := btt0_10; omega), (by have t1 : 0 ≤ t0_10.toInt ∧ t0_10.toInt ≤ 1 := btt0_10; omega)⟩ ⟨(by have t1 : 0 ≤ t0_19.toInt ∧ t0_19.toInt ≤ 1 := btt0_19; omega), (by have t1 : 0 ≤ t0_19.toInt ∧ t0_19.toInt ≤ 1 := btt0_19; omega)⟩
        replace hA136 := (hu197 _ (by decide)).trans hA136
        replace hA137 := (hu197 _ (by decide)).trans hA137
        replace hA138 := (hu197 _ (by decide)).trans hA138
        replace hA139 := (hu197 _ (by decide)).trans hA139
        replace hA140 := (hu197 _ (by decide)).trans hA140
        replace hA163 := (hu197 _ (by decide)).trans hA163
        replace hF := q_us hF hu197 (by simp)
        refine lv_aload_n hx hb d_16_37_205 rfl (lv_at hl 0 rfl) ?_
        refine lv_aload_n hx hb d_16_37_206 rfl (lv_at hl 0 rfl) ?_
        refine q_get (ci := 17) (j := 16) (v := .int t0_9) C0 V i_VR rfl rfl hO159 (by decide) w_2220 rfl d_16_37_207 ?_
        refine lv_bipush (v := (-19)) hx hb d_16_37_210 (by decide) ?_
        refine lv_iand hx hb d_16_37_212 ?_
        obtain ⟨a198, e199⟩ := q_nm (t0_9 &&& (-19) : Int32)
        refine q_ti (v := a198) e199 ?_
        refine q_put (ci := 17) (j := 16) (v := .int a198) (ty := .int) C0 V i_VR o_VR n_VR rfl rfl hO159 (by decide) w_2220 rfl rfl rfl rfl (Nat.le_of_ble_eq_true rfl) d_16_37_213 (fun H locs w200 hu201 hO159 V => ?_)
        replace hO159 : w200[157]? = (some (q 157, .inr (17, [.int t0_0, .ref (q 158), .int t0_1, .int t0_2, .ref (q 159), .ref (q 160), .ref (q 161), .ref (q 162), .ref (q 163), .int t0_3, .ref (q 164), .int t0_4, .int t0_5, .int t0_6, .int t0_7, .int t0_8, .int a198, .int t0_10, .int t0_11, .int t0_12, .int t0_13, .int t0_14, .int t0_15, .int t0_16, .ref (q 165), .int lx133, .int t0_18, .int t0_19, .ref (q 166), .int y160, .int lx182])) : Option (Nat × va_E)) := hO159
        replace hI := n_p157 hI hu201 hO159 ⟨(by have t1 : 0 ≤ t0_1.toInt ∧ t0_1.toInt ≤ 256 := btt0_1; omega), (by have t1 : 0 ≤ t0_1.toInt ∧ t0_1.toInt ≤ 256 := btt0_1; omega)⟩ ⟨(by have t1 : 0 ≤ t0_2.toInt ∧ t0_2.toInt ≤ 9 := btt0_2; omega), (by have t1 : 0 ≤ t0_2.toInt ∧ t0_2.toInt ≤ 9 := btt0_2; omega)⟩ ⟨(by have t1 : 0 ≤ t0_3.toInt ∧ t0_3.toInt ≤ 4096 := btt0_3; omega), (by have t1 : 0 ≤ t0_3.toInt ∧ t0_3.toInt ≤ 4096 := btt0_3; omega)⟩ ⟨(by have t1 : 0 ≤ t0_10.toInt ∧ t0_10.toInt ≤ 1 := btt0_10; omega), (by have t1 : 0 ≤ t0_10.toInt ∧ t0_10.toInt ≤ 1 := btt0_10; omega)⟩ ⟨(by have t1 : 0 ≤ t0_19.toInt ∧ t0_19.toInt ≤ 1 := btt0_19; omega), (by have t1 : 0 ≤ t0_19.toInt ∧ t0_19.toInt ≤ 1 := btt0_19; omega)⟩
        replace hA136 := (hu201 _ (by decide)).trans hA136
        replace hA137 := (hu201 _ (by decide)).trans hA137
        replace hA138 := (hu201 _ (by decide)).trans hA138
        replace hA139 := (hu201 _ (by decide)).trans hA139
        replace hA140 := (hu201 _ (by decide)).trans hA140
        replace hA163 := (hu201 _ (by decide)).trans hA163
        replace hF := q_us hF hu201 (by simp)
        refine lv_aload_n hx hb d_16_37_216 rfl (lv_at hl 0 rfl) ?_
        refine lv_aload_n hx hb d_16_37_217 rfl (lv_at hl 0 rfl) ?_
        refine q_get (ci := 17) (j := 29) (v := .int y160) C0 V i_VR rfl rfl hO159 (by decide) w_2233 rfl d_16_37_218 ?_
        refine lv_aload_n hx hb d_16_37_221 rfl (lv_at hl 0 rfl) ?_
        refine q_get (ci := 17) (j := 30) (v := .int lx182) C0 V i_VR rfl rfl hO159 (by decide) w_2234 rfl d_16_37_222 ?_
        refine lv_isub hx hb d_16_37_225 ?_
        obtain ⟨a202, e203⟩ := q_nm (y160 - lx182 : Int32)
        refine q_ti (v := a202) e203 ?_
        have ob204 : True ∧ S_VR_plain a202 t0_0 t0_1 t0_2 t0_3 t0_4 t0_5 t0_6 t0_7 t0_8 a198 t0_10 t0_11 t0_12 t0_13 t0_14 t0_15 t0_16 lx133 t0_18 t0_19 y160 lx182 lx134 f162 := (by rw [← e203, ← e199]; have h := hS192; rw [S_VR_string_J202.eq_1] at h; with_reducible exact h.2.1)
        refine q_gov V (q_runV (As := [.int a202]) (rest := []) (d := 3) (mc := 0) (ms := 0) (ci := 17) C0 V rfl LV_VR_140 (X_VR_plain l D g q w200  a202 hI t0_0 t0_1 t0_2 t0_3 t0_4 t0_5 t0_6 t0_7 t0_8 a198 t0_10 t0_11 t0_12 t0_13 t0_14 t0_15 t0_16 lx133 t0_18 t0_19 y160 lx182 hO159 lx134 hA140 f162 hA163 ob204 _) rfl rfl hO159 rfl hl.1 rfl (Nat.le_of_ble_eq_true rfl) ⟨by decide, by decide⟩ ⟨Nat.le_of_ble_eq_true rfl, Nat.le_of_ble_eq_true rfl⟩ d_16_37_226) (fun u205 H locs hp206 V => ?_)
        obtain ⟨hI, hu212, y208, f209, hO207, hA210, hE211⟩ := hp206
        replace hO207 : u205[157]? = (some (q 157, .inr (17, [.int t0_0, .ref (q 158), .int t0_1, .int t0_2, .ref (q 159), .ref (q 160), .ref (q 161), .ref (q 162), .ref (q 163), .int t0_3, .ref (q 164), .int t0_4, .int t0_5, .int t0_6, .int t0_7, .int t0_8, .int a198, .int t0_10, .int t0_11, .int t0_12, .int t0_13, .int t0_14, .int t0_15, .int t0_16, .ref (q 165), .int y208, .int t0_18, .int t0_19, .ref (q 166), .int y160, .int lx182])) : Option (Nat × va_E)) := hO207
        replace hA210 : u205[165]? = (some (q 165, .inl (g 0, (20200 : Int32).toNatClampNeg, .inl f209)) : Option (Nat × va_E)) := hA210
        obtain ⟨p213, e214⟩ : ∃ z, z = (F_VR_plain a202 t0_0 t0_1 t0_2 t0_3 t0_4 t0_5 t0_6 t0_7 t0_8 a198 t0_10 t0_11 t0_12 t0_13 t0_14 t0_15 t0_16 lx133 t0_18 t0_19 y160 lx182 lx134 f162) := ⟨_, rfl⟩
        have e215 : y208 = p213.1 := congrArg (fun z => z.1) (hE211.trans e214.symm)
        have e216 : f209 = p213.2 := congrArg (fun z => z.2) (hE211.trans e214.symm)
        replace hA136 := (hu212 _ (by decide)).trans hA136
        replace hA137 := (hu212 _ (by decide)).trans hA137
        replace hA138 := (hu212 _ (by decide)).trans hA138
        replace hA139 := (hu212 _ (by decide)).trans hA139
        replace hA163 := (hu212 _ (by decide)).trans hA163
        replace hF := q_uc hF hu212 (by simp)
        have hR217 := (show F_VR_string_c226 t0_0 t0_1 t0_2 t0_3 t0_4 t0_5 t0_6 t0_7 t0_8 t0_9 t0_10 t0_11 t0_12 t0_13 t0_14 t0_15 t0_16 t0_17 t0_18 t0_19 t0_20 t0_21 t1_0 t2_0 t3_0 t4_0 t5_0 t6_0 lx133 lx134 p170 y160 y161 f162 lx182 a198 p213 = (F_VR_string t0_0 t0_1 t0_2 t0_3 t0_4 t0_5 t0_6 t0_7 t0_8 t0_9 t0_10 t0_11 t0_12 t0_13 t0_14 t0_15 t0_16 t0_17 t0_18 t0_19 t0_20 t0_21 t1_0 t2_0 t3_0 t4_0 t5_0 t6_0) from Eq.trans (by rw [e214, ← e203, ← e199, F_VR_string_J202.eq_1]) hR191)
        have hS218 := (show True ∧ S_VR_string_c226 t0_0 t0_1 t0_2 t0_3 t0_4 t0_5 t0_6 t0_7 t0_8 t0_9 t0_10 t0_11 t0_12 t0_13 t0_14 t0_15 t0_16 t0_17 t0_18 t0_19 t0_20 t0_21 t1_0 t2_0 t3_0 t4_0 t5_0 t6_0 lx133 lx134 p170 y160 y161 f162 lx182 a198 p213 from (by rw [e214, ← e203, ← e199]; have h := hS192; rw [S_VR_string_J202.eq_1] at h; replace h := q_s2 h; with_reducible exact h))
        exact q_retv C0 V (⟨hI, hF, a198, y208, y160, lx182, f209, f162, hO207, hA210, hA163, (show (a198, y208, y160, lx182, f209, f162) = (F_VR_string t0_0 t0_1 t0_2 t0_3 t0_4 t0_5 t0_6 t0_7 t0_8 t0_9 t0_10 t0_11 t0_12 t0_13 t0_14 t0_15 t0_16 t0_17 t0_18 t0_19 t0_20 t0_21 t1_0 t2_0 t3_0 t4_0 t5_0 t6_0) from Eq.trans (by rw [e216, e215, F_VR_string_c226.eq_1]) hR217)⟩) d_16_37_229
      ·
        intro J190
        refine lv_icmp_ne (tgt := 198) hx hb d_16_37_178 (by decide) (fun c222 => ?_) (fun c222 => ?_)
        ·
          have b223 : q_F (a180.toInt ≠ 5) := (q_neI c222)
          refine lv_aload_n hx hb d_16_37_198 rfl (lv_at hl 0 rfl) ?_
          refine q_get (ci := 17) (j := 29) (v := .int y160) C0 V i_VR rfl rfl hO159 (by decide) w_2233 rfl d_16_37_199 ?_
          exact J190 ((y160 : Int32)) _ _ _ u157 ⟨V, q_lw hl (q_lw1 0 rfl q_lw0), (show F_VR_string_J202 t0_0 t0_1 t0_2 t0_3 t0_4 t0_5 t0_6 t0_7 t0_8 t0_9 t0_10 t0_11 t0_12 t0_13 t0_14 t0_15 t0_16 t0_17 t0_18 t0_19 t0_20 t0_21 t1_0 t2_0 t3_0 t4_0 t5_0 t6_0 lx133 lx134 p170 y160 y161 f162 y160 = (F_VR_string t0_0 t0_1 t0_2 t0_3 t0_4 t0_5 t0_6 t0_7 t0_8 t0_9 t0_10 t0_11 t0_12 t0_13 t0_14 t0_15 t0_16 t0_17 t0_18 t0_19 t0_20 t0_21 t1_0 t2_0 t3_0 t4_0 t5_0 t6_0) from Eq.trans (by have c222x := c222; rw [← e181] at c222x; rw [e174, e173, e172, F_VR_string_c164.eq_1, if_neg c222x]) hR175), (show True ∧ S_VR_string_J202 t0_0 t0_1 t0_2 t0_3 t0_4 t0_5 t0_6 t0_7 t0_8 t0_9 t0_10 t0_11 t0_12 t0_13 t0_14 t0_15 t0_16 t0_17 t0_18 t0_19 t0_20 t0_21 t1_0 t2_0 t3_0 t4_0 t5_0 t6_0 lx133 lx134 p170 y160 y161 f162 y160 from (by rw [e174, e173, e172]; have h := hS176; rw [S_VR_string_c164.eq_1] at h; have c222x := c222; rw [← e181] at c222x; rw [if_neg c222x] at h; with_reducible exact h))⟩
        ·
          have b224 : q_F (a180.toInt = 5) := (q_eqI c222)
          refine lv_aload_n hx hb d_16_37_181 rfl (lv_at hl 0 rfl) ?_
          refine q_get (ci := 17) (j := 29) (v := .int y160) C0 V i_VR rfl rfl hO159 (by decide) w_2233 rfl d_16_37_182 ?_
          refine lv_aload_n hx hb d_16_37_185 rfl (lv_at hl 0 rfl) ?_
          refine q_get (ci := 17) (j := 5) (v := .ref (q 160)) C0 V i_VR rfl rfl hO159 (by decide) w_2206 rfl d_16_37_186 ?_
          refine lv_aload_n hx hb d_16_37_189 rfl (lv_at hl 0 rfl) ?_
          refine q_get (ci := 17) (j := 21) (v := .int t0_14) C0 V i_VR rfl rfl hO159 (by decide) w_2225 rfl d_16_37_190 ?_
          refine q_iald C0 V hA137 (q_ix (x := t0_14.toInt) rfl (by have t1 : 0 ≤ t0_14.toInt := ob46; omega) (by have t1 : 0 ≤ t0_14.toInt := ob46; have t2 : t0_14.toInt ≤ 8 := ob47; have e9 : (((9 : Int32).toNatClampNeg : Nat) : Int) = 9 := (by decide); omega)) d_16_37_193 ?_
          obtain ⟨a225, e226⟩ := q_nm (t2_0 t0_14.toNatClampNeg : Int32)
          refine q_ti (v := a225) e226 ?_
          refine lv_isub hx hb d_16_37_194 ?_
          obtain ⟨a227, e228⟩ := q_nm (y160 - a225 : Int32)
          refine q_ti (v := a227) e228 ?_
          refine lv_goto (tgt := 202) hx hb d_16_37_195 (by decide) ?_
          exact J190 ((a227 : Int32)) _ _ _ u157 ⟨V, q_lw hl (q_lw1 0 rfl q_lw0), (show F_VR_string_J202 t0_0 t0_1 t0_2 t0_3 t0_4 t0_5 t0_6 t0_7 t0_8 t0_9 t0_10 t0_11 t0_12 t0_13 t0_14 t0_15 t0_16 t0_17 t0_18 t0_19 t0_20 t0_21 t1_0 t2_0 t3_0 t4_0 t5_0 t6_0 lx133 lx134 p170 y160 y161 f162 a227 = (F_VR_string t0_0 t0_1 t0_2 t0_3 t0_4 t0_5 t0_6 t0_7 t0_8 t0_9 t0_10 t0_11 t0_12 t0_13 t0_14 t0_15 t0_16 t0_17 t0_18 t0_19 t0_20 t0_21 t1_0 t2_0 t3_0 t4_0 t5_0 t6_0) from Eq.trans (by have c222x := c222; rw [← e181] at c222x; rw [← e228, ← e226, e174, e173, e172, F_VR_string_c164.eq_1, if_pos c222x]) hR175), (show True ∧ S_VR_string_J202 t0_0 t0_1 t0_2 t0_3 t0_4 t0_5 t0_6 t0_7 t0_8 t0_9 t0_10 t0_11 t0_12 t0_13 t0_14 t0_15 t0_16 t0_17 t0_18 t0_19 t0_20 t0_21 t1_0 t2_0 t3_0 t4_0 t5_0 t6_0 lx133 lx134 p170 y160 y161 f162 a227 from (by rw [← e228, ← e226, e174, e173, e172]; have h := hS176; rw [S_VR_string_c164.eq_1] at h; have c222x := c222; rw [← e181] at c222x; rw [if_pos c222x] at h; with_reducible exact h))⟩
    ·
      intro J142
      refine lv_if_ge (tgt := 149) hx hb d_16_37_140 (by decide) (fun c229 => ?_) (fun c229 => ?_)
      ·
        have b230 : q_F (0 ≤ a130.toInt) := (q_leI c229)
        exact J142 ((t0_17 : Int32), (t5_0 : (Nat → Int32))) _ _ _ _ ⟨V, q_lw hl (q_lw1 0 rfl q_lw0), hI, hF, hT0, hT1, hT2, hT3, hT4, hT5, hT6, (show F_VR_string_J149 t0_0 t0_1 t0_2 t0_3 t0_4 t0_5 t0_6 t0_7 t0_8 t0_9 t0_10 t0_11 t0_12 t0_13 t0_14 t0_15 t0_16 t0_17 t0_18 t0_19 t0_20 t0_21 t1_0 t2_0 t3_0 t4_0 t5_0 t6_0 t0_17 t5_0 = (F_VR_string t0_0 t0_1 t0_2 t0_3 t0_4 t0_5 t0_6 t0_7 t0_8 t0_9 t0_10 t0_11 t0_12 t0_13 t0_14 t0_15 t0_16 t0_17 t0_18 t0_19 t0_20 t0_21 t1_0 t2_0 t3_0 t4_0 t5_0 t6_0) from (by have c50x := c50; rw [← e49] at c50x; have c97x := c97; rw [← e49] at c97x; have c126x := c126; rw [← e49] at c126x; have c229x := c229; rw [← e131, ← e129] at c229x; rw [F_VR_string.eq_1, if_neg c50x, if_neg c97x, if_pos c126x, if_pos c229x])), (show True ∧ S_VR_string_J149 t0_0 t0_1 t0_2 t0_3 t0_4 t0_5 t0_6 t0_7 t0_8 t0_9 t0_10 t0_11 t0_12 t0_13 t0_14 t0_15 t0_16 t0_17 t0_18 t0_19 t0_20 t0_21 t1_0 t2_0 t3_0 t4_0 t5_0 t6_0 t0_17 t5_0 from (by have h := hS; rw [S_VR_string.eq_1] at h; replace h := q_s2 h; replace h := q_s2 h; have c50x := c50; rw [← e49] at c50x; rw [if_neg c50x] at h; have c97x := c97; rw [← e49] at c97x; rw [if_neg c97x] at h; have c126x := c126; rw [← e49] at c126x; rw [if_pos c126x] at h; have c229x := c229; rw [← e131, ← e129] at c229x; rw [if_pos c229x] at h; with_reducible exact h))⟩
      ·
        have b231 : q_F (a130.toInt < 0) := (q_nleI c229)
        refine lv_aload_n hx hb d_16_37_143 rfl (lv_at hl 0 rfl) ?_
        refine lv_bipush (v := 45) hx hb d_16_37_144 (by decide) ?_
        have ob232 : True ∧ S_VR_put (45 : Int32) t0_0 t0_1 t0_2 t0_3 t0_4 t0_5 t0_6 t0_7 t0_8 t0_9 t0_10 t0_11 t0_12 t0_13 t0_14 t0_15 t0_16 t0_17 t0_18 t0_19 t0_20 t0_21 t5_0 := (by have h := hS; rw [S_VR_string.eq_1] at h; replace h := q_s2 h; replace h := q_s2 h; have c50x := c50; rw [← e49] at c50x; rw [if_neg c50x] at h; have c97x := c97; rw [← e49] at c97x; rw [if_neg c97x] at h; have c126x := c126; rw [← e49] at c126x; rw [if_pos c126x] at h; have c229x := c229; rw [← e131, ← e129] at c229x; rw [if_neg c229x] at h; with_reducible exact h.2.1)
        refine q_gov V (q_runV (As := [.int 45]) (rest := []) (d := 1) (mc := 0) (ms := 0) (ci := 17) C0 V rfl LV_VR_122 (X_VR_put l D g q ws  45 hI t0_0 t0_1 t0_2 t0_3 t0_4 t0_5 t0_6 t0_7 t0_8 t0_9 t0_10 t0_11 t0_12 t0_13 t0_14 t0_15 t0_16 t0_17 t0_18 t0_19 t0_20 t0_21 hT0 t5_0 hT5 ob232 _) rfl rfl hT0 rfl hl.1 rfl (Nat.le_of_ble_eq_true rfl) ⟨by decide, by decide⟩ ⟨Nat.le_of_ble_eq_true rfl, Nat.le_of_ble_eq_true rfl⟩ d_16_37_146) (fun u233 H locs hp234 V => ?_)
        obtain ⟨hI, hu244, y236, f237, hO235, hA238, b239, b240, b241, b242, hE243⟩ := hp234
        replace hO235 : u233[157]? = (some (q 157, .inr (17, [.int t0_0, .ref (q 158), .int t0_1, .int t0_2, .ref (q 159), .ref (q 160), .ref (q 161), .ref (q 162), .ref (q 163), .int t0_3, .ref (q 164), .int t0_4, .int t0_5, .int t0_6, .int t0_7, .int t0_8, .int t0_9, .int t0_10, .int t0_11, .int t0_12, .int t0_13, .int t0_14, .int t0_15, .int t0_16, .ref (q 165), .int y236, .int t0_18, .int t0_19, .ref (q 166), .int t0_20, .int t0_21])) : Option (Nat × va_E)) := hO235
        replace hA238 : u233[165]? = (some (q 165, .inl (g 0, (20200 : Int32).toNatClampNeg, .inl f237)) : Option (Nat × va_E)) := hA238
        obtain ⟨p245, e246⟩ : ∃ z, z = (F_VR_put (45 : Int32) t0_0 t0_1 t0_2 t0_3 t0_4 t0_5 t0_6 t0_7 t0_8 t0_9 t0_10 t0_11 t0_12 t0_13 t0_14 t0_15 t0_16 t0_17 t0_18 t0_19 t0_20 t0_21 t5_0) := ⟨_, rfl⟩
        have e247 : y236 = p245.1 := congrArg (fun z => z.1) (hE243.trans e246.symm)
        have e248 : f237 = p245.2 := congrArg (fun z => z.2) (hE243.trans e246.symm)
        replace b239 : q_F (1 ≤ y236.toInt) := b239
        replace b240 : q_F (y236.toInt ≤ 20200) := b240
        replace b241 : q_F (t0_17.toInt + 1 ≤ y236.toInt) := b241
        replace b242 : q_F (y236.toInt ≤ t0_17.toInt + 1) := b242
        replace hT1 := (hu244 _ (by decide)).trans hT1
        replace hT2 := (hu244 _ (by decide)).trans hT2
        replace hT3 := (hu244 _ (by decide)).trans hT3
        replace hT4 := (hu244 _ (by decide)).trans hT4
        replace hT6 := (hu244 _ (by decide)).trans hT6
        replace hF := q_uc hF hu244 (by simp)
        have hR249 := (show F_VR_string_c146 t0_0 t0_1 t0_2 t0_3 t0_4 t0_5 t0_6 t0_7 t0_8 t0_9 t0_10 t0_11 t0_12 t0_13 t0_14 t0_15 t0_16 t0_17 t0_18 t0_19 t0_20 t0_21 t1_0 t2_0 t3_0 t4_0 t5_0 t6_0 p245 = (F_VR_string t0_0 t0_1 t0_2 t0_3 t0_4 t0_5 t0_6 t0_7 t0_8 t0_9 t0_10 t0_11 t0_12 t0_13 t0_14 t0_15 t0_16 t0_17 t0_18 t0_19 t0_20 t0_21 t1_0 t2_0 t3_0 t4_0 t5_0 t6_0) from (by have c50x := c50; rw [← e49] at c50x; have c97x := c97; rw [← e49] at c97x; have c126x := c126; rw [← e49] at c126x; have c229x := c229; rw [← e131, ← e129] at c229x; rw [e246, F_VR_string.eq_1, if_neg c50x, if_neg c97x, if_pos c126x, if_neg c229x]))
        have hS250 := (show True ∧ S_VR_string_c146 t0_0 t0_1 t0_2 t0_3 t0_4 t0_5 t0_6 t0_7 t0_8 t0_9 t0_10 t0_11 t0_12 t0_13 t0_14 t0_15 t0_16 t0_17 t0_18 t0_19 t0_20 t0_21 t1_0 t2_0 t3_0 t4_0 t5_0 t6_0 p245 from (by rw [e246]; have h := hS; rw [S_VR_string.eq_1] at h; replace h := q_s2 h; replace h := q_s2 h; have c50x := c50; rw [← e49] at c50x; rw [if_neg c50x] at h; have c97x := c97; rw [← e49] at c97x; rw [if_neg c97x] at h; have c126x := c126; rw [← e49] at c126x; rw [if_pos c126x] at h; have c229x := c229; rw [← e131, ← e129] at c229x; rw [if_neg c229x] at h; replace h := q_s2 h; with_reducible exact h))
        exact J142 ((y236 : Int32), (f237 : (Nat → Int32))) _ _ _ _ ⟨V, q_lw hl (q_lw1 0 rfl q_lw0), hI, hF, hO235, hT1, hT2, hT3, hT4, hA238, hT6, (show F_VR_string_J149 t0_0 t0_1 t0_2 t0_3 t0_4 t0_5 t0_6 t0_7 t0_8 t0_9 t0_10 t0_11 t0_12 t0_13 t0_14 t0_15 t0_16 t0_17 t0_18 t0_19 t0_20 t0_21 t1_0 t2_0 t3_0 t4_0 t5_0 t6_0 y236 f237 = (F_VR_string t0_0 t0_1 t0_2 t0_3 t0_4 t0_5 t0_6 t0_7 t0_8 t0_9 t0_10 t0_11 t0_12 t0_13 t0_14 t0_15 t0_16 t0_17 t0_18 t0_19 t0_20 t0_21 t1_0 t2_0 t3_0 t4_0 t5_0 t6_0) from Eq.trans (by rw [e248, e247, F_VR_string_c146.eq_1]) hR249), (show True ∧ S_VR_string_J149 t0_0 t0_1 t0_2 t0_3 t0_4 t0_5 t0_6 t0_7 t0_8 t0_9 t0_10 t0_11 t0_12 t0_13 t0_14 t0_15 t0_16 t0_17 t0_18 t0_19 t0_20 t0_21 t1_0 t2_0 t3_0 t4_0 t5_0 t6_0 y236 f237 from (by rw [e248, e247]; have h := hS250; rw [S_VR_string_c146.eq_1] at h; with_reducible exact h))⟩
  have b254 : q_F (a48.toInt ≠ 3) := (q_neI c126)
  by_cases c255 : a48 = 4
  ·
    have b256 : q_F (a48.toInt = 4) := (q_eqI c255)
    refine q_ti (v := 4) c255 ?_
    refine lv_tableIn (tgt := 87) (off := 78) hx hb d_16_37_9 (by decide) (by decide) (by decide) (by decide) ?_
    refine lv_iconst (v := 0) hx hb d_16_37_87 (by decide) ?_
    refine lv_istore_n (lv' := [(1, .int 0), (0, .ref (q 157))]) hx hb d_16_37_88 rfl hl (by decide) rfl (fun ls hl => ?_)
    refine q_loop (X := Nat × Int32 × Int32 × (Nat → Int32)) (fun z H locs ls w265 => q_F (t0_17.toInt ≤ z.2.1.toInt + z.2.2.1.toInt) ∧ q_F (z.2.2.1.toInt ≤ z.2.1.toInt + t0_17.toInt) ∧ q_F (z.2.1.toInt + t0_17.toInt ≤ z.2.2.1.toInt) ∧ q_Wd D g (va_A ws sz) s w265 H locs ∧ lv_has ls 2 [(1, .int z.2.1), (0, .ref (q 157))] ∧ q_I (msh g q) q w265 ∧ q_un ws w265 [157, 165, 166] ∧ w265[157]? = (some (q 157, .inr (17, [.int t0_0, .ref (q 158), .int t0_1, .int t0_2, .ref (q 159), .ref (q 160), .ref (q 161), .ref (q 162), .ref (q 163), .int t0_3, .ref (q 164), .int t0_4, .int t0_5, .int t0_6, .int t0_7, .int t0_8, .int t0_9, .int t0_10, .int t0_11, .int t0_12, .int t0_13, .int t0_14, .int t0_15, .int t0_16, .ref (q 165), .int z.2.2.1, .int t0_18, .int t0_19, .ref (q 166), .int t0_20, .int t0_21])) : Option (Nat × va_E)) ∧ w265[159]? = (some (q 159, .inl (g 0, (9 : Int32).toNatClampNeg, .inl t1_0)) : Option (Nat × va_E)) ∧ w265[160]? = (some (q 160, .inl (g 0, (9 : Int32).toNatClampNeg, .inl t2_0)) : Option (Nat × va_E)) ∧ w265[161]? = (some (q 161, .inl (g 1, 9, .inr (.inl t3_0))) : Option (Nat × va_E)) ∧ w265[162]? = (some (q 162, .inl (g 0, (576 : Int32).toNatClampNeg, .inl t4_0)) : Option (Nat × va_E)) ∧ w265[165]? = (some (q 165, .inl (g 0, (20200 : Int32).toNatClampNeg, .inl z.2.2.2)) : Option (Nat × va_E)) ∧ w265[166]? = (some (q 166, .inl (g 0, (64 : Int32).toNatClampNeg, .inl t6_0)) : Option (Nat × va_E)) ∧ F_VR_string_L89 t0_0 t0_1 t0_2 t0_3 t0_4 t0_5 t0_6 t0_7 t0_8 t0_9 t0_10 t0_11 t0_12 t0_13 t0_14 t0_15 t0_16 t0_17 t0_18 t0_19 t0_20 t0_21 t1_0 t2_0 t3_0 t4_0 t5_0 t6_0 z.1 z.2.1 z.2.2.1 z.2.2.2 = (F_VR_string t0_0 t0_1 t0_2 t0_3 t0_4 t0_5 t0_6 t0_7 t0_8 t0_9 t0_10 t0_11 t0_12 t0_13 t0_14 t0_15 t0_16 t0_17 t0_18 t0_19 t0_20 t0_21 t1_0 t2_0 t3_0 t4_0 t5_0 t6_0) ∧ True ∧ S_VR_string_L89 t0_0 t0_1 t0_2 t0_3 t0_4 t0_5 t0_6 t0_7 t0_8 t0_9 t0_10 t0_11 t0_12 t0_13 t0_14 t0_15 t0_16 t0_17 t0_18 t0_19 t0_20 t0_21 t1_0 t2_0 t3_0 t4_0 t5_0 t6_0 z.1 z.2.1 z.2.2.1 z.2.2.2) (fun z => z.1) ?_ ((1000000 : Nat), (0 : Int32), (t0_17 : Int32), (t5_0 : (Nat → Int32))) _ _ _ ws ⟨(show q_F (t0_17.toInt ≤ 0 + t0_17.toInt) from (show t0_17.toInt ≤ 0 + t0_17.toInt from by omega)), (show q_F (t0_17.toInt ≤ 0 + t0_17.toInt) from (show t0_17.toInt ≤ 0 + t0_17.toInt from by omega)), (show q_F (0 + t0_17.toInt ≤ t0_17.toInt) from (show 0 + t0_17.toInt ≤ t0_17.toInt from by omega)), V, q_lw hl (q_lw1 0 rfl (q_lw1 1 rfl q_lw0)), hI, hF, hT0, hT1, hT2, hT3, hT4, hT5, hT6, (show F_VR_string_L89 t0_0 t0_1 t0_2 t0_3 t0_4 t0_5 t0_6 t0_7 t0_8 t0_9 t0_10 t0_11 t0_12 t0_13 t0_14 t0_15 t0_16 t0_17 t0_18 t0_19 t0_20 t0_21 t1_0 t2_0 t3_0 t4_0 t5_0 t6_0 1000000 0 t0_17 t5_0 = (F_VR_string t0_0 t0_1 t0_2 t0_3 t0_4 t0_5 t0_6 t0_7 t0_8 t0_9 t0_10 t0_11 t0_12 t0_13 t0_14 t0_15 t0_16 t0_17 t0_18 t0_19 t0_20 t0_21 t1_0 t2_0 t3_0 t4_0 t5_0 t6_0) from (by have c50x := c50; rw [← e49] at c50x; have c97x := c97; rw [← e49] at c97x; have c126x := c126; rw [← e49] at c126x; have c255x := c255; rw [← e49] at c255x; rw [F_VR_string.eq_1, if_neg c50x, if_neg c97x, if_neg c126x, if_pos c255x])), (show True ∧ S_VR_string_L89 t0_0 t0_1 t0_2 t0_3 t0_4 t0_5 t0_6 t0_7 t0_8 t0_9 t0_10 t0_11 t0_12 t0_13 t0_14 t0_15 t0_16 t0_17 t0_18 t0_19 t0_20 t0_21 t1_0 t2_0 t3_0 t4_0 t5_0 t6_0 1000000 0 t0_17 t5_0 from (by have h := hS; rw [S_VR_string.eq_1] at h; replace h := q_s2 h; replace h := q_s2 h; have c50x := c50; rw [← e49] at c50x; rw [if_neg c50x] at h; have c97x := c97; rw [← e49] at c97x; rw [if_neg c97x] at h; have c126x := c126; rw [← e49] at c126x; rw [if_neg c126x] at h; have c255x := c255; rw [← e49] at c255x; rw [if_pos c255x] at h; with_reducible exact h))⟩
    rintro ⟨fu275, lx258, lx259, lx260⟩ H locs ls w265 ⟨i261, i262, i263, V, hl, hI, hF, hO266, hO267, hO268, hO269, hO270, hO271, hO272, hR273, hS274⟩ ih264
    obtain ⟨fm277, rfl⟩ : ∃ m, fu275 = m + 1 := Nat.exists_eq_succ_of_ne_zero (fun e => by subst e; rw [S_VR_string_L89.eq_1] at hS274; exact hS274.2)
    replace i261 : q_F (t0_17.toInt ≤ lx258.toInt + lx259.toInt) := i261
    replace i262 : q_F (lx259.toInt ≤ lx258.toInt + t0_17.toInt) := i262
    replace i263 : q_F (lx258.toInt + t0_17.toInt ≤ lx259.toInt) := i263
    replace hl : lv_has ls 2 [(1, .int lx258), (0, .ref (q 157))] := hl
    replace hO266 : w265[157]? = (some (q 157, .inr (17, [.int t0_0, .ref (q 158), .int t0_1, .int t0_2, .ref (q 159), .ref (q 160), .ref (q 161), .ref (q 162), .ref (q 163), .int t0_3, .ref (q 164), .int t0_4, .int t0_5, .int t0_6, .int t0_7, .int t0_8, .int t0_9, .int t0_10, .int t0_11, .int t0_12, .int t0_13, .int t0_14, .int t0_15, .int t0_16, .ref (q 165), .int lx259, .int t0_18, .int t0_19, .ref (q 166), .int t0_20, .int t0_21])) : Option (Nat × va_E)) := hO266
    replace hO267 : w265[159]? = (some (q 159, .inl (g 0, (9 : Int32).toNatClampNeg, .inl t1_0)) : Option (Nat × va_E)) := hO267
    replace hO268 : w265[160]? = (some (q 160, .inl (g 0, (9 : Int32).toNatClampNeg, .inl t2_0)) : Option (Nat × va_E)) := hO268
    replace hO269 : w265[161]? = (some (q 161, .inl (g 1, 9, .inr (.inl t3_0))) : Option (Nat × va_E)) := hO269
    replace hO270 : w265[162]? = (some (q 162, .inl (g 0, (576 : Int32).toNatClampNeg, .inl t4_0)) : Option (Nat × va_E)) := hO270
    replace hO271 : w265[165]? = (some (q 165, .inl (g 0, (20200 : Int32).toNatClampNeg, .inl lx260)) : Option (Nat × va_E)) := hO271
    replace hO272 : w265[166]? = (some (q 166, .inl (g 0, (64 : Int32).toNatClampNeg, .inl t6_0)) : Option (Nat × va_E)) := hO272
    refine lv_iload_n hx hb d_16_37_89 rfl (lv_at hl 0 rfl) ?_
    refine lv_aload_n hx hb d_16_37_90 rfl (lv_at hl 1 rfl) ?_
    refine q_get (ci := 17) (j := 5) (v := .ref (q 160)) C0 V i_VR rfl rfl hO266 (by decide) w_2206 rfl d_16_37_91 ?_
    refine lv_aload_n hx hb d_16_37_94 rfl (lv_at hl 1 rfl) ?_
    refine q_get (ci := 17) (j := 21) (v := .int t0_14) C0 V i_VR rfl rfl hO266 (by decide) w_2225 rfl d_16_37_95 ?_
    refine q_iald C0 V hO268 (q_ix (x := t0_14.toInt) rfl (by have t1 : 0 ≤ t0_14.toInt := ob46; omega) (by have t1 : 0 ≤ t0_14.toInt := ob46; have t2 : t0_14.toInt ≤ 8 := ob47; have e9 : (((9 : Int32).toNatClampNeg : Nat) : Int) = 9 := (by decide); omega)) d_16_37_98 ?_
    obtain ⟨a278, e279⟩ := q_nm (t2_0 t0_14.toNatClampNeg : Int32)
    refine q_ti (v := a278) e279 ?_
    refine lv_icmp_ge (tgt := 126) hx hb d_16_37_99 (by decide) (fun c280 => ?_) (fun c280 => ?_)
    ·
      have b281 : q_F (a278.toInt ≤ lx258.toInt) := (q_leI c280)
      refine lv_goto (tgt := 229) hx hb d_16_37_126 (by decide) ?_
      exact q_retv C0 V (⟨hI, hF, t0_9, lx259, t0_20, t0_21, lx260, t6_0, hO266, hO271, hO272, (show (t0_9, lx259, t0_20, t0_21, lx260, t6_0) = (F_VR_string t0_0 t0_1 t0_2 t0_3 t0_4 t0_5 t0_6 t0_7 t0_8 t0_9 t0_10 t0_11 t0_12 t0_13 t0_14 t0_15 t0_16 t0_17 t0_18 t0_19 t0_20 t0_21 t1_0 t2_0 t3_0 t4_0 t5_0 t6_0) from Eq.trans (by have c280x := c280; rw [← e279] at c280x; rw [F_VR_string_L89.eq_2, if_pos c280x]) hR273)⟩) d_16_37_229
    ·
      have b282 : q_F (lx258.toInt < a278.toInt) := (q_nleI c280)
      refine lv_aload_n hx hb d_16_37_102 rfl (lv_at hl 1 rfl) ?_
      refine lv_aload_n hx hb d_16_37_103 rfl (lv_at hl 1 rfl) ?_
      refine q_get (ci := 17) (j := 7) (v := .ref (q 162)) C0 V i_VR rfl rfl hO266 (by decide) w_2208 rfl d_16_37_104 ?_
      refine lv_bipush (v := 64) hx hb d_16_37_107 (by decide) ?_
      refine lv_aload_n hx hb d_16_37_109 rfl (lv_at hl 1 rfl) ?_
      refine q_get (ci := 17) (j := 21) (v := .int t0_14) C0 V i_VR rfl rfl hO266 (by decide) w_2225 rfl d_16_37_110 ?_
      refine lv_imul hx hb d_16_37_113 ?_
      obtain ⟨a283, e284⟩ := q_nm (64 * t0_14 : Int32)
      refine q_ti (v := a283) e284 ?_
      have b285 : q_F (a283.toInt = 64 * t0_14.toInt) := (by rw [← e284]; show (64 * t0_14 : Int32).toInt = 64 * t0_14.toInt; exact q_mulI (x := 64) (y := t0_14.toInt) (by decide) rfl (by have t1 : 0 ≤ t0_14.toInt := ob46; have t2 : t0_14.toInt ≤ 8 := ob47; omega) (by have t1 : 0 ≤ t0_14.toInt := ob46; have t2 : t0_14.toInt ≤ 8 := ob47; omega))
      refine lv_iload_n hx hb d_16_37_114 rfl (lv_at hl 0 rfl) ?_
      refine lv_iadd hx hb d_16_37_115 ?_
      obtain ⟨a286, e287⟩ := q_nm (a283 + lx258 : Int32)
      refine q_ti (v := a286) e287 ?_
      have ob288 : q_F (0 ≤ a286.toInt) := (by rw [← e287, ← e284]; have h := hS274; rw [S_VR_string_L89.eq_2] at h; have c280x := c280; rw [← e279] at c280x; rw [if_neg c280x] at h; exact h.2.1)
      have ob289 : q_F (a286.toInt ≤ 575) := (by rw [← e287, ← e284]; have h := hS274; rw [S_VR_string_L89.eq_2] at h; have c280x := c280; rw [← e279] at c280x; rw [if_neg c280x] at h; replace h := q_s2 h; exact h.2.1)
      refine q_iald C0 V hO270 (q_ix (x := a286.toInt) rfl (by have t1 : 0 ≤ a286.toInt := ob288; omega) (by have t1 : 0 ≤ a286.toInt := ob288; have t2 : a286.toInt ≤ 575 := ob289; have e9 : (((576 : Int32).toNatClampNeg : Nat) : Int) = 576 := (by decide); omega)) d_16_37_116 ?_
      obtain ⟨a290, e291⟩ := q_nm (t4_0 a286.toNatClampNeg : Int32)
      refine q_ti (v := a290) e291 ?_
      have ob292 : True ∧ S_VR_put a290 t0_0 t0_1 t0_2 t0_3 t0_4 t0_5 t0_6 t0_7 t0_8 t0_9 t0_10 t0_11 t0_12 t0_13 t0_14 t0_15 t0_16 lx259 t0_18 t0_19 t0_20 t0_21 lx260 := (by rw [← e291, ← e287, ← e284]; have h := hS274; rw [S_VR_string_L89.eq_2] at h; have c280x := c280; rw [← e279] at c280x; rw [if_neg c280x] at h; replace h := q_s2 h; replace h := q_s2 h; with_reducible exact h.2.1)
      refine q_gov V (q_runV (As := [.int a290]) (rest := []) (d := 1) (mc := 0) (ms := 0) (ci := 17) C0 V rfl LV_VR_122 (X_VR_put l D g q w265  a290 hI t0_0 t0_1 t0_2 t0_3 t0_4 t0_5 t0_6 t0_7 t0_8 t0_9 t0_10 t0_11 t0_12 t0_13 t0_14 t0_15 t0_16 lx259 t0_18 t0_19 t0_20 t0_21 hO266 lx260 hO271 ob292 _) rfl rfl hO266 rfl hl.1 rfl (Nat.le_of_ble_eq_true rfl) ⟨by decide, by decide⟩ ⟨Nat.le_of_ble_eq_true rfl, Nat.le_of_ble_eq_true rfl⟩ d_16_37_117) (fun u293 H locs hp294 V => ?_)
      obtain ⟨hI, hu304, y296, f297, hO295, hA298, b299, b300, b301, b302, hE303⟩ := hp294
      replace hO295 : u293[157]? = (some (q 157, .inr (17, [.int t0_0, .ref (q 158), .int t0_1, .int t0_2, .ref (q 159), .ref (q 160), .ref (q 161), .ref (q 162), .ref (q 163), .int t0_3, .ref (q 164), .int t0_4, .int t0_5, .int t0_6, .int t0_7, .int t0_8, .int t0_9, .int t0_10, .int t0_11, .int t0_12, .int t0_13, .int t0_14, .int t0_15, .int t0_16, .ref (q 165), .int y296, .int t0_18, .int t0_19, .ref (q 166), .int t0_20, .int t0_21])) : Option (Nat × va_E)) := hO295
      replace hA298 : u293[165]? = (some (q 165, .inl (g 0, (20200 : Int32).toNatClampNeg, .inl f297)) : Option (Nat × va_E)) := hA298
      obtain ⟨p305, e306⟩ : ∃ z, z = (F_VR_put a290 t0_0 t0_1 t0_2 t0_3 t0_4 t0_5 t0_6 t0_7 t0_8 t0_9 t0_10 t0_11 t0_12 t0_13 t0_14 t0_15 t0_16 lx259 t0_18 t0_19 t0_20 t0_21 lx260) := ⟨_, rfl⟩
      have e307 : y296 = p305.1 := congrArg (fun z => z.1) (hE303.trans e306.symm)
      have e308 : f297 = p305.2 := congrArg (fun z => z.2) (hE303.trans e306.symm)
      replace b299 : q_F (1 ≤ y296.toInt) := b299
      replace b300 : q_F (y296.toInt ≤ 20200) := b300
      replace b301 : q_F (lx259.toInt + 1 ≤ y296.toInt) := b301
      replace b302 : q_F (y296.toInt ≤ lx259.toInt + 1) := b302
      replace hO267 := (hu304 _ (by decide)).trans hO267
      replace hO268 := (hu304 _ (by decide)).trans hO268
      replace hO269 := (hu304 _ (by decide)).trans hO269
      replace hO270 := (hu304 _ (by decide)).trans hO270
      replace hO272 := (hu304 _ (by decide)).trans hO272
      replace hF := q_uc hF hu304 (by simp)
      have hR309 := (show F_VR_string_c117 (F_VR_string_L89 t0_0 t0_1 t0_2 t0_3 t0_4 t0_5 t0_6 t0_7 t0_8 t0_9 t0_10 t0_11 t0_12 t0_13 t0_14 t0_15 t0_16 t0_17 t0_18 t0_19 t0_20 t0_21 t1_0 t2_0 t3_0 t4_0 t5_0 t6_0 fm277) t0_0 t0_1 t0_2 t0_3 t0_4 t0_5 t0_6 t0_7 t0_8 t0_9 t0_10 t0_11 t0_12 t0_13 t0_14 t0_15 t0_16 t0_17 t0_18 t0_19 t0_20 t0_21 t1_0 t2_0 t3_0 t4_0 t5_0 t6_0 lx258 lx259 lx260 p305 = (F_VR_string t0_0 t0_1 t0_2 t0_3 t0_4 t0_5 t0_6 t0_7 t0_8 t0_9 t0_10 t0_11 t0_12 t0_13 t0_14 t0_15 t0_16 t0_17 t0_18 t0_19 t0_20 t0_21 t1_0 t2_0 t3_0 t4_0 t5_0 t6_0) from Eq.trans (by have c280x := c280; rw [← e279] at c280x; rw [e306, ← e291, ← e287, ← e284, F_VR_string_L89.eq_2, if_neg c280x]) hR273)
      have hS310 := (show True ∧ S_VR_string_c117 (S_VR_string_L89 t0_0 t0_1 t0_2 t0_3 t0_4 t0_5 t0_6 t0_7 t0_8 t0_9 t0_10 t0_11 t0_12 t0_13 t0_14 t0_15 t0_16 t0_17 t0_18 t0_19 t0_20 t0_21 t1_0 t2_0 t3_0 t4_0 t5_0 t6_0 fm277) t0_0 t0_1 t0_2 t0_3 t0_4 t0_5 t0_6 t0_7 t0_8 t0_9 t0_10 t0_11 t0_12 t0_13 t0_14 t0_15 t0_16 t0_17 t0_18 t0_19 t0_20 t0_21 t1_0 t2_0 t3_0 t4_0 t5_0 t6_0 lx258 lx259 lx260 p305 from (by rw [e306, ← e291, ← e287, ← e284]; have h := hS274; rw [S_VR_string_L89.eq_2] at h; have c280x := c280; rw [← e279] at c280x; rw [if_neg c280x] at h; replace h := q_s2 h; replace h := q_s2 h; replace h := q_s2 h; with_reducible exact h))
      obtain ⟨a314, e315⟩ := q_nm (lx258 + 1 : Int32)
      have b316 : q_F (a314.toInt = lx258.toInt + 1) := (by rw [← e315]; exact q_addI (y := 1) rfl (by decide) (by have t1 : t0_17.toInt ≤ lx258.toInt + lx259.toInt := i261; have t2 : lx259.toInt ≤ lx258.toInt + t0_17.toInt := i262; have t3 : lx258.toInt < a278.toInt := b282; have _ := q_lo32 (x := a278); have _ := q_hi32 (x := a278); omega) (by have t1 : t0_17.toInt ≤ lx258.toInt + lx259.toInt := i261; have t2 : lx259.toInt ≤ lx258.toInt + t0_17.toInt := i262; have t3 : lx258.toInt < a278.toInt := b282; have _ := q_lo32 (x := a278); have _ := q_hi32 (x := a278); omega))
      refine lv_iinc (v := a314) (lv' := [(1, .int a314), (0, .ref (q 157))]) hx hb d_16_37_120 hl (k := 0) rfl (e315) (by decide) rfl (fun ls hl => ?_)
      refine lv_goto (tgt := 89) hx hb d_16_37_123 (by decide) ?_
      exact ih264 ((fm277 : Nat), (a314 : Int32), (y296 : Int32), (f297 : (Nat → Int32))) _ _ _ _ (Nat.lt_succ_self _) ⟨(show q_F (t0_17.toInt ≤ a314.toInt + y296.toInt) from (show t0_17.toInt ≤ a314.toInt + y296.toInt from by have t1 : t0_17.toInt ≤ lx258.toInt + lx259.toInt := i261; have t2 : lx259.toInt + 1 ≤ y296.toInt := b301; have t3 : a314.toInt = lx258.toInt + 1 := b316; omega)), (show q_F (y296.toInt ≤ a314.toInt + t0_17.toInt) from (show y296.toInt ≤ a314.toInt + t0_17.toInt from by have t1 : lx259.toInt ≤ lx258.toInt + t0_17.toInt := i262; have t2 : y296.toInt ≤ lx259.toInt + 1 := b302; have t3 : a314.toInt = lx258.toInt + 1 := b316; omega)), (show q_F (a314.toInt + t0_17.toInt ≤ y296.toInt) from (show a314.toInt + t0_17.toInt ≤ y296.toInt from by have t1 : lx258.toInt + t0_17.toInt ≤ lx259.toInt := i263; have t2 : lx259.toInt + 1 ≤ y296.toInt := b301; have t3 : a314.toInt = lx258.toInt + 1 := b316; omega)), V, q_lw hl (q_lw1 0 rfl (q_lw1 1 rfl q_lw0)), hI, hF, hO295, hO267, hO268, hO269, hO270, hA298, hO272, (show F_VR_string_L89 t0_0 t0_1 t0_2 t0_3 t0_4 t0_5 t0_6 t0_7 t0_8 t0_9 t0_10 t0_11 t0_12 t0_13 t0_14 t0_15 t0_16 t0_17 t0_18 t0_19 t0_20 t0_21 t1_0 t2_0 t3_0 t4_0 t5_0 t6_0 fm277 a314 y296 f297 = (F_VR_string t0_0 t0_1 t0_2 t0_3 t0_4 t0_5 t0_6 t0_7 t0_8 t0_9 t0_10 t0_11 t0_12 t0_13 t0_14 t0_15 t0_16 t0_17 t0_18 t0_19 t0_20 t0_21 t1_0 t2_0 t3_0 t4_0 t5_0 t6_0) from Eq.trans (by rw [← e315, e308, e307, F_VR_string_c117.eq_1]) hR309), (show True ∧ S_VR_string_L89 t0_0 t0_1 t0_2 t0_3 t0_4 t0_5 t0_6 t0_7 t0_8 t0_9 t0_10 t0_11 t0_12 t0_13 t0_14 t0_15 t0_16 t0_17 t0_18 t0_19 t0_20 t0_21 t1_0 t2_0 t3_0 t4_0 t5_0 t6_0 fm277 a314 y296 f297 from (by rw [← e315, e308, e307]; have h := hS310; rw [S_VR_string_c117.eq_1] at h; with_reducible exact h))⟩
  have b317 : q_F (a48.toInt ≠ 4) := (q_neI c255)
  refine lv_tableOut (tgt := 129) hx hb d_16_37_9 (by have z0 : a48.toInt ≠ 1 := q_neI c50; have z1 : a48.toInt ≠ 2 := q_neI c97; have z2 : a48.toInt ≠ 3 := q_neI c126; have z3 : a48.toInt ≠ 4 := q_neI c255; omega) (by decide) ?_
  refine lv_aload_n hx hb d_16_37_129 rfl (lv_at hl 0 rfl) ?_
  refine q_get (ci := 17) (j := 6) (v := .ref (q 161)) C0 V i_VR rfl rfl hT0 (by decide) w_2207 rfl d_16_37_130 ?_
  refine lv_aload_n hx hb d_16_37_133 rfl (lv_at hl 0 rfl) ?_
  refine q_get (ci := 17) (j := 21) (v := .int t0_14) C0 V i_VR rfl rfl hT0 (by decide) w_2225 rfl d_16_37_134 ?_
  refine q_lald C0 V hT3 (q_ix (x := t0_14.toInt) rfl (by have t1 : 0 ≤ t0_14.toInt := ob46; omega) (by have t1 : 0 ≤ t0_14.toInt := ob46; have t2 : t0_14.toInt ≤ 8 := ob47; omega)) d_16_37_137 ?_
  obtain ⟨j318, e319⟩ := q_nm (t3_0 t0_14.toNatClampNeg : Int64)
  refine q_tl (v := j318) e319 ?_
  refine lv_lconst (v := 0) hx hb d_16_37_138 (by decide) ?_
  refine W.lcmp hx hb d_16_37_139 ?_
  obtain ⟨a320, e321⟩ := q_nm (lg_cmp j318 0 : Int32)
  refine q_ti (v := a320) e321 ?_
  have b322 : q_F (-1 ≤ a320.toInt ∧ a320.toInt ≤ 1 ∧ ((a320.toInt = -1 ∧ j318.toInt < 0) ∨ (a320.toInt = 0 ∧ j318.toInt = 0) ∨ (a320.toInt = 1 ∧ 0 < j318.toInt))) := (by rw [← e321]; show -1 ≤ (lg_cmp j318 0 : Int32).toInt ∧ (lg_cmp j318 0 : Int32).toInt ≤ 1 ∧ (((lg_cmp j318 0 : Int32).toInt = -1 ∧ j318.toInt < 0) ∨ ((lg_cmp j318 0 : Int32).toInt = 0 ∧ j318.toInt = 0) ∨ ((lg_cmp j318 0 : Int32).toInt = 1 ∧ 0 < j318.toInt)); exact (by have y1 : (0 : Int64).toInt = 0 := rfl; have z := s_lcmp (a := j318) (b := 0); omega))
  refine q_join (X := Int32 × (Nat → Int32)) (fun z H locs ls w333 => q_Wd D g (va_A ws sz) s w333 H locs ∧ lv_has ls 2 [(0, .ref (q 157))] ∧ q_I (msh g q) q w333 ∧ q_un ws w333 [157, 165, 166] ∧ w333[157]? = (some (q 157, .inr (17, [.int t0_0, .ref (q 158), .int t0_1, .int t0_2, .ref (q 159), .ref (q 160), .ref (q 161), .ref (q 162), .ref (q 163), .int t0_3, .ref (q 164), .int t0_4, .int t0_5, .int t0_6, .int t0_7, .int t0_8, .int t0_9, .int t0_10, .int t0_11, .int t0_12, .int t0_13, .int t0_14, .int t0_15, .int t0_16, .ref (q 165), .int z.1, .int t0_18, .int t0_19, .ref (q 166), .int t0_20, .int t0_21])) : Option (Nat × va_E)) ∧ w333[159]? = (some (q 159, .inl (g 0, (9 : Int32).toNatClampNeg, .inl t1_0)) : Option (Nat × va_E)) ∧ w333[160]? = (some (q 160, .inl (g 0, (9 : Int32).toNatClampNeg, .inl t2_0)) : Option (Nat × va_E)) ∧ w333[161]? = (some (q 161, .inl (g 1, 9, .inr (.inl t3_0))) : Option (Nat × va_E)) ∧ w333[162]? = (some (q 162, .inl (g 0, (576 : Int32).toNatClampNeg, .inl t4_0)) : Option (Nat × va_E)) ∧ w333[165]? = (some (q 165, .inl (g 0, (20200 : Int32).toNatClampNeg, .inl z.2)) : Option (Nat × va_E)) ∧ w333[166]? = (some (q 166, .inl (g 0, (64 : Int32).toNatClampNeg, .inl t6_0)) : Option (Nat × va_E)) ∧ F_VR_string_J149_11 t0_0 t0_1 t0_2 t0_3 t0_4 t0_5 t0_6 t0_7 t0_8 t0_9 t0_10 t0_11 t0_12 t0_13 t0_14 t0_15 t0_16 t0_17 t0_18 t0_19 t0_20 t0_21 t1_0 t2_0 t3_0 t4_0 t5_0 t6_0 z.1 z.2 = (F_VR_string t0_0 t0_1 t0_2 t0_3 t0_4 t0_5 t0_6 t0_7 t0_8 t0_9 t0_10 t0_11 t0_12 t0_13 t0_14 t0_15 t0_16 t0_17 t0_18 t0_19 t0_20 t0_21 t1_0 t2_0 t3_0 t4_0 t5_0 t6_0) ∧ True ∧ S_VR_string_J149_11 t0_0 t0_1 t0_2 t0_3 t0_4 t0_5 t0_6 t0_7 t0_8 t0_9 t0_10 t0_11 t0_12 t0_13 t0_14 t0_15 t0_16 t0_17 t0_18 t0_19 t0_20 t0_21 t1_0 t2_0 t3_0 t4_0 t5_0 t6_0 z.1 z.2) (fun z => []) 149 0 0 ?_ ?_
  ·
    rintro ⟨lx323, lx324⟩ H locs ls w333 ⟨V, hl, hI, hF, hO325, hA326, hA327, hA328, hA329, hA330, hA331, hR334, hS335⟩
    replace hl : lv_has ls 2 [(0, .ref (q 157))] := hl
    replace hO325 : w333[157]? = (some (q 157, .inr (17, [.int t0_0, .ref (q 158), .int t0_1, .int t0_2, .ref (q 159), .ref (q 160), .ref (q 161), .ref (q 162), .ref (q 163), .int t0_3, .ref (q 164), .int t0_4, .int t0_5, .int t0_6, .int t0_7, .int t0_8, .int t0_9, .int t0_10, .int t0_11, .int t0_12, .int t0_13, .int t0_14, .int t0_15, .int t0_16, .ref (q 165), .int lx323, .int t0_18, .int t0_19, .ref (q 166), .int t0_20, .int t0_21])) : Option (Nat × va_E)) := hO325
    replace hA326 : w333[159]? = (some (q 159, .inl (g 0, (9 : Int32).toNatClampNeg, .inl t1_0)) : Option (Nat × va_E)) := hA326
    replace hA327 : w333[160]? = (some (q 160, .inl (g 0, (9 : Int32).toNatClampNeg, .inl t2_0)) : Option (Nat × va_E)) := hA327
    replace hA328 : w333[161]? = (some (q 161, .inl (g 1, 9, .inr (.inl t3_0))) : Option (Nat × va_E)) := hA328
    replace hA329 : w333[162]? = (some (q 162, .inl (g 0, (576 : Int32).toNatClampNeg, .inl t4_0)) : Option (Nat × va_E)) := hA329
    replace hA330 : w333[165]? = (some (q 165, .inl (g 0, (20200 : Int32).toNatClampNeg, .inl lx324)) : Option (Nat × va_E)) := hA330
    replace hA331 : w333[166]? = (some (q 166, .inl (g 0, (64 : Int32).toNatClampNeg, .inl t6_0)) : Option (Nat × va_E)) := hA331
    refine lv_aload_n hx hb d_16_37_149 rfl (lv_at hl 0 rfl) ?_
    refine lv_aload_n hx hb d_16_37_150 rfl (lv_at hl 0 rfl) ?_
    refine q_get (ci := 17) (j := 6) (v := .ref (q 161)) C0 V i_VR rfl rfl hO325 (by decide) w_2207 rfl d_16_37_151 ?_
    refine lv_aload_n hx hb d_16_37_154 rfl (lv_at hl 0 rfl) ?_
    refine q_get (ci := 17) (j := 21) (v := .int t0_14) C0 V i_VR rfl rfl hO325 (by decide) w_2225 rfl d_16_37_155 ?_
    refine q_lald C0 V hA328 (q_ix (x := t0_14.toInt) rfl (by have t1 : 0 ≤ t0_14.toInt := ob46; omega) (by have t1 : 0 ≤ t0_14.toInt := ob46; have t2 : t0_14.toInt ≤ 8 := ob47; omega)) d_16_37_158 ?_
    obtain ⟨j339, e340⟩ := q_nm (t3_0 t0_14.toNatClampNeg : Int64)
    refine q_tl (v := j339) e340 ?_
    refine q_gol V (q_runS (As := [.long j339]) (rest := [.ref (q 157)]) (d := 1) (mc := 0) (ms := 0) C0 V rfl LS_VR_149 (X_VR_size64 l D g q w333  j339 hI   _) rfl hl.1 rfl (Nat.le_of_ble_eq_true rfl) ⟨by decide, by decide⟩ ⟨Nat.le_of_ble_eq_true rfl, Nat.le_of_ble_eq_true rfl⟩ d_16_37_159) (fun j343 u341 H locs hp342 V => ?_)
    obtain ⟨rfl, hE344⟩ := hp342
    have e345 : j343 = (F_VR_size64 j339) := hE344
    refine lv_bipush (v := 10) hx hb d_16_37_162 (by decide) ?_
    have ob346 : True ∧ S_VR_spread j343 (10 : Int32) t0_0 t0_1 t0_2 t0_3 t0_4 t0_5 t0_6 t0_7 t0_8 t0_9 t0_10 t0_11 t0_12 t0_13 t0_14 t0_15 t0_16 lx323 t0_18 t0_19 t0_20 t0_21 t6_0 := (by rw [e345, ← e340]; have h := hS335; rw [S_VR_string_J149_11.eq_1] at h; with_reducible exact h.2.1)
    refine q_gov V (q_runV (As := [.long j343, .int 10]) (rest := []) (d := 1) (mc := 0) (ms := 0) (ci := 17) C0 V rfl LV_VR_153 (X_VR_spread l D g q w333  j343 10 hI t0_0 t0_1 t0_2 t0_3 t0_4 t0_5 t0_6 t0_7 t0_8 t0_9 t0_10 t0_11 t0_12 t0_13 t0_14 t0_15 t0_16 lx323 t0_18 t0_19 t0_20 t0_21 hO325 t6_0 hA331 ob346 _) rfl rfl hO325 rfl hl.1 rfl (Nat.le_of_ble_eq_true rfl) ⟨by decide, by decide⟩ ⟨Nat.le_of_ble_eq_true rfl, Nat.le_of_ble_eq_true rfl⟩ d_16_37_164) (fun u347 H locs hp348 V => ?_)
    obtain ⟨hI, hu359, y350, y351, f352, hO349, hA353, b354, b355, b356, b357, hE358⟩ := hp348
    replace hO349 : u347[157]? = (some (q 157, .inr (17, [.int t0_0, .ref (q 158), .int t0_1, .int t0_2, .ref (q 159), .ref (q 160), .ref (q 161), .ref (q 162), .ref (q 163), .int t0_3, .ref (q 164), .int t0_4, .int t0_5, .int t0_6, .int t0_7, .int t0_8, .int t0_9, .int t0_10, .int t0_11, .int t0_12, .int t0_13, .int t0_14, .int t0_15, .int t0_16, .ref (q 165), .int lx323, .int t0_18, .int t0_19, .ref (q 166), .int y350, .int y351])) : Option (Nat × va_E)) := hO349
    replace hA353 : u347[166]? = (some (q 166, .inl (g 0, (64 : Int32).toNatClampNeg, .inl f352)) : Option (Nat × va_E)) := hA353
    obtain ⟨p360, e361⟩ : ∃ z, z = (F_VR_spread j343 (10 : Int32) t0_0 t0_1 t0_2 t0_3 t0_4 t0_5 t0_6 t0_7 t0_8 t0_9 t0_10 t0_11 t0_12 t0_13 t0_14 t0_15 t0_16 lx323 t0_18 t0_19 t0_20 t0_21 t6_0) := ⟨_, rfl⟩
    have e362 : y350 = p360.1 := congrArg (fun z => z.1) (hE358.trans e361.symm)
    have e363 : y351 = p360.2.1 := congrArg (fun z => z.2.1) (hE358.trans e361.symm)
    have e364 : f352 = p360.2.2 := congrArg (fun z => z.2.2) (hE358.trans e361.symm)
    replace b354 : q_F (1 ≤ y351.toInt) := b354
    replace b355 : q_F (y351.toInt ≤ 256) := b355
    replace b356 : q_F (y351.toInt ≤ y350.toInt) := b356
    replace b357 : q_F (y350.toInt ≤ y351.toInt) := b357
    replace hA326 := (hu359 _ (by decide)).trans hA326
    replace hA327 := (hu359 _ (by decide)).trans hA327
    replace hA328 := (hu359 _ (by decide)).trans hA328
    replace hA329 := (hu359 _ (by decide)).trans hA329
    replace hA330 := (hu359 _ (by decide)).trans hA330
    replace hF := q_uc hF hu359 (by simp)
    have hR365 := (show F_VR_string_c164_12 t0_0 t0_1 t0_2 t0_3 t0_4 t0_5 t0_6 t0_7 t0_8 t0_9 t0_10 t0_11 t0_12 t0_13 t0_14 t0_15 t0_16 t0_17 t0_18 t0_19 t0_20 t0_21 t1_0 t2_0 t3_0 t4_0 t5_0 t6_0 lx323 lx324 p360 = (F_VR_string t0_0 t0_1 t0_2 t0_3 t0_4 t0_5 t0_6 t0_7 t0_8 t0_9 t0_10 t0_11 t0_12 t0_13 t0_14 t0_15 t0_16 t0_17 t0_18 t0_19 t0_20 t0_21 t1_0 t2_0 t3_0 t4_0 t5_0 t6_0) from Eq.trans (by rw [e361, e345, ← e340, F_VR_string_J149_11.eq_1]) hR334)
    have hS366 := (show True ∧ S_VR_string_c164_12 t0_0 t0_1 t0_2 t0_3 t0_4 t0_5 t0_6 t0_7 t0_8 t0_9 t0_10 t0_11 t0_12 t0_13 t0_14 t0_15 t0_16 t0_17 t0_18 t0_19 t0_20 t0_21 t1_0 t2_0 t3_0 t4_0 t5_0 t6_0 lx323 lx324 p360 from (by rw [e361, e345, ← e340]; have h := hS335; rw [S_VR_string_J149_11.eq_1] at h; replace h := q_s2 h; with_reducible exact h))
    refine lv_aload_n hx hb d_16_37_167 rfl (lv_at hl 0 rfl) ?_
    refine lv_aload_n hx hb d_16_37_168 rfl (lv_at hl 0 rfl) ?_
    refine q_get (ci := 17) (j := 4) (v := .ref (q 159)) C0 V i_VR rfl rfl hO349 (by decide) w_2205 rfl d_16_37_169 ?_
    refine lv_aload_n hx hb d_16_37_172 rfl (lv_at hl 0 rfl) ?_
    refine q_get (ci := 17) (j := 21) (v := .int t0_14) C0 V i_VR rfl rfl hO349 (by decide) w_2225 rfl d_16_37_173 ?_
    refine q_iald C0 V hA326 (q_ix (x := t0_14.toInt) rfl (by have t1 : 0 ≤ t0_14.toInt := ob46; omega) (by have t1 : 0 ≤ t0_14.toInt := ob46; have t2 : t0_14.toInt ≤ 8 := ob47; have e9 : (((9 : Int32).toNatClampNeg : Nat) : Int) = 9 := (by decide); omega)) d_16_37_176 ?_
    obtain ⟨a370, e371⟩ := q_nm (t1_0 t0_14.toNatClampNeg : Int32)
    refine q_ti (v := a370) e371 ?_
    refine lv_iconst (v := 5) hx hb d_16_37_177 (by decide) ?_
    refine q_join (X := Int32) (fun z H locs ls _ => q_Wd D g (va_A ws sz) s u347 H locs ∧ lv_has ls 2 [(0, .ref (q 157))] ∧ F_VR_string_J202_13 t0_0 t0_1 t0_2 t0_3 t0_4 t0_5 t0_6 t0_7 t0_8 t0_9 t0_10 t0_11 t0_12 t0_13 t0_14 t0_15 t0_16 t0_17 t0_18 t0_19 t0_20 t0_21 t1_0 t2_0 t3_0 t4_0 t5_0 t6_0 lx323 lx324 p360 y350 y351 f352 z = (F_VR_string t0_0 t0_1 t0_2 t0_3 t0_4 t0_5 t0_6 t0_7 t0_8 t0_9 t0_10 t0_11 t0_12 t0_13 t0_14 t0_15 t0_16 t0_17 t0_18 t0_19 t0_20 t0_21 t1_0 t2_0 t3_0 t4_0 t5_0 t6_0) ∧ True ∧ S_VR_string_J202_13 t0_0 t0_1 t0_2 t0_3 t0_4 t0_5 t0_6 t0_7 t0_8 t0_9 t0_10 t0_11 t0_12 t0_13 t0_14 t0_15 t0_16 t0_17 t0_18 t0_19 t0_20 t0_21 t1_0 t2_0 t3_0 t4_0 t5_0 t6_0 lx323 lx324 p360 y350 y351 f352 z) (fun z => [.int z, .ref (q 157)]) 202 0 0 ?_ ?_
    ·
      rintro lx372 H locs ls _ ⟨V, hl, hR381, hS382⟩
      replace hl : lv_has ls 2 [(0, .ref (q 157))] := hl
      refine q_put (ci := 17) (j := 30) (v := .int lx372) (ty := .int) C0 V i_VR o_VR n_VR rfl rfl hO349 (by decide) w_2234 rfl rfl rfl rfl (Nat.le_of_ble_eq_true rfl) d_16_37_202 (fun H locs w386 hu387 hO349 V => ?_)
      replace hO349 : w386[157]? = (some (q 157, .inr (17, [.int t0_0, .ref (q 158), .int t0_1, .int t0_2, .ref (q 159), .ref (q 160), .ref (q 161), .ref (q 162), .ref (q 163), .int t0_3, .ref (q 164), .int t0_4, .int t0_5, .int t0_6, .int t0_7, .int t0_8, .int t0_9, .int t0_10, .int t0_11, .int t0_12, .int t0_13, .int t0_14, .int t0_15, .int t0_16, .ref (q 165), .int lx323, .int t0_18, .int t0_19, .ref (q 166), .int y350, .int lx372])) : Option (Nat × va_E)) := hO349
      replace hI := n_p157 hI hu387 hO349 ⟨(by have t1 : 0 ≤ t0_1.toInt ∧ t0_1.toInt ≤ 256 := btt0_1; omega), (by have t1 : 0 ≤ t0_1.toInt ∧ t0_1.toInt ≤ 256 := btt0_1; omega)⟩ ⟨(by have t1 : 0 ≤ t0_2.toInt ∧ t0_2.toInt ≤ 9 := btt0_2; omega), (by have t1 : 0 ≤ t0_2.toInt ∧ t0_2.toInt ≤ 9 := btt0_2; omega)⟩ ⟨(by have t1 : 0 ≤ t0_3.toInt ∧ t0_3.toInt ≤ 4096 := btt0_3; omega), (by have t1 : 0 ≤ t0_3.toInt ∧ t0_3.toInt ≤ 4096 := btt0_3; omega)⟩ ⟨(by have t1 : 0 ≤ t0_10.toInt ∧ t0_10.toInt ≤ 1 := btt0_10; omega), (by have t1 : 0 ≤ t0_10.toInt ∧ t0_10.toInt ≤ 1 := btt0_10; omega)⟩ ⟨(by have t1 : 0 ≤ t0_19.toInt ∧ t0_19.toInt ≤ 1 := btt0_19; omega), (by have t1 : 0 ≤ t0_19.toInt ∧ t0_19.toInt ≤ 1 := btt0_19; omega)⟩
      replace hA326 := (hu387 _ (by decide)).trans hA326
      replace hA327 := (hu387 _ (by decide)).trans hA327
      replace hA328 := (hu387 _ (by decide)).trans hA328
      replace hA329 := (hu387 _ (by decide)).trans hA329
      replace hA330 := (hu387 _ (by decide)).trans hA330
      replace hA353 := (hu387 _ (by decide)).trans hA353
      replace hF := q_us hF hu387 (by simp)
      refine lv_aload_n hx hb d_16_37_205 rfl (lv_at hl 0 rfl) ?_
      refine lv_aload_n hx hb d_16_37_206 rfl (lv_at hl 0 rfl) ?_
      refine q_get (ci := 17) (j := 16) (v := .int t0_9) C0 V i_VR rfl rfl hO349 (by decide) w_2220 rfl d_16_37_207 ?_
      refine lv_bipush (v := (-19)) hx hb d_16_37_210 (by decide) ?_
      refine lv_iand hx hb d_16_37_212 ?_
      obtain ⟨a388, e389⟩ := q_nm (t0_9 &&& (-19) : Int32)
      refine q_ti (v := a388) e389 ?_
      refine q_put (ci := 17) (j := 16) (v := .int a388) (ty := .int) C0 V i_VR o_VR n_VR rfl rfl hO349 (by decide) w_2220 rfl rfl rfl rfl (Nat.le_of_ble_eq_true rfl) d_16_37_213 (fun H locs w390 hu391 hO349 V => ?_)
      replace hO349 : w390[157]? = (some (q 157, .inr (17, [.int t0_0, .ref (q 158), .int t0_1, .int t0_2, .ref (q 159), .ref (q 160), .ref (q 161), .ref (q 162), .ref (q 163), .int t0_3, .ref (q 164), .int t0_4, .int t0_5, .int t0_6, .int t0_7, .int t0_8, .int a388, .int t0_10, .int t0_11, .int t0_12, .int t0_13, .int t0_14, .int t0_15, .int t0_16, .ref (q 165), .int lx323, .int t0_18, .int t0_19, .ref (q 166), .int y350, .int lx372])) : Option (Nat × va_E)) := hO349
      replace hI := n_p157 hI hu391 hO349 ⟨(by have t1 : 0 ≤ t0_1.toInt ∧ t0_1.toInt ≤ 256 := btt0_1; omega), (by have t1 : 0 ≤ t0_1.toInt ∧ t0_1.toInt ≤ 256 := btt0_1; omega)⟩ ⟨(by have t1 : 0 ≤ t0_2.toInt ∧ t0_2.toInt ≤ 9 := btt0_2; omega), (by have t1 : 0 ≤ t0_2.toInt ∧ t0_2.toInt ≤ 9 := btt0_2; omega)⟩ ⟨(by have t1 : 0 ≤ t0_3.toInt ∧ t0_3.toInt ≤ 4096 := btt0_3; omega), (by have t1 : 0 ≤ t0_3.toInt ∧ t0_3.toInt ≤ 4096 := btt0_3; omega)⟩ ⟨(by have t1 : 0 ≤ t0_10.toInt ∧ t0_10.toInt ≤ 1 := btt0_10; omega), (by have t1 : 0 ≤ t0_10.toInt ∧ t0_10.toInt ≤ 1 := btt0_10; omega)⟩ ⟨(by have t1 : 0 ≤ t0_19.toInt ∧ t0_19.toInt ≤ 1 := btt0_19; omega), (by have t1 : 0 ≤ t0_19.toInt ∧ t0_19.toInt ≤ 1 := btt0_19; omega)⟩
      replace hA326 := (hu391 _ (by decide)).trans hA326
      replace hA327 := (hu391 _ (by decide)).trans hA327
      replace hA328 := (hu391 _ (by decide)).trans hA328
      replace hA329 := (hu391 _ (by decide)).trans hA329
      replace hA330 := (hu391 _ (by decide)).trans hA330
      replace hA353 := (hu391 _ (by decide)).trans hA353
      replace hF := q_us hF hu391 (by simp)
      refine lv_aload_n hx hb d_16_37_216 rfl (lv_at hl 0 rfl) ?_
      refine lv_aload_n hx hb d_16_37_217 rfl (lv_at hl 0 rfl) ?_
      refine q_get (ci := 17) (j := 29) (v := .int y350) C0 V i_VR rfl rfl hO349 (by decide) w_2233 rfl d_16_37_218 ?_
      refine lv_aload_n hx hb d_16_37_221 rfl (lv_at hl 0 rfl) ?_
      refine q_get (ci := 17) (j := 30) (v := .int lx372) C0 V i_VR rfl rfl hO349 (by decide) w_2234 rfl d_16_37_222 ?_
      refine lv_isub hx hb d_16_37_225 ?_
      obtain ⟨a392, e393⟩ := q_nm (y350 - lx372 : Int32)
      refine q_ti (v := a392) e393 ?_
      have ob394 : True ∧ S_VR_plain a392 t0_0 t0_1 t0_2 t0_3 t0_4 t0_5 t0_6 t0_7 t0_8 a388 t0_10 t0_11 t0_12 t0_13 t0_14 t0_15 t0_16 lx323 t0_18 t0_19 y350 lx372 lx324 f352 := (by rw [← e393, ← e389]; have h := hS382; rw [S_VR_string_J202_13.eq_1] at h; with_reducible exact h.2.1)
      refine q_gov V (q_runV (As := [.int a392]) (rest := []) (d := 3) (mc := 0) (ms := 0) (ci := 17) C0 V rfl LV_VR_140 (X_VR_plain l D g q w390  a392 hI t0_0 t0_1 t0_2 t0_3 t0_4 t0_5 t0_6 t0_7 t0_8 a388 t0_10 t0_11 t0_12 t0_13 t0_14 t0_15 t0_16 lx323 t0_18 t0_19 y350 lx372 hO349 lx324 hA330 f352 hA353 ob394 _) rfl rfl hO349 rfl hl.1 rfl (Nat.le_of_ble_eq_true rfl) ⟨by decide, by decide⟩ ⟨Nat.le_of_ble_eq_true rfl, Nat.le_of_ble_eq_true rfl⟩ d_16_37_226) (fun u395 H locs hp396 V => ?_)
      obtain ⟨hI, hu402, y398, f399, hO397, hA400, hE401⟩ := hp396
      replace hO397 : u395[157]? = (some (q 157, .inr (17, [.int t0_0, .ref (q 158), .int t0_1, .int t0_2, .ref (q 159), .ref (q 160), .ref (q 161), .ref (q 162), .ref (q 163), .int t0_3, .ref (q 164), .int t0_4, .int t0_5, .int t0_6, .int t0_7, .int t0_8, .int a388, .int t0_10, .int t0_11, .int t0_12, .int t0_13, .int t0_14, .int t0_15, .int t0_16, .ref (q 165), .int y398, .int t0_18, .int t0_19, .ref (q 166), .int y350, .int lx372])) : Option (Nat × va_E)) := hO397
      replace hA400 : u395[165]? = (some (q 165, .inl (g 0, (20200 : Int32).toNatClampNeg, .inl f399)) : Option (Nat × va_E)) := hA400
      obtain ⟨p403, e404⟩ : ∃ z, z = (F_VR_plain a392 t0_0 t0_1 t0_2 t0_3 t0_4 t0_5 t0_6 t0_7 t0_8 a388 t0_10 t0_11 t0_12 t0_13 t0_14 t0_15 t0_16 lx323 t0_18 t0_19 y350 lx372 lx324 f352) := ⟨_, rfl⟩
      have e405 : y398 = p403.1 := congrArg (fun z => z.1) (hE401.trans e404.symm)
      have e406 : f399 = p403.2 := congrArg (fun z => z.2) (hE401.trans e404.symm)
      replace hA326 := (hu402 _ (by decide)).trans hA326
      replace hA327 := (hu402 _ (by decide)).trans hA327
      replace hA328 := (hu402 _ (by decide)).trans hA328
      replace hA329 := (hu402 _ (by decide)).trans hA329
      replace hA353 := (hu402 _ (by decide)).trans hA353
      replace hF := q_uc hF hu402 (by simp)
      have hR407 := (show F_VR_string_c226_14 t0_0 t0_1 t0_2 t0_3 t0_4 t0_5 t0_6 t0_7 t0_8 t0_9 t0_10 t0_11 t0_12 t0_13 t0_14 t0_15 t0_16 t0_17 t0_18 t0_19 t0_20 t0_21 t1_0 t2_0 t3_0 t4_0 t5_0 t6_0 lx323 lx324 p360 y350 y351 f352 lx372 a388 p403 = (F_VR_string t0_0 t0_1 t0_2 t0_3 t0_4 t0_5 t0_6 t0_7 t0_8 t0_9 t0_10 t0_11 t0_12 t0_13 t0_14 t0_15 t0_16 t0_17 t0_18 t0_19 t0_20 t0_21 t1_0 t2_0 t3_0 t4_0 t5_0 t6_0) from Eq.trans (by rw [e404, ← e393, ← e389, F_VR_string_J202_13.eq_1]) hR381)
      have hS408 := (show True ∧ S_VR_string_c226_14 t0_0 t0_1 t0_2 t0_3 t0_4 t0_5 t0_6 t0_7 t0_8 t0_9 t0_10 t0_11 t0_12 t0_13 t0_14 t0_15 t0_16 t0_17 t0_18 t0_19 t0_20 t0_21 t1_0 t2_0 t3_0 t4_0 t5_0 t6_0 lx323 lx324 p360 y350 y351 f352 lx372 a388 p403 from (by rw [e404, ← e393, ← e389]; have h := hS382; rw [S_VR_string_J202_13.eq_1] at h; replace h := q_s2 h; with_reducible exact h))
      exact q_retv C0 V (⟨hI, hF, a388, y398, y350, lx372, f399, f352, hO397, hA400, hA353, (show (a388, y398, y350, lx372, f399, f352) = (F_VR_string t0_0 t0_1 t0_2 t0_3 t0_4 t0_5 t0_6 t0_7 t0_8 t0_9 t0_10 t0_11 t0_12 t0_13 t0_14 t0_15 t0_16 t0_17 t0_18 t0_19 t0_20 t0_21 t1_0 t2_0 t3_0 t4_0 t5_0 t6_0) from Eq.trans (by rw [e406, e405, F_VR_string_c226_14.eq_1]) hR407)⟩) d_16_37_229
    ·
      intro J380
      refine lv_icmp_ne (tgt := 198) hx hb d_16_37_178 (by decide) (fun c412 => ?_) (fun c412 => ?_)
      ·
        have b413 : q_F (a370.toInt ≠ 5) := (q_neI c412)
        refine lv_aload_n hx hb d_16_37_198 rfl (lv_at hl 0 rfl) ?_
        refine q_get (ci := 17) (j := 29) (v := .int y350) C0 V i_VR rfl rfl hO349 (by decide) w_2233 rfl d_16_37_199 ?_
        exact J380 ((y350 : Int32)) _ _ _ u347 ⟨V, q_lw hl (q_lw1 0 rfl q_lw0), (show F_VR_string_J202_13 t0_0 t0_1 t0_2 t0_3 t0_4 t0_5 t0_6 t0_7 t0_8 t0_9 t0_10 t0_11 t0_12 t0_13 t0_14 t0_15 t0_16 t0_17 t0_18 t0_19 t0_20 t0_21 t1_0 t2_0 t3_0 t4_0 t5_0 t6_0 lx323 lx324 p360 y350 y351 f352 y350 = (F_VR_string t0_0 t0_1 t0_2 t0_3 t0_4 t0_5 t0_6 t0_7 t0_8 t0_9 t0_10 t0_11 t0_12 t0_13 t0_14 t0_15 t0_16 t0_17 t0_18 t0_19 t0_20 t0_21 t1_0 t2_0 t3_0 t4_0 t5_0 t6_0) from Eq.trans (by have c412x := c412; rw [← e371] at c412x; rw [e364, e363, e362, F_VR_string_c164_12.eq_1, if_neg c412x]) hR365), (show True ∧ S_VR_string_J202_13 t0_0 t0_1 t0_2 t0_3 t0_4 t0_5 t0_6 t0_7 t0_8 t0_9 t0_10 t0_11 t0_12 t0_13 t0_14 t0_15 t0_16 t0_17 t0_18 t0_19 t0_20 t0_21 t1_0 t2_0 t3_0 t4_0 t5_0 t6_0 lx323 lx324 p360 y350 y351 f352 y350 from (by rw [e364, e363, e362]; have h := hS366; rw [S_VR_string_c164_12.eq_1] at h; have c412x := c412; rw [← e371] at c412x; rw [if_neg c412x] at h; with_reducible exact h))⟩
      ·
        have b414 : q_F (a370.toInt = 5) := (q_eqI c412)
        refine lv_aload_n hx hb d_16_37_181 rfl (lv_at hl 0 rfl) ?_
        refine q_get (ci := 17) (j := 29) (v := .int y350) C0 V i_VR rfl rfl hO349 (by decide) w_2233 rfl d_16_37_182 ?_
        refine lv_aload_n hx hb d_16_37_185 rfl (lv_at hl 0 rfl) ?_
        refine q_get (ci := 17) (j := 5) (v := .ref (q 160)) C0 V i_VR rfl rfl hO349 (by decide) w_2206 rfl d_16_37_186 ?_
        refine lv_aload_n hx hb d_16_37_189 rfl (lv_at hl 0 rfl) ?_
        refine q_get (ci := 17) (j := 21) (v := .int t0_14) C0 V i_VR rfl rfl hO349 (by decide) w_2225 rfl d_16_37_190 ?_
        refine q_iald C0 V hA327 (q_ix (x := t0_14.toInt) rfl (by have t1 : 0 ≤ t0_14.toInt := ob46; omega) (by have t1 : 0 ≤ t0_14.toInt := ob46; have t2 : t0_14.toInt ≤ 8 := ob47; have e9 : (((9 : Int32).toNatClampNeg : Nat) : Int) = 9 := (by decide); omega)) d_16_37_193 ?_
        obtain ⟨a415, e416⟩ := q_nm (t2_0 t0_14.toNatClampNeg : Int32)
        refine q_ti (v := a415) e416 ?_
        refine lv_isub hx hb d_16_37_194 ?_
        obtain ⟨a417, e418⟩ := q_nm (y350 - a415 : Int32)
        refine q_ti (v := a417) e418 ?_
        refine lv_goto (tgt := 202) hx hb d_16_37_195 (by decide) ?_
        exact J380 ((a417 : Int32)) _ _ _ u347 ⟨V, q_lw hl (q_lw1 0 rfl q_lw0), (show F_VR_string_J202_13 t0_0 t0_1 t0_2 t0_3 t0_4 t0_5 t0_6 t0_7 t0_8 t0_9 t0_10 t0_11 t0_12 t0_13 t0_14 t0_15 t0_16 t0_17 t0_18 t0_19 t0_20 t0_21 t1_0 t2_0 t3_0 t4_0 t5_0 t6_0 lx323 lx324 p360 y350 y351 f352 a417 = (F_VR_string t0_0 t0_1 t0_2 t0_3 t0_4 t0_5 t0_6 t0_7 t0_8 t0_9 t0_10 t0_11 t0_12 t0_13 t0_14 t0_15 t0_16 t0_17 t0_18 t0_19 t0_20 t0_21 t1_0 t2_0 t3_0 t4_0 t5_0 t6_0) from Eq.trans (by have c412x := c412; rw [← e371] at c412x; rw [← e418, ← e416, e364, e363, e362, F_VR_string_c164_12.eq_1, if_pos c412x]) hR365), (show True ∧ S_VR_string_J202_13 t0_0 t0_1 t0_2 t0_3 t0_4 t0_5 t0_6 t0_7 t0_8 t0_9 t0_10 t0_11 t0_12 t0_13 t0_14 t0_15 t0_16 t0_17 t0_18 t0_19 t0_20 t0_21 t1_0 t2_0 t3_0 t4_0 t5_0 t6_0 lx323 lx324 p360 y350 y351 f352 a417 from (by rw [← e418, ← e416, e364, e363, e362]; have h := hS366; rw [S_VR_string_c164_12.eq_1] at h; have c412x := c412; rw [← e371] at c412x; rw [if_pos c412x] at h; with_reducible exact h))⟩
  ·
    intro J332
    refine lv_if_ge (tgt := 149) hx hb d_16_37_140 (by decide) (fun c419 => ?_) (fun c419 => ?_)
    ·
      have b420 : q_F (0 ≤ a320.toInt) := (q_leI c419)
      exact J332 ((t0_17 : Int32), (t5_0 : (Nat → Int32))) _ _ _ _ ⟨V, q_lw hl (q_lw1 0 rfl q_lw0), hI, hF, hT0, hT1, hT2, hT3, hT4, hT5, hT6, (show F_VR_string_J149_11 t0_0 t0_1 t0_2 t0_3 t0_4 t0_5 t0_6 t0_7 t0_8 t0_9 t0_10 t0_11 t0_12 t0_13 t0_14 t0_15 t0_16 t0_17 t0_18 t0_19 t0_20 t0_21 t1_0 t2_0 t3_0 t4_0 t5_0 t6_0 t0_17 t5_0 = (F_VR_string t0_0 t0_1 t0_2 t0_3 t0_4 t0_5 t0_6 t0_7 t0_8 t0_9 t0_10 t0_11 t0_12 t0_13 t0_14 t0_15 t0_16 t0_17 t0_18 t0_19 t0_20 t0_21 t1_0 t2_0 t3_0 t4_0 t5_0 t6_0) from (by have c50x := c50; rw [← e49] at c50x; have c97x := c97; rw [← e49] at c97x; have c126x := c126; rw [← e49] at c126x; have c255x := c255; rw [← e49] at c255x; have c419x := c419; rw [← e321, ← e319] at c419x; rw [F_VR_string.eq_1, if_neg c50x, if_neg c97x, if_neg c126x, if_neg c255x, if_pos c419x])), (show True ∧ S_VR_string_J149_11 t0_0 t0_1 t0_2 t0_3 t0_4 t0_5 t0_6 t0_7 t0_8 t0_9 t0_10 t0_11 t0_12 t0_13 t0_14 t0_15 t0_16 t0_17 t0_18 t0_19 t0_20 t0_21 t1_0 t2_0 t3_0 t4_0 t5_0 t6_0 t0_17 t5_0 from (by have h := hS; rw [S_VR_string.eq_1] at h; replace h := q_s2 h; replace h := q_s2 h; have c50x := c50; rw [← e49] at c50x; rw [if_neg c50x] at h; have c97x := c97; rw [← e49] at c97x; rw [if_neg c97x] at h; have c126x := c126; rw [← e49] at c126x; rw [if_neg c126x] at h; have c255x := c255; rw [← e49] at c255x; rw [if_neg c255x] at h; have c419x := c419; rw [← e321, ← e319] at c419x; rw [if_pos c419x] at h; with_reducible exact h))⟩
    ·
      have b421 : q_F (a320.toInt < 0) := (q_nleI c419)
      refine lv_aload_n hx hb d_16_37_143 rfl (lv_at hl 0 rfl) ?_
      refine lv_bipush (v := 45) hx hb d_16_37_144 (by decide) ?_
      have ob422 : True ∧ S_VR_put (45 : Int32) t0_0 t0_1 t0_2 t0_3 t0_4 t0_5 t0_6 t0_7 t0_8 t0_9 t0_10 t0_11 t0_12 t0_13 t0_14 t0_15 t0_16 t0_17 t0_18 t0_19 t0_20 t0_21 t5_0 := (by have h := hS; rw [S_VR_string.eq_1] at h; replace h := q_s2 h; replace h := q_s2 h; have c50x := c50; rw [← e49] at c50x; rw [if_neg c50x] at h; have c97x := c97; rw [← e49] at c97x; rw [if_neg c97x] at h; have c126x := c126; rw [← e49] at c126x; rw [if_neg c126x] at h; have c255x := c255; rw [← e49] at c255x; rw [if_neg c255x] at h; have c419x := c419; rw [← e321, ← e319] at c419x; rw [if_neg c419x] at h; with_reducible exact h.2.1)
      refine q_gov V (q_runV (As := [.int 45]) (rest := []) (d := 1) (mc := 0) (ms := 0) (ci := 17) C0 V rfl LV_VR_122 (X_VR_put l D g q ws  45 hI t0_0 t0_1 t0_2 t0_3 t0_4 t0_5 t0_6 t0_7 t0_8 t0_9 t0_10 t0_11 t0_12 t0_13 t0_14 t0_15 t0_16 t0_17 t0_18 t0_19 t0_20 t0_21 hT0 t5_0 hT5 ob422 _) rfl rfl hT0 rfl hl.1 rfl (Nat.le_of_ble_eq_true rfl) ⟨by decide, by decide⟩ ⟨Nat.le_of_ble_eq_true rfl, Nat.le_of_ble_eq_true rfl⟩ d_16_37_146) (fun u423 H locs hp424 V => ?_)
      obtain ⟨hI, hu434, y426, f427, hO425, hA428, b429, b430, b431, b432, hE433⟩ := hp424
      replace hO425 : u423[157]? = (some (q 157, .inr (17, [.int t0_0, .ref (q 158), .int t0_1, .int t0_2, .ref (q 159), .ref (q 160), .ref (q 161), .ref (q 162), .ref (q 163), .int t0_3, .ref (q 164), .int t0_4, .int t0_5, .int t0_6, .int t0_7, .int t0_8, .int t0_9, .int t0_10, .int t0_11, .int t0_12, .int t0_13, .int t0_14, .int t0_15, .int t0_16, .ref (q 165), .int y426, .int t0_18, .int t0_19, .ref (q 166), .int t0_20, .int t0_21])) : Option (Nat × va_E)) := hO425
      replace hA428 : u423[165]? = (some (q 165, .inl (g 0, (20200 : Int32).toNatClampNeg, .inl f427)) : Option (Nat × va_E)) := hA428
      obtain ⟨p435, e436⟩ : ∃ z, z = (F_VR_put (45 : Int32) t0_0 t0_1 t0_2 t0_3 t0_4 t0_5 t0_6 t0_7 t0_8 t0_9 t0_10 t0_11 t0_12 t0_13 t0_14 t0_15 t0_16 t0_17 t0_18 t0_19 t0_20 t0_21 t5_0) := ⟨_, rfl⟩
      have e437 : y426 = p435.1 := congrArg (fun z => z.1) (hE433.trans e436.symm)
      have e438 : f427 = p435.2 := congrArg (fun z => z.2) (hE433.trans e436.symm)
      replace b429 : q_F (1 ≤ y426.toInt) := b429
      replace b430 : q_F (y426.toInt ≤ 20200) := b430
      replace b431 : q_F (t0_17.toInt + 1 ≤ y426.toInt) := b431
      replace b432 : q_F (y426.toInt ≤ t0_17.toInt + 1) := b432
      replace hT1 := (hu434 _ (by decide)).trans hT1
      replace hT2 := (hu434 _ (by decide)).trans hT2
      replace hT3 := (hu434 _ (by decide)).trans hT3
      replace hT4 := (hu434 _ (by decide)).trans hT4
      replace hT6 := (hu434 _ (by decide)).trans hT6
      replace hF := q_uc hF hu434 (by simp)
      have hR439 := (show F_VR_string_c146_15 t0_0 t0_1 t0_2 t0_3 t0_4 t0_5 t0_6 t0_7 t0_8 t0_9 t0_10 t0_11 t0_12 t0_13 t0_14 t0_15 t0_16 t0_17 t0_18 t0_19 t0_20 t0_21 t1_0 t2_0 t3_0 t4_0 t5_0 t6_0 p435 = (F_VR_string t0_0 t0_1 t0_2 t0_3 t0_4 t0_5 t0_6 t0_7 t0_8 t0_9 t0_10 t0_11 t0_12 t0_13 t0_14 t0_15 t0_16 t0_17 t0_18 t0_19 t0_20 t0_21 t1_0 t2_0 t3_0 t4_0 t5_0 t6_0) from (by have c50x := c50; rw [← e49] at c50x; have c97x := c97; rw [← e49] at c97x; have c126x := c126; rw [← e49] at c126x; have c255x := c255; rw [← e49] at c255x; have c419x := c419; rw [← e321, ← e319] at c419x; rw [e436, F_VR_string.eq_1, if_neg c50x, if_neg c97x, if_neg c126x, if_neg c255x, if_neg c419x]))
      have hS440 := (show True ∧ S_VR_string_c146_15 t0_0 t0_1 t0_2 t0_3 t0_4 t0_5 t0_6 t0_7 t0_8 t0_9 t0_10 t0_11 t0_12 t0_13 t0_14 t0_15 t0_16 t0_17 t0_18 t0_19 t0_20 t0_21 t1_0 t2_0 t3_0 t4_0 t5_0 t6_0 p435 from (by rw [e436]; have h := hS; rw [S_VR_string.eq_1] at h; replace h := q_s2 h; replace h := q_s2 h; have c50x := c50; rw [← e49] at c50x; rw [if_neg c50x] at h; have c97x := c97; rw [← e49] at c97x; rw [if_neg c97x] at h; have c126x := c126; rw [← e49] at c126x; rw [if_neg c126x] at h; have c255x := c255; rw [← e49] at c255x; rw [if_neg c255x] at h; have c419x := c419; rw [← e321, ← e319] at c419x; rw [if_neg c419x] at h; replace h := q_s2 h; with_reducible exact h))
      exact J332 ((y426 : Int32), (f427 : (Nat → Int32))) _ _ _ _ ⟨V, q_lw hl (q_lw1 0 rfl q_lw0), hI, hF, hO425, hT1, hT2, hT3, hT4, hA428, hT6, (show F_VR_string_J149_11 t0_0 t0_1 t0_2 t0_3 t0_4 t0_5 t0_6 t0_7 t0_8 t0_9 t0_10 t0_11 t0_12 t0_13 t0_14 t0_15 t0_16 t0_17 t0_18 t0_19 t0_20 t0_21 t1_0 t2_0 t3_0 t4_0 t5_0 t6_0 y426 f427 = (F_VR_string t0_0 t0_1 t0_2 t0_3 t0_4 t0_5 t0_6 t0_7 t0_8 t0_9 t0_10 t0_11 t0_12 t0_13 t0_14 t0_15 t0_16 t0_17 t0_18 t0_19 t0_20 t0_21 t1_0 t2_0 t3_0 t4_0 t5_0 t6_0) from Eq.trans (by rw [e438, e437, F_VR_string_c146_15.eq_1]) hR439), (show True ∧ S_VR_string_J149_11 t0_0 t0_1 t0_2 t0_3 t0_4 t0_5 t0_6 t0_7 t0_8 t0_9 t0_10 t0_11 t0_12 t0_13 t0_14 t0_15 t0_16 t0_17 t0_18 t0_19 t0_20 t0_21 t1_0 t2_0 t3_0 t4_0 t5_0 t6_0 y426 f427 from (by rw [e438, e437]; have h := hS440; rw [S_VR_string_c146_15.eq_1] at h; with_reducible exact h))⟩
