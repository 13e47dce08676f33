theorem d_16_22_0 : decode prog_16_method_22_code 0 = .ok (.aload_n 0, 1) := by decide +kernel
theorem d_16_22_1 : decode prog_16_method_22_code 1 = .ok (.invokevirtual 98, 3) := by decide +kernel
set_option maxRecDepth 100000 in
theorem w_3150 : (Cond.code ({ cls := "NumberHouseModel$DirectiveRows", name := "small", desc := "()I" } : MethodName) prog_16_method_19_code (1 : Nat) (some .int)) ∈ q_tbl := q_of14 30 rfl (by decide +kernel)
set_option maxRecDepth 100000 in
theorem w_3147 : (Cond.methodLink "NumberHouseModel$DirectiveRows" (98 : Nat) ({ cls := "NumberHouseModel$DirectiveRows", name := "small", desc := "()I" } : MethodName)) ∈ q_tbl := q_of14 27 rfl (by decide +kernel)
set_option maxRecDepth 100000 in
theorem w_3149 : (Cond.instanceMethod ({ cls := "NumberHouseModel$DirectiveRows", name := "small", desc := "()I" } : MethodName)) ∈ q_tbl := q_of14 29 rfl (by decide +kernel)
theorem ws_158 : Cond.selects "NumberHouseModel$DirectiveRows" (⟨"NumberHouseModel$DirectiveRows", "small", "()I"⟩ : MethodName) (⟨"NumberHouseModel$DirectiveRows", "small", "()I"⟩ : MethodName) ∈ q_tbl := q_ofs 158 (by decide +kernel) (by decide +kernel)
theorem LV_VR_98 : q_LV "NumberHouseModel$DirectiveRows" 98 y_VR_small prog_16_method_19_code 1 (some .int) 0 := ⟨w_3150, w_19, w_3147, w_3149, ws_158, ⟨by decide, by decide, by decide +kernel⟩⟩
theorem d_16_22_4 : decode prog_16_method_22_code 4 = .ok (.istore_n 1, 1) := by decide +kernel
theorem d_16_22_5 : decode prog_16_method_22_code 5 = .ok (.aload_n 0, 1) := by decide +kernel
theorem d_16_22_6 : decode prog_16_method_22_code 6 = .ok (.getfield 95, 3) := by decide +kernel
theorem d_16_22_9 : decode prog_16_method_22_code 9 = .ok (.ifCond .lt 7, 3) := by decide +kernel
theorem d_16_22_16 : decode prog_16_method_22_code 16 = .ok (.aload_n 0, 1) := by decide +kernel
theorem d_16_22_17 : decode prog_16_method_22_code 17 = .ok (.getfield 95, 3) := by decide +kernel
theorem d_16_22_20 : decode prog_16_method_22_code 20 = .ok (.ifCond .ge 7, 3) := by decide +kernel
theorem d_16_22_23 : decode prog_16_method_22_code 23 = .ok (.iconst 1, 1) := by decide +kernel
theorem d_16_22_24 : decode prog_16_method_22_code 24 = .ok (.goto 4, 3) := by decide +kernel
theorem d_16_22_28 : decode prog_16_method_22_code 28 = .ok (.ireturn, 1) := by decide +kernel
theorem d_16_22_12 : decode prog_16_method_22_code 12 = .ok (.iload_n 1, 1) := by decide +kernel
theorem d_16_22_13 : decode prog_16_method_22_code 13 = .ok (.ifCond .ne 16, 3) := by decide +kernel
theorem d_16_22_29 : decode prog_16_method_22_code 29 = .ok (.aload_n 0, 1) := by decide +kernel
theorem d_16_22_30 : decode prog_16_method_22_code 30 = .ok (.getfield 78, 3) := by decide +kernel
theorem d_16_22_33 : decode prog_16_method_22_code 33 = .ok (.ifCond .eq 5, 3) := by decide +kernel
theorem d_16_22_38 : decode prog_16_method_22_code 38 = .ok (.iload_n 1, 1) := by decide +kernel
theorem d_16_22_39 : decode prog_16_method_22_code 39 = .ok (.bipush 110, 2) := by decide +kernel
theorem d_16_22_41 : decode prog_16_method_22_code 41 = .ok (.if_icmp .ne 30, 3) := by decide +kernel
theorem d_16_22_71 : decode prog_16_method_22_code 71 = .ok (.aload_n 0, 1) := by decide +kernel
theorem d_16_22_72 : decode prog_16_method_22_code 72 = .ok (.getfield 85, 3) := by decide +kernel
theorem d_16_22_100 : decode prog_16_method_22_code 100 = .ok (.aload_n 0, 1) := by decide +kernel
theorem d_16_22_101 : decode prog_16_method_22_code 101 = .ok (.getfield 68, 3) := by decide +kernel
theorem d_16_22_104 : decode prog_16_method_22_code 104 = .ok (.iload_n 1, 1) := by decide +kernel
theorem d_16_22_105 : decode prog_16_method_22_code 105 = .ok (.invokestatic 104, 3) := by decide +kernel
set_option maxRecDepth 100000 in
theorem w_3157 : (Cond.code ({ cls := "NumberHouseModel$DirectiveRows", name := "allowed", desc := "(I)I" } : MethodName) prog_16_method_20_code (1 : Nat) (some .int)) ∈ q_tbl := q_of14 37 rfl (by decide +kernel)
set_option maxRecDepth 100000 in
theorem w_3155 : (Cond.methodLink "NumberHouseModel$DirectiveRows" (104 : Nat) ({ cls := "NumberHouseModel$DirectiveRows", name := "allowed", desc := "(I)I" } : MethodName)) ∈ q_tbl := q_of14 35 rfl (by decide +kernel)
set_option maxRecDepth 100000 in
theorem w_3156 : (Cond.static ({ cls := "NumberHouseModel$DirectiveRows", name := "allowed", desc := "(I)I" } : MethodName)) ∈ q_tbl := q_of14 36 rfl (by decide +kernel)
theorem LS_VR_104 : q_LS "NumberHouseModel$DirectiveRows" 104 y_VR_allowed prog_16_method_20_code 1 (some .int) 1 := ⟨w_3157, w_19, w_3155, w_3156, ⟨by decide, by decide, by decide +kernel⟩⟩
theorem d_16_22_108 : decode prog_16_method_22_code 108 = .ok (.iconst (-1), 1) := by decide +kernel
theorem d_16_22_109 : decode prog_16_method_22_code 109 = .ok (.ixor, 1) := by decide +kernel
theorem d_16_22_110 : decode prog_16_method_22_code 110 = .ok (.iand, 1) := by decide +kernel
theorem d_16_22_111 : decode prog_16_method_22_code 111 = .ok (.ifCond .eq 6, 3) := by decide +kernel
theorem d_16_22_117 : decode prog_16_method_22_code 117 = .ok (.aload_n 0, 1) := by decide +kernel
theorem d_16_22_118 : decode prog_16_method_22_code 118 = .ok (.bipush 45, 2) := by decide +kernel
theorem d_16_22_120 : decode prog_16_method_22_code 120 = .ok (.invokevirtual 91, 3) := by decide +kernel
theorem d_16_22_145 : decode prog_16_method_22_code 145 = .ok (.aload_n 0, 1) := by decide +kernel
theorem d_16_22_146 : decode prog_16_method_22_code 146 = .ok (.bipush 45, 2) := by decide +kernel
theorem d_16_22_148 : decode prog_16_method_22_code 148 = .ok (.invokevirtual 91, 3) := by decide +kernel
theorem d_16_22_163 : decode prog_16_method_22_code 163 = .ok (.aload_n 0, 1) := by decide +kernel
theorem d_16_22_164 : decode prog_16_method_22_code 164 = .ok (.bipush 43, 2) := by decide +kernel
theorem d_16_22_166 : decode prog_16_method_22_code 166 = .ok (.invokevirtual 91, 3) := by decide +kernel
theorem d_16_22_169 : decode prog_16_method_22_code 169 = .ok (.ifCond .eq 15, 3) := by decide +kernel
theorem d_16_22_184 : decode prog_16_method_22_code 184 = .ok (.iload_n 1, 1) := by decide +kernel
theorem d_16_22_185 : decode prog_16_method_22_code 185 = .ok (.bipush 37, 2) := by decide +kernel
theorem d_16_22_187 : decode prog_16_method_22_code 187 = .ok (.if_icmp .ne 7, 3) := by decide +kernel
theorem d_16_22_194 : decode prog_16_method_22_code 194 = .ok (.aload_n 0, 1) := by decide +kernel
theorem d_16_22_195 : decode prog_16_method_22_code 195 = .ok (.iload_n 1, 1) := by decide +kernel
theorem d_16_22_196 : decode prog_16_method_22_code 196 = .ok (.invokevirtual 107, 3) := by decide +kernel
set_option maxRecDepth 100000 in
theorem w_3161 : (Cond.code ({ cls := "NumberHouseModel$DirectiveRows", name := "chosen", desc := "(I)I" } : MethodName) prog_16_method_23_code (5 : Nat) (some .int)) ∈ q_tbl := q_of14 41 rfl (by decide +kernel)
set_option maxRecDepth 100000 in
theorem w_3158 : (Cond.methodLink "NumberHouseModel$DirectiveRows" (107 : Nat) ({ cls := "NumberHouseModel$DirectiveRows", name := "chosen", desc := "(I)I" } : MethodName)) ∈ q_tbl := q_of14 38 rfl (by decide +kernel)
set_option maxRecDepth 100000 in
theorem w_3160 : (Cond.instanceMethod ({ cls := "NumberHouseModel$DirectiveRows", name := "chosen", desc := "(I)I" } : MethodName)) ∈ q_tbl := q_of14 40 rfl (by decide +kernel)
theorem ws_160 : Cond.selects "NumberHouseModel$DirectiveRows" (⟨"NumberHouseModel$DirectiveRows", "chosen", "(I)I"⟩ : MethodName) (⟨"NumberHouseModel$DirectiveRows", "chosen", "(I)I"⟩ : MethodName) ∈ q_tbl := q_ofs 160 (by decide +kernel) (by decide +kernel)
theorem LV_VR_107 : q_LV "NumberHouseModel$DirectiveRows" 107 y_VR_chosen prog_16_method_23_code 5 (some .int) 1 := ⟨w_3161, w_19, w_3158, w_3160, ws_160, ⟨by decide, by decide, by decide +kernel⟩⟩
theorem d_16_22_199 : decode prog_16_method_22_code 199 = .ok (.ireturn, 1) := by decide +kernel
theorem d_16_22_190 : decode prog_16_method_22_code 190 = .ok (.iconst 0, 1) := by decide +kernel
theorem d_16_22_191 : decode prog_16_method_22_code 191 = .ok (.goto 8, 3) := by decide +kernel
theorem d_16_22_172 : decode prog_16_method_22_code 172 = .ok (.aload_n 0, 1) := by decide +kernel
theorem d_16_22_173 : decode prog_16_method_22_code 173 = .ok (.bipush 32, 2) := by decide +kernel
theorem d_16_22_175 : decode prog_16_method_22_code 175 = .ok (.invokevirtual 91, 3) := by decide +kernel
theorem d_16_22_178 : decode prog_16_method_22_code 178 = .ok (.ifCond .eq 6, 3) := by decide +kernel
theorem d_16_22_181 : decode prog_16_method_22_code 181 = .ok (.bipush 8, 2) := by decide +kernel
theorem d_16_22_183 : decode prog_16_method_22_code 183 = .ok (.ireturn, 1) := by decide +kernel
theorem d_16_22_151 : decode prog_16_method_22_code 151 = .ok (.ifCond .eq 12, 3) := by decide +kernel
theorem d_16_22_154 : decode prog_16_method_22_code 154 = .ok (.aload_n 0, 1) := by decide +kernel
theorem d_16_22_155 : decode prog_16_method_22_code 155 = .ok (.bipush 48, 2) := by decide +kernel
theorem d_16_22_157 : decode prog_16_method_22_code 157 = .ok (.invokevirtual 91, 3) := by decide +kernel
theorem d_16_22_160 : decode prog_16_method_22_code 160 = .ok (.ifCond .ne 21, 3) := by decide +kernel
theorem d_16_22_135 : decode prog_16_method_22_code 135 = .ok (.aload_n 0, 1) := by decide +kernel
theorem d_16_22_136 : decode prog_16_method_22_code 136 = .ok (.getfield 82, 3) := by decide +kernel
theorem d_16_22_139 : decode prog_16_method_22_code 139 = .ok (.ifCond .ge 6, 3) := by decide +kernel
theorem d_16_22_142 : decode prog_16_method_22_code 142 = .ok (.bipush 7, 2) := by decide +kernel
theorem d_16_22_144 : decode prog_16_method_22_code 144 = .ok (.ireturn, 1) := by decide +kernel
theorem d_16_22_123 : decode prog_16_method_22_code 123 = .ok (.ifCond .ne 12, 3) := by decide +kernel
theorem d_16_22_126 : decode prog_16_method_22_code 126 = .ok (.aload_n 0, 1) := by decide +kernel
theorem d_16_22_127 : decode prog_16_method_22_code 127 = .ok (.bipush 48, 2) := by decide +kernel
theorem d_16_22_129 : decode prog_16_method_22_code 129 = .ok (.invokevirtual 91, 3) := by decide +kernel
theorem d_16_22_132 : decode prog_16_method_22_code 132 = .ok (.ifCond .eq 13, 3) := by decide +kernel
theorem d_16_22_114 : decode prog_16_method_22_code 114 = .ok (.bipush 6, 2) := by decide +kernel
theorem d_16_22_116 : decode prog_16_method_22_code 116 = .ok (.ireturn, 1) := by decide +kernel
theorem d_16_22_75 : decode prog_16_method_22_code 75 = .ok (.ifCond .lt 25, 3) := by decide +kernel
theorem d_16_22_78 : decode prog_16_method_22_code 78 = .ok (.iload_n 1, 1) := by decide +kernel
theorem d_16_22_79 : decode prog_16_method_22_code 79 = .ok (.bipush 99, 2) := by decide +kernel
theorem d_16_22_81 : decode prog_16_method_22_code 81 = .ok (.if_icmp .eq 17, 3) := by decide +kernel
theorem d_16_22_98 : decode prog_16_method_22_code 98 = .ok (.iconst 5, 1) := by decide +kernel
theorem d_16_22_99 : decode prog_16_method_22_code 99 = .ok (.ireturn, 1) := by decide +kernel
theorem d_16_22_84 : decode prog_16_method_22_code 84 = .ok (.iload_n 1, 1) := by decide +kernel
theorem d_16_22_85 : decode prog_16_method_22_code 85 = .ok (.bipush 37, 2) := by decide +kernel
theorem d_16_22_87 : decode prog_16_method_22_code 87 = .ok (.if_icmp .eq 11, 3) := by decide +kernel
theorem d_16_22_90 : decode prog_16_method_22_code 90 = .ok (.aload_n 0, 1) := by decide +kernel
theorem d_16_22_91 : decode prog_16_method_22_code 91 = .ok (.iload_n 1, 1) := by decide +kernel
theorem d_16_22_92 : decode prog_16_method_22_code 92 = .ok (.invokevirtual 101, 3) := by decide +kernel
theorem d_16_22_95 : decode prog_16_method_22_code 95 = .ok (.ifCond .eq 5, 3) := by decide +kernel
theorem d_16_22_44 : decode prog_16_method_22_code 44 = .ok (.aload_n 0, 1) := by decide +kernel
theorem d_16_22_45 : decode prog_16_method_22_code 45 = .ok (.getfield 82, 3) := by decide +kernel
theorem d_16_22_48 : decode prog_16_method_22_code 48 = .ok (.ifCond .ge 17, 3) := by decide +kernel
theorem d_16_22_65 : decode prog_16_method_22_code 65 = .ok (.iconst 4, 1) := by decide +kernel
theorem d_16_22_66 : decode prog_16_method_22_code 66 = .ok (.goto 4, 3) := by decide +kernel
theorem d_16_22_70 : decode prog_16_method_22_code 70 = .ok (.ireturn, 1) := by decide +kernel
theorem d_16_22_51 : decode prog_16_method_22_code 51 = .ok (.aload_n 0, 1) := by decide +kernel
theorem d_16_22_52 : decode prog_16_method_22_code 52 = .ok (.getfield 85, 3) := by decide +kernel
theorem d_16_22_55 : decode prog_16_method_22_code 55 = .ok (.ifCond .ge 10, 3) := by decide +kernel
theorem d_16_22_58 : decode prog_16_method_22_code 58 = .ok (.aload_n 0, 1) := by decide +kernel
theorem d_16_22_59 : decode prog_16_method_22_code 59 = .ok (.getfield 68, 3) := by decide +kernel
theorem d_16_22_62 : decode prog_16_method_22_code 62 = .ok (.ifCond .eq 7, 3) := by decide +kernel
theorem d_16_22_69 : decode prog_16_method_22_code 69 = .ok (.iconst 0, 1) := by decide +kernel
theorem d_16_22_36 : decode prog_16_method_22_code 36 = .ok (.iconst 3, 1) := by decide +kernel
theorem d_16_22_37 : decode prog_16_method_22_code 37 = .ok (.ireturn, 1) := by decide +kernel
theorem d_16_22_27 : decode prog_16_method_22_code 27 = .ok (.iconst 2, 1) := by decide +kernel
def y_VR_looked : MethodName := ⟨"NumberHouseModel$DirectiveRows", "looked", "()I"⟩
def F_VR_looked_c196 (t0_0 : Int32) (t0_1 : Int32) (t0_2 : Int32) (t0_3 : Int32) (t0_4 : Int32) (t0_5 : Int32) (t0_6 : Int32) (t0_7 : Int32) (t0_8 : Int32) (t0_9 : Int32) (t0_10 : Int32) (t0_11 : Int32) (t0_12 : Int32) (t0_13 : Int32) (t0_14 : Int32) (t0_15 : Int32) (t0_16 : Int32) (t0_17 : Int32) (t0_18 : Int32) (t0_19 : Int32) (t0_20 : Int32) (t0_21 : Int32) (t1_0 : (Nat → Int32)) (t2_0 : (Nat → Int32)) (t3_0 : (Nat → Int64)) (a39 : Int32) (p134 : (Int32 × Int32 × Int32 × Int32)) : Int32 × Int32 × Int32 × Int32 := ((p134.1 : Int32), (p134.2.1 : Int32), (p134.2.2.1 : Int32), (p134.2.2.2 : Int32))
def F_VR_looked_c196_5 (t0_0 : Int32) (t0_1 : Int32) (t0_2 : Int32) (t0_3 : Int32) (t0_4 : Int32) (t0_5 : Int32) (t0_6 : Int32) (t0_7 : Int32) (t0_8 : Int32) (t0_9 : Int32) (t0_10 : Int32) (t0_11 : Int32) (t0_12 : Int32) (t0_13 : Int32) (t0_14 : Int32) (t0_15 : Int32) (t0_16 : Int32) (t0_17 : Int32) (t0_18 : Int32) (t0_19 : Int32) (t0_20 : Int32) (t0_21 : Int32) (t1_0 : (Nat → Int32)) (t2_0 : (Nat → Int32)) (t3_0 : (Nat → Int64)) (a39 : Int32) (p170 : (Int32 × Int32 × Int32 × Int32)) : Int32 × Int32 × Int32 × Int32 := ((p170.1 : Int32), (p170.2.1 : Int32), (p170.2.2.1 : Int32), (p170.2.2.2 : Int32))
def F_VR_looked_J163 (t0_0 : Int32) (t0_1 : Int32) (t0_2 : Int32) (t0_3 : Int32) (t0_4 : Int32) (t0_5 : Int32) (t0_6 : Int32) (t0_7 : Int32) (t0_8 : Int32) (t0_9 : Int32) (t0_10 : Int32) (t0_11 : Int32) (t0_12 : Int32) (t0_13 : Int32) (t0_14 : Int32) (t0_15 : Int32) (t0_16 : Int32) (t0_17 : Int32) (t0_18 : Int32) (t0_19 : Int32) (t0_20 : Int32) (t0_21 : Int32) (t1_0 : (Nat → Int32)) (t2_0 : (Nat → Int32)) (t3_0 : (Nat → Int64)) (a39 : Int32) : Int32 × Int32 × Int32 × Int32 := if ((F_VR_has (43 : Int32) t0_0 t0_1 t0_2 t0_3 t0_4 t0_5 t0_6 t0_7 t0_8 t0_9 t0_10 t0_11 t0_12 t0_13 t0_14 t0_15 t0_16 t0_17 t0_18 t0_19 t0_20 t0_21) : Int32) = (0 : Int32) then (if a39 = (37 : Int32) then (((0 : Int32), t0_14, t0_15, t0_16)) else (F_VR_looked_c196 t0_0 t0_1 t0_2 t0_3 t0_4 t0_5 t0_6 t0_7 t0_8 t0_9 t0_10 t0_11 t0_12 t0_13 t0_14 t0_15 t0_16 t0_17 t0_18 t0_19 t0_20 t0_21 t1_0 t2_0 t3_0 a39 ((F_VR_chosen a39 t0_0 t0_1 t0_2 t0_3 t0_4 t0_5 t0_6 t0_7 t0_8 t0_9 t0_10 t0_11 t0_12 t0_13 t0_14 t0_15 t0_16 t0_17 t0_18 t0_19 t0_20 t0_21 t1_0 t2_0 t3_0) : (Int32 × Int32 × Int32 × Int32)))) else (if ((F_VR_has (32 : Int32) t0_0 t0_1 t0_2 t0_3 t0_4 t0_5 t0_6 t0_7 t0_8 t0_9 t0_10 t0_11 t0_12 t0_13 t0_14 t0_15 t0_16 t0_17 t0_18 t0_19 t0_20 t0_21) : Int32) = (0 : Int32) then (if a39 = (37 : Int32) then (((0 : Int32), t0_14, t0_15, t0_16)) else (F_VR_looked_c196_5 t0_0 t0_1 t0_2 t0_3 t0_4 t0_5 t0_6 t0_7 t0_8 t0_9 t0_10 t0_11 t0_12 t0_13 t0_14 t0_15 t0_16 t0_17 t0_18 t0_19 t0_20 t0_21 t1_0 t2_0 t3_0 a39 ((F_VR_chosen a39 t0_0 t0_1 t0_2 t0_3 t0_4 t0_5 t0_6 t0_7 t0_8 t0_9 t0_10 t0_11 t0_12 t0_13 t0_14 t0_15 t0_16 t0_17 t0_18 t0_19 t0_20 t0_21 t1_0 t2_0 t3_0) : (Int32 × Int32 × Int32 × Int32)))) else (((8 : Int32), t0_14, t0_15, t0_16)))
def F_VR_looked_J145 (t0_0 : Int32) (t0_1 : Int32) (t0_2 : Int32) (t0_3 : Int32) (t0_4 : Int32) (t0_5 : Int32) (t0_6 : Int32) (t0_7 : Int32) (t0_8 : Int32) (t0_9 : Int32) (t0_10 : Int32) (t0_11 : Int32) (t0_12 : Int32) (t0_13 : Int32) (t0_14 : Int32) (t0_15 : Int32) (t0_16 : Int32) (t0_17 : Int32) (t0_18 : Int32) (t0_19 : Int32) (t0_20 : Int32) (t0_21 : Int32) (t1_0 : (Nat → Int32)) (t2_0 : (Nat → Int32)) (t3_0 : (Nat → Int64)) (a39 : Int32) : Int32 × Int32 × Int32 × Int32 := if ((F_VR_has (45 : Int32) t0_0 t0_1 t0_2 t0_3 t0_4 t0_5 t0_6 t0_7 t0_8 t0_9 t0_10 t0_11 t0_12 t0_13 t0_14 t0_15 t0_16 t0_17 t0_18 t0_19 t0_20 t0_21) : Int32) = (0 : Int32) then (F_VR_looked_J163 t0_0 t0_1 t0_2 t0_3 t0_4 t0_5 t0_6 t0_7 t0_8 t0_9 t0_10 t0_11 t0_12 t0_13 t0_14 t0_15 t0_16 t0_17 t0_18 t0_19 t0_20 t0_21 t1_0 t2_0 t3_0 a39) else (if ((F_VR_has (48 : Int32) t0_0 t0_1 t0_2 t0_3 t0_4 t0_5 t0_6 t0_7 t0_8 t0_9 t0_10 t0_11 t0_12 t0_13 t0_14 t0_15 t0_16 t0_17 t0_18 t0_19 t0_20 t0_21) : Int32) = (0 : Int32) then (F_VR_looked_J163 t0_0 t0_1 t0_2 t0_3 t0_4 t0_5 t0_6 t0_7 t0_8 t0_9 t0_10 t0_11 t0_12 t0_13 t0_14 t0_15 t0_16 t0_17 t0_18 t0_19 t0_20 t0_21 t1_0 t2_0 t3_0 a39) else (((8 : Int32), t0_14, t0_15, t0_16)))
def F_VR_looked_J135 (t0_0 : Int32) (t0_1 : Int32) (t0_2 : Int32) (t0_3 : Int32) (t0_4 : Int32) (t0_5 : Int32) (t0_6 : Int32) (t0_7 : Int32) (t0_8 : Int32) (t0_9 : Int32) (t0_10 : Int32) (t0_11 : Int32) (t0_12 : Int32) (t0_13 : Int32) (t0_14 : Int32) (t0_15 : Int32) (t0_16 : Int32) (t0_17 : Int32) (t0_18 : Int32) (t0_19 : Int32) (t0_20 : Int32) (t0_21 : Int32) (t1_0 : (Nat → Int32)) (t2_0 : (Nat → Int32)) (t3_0 : (Nat → Int64)) (a39 : Int32) : Int32 × Int32 × Int32 × Int32 := if (0 : Int32) ≤ t0_11 then (F_VR_looked_J145 t0_0 t0_1 t0_2 t0_3 t0_4 t0_5 t0_6 t0_7 t0_8 t0_9 t0_10 t0_11 t0_12 t0_13 t0_14 t0_15 t0_16 t0_17 t0_18 t0_19 t0_20 t0_21 t1_0 t2_0 t3_0 a39) else (((7 : Int32), t0_14, t0_15, t0_16))
def F_VR_looked_J100 (t0_0 : Int32) (t0_1 : Int32) (t0_2 : Int32) (t0_3 : Int32) (t0_4 : Int32) (t0_5 : Int32) (t0_6 : Int32) (t0_7 : Int32) (t0_8 : Int32) (t0_9 : Int32) (t0_10 : Int32) (t0_11 : Int32) (t0_12 : Int32) (t0_13 : Int32) (t0_14 : Int32) (t0_15 : Int32) (t0_16 : Int32) (t0_17 : Int32) (t0_18 : Int32) (t0_19 : Int32) (t0_20 : Int32) (t0_21 : Int32) (t1_0 : (Nat → Int32)) (t2_0 : (Nat → Int32)) (t3_0 : (Nat → Int64)) (a39 : Int32) : Int32 × Int32 × Int32 × Int32 := if (t0_9 &&& (((F_VR_allowed a39) : Int32) ^^^ (-1) : Int32) : Int32) = (0 : Int32) then (if ((F_VR_has (45 : Int32) t0_0 t0_1 t0_2 t0_3 t0_4 t0_5 t0_6 t0_7 t0_8 t0_9 t0_10 t0_11 t0_12 t0_13 t0_14 t0_15 t0_16 t0_17 t0_18 t0_19 t0_20 t0_21) : Int32) = (0 : Int32) then (if ((F_VR_has (48 : Int32) t0_0 t0_1 t0_2 t0_3 t0_4 t0_5 t0_6 t0_7 t0_8 t0_9 t0_10 t0_11 t0_12 t0_13 t0_14 t0_15 t0_16 t0_17 t0_18 t0_19 t0_20 t0_21) : Int32) = (0 : Int32) then (F_VR_looked_J145 t0_0 t0_1 t0_2 t0_3 t0_4 t0_5 t0_6 t0_7 t0_8 t0_9 t0_10 t0_11 t0_12 t0_13 t0_14 t0_15 t0_16 t0_17 t0_18 t0_19 t0_20 t0_21 t1_0 t2_0 t3_0 a39) else (F_VR_looked_J135 t0_0 t0_1 t0_2 t0_3 t0_4 t0_5 t0_6 t0_7 t0_8 t0_9 t0_10 t0_11 t0_12 t0_13 t0_14 t0_15 t0_16 t0_17 t0_18 t0_19 t0_20 t0_21 t1_0 t2_0 t3_0 a39)) else (F_VR_looked_J135 t0_0 t0_1 t0_2 t0_3 t0_4 t0_5 t0_6 t0_7 t0_8 t0_9 t0_10 t0_11 t0_12 t0_13 t0_14 t0_15 t0_16 t0_17 t0_18 t0_19 t0_20 t0_21 t1_0 t2_0 t3_0 a39)) else (((6 : Int32), t0_14, t0_15, t0_16))
def F_VR_looked (t0_0 : Int32) (t0_1 : Int32) (t0_2 : Int32) (t0_3 : Int32) (t0_4 : Int32) (t0_5 : Int32) (t0_6 : Int32) (t0_7 : Int32) (t0_8 : Int32) (t0_9 : Int32) (t0_10 : Int32) (t0_11 : Int32) (t0_12 : Int32) (t0_13 : Int32) (t0_14 : Int32) (t0_15 : Int32) (t0_16 : Int32) (t0_17 : Int32) (t0_18 : Int32) (t0_19 : Int32) (t0_20 : Int32) (t0_21 : Int32) (t1_0 : (Nat → Int32)) (t2_0 : (Nat → Int32)) (t3_0 : (Nat → Int64)) : Int32 × Int32 × Int32 × Int32 := if t0_13 < (0 : Int32) then (((1 : Int32), t0_14, t0_15, t0_16)) else (if ((F_VR_small t0_0 t0_1 t0_2 t0_3 t0_4 t0_5 t0_6 t0_7 t0_8 t0_9 t0_10 t0_11 t0_12 t0_13 t0_14 t0_15 t0_16 t0_17 t0_18 t0_19 t0_20 t0_21) : Int32) = (0 : Int32) then (((2 : Int32), t0_14, t0_15, t0_16)) else (if t0_10 = (0 : Int32) then (if ((F_VR_small t0_0 t0_1 t0_2 t0_3 t0_4 t0_5 t0_6 t0_7 t0_8 t0_9 t0_10 t0_11 t0_12 t0_13 t0_14 t0_15 t0_16 t0_17 t0_18 t0_19 t0_20 t0_21) : Int32) = (110 : Int32) then (if (0 : Int32) ≤ t0_11 then (((4 : Int32), t0_14, t0_15, t0_16)) else (if (0 : Int32) ≤ t0_12 then (((4 : Int32), t0_14, t0_15, t0_16)) else (if t0_9 = (0 : Int32) then (((0 : Int32), t0_14, t0_15, t0_16)) else (((4 : Int32), t0_14, t0_15, t0_16))))) else (if t0_12 < (0 : Int32) then (F_VR_looked_J100 t0_0 t0_1 t0_2 t0_3 t0_4 t0_5 t0_6 t0_7 t0_8 t0_9 t0_10 t0_11 t0_12 t0_13 t0_14 t0_15 t0_16 t0_17 t0_18 t0_19 t0_20 t0_21 t1_0 t2_0 t3_0 ((F_VR_small t0_0 t0_1 t0_2 t0_3 t0_4 t0_5 t0_6 t0_7 t0_8 t0_9 t0_10 t0_11 t0_12 t0_13 t0_14 t0_15 t0_16 t0_17 t0_18 t0_19 t0_20 t0_21) : Int32)) else (if ((F_VR_small t0_0 t0_1 t0_2 t0_3 t0_4 t0_5 t0_6 t0_7 t0_8 t0_9 t0_10 t0_11 t0_12 t0_13 t0_14 t0_15 t0_16 t0_17 t0_18 t0_19 t0_20 t0_21) : Int32) = (99 : Int32) then (((5 : Int32), t0_14, t0_15, t0_16)) else (if ((F_VR_small t0_0 t0_1 t0_2 t0_3 t0_4 t0_5 t0_6 t0_7 t0_8 t0_9 t0_10 t0_11 t0_12 t0_13 t0_14 t0_15 t0_16 t0_17 t0_18 t0_19 t0_20 t0_21) : Int32) = (37 : Int32) then (((5 : Int32), t0_14, t0_15, t0_16)) else (if ((F_VR_isNumeric ((F_VR_small t0_0 t0_1 t0_2 t0_3 t0_4 t0_5 t0_6 t0_7 t0_8 t0_9 t0_10 t0_11 t0_12 t0_13 t0_14 t0_15 t0_16 t0_17 t0_18 t0_19 t0_20 t0_21) : Int32) t0_0 t0_1 t0_2 t0_3 t0_4 t0_5 t0_6 t0_7 t0_8 t0_9 t0_10 t0_11 t0_12 t0_13 t0_14 t0_15 t0_16 t0_17 t0_18 t0_19 t0_20 t0_21) : Int32) = (0 : Int32) then (F_VR_looked_J100 t0_0 t0_1 t0_2 t0_3 t0_4 t0_5 t0_6 t0_7 t0_8 t0_9 t0_10 t0_11 t0_12 t0_13 t0_14 t0_15 t0_16 t0_17 t0_18 t0_19 t0_20 t0_21 t1_0 t2_0 t3_0 ((F_VR_small t0_0 t0_1 t0_2 t0_3 t0_4 t0_5 t0_6 t0_7 t0_8 t0_9 t0_10 t0_11 t0_12 t0_13 t0_14 t0_15 t0_16 t0_17 t0_18 t0_19 t0_20 t0_21) : Int32)) else (((5 : Int32), t0_14, t0_15, t0_16))))))) else (((3 : Int32), t0_14, t0_15, t0_16))))
set_option maxRecDepth 100000 in
set_option maxHeartbeats 4000000 in
theorem X_VR_looked (l : Launch) (D : va_G) (g : Nat → ClassId) (q : Nat → Nat) (ws : va_W) (hI : q_I (msh g q) q ws) (t0_0 : Int32) (t0_1 : Int32) (t0_2 : Int32) (t0_3 : Int32) (t0_4 : Int32) (t0_5 : Int32) (t0_6 : Int32) (t0_7 : Int32) (t0_8 : Int32) (t0_9 : Int32) (t0_10 : Int32) (t0_11 : Int32) (t0_12 : Int32) (t0_13 : Int32) (t0_14 : Int32) (t0_15 : Int32) (t0_16 : Int32) (t0_17 : Int32) (t0_18 : Int32) (t0_19 : Int32) (t0_20 : Int32) (t0_21 : Int32) (hT0 : ws[157]? = (some (q 157, .inr (17, [.int t0_0, .ref (q 158), .int t0_1, .int t0_2, .ref (q 159), .ref (q 160), .ref (q 161), .ref (q 162), .ref (q 163), .int t0_3, .ref (q 164), .int t0_4, .int t0_5, .int t0_6, .int t0_7, .int t0_8, .int t0_9, .int t0_10, .int t0_11, .int t0_12, .int t0_13, .int t0_14, .int t0_15, .int t0_16, .ref (q 165), .int t0_17, .int t0_18, .int t0_19, .ref (q 166), .int t0_20, .int t0_21])) : Option (Nat × va_E))) (t1_0 : (Nat → Int32)) (hT1 : ws[159]? = (some (q 159, .inl (g 0, (9 : Int32).toNatClampNeg, .inl t1_0)) : Option (Nat × va_E))) (t2_0 : (Nat → Int32)) (hT2 : ws[160]? = (some (q 160, .inl (g 0, (9 : Int32).toNatClampNeg, .inl t2_0)) : Option (Nat × va_E))) (t3_0 : (Nat → Int64)) (hT3 : ws[161]? = (some (q 161, .inl (g 1, 9, .inr (.inl t3_0))) : Option (Nat × va_E))) : q_mI l y_VR_looked prog_16_method_22_code 2 (.int) 4 0 0 D g [.ref (q 157)] ws (fun r u => q_I (msh g q) q u ∧ q_un ws u [157] ∧ ∃ (u0_14 : Int32) (u0_15 : Int32) (u0_16 : Int32), u[157]? = (some (q 157, .inr (17, [.int t0_0, .ref (q 158), .int t0_1, .int t0_2, .ref (q 159), .ref (q 160), .ref (q 161), .ref (q 162), .ref (q 163), .int t0_3, .ref (q 164), .int t0_4, .int t0_5, .int t0_6, .int t0_7, .int t0_8, .int t0_9, .int t0_10, .int t0_11, .int t0_12, .int t0_13, .int u0_14, .int u0_15, .int u0_16, .ref (q 165), .int t0_17, .int t0_18, .int t0_19, .ref (q 166), .int t0_20, .int t0_21])) : Option (Nat × va_E)) ∧ (r.toInt ≤ 11) ∧ (r.toInt ≤ t0_2.toInt + 10) ∧ (t0_10.toInt ≤ r.toInt) ∧ (r, u0_14, u0_15, u0_16) = (F_VR_looked t0_0 t0_1 t0_2 t0_3 t0_4 t0_5 t0_6 t0_7 t0_8 t0_9 t0_10 t0_11 t0_12 t0_13 t0_14 t0_15 t0_16 t0_17 t0_18 t0_19 t0_20 t0_21 t1_0 t2_0 t3_0)) := by
  intro sz
  refine q_into (by decide) (Nat.le_of_ble_eq_true rfl) ?_
  intro p e s m below meth c ls hsz C0 V hl
  have hx := C0.1
  have hb := C0.2.1
  have hZ9 := (n_w157 hI hT0).2
  obtain ⟨btt0_2, hZ9⟩ := hZ9
  replace hZ9 := hZ9.2
  obtain ⟨btt0_10, -⟩ := hZ9
  replace btt0_2 : q_F (0 ≤ t0_2.toInt ∧ t0_2.toInt ≤ 9) := btt0_2
  replace btt0_10 : q_F (0 ≤ t0_10.toInt ∧ t0_10.toInt ≤ 1) := btt0_10
  have hF : q_un ws ws [157] := q_u0
  have hl : lv_has ls 2 [(0, .ref (q 157))] := hl
  refine lv_aload_n hx hb d_16_22_0 rfl (lv_at hl 0 rfl) ?_
  refine q_goi V (q_runV (As := []) (rest := []) (d := 1) (mc := 0) (ms := 0) (ci := 17) C0 V rfl LV_VR_98 (X_VR_small l D g q ws   hI t0_0 t0_1 t0_2 t0_3 t0_4 t0_5 t0_6 t0_7 t0_8 t0_9 t0_10 t0_11 t0_12 t0_13 t0_14 t0_15 t0_16 t0_17 t0_18 t0_19 t0_20 t0_21 hT0  _) rfl rfl hT0 rfl hl.1 rfl (Nat.le_of_ble_eq_true rfl) ⟨by decide, by decide⟩ ⟨Nat.le_of_ble_eq_true rfl, Nat.le_of_ble_eq_true rfl⟩ d_16_22_1) (fun a39 u37 H locs hp38 V => ?_)
  obtain ⟨rfl, b40, b41, hE42⟩ := hp38
  have e43 : a39 = (F_VR_small t0_0 t0_1 t0_2 t0_3 t0_4 t0_5 t0_6 t0_7 t0_8 t0_9 t0_10 t0_11 t0_12 t0_13 t0_14 t0_15 t0_16 t0_17 t0_18 t0_19 t0_20 t0_21) := hE42
  clear b40
  clear b41
  refine lv_istore_n (lv' := [(1, .int a39), (0, .ref (q 157))]) hx hb d_16_22_4 rfl hl (by decide) rfl (fun ls hl => ?_)
  refine lv_aload_n hx hb d_16_22_5 rfl (lv_at hl 1 rfl) ?_
  refine q_get (ci := 17) (j := 20) (v := .int t0_13) C0 V i_VR rfl rfl hT0 (by decide) w_2224 rfl d_16_22_6 ?_
  refine lv_if_lt (tgt := 16) hx hb d_16_22_9 (by decide) (fun c44 => ?_) (fun c44 => ?_)
  ·
    have b45 : q_F (t0_13.toInt < 0) := (q_ltI c44)
    refine lv_aload_n hx hb d_16_22_16 rfl (lv_at hl 1 rfl) ?_
    refine q_get (ci := 17) (j := 20) (v := .int t0_13) C0 V i_VR rfl rfl hT0 (by decide) w_2224 rfl d_16_22_17 ?_
    refine lv_if_ge (tgt := 27) hx hb d_16_22_20 (by decide) (fun c46 => absurd (show 0 ≤ t0_13.toInt from q_leI c46) (by first | with_reducible exact q_fe b45 | (have t1 : t0_13.toInt < 0 := b45; omega))) (fun c46 => ?_)
    refine lv_iconst (v := 1) hx hb d_16_22_23 (by decide) ?_
    refine lv_goto (tgt := 28) hx hb d_16_22_24 (by decide) ?_
    exact q_reti C0 V (⟨hI, hF, t0_14, t0_15, t0_16, hT0, (show (1 : Int32).toInt ≤ 11 from (by have z25 : (1 : Int32).toInt = 1 := rfl; omega)), (show (1 : Int32).toInt ≤ t0_2.toInt + 10 from (by have z25 : (1 : Int32).toInt = 1 := rfl; have t1 : 0 ≤ t0_2.toInt ∧ t0_2.toInt ≤ 9 := btt0_2; omega)), (show t0_10.toInt ≤ (1 : Int32).toInt from (by have z25 : (1 : Int32).toInt = 1 := rfl; have t1 : 0 ≤ t0_10.toInt ∧ t0_10.toInt ≤ 1 := btt0_10; omega)), (show ((1 : Int32), t0_14, t0_15, t0_16) = (F_VR_looked t0_0 t0_1 t0_2 t0_3 t0_4 t0_5 t0_6 t0_7 t0_8 t0_9 t0_10 t0_11 t0_12 t0_13 t0_14 t0_15 t0_16 t0_17 t0_18 t0_19 t0_20 t0_21 t1_0 t2_0 t3_0) from (by rw [F_VR_looked.eq_1, if_pos c44]))⟩) d_16_22_28
  ·
    have b47 : q_F (0 ≤ t0_13.toInt) := (q_nltI c44)
    refine lv_iload_n hx hb d_16_22_12 rfl (lv_at hl 0 rfl) ?_
    refine lv_if_ne (tgt := 29) hx hb d_16_22_13 (by decide) (fun c48 => ?_) (fun c48 => ?_)
    ·
      refine lv_aload_n hx hb d_16_22_29 rfl (lv_at hl 1 rfl) ?_
      refine q_get (ci := 17) (j := 17) (v := .int t0_10) C0 V i_VR rfl rfl hT0 (by decide) w_2221 rfl d_16_22_30 ?_
      refine lv_if_eq (tgt := 38) hx hb d_16_22_33 (by decide) (fun c50 => ?_) (fun c50 => ?_)
      ·
        have b51 : q_F (t0_10.toInt = 0) := (q_eqI c50)
        refine lv_iload_n hx hb d_16_22_38 rfl (lv_at hl 0 rfl) ?_
        refine lv_bipush (v := 110) hx hb d_16_22_39 (by decide) ?_
        refine lv_icmp_ne (tgt := 71) hx hb d_16_22_41 (by decide) (fun c52 => ?_) (fun c52 => ?_)
        ·
          refine lv_aload_n hx hb d_16_22_71 rfl (lv_at hl 1 rfl) ?_
          refine q_get (ci := 17) (j := 19) (v := .int t0_12) C0 V i_VR rfl rfl hT0 (by decide) w_2223 rfl d_16_22_72 ?_
          refine q_join (X := Unit) (fun z H locs ls _ => q_Wd D g (va_A ws sz) s ws H locs ∧ lv_has ls 2 [(1, .int a39), (0, .ref (q 157))] ∧ F_VR_looked_J100 t0_0 t0_1 t0_2 t0_3 t0_4 t0_5 t0_6 t0_7 t0_8 t0_9 t0_10 t0_11 t0_12 t0_13 t0_14 t0_15 t0_16 t0_17 t0_18 t0_19 t0_20 t0_21 t1_0 t2_0 t3_0 a39 = (F_VR_looked t0_0 t0_1 t0_2 t0_3 t0_4 t0_5 t0_6 t0_7 t0_8 t0_9 t0_10 t0_11 t0_12 t0_13 t0_14 t0_15 t0_16 t0_17 t0_18 t0_19 t0_20 t0_21 t1_0 t2_0 t3_0)) (fun z => []) 100 0 0 ?_ ?_
          ·
            rintro _ H locs ls _ ⟨V, hl, hR59⟩
            replace hl : lv_has ls 2 [(1, .int a39), (0, .ref (q 157))] := hl
            refine lv_aload_n hx hb d_16_22_100 rfl (lv_at hl 1 rfl) ?_
            refine q_get (ci := 17) (j := 16) (v := .int t0_9) C0 V i_VR rfl rfl hT0 (by decide) w_2220 rfl d_16_22_101 ?_
            refine lv_iload_n hx hb d_16_22_104 rfl (lv_at hl 0 rfl) ?_
            refine q_goi V (q_runS (As := [.int a39]) (rest := [.int t0_9]) (d := 1) (mc := 0) (ms := 0) C0 V rfl LS_VR_104 (X_VR_allowed l D g q ws  a39 hI   _) rfl hl.1 rfl (Nat.le_of_ble_eq_true rfl) ⟨by decide, by decide⟩ ⟨Nat.le_of_ble_eq_true rfl, Nat.le_of_ble_eq_true rfl⟩ d_16_22_105) (fun a66 u64 H locs hp65 V => ?_)
            obtain ⟨rfl, b67, b68, hE69⟩ := hp65
            have e70 : a66 = (F_VR_allowed a39) := hE69
            clear b67
            clear b68
            refine lv_iconst (v := (-1)) hx hb d_16_22_108 (by decide) ?_
            refine lv_ixor hx hb d_16_22_109 ?_
            obtain ⟨a71, e72⟩ := q_nm (a66 ^^^ (-1) : Int32)
            refine q_ti (v := a71) e72 ?_
            refine lv_iand hx hb d_16_22_110 ?_
            obtain ⟨a73, e74⟩ := q_nm (t0_9 &&& a71 : Int32)
            refine q_ti (v := a73) e74 ?_
            refine lv_if_eq (tgt := 117) hx hb d_16_22_111 (by decide) (fun c75 => ?_) (fun c75 => ?_)
            ·
              refine lv_aload_n hx hb d_16_22_117 rfl (lv_at hl 1 rfl) ?_
              refine lv_bipush (v := 45) hx hb d_16_22_118 (by decide) ?_
              refine q_goi V (q_runV (As := [.int 45]) (rest := []) (d := 2) (mc := 0) (ms := 0) (ci := 17) C0 V rfl LV_VR_91 (X_VR_has l D g q ws  45 hI t0_0 t0_1 t0_2 t0_3 t0_4 t0_5 t0_6 t0_7 t0_8 t0_9 t0_10 t0_11 t0_12 t0_13 t0_14 t0_15 t0_16 t0_17 t0_18 t0_19 t0_20 t0_21 hT0  _) rfl rfl hT0 rfl hl.1 rfl (Nat.le_of_ble_eq_true rfl) ⟨by decide, by decide⟩ ⟨Nat.le_of_ble_eq_true rfl, Nat.le_of_ble_eq_true rfl⟩ d_16_22_120) (fun a79 u77 H locs hp78 V => ?_)
              obtain ⟨rfl, b80, b81, hE82⟩ := hp78
              have e83 : a79 = (F_VR_has (45 : Int32) t0_0 t0_1 t0_2 t0_3 t0_4 t0_5 t0_6 t0_7 t0_8 t0_9 t0_10 t0_11 t0_12 t0_13 t0_14 t0_15 t0_16 t0_17 t0_18 t0_19 t0_20 t0_21) := hE82
              clear b80
              clear b81
              refine q_join (X := Unit) (fun z H locs ls _ => q_Wd D g (va_A ws sz) s ws H locs ∧ lv_has ls 2 [(1, .int a39), (0, .ref (q 157))] ∧ F_VR_looked_J145 t0_0 t0_1 t0_2 t0_3 t0_4 t0_5 t0_6 t0_7 t0_8 t0_9 t0_10 t0_11 t0_12 t0_13 t0_14 t0_15 t0_16 t0_17 t0_18 t0_19 t0_20 t0_21 t1_0 t2_0 t3_0 a39 = (F_VR_looked t0_0 t0_1 t0_2 t0_3 t0_4 t0_5 t0_6 t0_7 t0_8 t0_9 t0_10 t0_11 t0_12 t0_13 t0_14 t0_15 t0_16 t0_17 t0_18 t0_19 t0_20 t0_21 t1_0 t2_0 t3_0)) (fun z => []) 145 0 0 ?_ ?_
              ·
                rintro _ H locs ls _ ⟨V, hl, hR89⟩
                replace hl : lv_has ls 2 [(1, .int a39), (0, .ref (q 157))] := hl
                refine lv_aload_n hx hb d_16_22_145 rfl (lv_at hl 1 rfl) ?_
                refine lv_bipush (v := 45) hx hb d_16_22_146 (by decide) ?_
                refine q_goi V (q_runV (As := [.int 45]) (rest := []) (d := 2) (mc := 0) (ms := 0) (ci := 17) C0 V rfl LV_VR_91 (X_VR_has l D g q ws  45 hI t0_0 t0_1 t0_2 t0_3 t0_4 t0_5 t0_6 t0_7 t0_8 t0_9 t0_10 t0_11 t0_12 t0_13 t0_14 t0_15 t0_16 t0_17 t0_18 t0_19 t0_20 t0_21 hT0  _) rfl rfl hT0 rfl hl.1 rfl (Nat.le_of_ble_eq_true rfl) ⟨by decide, by decide⟩ ⟨Nat.le_of_ble_eq_true rfl, Nat.le_of_ble_eq_true rfl⟩ d_16_22_148) (fun a96 u94 H locs hp95 V => ?_)
                obtain ⟨rfl, b97, b98, hE99⟩ := hp95
                have e100 : a96 = (F_VR_has (45 : Int32) t0_0 t0_1 t0_2 t0_3 t0_4 t0_5 t0_6 t0_7 t0_8 t0_9 t0_10 t0_11 t0_12 t0_13 t0_14 t0_15 t0_16 t0_17 t0_18 t0_19 t0_20 t0_21) := hE99
                clear b97
                clear b98
                obtain rfl : a79 = a96 := e83.trans e100.symm
                refine q_join (X := Unit) (fun z H locs ls _ => q_Wd D g (va_A ws sz) s ws H locs ∧ lv_has ls 2 [(1, .int a39), (0, .ref (q 157))] ∧ F_VR_looked_J163 t0_0 t0_1 t0_2 t0_3 t0_4 t0_5 t0_6 t0_7 t0_8 t0_9 t0_10 t0_11 t0_12 t0_13 t0_14 t0_15 t0_16 t0_17 t0_18 t0_19 t0_20 t0_21 t1_0 t2_0 t3_0 a39 = (F_VR_looked t0_0 t0_1 t0_2 t0_3 t0_4 t0_5 t0_6 t0_7 t0_8 t0_9 t0_10 t0_11 t0_12 t0_13 t0_14 t0_15 t0_16 t0_17 t0_18 t0_19 t0_20 t0_21 t1_0 t2_0 t3_0)) (fun z => []) 163 0 0 ?_ ?_
                ·
                  rintro _ H locs ls _ ⟨V, hl, hR106⟩
                  replace hl : lv_has ls 2 [(1, .int a39), (0, .ref (q 157))] := hl
                  refine lv_aload_n hx hb d_16_22_163 rfl (lv_at hl 1 rfl) ?_
                  refine lv_bipush (v := 43) hx hb d_16_22_164 (by decide) ?_
                  refine q_goi V (q_runV (As := [.int 43]) (rest := []) (d := 2) (mc := 0) (ms := 0) (ci := 17) C0 V rfl LV_VR_91 (X_VR_has l D g q ws  43 hI t0_0 t0_1 t0_2 t0_3 t0_4 t0_5 t0_6 t0_7 t0_8 t0_9 t0_10 t0_11 t0_12 t0_13 t0_14 t0_15 t0_16 t0_17 t0_18 t0_19 t0_20 t0_21 hT0  _) rfl rfl hT0 rfl hl.1 rfl (Nat.le_of_ble_eq_true rfl) ⟨by decide, by decide⟩ ⟨Nat.le_of_ble_eq_true rfl, Nat.le_of_ble_eq_true rfl⟩ d_16_22_166) (fun a113 u111 H locs hp112 V => ?_)
                  obtain ⟨rfl, b114, b115, hE116⟩ := hp112
                  have e117 : a113 = (F_VR_has (43 : Int32) t0_0 t0_1 t0_2 t0_3 t0_4 t0_5 t0_6 t0_7 t0_8 t0_9 t0_10 t0_11 t0_12 t0_13 t0_14 t0_15 t0_16 t0_17 t0_18 t0_19 t0_20 t0_21) := hE116
                  clear b114
                  clear b115
                  refine lv_if_eq (tgt := 184) hx hb d_16_22_169 (by decide) (fun c118 => ?_) (fun c118 => ?_)
                  ·
                    refine lv_iload_n hx hb d_16_22_184 rfl (lv_at hl 0 rfl) ?_
                    refine lv_bipush (v := 37) hx hb d_16_22_185 (by decide) ?_
                    refine lv_icmp_ne (tgt := 194) hx hb d_16_22_187 (by decide) (fun c120 => ?_) (fun c120 => ?_)
                    ·
                      refine lv_aload_n hx hb d_16_22_194 rfl (lv_at hl 1 rfl) ?_
                      refine lv_iload_n hx hb d_16_22_195 rfl (lv_at hl 0 rfl) ?_
                      refine q_goi V (q_runV (As := [.int a39]) (rest := []) (d := 3) (mc := 0) (ms := 0) (ci := 17) C0 V rfl LV_VR_107 (X_VR_chosen l D g q ws  a39 hI t0_0 t0_1 t0_2 t0_3 t0_4 t0_5 t0_6 t0_7 t0_8 t0_9 t0_10 t0_11 t0_12 t0_13 t0_14 t0_15 t0_16 t0_17 t0_18 t0_19 t0_20 t0_21 hT0 t1_0 hT1 t2_0 hT2 t3_0 hT3  _) rfl rfl hT0 rfl hl.1 rfl (Nat.le_of_ble_eq_true rfl) ⟨by decide, by decide⟩ ⟨Nat.le_of_ble_eq_true rfl, Nat.le_of_ble_eq_true rfl⟩ d_16_22_196) (fun a124 u122 H locs hp123 V => ?_)
                      obtain ⟨hI, hZ9⟩ := hp123
                      obtain ⟨hu133, hZ9⟩ := hZ9
                      obtain ⟨y126, hZ9⟩ := hZ9
                      obtain ⟨y127, hZ9⟩ := hZ9
                      obtain ⟨y128, hZ9⟩ := hZ9
                      obtain ⟨hO125, hZ9⟩ := hZ9
                      obtain ⟨b129, hZ9⟩ := hZ9
                      obtain ⟨b130, hZ9⟩ := hZ9
                      obtain ⟨b131, hE132⟩ := hZ9
                      replace hO125 : u122[157]? = (some (q 157, .inr (17, [.int t0_0, .ref (q 158), .int t0_1, .int t0_2, .ref (q 159), .ref (q 160), .ref (q 161), .ref (q 162), .ref (q 163), .int t0_3, .ref (q 164), .int t0_4, .int t0_5, .int t0_6, .int t0_7, .int t0_8, .int t0_9, .int t0_10, .int t0_11, .int t0_12, .int t0_13, .int y126, .int y127, .int y128, .ref (q 165), .int t0_17, .int t0_18, .int t0_19, .ref (q 166), .int t0_20, .int t0_21])) : Option (Nat × va_E)) := hO125
                      obtain ⟨p134, e135⟩ : ∃ z, z = (F_VR_chosen a39 t0_0 t0_1 t0_2 t0_3 t0_4 t0_5 t0_6 t0_7 t0_8 t0_9 t0_10 t0_11 t0_12 t0_13 t0_14 t0_15 t0_16 t0_17 t0_18 t0_19 t0_20 t0_21 t1_0 t2_0 t3_0) := ⟨_, rfl⟩
                      have e136 : a124 = p134.1 := congrArg (fun z => z.1) (hE132.trans e135.symm)
                      have e137 : y126 = p134.2.1 := congrArg (fun z => z.2.1) (hE132.trans e135.symm)
                      have e138 : y127 = p134.2.2.1 := congrArg (fun z => z.2.2.1) (hE132.trans e135.symm)
                      have e139 : y128 = p134.2.2.2 := congrArg (fun z => z.2.2.2) (hE132.trans e135.symm)
                      replace b129 : q_F (0 ≤ a124.toInt) := b129
                      replace b130 : q_F (a124.toInt ≤ 11) := b130
                      replace b131 : q_F (a124.toInt ≤ t0_2.toInt + 10) := b131
                      replace hF := q_uc hF hu133 (by simp)
                      have hR140 := (show F_VR_looked_c196 t0_0 t0_1 t0_2 t0_3 t0_4 t0_5 t0_6 t0_7 t0_8 t0_9 t0_10 t0_11 t0_12 t0_13 t0_14 t0_15 t0_16 t0_17 t0_18 t0_19 t0_20 t0_21 t1_0 t2_0 t3_0 a39 p134 = (F_VR_looked t0_0 t0_1 t0_2 t0_3 t0_4 t0_5 t0_6 t0_7 t0_8 t0_9 t0_10 t0_11 t0_12 t0_13 t0_14 t0_15 t0_16 t0_17 t0_18 t0_19 t0_20 t0_21 t1_0 t2_0 t3_0) from Eq.trans (by have c118x := c118; rw [e117] at c118x; rw [e135, F_VR_looked_J163.eq_1, if_pos c118x, if_neg c120]) hR106)
                      exact q_reti C0 V (⟨hI, hF, y126, y127, y128, hO125, (show a124.toInt ≤ 11 from (by first | with_reducible exact q_fe b130 | (have t1 : a124.toInt ≤ 11 := b130; omega))), (show a124.toInt ≤ t0_2.toInt + 10 from (by first | with_reducible exact q_fe b131 | (have t1 : a124.toInt ≤ t0_2.toInt + 10 := b131; omega))), (show t0_10.toInt ≤ a124.toInt from (by have t1 : t0_10.toInt = 0 := b51; have t2 : 0 ≤ a124.toInt := b129; omega)), (show (a124, y126, y127, y128) = (F_VR_looked t0_0 t0_1 t0_2 t0_3 t0_4 t0_5 t0_6 t0_7 t0_8 t0_9 t0_10 t0_11 t0_12 t0_13 t0_14 t0_15 t0_16 t0_17 t0_18 t0_19 t0_20 t0_21 t1_0 t2_0 t3_0) from Eq.trans (by rw [e139, e138, e137, e136, F_VR_looked_c196.eq_1]) hR140)⟩) d_16_22_199
                    ·
                      refine lv_iconst (v := 0) hx hb d_16_22_190 (by decide) ?_
                      refine lv_goto (tgt := 199) hx hb d_16_22_191 (by decide) ?_
                      exact q_reti C0 V (⟨hI, hF, t0_14, t0_15, t0_16, hT0, (show (0 : Int32).toInt ≤ 11 from (by have z25 : (0 : Int32).toInt = 0 := rfl; omega)), (show (0 : Int32).toInt ≤ t0_2.toInt + 10 from (by have z25 : (0 : Int32).toInt = 0 := rfl; have t1 : 0 ≤ t0_2.toInt ∧ t0_2.toInt ≤ 9 := btt0_2; omega)), (show t0_10.toInt ≤ (0 : Int32).toInt from (by have z25 : (0 : Int32).toInt = 0 := rfl; have t1 : t0_10.toInt = 0 := b51; omega)), (show ((0 : Int32), t0_14, t0_15, t0_16) = (F_VR_looked t0_0 t0_1 t0_2 t0_3 t0_4 t0_5 t0_6 t0_7 t0_8 t0_9 t0_10 t0_11 t0_12 t0_13 t0_14 t0_15 t0_16 t0_17 t0_18 t0_19 t0_20 t0_21 t1_0 t2_0 t3_0) from Eq.trans (by have c118x := c118; rw [e117] at c118x; rw [F_VR_looked_J163.eq_1, if_pos c118x, if_pos c120]) hR106)⟩) d_16_22_199
                  ·
                    refine lv_aload_n hx hb d_16_22_172 rfl (lv_at hl 1 rfl) ?_
                    refine lv_bipush (v := 32) hx hb d_16_22_173 (by decide) ?_
                    refine q_goi V (q_runV (As := [.int 32]) (rest := []) (d := 2) (mc := 0) (ms := 0) (ci := 17) C0 V rfl LV_VR_91 (X_VR_has l D g q ws  32 hI t0_0 t0_1 t0_2 t0_3 t0_4 t0_5 t0_6 t0_7 t0_8 t0_9 t0_10 t0_11 t0_12 t0_13 t0_14 t0_15 t0_16 t0_17 t0_18 t0_19 t0_20 t0_21 hT0  _) rfl rfl hT0 rfl hl.1 rfl (Nat.le_of_ble_eq_true rfl) ⟨by decide, by decide⟩ ⟨Nat.le_of_ble_eq_true rfl, Nat.le_of_ble_eq_true rfl⟩ d_16_22_175) (fun a149 u147 H locs hp148 V => ?_)
                    obtain ⟨rfl, b150, b151, hE152⟩ := hp148
                    have e153 : a149 = (F_VR_has (32 : Int32) t0_0 t0_1 t0_2 t0_3 t0_4 t0_5 t0_6 t0_7 t0_8 t0_9 t0_10 t0_11 t0_12 t0_13 t0_14 t0_15 t0_16 t0_17 t0_18 t0_19 t0_20 t0_21) := hE152
                    clear b150
                    clear b151
                    refine lv_if_eq (tgt := 184) hx hb d_16_22_178 (by decide) (fun c154 => ?_) (fun c154 => ?_)
                    ·
                      refine lv_iload_n hx hb d_16_22_184 rfl (lv_at hl 0 rfl) ?_
                      refine lv_bipush (v := 37) hx hb d_16_22_185 (by decide) ?_
                      refine lv_icmp_ne (tgt := 194) hx hb d_16_22_187 (by decide) (fun c156 => ?_) (fun c156 => ?_)
                      ·
                        refine lv_aload_n hx hb d_16_22_194 rfl (lv_at hl 1 rfl) ?_
                        refine lv_iload_n hx hb d_16_22_195 rfl (lv_at hl 0 rfl) ?_
                        refine q_goi V (q_runV (As := [.int a39]) (rest := []) (d := 3) (mc := 0) (ms := 0) (ci := 17) C0 V rfl LV_VR_107 (X_VR_chosen l D g q ws  a39 hI t0_0 t0_1 t0_2 t0_3 t0_4 t0_5 t0_6 t0_7 t0_8 t0_9 t0_10 t0_11 t0_12 t0_13 t0_14 t0_15 t0_16 t0_17 t0_18 t0_19 t0_20 t0_21 hT0 t1_0 hT1 t2_0 hT2 t3_0 hT3  _) rfl rfl hT0 rfl hl.1 rfl (Nat.le_of_ble_eq_true rfl) ⟨by decide, by decide⟩ ⟨Nat.le_of_ble_eq_true rfl, Nat.le_of_ble_eq_true rfl⟩ d_16_22_196) (fun a160 u158 H locs hp159 V => ?_)
                        obtain ⟨hI, hZ9⟩ := hp159
                        obtain ⟨hu169, hZ9⟩ := hZ9
                        obtain ⟨y162, hZ9⟩ := hZ9
                        obtain ⟨y163, hZ9⟩ := hZ9
                        obtain ⟨y164, hZ9⟩ := hZ9
                        obtain ⟨hO161, hZ9⟩ := hZ9
                        obtain ⟨b165, hZ9⟩ := hZ9
                        obtain ⟨b166, hZ9⟩ := hZ9
                        obtain ⟨b167, hE168⟩ := hZ9
                        replace hO161 : u158[157]? = (some (q 157, .inr (17, [.int t0_0, .ref (q 158), .int t0_1, .int t0_2, .ref (q 159), .ref (q 160), .ref (q 161), .ref (q 162), .ref (q 163), .int t0_3, .ref (q 164), .int t0_4, .int t0_5, .int t0_6, .int t0_7, .int t0_8, .int t0_9, .int t0_10, .int t0_11, .int t0_12, .int t0_13, .int y162, .int y163, .int y164, .ref (q 165), .int t0_17, .int t0_18, .int t0_19, .ref (q 166), .int t0_20, .int t0_21])) : Option (Nat × va_E)) := hO161
                        obtain ⟨p170, e171⟩ : ∃ z, z = (F_VR_chosen a39 t0_0 t0_1 t0_2 t0_3 t0_4 t0_5 t0_6 t0_7 t0_8 t0_9 t0_10 t0_11 t0_12 t0_13 t0_14 t0_15 t0_16 t0_17 t0_18 t0_19 t0_20 t0_21 t1_0 t2_0 t3_0) := ⟨_, rfl⟩
                        have e172 : a160 = p170.1 := congrArg (fun z => z.1) (hE168.trans e171.symm)
                        have e173 : y162 = p170.2.1 := congrArg (fun z => z.2.1) (hE168.trans e171.symm)
                        have e174 : y163 = p170.2.2.1 := congrArg (fun z => z.2.2.1) (hE168.trans e171.symm)
                        have e175 : y164 = p170.2.2.2 := congrArg (fun z => z.2.2.2) (hE168.trans e171.symm)
                        replace b165 : q_F (0 ≤ a160.toInt) := b165
                        replace b166 : q_F (a160.toInt ≤ 11) := b166
                        replace b167 : q_F (a160.toInt ≤ t0_2.toInt + 10) := b167
                        replace hF := q_uc hF hu169 (by simp)
                        have hR176 := (show F_VR_looked_c196_5 t0_0 t0_1 t0_2 t0_3 t0_4 t0_5 t0_6 t0_7 t0_8 t0_9 t0_10 t0_11 t0_12 t0_13 t0_14 t0_15 t0_16 t0_17 t0_18 t0_19 t0_20 t0_21 t1_0 t2_0 t3_0 a39 p170 = (F_VR_looked t0_0 t0_1 t0_2 t0_3 t0_4 t0_5 t0_6 t0_7 t0_8 t0_9 t0_10 t0_11 t0_12 t0_13 t0_14 t0_15 t0_16 t0_17 t0_18 t0_19 t0_20 t0_21 t1_0 t2_0 t3_0) from Eq.trans (by have c118x := c118; rw [e117] at c118x; have c154x := c154; rw [e153] at c154x; rw [e171, F_VR_looked_J163.eq_1, if_neg c118x, if_pos c154x, if_neg c156]) hR106)
                        exact q_reti C0 V (⟨hI, hF, y162, y163, y164, hO161, (show a160.toInt ≤ 11 from (by first | with_reducible exact q_fe b166 | (have t1 : a160.toInt ≤ 11 := b166; omega))), (show a160.toInt ≤ t0_2.toInt + 10 from (by first | with_reducible exact q_fe b167 | (have t1 : a160.toInt ≤ t0_2.toInt + 10 := b167; omega))), (show t0_10.toInt ≤ a160.toInt from (by have t1 : t0_10.toInt = 0 := b51; have t2 : 0 ≤ a160.toInt := b165; omega)), (show (a160, y162, y163, y164) = (F_VR_looked t0_0 t0_1 t0_2 t0_3 t0_4 t0_5 t0_6 t0_7 t0_8 t0_9 t0_10 t0_11 t0_12 t0_13 t0_14 t0_15 t0_16 t0_17 t0_18 t0_19 t0_20 t0_21 t1_0 t2_0 t3_0) from Eq.trans (by rw [e175, e174, e173, e172, F_VR_looked_c196_5.eq_1]) hR176)⟩) d_16_22_199
                      ·
                        refine lv_iconst (v := 0) hx hb d_16_22_190 (by decide) ?_
                        refine lv_goto (tgt := 199) hx hb d_16_22_191 (by decide) ?_
                        exact q_reti C0 V (⟨hI, hF, t0_14, t0_15, t0_16, hT0, (show (0 : Int32).toInt ≤ 11 from (by have z25 : (0 : Int32).toInt = 0 := rfl; omega)), (show (0 : Int32).toInt ≤ t0_2.toInt + 10 from (by have z25 : (0 : Int32).toInt = 0 := rfl; have t1 : 0 ≤ t0_2.toInt ∧ t0_2.toInt ≤ 9 := btt0_2; omega)), (show t0_10.toInt ≤ (0 : Int32).toInt from (by have z25 : (0 : Int32).toInt = 0 := rfl; have t1 : t0_10.toInt = 0 := b51; omega)), (show ((0 : Int32), t0_14, t0_15, t0_16) = (F_VR_looked t0_0 t0_1 t0_2 t0_3 t0_4 t0_5 t0_6 t0_7 t0_8 t0_9 t0_10 t0_11 t0_12 t0_13 t0_14 t0_15 t0_16 t0_17 t0_18 t0_19 t0_20 t0_21 t1_0 t2_0 t3_0) from Eq.trans (by have c118x := c118; rw [e117] at c118x; have c154x := c154; rw [e153] at c154x; rw [F_VR_looked_J163.eq_1, if_neg c118x, if_pos c154x, if_pos c156]) hR106)⟩) d_16_22_199
                    ·
                      refine lv_bipush (v := 8) hx hb d_16_22_181 (by decide) ?_
                      exact q_reti C0 V (⟨hI, hF, t0_14, t0_15, t0_16, hT0, (show (8 : Int32).toInt ≤ 11 from (by have z25 : (8 : Int32).toInt = 8 := rfl; omega)), (show (8 : Int32).toInt ≤ t0_2.toInt + 10 from (by have z25 : (8 : Int32).toInt = 8 := rfl; have t1 : 0 ≤ t0_2.toInt ∧ t0_2.toInt ≤ 9 := btt0_2; omega)), (show t0_10.toInt ≤ (8 : Int32).toInt from (by have z25 : (8 : Int32).toInt = 8 := rfl; have t1 : 0 ≤ t0_10.toInt ∧ t0_10.toInt ≤ 1 := btt0_10; omega)), (show ((8 : Int32), t0_14, t0_15, t0_16) = (F_VR_looked t0_0 t0_1 t0_2 t0_3 t0_4 t0_5 t0_6 t0_7 t0_8 t0_9 t0_10 t0_11 t0_12 t0_13 t0_14 t0_15 t0_16 t0_17 t0_18 t0_19 t0_20 t0_21 t1_0 t2_0 t3_0) from Eq.trans (by have c118x := c118; rw [e117] at c118x; have c154x := c154; rw [e153] at c154x; rw [F_VR_looked_J163.eq_1, if_neg c118x, if_neg c154x]) hR106)⟩) d_16_22_183
                ·
                  intro J105
                  refine lv_if_eq (tgt := 163) hx hb d_16_22_151 (by decide) (fun c183 => ?_) (fun c183 => ?_)
                  ·
                    exact J105 (()) _ _ _ ws ⟨V, q_lw hl (q_lw1 0 rfl (q_lw1 1 rfl q_lw0)), (show F_VR_looked_J163 t0_0 t0_1 t0_2 t0_3 t0_4 t0_5 t0_6 t0_7 t0_8 t0_9 t0_10 t0_11 t0_12 t0_13 t0_14 t0_15 t0_16 t0_17 t0_18 t0_19 t0_20 t0_21 t1_0 t2_0 t3_0 a39 = (F_VR_looked t0_0 t0_1 t0_2 t0_3 t0_4 t0_5 t0_6 t0_7 t0_8 t0_9 t0_10 t0_11 t0_12 t0_13 t0_14 t0_15 t0_16 t0_17 t0_18 t0_19 t0_20 t0_21 t1_0 t2_0 t3_0) from Eq.trans (by have c183x := c183; rw [e83] at c183x; rw [F_VR_looked_J145.eq_1, if_pos c183x]) hR89)⟩
                  ·
                    refine lv_aload_n hx hb d_16_22_154 rfl (lv_at hl 1 rfl) ?_
                    refine lv_bipush (v := 48) hx hb d_16_22_155 (by decide) ?_
                    refine q_goi V (q_runV (As := [.int 48]) (rest := []) (d := 2) (mc := 0) (ms := 0) (ci := 17) C0 V rfl LV_VR_91 (X_VR_has l D g q ws  48 hI t0_0 t0_1 t0_2 t0_3 t0_4 t0_5 t0_6 t0_7 t0_8 t0_9 t0_10 t0_11 t0_12 t0_13 t0_14 t0_15 t0_16 t0_17 t0_18 t0_19 t0_20 t0_21 hT0  _) rfl rfl hT0 rfl hl.1 rfl (Nat.le_of_ble_eq_true rfl) ⟨by decide, by decide⟩ ⟨Nat.le_of_ble_eq_true rfl, Nat.le_of_ble_eq_true rfl⟩ d_16_22_157) (fun a188 u186 H locs hp187 V => ?_)
                    obtain ⟨rfl, b189, b190, hE191⟩ := hp187
                    have e192 : a188 = (F_VR_has (48 : Int32) t0_0 t0_1 t0_2 t0_3 t0_4 t0_5 t0_6 t0_7 t0_8 t0_9 t0_10 t0_11 t0_12 t0_13 t0_14 t0_15 t0_16 t0_17 t0_18 t0_19 t0_20 t0_21) := hE191
                    clear b189
                    clear b190
                    refine lv_if_ne (tgt := 181) hx hb d_16_22_160 (by decide) (fun c193 => ?_) (fun c193 => ?_)
                    ·
                      refine lv_bipush (v := 8) hx hb d_16_22_181 (by decide) ?_
                      exact q_reti C0 V (⟨hI, hF, t0_14, t0_15, t0_16, hT0, (show (8 : Int32).toInt ≤ 11 from (by have z25 : (8 : Int32).toInt = 8 := rfl; omega)), (show (8 : Int32).toInt ≤ t0_2.toInt + 10 from (by have z25 : (8 : Int32).toInt = 8 := rfl; have t1 : 0 ≤ t0_2.toInt ∧ t0_2.toInt ≤ 9 := btt0_2; omega)), (show t0_10.toInt ≤ (8 : Int32).toInt from (by have z25 : (8 : Int32).toInt = 8 := rfl; have t1 : 0 ≤ t0_10.toInt ∧ t0_10.toInt ≤ 1 := btt0_10; omega)), (show ((8 : Int32), t0_14, t0_15, t0_16) = (F_VR_looked t0_0 t0_1 t0_2 t0_3 t0_4 t0_5 t0_6 t0_7 t0_8 t0_9 t0_10 t0_11 t0_12 t0_13 t0_14 t0_15 t0_16 t0_17 t0_18 t0_19 t0_20 t0_21 t1_0 t2_0 t3_0) from Eq.trans (by have c183x := c183; rw [e83] at c183x; have c193x := c193; rw [e192] at c193x; rw [F_VR_looked_J145.eq_1, if_neg c183x, if_neg c193x]) hR89)⟩) d_16_22_183
                    ·
                      exact J105 (()) _ _ _ ws ⟨V, q_lw hl (q_lw1 0 rfl (q_lw1 1 rfl q_lw0)), (show F_VR_looked_J163 t0_0 t0_1 t0_2 t0_3 t0_4 t0_5 t0_6 t0_7 t0_8 t0_9 t0_10 t0_11 t0_12 t0_13 t0_14 t0_15 t0_16 t0_17 t0_18 t0_19 t0_20 t0_21 t1_0 t2_0 t3_0 a39 = (F_VR_looked t0_0 t0_1 t0_2 t0_3 t0_4 t0_5 t0_6 t0_7 t0_8 t0_9 t0_10 t0_11 t0_12 t0_13 t0_14 t0_15 t0_16 t0_17 t0_18 t0_19 t0_20 t0_21 t1_0 t2_0 t3_0) from Eq.trans (by have c183x := c183; rw [e83] at c183x; have c193x := c193; rw [e192] at c193x; rw [F_VR_looked_J145.eq_1, if_neg c183x, if_pos c193x]) hR89)⟩
              ·
                intro J88
                refine q_join (X := Unit) (fun z H locs ls _ => q_Wd D g (va_A ws sz) s ws H locs ∧ lv_has ls 2 [(1, .int a39), (0, .ref (q 157))] ∧ F_VR_looked_J135 t0_0 t0_1 t0_2 t0_3 t0_4 t0_5 t0_6 t0_7 t0_8 t0_9 t0_10 t0_11 t0_12 t0_13 t0_14 t0_15 t0_16 t0_17 t0_18 t0_19 t0_20 t0_21 t1_0 t2_0 t3_0 a39 = (F_VR_looked t0_0 t0_1 t0_2 t0_3 t0_4 t0_5 t0_6 t0_7 t0_8 t0_9 t0_10 t0_11 t0_12 t0_13 t0_14 t0_15 t0_16 t0_17 t0_18 t0_19 t0_20 t0_21 t1_0 t2_0 t3_0)) (fun z => []) 135 0 0 ?_ ?_
                ·
                  rintro _ H locs ls _ ⟨V, hl, hR201⟩
                  replace hl : lv_has ls 2 [(1, .int a39), (0, .ref (q 157))] := hl
                  refine lv_aload_n hx hb d_16_22_135 rfl (lv_at hl 1 rfl) ?_
                  refine q_get (ci := 17) (j := 18) (v := .int t0_11) C0 V i_VR rfl rfl hT0 (by decide) w_2222 rfl d_16_22_136 ?_
                  refine lv_if_ge (tgt := 145) hx hb d_16_22_139 (by decide) (fun c206 => ?_) (fun c206 => ?_)
                  ·
                    exact J88 (()) _ _ _ ws ⟨V, q_lw hl (q_lw1 0 rfl (q_lw1 1 rfl q_lw0)), (show F_VR_looked_J145 t0_0 t0_1 t0_2 t0_3 t0_4 t0_5 t0_6 t0_7 t0_8 t0_9 t0_10 t0_11 t0_12 t0_13 t0_14 t0_15 t0_16 t0_17 t0_18 t0_19 t0_20 t0_21 t1_0 t2_0 t3_0 a39 = (F_VR_looked t0_0 t0_1 t0_2 t0_3 t0_4 t0_5 t0_6 t0_7 t0_8 t0_9 t0_10 t0_11 t0_12 t0_13 t0_14 t0_15 t0_16 t0_17 t0_18 t0_19 t0_20 t0_21 t1_0 t2_0 t3_0) from Eq.trans (by rw [F_VR_looked_J135.eq_1, if_pos c206]) hR201)⟩
                  ·
                    refine lv_bipush (v := 7) hx hb d_16_22_142 (by decide) ?_
                    exact q_reti C0 V (⟨hI, hF, t0_14, t0_15, t0_16, hT0, (show (7 : Int32).toInt ≤ 11 from (by have z25 : (7 : Int32).toInt = 7 := rfl; omega)), (show (7 : Int32).toInt ≤ t0_2.toInt + 10 from (by have z25 : (7 : Int32).toInt = 7 := rfl; have t1 : 0 ≤ t0_2.toInt ∧ t0_2.toInt ≤ 9 := btt0_2; omega)), (show t0_10.toInt ≤ (7 : Int32).toInt from (by have z25 : (7 : Int32).toInt = 7 := rfl; have t1 : 0 ≤ t0_10.toInt ∧ t0_10.toInt ≤ 1 := btt0_10; omega)), (show ((7 : Int32), t0_14, t0_15, t0_16) = (F_VR_looked t0_0 t0_1 t0_2 t0_3 t0_4 t0_5 t0_6 t0_7 t0_8 t0_9 t0_10 t0_11 t0_12 t0_13 t0_14 t0_15 t0_16 t0_17 t0_18 t0_19 t0_20 t0_21 t1_0 t2_0 t3_0) from Eq.trans (by rw [F_VR_looked_J135.eq_1, if_neg c206]) hR201)⟩) d_16_22_144
                ·
                  intro J200
                  refine lv_if_ne (tgt := 135) hx hb d_16_22_123 (by decide) (fun c209 => ?_) (fun c209 => ?_)
                  ·
                    exact J200 (()) _ _ _ ws ⟨V, q_lw hl (q_lw1 0 rfl (q_lw1 1 rfl q_lw0)), (show F_VR_looked_J135 t0_0 t0_1 t0_2 t0_3 t0_4 t0_5 t0_6 t0_7 t0_8 t0_9 t0_10 t0_11 t0_12 t0_13 t0_14 t0_15 t0_16 t0_17 t0_18 t0_19 t0_20 t0_21 t1_0 t2_0 t3_0 a39 = (F_VR_looked t0_0 t0_1 t0_2 t0_3 t0_4 t0_5 t0_6 t0_7 t0_8 t0_9 t0_10 t0_11 t0_12 t0_13 t0_14 t0_15 t0_16 t0_17 t0_18 t0_19 t0_20 t0_21 t1_0 t2_0 t3_0) from Eq.trans (by have c75x := c75; rw [← e74, ← e72, e70] at c75x; have c209x := c209; rw [e83] at c209x; rw [F_VR_looked_J100.eq_1, if_pos c75x, if_neg c209x]) hR59)⟩
                  ·
                    refine lv_aload_n hx hb d_16_22_126 rfl (lv_at hl 1 rfl) ?_
                    refine lv_bipush (v := 48) hx hb d_16_22_127 (by decide) ?_
                    refine q_goi V (q_runV (As := [.int 48]) (rest := []) (d := 2) (mc := 0) (ms := 0) (ci := 17) C0 V rfl LV_VR_91 (X_VR_has l D g q ws  48 hI t0_0 t0_1 t0_2 t0_3 t0_4 t0_5 t0_6 t0_7 t0_8 t0_9 t0_10 t0_11 t0_12 t0_13 t0_14 t0_15 t0_16 t0_17 t0_18 t0_19 t0_20 t0_21 hT0  _) rfl rfl hT0 rfl hl.1 rfl (Nat.le_of_ble_eq_true rfl) ⟨by decide, by decide⟩ ⟨Nat.le_of_ble_eq_true rfl, Nat.le_of_ble_eq_true rfl⟩ d_16_22_129) (fun a214 u212 H locs hp213 V => ?_)
                    obtain ⟨rfl, b215, b216, hE217⟩ := hp213
                    have e218 : a214 = (F_VR_has (48 : Int32) t0_0 t0_1 t0_2 t0_3 t0_4 t0_5 t0_6 t0_7 t0_8 t0_9 t0_10 t0_11 t0_12 t0_13 t0_14 t0_15 t0_16 t0_17 t0_18 t0_19 t0_20 t0_21) := hE217
                    clear b215
                    clear b216
                    refine lv_if_eq (tgt := 145) hx hb d_16_22_132 (by decide) (fun c219 => ?_) (fun c219 => ?_)
                    ·
                      exact J88 (()) _ _ _ ws ⟨V, q_lw hl (q_lw1 0 rfl (q_lw1 1 rfl q_lw0)), (show F_VR_looked_J145 t0_0 t0_1 t0_2 t0_3 t0_4 t0_5 t0_6 t0_7 t0_8 t0_9 t0_10 t0_11 t0_12 t0_13 t0_14 t0_15 t0_16 t0_17 t0_18 t0_19 t0_20 t0_21 t1_0 t2_0 t3_0 a39 = (F_VR_looked t0_0 t0_1 t0_2 t0_3 t0_4 t0_5 t0_6 t0_7 t0_8 t0_9 t0_10 t0_11 t0_12 t0_13 t0_14 t0_15 t0_16 t0_17 t0_18 t0_19 t0_20 t0_21 t1_0 t2_0 t3_0) from Eq.trans (by have c75x := c75; rw [← e74, ← e72, e70] at c75x; have c209x := c209; rw [e83] at c209x; have c219x := c219; rw [e218] at c219x; rw [F_VR_looked_J100.eq_1, if_pos c75x, if_pos c209x, if_pos c219x]) hR59)⟩
                    ·
                      exact J200 (()) _ _ _ ws ⟨V, q_lw hl (q_lw1 0 rfl (q_lw1 1 rfl q_lw0)), (show F_VR_looked_J135 t0_0 t0_1 t0_2 t0_3 t0_4 t0_5 t0_6 t0_7 t0_8 t0_9 t0_10 t0_11 t0_12 t0_13 t0_14 t0_15 t0_16 t0_17 t0_18 t0_19 t0_20 t0_21 t1_0 t2_0 t3_0 a39 = (F_VR_looked t0_0 t0_1 t0_2 t0_3 t0_4 t0_5 t0_6 t0_7 t0_8 t0_9 t0_10 t0_11 t0_12 t0_13 t0_14 t0_15 t0_16 t0_17 t0_18 t0_19 t0_20 t0_21 t1_0 t2_0 t3_0) from Eq.trans (by have c75x := c75; rw [← e74, ← e72, e70] at c75x; have c209x := c209; rw [e83] at c209x; have c219x := c219; rw [e218] at c219x; rw [F_VR_looked_J100.eq_1, if_pos c75x, if_pos c209x, if_neg c219x]) hR59)⟩
            ·
              refine lv_bipush (v := 6) hx hb d_16_22_114 (by decide) ?_
              exact q_reti C0 V (⟨hI, hF, t0_14, t0_15, t0_16, hT0, (show (6 : Int32).toInt ≤ 11 from (by have z25 : (6 : Int32).toInt = 6 := rfl; omega)), (show (6 : Int32).toInt ≤ t0_2.toInt + 10 from (by have z25 : (6 : Int32).toInt = 6 := rfl; have t1 : 0 ≤ t0_2.toInt ∧ t0_2.toInt ≤ 9 := btt0_2; omega)), (show t0_10.toInt ≤ (6 : Int32).toInt from (by have z25 : (6 : Int32).toInt = 6 := rfl; have t1 : 0 ≤ t0_10.toInt ∧ t0_10.toInt ≤ 1 := btt0_10; omega)), (show ((6 : Int32), t0_14, t0_15, t0_16) = (F_VR_looked t0_0 t0_1 t0_2 t0_3 t0_4 t0_5 t0_6 t0_7 t0_8 t0_9 t0_10 t0_11 t0_12 t0_13 t0_14 t0_15 t0_16 t0_17 t0_18 t0_19 t0_20 t0_21 t1_0 t2_0 t3_0) from Eq.trans (by have c75x := c75; rw [← e74, ← e72, e70] at c75x; rw [F_VR_looked_J100.eq_1, if_neg c75x]) hR59)⟩) d_16_22_116
          ·
            intro J58
            refine lv_if_lt (tgt := 100) hx hb d_16_22_75 (by decide) (fun c223 => ?_) (fun c223 => ?_)
            ·
              exact J58 (()) _ _ _ ws ⟨V, q_lw hl (q_lw1 0 rfl (q_lw1 1 rfl q_lw0)), (show F_VR_looked_J100 t0_0 t0_1 t0_2 t0_3 t0_4 t0_5 t0_6 t0_7 t0_8 t0_9 t0_10 t0_11 t0_12 t0_13 t0_14 t0_15 t0_16 t0_17 t0_18 t0_19 t0_20 t0_21 t1_0 t2_0 t3_0 a39 = (F_VR_looked t0_0 t0_1 t0_2 t0_3 t0_4 t0_5 t0_6 t0_7 t0_8 t0_9 t0_10 t0_11 t0_12 t0_13 t0_14 t0_15 t0_16 t0_17 t0_18 t0_19 t0_20 t0_21 t1_0 t2_0 t3_0) from (by have c48x := c48; rw [e43] at c48x; have c52x := c52; rw [e43] at c52x; rw [e43, F_VR_looked.eq_1, if_neg c44, if_neg c48x, if_pos c50, if_neg c52x, if_pos c223]))⟩
            ·
              refine lv_iload_n hx hb d_16_22_78 rfl (lv_at hl 0 rfl) ?_
              refine lv_bipush (v := 99) hx hb d_16_22_79 (by decide) ?_
              refine lv_icmp_eq (tgt := 98) hx hb d_16_22_81 (by decide) (fun c226 => ?_) (fun c226 => ?_)
              ·
                refine lv_iconst (v := 5) hx hb d_16_22_98 (by decide) ?_
                exact q_reti C0 V (⟨hI, hF, t0_14, t0_15, t0_16, hT0, (show (5 : Int32).toInt ≤ 11 from (by have z25 : (5 : Int32).toInt = 5 := rfl; omega)), (show (5 : Int32).toInt ≤ t0_2.toInt + 10 from (by have z25 : (5 : Int32).toInt = 5 := rfl; have t1 : 0 ≤ t0_2.toInt ∧ t0_2.toInt ≤ 9 := btt0_2; omega)), (show t0_10.toInt ≤ (5 : Int32).toInt from (by have z25 : (5 : Int32).toInt = 5 := rfl; have t1 : 0 ≤ t0_10.toInt ∧ t0_10.toInt ≤ 1 := btt0_10; omega)), (show ((5 : Int32), t0_14, t0_15, t0_16) = (F_VR_looked t0_0 t0_1 t0_2 t0_3 t0_4 t0_5 t0_6 t0_7 t0_8 t0_9 t0_10 t0_11 t0_12 t0_13 t0_14 t0_15 t0_16 t0_17 t0_18 t0_19 t0_20 t0_21 t1_0 t2_0 t3_0) from (by have c48x := c48; rw [e43] at c48x; have c52x := c52; rw [e43] at c52x; have c226x := c226; rw [e43] at c226x; rw [F_VR_looked.eq_1, if_neg c44, if_neg c48x, if_pos c50, if_neg c52x, if_neg c223, if_pos c226x]))⟩) d_16_22_99
              ·
                refine lv_iload_n hx hb d_16_22_84 rfl (lv_at hl 0 rfl) ?_
                refine lv_bipush (v := 37) hx hb d_16_22_85 (by decide) ?_
                refine lv_icmp_eq (tgt := 98) hx hb d_16_22_87 (by decide) (fun c229 => ?_) (fun c229 => ?_)
                ·
                  refine lv_iconst (v := 5) hx hb d_16_22_98 (by decide) ?_
                  exact q_reti C0 V (⟨hI, hF, t0_14, t0_15, t0_16, hT0, (show (5 : Int32).toInt ≤ 11 from (by have z25 : (5 : Int32).toInt = 5 := rfl; omega)), (show (5 : Int32).toInt ≤ t0_2.toInt + 10 from (by have z25 : (5 : Int32).toInt = 5 := rfl; have t1 : 0 ≤ t0_2.toInt ∧ t0_2.toInt ≤ 9 := btt0_2; omega)), (show t0_10.toInt ≤ (5 : Int32).toInt from (by have z25 : (5 : Int32).toInt = 5 := rfl; have t1 : 0 ≤ t0_10.toInt ∧ t0_10.toInt ≤ 1 := btt0_10; omega)), (show ((5 : Int32), t0_14, t0_15, t0_16) = (F_VR_looked t0_0 t0_1 t0_2 t0_3 t0_4 t0_5 t0_6 t0_7 t0_8 t0_9 t0_10 t0_11 t0_12 t0_13 t0_14 t0_15 t0_16 t0_17 t0_18 t0_19 t0_20 t0_21 t1_0 t2_0 t3_0) from (by have c48x := c48; rw [e43] at c48x; have c52x := c52; rw [e43] at c52x; have c226x := c226; rw [e43] at c226x; have c229x := c229; rw [e43] at c229x; rw [F_VR_looked.eq_1, if_neg c44, if_neg c48x, if_pos c50, if_neg c52x, if_neg c223, if_neg c226x, if_pos c229x]))⟩) d_16_22_99
                ·
                  refine lv_aload_n hx hb d_16_22_90 rfl (lv_at hl 1 rfl) ?_
                  refine lv_iload_n hx hb d_16_22_91 rfl (lv_at hl 0 rfl) ?_
                  refine q_goi V (q_runV (As := [.int a39]) (rest := []) (d := 1) (mc := 0) (ms := 0) (ci := 17) C0 V rfl LV_VR_101 (X_VR_isNumeric l D g q ws  a39 hI t0_0 t0_1 t0_2 t0_3 t0_4 t0_5 t0_6 t0_7 t0_8 t0_9 t0_10 t0_11 t0_12 t0_13 t0_14 t0_15 t0_16 t0_17 t0_18 t0_19 t0_20 t0_21 hT0  _) rfl rfl hT0 rfl hl.1 rfl (Nat.le_of_ble_eq_true rfl) ⟨by decide, by decide⟩ ⟨Nat.le_of_ble_eq_true rfl, Nat.le_of_ble_eq_true rfl⟩ d_16_22_92) (fun a234 u232 H locs hp233 V => ?_)
                  obtain ⟨rfl, b235, b236, hE237⟩ := hp233
                  have e238 : a234 = (F_VR_isNumeric a39 t0_0 t0_1 t0_2 t0_3 t0_4 t0_5 t0_6 t0_7 t0_8 t0_9 t0_10 t0_11 t0_12 t0_13 t0_14 t0_15 t0_16 t0_17 t0_18 t0_19 t0_20 t0_21) := hE237
                  clear b235
                  clear b236
                  refine lv_if_eq (tgt := 100) hx hb d_16_22_95 (by decide) (fun c239 => ?_) (fun c239 => ?_)
                  ·
                    exact J58 (()) _ _ _ ws ⟨V, q_lw hl (q_lw1 0 rfl (q_lw1 1 rfl q_lw0)), (show F_VR_looked_J100 t0_0 t0_1 t0_2 t0_3 t0_4 t0_5 t0_6 t0_7 t0_8 t0_9 t0_10 t0_11 t0_12 t0_13 t0_14 t0_15 t0_16 t0_17 t0_18 t0_19 t0_20 t0_21 t1_0 t2_0 t3_0 a39 = (F_VR_looked t0_0 t0_1 t0_2 t0_3 t0_4 t0_5 t0_6 t0_7 t0_8 t0_9 t0_10 t0_11 t0_12 t0_13 t0_14 t0_15 t0_16 t0_17 t0_18 t0_19 t0_20 t0_21 t1_0 t2_0 t3_0) from (by have c48x := c48; rw [e43] at c48x; have c52x := c52; rw [e43] at c52x; have c226x := c226; rw [e43] at c226x; have c229x := c229; rw [e43] at c229x; have c239x := c239; rw [e238, e43] at c239x; rw [e43, F_VR_looked.eq_1, if_neg c44, if_neg c48x, if_pos c50, if_neg c52x, if_neg c223, if_neg c226x, if_neg c229x, if_pos c239x]))⟩
                  ·
                    refine lv_iconst (v := 5) hx hb d_16_22_98 (by decide) ?_
                    exact q_reti C0 V (⟨hI, hF, t0_14, t0_15, t0_16, hT0, (show (5 : Int32).toInt ≤ 11 from (by have z25 : (5 : Int32).toInt = 5 := rfl; omega)), (show (5 : Int32).toInt ≤ t0_2.toInt + 10 from (by have z25 : (5 : Int32).toInt = 5 := rfl; have t1 : 0 ≤ t0_2.toInt ∧ t0_2.toInt ≤ 9 := btt0_2; omega)), (show t0_10.toInt ≤ (5 : Int32).toInt from (by have z25 : (5 : Int32).toInt = 5 := rfl; have t1 : 0 ≤ t0_10.toInt ∧ t0_10.toInt ≤ 1 := btt0_10; omega)), (show ((5 : Int32), t0_14, t0_15, t0_16) = (F_VR_looked t0_0 t0_1 t0_2 t0_3 t0_4 t0_5 t0_6 t0_7 t0_8 t0_9 t0_10 t0_11 t0_12 t0_13 t0_14 t0_15 t0_16 t0_17 t0_18 t0_19 t0_20 t0_21 t1_0 t2_0 t3_0) from (by have c48x := c48; rw [e43] at c48x; have c52x := c52; rw [e43] at c52x; have c226x := c226; rw [e43] at c226x; have c229x := c229; rw [e43] at c229x; have c239x := c239; rw [e238, e43] at c239x; rw [F_VR_looked.eq_1, if_neg c44, if_neg c48x, if_pos c50, if_neg c52x, if_neg c223, if_neg c226x, if_neg c229x, if_neg c239x]))⟩) d_16_22_99
        ·
          refine lv_aload_n hx hb d_16_22_44 rfl (lv_at hl 1 rfl) ?_
          refine q_get (ci := 17) (j := 18) (v := .int t0_11) C0 V i_VR rfl rfl hT0 (by decide) w_2222 rfl d_16_22_45 ?_
          refine lv_if_ge (tgt := 65) hx hb d_16_22_48 (by decide) (fun c243 => ?_) (fun c243 => ?_)
          ·
            refine lv_iconst (v := 4) hx hb d_16_22_65 (by decide) ?_
            refine lv_goto (tgt := 70) hx hb d_16_22_66 (by decide) ?_
            exact q_reti C0 V (⟨hI, hF, t0_14, t0_15, t0_16, hT0, (show (4 : Int32).toInt ≤ 11 from (by have z25 : (4 : Int32).toInt = 4 := rfl; omega)), (show (4 : Int32).toInt ≤ t0_2.toInt + 10 from (by have z25 : (4 : Int32).toInt = 4 := rfl; have t1 : 0 ≤ t0_2.toInt ∧ t0_2.toInt ≤ 9 := btt0_2; omega)), (show t0_10.toInt ≤ (4 : Int32).toInt from (by have z25 : (4 : Int32).toInt = 4 := rfl; have t1 : 0 ≤ t0_10.toInt ∧ t0_10.toInt ≤ 1 := btt0_10; omega)), (show ((4 : Int32), t0_14, t0_15, t0_16) = (F_VR_looked t0_0 t0_1 t0_2 t0_3 t0_4 t0_5 t0_6 t0_7 t0_8 t0_9 t0_10 t0_11 t0_12 t0_13 t0_14 t0_15 t0_16 t0_17 t0_18 t0_19 t0_20 t0_21 t1_0 t2_0 t3_0) from (by have c48x := c48; rw [e43] at c48x; have c52x := c52; rw [e43] at c52x; rw [F_VR_looked.eq_1, if_neg c44, if_neg c48x, if_pos c50, if_pos c52x, if_pos c243]))⟩) d_16_22_70
          ·
            refine lv_aload_n hx hb d_16_22_51 rfl (lv_at hl 1 rfl) ?_
            refine q_get (ci := 17) (j := 19) (v := .int t0_12) C0 V i_VR rfl rfl hT0 (by decide) w_2223 rfl d_16_22_52 ?_
            refine lv_if_ge (tgt := 65) hx hb d_16_22_55 (by decide) (fun c246 => ?_) (fun c246 => ?_)
            ·
              refine lv_iconst (v := 4) hx hb d_16_22_65 (by decide) ?_
              refine lv_goto (tgt := 70) hx hb d_16_22_66 (by decide) ?_
              exact q_reti C0 V (⟨hI, hF, t0_14, t0_15, t0_16, hT0, (show (4 : Int32).toInt ≤ 11 from (by have z25 : (4 : Int32).toInt = 4 := rfl; omega)), (show (4 : Int32).toInt ≤ t0_2.toInt + 10 from (by have z25 : (4 : Int32).toInt = 4 := rfl; have t1 : 0 ≤ t0_2.toInt ∧ t0_2.toInt ≤ 9 := btt0_2; omega)), (show t0_10.toInt ≤ (4 : Int32).toInt from (by have z25 : (4 : Int32).toInt = 4 := rfl; have t1 : 0 ≤ t0_10.toInt ∧ t0_10.toInt ≤ 1 := btt0_10; omega)), (show ((4 : Int32), t0_14, t0_15, t0_16) = (F_VR_looked t0_0 t0_1 t0_2 t0_3 t0_4 t0_5 t0_6 t0_7 t0_8 t0_9 t0_10 t0_11 t0_12 t0_13 t0_14 t0_15 t0_16 t0_17 t0_18 t0_19 t0_20 t0_21 t1_0 t2_0 t3_0) from (by have c48x := c48; rw [e43] at c48x; have c52x := c52; rw [e43] at c52x; rw [F_VR_looked.eq_1, if_neg c44, if_neg c48x, if_pos c50, if_pos c52x, if_neg c243, if_pos c246]))⟩) d_16_22_70
            ·
              refine lv_aload_n hx hb d_16_22_58 rfl (lv_at hl 1 rfl) ?_
              refine q_get (ci := 17) (j := 16) (v := .int t0_9) C0 V i_VR rfl rfl hT0 (by decide) w_2220 rfl d_16_22_59 ?_
              refine lv_if_eq (tgt := 69) hx hb d_16_22_62 (by decide) (fun c249 => ?_) (fun c249 => ?_)
              ·
                refine lv_iconst (v := 0) hx hb d_16_22_69 (by decide) ?_
                exact q_reti C0 V (⟨hI, hF, t0_14, t0_15, t0_16, hT0, (show (0 : Int32).toInt ≤ 11 from (by have z25 : (0 : Int32).toInt = 0 := rfl; omega)), (show (0 : Int32).toInt ≤ t0_2.toInt + 10 from (by have z25 : (0 : Int32).toInt = 0 := rfl; have t1 : 0 ≤ t0_2.toInt ∧ t0_2.toInt ≤ 9 := btt0_2; omega)), (show t0_10.toInt ≤ (0 : Int32).toInt from (by have z25 : (0 : Int32).toInt = 0 := rfl; have t1 : t0_10.toInt = 0 := b51; omega)), (show ((0 : Int32), t0_14, t0_15, t0_16) = (F_VR_looked t0_0 t0_1 t0_2 t0_3 t0_4 t0_5 t0_6 t0_7 t0_8 t0_9 t0_10 t0_11 t0_12 t0_13 t0_14 t0_15 t0_16 t0_17 t0_18 t0_19 t0_20 t0_21 t1_0 t2_0 t3_0) from (by have c48x := c48; rw [e43] at c48x; have c52x := c52; rw [e43] at c52x; rw [F_VR_looked.eq_1, if_neg c44, if_neg c48x, if_pos c50, if_pos c52x, if_neg c243, if_neg c246, if_pos c249]))⟩) d_16_22_70
              ·
                refine lv_iconst (v := 4) hx hb d_16_22_65 (by decide) ?_
                refine lv_goto (tgt := 70) hx hb d_16_22_66 (by decide) ?_
                exact q_reti C0 V (⟨hI, hF, t0_14, t0_15, t0_16, hT0, (show (4 : Int32).toInt ≤ 11 from (by have z25 : (4 : Int32).toInt = 4 := rfl; omega)), (show (4 : Int32).toInt ≤ t0_2.toInt + 10 from (by have z25 : (4 : Int32).toInt = 4 := rfl; have t1 : 0 ≤ t0_2.toInt ∧ t0_2.toInt ≤ 9 := btt0_2; omega)), (show t0_10.toInt ≤ (4 : Int32).toInt from (by have z25 : (4 : Int32).toInt = 4 := rfl; have t1 : 0 ≤ t0_10.toInt ∧ t0_10.toInt ≤ 1 := btt0_10; omega)), (show ((4 : Int32), t0_14, t0_15, t0_16) = (F_VR_looked t0_0 t0_1 t0_2 t0_3 t0_4 t0_5 t0_6 t0_7 t0_8 t0_9 t0_10 t0_11 t0_12 t0_13 t0_14 t0_15 t0_16 t0_17 t0_18 t0_19 t0_20 t0_21 t1_0 t2_0 t3_0) from (by have c48x := c48; rw [e43] at c48x; have c52x := c52; rw [e43] at c52x; rw [F_VR_looked.eq_1, if_neg c44, if_neg c48x, if_pos c50, if_pos c52x, if_neg c243, if_neg c246, if_neg c249]))⟩) d_16_22_70
      ·
        refine lv_iconst (v := 3) hx hb d_16_22_36 (by decide) ?_
        exact q_reti C0 V (⟨hI, hF, t0_14, t0_15, t0_16, hT0, (show (3 : Int32).toInt ≤ 11 from (by have z25 : (3 : Int32).toInt = 3 := rfl; omega)), (show (3 : Int32).toInt ≤ t0_2.toInt + 10 from (by have z25 : (3 : Int32).toInt = 3 := rfl; have t1 : 0 ≤ t0_2.toInt ∧ t0_2.toInt ≤ 9 := btt0_2; omega)), (show t0_10.toInt ≤ (3 : Int32).toInt from (by have z25 : (3 : Int32).toInt = 3 := rfl; have t1 : 0 ≤ t0_10.toInt ∧ t0_10.toInt ≤ 1 := btt0_10; omega)), (show ((3 : Int32), t0_14, t0_15, t0_16) = (F_VR_looked t0_0 t0_1 t0_2 t0_3 t0_4 t0_5 t0_6 t0_7 t0_8 t0_9 t0_10 t0_11 t0_12 t0_13 t0_14 t0_15 t0_16 t0_17 t0_18 t0_19 t0_20 t0_21 t1_0 t2_0 t3_0) from (by have c48x := c48; rw [e43] at c48x; rw [F_VR_looked.eq_1, if_neg c44, if_neg c48x, if_neg c50]))⟩) d_16_22_37
    ·
      refine lv_aload_n hx hb d_16_22_16 rfl (lv_at hl 1 rfl) ?_
      refine q_get (ci := 17) (j := 20) (v := .int t0_13) C0 V i_VR rfl rfl hT0 (by decide) w_2224 rfl d_16_22_17 ?_
      refine lv_if_ge (tgt := 27) hx hb d_16_22_20 (by decide) (fun c254 => ?_) (fun c254 => absurd (show t0_13.toInt < 0 from q_nleI c254) (by first | with_reducible exact q_fe b47 | (have t1 : 0 ≤ t0_13.toInt := b47; omega)))
      refine lv_iconst (v := 2) hx hb d_16_22_27 (by decide) ?_
      exact q_reti C0 V (⟨hI, hF, t0_14, t0_15, t0_16, hT0, (show (2 : Int32).toInt ≤ 11 from (by have z25 : (2 : Int32).toInt = 2 := rfl; omega)), (show (2 : Int32).toInt ≤ t0_2.toInt + 10 from (by have z25 : (2 : Int32).toInt = 2 := rfl; have t1 : 0 ≤ t0_2.toInt ∧ t0_2.toInt ≤ 9 := btt0_2; omega)), (show t0_10.toInt ≤ (2 : Int32).toInt from (by have z25 : (2 : Int32).toInt = 2 := rfl; have t1 : 0 ≤ t0_10.toInt ∧ t0_10.toInt ≤ 1 := btt0_10; omega)), (show ((2 : Int32), t0_14, t0_15, t0_16) = (F_VR_looked t0_0 t0_1 t0_2 t0_3 t0_4 t0_5 t0_6 t0_7 t0_8 t0_9 t0_10 t0_11 t0_12 t0_13 t0_14 t0_15 t0_16 t0_17 t0_18 t0_19 t0_20 t0_21 t1_0 t2_0 t3_0) from (by have c48x := c48; rw [e43] at c48x; rw [F_VR_looked.eq_1, if_neg c44, if_pos c48x]))⟩) d_16_22_28
theorem d_16_24_0 : decode prog_16_method_24_code 0 = .ok (.aload_n 0, 1) := by decide +kernel
theorem d_16_24_1 : decode prog_16_method_24_code 1 = .ok (.getfield 36, 3) := by decide +kernel
theorem d_16_24_4 : decode prog_16_method_24_code 4 = .ok (.aload_n 0, 1) := by decide +kernel
theorem d_16_24_5 : decode prog_16_method_24_code 5 = .ok (.getfield 119, 3) := by decide +kernel
set_option maxRecDepth 100000 in
theorem w_2229 : (Cond.fieldLink "NumberHouseModel$DirectiveRows" (119 : Nat) "NumberHouseModel$DirectiveRows" "size" "I") ∈ q_tbl := q_of10 69 rfl (by decide +kernel)
theorem d_16_24_8 : decode prog_16_method_24_code 8 = .ok (.iload_n 1, 1) := by decide +kernel
theorem d_16_24_9 : decode prog_16_method_24_code 9 = .ok (.iastore, 1) := by decide +kernel
theorem d_16_24_10 : decode prog_16_method_24_code 10 = .ok (.aload_n 0, 1) := by decide +kernel
theorem d_16_24_11 : decode prog_16_method_24_code 11 = .ok (.dup, 1) := by decide +kernel
theorem d_16_24_12 : decode prog_16_method_24_code 12 = .ok (.getfield 119, 3) := by decide +kernel
theorem d_16_24_15 : decode prog_16_method_24_code 15 = .ok (.iconst 1, 1) := by decide +kernel
theorem d_16_24_16 : decode prog_16_method_24_code 16 = .ok (.iadd, 1) := by decide +kernel
theorem d_16_24_17 : decode prog_16_method_24_code 17 = .ok (.putfield 119, 3) := by decide +kernel
theorem d_16_24_20 : decode prog_16_method_24_code 20 = .ok (.return_, 1) := by decide +kernel
def y_VR_put : MethodName := ⟨"NumberHouseModel$DirectiveRows", "put", "(I)V"⟩
def F_VR_put (x2 : Int32) (t0_0 : Int32) (t0_1 : Int32) (t0_2 : Int32) (t0_3 : Int32) (t0_4 : Int32) (t0_5 : Int32) (t0_6 : Int32) (t0_7 : Int32) (t0_8 : Int32) (t0_9 : Int32) (t0_10 : Int32) (t0_11 : Int32) (t0_12 : Int32) (t0_13 : Int32) (t0_14 : Int32) (t0_15 : Int32) (t0_16 : Int32) (t0_17 : Int32) (t0_18 : Int32) (t0_19 : Int32) (t0_20 : Int32) (t0_21 : Int32) (t1_0 : (Nat → Int32)) : Int32 × (Nat → Int32) := ((t0_17 + 1 : Int32), (upd t1_0 t0_17.toNatClampNeg x2 : (Nat → Int32)))
def S_VR_put (x2 : Int32) (t0_0 : Int32) (t0_1 : Int32) (t0_2 : Int32) (t0_3 : Int32) (t0_4 : Int32) (t0_5 : Int32) (t0_6 : Int32) (t0_7 : Int32) (t0_8 : Int32) (t0_9 : Int32) (t0_10 : Int32) (t0_11 : Int32) (t0_12 : Int32) (t0_13 : Int32) (t0_14 : Int32) (t0_15 : Int32) (t0_16 : Int32) (t0_17 : Int32) (t0_18 : Int32) (t0_19 : Int32) (t0_20 : Int32) (t0_21 : Int32) (t1_0 : (Nat → Int32)) : Prop := (0 ≤ t0_17.toInt) ∧ ((t0_17.toInt ≤ 20199) ∧ (True))
set_option maxRecDepth 100000 in
set_option maxHeartbeats 4000000 in
theorem X_VR_put (l : Launch) (D : va_G) (g : Nat → ClassId) (q : Nat → Nat) (ws : va_W) (x2 : Int32) (hI : q_I (msh g q) q ws) (t0_0 : Int32) (t0_1 : Int32) (t0_2 : Int32) (t0_3 : Int32) (t0_4 : Int32) (t0_5 : Int32) (t0_6 : Int32) (t0_7 : Int32) (t0_8 : Int32) (t0_9 : Int32) (t0_10 : Int32) (t0_11 : Int32) (t0_12 : Int32) (t0_13 : Int32) (t0_14 : Int32) (t0_15 : Int32) (t0_16 : Int32) (t0_17 : Int32) (t0_18 : Int32) (t0_19 : Int32) (t0_20 : Int32) (t0_21 : Int32) (hT0 : ws[157]? = (some (q 157, .inr (17, [.int t0_0, .ref (q 158), .int t0_1, .int t0_2, .ref (q 159), .ref (q 160), .ref (q 161), .ref (q 162), .ref (q 163), .int t0_3, .ref (q 164), .int t0_4, .int t0_5, .int t0_6, .int t0_7, .int t0_8, .int t0_9, .int t0_10, .int t0_11, .int t0_12, .int t0_13, .int t0_14, .int t0_15, .int t0_16, .ref (q 165), .int t0_17, .int t0_18, .int t0_19, .ref (q 166), .int t0_20, .int t0_21])) : Option (Nat × va_E))) (t1_0 : (Nat → Int32)) (hT1 : ws[165]? = (some (q 165, .inl (g 0, (20200 : Int32).toNatClampNeg, .inl t1_0)) : Option (Nat × va_E))) (hS : True ∧ S_VR_put x2 t0_0 t0_1 t0_2 t0_3 t0_4 t0_5 t0_6 t0_7 t0_8 t0_9 t0_10 t0_11 t0_12 t0_13 t0_14 t0_15 t0_16 t0_17 t0_18 t0_19 t0_20 t0_21 t1_0) : q_mV l y_VR_put prog_16_method_24_code 2 1 0 0 D g [.ref (q 157), .int x2] ws (fun u => q_I (msh g q) q u ∧ q_un ws u [157, 165] ∧ ∃ (u0_17 : Int32) (u1_0 : (Nat → Int32)), u[157]? = (some (q 157, .inr (17, [.int t0_0, .ref (q 158), .int t0_1, .int t0_2, .ref (q 159), .ref (q 160), .ref (q 161), .ref (q 162), .ref (q 163), .int t0_3, .ref (q 164), .int t0_4, .int t0_5, .int t0_6, .int t0_7, .int t0_8, .int t0_9, .int t0_10, .int t0_11, .int t0_12, .int t0_13, .int t0_14, .int t0_15, .int t0_16, .ref (q 165), .int u0_17, .int t0_18, .int t0_19, .ref (q 166), .int t0_20, .int t0_21])) : Option (Nat × va_E)) ∧ u[165]? = (some (q 165, .inl (g 0, (20200 : Int32).toNatClampNeg, .inl u1_0)) : Option (Nat × va_E)) ∧ (1 ≤ u0_17.toInt) ∧ (u0_17.toInt ≤ 20200) ∧ (t0_17.toInt + 1 ≤ u0_17.toInt) ∧ (u0_17.toInt ≤ t0_17.toInt + 1) ∧ (u0_17, u1_0) = (F_VR_put x2 t0_0 t0_1 t0_2 t0_3 t0_4 t0_5 t0_6 t0_7 t0_8 t0_9 t0_10 t0_11 t0_12 t0_13 t0_14 t0_15 t0_16 t0_17 t0_18 t0_19 t0_20 t0_21 t1_0)) := by
  intro sz
  refine q_into (by decide) (Nat.le_of_ble_eq_true rfl) ?_
  intro p e s m below meth c ls hsz C0 V hl
  have hx := C0.1
  have hb := C0.2.1
  obtain ⟨btt0_1, hZ9⟩ := n_w157 hI hT0
  obtain ⟨btt0_2, hZ9⟩ := hZ9
  obtain ⟨btt0_3, hZ9⟩ := hZ9
  obtain ⟨btt0_10, btt0_19⟩ := hZ9
  replace btt0_1 : q_F (0 ≤ t0_1.toInt ∧ t0_1.toInt ≤ 256) := btt0_1
  replace btt0_2 : q_F (0 ≤ t0_2.toInt ∧ t0_2.toInt ≤ 9) := btt0_2
  replace btt0_3 : q_F (0 ≤ t0_3.toInt ∧ t0_3.toInt ≤ 4096) := btt0_3
  replace btt0_10 : q_F (0 ≤ t0_10.toInt ∧ t0_10.toInt ≤ 1) := btt0_10
  replace btt0_19 : q_F (0 ≤ t0_19.toInt ∧ t0_19.toInt ≤ 1) := btt0_19
  have hF : q_un ws ws [157, 165] := q_u0
  have hl : lv_has ls 2 [(0, .ref (q 157)), (1, .int x2)] := hl
  refine lv_aload_n hx hb d_16_24_0 rfl (lv_at hl 0 rfl) ?_
  refine q_get (ci := 17) (j := 24) (v := .ref (q 165)) C0 V i_VR rfl rfl hT0 (by decide) w_2228 rfl d_16_24_1 ?_
  refine lv_aload_n hx hb d_16_24_4 rfl (lv_at hl 0 rfl) ?_
  refine q_get (ci := 17) (j := 25) (v := .int t0_17) C0 V i_VR rfl rfl hT0 (by decide) w_2229 rfl d_16_24_5 ?_
  refine lv_iload_n hx hb d_16_24_8 rfl (lv_at hl 1 rfl) ?_
  have ob32 : q_F (0 ≤ t0_17.toInt) := (by have h := hS; rw [S_VR_put.eq_1] at h; exact h.2.1)
  have ob33 : q_F (t0_17.toInt ≤ 20199) := (by have h := hS; rw [S_VR_put.eq_1] at h; replace h := q_s2 h; exact h.2.1)
  refine q_iast C0 V hT1 (q_ix (x := t0_17.toInt) rfl (by first | with_reducible exact q_fe ob32 | (have t1 : 0 ≤ t0_17.toInt := ob32; omega)) (by have t1 : 0 ≤ t0_17.toInt := ob32; have t2 : t0_17.toInt ≤ 20199 := ob33; have e9 : (((20200 : Int32).toNatClampNeg : Nat) : Int) = 20200 := (by decide); omega)) d_16_24_9 (fun H locs w34 hu35 hT1 V => ?_)
  replace hI := n_ai' hI (n_r165 g q).1 hu35 hT1 (q_updB (fun _ => s_bnd) s_bnd)
  replace hT0 := (hu35 _ (by decide)).trans hT0
  replace hF := q_us hF hu35 (by simp)
  obtain ⟨f36, e37⟩ := q_nm (upd t1_0 t0_17.toNatClampNeg x2 : (Nat → Int32))
  rw [e37] at hT1
  refine lv_aload_n hx hb d_16_24_10 rfl (lv_at hl 0 rfl) ?_
  refine lv_dup hx hb d_16_24_11 rfl ?_
  refine q_get (ci := 17) (j := 25) (v := .int t0_17) C0 V i_VR rfl rfl hT0 (by decide) w_2229 rfl d_16_24_12 ?_
  refine lv_iconst (v := 1) hx hb d_16_24_15 (by decide) ?_
  refine lv_iadd hx hb d_16_24_16 ?_
  obtain ⟨a38, e39⟩ := q_nm (t0_17 + 1 : Int32)
  refine q_ti (v := a38) e39 ?_
  have b40 : q_F (a38.toInt = t0_17.toInt + 1) := (by rw [← e39]; show (t0_17 + 1 : Int32).toInt = t0_17.toInt + 1; exact q_addI (x := t0_17.toInt) (y := 1) rfl (by decide) (by have t1 : 0 ≤ t0_17.toInt := ob32; have t2 : t0_17.toInt ≤ 20199 := ob33; omega) (by have t1 : 0 ≤ t0_17.toInt := ob32; have t2 : t0_17.toInt ≤ 20199 := ob33; omega))
  refine q_put (ci := 17) (j := 25) (v := .int a38) (ty := .int) C0 V i_VR o_VR n_VR rfl rfl hT0 (by decide) w_2229 rfl rfl rfl rfl (Nat.le_of_ble_eq_true rfl) d_16_24_17 (fun H locs w41 hu42 hT0 V => ?_)
  replace hT0 : w41[157]? = (some (q 157, .inr (17, [.int t0_0, .ref (q 158), .int t0_1, .int t0_2, .ref (q 159), .ref (q 160), .ref (q 161), .ref (q 162), .ref (q 163), .int t0_3, .ref (q 164), .int t0_4, .int t0_5, .int t0_6, .int t0_7, .int t0_8, .int t0_9, .int t0_10, .int t0_11, .int t0_12, .int t0_13, .int t0_14, .int t0_15, .int t0_16, .ref (q 165), .int a38, .int t0_18, .int t0_19, .ref (q 166), .int t0_20, .int t0_21])) : Option (Nat × va_E)) := hT0
  replace hI := n_p157 hI hu42 hT0 (by first | with_reducible exact q_fe btt0_1 | exact ⟨(by have t1 : 0 ≤ t0_1.toInt ∧ t0_1.toInt ≤ 256 := btt0_1; omega), (by have t1 : 0 ≤ t0_1.toInt ∧ t0_1.toInt ≤ 256 := btt0_1; omega)⟩) (by first | with_reducible exact q_fe btt0_2 | exact ⟨(by have t1 : 0 ≤ t0_2.toInt ∧ t0_2.toInt ≤ 9 := btt0_2; omega), (by have t1 : 0 ≤ t0_2.toInt ∧ t0_2.toInt ≤ 9 := btt0_2; omega)⟩) (by first | with_reducible exact q_fe btt0_3 | exact ⟨(by have t1 : 0 ≤ t0_3.toInt ∧ t0_3.toInt ≤ 4096 := btt0_3; omega), (by have t1 : 0 ≤ t0_3.toInt ∧ t0_3.toInt ≤ 4096 := btt0_3; omega)⟩) (by first | with_reducible exact q_fe btt0_10 | exact ⟨(by have t1 : 0 ≤ t0_10.toInt ∧ t0_10.toInt ≤ 1 := btt0_10; omega), (by have t1 : 0 ≤ t0_10.toInt ∧ t0_10.toInt ≤ 1 := btt0_10; omega)⟩) (by first | with_reducible exact q_fe btt0_19 | exact ⟨(by have t1 : 0 ≤ t0_19.toInt ∧ t0_19.toInt ≤ 1 := btt0_19; omega), (by have t1 : 0 ≤ t0_19.toInt ∧ t0_19.toInt ≤ 1 := btt0_19; omega)⟩)
  replace hT1 := (hu42 _ (by decide)).trans hT1
  replace hF := q_us hF hu42 (by simp)
  exact q_retv C0 V (⟨hI, hF, a38, f36, hT0, hT1, (show 1 ≤ a38.toInt from (by have t1 : 0 ≤ t0_17.toInt := ob32; have t2 : a38.toInt = t0_17.toInt + 1 := b40; omega)), (show a38.toInt ≤ 20200 from (by have t1 : t0_17.toInt ≤ 20199 := ob33; have t2 : a38.toInt = t0_17.toInt + 1 := b40; omega)), (show t0_17.toInt + 1 ≤ a38.toInt from (by first | with_reducible exact q_fe b40 | (have t1 : a38.toInt = t0_17.toInt + 1 := b40; omega))), (show a38.toInt ≤ t0_17.toInt + 1 from (by first | with_reducible exact q_fe b40 | (have t1 : a38.toInt = t0_17.toInt + 1 := b40; omega))), (show (a38, f36) = (F_VR_put x2 t0_0 t0_1 t0_2 t0_3 t0_4 t0_5 t0_6 t0_7 t0_8 t0_9 t0_10 t0_11 t0_12 t0_13 t0_14 t0_15 t0_16 t0_17 t0_18 t0_19 t0_20 t0_21 t1_0) from (by rw [← e39, ← e37, F_VR_put.eq_1]))⟩) d_16_24_20
theorem d_16_25_0 : decode prog_16_method_25_code 0 = .ok (.lload_n 1, 1) := by decide +kernel
theorem d_16_25_1 : decode prog_16_method_25_code 1 = .ok (.lstore_n 3, 1) := by decide +kernel
theorem d_16_25_2 : decode prog_16_method_25_code 2 = .ok (.lload_n 3, 1) := by decide +kernel
theorem d_16_25_3 : decode prog_16_method_25_code 3 = .ok (.lconst 0, 1) := by decide +kernel
theorem d_16_25_4 : decode prog_16_method_25_code 4 = .ok (.lcmp, 1) := by decide +kernel
theorem d_16_25_5 : decode prog_16_method_25_code 5 = .ok (.ifCond .eq 21, 3) := by decide +kernel
theorem d_16_25_26 : decode prog_16_method_25_code 26 = .ok (.return_, 1) := by decide +kernel
theorem d_16_25_8 : decode prog_16_method_25_code 8 = .ok (.aload_n 0, 1) := by decide +kernel
theorem d_16_25_9 : decode prog_16_method_25_code 9 = .ok (.lload_n 3, 1) := by decide +kernel
theorem d_16_25_10 : decode prog_16_method_25_code 10 = .ok (.ldc2_w 48, 3) := by decide +kernel
theorem d_16_25_13 : decode prog_16_method_25_code 13 = .ok (.land, 1) := by decide +kernel
theorem d_16_25_14 : decode prog_16_method_25_code 14 = .ok (.l2i, 1) := by decide +kernel
theorem d_16_25_15 : decode prog_16_method_25_code 15 = .ok (.invokevirtual 122, 3) := by decide +kernel
set_option maxRecDepth 100000 in
theorem w_3170 : (Cond.code ({ cls := "NumberHouseModel$DirectiveRows", name := "put", desc := "(I)V" } : MethodName) prog_16_method_24_code (2 : Nat) (none : Option ClassFile.FieldType)) ∈ q_tbl := q_of14 50 rfl (by decide +kernel)
set_option maxRecDepth 100000 in
theorem w_3167 : (Cond.methodLink "NumberHouseModel$DirectiveRows" (122 : Nat) ({ cls := "NumberHouseModel$DirectiveRows", name := "put", desc := "(I)V" } : MethodName)) ∈ q_tbl := q_of14 47 rfl (by decide +kernel)
set_option maxRecDepth 100000 in
theorem w_3169 : (Cond.instanceMethod ({ cls := "NumberHouseModel$DirectiveRows", name := "put", desc := "(I)V" } : MethodName)) ∈ q_tbl := q_of14 49 rfl (by decide +kernel)
theorem ws_162 : Cond.selects "NumberHouseModel$DirectiveRows" (⟨"NumberHouseModel$DirectiveRows", "put", "(I)V"⟩ : MethodName) (⟨"NumberHouseModel$DirectiveRows", "put", "(I)V"⟩ : MethodName) ∈ q_tbl := q_ofs 162 (by decide +kernel) (by decide +kernel)
theorem LV_VR_122 : q_LV "NumberHouseModel$DirectiveRows" 122 y_VR_put prog_16_method_24_code 2 none 1 := ⟨w_3170, w_19, w_3167, w_3169, ws_162, ⟨by decide, by decide, by decide +kernel⟩⟩
theorem d_16_25_18 : decode prog_16_method_25_code 18 = .ok (.lload_n 3, 1) := by decide +kernel
theorem d_16_25_19 : decode prog_16_method_25_code 19 = .ok (.bipush 8, 2) := by decide +kernel
theorem d_16_25_21 : decode prog_16_method_25_code 21 = .ok (.lshr, 1) := by decide +kernel
theorem d_16_25_22 : decode prog_16_method_25_code 22 = .ok (.lstore_n 3, 1) := by decide +kernel
theorem d_16_25_23 : decode prog_16_method_25_code 23 = .ok (.goto (-21), 3) := by decide +kernel
def y_VR_word : MethodName := ⟨"NumberHouseModel$DirectiveRows", "word", "(J)V"⟩
def F_VR_word_c15 (K_F_VR_word_L2 : Int64 → Int32 → (Nat → Int32) → (Int32 × (Nat → Int32))) (x2 : Int64) (t0_0 : Int32) (t0_1 : Int32) (t0_2 : Int32) (t0_3 : Int32) (t0_4 : Int32) (t0_5 : Int32) (t0_6 : Int32) (t0_7 : Int32) (t0_8 : Int32) (t0_9 : Int32) (t0_10 : Int32) (t0_11 : Int32) (t0_12 : Int32) (t0_13 : Int32) (t0_14 : Int32) (t0_15 : Int32) (t0_16 : Int32) (t0_17 : Int32) (t0_18 : Int32) (t0_19 : Int32) (t0_20 : Int32) (t0_21 : Int32) (t1_0 : (Nat → Int32)) (lx33 : Int64) (lx34 : Int32) (lx35 : (Nat → Int32)) (p70 : (Int32 × (Nat → Int32))) : Int32 × (Nat → Int32) := K_F_VR_word_L2 (lx33 >>> ((8 : Int32).toInt64 &&& 63) : Int64) (p70.1 : Int32) (p70.2 : (Nat → Int32))
def F_VR_word_L2 (x2 : Int64) (t0_0 : Int32) (t0_1 : Int32) (t0_2 : Int32) (t0_3 : Int32) (t0_4 : Int32) (t0_5 : Int32) (t0_6 : Int32) (t0_7 : Int32) (t0_8 : Int32) (t0_9 : Int32) (t0_10 : Int32) (t0_11 : Int32) (t0_12 : Int32) (t0_13 : Int32) (t0_14 : Int32) (t0_15 : Int32) (t0_16 : Int32) (t0_17 : Int32) (t0_18 : Int32) (t0_19 : Int32) (t0_20 : Int32) (t0_21 : Int32) (t1_0 : (Nat → Int32)) : Nat → Int64 → Int32 → (Nat → Int32) → (Int32 × (Nat → Int32))
  | 0, _, _, _ => default
  | fm + 1, lx33, lx34, lx35 => if (lg_cmp lx33 0 : Int32) = (0 : Int32) then ((lx34, lx35)) else (F_VR_word_c15 (F_VR_word_L2 x2 t0_0 t0_1 t0_2 t0_3 t0_4 t0_5 t0_6 t0_7 t0_8 t0_9 t0_10 t0_11 t0_12 t0_13 t0_14 t0_15 t0_16 t0_17 t0_18 t0_19 t0_20 t0_21 t1_0 fm) x2 t0_0 t0_1 t0_2 t0_3 t0_4 t0_5 t0_6 t0_7 t0_8 t0_9 t0_10 t0_11 t0_12 t0_13 t0_14 t0_15 t0_16 t0_17 t0_18 t0_19 t0_20 t0_21 t1_0 lx33 lx34 lx35 ((F_VR_put ((lx33 &&& 255 : Int64).toInt32 : Int32) t0_0 t0_1 t0_2 t0_3 t0_4 t0_5 t0_6 t0_7 t0_8 t0_9 t0_10 t0_11 t0_12 t0_13 t0_14 t0_15 t0_16 lx34 t0_18 t0_19 t0_20 t0_21 lx35) : (Int32 × (Nat → Int32))))
def F_VR_word (x2 : Int64) (t0_0 : Int32) (t0_1 : Int32) (t0_2 : Int32) (t0_3 : Int32) (t0_4 : Int32) (t0_5 : Int32) (t0_6 : Int32) (t0_7 : Int32) (t0_8 : Int32) (t0_9 : Int32) (t0_10 : Int32) (t0_11 : Int32) (t0_12 : Int32) (t0_13 : Int32) (t0_14 : Int32) (t0_15 : Int32) (t0_16 : Int32) (t0_17 : Int32) (t0_18 : Int32) (t0_19 : Int32) (t0_20 : Int32) (t0_21 : Int32) (t1_0 : (Nat → Int32)) : Int32 × (Nat → Int32) := F_VR_word_L2 x2 t0_0 t0_1 t0_2 t0_3 t0_4 t0_5 t0_6 t0_7 t0_8 t0_9 t0_10 t0_11 t0_12 t0_13 t0_14 t0_15 t0_16 t0_17 t0_18 t0_19 t0_20 t0_21 t1_0 1000000 x2 t0_17 t1_0
def S_VR_word_c15 (K_S_VR_word_L2 : Int64 → Int32 → (Nat → Int32) → Prop) (x2 : Int64) (t0_0 : Int32) (t0_1 : Int32) (t0_2 : Int32) (t0_3 : Int32) (t0_4 : Int32) (t0_5 : Int32) (t0_6 : Int32) (t0_7 : Int32) (t0_8 : Int32) (t0_9 : Int32) (t0_10 : Int32) (t0_11 : Int32) (t0_12 : Int32) (t0_13 : Int32) (t0_14 : Int32) (t0_15 : Int32) (t0_16 : Int32) (t0_17 : Int32) (t0_18 : Int32) (t0_19 : Int32) (t0_20 : Int32) (t0_21 : Int32) (t1_0 : (Nat → Int32)) (lx33 : Int64) (lx34 : Int32) (lx35 : (Nat → Int32)) (p70 : (Int32 × (Nat → Int32))) : Prop := K_S_VR_word_L2 (lx33 >>> ((8 : Int32).toInt64 &&& 63) : Int64) (p70.1 : Int32) (p70.2 : (Nat → Int32))
def S_VR_word_L2 (x2 : Int64) (t0_0 : Int32) (t0_1 : Int32) (t0_2 : Int32) (t0_3 : Int32) (t0_4 : Int32) (t0_5 : Int32) (t0_6 : Int32) (t0_7 : Int32) (t0_8 : Int32) (t0_9 : Int32) (t0_10 : Int32) (t0_11 : Int32) (t0_12 : Int32) (t0_13 : Int32) (t0_14 : Int32) (t0_15 : Int32) (t0_16 : Int32) (t0_17 : Int32) (t0_18 : Int32) (t0_19 : Int32) (t0_20 : Int32) (t0_21 : Int32) (t1_0 : (Nat → Int32)) : Nat → Int64 → Int32 → (Nat → Int32) → Prop
  | 0, _, _, _ => False
  | fm + 1, lx33, lx34, lx35 => if (lg_cmp lx33 0 : Int32) = (0 : Int32) then (True) else ((True ∧ S_VR_put ((lx33 &&& 255 : Int64).toInt32 : Int32) t0_0 t0_1 t0_2 t0_3 t0_4 t0_5 t0_6 t0_7 t0_8 t0_9 t0_10 t0_11 t0_12 t0_13 t0_14 t0_15 t0_16 lx34 t0_18 t0_19 t0_20 t0_21 lx35) ∧ (S_VR_word_c15 (S_VR_word_L2 x2 t0_0 t0_1 t0_2 t0_3 t0_4 t0_5 t0_6 t0_7 t0_8 t0_9 t0_10 t0_11 t0_12 t0_13 t0_14 t0_15 t0_16 t0_17 t0_18 t0_19 t0_20 t0_21 t1_0 fm) x2 t0_0 t0_1 t0_2 t0_3 t0_4 t0_5 t0_6 t0_7 t0_8 t0_9 t0_10 t0_11 t0_12 t0_13 t0_14 t0_15 t0_16 t0_17 t0_18 t0_19 t0_20 t0_21 t1_0 lx33 lx34 lx35 ((F_VR_put ((lx33 &&& 255 : Int64).toInt32 : Int32) t0_0 t0_1 t0_2 t0_3 t0_4 t0_5 t0_6 t0_7 t0_8 t0_9 t0_10 t0_11 t0_12 t0_13 t0_14 t0_15 t0_16 lx34 t0_18 t0_19 t0_20 t0_21 lx35) : (Int32 × (Nat → Int32)))))
def S_VR_word (x2 : Int64) (t0_0 : Int32) (t0_1 : Int32) (t0_2 : Int32) (t0_3 : Int32) (t0_4 : Int32) (t0_5 : Int32) (t0_6 : Int32) (t0_7 : Int32) (t0_8 : Int32) (t0_9 : Int32) (t0_10 : Int32) (t0_11 : Int32) (t0_12 : Int32) (t0_13 : Int32) (t0_14 : Int32) (t0_15 : Int32) (t0_16 : Int32) (t0_17 : Int32) (t0_18 : Int32) (t0_19 : Int32) (t0_20 : Int32) (t0_21 : Int32) (t1_0 : (Nat → Int32)) : Prop := S_VR_word_L2 x2 t0_0 t0_1 t0_2 t0_3 t0_4 t0_5 t0_6 t0_7 t0_8 t0_9 t0_10 t0_11 t0_12 t0_13 t0_14 t0_15 t0_16 t0_17 t0_18 t0_19 t0_20 t0_21 t1_0 1000000 x2 t0_17 t1_0
set_option maxRecDepth 100000 in
set_option maxHeartbeats 4000000 in
theorem X_VR_word (l : Launch) (D : va_G) (g : Nat → ClassId) (q : Nat → Nat) (ws : va_W) (x2 : Int64) (hI : q_I (msh g q) q ws) (t0_0 : Int32) (t0_1 : Int32) (t0_2 : Int32) (t0_3 : Int32) (t0_4 : Int32) (t0_5 : Int32) (t0_6 : Int32) (t0_7 : Int32) (t0_8 : Int32) (t0_9 : Int32) (t0_10 : Int32) (t0_11 : Int32) (t0_12 : Int32) (t0_13 : Int32) (t0_14 : Int32) (t0_15 : Int32) (t0_16 : Int32) (t0_17 : Int32) (t0_18 : Int32) (t0_19 : Int32) (t0_20 : Int32) (t0_21 : Int32) (hT0 : ws[157]? = (some (q 157, .inr (17, [.int t0_0, .ref (q 158), .int t0_1, .int t0_2, .ref (q 159), .ref (q 160), .ref (q 161), .ref (q 162), .ref (q 163), .int t0_3, .ref (q 164), .int t0_4, .int t0_5, .int t0_6, .int t0_7, .int t0_8, .int t0_9, .int t0_10, .int t0_11, .int t0_12, .int t0_13, .int t0_14, .int t0_15, .int t0_16, .ref (q 165), .int t0_17, .int t0_18, .int t0_19, .ref (q 166), .int t0_20, .int t0_21])) : Option (Nat × va_E))) (t1_0 : (Nat → Int32)) (hT1 : ws[165]? = (some (q 165, .inl (g 0, (20200 : Int32).toNatClampNeg, .inl t1_0)) : Option (Nat × va_E))) (hS : True ∧ S_VR_word x2 t0_0 t0_1 t0_2 t0_3 t0_4 t0_5 t0_6 t0_7 t0_8 t0_9 t0_10 t0_11 t0_12 t0_13 t0_14 t0_15 t0_16 t0_17 t0_18 t0_19 t0_20 t0_21 t1_0) : q_mV l y_VR_word prog_16_method_25_code 5 2 0 0 D g [.ref (q 157), .long x2] ws (fun u => q_I (msh g q) q u ∧ q_un ws u [157, 165] ∧ ∃ (u0_17 : Int32) (u1_0 : (Nat → Int32)), u[157]? = (some (q 157, .inr (17, [.int t0_0, .ref (q 158), .int t0_1, .int t0_2, .ref (q 159), .ref (q 160), .ref (q 161), .ref (q 162), .ref (q 163), .int t0_3, .ref (q 164), .int t0_4, .int t0_5, .int t0_6, .int t0_7, .int t0_8, .int t0_9, .int t0_10, .int t0_11, .int t0_12, .int t0_13, .int t0_14, .int t0_15, .int t0_16, .ref (q 165), .int u0_17, .int t0_18, .int t0_19, .ref (q 166), .int t0_20, .int t0_21])) : Option (Nat × va_E)) ∧ u[165]? = (some (q 165, .inl (g 0, (20200 : Int32).toNatClampNeg, .inl u1_0)) : Option (Nat × va_E)) ∧ (u0_17, u1_0) = (F_VR_word x2 t0_0 t0_1 t0_2 t0_3 t0_4 t0_5 t0_6 t0_7 t0_8 t0_9 t0_10 t0_11 t0_12 t0_13 t0_14 t0_15 t0_16 t0_17 t0_18 t0_19 t0_20 t0_21 t1_0)) := by
  intro sz
  refine q_into (by decide) (Nat.le_of_ble_eq_true rfl) ?_
  intro p e s m below meth c ls hsz C0 V hl
  have hx := C0.1
  have hb := C0.2.1
  have hZ9 := (n_w157 hI hT0).2.2.2
  obtain ⟨-, btt0_19⟩ := hZ9
  clear btt0_19
  have hF : q_un ws ws [157, 165] := q_u0
  have hl : lv_has ls 5 [(0, .ref (q 157)), (1, .long x2)] := hl
  refine lv_lload_n hx hb d_16_25_0 rfl (lv_at hl 1 rfl) ?_
  refine lv_lstore_n (lv' := [(3, .long x2), (0, .ref (q 157)), (1, .long x2)]) hx hb d_16_25_1 rfl hl (by decide) rfl (fun ls hl => ?_)
  refine q_loop (X := Nat × Int64 × Int32 × (Nat → Int32)) (fun z H locs ls w37 => q_Wd D g (va_A ws sz) s w37 H locs ∧ lv_has ls 5 [(3, .long z.2.1), (0, .ref (q 157))] ∧ q_I (msh g q) q w37 ∧ q_un ws w37 [157, 165] ∧ w37[157]? = (some (q 157, .inr (17, [.int t0_0, .ref (q 158), .int t0_1, .int t0_2, .ref (q 159), .ref (q 160), .ref (q 161), .ref (q 162), .ref (q 163), .int t0_3, .ref (q 164), .int t0_4, .int t0_5, .int t0_6, .int t0_7, .int t0_8, .int t0_9, .int t0_10, .int t0_11, .int t0_12, .int t0_13, .int t0_14, .int t0_15, .int t0_16, .ref (q 165), .int z.2.2.1, .int t0_18, .int t0_19, .ref (q 166), .int t0_20, .int t0_21])) : Option (Nat × va_E)) ∧ w37[165]? = (some (q 165, .inl (g 0, (20200 : Int32).toNatClampNeg, .inl z.2.2.2)) : Option (Nat × va_E)) ∧ F_VR_word_L2 x2 t0_0 t0_1 t0_2 t0_3 t0_4 t0_5 t0_6 t0_7 t0_8 t0_9 t0_10 t0_11 t0_12 t0_13 t0_14 t0_15 t0_16 t0_17 t0_18 t0_19 t0_20 t0_21 t1_0 z.1 z.2.1 z.2.2.1 z.2.2.2 = (F_VR_word x2 t0_0 t0_1 t0_2 t0_3 t0_4 t0_5 t0_6 t0_7 t0_8 t0_9 t0_10 t0_11 t0_12 t0_13 t0_14 t0_15 t0_16 t0_17 t0_18 t0_19 t0_20 t0_21 t1_0) ∧ True ∧ S_VR_word_L2 x2 t0_0 t0_1 t0_2 t0_3 t0_4 t0_5 t0_6 t0_7 t0_8 t0_9 t0_10 t0_11 t0_12 t0_13 t0_14 t0_15 t0_16 t0_17 t0_18 t0_19 t0_20 t0_21 t1_0 z.1 z.2.1 z.2.2.1 z.2.2.2) (fun z => z.1) ?_ ((1000000 : Nat), (x2 : Int64), (t0_17 : Int32), (t1_0 : (Nat → Int32))) _ _ _ ws ⟨V, q_lw hl (q_lw1 0 rfl (q_lw1 1 rfl q_lw0)), hI, hF, hT0, hT1, (show F_VR_word_L2 x2 t0_0 t0_1 t0_2 t0_3 t0_4 t0_5 t0_6 t0_7 t0_8 t0_9 t0_10 t0_11 t0_12 t0_13 t0_14 t0_15 t0_16 t0_17 t0_18 t0_19 t0_20 t0_21 t1_0 1000000 x2 t0_17 t1_0 = (F_VR_word x2 t0_0 t0_1 t0_2 t0_3 t0_4 t0_5 t0_6 t0_7 t0_8 t0_9 t0_10 t0_11 t0_12 t0_13 t0_14 t0_15 t0_16 t0_17 t0_18 t0_19 t0_20 t0_21 t1_0) from (by rw [F_VR_word.eq_1])), (show True ∧ S_VR_word_L2 x2 t0_0 t0_1 t0_2 t0_3 t0_4 t0_5 t0_6 t0_7 t0_8 t0_9 t0_10 t0_11 t0_12 t0_13 t0_14 t0_15 t0_16 t0_17 t0_18 t0_19 t0_20 t0_21 t1_0 1000000 x2 t0_17 t1_0 from (by have h := hS; rw [S_VR_word.eq_1] at h; with_reducible exact h))⟩
  rintro ⟨fu42, lx33, lx34, lx35⟩ H locs ls w37 ⟨V, hl, hI, hF, hO38, hO39, hR40, hS41⟩ ih36
  obtain ⟨fm44, rfl⟩ : ∃ m, fu42 = m + 1 := Nat.exists_eq_succ_of_ne_zero (fun e => by subst e; rw [S_VR_word_L2.eq_1] at hS41; exact hS41.2)
  replace hl : lv_has ls 5 [(3, .long lx33), (0, .ref (q 157))] := hl
  replace hO38 : w37[157]? = (some (q 157, .inr (17, [.int t0_0, .ref (q 158), .int t0_1, .int t0_2, .ref (q 159), .ref (q 160), .ref (q 161), .ref (q 162), .ref (q 163), .int t0_3, .ref (q 164), .int t0_4, .int t0_5, .int t0_6, .int t0_7, .int t0_8, .int t0_9, .int t0_10, .int t0_11, .int t0_12, .int t0_13, .int t0_14, .int t0_15, .int t0_16, .ref (q 165), .int lx34, .int t0_18, .int t0_19, .ref (q 166), .int t0_20, .int t0_21])) : Option (Nat × va_E)) := hO38
  replace hO39 : w37[165]? = (some (q 165, .inl (g 0, (20200 : Int32).toNatClampNeg, .inl lx35)) : Option (Nat × va_E)) := hO39
  refine lv_lload_n hx hb d_16_25_2 rfl (lv_at hl 0 rfl) ?_
  refine lv_lconst (v := 0) hx hb d_16_25_3 (by decide) ?_
  refine W.lcmp hx hb d_16_25_4 ?_
  obtain ⟨a45, e46⟩ := q_nm (lg_cmp lx33 0 : Int32)
  refine q_ti (v := a45) e46 ?_
  refine lv_if_eq (tgt := 26) hx hb d_16_25_5 (by decide) (fun c48 => ?_) (fun c48 => ?_)
  ·
    exact q_retv C0 V (⟨hI, hF, lx34, lx35, hO38, hO39, (show (lx34, lx35) = (F_VR_word x2 t0_0 t0_1 t0_2 t0_3 t0_4 t0_5 t0_6 t0_7 t0_8 t0_9 t0_10 t0_11 t0_12 t0_13 t0_14 t0_15 t0_16 t0_17 t0_18 t0_19 t0_20 t0_21 t1_0) from Eq.trans (by have c48x := c48; rw [← e46] at c48x; rw [F_VR_word_L2.eq_2, if_pos c48x]) hR40)⟩) d_16_25_26
  ·
    refine lv_aload_n hx hb d_16_25_8 rfl (lv_at hl 1 rfl) ?_
    refine lv_lload_n hx hb d_16_25_9 rfl (lv_at hl 0 rfl) ?_
    refine q_ldc2 C0 rfl w_3162 d_16_25_10 ?_
    refine lv_land hx hb d_16_25_13 ?_
    obtain ⟨j51, e52⟩ := q_nm (lx33 &&& 255 : Int64)
    refine q_tl (v := j51) e52 ?_
    refine lv_l2i hx hb d_16_25_14 rfl ?_
    obtain ⟨a54, e55⟩ := q_nm (j51.toInt32 : Int32)
    refine q_ti (v := a54) e55 ?_
    have ob57 : True ∧ S_VR_put a54 t0_0 t0_1 t0_2 t0_3 t0_4 t0_5 t0_6 t0_7 t0_8 t0_9 t0_10 t0_11 t0_12 t0_13 t0_14 t0_15 t0_16 lx34 t0_18 t0_19 t0_20 t0_21 lx35 := (by rw [← e55, ← e52]; have h := hS41; rw [S_VR_word_L2.eq_2] at h; have c48x := c48; rw [← e46] at c48x; rw [if_neg c48x] at h; with_reducible exact h.2.1)
    refine q_gov V (q_runV (As := [.int a54]) (rest := []) (d := 1) (mc := 0) (ms := 0) (ci := 17) C0 V rfl LV_VR_122 (X_VR_put l D g q w37  a54 hI t0_0 t0_1 t0_2 t0_3 t0_4 t0_5 t0_6 t0_7 t0_8 t0_9 t0_10 t0_11 t0_12 t0_13 t0_14 t0_15 t0_16 lx34 t0_18 t0_19 t0_20 t0_21 hO38 lx35 hO39 ob57 _) rfl rfl hO38 rfl hl.1 rfl (Nat.le_of_ble_eq_true rfl) ⟨by decide, by decide⟩ ⟨Nat.le_of_ble_eq_true rfl, Nat.le_of_ble_eq_true rfl⟩ d_16_25_15) (fun u58 H locs hp59 V => ?_)
    obtain ⟨hI, hZ9⟩ := hp59
    obtain ⟨hu69, hZ9⟩ := hZ9
    obtain ⟨y61, hZ9⟩ := hZ9
    obtain ⟨f62, hZ9⟩ := hZ9
    obtain ⟨hO60, hZ9⟩ := hZ9
    obtain ⟨hA63, hZ9⟩ := hZ9
    replace hZ9 := hZ9.2.2.2
    obtain ⟨-, hE68⟩ := hZ9
    replace hO60 : u58[157]? = (some (q 157, .inr (17, [.int t0_0, .ref (q 158), .int t0_1, .int t0_2, .ref (q 159), .ref (q 160), .ref (q 161), .ref (q 162), .ref (q 163), .int t0_3, .ref (q 164), .int t0_4, .int t0_5, .int t0_6, .int t0_7, .int t0_8, .int t0_9, .int t0_10, .int t0_11, .int t0_12, .int t0_13, .int t0_14, .int t0_15, .int t0_16, .ref (q 165), .int y61, .int t0_18, .int t0_19, .ref (q 166), .int t0_20, .int t0_21])) : Option (Nat × va_E)) := hO60
    replace hA63 : u58[165]? = (some (q 165, .inl (g 0, (20200 : Int32).toNatClampNeg, .inl f62)) : Option (Nat × va_E)) := hA63
    obtain ⟨p70, e71⟩ : ∃ z, z = (F_VR_put a54 t0_0 t0_1 t0_2 t0_3 t0_4 t0_5 t0_6 t0_7 t0_8 t0_9 t0_10 t0_11 t0_12 t0_13 t0_14 t0_15 t0_16 lx34 t0_18 t0_19 t0_20 t0_21 lx35) := ⟨_, rfl⟩
    have e72 : y61 = p70.1 := congrArg (fun z => z.1) (hE68.trans e71.symm)
    have e73 : f62 = p70.2 := congrArg (fun z => z.2) (hE68.trans e71.symm)
    replace hF := q_uc hF hu69 (by simp)
    have hR74 := (show F_VR_word_c15 (F_VR_word_L2 x2 t0_0 t0_1 t0_2 t0_3 t0_4 t0_5 t0_6 t0_7 t0_8 t0_9 t0_10 t0_11 t0_12 t0_13 t0_14 t0_15 t0_16 t0_17 t0_18 t0_19 t0_20 t0_21 t1_0 fm44) x2 t0_0 t0_1 t0_2 t0_3 t0_4 t0_5 t0_6 t0_7 t0_8 t0_9 t0_10 t0_11 t0_12 t0_13 t0_14 t0_15 t0_16 t0_17 t0_18 t0_19 t0_20 t0_21 t1_0 lx33 lx34 lx35 p70 = (F_VR_word x2 t0_0 t0_1 t0_2 t0_3 t0_4 t0_5 t0_6 t0_7 t0_8 t0_9 t0_10 t0_11 t0_12 t0_13 t0_14 t0_15 t0_16 t0_17 t0_18 t0_19 t0_20 t0_21 t1_0) from Eq.trans (by have c48x := c48; rw [← e46] at c48x; rw [e71, ← e55, ← e52, F_VR_word_L2.eq_2, if_neg c48x]) hR40)
    have hS75 := (show True ∧ S_VR_word_c15 (S_VR_word_L2 x2 t0_0 t0_1 t0_2 t0_3 t0_4 t0_5 t0_6 t0_7 t0_8 t0_9 t0_10 t0_11 t0_12 t0_13 t0_14 t0_15 t0_16 t0_17 t0_18 t0_19 t0_20 t0_21 t1_0 fm44) x2 t0_0 t0_1 t0_2 t0_3 t0_4 t0_5 t0_6 t0_7 t0_8 t0_9 t0_10 t0_11 t0_12 t0_13 t0_14 t0_15 t0_16 t0_17 t0_18 t0_19 t0_20 t0_21 t1_0 lx33 lx34 lx35 p70 from (by rw [e71, ← e55, ← e52]; have h := hS41; rw [S_VR_word_L2.eq_2] at h; have c48x := c48; rw [← e46] at c48x; rw [if_neg c48x] at h; replace h := q_s2 h; with_reducible exact h))
    refine lv_lload_n hx hb d_16_25_18 rfl (lv_at hl 0 rfl) ?_
    refine lv_bipush (v := 8) hx hb d_16_25_19 (by decide) ?_
    refine lv_lshr hx hb d_16_25_21 rfl ?_
    obtain ⟨j79, e80⟩ := q_nm (lx33 >>> ((8 : Int32).toInt64 &&& 63) : Int64)
    refine q_tl (v := j79) e80 ?_
    refine lv_lstore_n (lv' := [(3, .long j79), (0, .ref (q 157))]) hx hb d_16_25_22 rfl hl (by decide) rfl (fun ls hl => ?_)
    refine lv_goto (tgt := 2) hx hb d_16_25_23 (by decide) ?_
    exact ih36 ((fm44 : Nat), (j79 : Int64), (y61 : Int32), (f62 : (Nat → Int32))) _ _ _ _ (Nat.lt_succ_self _) ⟨V, q_lw hl (q_lw1 0 rfl (q_lw1 1 rfl q_lw0)), hI, hF, hO60, hA63, (show F_VR_word_L2 x2 t0_0 t0_1 t0_2 t0_3 t0_4 t0_5 t0_6 t0_7 t0_8 t0_9 t0_10 t0_11 t0_12 t0_13 t0_14 t0_15 t0_16 t0_17 t0_18 t0_19 t0_20 t0_21 t1_0 fm44 j79 y61 f62 = (F_VR_word x2 t0_0 t0_1 t0_2 t0_3 t0_4 t0_5 t0_6 t0_7 t0_8 t0_9 t0_10 t0_11 t0_12 t0_13 t0_14 t0_15 t0_16 t0_17 t0_18 t0_19 t0_20 t0_21 t1_0) from Eq.trans (by rw [← e80, e73, e72, F_VR_word_c15.eq_1]) hR74), (show True ∧ S_VR_word_L2 x2 t0_0 t0_1 t0_2 t0_3 t0_4 t0_5 t0_6 t0_7 t0_8 t0_9 t0_10 t0_11 t0_12 t0_13 t0_14 t0_15 t0_16 t0_17 t0_18 t0_19 t0_20 t0_21 t1_0 fm44 j79 y61 f62 from (by rw [← e80, e73, e72]; have h := hS75; rw [S_VR_word_c15.eq_1] at h; with_reducible exact h))⟩
theorem d_16_35_0 : decode prog_16_method_35_code 0 = .ok (.lload_n 0, 1) := by decide +kernel
theorem d_16_35_1 : decode prog_16_method_35_code 1 = .ok (.lconst 0, 1) := by decide +kernel
theorem d_16_35_2 : decode prog_16_method_35_code 2 = .ok (.lcmp, 1) := by decide +kernel
theorem d_16_35_3 : decode prog_16_method_35_code 3 = .ok (.ifCond .ge 8, 3) := by decide +kernel
theorem d_16_35_11 : decode prog_16_method_35_code 11 = .ok (.lload_n 0, 1) := by decide +kernel
theorem d_16_35_12 : decode prog_16_method_35_code 12 = .ok (.lreturn, 1) := by decide +kernel
theorem d_16_35_6 : decode prog_16_method_35_code 6 = .ok (.lload_n 0, 1) := by decide +kernel
theorem d_16_35_7 : decode prog_16_method_35_code 7 = .ok (.lneg, 1) := by decide +kernel
theorem d_16_35_8 : decode prog_16_method_35_code 8 = .ok (.goto 4, 3) := by decide +kernel
def y_VR_size64 : MethodName := ⟨"NumberHouseModel$DirectiveRows", "size64", "(J)J"⟩
def F_VR_size64 (x1 : Int64) : Int64 := if (0 : Int32) ≤ (lg_cmp x1 0 : Int32) then (x1) else ((-x1 : Int64))
set_option maxRecDepth 100000 in
set_option maxHeartbeats 4000000 in
theorem X_VR_size64 (l : Launch) (D : va_G) (g : Nat → ClassId) (q : Nat → Nat) (ws : va_W) (x1 : Int64) (hI : q_I (msh g q) q ws) : q_mL l y_VR_size64 prog_16_method_35_code 2 1 0 0 D g [.long x1] ws (fun r u => ws = u ∧ r = (F_VR_size64 x1)) := by
  intro sz
  refine q_into (by decide) (Nat.le_of_ble_eq_true rfl) ?_
  intro p e s m below meth c ls hsz C0 V hl
  have hx := C0.1
  have hb := C0.2.1
  have hl : lv_has ls 2 [(0, .long x1)] := hl
  refine lv_lload_n hx hb d_16_35_0 rfl (lv_at hl 0 rfl) ?_
  refine lv_lconst (v := 0) hx hb d_16_35_1 (by decide) ?_
  refine W.lcmp hx hb d_16_35_2 ?_
  obtain ⟨a1, e2⟩ := q_nm (lg_cmp x1 0 : Int32)
  refine q_ti (v := a1) e2 ?_
  refine lv_if_ge (tgt := 11) hx hb d_16_35_3 (by decide) (fun c4 => ?_) (fun c4 => ?_)
  ·
    refine lv_lload_n hx hb d_16_35_11 rfl (lv_at hl 0 rfl) ?_
    exact q_retl C0 V (⟨rfl, (show x1 = (F_VR_size64 x1) from (by have c4x := c4; rw [← e2] at c4x; rw [F_VR_size64.eq_1, if_pos c4x]))⟩) d_16_35_12
  ·
    refine lv_lload_n hx hb d_16_35_6 rfl (lv_at hl 0 rfl) ?_
    refine lv_lneg hx hb d_16_35_7 ?_
    obtain ⟨j7, e8⟩ := q_nm (-x1 : Int64)
    refine q_tl (v := j7) e8 ?_
    refine lv_goto (tgt := 12) hx hb d_16_35_8 (by decide) ?_
    exact q_retl C0 V (⟨rfl, (show j7 = (F_VR_size64 x1) from (by have c4x := c4; rw [← e2] at c4x; rw [← e8, F_VR_size64.eq_1, if_neg c4x]))⟩) d_16_35_12
theorem d_16_26_0 : decode prog_16_method_26_code 0 = .ok (.aload_n 0, 1) := by decide +kernel
theorem d_16_26_1 : decode prog_16_method_26_code 1 = .ok (.iconst 0, 1) := by decide +kernel
theorem d_16_26_2 : decode prog_16_method_26_code 2 = .ok (.putfield 126, 3) := by decide +kernel
set_option maxRecDepth 100000 in
theorem w_2233 : (Cond.fieldLink "NumberHouseModel$DirectiveRows" (126 : Nat) "NumberHouseModel$DirectiveRows" "many" "I") ∈ q_tbl := q_of10 73 rfl (by decide +kernel)
theorem d_16_26_5 : decode prog_16_method_26_code 5 = .ok (.lload_n 1, 1) := by decide +kernel
theorem d_16_26_6 : decode prog_16_method_26_code 6 = .ok (.lstore 4, 2) := by decide +kernel
theorem d_16_26_8 : decode prog_16_method_26_code 8 = .ok (.lload 4, 2) := by decide +kernel
theorem d_16_26_10 : decode prog_16_method_26_code 10 = .ok (.lconst 0, 1) := by decide +kernel
theorem d_16_26_11 : decode prog_16_method_26_code 11 = .ok (.lcmp, 1) := by decide +kernel
theorem d_16_26_22 : decode prog_16_method_26_code 22 = .ok (.lload 4, 2) := by decide +kernel
theorem d_16_26_24 : decode prog_16_method_26_code 24 = .ok (.iconst 1, 1) := by decide +kernel
theorem d_16_26_25 : decode prog_16_method_26_code 25 = .ok (.lushr, 1) := by decide +kernel
theorem d_16_26_26 : decode prog_16_method_26_code 26 = .ok (.iload_n 3, 1) := by decide +kernel
theorem d_16_26_27 : decode prog_16_method_26_code 27 = .ok (.i2l, 1) := by decide +kernel
theorem d_16_26_28 : decode prog_16_method_26_code 28 = .ok (.ldiv, 1) := by decide +kernel
theorem d_16_26_29 : decode prog_16_method_26_code 29 = .ok (.ldc2_w 129, 3) := by decide +kernel
set_option maxRecDepth 100000 in
theorem w_3189 : (Cond.constantLong "NumberHouseModel$DirectiveRows" (129 : Nat) (2 : Int64)) ∈ q_tbl := q_of14 69 rfl (by decide +kernel)
theorem d_16_26_32 : decode prog_16_method_26_code 32 = .ok (.lmul, 1) := by decide +kernel
theorem d_16_26_33 : decode prog_16_method_26_code 33 = .ok (.lstore 6, 2) := by decide +kernel
theorem d_16_26_35 : decode prog_16_method_26_code 35 = .ok (.lload 4, 2) := by decide +kernel
theorem d_16_26_37 : decode prog_16_method_26_code 37 = .ok (.lload 6, 2) := by decide +kernel
theorem d_16_26_39 : decode prog_16_method_26_code 39 = .ok (.iload_n 3, 1) := by decide +kernel
theorem d_16_26_40 : decode prog_16_method_26_code 40 = .ok (.i2l, 1) := by decide +kernel
theorem d_16_26_41 : decode prog_16_method_26_code 41 = .ok (.lmul, 1) := by decide +kernel
theorem d_16_26_42 : decode prog_16_method_26_code 42 = .ok (.lsub, 1) := by decide +kernel
theorem d_16_26_43 : decode prog_16_method_26_code 43 = .ok (.lstore 8, 2) := by decide +kernel
theorem d_16_26_45 : decode prog_16_method_26_code 45 = .ok (.lload 8, 2) := by decide +kernel
theorem d_16_26_47 : decode prog_16_method_26_code 47 = .ok (.iload_n 3, 1) := by decide +kernel
theorem d_16_26_48 : decode prog_16_method_26_code 48 = .ok (.i2l, 1) := by decide +kernel
theorem d_16_26_49 : decode prog_16_method_26_code 49 = .ok (.lcmp, 1) := by decide +kernel
theorem d_16_26_62 : decode prog_16_method_26_code 62 = .ok (.lstore 6, 2) := by decide +kernel
theorem d_16_26_64 : decode prog_16_method_26_code 64 = .ok (.aload_n 0, 1) := by decide +kernel
theorem d_16_26_65 : decode prog_16_method_26_code 65 = .ok (.getfield 39, 3) := by decide +kernel
theorem d_16_26_68 : decode prog_16_method_26_code 68 = .ok (.aload_n 0, 1) := by decide +kernel
theorem d_16_26_69 : decode prog_16_method_26_code 69 = .ok (.getfield 126, 3) := by decide +kernel
theorem d_16_26_72 : decode prog_16_method_26_code 72 = .ok (.lload 4, 2) := by decide +kernel
theorem d_16_26_74 : decode prog_16_method_26_code 74 = .ok (.lload 6, 2) := by decide +kernel
theorem d_16_26_76 : decode prog_16_method_26_code 76 = .ok (.iload_n 3, 1) := by decide +kernel
theorem d_16_26_77 : decode prog_16_method_26_code 77 = .ok (.i2l, 1) := by decide +kernel
theorem d_16_26_78 : decode prog_16_method_26_code 78 = .ok (.lmul, 1) := by decide +kernel
theorem d_16_26_79 : decode prog_16_method_26_code 79 = .ok (.lsub, 1) := by decide +kernel
theorem d_16_26_80 : decode prog_16_method_26_code 80 = .ok (.l2i, 1) := by decide +kernel
theorem d_16_26_81 : decode prog_16_method_26_code 81 = .ok (.iastore, 1) := by decide +kernel
theorem d_16_26_82 : decode prog_16_method_26_code 82 = .ok (.aload_n 0, 1) := by decide +kernel
theorem d_16_26_83 : decode prog_16_method_26_code 83 = .ok (.dup, 1) := by decide +kernel
theorem d_16_26_84 : decode prog_16_method_26_code 84 = .ok (.getfield 126, 3) := by decide +kernel
theorem d_16_26_87 : decode prog_16_method_26_code 87 = .ok (.iconst 1, 1) := by decide +kernel
theorem d_16_26_88 : decode prog_16_method_26_code 88 = .ok (.iadd, 1) := by decide +kernel
theorem d_16_26_89 : decode prog_16_method_26_code 89 = .ok (.putfield 126, 3) := by decide +kernel
theorem d_16_26_92 : decode prog_16_method_26_code 92 = .ok (.lload 6, 2) := by decide +kernel
theorem d_16_26_94 : decode prog_16_method_26_code 94 = .ok (.lstore 4, 2) := by decide +kernel
theorem d_16_26_96 : decode prog_16_method_26_code 96 = .ok (.goto (-88), 3) := by decide +kernel
theorem d_16_26_50 : decode prog_16_method_26_code 50 = .ok (.ifCond .lt 10, 3) := by decide +kernel
theorem d_16_26_60 : decode prog_16_method_26_code 60 = .ok (.lload 6, 2) := by decide +kernel
theorem d_16_26_53 : decode prog_16_method_26_code 53 = .ok (.lload 6, 2) := by decide +kernel
theorem d_16_26_55 : decode prog_16_method_26_code 55 = .ok (.lconst 1, 1) := by decide +kernel
theorem d_16_26_56 : decode prog_16_method_26_code 56 = .ok (.ladd, 1) := by decide +kernel
theorem d_16_26_57 : decode prog_16_method_26_code 57 = .ok (.goto 5, 3) := by decide +kernel
theorem d_16_26_12 : decode prog_16_method_26_code 12 = .ok (.ifCond .ne 10, 3) := by decide +kernel
theorem d_16_26_15 : decode prog_16_method_26_code 15 = .ok (.aload_n 0, 1) := by decide +kernel
theorem d_16_26_16 : decode prog_16_method_26_code 16 = .ok (.getfield 126, 3) := by decide +kernel
theorem d_16_26_19 : decode prog_16_method_26_code 19 = .ok (.ifCond .ne 80, 3) := by decide +kernel
theorem d_16_26_99 : decode prog_16_method_26_code 99 = .ok (.iconst 0, 1) := by decide +kernel
theorem d_16_26_100 : decode prog_16_method_26_code 100 = .ok (.istore 6, 2) := by decide +kernel
theorem d_16_26_102 : decode prog_16_method_26_code 102 = .ok (.aload_n 0, 1) := by decide +kernel
theorem d_16_26_103 : decode prog_16_method_26_code 103 = .ok (.getfield 126, 3) := by decide +kernel
theorem d_16_26_106 : decode prog_16_method_26_code 106 = .ok (.iconst 1, 1) := by decide +kernel
theorem d_16_26_107 : decode prog_16_method_26_code 107 = .ok (.isub, 1) := by decide +kernel
theorem d_16_26_108 : decode prog_16_method_26_code 108 = .ok (.istore 7, 2) := by decide +kernel
theorem d_16_26_110 : decode prog_16_method_26_code 110 = .ok (.iload 6, 2) := by decide +kernel
theorem d_16_26_112 : decode prog_16_method_26_code 112 = .ok (.iload 7, 2) := by decide +kernel
theorem d_16_26_114 : decode prog_16_method_26_code 114 = .ok (.if_icmp .ge 44, 3) := by decide +kernel
theorem d_16_26_158 : decode prog_16_method_26_code 158 = .ok (.aload_n 0, 1) := by decide +kernel
theorem d_16_26_159 : decode prog_16_method_26_code 159 = .ok (.aload_n 0, 1) := by decide +kernel
theorem d_16_26_160 : decode prog_16_method_26_code 160 = .ok (.getfield 126, 3) := by decide +kernel
theorem d_16_26_163 : decode prog_16_method_26_code 163 = .ok (.putfield 131, 3) := by decide +kernel
set_option maxRecDepth 100000 in
theorem w_2234 : (Cond.fieldLink "NumberHouseModel$DirectiveRows" (131 : Nat) "NumberHouseModel$DirectiveRows" "point" "I") ∈ q_tbl := q_of10 74 rfl (by decide +kernel)
theorem d_16_26_166 : decode prog_16_method_26_code 166 = .ok (.return_, 1) := by decide +kernel
theorem d_16_26_117 : decode prog_16_method_26_code 117 = .ok (.aload_n 0, 1) := by decide +kernel
theorem d_16_26_118 : decode prog_16_method_26_code 118 = .ok (.getfield 39, 3) := by decide +kernel
theorem d_16_26_121 : decode prog_16_method_26_code 121 = .ok (.iload 6, 2) := by decide +kernel
theorem d_16_26_123 : decode prog_16_method_26_code 123 = .ok (.iaload, 1) := by decide +kernel
theorem d_16_26_124 : decode prog_16_method_26_code 124 = .ok (.istore 8, 2) := by decide +kernel
theorem d_16_26_126 : decode prog_16_method_26_code 126 = .ok (.aload_n 0, 1) := by decide +kernel
theorem d_16_26_127 : decode prog_16_method_26_code 127 = .ok (.getfield 39, 3) := by decide +kernel
theorem d_16_26_130 : decode prog_16_method_26_code 130 = .ok (.iload 6, 2) := by decide +kernel
theorem d_16_26_132 : decode prog_16_method_26_code 132 = .ok (.aload_n 0, 1) := by decide +kernel
theorem d_16_26_133 : decode prog_16_method_26_code 133 = .ok (.getfield 39, 3) := by decide +kernel
theorem d_16_26_136 : decode prog_16_method_26_code 136 = .ok (.iload 7, 2) := by decide +kernel
theorem d_16_26_138 : decode prog_16_method_26_code 138 = .ok (.iaload, 1) := by decide +kernel
theorem d_16_26_139 : decode prog_16_method_26_code 139 = .ok (.iastore, 1) := by decide +kernel
theorem d_16_26_140 : decode prog_16_method_26_code 140 = .ok (.aload_n 0, 1) := by decide +kernel
theorem d_16_26_141 : decode prog_16_method_26_code 141 = .ok (.getfield 39, 3) := by decide +kernel
theorem d_16_26_144 : decode prog_16_method_26_code 144 = .ok (.iload 7, 2) := by decide +kernel
theorem d_16_26_146 : decode prog_16_method_26_code 146 = .ok (.iload 8, 2) := by decide +kernel
theorem d_16_26_148 : decode prog_16_method_26_code 148 = .ok (.iastore, 1) := by decide +kernel
theorem d_16_26_149 : decode prog_16_method_26_code 149 = .ok (.iinc 6 1, 3) := by decide +kernel
theorem d_16_26_152 : decode prog_16_method_26_code 152 = .ok (.iinc 7 (-1), 3) := by decide +kernel
theorem d_16_26_155 : decode prog_16_method_26_code 155 = .ok (.goto (-45), 3) := by decide +kernel
def y_VR_spread : MethodName := ⟨"NumberHouseModel$DirectiveRows", "spread", "(JI)V"⟩
def F_VR_spread_J62 (K_F_VR_spread_L8 : Int64 → Int32 → (Nat → Int32) → (Int32 × Int32 × (Nat → Int32))) (x2 : Int64) (x3 : Int32) (t0_0 : Int32) (t0_1 : Int32) (t0_2 : Int32) (t0_3 : Int32) (t0_4 : Int32) (t0_5 : Int32) (t0_6 : Int32) (t0_7 : Int32) (t0_8 : Int32) (t0_9 : Int32) (t0_10 : Int32) (t0_11 : Int32) (t0_12 : Int32) (t0_13 : Int32) (t0_14 : Int32) (t0_15 : Int32) (t0_16 : Int32) (t0_17 : Int32) (t0_18 : Int32) (t0_19 : Int32) (t0_20 : Int32) (t0_21 : Int32) (t1_0 : (Nat → Int32)) (lx35 : Int64) (lx36 : Int32) (lx37 : (Nat → Int32)) (lx84 : Int64) : Int32 × Int32 × (Nat → Int32) := K_F_VR_spread_L8 lx84 (lx36 + 1 : Int32) (upd lx37 lx36.toNatClampNeg ((lx35 - (lx84 * (x3.toInt64 : Int64) : Int64) : Int64).toInt32 : Int32) : (Nat → Int32))
def F_VR_spread_J22 (K_F_VR_spread_L8 : Int64 → Int32 → (Nat → Int32) → (Int32 × Int32 × (Nat → Int32))) (x2 : Int64) (x3 : Int32) (t0_0 : Int32) (t0_1 : Int32) (t0_2 : Int32) (t0_3 : Int32) (t0_4 : Int32) (t0_5 : Int32) (t0_6 : Int32) (t0_7 : Int32) (t0_8 : Int32) (t0_9 : Int32) (t0_10 : Int32) (t0_11 : Int32) (t0_12 : Int32) (t0_13 : Int32) (t0_14 : Int32) (t0_15 : Int32) (t0_16 : Int32) (t0_17 : Int32) (t0_18 : Int32) (t0_19 : Int32) (t0_20 : Int32) (t0_21 : Int32) (t1_0 : (Nat → Int32)) (lx35 : Int64) (lx36 : Int32) (lx37 : (Nat → Int32)) : Int32 × Int32 × (Nat → Int32) := if (lg_cmp (lx35 - (((((lx35.toUInt64 >>> ((1 : Int32).toInt64.toUInt64 &&& Int64.toUInt64 63)).toInt64 : Int64) / (x3.toInt64 : Int64) : Int64) * 2 : Int64) * (x3.toInt64 : Int64) : Int64) : Int64) (x3.toInt64 : Int64) : Int32) < (0 : Int32) then (F_VR_spread_J62 K_F_VR_spread_L8 x2 x3 t0_0 t0_1 t0_2 t0_3 t0_4 t0_5 t0_6 t0_7 t0_8 t0_9 t0_10 t0_11 t0_12 t0_13 t0_14 t0_15 t0_16 t0_17 t0_18 t0_19 t0_20 t0_21 t1_0 lx35 lx36 lx37 ((((lx35.toUInt64 >>> ((1 : Int32).toInt64.toUInt64 &&& Int64.toUInt64 63)).toInt64 : Int64) / (x3.toInt64 : Int64) : Int64) * 2 : Int64)) else (F_VR_spread_J62 K_F_VR_spread_L8 x2 x3 t0_0 t0_1 t0_2 t0_3 t0_4 t0_5 t0_6 t0_7 t0_8 t0_9 t0_10 t0_11 t0_12 t0_13 t0_14 t0_15 t0_16 t0_17 t0_18 t0_19 t0_20 t0_21 t1_0 lx35 lx36 lx37 (((((lx35.toUInt64 >>> ((1 : Int32).toInt64.toUInt64 &&& Int64.toUInt64 63)).toInt64 : Int64) / (x3.toInt64 : Int64) : Int64) * 2 : Int64) + 1 : Int64))
def F_VR_spread_L110 (K_F_VR_spread_L8 : Int64 → Int32 → (Nat → Int32) → (Int32 × Int32 × (Nat → Int32))) (x2 : Int64) (x3 : Int32) (t0_0 : Int32) (t0_1 : Int32) (t0_2 : Int32) (t0_3 : Int32) (t0_4 : Int32) (t0_5 : Int32) (t0_6 : Int32) (t0_7 : Int32) (t0_8 : Int32) (t0_9 : Int32) (t0_10 : Int32) (t0_11 : Int32) (t0_12 : Int32) (t0_13 : Int32) (t0_14 : Int32) (t0_15 : Int32) (t0_16 : Int32) (t0_17 : Int32) (t0_18 : Int32) (t0_19 : Int32) (t0_20 : Int32) (t0_21 : Int32) (t1_0 : (Nat → Int32)) (lx35 : Int64) (lx36 : Int32) (lx37 : (Nat → Int32)) : Nat → Int32 → Int32 → (Nat → Int32) → (Int32 × Int32 × (Nat → Int32))
  | 0, _, _, _ => default
  | fm + 1, lx127, lx128, lx129 => if lx127 ≤ lx128 then ((lx36, lx36, lx129)) else (F_VR_spread_L110 K_F_VR_spread_L8 x2 x3 t0_0 t0_1 t0_2 t0_3 t0_4 t0_5 t0_6 t0_7 t0_8 t0_9 t0_10 t0_11 t0_12 t0_13 t0_14 t0_15 t0_16 t0_17 t0_18 t0_19 t0_20 t0_21 t1_0 lx35 lx36 lx37 fm (lx127 + (-1) : Int32) (lx128 + 1 : Int32) (upd (upd lx129 lx128.toNatClampNeg (lx129 lx127.toNatClampNeg : Int32) : (Nat → Int32)) lx127.toNatClampNeg (lx129 lx128.toNatClampNeg : Int32) : (Nat → Int32)))
def F_VR_spread_L8 (x2 : Int64) (x3 : Int32) (t0_0 : Int32) (t0_1 : Int32) (t0_2 : Int32) (t0_3 : Int32) (t0_4 : Int32) (t0_5 : Int32) (t0_6 : Int32) (t0_7 : Int32) (t0_8 : Int32) (t0_9 : Int32) (t0_10 : Int32) (t0_11 : Int32) (t0_12 : Int32) (t0_13 : Int32) (t0_14 : Int32) (t0_15 : Int32) (t0_16 : Int32) (t0_17 : Int32) (t0_18 : Int32) (t0_19 : Int32) (t0_20 : Int32) (t0_21 : Int32) (t1_0 : (Nat → Int32)) : Nat → Int64 → Int32 → (Nat → Int32) → (Int32 × Int32 × (Nat → Int32))
  | 0, _, _, _ => default
  | fm + 1, lx35, lx36, lx37 => if (lg_cmp lx35 0 : Int32) = (0 : Int32) then (if lx36 = (0 : Int32) then (F_VR_spread_J22 (F_VR_spread_L8 x2 x3 t0_0 t0_1 t0_2 t0_3 t0_4 t0_5 t0_6 t0_7 t0_8 t0_9 t0_10 t0_11 t0_12 t0_13 t0_14 t0_15 t0_16 t0_17 t0_18 t0_19 t0_20 t0_21 t1_0 fm) x2 x3 t0_0 t0_1 t0_2 t0_3 t0_4 t0_5 t0_6 t0_7 t0_8 t0_9 t0_10 t0_11 t0_12 t0_13 t0_14 t0_15 t0_16 t0_17 t0_18 t0_19 t0_20 t0_21 t1_0 lx35 lx36 lx37) else (F_VR_spread_L110 (F_VR_spread_L8 x2 x3 t0_0 t0_1 t0_2 t0_3 t0_4 t0_5 t0_6 t0_7 t0_8 t0_9 t0_10 t0_11 t0_12 t0_13 t0_14 t0_15 t0_16 t0_17 t0_18 t0_19 t0_20 t0_21 t1_0 fm) x2 x3 t0_0 t0_1 t0_2 t0_3 t0_4 t0_5 t0_6 t0_7 t0_8 t0_9 t0_10 t0_11 t0_12 t0_13 t0_14 t0_15 t0_16 t0_17 t0_18 t0_19 t0_20 t0_21 t1_0 lx35 lx36 lx37 (((lx36 - 1 : Int32).toInt - ((-1))).toNat + 1) (lx36 - 1 : Int32) 0 lx37)) else (F_VR_spread_J22 (F_VR_spread_L8 x2 x3 t0_0 t0_1 t0_2 t0_3 t0_4 t0_5 t0_6 t0_7 t0_8 t0_9 t0_10 t0_11 t0_12 t0_13 t0_14 t0_15 t0_16 t0_17 t0_18 t0_19 t0_20 t0_21 t1_0 fm) x2 x3 t0_0 t0_1 t0_2 t0_3 t0_4 t0_5 t0_6 t0_7 t0_8 t0_9 t0_10 t0_11 t0_12 t0_13 t0_14 t0_15 t0_16 t0_17 t0_18 t0_19 t0_20 t0_21 t1_0 lx35 lx36 lx37)
def F_VR_spread (x2 : Int64) (x3 : Int32) (t0_0 : Int32) (t0_1 : Int32) (t0_2 : Int32) (t0_3 : Int32) (t0_4 : Int32) (t0_5 : Int32) (t0_6 : Int32) (t0_7 : Int32) (t0_8 : Int32) (t0_9 : Int32) (t0_10 : Int32) (t0_11 : Int32) (t0_12 : Int32) (t0_13 : Int32) (t0_14 : Int32) (t0_15 : Int32) (t0_16 : Int32) (t0_17 : Int32) (t0_18 : Int32) (t0_19 : Int32) (t0_20 : Int32) (t0_21 : Int32) (t1_0 : (Nat → Int32)) : Int32 × Int32 × (Nat → Int32) := F_VR_spread_L8 x2 x3 t0_0 t0_1 t0_2 t0_3 t0_4 t0_5 t0_6 t0_7 t0_8 t0_9 t0_10 t0_11 t0_12 t0_13 t0_14 t0_15 t0_16 t0_17 t0_18 t0_19 t0_20 t0_21 t1_0 ((256 - (0 : Int32).toInt).toNat + 1) x2 0 t1_0
def S_VR_spread_J62 (K_S_VR_spread_L8 : Int64 → Int32 → (Nat → Int32) → Prop) (x2 : Int64) (x3 : Int32) (t0_0 : Int32) (t0_1 : Int32) (t0_2 : Int32) (t0_3 : Int32) (t0_4 : Int32) (t0_5 : Int32) (t0_6 : Int32) (t0_7 : Int32) (t0_8 : Int32) (t0_9 : Int32) (t0_10 : Int32) (t0_11 : Int32) (t0_12 : Int32) (t0_13 : Int32) (t0_14 : Int32) (t0_15 : Int32) (t0_16 : Int32) (t0_17 : Int32) (t0_18 : Int32) (t0_19 : Int32) (t0_20 : Int32) (t0_21 : Int32) (t1_0 : (Nat → Int32)) (lx35 : Int64) (lx36 : Int32) (lx37 : (Nat → Int32)) (lx84 : Int64) : Prop := (lx36.toInt ≤ 63) ∧ (K_S_VR_spread_L8 lx84 (lx36 + 1 : Int32) (upd lx37 lx36.toNatClampNeg ((lx35 - (lx84 * (x3.toInt64 : Int64) : Int64) : Int64).toInt32 : Int32) : (Nat → Int32)))
def S_VR_spread_J22 (K_S_VR_spread_L8 : Int64 → Int32 → (Nat → Int32) → Prop) (x2 : Int64) (x3 : Int32) (t0_0 : Int32) (t0_1 : Int32) (t0_2 : Int32) (t0_3 : Int32) (t0_4 : Int32) (t0_5 : Int32) (t0_6 : Int32) (t0_7 : Int32) (t0_8 : Int32) (t0_9 : Int32) (t0_10 : Int32) (t0_11 : Int32) (t0_12 : Int32) (t0_13 : Int32) (t0_14 : Int32) (t0_15 : Int32) (t0_16 : Int32) (t0_17 : Int32) (t0_18 : Int32) (t0_19 : Int32) (t0_20 : Int32) (t0_21 : Int32) (t1_0 : (Nat → Int32)) (lx35 : Int64) (lx36 : Int32) (lx37 : (Nat → Int32)) : Prop := (1 ≤ (x3.toInt64 : Int64).toInt) ∧ (if (lg_cmp (lx35 - (((((lx35.toUInt64 >>> ((1 : Int32).toInt64.toUInt64 &&& Int64.toUInt64 63)).toInt64 : Int64) / (x3.toInt64 : Int64) : Int64) * 2 : Int64) * (x3.toInt64 : Int64) : Int64) : Int64) (x3.toInt64 : Int64) : Int32) < (0 : Int32) then (S_VR_spread_J62 K_S_VR_spread_L8 x2 x3 t0_0 t0_1 t0_2 t0_3 t0_4 t0_5 t0_6 t0_7 t0_8 t0_9 t0_10 t0_11 t0_12 t0_13 t0_14 t0_15 t0_16 t0_17 t0_18 t0_19 t0_20 t0_21 t1_0 lx35 lx36 lx37 ((((lx35.toUInt64 >>> ((1 : Int32).toInt64.toUInt64 &&& Int64.toUInt64 63)).toInt64 : Int64) / (x3.toInt64 : Int64) : Int64) * 2 : Int64)) else (S_VR_spread_J62 K_S_VR_spread_L8 x2 x3 t0_0 t0_1 t0_2 t0_3 t0_4 t0_5 t0_6 t0_7 t0_8 t0_9 t0_10 t0_11 t0_12 t0_13 t0_14 t0_15 t0_16 t0_17 t0_18 t0_19 t0_20 t0_21 t1_0 lx35 lx36 lx37 (((((lx35.toUInt64 >>> ((1 : Int32).toInt64.toUInt64 &&& Int64.toUInt64 63)).toInt64 : Int64) / (x3.toInt64 : Int64) : Int64) * 2 : Int64) + 1 : Int64)))
def S_VR_spread_L110 (K_S_VR_spread_L8 : Int64 → Int32 → (Nat → Int32) → Prop) (x2 : Int64) (x3 : Int32) (t0_0 : Int32) (t0_1 : Int32) (t0_2 : Int32) (t0_3 : Int32) (t0_4 : Int32) (t0_5 : Int32) (t0_6 : Int32) (t0_7 : Int32) (t0_8 : Int32) (t0_9 : Int32) (t0_10 : Int32) (t0_11 : Int32) (t0_12 : Int32) (t0_13 : Int32) (t0_14 : Int32) (t0_15 : Int32) (t0_16 : Int32) (t0_17 : Int32) (t0_18 : Int32) (t0_19 : Int32) (t0_20 : Int32) (t0_21 : Int32) (t1_0 : (Nat → Int32)) (lx35 : Int64) (lx36 : Int32) (lx37 : (Nat → Int32)) : Nat → Int32 → Int32 → (Nat → Int32) → Prop
  | 0, _, _, _ => False
  | fm + 1, lx127, lx128, lx129 => if lx127 ≤ lx128 then (True) else ((lx128.toInt ≤ 63) ∧ ((lx127.toInt ≤ 63) ∧ (S_VR_spread_L110 K_S_VR_spread_L8 x2 x3 t0_0 t0_1 t0_2 t0_3 t0_4 t0_5 t0_6 t0_7 t0_8 t0_9 t0_10 t0_11 t0_12 t0_13 t0_14 t0_15 t0_16 t0_17 t0_18 t0_19 t0_20 t0_21 t1_0 lx35 lx36 lx37 fm (lx127 + (-1) : Int32) (lx128 + 1 : Int32) (upd (upd lx129 lx128.toNatClampNeg (lx129 lx127.toNatClampNeg : Int32) : (Nat → Int32)) lx127.toNatClampNeg (lx129 lx128.toNatClampNeg : Int32) : (Nat → Int32)))))
def S_VR_spread_L8 (x2 : Int64) (x3 : Int32) (t0_0 : Int32) (t0_1 : Int32) (t0_2 : Int32) (t0_3 : Int32) (t0_4 : Int32) (t0_5 : Int32) (t0_6 : Int32) (t0_7 : Int32) (t0_8 : Int32) (t0_9 : Int32) (t0_10 : Int32) (t0_11 : Int32) (t0_12 : Int32) (t0_13 : Int32) (t0_14 : Int32) (t0_15 : Int32) (t0_16 : Int32) (t0_17 : Int32) (t0_18 : Int32) (t0_19 : Int32) (t0_20 : Int32) (t0_21 : Int32) (t1_0 : (Nat → Int32)) : Nat → Int64 → Int32 → (Nat → Int32) → Prop
  | 0, _, _, _ => False
  | fm + 1, lx35, lx36, lx37 => if (lg_cmp lx35 0 : Int32) = (0 : Int32) then (if lx36 = (0 : Int32) then (S_VR_spread_J22 (S_VR_spread_L8 x2 x3 t0_0 t0_1 t0_2 t0_3 t0_4 t0_5 t0_6 t0_7 t0_8 t0_9 t0_10 t0_11 t0_12 t0_13 t0_14 t0_15 t0_16 t0_17 t0_18 t0_19 t0_20 t0_21 t1_0 fm) x2 x3 t0_0 t0_1 t0_2 t0_3 t0_4 t0_5 t0_6 t0_7 t0_8 t0_9 t0_10 t0_11 t0_12 t0_13 t0_14 t0_15 t0_16 t0_17 t0_18 t0_19 t0_20 t0_21 t1_0 lx35 lx36 lx37) else (S_VR_spread_L110 (S_VR_spread_L8 x2 x3 t0_0 t0_1 t0_2 t0_3 t0_4 t0_5 t0_6 t0_7 t0_8 t0_9 t0_10 t0_11 t0_12 t0_13 t0_14 t0_15 t0_16 t0_17 t0_18 t0_19 t0_20 t0_21 t1_0 fm) x2 x3 t0_0 t0_1 t0_2 t0_3 t0_4 t0_5 t0_6 t0_7 t0_8 t0_9 t0_10 t0_11 t0_12 t0_13 t0_14 t0_15 t0_16 t0_17 t0_18 t0_19 t0_20 t0_21 t1_0 lx35 lx36 lx37 (((lx36 - 1 : Int32).toInt - ((-1))).toNat + 1) (lx36 - 1 : Int32) 0 lx37)) else (S_VR_spread_J22 (S_VR_spread_L8 x2 x3 t0_0 t0_1 t0_2 t0_3 t0_4 t0_5 t0_6 t0_7 t0_8 t0_9 t0_10 t0_11 t0_12 t0_13 t0_14 t0_15 t0_16 t0_17 t0_18 t0_19 t0_20 t0_21 t1_0 fm) x2 x3 t0_0 t0_1 t0_2 t0_3 t0_4 t0_5 t0_6 t0_7 t0_8 t0_9 t0_10 t0_11 t0_12 t0_13 t0_14 t0_15 t0_16 t0_17 t0_18 t0_19 t0_20 t0_21 t1_0 lx35 lx36 lx37)
def S_VR_spread (x2 : Int64) (x3 : Int32) (t0_0 : Int32) (t0_1 : Int32) (t0_2 : Int32) (t0_3 : Int32) (t0_4 : Int32) (t0_5 : Int32) (t0_6 : Int32) (t0_7 : Int32) (t0_8 : Int32) (t0_9 : Int32) (t0_10 : Int32) (t0_11 : Int32) (t0_12 : Int32) (t0_13 : Int32) (t0_14 : Int32) (t0_15 : Int32) (t0_16 : Int32) (t0_17 : Int32) (t0_18 : Int32) (t0_19 : Int32) (t0_20 : Int32) (t0_21 : Int32) (t1_0 : (Nat → Int32)) : Prop := S_VR_spread_L8 x2 x3 t0_0 t0_1 t0_2 t0_3 t0_4 t0_5 t0_6 t0_7 t0_8 t0_9 t0_10 t0_11 t0_12 t0_13 t0_14 t0_15 t0_16 t0_17 t0_18 t0_19 t0_20 t0_21 t1_0 ((256 - (0 : Int32).toInt).toNat + 1) x2 0 t1_0
set_option maxRecDepth 100000 in
set_option maxHeartbeats 4000000 in
theorem X_VR_spread (l : Launch) (D : va_G) (g : Nat → ClassId) (q : Nat → Nat) (ws : va_W) (x2 : Int64) (x3 : Int32) (hI : q_I (msh g q) q ws) (t0_0 : Int32) (t0_1 : Int32) (t0_2 : Int32) (t0_3 : Int32) (t0_4 : Int32) (t0_5 : Int32) (t0_6 : Int32) (t0_7 : Int32) (t0_8 : Int32) (t0_9 : Int32) (t0_10 : Int32) (t0_11 : Int32) (t0_12 : Int32) (t0_13 : Int32) (t0_14 : Int32) (t0_15 : Int32) (t0_16 : Int32) (t0_17 : Int32) (t0_18 : Int32) (t0_19 : Int32) (t0_20 : Int32) (t0_21 : Int32) (hT0 : ws[157]? = (some (q 157, .inr (17, [.int t0_0, .ref (q 158), .int t0_1, .int t0_2, .ref (q 159), .ref (q 160), .ref (q 161), .ref (q 162), .ref (q 163), .int t0_3, .ref (q 164), .int t0_4, .int t0_5, .int t0_6, .int t0_7, .int t0_8, .int t0_9, .int t0_10, .int t0_11, .int t0_12, .int t0_13, .int t0_14, .int t0_15, .int t0_16, .ref (q 165), .int t0_17, .int t0_18, .int t0_19, .ref (q 166), .int t0_20, .int t0_21])) : Option (Nat × va_E))) (t1_0 : (Nat → Int32)) (hT1 : ws[166]? = (some (q 166, .inl (g 0, (64 : Int32).toNatClampNeg, .inl t1_0)) : Option (Nat × va_E))) (hS : True ∧ S_VR_spread x2 x3 t0_0 t0_1 t0_2 t0_3 t0_4 t0_5 t0_6 t0_7 t0_8 t0_9 t0_10 t0_11 t0_12 t0_13 t0_14 t0_15 t0_16 t0_17 t0_18 t0_19 t0_20 t0_21 t1_0) : q_mV l y_VR_spread prog_16_method_26_code 10 1 0 0 D g [.ref (q 157), .long x2, .int x3] ws (fun u => q_I (msh g q) q u ∧ q_un ws u [157, 166] ∧ ∃ (u0_20 : Int32) (u0_21 : Int32) (u1_0 : (Nat → Int32)), u[157]? = (some (q 157, .inr (17, [.int t0_0, .ref (q 158), .int t0_1, .int t0_2, .ref (q 159), .ref (q 160), .ref (q 161), .ref (q 162), .ref (q 163), .int t0_3, .ref (q 164), .int t0_4, .int t0_5, .int t0_6, .int t0_7, .int t0_8, .int t0_9, .int t0_10, .int t0_11, .int t0_12, .int t0_13, .int t0_14, .int t0_15, .int t0_16, .ref (q 165), .int t0_17, .int t0_18, .int t0_19, .ref (q 166), .int u0_20, .int u0_21])) : Option (Nat × va_E)) ∧ u[166]? = (some (q 166, .inl (g 0, (64 : Int32).toNatClampNeg, .inl u1_0)) : Option (Nat × va_E)) ∧ (1 ≤ u0_21.toInt) ∧ (u0_21.toInt ≤ 256) ∧ (u0_21.toInt ≤ u0_20.toInt) ∧ (u0_20.toInt ≤ u0_21.toInt) ∧ (u0_20, u0_21, u1_0) = (F_VR_spread x2 x3 t0_0 t0_1 t0_2 t0_3 t0_4 t0_5 t0_6 t0_7 t0_8 t0_9 t0_10 t0_11 t0_12 t0_13 t0_14 t0_15 t0_16 t0_17 t0_18 t0_19 t0_20 t0_21 t1_0)) := by
  intro sz
  refine q_into (by decide) (Nat.le_of_ble_eq_true rfl) ?_
  intro p e s m below meth c ls hsz C0 V hl
  have hx := C0.1
  have hb := C0.2.1
  obtain ⟨btt0_1, hZ9⟩ := n_w157 hI hT0
  obtain ⟨btt0_2, hZ9⟩ := hZ9
  obtain ⟨btt0_3, hZ9⟩ := hZ9
  obtain ⟨btt0_10, btt0_19⟩ := hZ9
  replace btt0_1 : q_F (0 ≤ t0_1.toInt ∧ t0_1.toInt ≤ 256) := btt0_1
  replace btt0_2 : q_F (0 ≤ t0_2.toInt ∧ t0_2.toInt ≤ 9) := btt0_2
  replace btt0_3 : q_F (0 ≤ t0_3.toInt ∧ t0_3.toInt ≤ 4096) := btt0_3
  replace btt0_10 : q_F (0 ≤ t0_10.toInt ∧ t0_10.toInt ≤ 1) := btt0_10
  replace btt0_19 : q_F (0 ≤ t0_19.toInt ∧ t0_19.toInt ≤ 1) := btt0_19
  have hF : q_un ws ws [157, 166] := q_u0
  have hl : lv_has ls 10 [(0, .ref (q 157)), (1, .long x2), (3, .int x3)] := hl
  refine lv_aload_n hx hb d_16_26_0 rfl (lv_at hl 0 rfl) ?_
  refine lv_iconst (v := 0) hx hb d_16_26_1 (by decide) ?_
  refine q_put (ci := 17) (j := 29) (v := .int 0) (ty := .int) C0 V i_VR o_VR n_VR rfl rfl hT0 (by decide) w_2233 rfl rfl rfl rfl (Nat.le_of_ble_eq_true rfl) d_16_26_2 (fun H locs w32 hu33 hT0 V => ?_)
  replace hT0 : w32[157]? = (some (q 157, .inr (17, [.int t0_0, .ref (q 158), .int t0_1, .int t0_2, .ref (q 159), .ref (q 160), .ref (q 161), .ref (q 162), .ref (q 163), .int t0_3, .ref (q 164), .int t0_4, .int t0_5, .int t0_6, .int t0_7, .int t0_8, .int t0_9, .int t0_10, .int t0_11, .int t0_12, .int t0_13, .int t0_14, .int t0_15, .int t0_16, .ref (q 165), .int t0_17, .int t0_18, .int t0_19, .ref (q 166), .int 0, .int t0_21])) : Option (Nat × va_E)) := hT0
  replace hI := n_p157 hI hu33 hT0 (by first | with_reducible exact q_fe btt0_1 | exact ⟨(by have t1 : 0 ≤ t0_1.toInt ∧ t0_1.toInt ≤ 256 := btt0_1; omega), (by have t1 : 0 ≤ t0_1.toInt ∧ t0_1.toInt ≤ 256 := btt0_1; omega)⟩) (by first | with_reducible exact q_fe btt0_2 | exact ⟨(by have t1 : 0 ≤ t0_2.toInt ∧ t0_2.toInt ≤ 9 := btt0_2; omega), (by have t1 : 0 ≤ t0_2.toInt ∧ t0_2.toInt ≤ 9 := btt0_2; omega)⟩) (by first | with_reducible exact q_fe btt0_3 | exact ⟨(by have t1 : 0 ≤ t0_3.toInt ∧ t0_3.toInt ≤ 4096 := btt0_3; omega), (by have t1 : 0 ≤ t0_3.toInt ∧ t0_3.toInt ≤ 4096 := btt0_3; omega)⟩) (by first | with_reducible exact q_fe btt0_10 | exact ⟨(by have t1 : 0 ≤ t0_10.toInt ∧ t0_10.toInt ≤ 1 := btt0_10; omega), (by have t1 : 0 ≤ t0_10.toInt ∧ t0_10.toInt ≤ 1 := btt0_10; omega)⟩) (by first | with_reducible exact q_fe btt0_19 | exact ⟨(by have t1 : 0 ≤ t0_19.toInt ∧ t0_19.toInt ≤ 1 := btt0_19; omega), (by have t1 : 0 ≤ t0_19.toInt ∧ t0_19.toInt ≤ 1 := btt0_19; omega)⟩)
  replace hT1 := (hu33 _ (by decide)).trans hT1
  replace hF := q_us hF hu33 (by simp)
  refine lv_lload_n hx hb d_16_26_5 rfl (lv_at hl 1 rfl) ?_
  refine lv_lstore (lv' := [(4, .long x2), (0, .ref (q 157)), (1, .long x2), (3, .int x3)]) hx hb d_16_26_6 hl (by decide) rfl (fun ls hl => ?_)
  refine q_loop (X := Int64 × Int32 × (Nat → Int32)) (fun z H locs ls w41 => q_F (0 ≤ z.2.1.toInt) ∧ q_F (z.2.1.toInt ≤ 256) ∧ q_Wd D g (va_A ws sz) s w41 H locs ∧ lv_has ls 10 [(4, .long z.1), (0, .ref (q 157)), (3, .int x3)] ∧ q_I (msh g q) q w41 ∧ q_un ws w41 [157, 166] ∧ w41[157]? = (some (q 157, .inr (17, [.int t0_0, .ref (q 158), .int t0_1, .int t0_2, .ref (q 159), .ref (q 160), .ref (q 161), .ref (q 162), .ref (q 163), .int t0_3, .ref (q 164), .int t0_4, .int t0_5, .int t0_6, .int t0_7, .int t0_8, .int t0_9, .int t0_10, .int t0_11, .int t0_12, .int t0_13, .int t0_14, .int t0_15, .int t0_16, .ref (q 165), .int t0_17, .int t0_18, .int t0_19, .ref (q 166), .int z.2.1, .int t0_21])) : Option (Nat × va_E)) ∧ w41[166]? = (some (q 166, .inl (g 0, (64 : Int32).toNatClampNeg, .inl z.2.2)) : Option (Nat × va_E)) ∧ (∃ n, (256 - z.2.1.toInt).toNat < n ∧ F_VR_spread_L8 x2 x3 t0_0 t0_1 t0_2 t0_3 t0_4 t0_5 t0_6 t0_7 t0_8 t0_9 t0_10 t0_11 t0_12 t0_13 t0_14 t0_15 t0_16 t0_17 t0_18 t0_19 t0_20 t0_21 t1_0 n z.1 z.2.1 z.2.2 = (F_VR_spread x2 x3 t0_0 t0_1 t0_2 t0_3 t0_4 t0_5 t0_6 t0_7 t0_8 t0_9 t0_10 t0_11 t0_12 t0_13 t0_14 t0_15 t0_16 t0_17 t0_18 t0_19 t0_20 t0_21 t1_0) ∧ True ∧ S_VR_spread_L8 x2 x3 t0_0 t0_1 t0_2 t0_3 t0_4 t0_5 t0_6 t0_7 t0_8 t0_9 t0_10 t0_11 t0_12 t0_13 t0_14 t0_15 t0_16 t0_17 t0_18 t0_19 t0_20 t0_21 t1_0 n z.1 z.2.1 z.2.2)) (fun z => (256 - z.2.1.toInt).toNat) ?_ ((x2 : Int64), (0 : Int32), (t1_0 : (Nat → Int32))) _ _ _ w32 ⟨(show q_F (0 ≤ 0) from (show 0 ≤ 0 from by omega)), (show q_F (0 ≤ 256) from (show 0 ≤ 256 from by omega)), V, q_lw hl (q_lw1 0 rfl (q_lw1 1 rfl (q_lw1 3 rfl q_lw0))), hI, hF, hT0, hT1, ⟨((256 - (0 : Int32).toInt).toNat + 1), Nat.lt_succ_self _, (show F_VR_spread_L8 x2 x3 t0_0 t0_1 t0_2 t0_3 t0_4 t0_5 t0_6 t0_7 t0_8 t0_9 t0_10 t0_11 t0_12 t0_13 t0_14 t0_15 t0_16 t0_17 t0_18 t0_19 t0_20 t0_21 t1_0 ((256 - (0 : Int32).toInt).toNat + 1) x2 0 t1_0 = (F_VR_spread x2 x3 t0_0 t0_1 t0_2 t0_3 t0_4 t0_5 t0_6 t0_7 t0_8 t0_9 t0_10 t0_11 t0_12 t0_13 t0_14 t0_15 t0_16 t0_17 t0_18 t0_19 t0_20 t0_21 t1_0) from (by rw [F_VR_spread.eq_1])), (show True ∧ S_VR_spread_L8 x2 x3 t0_0 t0_1 t0_2 t0_3 t0_4 t0_5 t0_6 t0_7 t0_8 t0_9 t0_10 t0_11 t0_12 t0_13 t0_14 t0_15 t0_16 t0_17 t0_18 t0_19 t0_20 t0_21 t1_0 ((256 - (0 : Int32).toInt).toNat + 1) x2 0 t1_0 from (by have h := hS; rw [S_VR_spread.eq_1] at h; with_reducible exact h))⟩⟩
  rintro ⟨lx35, lx36, lx37⟩ H locs ls w41 ⟨i38, i39, V, hl, hI, hF, hO42, hO43, ⟨fu46, hf47, hR44, hS45⟩⟩ ih40
  obtain ⟨fm48, rfl⟩ : ∃ m, fu46 = m + 1 := ⟨fu46 - 1, by omega⟩
  replace i38 : q_F (0 ≤ lx36.toInt) := i38
  replace i39 : q_F (lx36.toInt ≤ 256) := i39
  replace hl : lv_has ls 10 [(4, .long lx35), (0, .ref (q 157)), (3, .int x3)] := hl
  replace hO42 : w41[157]? = (some (q 157, .inr (17, [.int t0_0, .ref (q 158), .int t0_1, .int t0_2, .ref (q 159), .ref (q 160), .ref (q 161), .ref (q 162), .ref (q 163), .int t0_3, .ref (q 164), .int t0_4, .int t0_5, .int t0_6, .int t0_7, .int t0_8, .int t0_9, .int t0_10, .int t0_11, .int t0_12, .int t0_13, .int t0_14, .int t0_15, .int t0_16, .ref (q 165), .int t0_17, .int t0_18, .int t0_19, .ref (q 166), .int lx36, .int t0_21])) : Option (Nat × va_E)) := hO42
  replace hO43 : w41[166]? = (some (q 166, .inl (g 0, (64 : Int32).toNatClampNeg, .inl lx37)) : Option (Nat × va_E)) := hO43
  refine lv_lload hx hb d_16_26_8 (lv_at hl 0 rfl) ?_
  refine lv_lconst (v := 0) hx hb d_16_26_10 (by decide) ?_
  refine W.lcmp hx hb d_16_26_11 ?_
  obtain ⟨a49, e50⟩ := q_nm (lg_cmp lx35 0 : Int32)
  refine q_ti (v := a49) e50 ?_
  refine q_join (X := Unit) (fun z H locs ls _ => q_Wd D g (va_A ws sz) s w41 H locs ∧ lv_has ls 10 [(4, .long lx35), (0, .ref (q 157)), (3, .int x3)] ∧ F_VR_spread_J22 (F_VR_spread_L8 x2 x3 t0_0 t0_1 t0_2 t0_3 t0_4 t0_5 t0_6 t0_7 t0_8 t0_9 t0_10 t0_11 t0_12 t0_13 t0_14 t0_15 t0_16 t0_17 t0_18 t0_19 t0_20 t0_21 t1_0 fm48) x2 x3 t0_0 t0_1 t0_2 t0_3 t0_4 t0_5 t0_6 t0_7 t0_8 t0_9 t0_10 t0_11 t0_12 t0_13 t0_14 t0_15 t0_16 t0_17 t0_18 t0_19 t0_20 t0_21 t1_0 lx35 lx36 lx37 = (F_VR_spread x2 x3 t0_0 t0_1 t0_2 t0_3 t0_4 t0_5 t0_6 t0_7 t0_8 t0_9 t0_10 t0_11 t0_12 t0_13 t0_14 t0_15 t0_16 t0_17 t0_18 t0_19 t0_20 t0_21 t1_0) ∧ True ∧ S_VR_spread_J22 (S_VR_spread_L8 x2 x3 t0_0 t0_1 t0_2 t0_3 t0_4 t0_5 t0_6 t0_7 t0_8 t0_9 t0_10 t0_11 t0_12 t0_13 t0_14 t0_15 t0_16 t0_17 t0_18 t0_19 t0_20 t0_21 t1_0 fm48) x2 x3 t0_0 t0_1 t0_2 t0_3 t0_4 t0_5 t0_6 t0_7 t0_8 t0_9 t0_10 t0_11 t0_12 t0_13 t0_14 t0_15 t0_16 t0_17 t0_18 t0_19 t0_20 t0_21 t1_0 lx35 lx36 lx37) (fun z => []) 22 0 0 ?_ ?_
  ·
    rintro _ H locs ls _ ⟨V, hl, hR55, hS56⟩
    replace hl : lv_has ls 10 [(4, .long lx35), (0, .ref (q 157)), (3, .int x3)] := hl
    refine lv_lload hx hb d_16_26_22 (lv_at hl 0 rfl) ?_
    refine lv_iconst (v := 1) hx hb d_16_26_24 (by decide) ?_
    refine lv_lushr hx hb d_16_26_25 rfl ?_
    obtain ⟨j60, e61⟩ := q_nm ((lx35.toUInt64 >>> ((1 : Int32).toInt64.toUInt64 &&& Int64.toUInt64 63)).toInt64 : Int64)
    refine q_tl (v := j60) e61 ?_
    refine lv_iload_n hx hb d_16_26_26 rfl (lv_at hl 2 rfl) ?_
    refine lv_i2l hx hb d_16_26_27 rfl ?_
    obtain ⟨j63, e64⟩ := q_nm (x3.toInt64 : Int64)
    refine q_tl (v := j63) e64 ?_
    have ob66 : q_F (1 ≤ j63.toInt) := (by rw [← e64]; have h := hS56; rw [S_VR_spread_J22.eq_1] at h; exact h.2.1)
    refine lv_ldiv hx hb d_16_26_28 (s_nzL (by first | with_reducible exact q_fe ob66 | (have t1 : 1 ≤ j63.toInt := ob66; omega))) ?_
    obtain ⟨j67, e68⟩ := q_nm (j60 / j63 : Int64)
    refine q_tl (v := j67) e68 ?_
    refine q_ldc2 C0 rfl w_3189 d_16_26_29 ?_
    refine lv_lmul hx hb d_16_26_32 ?_
    obtain ⟨j69, e70⟩ := q_nm (j67 * 2 : Int64)
    refine q_tl (v := j69) e70 ?_
    refine lv_lstore (lv' := [(6, .long j69), (4, .long lx35), (0, .ref (q 157)), (3, .int x3)]) hx hb d_16_26_33 hl (by decide) rfl (fun ls hl => ?_)
    refine lv_lload hx hb d_16_26_35 (lv_at hl 1 rfl) ?_
    refine lv_lload hx hb d_16_26_37 (lv_at hl 0 rfl) ?_
    refine lv_iload_n hx hb d_16_26_39 rfl (lv_at hl 3 rfl) ?_
    refine lv_i2l hx hb d_16_26_40 rfl ?_
    obtain ⟨j71, e72⟩ := q_nm (x3.toInt64 : Int64)
    refine q_tl (v := j71) e72 ?_
    refine lv_lmul hx hb d_16_26_41 ?_
    obtain ⟨j74, e75⟩ := q_nm (j69 * j71 : Int64)
    refine q_tl (v := j74) e75 ?_
    refine lv_lsub hx hb d_16_26_42 ?_
    obtain ⟨j76, e77⟩ := q_nm (lx35 - j74 : Int64)
    refine q_tl (v := j76) e77 ?_
    refine lv_lstore (lv' := [(8, .long j76), (6, .long j69), (4, .long lx35), (0, .ref (q 157)), (3, .int x3)]) hx hb d_16_26_43 hl (by decide) rfl (fun ls hl => ?_)
    refine lv_lload hx hb d_16_26_45 (lv_at hl 0 rfl) ?_
    refine lv_iload_n hx hb d_16_26_47 rfl (lv_at hl 4 rfl) ?_
    refine lv_i2l hx hb d_16_26_48 rfl ?_
    obtain ⟨j78, e79⟩ := q_nm (x3.toInt64 : Int64)
    refine q_tl (v := j78) e79 ?_
    refine W.lcmp hx hb d_16_26_49 ?_
    obtain ⟨a81, e82⟩ := q_nm (lg_cmp j76 j78 : Int32)
    refine q_ti (v := a81) e82 ?_
    refine q_join (X := Int64) (fun z H locs ls _ => q_Wd D g (va_A ws sz) s w41 H locs ∧ lv_has ls 10 [(4, .long lx35), (0, .ref (q 157)), (3, .int x3)] ∧ F_VR_spread_J62 (F_VR_spread_L8 x2 x3 t0_0 t0_1 t0_2 t0_3 t0_4 t0_5 t0_6 t0_7 t0_8 t0_9 t0_10 t0_11 t0_12 t0_13 t0_14 t0_15 t0_16 t0_17 t0_18 t0_19 t0_20 t0_21 t1_0 fm48) x2 x3 t0_0 t0_1 t0_2 t0_3 t0_4 t0_5 t0_6 t0_7 t0_8 t0_9 t0_10 t0_11 t0_12 t0_13 t0_14 t0_15 t0_16 t0_17 t0_18 t0_19 t0_20 t0_21 t1_0 lx35 lx36 lx37 z = (F_VR_spread x2 x3 t0_0 t0_1 t0_2 t0_3 t0_4 t0_5 t0_6 t0_7 t0_8 t0_9 t0_10 t0_11 t0_12 t0_13 t0_14 t0_15 t0_16 t0_17 t0_18 t0_19 t0_20 t0_21 t1_0) ∧ True ∧ S_VR_spread_J62 (S_VR_spread_L8 x2 x3 t0_0 t0_1 t0_2 t0_3 t0_4 t0_5 t0_6 t0_7 t0_8 t0_9 t0_10 t0_11 t0_12 t0_13 t0_14 t0_15 t0_16 t0_17 t0_18 t0_19 t0_20 t0_21 t1_0 fm48) x2 x3 t0_0 t0_1 t0_2 t0_3 t0_4 t0_5 t0_6 t0_7 t0_8 t0_9 t0_10 t0_11 t0_12 t0_13 t0_14 t0_15 t0_16 t0_17 t0_18 t0_19 t0_20 t0_21 t1_0 lx35 lx36 lx37 z) (fun z => [.long z]) 62 0 0 ?_ ?_
    ·
      rintro lx84 H locs ls _ ⟨V, hl, hR88, hS89⟩
      replace hl : lv_has ls 10 [(4, .long lx35), (0, .ref (q 157)), (3, .int x3)] := hl
      refine lv_lstore (lv' := [(6, .long lx84), (4, .long lx35), (0, .ref (q 157)), (3, .int x3)]) hx hb d_16_26_62 hl (by decide) rfl (fun ls hl => ?_)
      refine lv_aload_n hx hb d_16_26_64 rfl (lv_at hl 2 rfl) ?_
      refine q_get (ci := 17) (j := 28) (v := .ref (q 166)) C0 V i_VR rfl rfl hO42 (by decide) w_2232 rfl d_16_26_65 ?_
      refine lv_aload_n hx hb d_16_26_68 rfl (lv_at hl 2 rfl) ?_
      refine q_get (ci := 17) (j := 29) (v := .int lx36) C0 V i_VR rfl rfl hO42 (by decide) w_2233 rfl d_16_26_69 ?_
      refine lv_lload hx hb d_16_26_72 (lv_at hl 1 rfl) ?_
      refine lv_lload hx hb d_16_26_74 (lv_at hl 0 rfl) ?_
      refine lv_iload_n hx hb d_16_26_76 rfl (lv_at hl 3 rfl) ?_
      refine lv_i2l hx hb d_16_26_77 rfl ?_
      obtain ⟨j93, e94⟩ := q_nm (x3.toInt64 : Int64)
      refine q_tl (v := j93) e94 ?_
      refine lv_lmul hx hb d_16_26_78 ?_
      obtain ⟨j96, e97⟩ := q_nm (lx84 * j93 : Int64)
      refine q_tl (v := j96) e97 ?_
      refine lv_lsub hx hb d_16_26_79 ?_
      obtain ⟨j98, e99⟩ := q_nm (lx35 - j96 : Int64)
      refine q_tl (v := j98) e99 ?_
      refine lv_l2i hx hb d_16_26_80 rfl ?_
      obtain ⟨a100, e101⟩ := q_nm (j98.toInt32 : Int32)
      refine q_ti (v := a100) e101 ?_
      have ob102 : q_F (lx36.toInt ≤ 63) := (by have h := hS89; rw [S_VR_spread_J62.eq_1] at h; exact h.2.1)
      refine q_iast C0 V hO43 (q_ix (x := lx36.toInt) rfl (by first | with_reducible exact q_fe i38 | (have t1 : 0 ≤ lx36.toInt := i38; omega)) (by have t1 : 0 ≤ lx36.toInt := i38; have t2 : lx36.toInt ≤ 63 := ob102; have e9 : (((64 : Int32).toNatClampNeg : Nat) : Int) = 64 := (by decide); omega)) d_16_26_81 (fun H locs w103 hu104 hO43 V => ?_)
      replace hI := n_ai' hI (n_r166 g q).1 hu104 hO43 (q_updB (fun _ => s_bnd) s_bnd)
      replace hO42 := (hu104 _ (by decide)).trans hO42
      replace hF := q_us hF hu104 (by simp)
      obtain ⟨f105, e106⟩ := q_nm (upd lx37 lx36.toNatClampNeg a100 : (Nat → Int32))
      rw [e106] at hO43
      refine lv_aload_n hx hb d_16_26_82 rfl (lv_at hl 2 rfl) ?_
      refine lv_dup hx hb d_16_26_83 rfl ?_
      refine q_get (ci := 17) (j := 29) (v := .int lx36) C0 V i_VR rfl rfl hO42 (by decide) w_2233 rfl d_16_26_84 ?_
      refine lv_iconst (v := 1) hx hb d_16_26_87 (by decide) ?_
      refine lv_iadd hx hb d_16_26_88 ?_
      obtain ⟨a107, e108⟩ := q_nm (lx36 + 1 : Int32)
      refine q_ti (v := a107) e108 ?_
      have b109 : q_F (a107.toInt = lx36.toInt + 1) := (by rw [← e108]; show (lx36 + 1 : Int32).toInt = lx36.toInt + 1; exact q_addI (x := lx36.toInt) (y := 1) rfl (by decide) (by have t1 : 0 ≤ lx36.toInt := i38; have t2 : lx36.toInt ≤ 256 := i39; omega) (by have t1 : 0 ≤ lx36.toInt := i38; have t2 : lx36.toInt ≤ 256 := i39; omega))
      refine q_put (ci := 17) (j := 29) (v := .int a107) (ty := .int) C0 V i_VR o_VR n_VR rfl rfl hO42 (by decide) w_2233 rfl rfl rfl rfl (Nat.le_of_ble_eq_true rfl) d_16_26_89 (fun H locs w110 hu111 hO42 V => ?_)
      replace hO42 : w110[157]? = (some (q 157, .inr (17, [.int t0_0, .ref (q 158), .int t0_1, .int t0_2, .ref (q 159), .ref (q 160), .ref (q 161), .ref (q 162), .ref (q 163), .int t0_3, .ref (q 164), .int t0_4, .int t0_5, .int t0_6, .int t0_7, .int t0_8, .int t0_9, .int t0_10, .int t0_11, .int t0_12, .int t0_13, .int t0_14, .int t0_15, .int t0_16, .ref (q 165), .int t0_17, .int t0_18, .int t0_19, .ref (q 166), .int a107, .int t0_21])) : Option (Nat × va_E)) := hO42
      replace hI := n_p157 hI hu111 hO42 (by first | with_reducible exact q_fe btt0_1 | exact ⟨(by have t1 : 0 ≤ t0_1.toInt ∧ t0_1.toInt ≤ 256 := btt0_1; omega), (by have t1 : 0 ≤ t0_1.toInt ∧ t0_1.toInt ≤ 256 := btt0_1; omega)⟩) (by first | with_reducible exact q_fe btt0_2 | exact ⟨(by have t1 : 0 ≤ t0_2.toInt ∧ t0_2.toInt ≤ 9 := btt0_2; omega), (by have t1 : 0 ≤ t0_2.toInt ∧ t0_2.toInt ≤ 9 := btt0_2; omega)⟩) (by first | with_reducible exact q_fe btt0_3 | exact ⟨(by have t1 : 0 ≤ t0_3.toInt ∧ t0_3.toInt ≤ 4096 := btt0_3; omega), (by have t1 : 0 ≤ t0_3.toInt ∧ t0_3.toInt ≤ 4096 := btt0_3; omega)⟩) (by first | with_reducible exact q_fe btt0_10 | exact ⟨(by have t1 : 0 ≤ t0_10.toInt ∧ t0_10.toInt ≤ 1 := btt0_10; omega), (by have t1 : 0 ≤ t0_10.toInt ∧ t0_10.toInt ≤ 1 := btt0_10; omega)⟩) (by first | with_reducible exact q_fe btt0_19 | exact ⟨(by have t1 : 0 ≤ t0_19.toInt ∧ t0_19.toInt ≤ 1 := btt0_19; omega), (by have t1 : 0 ≤ t0_19.toInt ∧ t0_19.toInt ≤ 1 := btt0_19; omega)⟩)
      replace hO43 := (hu111 _ (by decide)).trans hO43
      replace hF := q_us hF hu111 (by simp)
      refine lv_lload hx hb d_16_26_92 (lv_at hl 0 rfl) ?_
      refine lv_lstore (lv' := [(4, .long lx84), (6, .long lx84), (0, .ref (q 157)), (3, .int x3)]) hx hb d_16_26_94 hl (by decide) rfl (fun ls hl => ?_)
      refine lv_goto (tgt := 8) hx hb d_16_26_96 (by decide) ?_
      exact ih40 ((lx84 : Int64), (a107 : Int32), (f105 : (Nat → Int32))) _ _ _ _ (show (256 - a107.toInt).toNat < (256 - lx36.toInt).toNat from by have t1 : a107.toInt = lx36.toInt + 1 := b109; have t2 : lx36.toInt ≤ 256 := i39; have t3 : lx36.toInt ≤ 63 := ob102; omega) ⟨(show q_F (0 ≤ a107.toInt) from (show 0 ≤ a107.toInt from by have t1 : 0 ≤ lx36.toInt := i38; have t2 : a107.toInt = lx36.toInt + 1 := b109; omega)), (show q_F (a107.toInt ≤ 256) from (show a107.toInt ≤ 256 from by have t1 : lx36.toInt ≤ 63 := ob102; have t2 : a107.toInt = lx36.toInt + 1 := b109; omega)), V, q_lw hl (q_lw1 0 rfl (q_lw1 2 rfl (q_lw1 3 rfl q_lw0))), hI, hF, hO42, hO43, ⟨fm48, Nat.lt_of_lt_of_le (show (256 - a107.toInt).toNat < (256 - lx36.toInt).toNat from by have t1 : a107.toInt = lx36.toInt + 1 := b109; have t2 : lx36.toInt ≤ 256 := i39; have t3 : lx36.toInt ≤ 63 := ob102; omega) (Nat.le_of_lt_succ hf47), (show F_VR_spread_L8 x2 x3 t0_0 t0_1 t0_2 t0_3 t0_4 t0_5 t0_6 t0_7 t0_8 t0_9 t0_10 t0_11 t0_12 t0_13 t0_14 t0_15 t0_16 t0_17 t0_18 t0_19 t0_20 t0_21 t1_0 fm48 lx84 a107 f105 = (F_VR_spread x2 x3 t0_0 t0_1 t0_2 t0_3 t0_4 t0_5 t0_6 t0_7 t0_8 t0_9 t0_10 t0_11 t0_12 t0_13 t0_14 t0_15 t0_16 t0_17 t0_18 t0_19 t0_20 t0_21 t1_0) from Eq.trans (by rw [← e108, ← e106, ← e101, ← e99, ← e97, ← e94, F_VR_spread_J62.eq_1]) hR88), (show True ∧ S_VR_spread_L8 x2 x3 t0_0 t0_1 t0_2 t0_3 t0_4 t0_5 t0_6 t0_7 t0_8 t0_9 t0_10 t0_11 t0_12 t0_13 t0_14 t0_15 t0_16 t0_17 t0_18 t0_19 t0_20 t0_21 t1_0 fm48 lx84 a107 f105 from (by rw [← e108, ← e106, ← e101, ← e99, ← e97, ← e94]; have h := hS89; rw [S_VR_spread_J62.eq_1] at h; replace h := q_s2 h; with_reducible exact h))⟩⟩
    ·
      intro J87
      refine lv_if_lt (tgt := 60) hx hb d_16_26_50 (by decide) (fun c112 => ?_) (fun c112 => ?_)
      ·
        refine lv_lload hx hb d_16_26_60 (lv_at hl 1 rfl) ?_
        exact J87 ((j69 : Int64)) _ _ _ w41 ⟨V, q_lw hl (q_lw1 2 rfl (q_lw1 3 rfl (q_lw1 4 rfl q_lw0))), (show F_VR_spread_J62 (F_VR_spread_L8 x2 x3 t0_0 t0_1 t0_2 t0_3 t0_4 t0_5 t0_6 t0_7 t0_8 t0_9 t0_10 t0_11 t0_12 t0_13 t0_14 t0_15 t0_16 t0_17 t0_18 t0_19 t0_20 t0_21 t1_0 fm48) x2 x3 t0_0 t0_1 t0_2 t0_3 t0_4 t0_5 t0_6 t0_7 t0_8 t0_9 t0_10 t0_11 t0_12 t0_13 t0_14 t0_15 t0_16 t0_17 t0_18 t0_19 t0_20 t0_21 t1_0 lx35 lx36 lx37 j69 = (F_VR_spread x2 x3 t0_0 t0_1 t0_2 t0_3 t0_4 t0_5 t0_6 t0_7 t0_8 t0_9 t0_10 t0_11 t0_12 t0_13 t0_14 t0_15 t0_16 t0_17 t0_18 t0_19 t0_20 t0_21 t1_0) from Eq.trans (by have c112x := c112; rw [← e82, ← e79, ← e77, ← e75, ← e72, ← e70, ← e68, ← e64, ← e61] at c112x; rw [← e70, ← e68, ← e64, ← e61, F_VR_spread_J22.eq_1, if_pos c112x]) hR55), (show True ∧ S_VR_spread_J62 (S_VR_spread_L8 x2 x3 t0_0 t0_1 t0_2 t0_3 t0_4 t0_5 t0_6 t0_7 t0_8 t0_9 t0_10 t0_11 t0_12 t0_13 t0_14 t0_15 t0_16 t0_17 t0_18 t0_19 t0_20 t0_21 t1_0 fm48) x2 x3 t0_0 t0_1 t0_2 t0_3 t0_4 t0_5 t0_6 t0_7 t0_8 t0_9 t0_10 t0_11 t0_12 t0_13 t0_14 t0_15 t0_16 t0_17 t0_18 t0_19 t0_20 t0_21 t1_0 lx35 lx36 lx37 j69 from (by rw [← e70, ← e68, ← e64, ← e61]; have h := hS56; rw [S_VR_spread_J22.eq_1] at h; replace h := q_s2 h; have c112x := c112; rw [← e82, ← e79, ← e77, ← e75, ← e72, ← e70, ← e68, ← e64, ← e61] at c112x; rw [if_pos c112x] at h; with_reducible exact h))⟩
      ·
        refine lv_lload hx hb d_16_26_53 (lv_at hl 1 rfl) ?_
        refine lv_lconst (v := 1) hx hb d_16_26_55 (by decide) ?_
        refine lv_ladd hx hb d_16_26_56 ?_
        obtain ⟨j115, e116⟩ := q_nm (j69 + 1 : Int64)
        refine q_tl (v := j115) e116 ?_
        refine lv_goto (tgt := 62) hx hb d_16_26_57 (by decide) ?_
        exact J87 ((j115 : Int64)) _ _ _ w41 ⟨V, q_lw hl (q_lw1 2 rfl (q_lw1 3 rfl (q_lw1 4 rfl q_lw0))), (show F_VR_spread_J62 (F_VR_spread_L8 x2 x3 t0_0 t0_1 t0_2 t0_3 t0_4 t0_5 t0_6 t0_7 t0_8 t0_9 t0_10 t0_11 t0_12 t0_13 t0_14 t0_15 t0_16 t0_17 t0_18 t0_19 t0_20 t0_21 t1_0 fm48) x2 x3 t0_0 t0_1 t0_2 t0_3 t0_4 t0_5 t0_6 t0_7 t0_8 t0_9 t0_10 t0_11 t0_12 t0_13 t0_14 t0_15 t0_16 t0_17 t0_18 t0_19 t0_20 t0_21 t1_0 lx35 lx36 lx37 j115 = (F_VR_spread x2 x3 t0_0 t0_1 t0_2 t0_3 t0_4 t0_5 t0_6 t0_7 t0_8 t0_9 t0_10 t0_11 t0_12 t0_13 t0_14 t0_15 t0_16 t0_17 t0_18 t0_19 t0_20 t0_21 t1_0) from Eq.trans (by have c112x := c112; rw [← e82, ← e79, ← e77, ← e75, ← e72, ← e70, ← e68, ← e64, ← e61] at c112x; rw [← e116, ← e70, ← e68, ← e64, ← e61, F_VR_spread_J22.eq_1, if_neg c112x]) hR55), (show True ∧ S_VR_spread_J62 (S_VR_spread_L8 x2 x3 t0_0 t0_1 t0_2 t0_3 t0_4 t0_5 t0_6 t0_7 t0_8 t0_9 t0_10 t0_11 t0_12 t0_13 t0_14 t0_15 t0_16 t0_17 t0_18 t0_19 t0_20 t0_21 t1_0 fm48) x2 x3 t0_0 t0_1 t0_2 t0_3 t0_4 t0_5 t0_6 t0_7 t0_8 t0_9 t0_10 t0_11 t0_12 t0_13 t0_14 t0_15 t0_16 t0_17 t0_18 t0_19 t0_20 t0_21 t1_0 lx35 lx36 lx37 j115 from (by rw [← e116, ← e70, ← e68, ← e64, ← e61]; have h := hS56; rw [S_VR_spread_J22.eq_1] at h; replace h := q_s2 h; have c112x := c112; rw [← e82, ← e79, ← e77, ← e75, ← e72, ← e70, ← e68, ← e64, ← e61] at c112x; rw [if_neg c112x] at h; with_reducible exact h))⟩
  ·
    intro J54
    refine lv_if_ne (tgt := 22) hx hb d_16_26_12 (by decide) (fun c117 => ?_) (fun c117 => ?_)
    ·
      exact J54 (()) _ _ _ w41 ⟨V, q_lw hl (q_lw1 0 rfl (q_lw1 1 rfl (q_lw1 2 rfl q_lw0))), (show F_VR_spread_J22 (F_VR_spread_L8 x2 x3 t0_0 t0_1 t0_2 t0_3 t0_4 t0_5 t0_6 t0_7 t0_8 t0_9 t0_10 t0_11 t0_12 t0_13 t0_14 t0_15 t0_16 t0_17 t0_18 t0_19 t0_20 t0_21 t1_0 fm48) x2 x3 t0_0 t0_1 t0_2 t0_3 t0_4 t0_5 t0_6 t0_7 t0_8 t0_9 t0_10 t0_11 t0_12 t0_13 t0_14 t0_15 t0_16 t0_17 t0_18 t0_19 t0_20 t0_21 t1_0 lx35 lx36 lx37 = (F_VR_spread x2 x3 t0_0 t0_1 t0_2 t0_3 t0_4 t0_5 t0_6 t0_7 t0_8 t0_9 t0_10 t0_11 t0_12 t0_13 t0_14 t0_15 t0_16 t0_17 t0_18 t0_19 t0_20 t0_21 t1_0) from Eq.trans (by have c117x := c117; rw [← e50] at c117x; rw [F_VR_spread_L8.eq_2, if_neg c117x]) hR44), (show True ∧ S_VR_spread_J22 (S_VR_spread_L8 x2 x3 t0_0 t0_1 t0_2 t0_3 t0_4 t0_5 t0_6 t0_7 t0_8 t0_9 t0_10 t0_11 t0_12 t0_13 t0_14 t0_15 t0_16 t0_17 t0_18 t0_19 t0_20 t0_21 t1_0 fm48) x2 x3 t0_0 t0_1 t0_2 t0_3 t0_4 t0_5 t0_6 t0_7 t0_8 t0_9 t0_10 t0_11 t0_12 t0_13 t0_14 t0_15 t0_16 t0_17 t0_18 t0_19 t0_20 t0_21 t1_0 lx35 lx36 lx37 from (by have h := hS45; rw [S_VR_spread_L8.eq_2] at h; have c117x := c117; rw [← e50] at c117x; rw [if_neg c117x] at h; with_reducible exact h))⟩
    ·
      refine lv_aload_n hx hb d_16_26_15 rfl (lv_at hl 1 rfl) ?_
      refine q_get (ci := 17) (j := 29) (v := .int lx36) C0 V i_VR rfl rfl hO42 (by decide) w_2233 rfl d_16_26_16 ?_
      refine lv_if_ne (tgt := 99) hx hb d_16_26_19 (by decide) (fun c120 => ?_) (fun c120 => ?_)
      ·
        have b121 : q_F (lx36.toInt ≠ 0) := (q_neI c120)
        refine lv_iconst (v := 0) hx hb d_16_26_99 (by decide) ?_
        refine lv_istore (lv' := [(6, .int 0), (4, .long lx35), (0, .ref (q 157)), (3, .int x3)]) hx hb d_16_26_100 hl (by decide) rfl (fun ls hl => ?_)
        refine lv_aload_n hx hb d_16_26_102 rfl (lv_at hl 2 rfl) ?_
        refine q_get (ci := 17) (j := 29) (v := .int lx36) C0 V i_VR rfl rfl hO42 (by decide) w_2233 rfl d_16_26_103 ?_
        refine lv_iconst (v := 1) hx hb d_16_26_106 (by decide) ?_
        refine lv_isub hx hb d_16_26_107 ?_
        obtain ⟨a122, e123⟩ := q_nm (lx36 - 1 : Int32)
        refine q_ti (v := a122) e123 ?_
        have b124 : q_F (a122.toInt = lx36.toInt - 1) := (by rw [← e123]; show (lx36 - 1 : Int32).toInt = lx36.toInt - 1; exact q_subI (x := lx36.toInt) (y := 1) rfl (by decide) (by have t1 : 0 ≤ lx36.toInt := i38; have t2 : lx36.toInt ≤ 256 := i39; omega) (by have t1 : 0 ≤ lx36.toInt := i38; have t2 : lx36.toInt ≤ 256 := i39; omega))
        refine lv_istore (lv' := [(7, .int a122), (6, .int 0), (4, .long lx35), (0, .ref (q 157)), (3, .int x3)]) hx hb d_16_26_108 hl (by decide) rfl (fun ls hl => ?_)
        refine q_loop (X := Int32 × Int32 × (Nat → Int32)) (fun z H locs ls w135 => q_F (z.2.1.toInt ≤ a122.toInt) ∧ q_F (a122.toInt ≤ z.1.toInt + z.2.1.toInt) ∧ q_F (z.1.toInt + z.2.1.toInt ≤ a122.toInt) ∧ q_F (z.1.toInt ≤ z.2.1.toInt + a122.toInt) ∧ q_Wd D g (va_A ws sz) s w135 H locs ∧ lv_has ls 10 [(7, .int z.1), (6, .int z.2.1), (0, .ref (q 157))] ∧ q_I (msh g q) q w135 ∧ q_un ws w135 [157, 166] ∧ w135[157]? = (some (q 157, .inr (17, [.int t0_0, .ref (q 158), .int t0_1, .int t0_2, .ref (q 159), .ref (q 160), .ref (q 161), .ref (q 162), .ref (q 163), .int t0_3, .ref (q 164), .int t0_4, .int t0_5, .int t0_6, .int t0_7, .int t0_8, .int t0_9, .int t0_10, .int t0_11, .int t0_12, .int t0_13, .int t0_14, .int t0_15, .int t0_16, .ref (q 165), .int t0_17, .int t0_18, .int t0_19, .ref (q 166), .int lx36, .int t0_21])) : Option (Nat × va_E)) ∧ w135[166]? = (some (q 166, .inl (g 0, (64 : Int32).toNatClampNeg, .inl z.2.2)) : Option (Nat × va_E)) ∧ (∃ n, (z.1.toInt - ((-1))).toNat < n ∧ F_VR_spread_L110 (F_VR_spread_L8 x2 x3 t0_0 t0_1 t0_2 t0_3 t0_4 t0_5 t0_6 t0_7 t0_8 t0_9 t0_10 t0_11 t0_12 t0_13 t0_14 t0_15 t0_16 t0_17 t0_18 t0_19 t0_20 t0_21 t1_0 fm48) x2 x3 t0_0 t0_1 t0_2 t0_3 t0_4 t0_5 t0_6 t0_7 t0_8 t0_9 t0_10 t0_11 t0_12 t0_13 t0_14 t0_15 t0_16 t0_17 t0_18 t0_19 t0_20 t0_21 t1_0 lx35 lx36 lx37 n z.1 z.2.1 z.2.2 = (F_VR_spread x2 x3 t0_0 t0_1 t0_2 t0_3 t0_4 t0_5 t0_6 t0_7 t0_8 t0_9 t0_10 t0_11 t0_12 t0_13 t0_14 t0_15 t0_16 t0_17 t0_18 t0_19 t0_20 t0_21 t1_0) ∧ True ∧ S_VR_spread_L110 (S_VR_spread_L8 x2 x3 t0_0 t0_1 t0_2 t0_3 t0_4 t0_5 t0_6 t0_7 t0_8 t0_9 t0_10 t0_11 t0_12 t0_13 t0_14 t0_15 t0_16 t0_17 t0_18 t0_19 t0_20 t0_21 t1_0 fm48) x2 x3 t0_0 t0_1 t0_2 t0_3 t0_4 t0_5 t0_6 t0_7 t0_8 t0_9 t0_10 t0_11 t0_12 t0_13 t0_14 t0_15 t0_16 t0_17 t0_18 t0_19 t0_20 t0_21 t1_0 lx35 lx36 lx37 n z.1 z.2.1 z.2.2)) (fun z => (z.1.toInt - ((-1))).toNat) ?_ ((a122 : Int32), (0 : Int32), (lx37 : (Nat → Int32))) _ _ _ w41 ⟨(show q_F (0 ≤ a122.toInt) from (show 0 ≤ a122.toInt from by have t1 : 0 ≤ lx36.toInt := i38; have t2 : lx36.toInt ≠ 0 := b121; have t3 : a122.toInt = lx36.toInt - 1 := b124; omega)), (show q_F (a122.toInt ≤ a122.toInt + 0) from (show a122.toInt ≤ a122.toInt + 0 from by omega)), (show q_F (a122.toInt + 0 ≤ a122.toInt) from (show a122.toInt + 0 ≤ a122.toInt from by omega)), (show q_F (a122.toInt ≤ 0 + a122.toInt) from (show a122.toInt ≤ 0 + a122.toInt from by omega)), V, q_lw hl (q_lw1 0 rfl (q_lw1 1 rfl (q_lw1 3 rfl q_lw0))), hI, hF, hO42, hO43, ⟨((a122.toInt - ((-1))).toNat + 1), Nat.lt_succ_self _, (show F_VR_spread_L110 (F_VR_spread_L8 x2 x3 t0_0 t0_1 t0_2 t0_3 t0_4 t0_5 t0_6 t0_7 t0_8 t0_9 t0_10 t0_11 t0_12 t0_13 t0_14 t0_15 t0_16 t0_17 t0_18 t0_19 t0_20 t0_21 t1_0 fm48) x2 x3 t0_0 t0_1 t0_2 t0_3 t0_4 t0_5 t0_6 t0_7 t0_8 t0_9 t0_10 t0_11 t0_12 t0_13 t0_14 t0_15 t0_16 t0_17 t0_18 t0_19 t0_20 t0_21 t1_0 lx35 lx36 lx37 ((a122.toInt - ((-1))).toNat + 1) a122 0 lx37 = (F_VR_spread x2 x3 t0_0 t0_1 t0_2 t0_3 t0_4 t0_5 t0_6 t0_7 t0_8 t0_9 t0_10 t0_11 t0_12 t0_13 t0_14 t0_15 t0_16 t0_17 t0_18 t0_19 t0_20 t0_21 t1_0) from Eq.trans (by have c117x := c117; rw [← e50] at c117x; rw [← e123, F_VR_spread_L8.eq_2, if_pos c117x, if_neg c120]) hR44), (show True ∧ S_VR_spread_L110 (S_VR_spread_L8 x2 x3 t0_0 t0_1 t0_2 t0_3 t0_4 t0_5 t0_6 t0_7 t0_8 t0_9 t0_10 t0_11 t0_12 t0_13 t0_14 t0_15 t0_16 t0_17 t0_18 t0_19 t0_20 t0_21 t1_0 fm48) x2 x3 t0_0 t0_1 t0_2 t0_3 t0_4 t0_5 t0_6 t0_7 t0_8 t0_9 t0_10 t0_11 t0_12 t0_13 t0_14 t0_15 t0_16 t0_17 t0_18 t0_19 t0_20 t0_21 t1_0 lx35 lx36 lx37 ((a122.toInt - ((-1))).toNat + 1) a122 0 lx37 from (by rw [← e123]; have h := hS45; rw [S_VR_spread_L8.eq_2] at h; have c117x := c117; rw [← e50] at c117x; rw [if_pos c117x] at h; rw [if_neg c120] at h; with_reducible exact h))⟩⟩
        rintro ⟨lx127, lx128, lx129⟩ H locs ls w135 ⟨i130, i131, i132, i133, V, hl, hI, hF, hO136, hO137, ⟨fu140, hf141, hR138, hS139⟩⟩ ih134
        obtain ⟨fm142, rfl⟩ : ∃ m, fu140 = m + 1 := ⟨fu140 - 1, by omega⟩
        clear i130
        replace i131 : q_F (a122.toInt ≤ lx127.toInt + lx128.toInt) := i131
        replace i132 : q_F (lx127.toInt + lx128.toInt ≤ a122.toInt) := i132
        replace i133 : q_F (lx127.toInt ≤ lx128.toInt + a122.toInt) := i133
        replace hl : lv_has ls 10 [(7, .int lx127), (6, .int lx128), (0, .ref (q 157))] := hl
        replace hO136 : w135[157]? = (some (q 157, .inr (17, [.int t0_0, .ref (q 158), .int t0_1, .int t0_2, .ref (q 159), .ref (q 160), .ref (q 161), .ref (q 162), .ref (q 163), .int t0_3, .ref (q 164), .int t0_4, .int t0_5, .int t0_6, .int t0_7, .int t0_8, .int t0_9, .int t0_10, .int t0_11, .int t0_12, .int t0_13, .int t0_14, .int t0_15, .int t0_16, .ref (q 165), .int t0_17, .int t0_18, .int t0_19, .ref (q 166), .int lx36, .int t0_21])) : Option (Nat × va_E)) := hO136
        replace hO137 : w135[166]? = (some (q 166, .inl (g 0, (64 : Int32).toNatClampNeg, .inl lx129)) : Option (Nat × va_E)) := hO137
        refine lv_iload hx hb d_16_26_110 (lv_at hl 1 rfl) ?_
        refine lv_iload hx hb d_16_26_112 (lv_at hl 0 rfl) ?_
        refine lv_icmp_ge (tgt := 158) hx hb d_16_26_114 (by decide) (fun c143 => ?_) (fun c143 => ?_)
        ·
          refine lv_aload_n hx hb d_16_26_158 rfl (lv_at hl 2 rfl) ?_
          refine lv_aload_n hx hb d_16_26_159 rfl (lv_at hl 2 rfl) ?_
          refine q_get (ci := 17) (j := 29) (v := .int lx36) C0 V i_VR rfl rfl hO136 (by decide) w_2233 rfl d_16_26_160 ?_
          refine q_put (ci := 17) (j := 30) (v := .int lx36) (ty := .int) C0 V i_VR o_VR n_VR rfl rfl hO136 (by decide) w_2234 rfl rfl rfl rfl (Nat.le_of_ble_eq_true rfl) d_16_26_163 (fun H locs w145 hu146 hO136 V => ?_)
          replace hO136 : w145[157]? = (some (q 157, .inr (17, [.int t0_0, .ref (q 158), .int t0_1, .int t0_2, .ref (q 159), .ref (q 160), .ref (q 161), .ref (q 162), .ref (q 163), .int t0_3, .ref (q 164), .int t0_4, .int t0_5, .int t0_6, .int t0_7, .int t0_8, .int t0_9, .int t0_10, .int t0_11, .int t0_12, .int t0_13, .int t0_14, .int t0_15, .int t0_16, .ref (q 165), .int t0_17, .int t0_18, .int t0_19, .ref (q 166), .int lx36, .int lx36])) : Option (Nat × va_E)) := hO136
          replace hI := n_p157 hI hu146 hO136 (by first | with_reducible exact q_fe btt0_1 | exact ⟨(by have t1 : 0 ≤ t0_1.toInt ∧ t0_1.toInt ≤ 256 := btt0_1; omega), (by have t1 : 0 ≤ t0_1.toInt ∧ t0_1.toInt ≤ 256 := btt0_1; omega)⟩) (by first | with_reducible exact q_fe btt0_2 | exact ⟨(by have t1 : 0 ≤ t0_2.toInt ∧ t0_2.toInt ≤ 9 := btt0_2; omega), (by have t1 : 0 ≤ t0_2.toInt ∧ t0_2.toInt ≤ 9 := btt0_2; omega)⟩) (by first | with_reducible exact q_fe btt0_3 | exact ⟨(by have t1 : 0 ≤ t0_3.toInt ∧ t0_3.toInt ≤ 4096 := btt0_3; omega), (by have t1 : 0 ≤ t0_3.toInt ∧ t0_3.toInt ≤ 4096 := btt0_3; omega)⟩) (by first | with_reducible exact q_fe btt0_10 | exact ⟨(by have t1 : 0 ≤ t0_10.toInt ∧ t0_10.toInt ≤ 1 := btt0_10; omega), (by have t1 : 0 ≤ t0_10.toInt ∧ t0_10.toInt ≤ 1 := btt0_10; omega)⟩) (by first | with_reducible exact q_fe btt0_19 | exact ⟨(by have t1 : 0 ≤ t0_19.toInt ∧ t0_19.toInt ≤ 1 := btt0_19; omega), (by have t1 : 0 ≤ t0_19.toInt ∧ t0_19.toInt ≤ 1 := btt0_19; omega)⟩)
          replace hO137 := (hu146 _ (by decide)).trans hO137
          replace hF := q_us hF hu146 (by simp)
          exact q_retv C0 V (⟨hI, hF, lx36, lx36, lx129, hO136, hO137, (show 1 ≤ lx36.toInt from (by have t1 : 0 ≤ lx36.toInt := i38; have t2 : lx36.toInt ≠ 0 := b121; omega)), (show lx36.toInt ≤ 256 from (by first | with_reducible exact q_fe i39 | (have t1 : lx36.toInt ≤ 256 := i39; omega))), (show lx36.toInt ≤ lx36.toInt from (by omega)), (show lx36.toInt ≤ lx36.toInt from (by omega)), (show (lx36, lx36, lx129) = (F_VR_spread x2 x3 t0_0 t0_1 t0_2 t0_3 t0_4 t0_5 t0_6 t0_7 t0_8 t0_9 t0_10 t0_11 t0_12 t0_13 t0_14 t0_15 t0_16 t0_17 t0_18 t0_19 t0_20 t0_21 t1_0) from Eq.trans (by rw [F_VR_spread_L110.eq_2, if_pos c143]) hR138)⟩) d_16_26_166
        ·
          have b147 : q_F (lx128.toInt < lx127.toInt) := (q_nleI c143)
          refine lv_aload_n hx hb d_16_26_117 rfl (lv_at hl 2 rfl) ?_
          refine q_get (ci := 17) (j := 28) (v := .ref (q 166)) C0 V i_VR rfl rfl hO136 (by decide) w_2232 rfl d_16_26_118 ?_
          refine lv_iload hx hb d_16_26_121 (lv_at hl 1 rfl) ?_
          have ob148 : q_F (lx128.toInt ≤ 63) := (by have h := hS139; rw [S_VR_spread_L110.eq_2] at h; rw [if_neg c143] at h; exact h.2.1)
          refine q_iald C0 V hO137 (q_ix (x := lx128.toInt) rfl (by have t1 : a122.toInt ≤ lx127.toInt + lx128.toInt := i131; have t2 : lx127.toInt ≤ lx128.toInt + a122.toInt := i133; omega) (by have t1 : a122.toInt ≤ lx127.toInt + lx128.toInt := i131; have t2 : lx127.toInt ≤ lx128.toInt + a122.toInt := i133; have t3 : lx128.toInt ≤ 63 := ob148; have e9 : (((64 : Int32).toNatClampNeg : Nat) : Int) = 64 := (by decide); omega)) d_16_26_123 ?_
          obtain ⟨a149, e150⟩ := q_nm (lx129 lx128.toNatClampNeg : Int32)
          refine q_ti (v := a149) e150 ?_
          refine lv_istore (lv' := [(8, .int a149), (7, .int lx127), (6, .int lx128), (0, .ref (q 157))]) hx hb d_16_26_124 hl (by decide) rfl (fun ls hl => ?_)
          refine lv_aload_n hx hb d_16_26_126 rfl (lv_at hl 3 rfl) ?_
          refine q_get (ci := 17) (j := 28) (v := .ref (q 166)) C0 V i_VR rfl rfl hO136 (by decide) w_2232 rfl d_16_26_127 ?_
          refine lv_iload hx hb d_16_26_130 (lv_at hl 2 rfl) ?_
          refine lv_aload_n hx hb d_16_26_132 rfl (lv_at hl 3 rfl) ?_
          refine q_get (ci := 17) (j := 28) (v := .ref (q 166)) C0 V i_VR rfl rfl hO136 (by decide) w_2232 rfl d_16_26_133 ?_
          refine lv_iload hx hb d_16_26_136 (lv_at hl 1 rfl) ?_
          have ob151 : q_F (lx127.toInt ≤ 63) := (by have h := hS139; rw [S_VR_spread_L110.eq_2] at h; rw [if_neg c143] at h; replace h := q_s2 h; exact h.2.1)
          refine q_iald C0 V hO137 (q_ix (x := lx127.toInt) rfl (by have t1 : a122.toInt ≤ lx127.toInt + lx128.toInt := i131; have t2 : lx127.toInt ≤ lx128.toInt + a122.toInt := i133; have t3 : lx128.toInt < lx127.toInt := b147; omega) (by have t1 : a122.toInt ≤ lx127.toInt + lx128.toInt := i131; have t2 : lx127.toInt ≤ lx128.toInt + a122.toInt := i133; have t3 : lx128.toInt < lx127.toInt := b147; have t4 : lx127.toInt ≤ 63 := ob151; have e9 : (((64 : Int32).toNatClampNeg : Nat) : Int) = 64 := (by decide); omega)) d_16_26_138 ?_
          obtain ⟨a152, e153⟩ := q_nm (lx129 lx127.toNatClampNeg : Int32)
          refine q_ti (v := a152) e153 ?_
          refine q_iast C0 V hO137 (q_ix (x := lx128.toInt) rfl (by have t1 : a122.toInt ≤ lx127.toInt + lx128.toInt := i131; have t2 : lx127.toInt ≤ lx128.toInt + a122.toInt := i133; omega) (by have t1 : a122.toInt ≤ lx127.toInt + lx128.toInt := i131; have t2 : lx127.toInt ≤ lx128.toInt + a122.toInt := i133; have t3 : lx128.toInt ≤ 63 := ob148; have e9 : (((64 : Int32).toNatClampNeg : Nat) : Int) = 64 := (by decide); omega)) d_16_26_139 (fun H locs w154 hu155 hO137 V => ?_)
          replace hI := n_ai' hI (n_r166 g q).1 hu155 hO137 (q_updB (fun _ => s_bnd) s_bnd)
          replace hO136 := (hu155 _ (by decide)).trans hO136
          replace hF := q_us hF hu155 (by simp)
          obtain ⟨f156, e157⟩ := q_nm (upd lx129 lx128.toNatClampNeg a152 : (Nat → Int32))
          rw [e157] at hO137
          refine lv_aload_n hx hb d_16_26_140 rfl (lv_at hl 3 rfl) ?_
          refine q_get (ci := 17) (j := 28) (v := .ref (q 166)) C0 V i_VR rfl rfl hO136 (by decide) w_2232 rfl d_16_26_141 ?_
          refine lv_iload hx hb d_16_26_144 (lv_at hl 1 rfl) ?_
          refine lv_iload hx hb d_16_26_146 (lv_at hl 0 rfl) ?_
          refine q_iast C0 V hO137 (q_ix (x := lx127.toInt) rfl (by have t1 : a122.toInt ≤ lx127.toInt + lx128.toInt := i131; have t2 : lx127.toInt ≤ lx128.toInt + a122.toInt := i133; have t3 : lx128.toInt < lx127.toInt := b147; omega) (by have t1 : a122.toInt ≤ lx127.toInt + lx128.toInt := i131; have t2 : lx127.toInt ≤ lx128.toInt + a122.toInt := i133; have t3 : lx128.toInt < lx127.toInt := b147; have t4 : lx127.toInt ≤ 63 := ob151; have e9 : (((64 : Int32).toNatClampNeg : Nat) : Int) = 64 := (by decide); omega)) d_16_26_148 (fun H locs w158 hu159 hO137 V => ?_)
          replace hI := n_ai' hI (n_r166 g q).1 hu159 hO137 (q_updB (fun _ => s_bnd) s_bnd)
          replace hO136 := (hu159 _ (by decide)).trans hO136
          replace hF := q_us hF hu159 (by simp)
          obtain ⟨f160, e161⟩ := q_nm (upd f156 lx127.toNatClampNeg a149 : (Nat → Int32))
          rw [e161] at hO137
          obtain ⟨a162, e163⟩ := q_nm (lx128 + 1 : Int32)
          have b164 : q_F (a162.toInt = lx128.toInt + 1) := (by rw [← e163]; exact q_addI (y := 1) rfl (by decide) (by have t1 : a122.toInt ≤ lx127.toInt + lx128.toInt := i131; have t2 : lx127.toInt ≤ lx128.toInt + a122.toInt := i133; have t3 : lx128.toInt ≤ 63 := ob148; omega) (by have t1 : a122.toInt ≤ lx127.toInt + lx128.toInt := i131; have t2 : lx127.toInt ≤ lx128.toInt + a122.toInt := i133; have t3 : lx128.toInt ≤ 63 := ob148; omega))
          refine lv_iinc (v := a162) (lv' := [(6, .int a162), (8, .int a149), (7, .int lx127), (0, .ref (q 157))]) hx hb d_16_26_149 hl (k := 2) rfl (e163) (by decide) rfl (fun ls hl => ?_)
          obtain ⟨a165, e166⟩ := q_nm (lx127 + (-1) : Int32)
          have b167 : q_F (a165.toInt = lx127.toInt + (-1)) := (by rw [← e166]; exact q_addI (y := (-1)) rfl (by decide) (by have t1 : a122.toInt ≤ lx127.toInt + lx128.toInt := i131; have t2 : lx127.toInt ≤ lx128.toInt + a122.toInt := i133; have t3 : lx128.toInt < lx127.toInt := b147; have t4 : lx127.toInt ≤ 63 := ob151; omega) (by have t1 : a122.toInt ≤ lx127.toInt + lx128.toInt := i131; have t2 : lx127.toInt ≤ lx128.toInt + a122.toInt := i133; have t3 : lx128.toInt < lx127.toInt := b147; have t4 : lx127.toInt ≤ 63 := ob151; omega))
          refine lv_iinc (v := a165) (lv' := [(7, .int a165), (6, .int a162), (8, .int a149), (0, .ref (q 157))]) hx hb d_16_26_152 hl (k := 2) rfl (e166) (by decide) rfl (fun ls hl => ?_)
          refine lv_goto (tgt := 110) hx hb d_16_26_155 (by decide) ?_
          exact ih134 ((a165 : Int32), (a162 : Int32), (f160 : (Nat → Int32))) _ _ _ _ (show (a165.toInt - ((-1))).toNat < (lx127.toInt - ((-1))).toNat from by have t1 : a165.toInt = lx127.toInt + (-1) := b167; have t2 : a122.toInt ≤ lx127.toInt + lx128.toInt := i131; have t3 : lx127.toInt ≤ lx128.toInt + a122.toInt := i133; have t4 : lx128.toInt < lx127.toInt := b147; omega) ⟨(show q_F (a162.toInt ≤ a122.toInt) from (show a162.toInt ≤ a122.toInt from by have t1 : 0 ≤ lx36.toInt := i38; have t2 : lx36.toInt ≠ 0 := b121; have t3 : a122.toInt = lx36.toInt - 1 := b124; have t4 : lx127.toInt + lx128.toInt ≤ a122.toInt := i132; have t5 : lx128.toInt < lx127.toInt := b147; have t6 : a162.toInt = lx128.toInt + 1 := b164; omega)), (show q_F (a122.toInt ≤ a165.toInt + a162.toInt) from (show a122.toInt ≤ a165.toInt + a162.toInt from by have t1 : a122.toInt ≤ lx127.toInt + lx128.toInt := i131; have t2 : a162.toInt = lx128.toInt + 1 := b164; have t3 : a165.toInt = lx127.toInt + (-1) := b167; omega)), (show q_F (a165.toInt + a162.toInt ≤ a122.toInt) from (show a165.toInt + a162.toInt ≤ a122.toInt from by have t1 : lx127.toInt + lx128.toInt ≤ a122.toInt := i132; have t2 : a162.toInt = lx128.toInt + 1 := b164; have t3 : a165.toInt = lx127.toInt + (-1) := b167; omega)), (show q_F (a165.toInt ≤ a162.toInt + a122.toInt) from (show a165.toInt ≤ a162.toInt + a122.toInt from by have t1 : lx127.toInt ≤ lx128.toInt + a122.toInt := i133; have t2 : a162.toInt = lx128.toInt + 1 := b164; have t3 : a165.toInt = lx127.toInt + (-1) := b167; omega)), V, q_lw hl (q_lw1 0 rfl (q_lw1 1 rfl (q_lw1 3 rfl q_lw0))), hI, hF, hO136, hO137, ⟨fm142, Nat.lt_of_lt_of_le (show (a165.toInt - ((-1))).toNat < (lx127.toInt - ((-1))).toNat from by have t1 : a165.toInt = lx127.toInt + (-1) := b167; have t2 : a122.toInt ≤ lx127.toInt + lx128.toInt := i131; have t3 : lx127.toInt ≤ lx128.toInt + a122.toInt := i133; have t4 : lx128.toInt < lx127.toInt := b147; omega) (Nat.le_of_lt_succ hf141), (show F_VR_spread_L110 (F_VR_spread_L8 x2 x3 t0_0 t0_1 t0_2 t0_3 t0_4 t0_5 t0_6 t0_7 t0_8 t0_9 t0_10 t0_11 t0_12 t0_13 t0_14 t0_15 t0_16 t0_17 t0_18 t0_19 t0_20 t0_21 t1_0 fm48) x2 x3 t0_0 t0_1 t0_2 t0_3 t0_4 t0_5 t0_6 t0_7 t0_8 t0_9 t0_10 t0_11 t0_12 t0_13 t0_14 t0_15 t0_16 t0_17 t0_18 t0_19 t0_20 t0_21 t1_0 lx35 lx36 lx37 fm142 a165 a162 f160 = (F_VR_spread x2 x3 t0_0 t0_1 t0_2 t0_3 t0_4 t0_5 t0_6 t0_7 t0_8 t0_9 t0_10 t0_11 t0_12 t0_13 t0_14 t0_15 t0_16 t0_17 t0_18 t0_19 t0_20 t0_21 t1_0) from Eq.trans (by rw [← e166, ← e163, ← e161, ← e157, ← e153, ← e150, F_VR_spread_L110.eq_2, if_neg c143]) hR138), (show True ∧ S_VR_spread_L110 (S_VR_spread_L8 x2 x3 t0_0 t0_1 t0_2 t0_3 t0_4 t0_5 t0_6 t0_7 t0_8 t0_9 t0_10 t0_11 t0_12 t0_13 t0_14 t0_15 t0_16 t0_17 t0_18 t0_19 t0_20 t0_21 t1_0 fm48) x2 x3 t0_0 t0_1 t0_2 t0_3 t0_4 t0_5 t0_6 t0_7 t0_8 t0_9 t0_10 t0_11 t0_12 t0_13 t0_14 t0_15 t0_16 t0_17 t0_18 t0_19 t0_20 t0_21 t1_0 lx35 lx36 lx37 fm142 a165 a162 f160 from (by rw [← e166, ← e163, ← e161, ← e157, ← e153, ← e150]; have h := hS139; rw [S_VR_spread_L110.eq_2] at h; rw [if_neg c143] at h; replace h := q_s2 h; replace h := q_s2 h; with_reducible exact h))⟩⟩
      ·
        exact J54 (()) _ _ _ w41 ⟨V, q_lw hl (q_lw1 0 rfl (q_lw1 1 rfl (q_lw1 2 rfl q_lw0))), (show F_VR_spread_J22 (F_VR_spread_L8 x2 x3 t0_0 t0_1 t0_2 t0_3 t0_4 t0_5 t0_6 t0_7 t0_8 t0_9 t0_10 t0_11 t0_12 t0_13 t0_14 t0_15 t0_16 t0_17 t0_18 t0_19 t0_20 t0_21 t1_0 fm48) x2 x3 t0_0 t0_1 t0_2 t0_3 t0_4 t0_5 t0_6 t0_7 t0_8 t0_9 t0_10 t0_11 t0_12 t0_13 t0_14 t0_15 t0_16 t0_17 t0_18 t0_19 t0_20 t0_21 t1_0 lx35 lx36 lx37 = (F_VR_spread x2 x3 t0_0 t0_1 t0_2 t0_3 t0_4 t0_5 t0_6 t0_7 t0_8 t0_9 t0_10 t0_11 t0_12 t0_13 t0_14 t0_15 t0_16 t0_17 t0_18 t0_19 t0_20 t0_21 t1_0) from Eq.trans (by have c117x := c117; rw [← e50] at c117x; rw [F_VR_spread_L8.eq_2, if_pos c117x, if_pos c120]) hR44), (show True ∧ S_VR_spread_J22 (S_VR_spread_L8 x2 x3 t0_0 t0_1 t0_2 t0_3 t0_4 t0_5 t0_6 t0_7 t0_8 t0_9 t0_10 t0_11 t0_12 t0_13 t0_14 t0_15 t0_16 t0_17 t0_18 t0_19 t0_20 t0_21 t1_0 fm48) x2 x3 t0_0 t0_1 t0_2 t0_3 t0_4 t0_5 t0_6 t0_7 t0_8 t0_9 t0_10 t0_11 t0_12 t0_13 t0_14 t0_15 t0_16 t0_17 t0_18 t0_19 t0_20 t0_21 t1_0 lx35 lx36 lx37 from (by have h := hS45; rw [S_VR_spread_L8.eq_2] at h; have c117x := c117; rw [← e50] at c117x; rw [if_pos c117x] at h; rw [if_pos c120] at h; with_reducible exact h))⟩

