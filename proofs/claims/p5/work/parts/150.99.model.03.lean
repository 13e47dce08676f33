theorem d_14_20_0 : decode prog_14_method_20_code 0 = .ok (.aload_n 0, 1) := by decide +kernel
theorem d_14_20_1 : decode prog_14_method_20_code 1 = .ok (.iload_n 1, 1) := by decide +kernel
theorem d_14_20_38 : decode prog_14_method_20_code 38 = .ok (.putfield 58, 3) := by decide +kernel
theorem d_14_20_41 : decode prog_14_method_20_code 41 = .ok (.aload_n 0, 1) := by decide +kernel
theorem d_14_20_42 : decode prog_14_method_20_code 42 = .ok (.getfield 58, 3) := by decide +kernel
theorem d_14_20_45 : decode prog_14_method_20_code 45 = .ok (.ifCond .le 4, 3) := by decide +kernel
theorem d_14_20_49 : decode prog_14_method_20_code 49 = .ok (.iload_n 1, 1) := by decide +kernel
theorem d_14_20_50 : decode prog_14_method_20_code 50 = .ok (.tableswitch 158 0 7 #[46, 46, 70, 84, 100, 116, 130, 144], 46) := by decide +kernel
theorem d_14_20_96 : decode prog_14_method_20_code 96 = .ok (.aload_n 0, 1) := by decide +kernel
theorem d_14_20_97 : decode prog_14_method_20_code 97 = .ok (.getfield 19, 3) := by decide +kernel
theorem d_14_20_100 : decode prog_14_method_20_code 100 = .ok (.iload_n 2, 1) := by decide +kernel
theorem d_14_20_101 : decode prog_14_method_20_code 101 = .ok (.iload_n 3, 1) := by decide +kernel
theorem d_14_20_102 : decode prog_14_method_20_code 102 = .ok (.iload 4, 2) := by decide +kernel
theorem d_14_20_104 : decode prog_14_method_20_code 104 = .ok (.iload_n 1, 1) := by decide +kernel
theorem d_14_20_105 : decode prog_14_method_20_code 105 = .ok (.iconst 1, 1) := by decide +kernel
theorem d_14_20_106 : decode prog_14_method_20_code 106 = .ok (.if_icmp .ne 7, 3) := by decide +kernel
theorem d_14_20_113 : decode prog_14_method_20_code 113 = .ok (.iconst 0, 1) := by decide +kernel
theorem d_14_20_114 : decode prog_14_method_20_code 114 = .ok (.invokevirtual 168, 3) := by decide +kernel
set_option maxRecDepth 100000 in
theorem w_2685 : (Cond.code ({ cls := "NumberHouseModel$WholeRows", name := "add", desc := "(IIIZ)V" } : MethodName) prog_19_method_22_code (5 : Nat) (none : Option ClassFile.FieldType)) ∈ q_tbl := q_of12 45 rfl (by decide +kernel)
set_option maxRecDepth 100000 in
theorem w_2682 : (Cond.methodLink "NumberHouseModel" (168 : Nat) ({ cls := "NumberHouseModel$WholeRows", name := "add", desc := "(IIIZ)V" } : MethodName)) ∈ q_tbl := q_of12 42 rfl (by decide +kernel)
set_option maxRecDepth 100000 in
theorem w_2683 : (Cond.instanceMethod ({ cls := "NumberHouseModel$WholeRows", name := "add", desc := "(IIIZ)V" } : MethodName)) ∈ q_tbl := q_of12 43 rfl (by decide +kernel)
set_option maxRecDepth 100000 in
theorem w_2684 : (Cond.selects "NumberHouseModel$WholeRows" ({ cls := "NumberHouseModel$WholeRows", name := "add", desc := "(IIIZ)V" } : MethodName) ({ cls := "NumberHouseModel$WholeRows", name := "add", desc := "(IIIZ)V" } : MethodName)) ∈ q_tbl := q_of12 44 rfl (by decide +kernel)
theorem LV_NM_168 : q_LV "NumberHouseModel" 168 y_WR_add prog_19_method_22_code 5 none 4 := ⟨w_2685, w_15, w_2682, w_2683, w_2684, ⟨by decide, by decide, by decide +kernel⟩⟩
theorem d_14_20_117 : decode prog_14_method_20_code 117 = .ok (.goto 106, 3) := by decide +kernel
theorem d_14_20_223 : decode prog_14_method_20_code 223 = .ok (.aload_n 0, 1) := by decide +kernel
theorem d_14_20_224 : decode prog_14_method_20_code 224 = .ok (.aload_n 0, 1) := by decide +kernel
theorem d_14_20_225 : decode prog_14_method_20_code 225 = .ok (.getfield 19, 3) := by decide +kernel
theorem d_14_20_228 : decode prog_14_method_20_code 228 = .ok (.getfield 99, 3) := by decide +kernel
theorem d_14_20_231 : decode prog_14_method_20_code 231 = .ok (.putfield 58, 3) := by decide +kernel
theorem d_14_20_234 : decode prog_14_method_20_code 234 = .ok (.return_, 1) := by decide +kernel
theorem d_14_20_109 : decode prog_14_method_20_code 109 = .ok (.iconst 1, 1) := by decide +kernel
theorem d_14_20_110 : decode prog_14_method_20_code 110 = .ok (.goto 4, 3) := by decide +kernel
theorem d_14_20_120 : decode prog_14_method_20_code 120 = .ok (.aload_n 0, 1) := by decide +kernel
theorem d_14_20_121 : decode prog_14_method_20_code 121 = .ok (.getfield 19, 3) := by decide +kernel
theorem d_14_20_124 : decode prog_14_method_20_code 124 = .ok (.iload_n 2, 1) := by decide +kernel
theorem d_14_20_125 : decode prog_14_method_20_code 125 = .ok (.iload_n 3, 1) := by decide +kernel
theorem d_14_20_126 : decode prog_14_method_20_code 126 = .ok (.iload 4, 2) := by decide +kernel
theorem d_14_20_128 : decode prog_14_method_20_code 128 = .ok (.invokevirtual 172, 3) := by decide +kernel
set_option maxRecDepth 100000 in
theorem w_2699 : (Cond.code ({ cls := "NumberHouseModel$WholeRows", name := "multiply", desc := "(III)V" } : MethodName) prog_19_method_23_code (4 : Nat) (none : Option ClassFile.FieldType)) ∈ q_tbl := q_of12 59 rfl (by decide +kernel)
set_option maxRecDepth 100000 in
theorem w_2696 : (Cond.methodLink "NumberHouseModel" (172 : Nat) ({ cls := "NumberHouseModel$WholeRows", name := "multiply", desc := "(III)V" } : MethodName)) ∈ q_tbl := q_of12 56 rfl (by decide +kernel)
set_option maxRecDepth 100000 in
theorem w_2697 : (Cond.instanceMethod ({ cls := "NumberHouseModel$WholeRows", name := "multiply", desc := "(III)V" } : MethodName)) ∈ q_tbl := q_of12 57 rfl (by decide +kernel)
set_option maxRecDepth 100000 in
theorem w_2698 : (Cond.selects "NumberHouseModel$WholeRows" ({ cls := "NumberHouseModel$WholeRows", name := "multiply", desc := "(III)V" } : MethodName) ({ cls := "NumberHouseModel$WholeRows", name := "multiply", desc := "(III)V" } : MethodName)) ∈ q_tbl := q_of12 58 rfl (by decide +kernel)
theorem LV_NM_172 : q_LV "NumberHouseModel" 172 y_WR_multiply prog_19_method_23_code 4 none 3 := ⟨w_2699, w_15, w_2696, w_2697, w_2698, ⟨by decide, by decide, by decide +kernel⟩⟩
theorem d_14_20_131 : decode prog_14_method_20_code 131 = .ok (.goto 92, 3) := by decide +kernel
theorem d_14_20_134 : decode prog_14_method_20_code 134 = .ok (.aload_n 0, 1) := by decide +kernel
theorem d_14_20_135 : decode prog_14_method_20_code 135 = .ok (.getfield 19, 3) := by decide +kernel
theorem d_14_20_138 : decode prog_14_method_20_code 138 = .ok (.iload_n 2, 1) := by decide +kernel
theorem d_14_20_139 : decode prog_14_method_20_code 139 = .ok (.iload_n 3, 1) := by decide +kernel
theorem d_14_20_140 : decode prog_14_method_20_code 140 = .ok (.iload 4, 2) := by decide +kernel
theorem d_14_20_142 : decode prog_14_method_20_code 142 = .ok (.bipush 10, 2) := by decide +kernel
theorem d_14_20_144 : decode prog_14_method_20_code 144 = .ok (.invokevirtual 176, 3) := by decide +kernel
set_option maxRecDepth 100000 in
theorem w_2707 : (Cond.code ({ cls := "NumberHouseModel$WholeRows", name := "divide", desc := "(IIII)V" } : MethodName) prog_19_method_24_code (7 : Nat) (none : Option ClassFile.FieldType)) ∈ q_tbl := q_of12 67 rfl (by decide +kernel)
set_option maxRecDepth 100000 in
theorem w_2704 : (Cond.methodLink "NumberHouseModel" (176 : Nat) ({ cls := "NumberHouseModel$WholeRows", name := "divide", desc := "(IIII)V" } : MethodName)) ∈ q_tbl := q_of12 64 rfl (by decide +kernel)
set_option maxRecDepth 100000 in
theorem w_2705 : (Cond.instanceMethod ({ cls := "NumberHouseModel$WholeRows", name := "divide", desc := "(IIII)V" } : MethodName)) ∈ q_tbl := q_of12 65 rfl (by decide +kernel)
set_option maxRecDepth 100000 in
theorem w_2706 : (Cond.selects "NumberHouseModel$WholeRows" ({ cls := "NumberHouseModel$WholeRows", name := "divide", desc := "(IIII)V" } : MethodName) ({ cls := "NumberHouseModel$WholeRows", name := "divide", desc := "(IIII)V" } : MethodName)) ∈ q_tbl := q_of12 66 rfl (by decide +kernel)
theorem LV_NM_176 : q_LV "NumberHouseModel" 176 y_WR_divide prog_19_method_24_code 7 none 4 := ⟨w_2707, w_15, w_2704, w_2705, w_2706, ⟨by decide, by decide, by decide +kernel⟩⟩
theorem d_14_20_147 : decode prog_14_method_20_code 147 = .ok (.goto 76, 3) := by decide +kernel
theorem d_14_20_150 : decode prog_14_method_20_code 150 = .ok (.aload_n 0, 1) := by decide +kernel
theorem d_14_20_151 : decode prog_14_method_20_code 151 = .ok (.getfield 19, 3) := by decide +kernel
theorem d_14_20_154 : decode prog_14_method_20_code 154 = .ok (.iload_n 2, 1) := by decide +kernel
theorem d_14_20_155 : decode prog_14_method_20_code 155 = .ok (.iload_n 3, 1) := by decide +kernel
theorem d_14_20_156 : decode prog_14_method_20_code 156 = .ok (.bipush 10, 2) := by decide +kernel
theorem d_14_20_158 : decode prog_14_method_20_code 158 = .ok (.iload 4, 2) := by decide +kernel
theorem d_14_20_160 : decode prog_14_method_20_code 160 = .ok (.invokevirtual 176, 3) := by decide +kernel
theorem d_14_20_163 : decode prog_14_method_20_code 163 = .ok (.goto 60, 3) := by decide +kernel
theorem d_14_20_166 : decode prog_14_method_20_code 166 = .ok (.aload_n 0, 1) := by decide +kernel
theorem d_14_20_167 : decode prog_14_method_20_code 167 = .ok (.getfield 19, 3) := by decide +kernel
theorem d_14_20_170 : decode prog_14_method_20_code 170 = .ok (.iload_n 2, 1) := by decide +kernel
theorem d_14_20_171 : decode prog_14_method_20_code 171 = .ok (.iload_n 3, 1) := by decide +kernel
theorem d_14_20_172 : decode prog_14_method_20_code 172 = .ok (.iload 4, 2) := by decide +kernel
theorem d_14_20_174 : decode prog_14_method_20_code 174 = .ok (.invokevirtual 180, 3) := by decide +kernel
set_option maxRecDepth 100000 in
theorem w_2715 : (Cond.code ({ cls := "NumberHouseModel$WholeRows", name := "modulo", desc := "(III)V" } : MethodName) prog_19_method_27_code (4 : Nat) (none : Option ClassFile.FieldType)) ∈ q_tbl := q_of12 75 rfl (by decide +kernel)
set_option maxRecDepth 100000 in
theorem w_2712 : (Cond.methodLink "NumberHouseModel" (180 : Nat) ({ cls := "NumberHouseModel$WholeRows", name := "modulo", desc := "(III)V" } : MethodName)) ∈ q_tbl := q_of12 72 rfl (by decide +kernel)
set_option maxRecDepth 100000 in
theorem w_2713 : (Cond.instanceMethod ({ cls := "NumberHouseModel$WholeRows", name := "modulo", desc := "(III)V" } : MethodName)) ∈ q_tbl := q_of12 73 rfl (by decide +kernel)
set_option maxRecDepth 100000 in
theorem w_2714 : (Cond.selects "NumberHouseModel$WholeRows" ({ cls := "NumberHouseModel$WholeRows", name := "modulo", desc := "(III)V" } : MethodName) ({ cls := "NumberHouseModel$WholeRows", name := "modulo", desc := "(III)V" } : MethodName)) ∈ q_tbl := q_of12 74 rfl (by decide +kernel)
theorem LV_NM_180 : q_LV "NumberHouseModel" 180 y_WR_modulo prog_19_method_27_code 4 none 3 := ⟨w_2715, w_15, w_2712, w_2713, w_2714, ⟨by decide, by decide, by decide +kernel⟩⟩
theorem d_14_20_177 : decode prog_14_method_20_code 177 = .ok (.goto 46, 3) := by decide +kernel
theorem d_14_20_180 : decode prog_14_method_20_code 180 = .ok (.aload_n 0, 1) := by decide +kernel
theorem d_14_20_181 : decode prog_14_method_20_code 181 = .ok (.getfield 19, 3) := by decide +kernel
theorem d_14_20_184 : decode prog_14_method_20_code 184 = .ok (.iload_n 2, 1) := by decide +kernel
theorem d_14_20_185 : decode prog_14_method_20_code 185 = .ok (.iload_n 3, 1) := by decide +kernel
theorem d_14_20_186 : decode prog_14_method_20_code 186 = .ok (.iload 4, 2) := by decide +kernel
theorem d_14_20_188 : decode prog_14_method_20_code 188 = .ok (.invokevirtual 183, 3) := by decide +kernel
set_option maxRecDepth 100000 in
theorem w_2727 : (Cond.code ({ cls := "NumberHouseModel$WholeRows", name := "common", desc := "(III)V" } : MethodName) prog_19_method_32_code (4 : Nat) (none : Option ClassFile.FieldType)) ∈ q_tbl := q_of12 87 rfl (by decide +kernel)
set_option maxRecDepth 100000 in
theorem w_2724 : (Cond.methodLink "NumberHouseModel" (183 : Nat) ({ cls := "NumberHouseModel$WholeRows", name := "common", desc := "(III)V" } : MethodName)) ∈ q_tbl := q_of12 84 rfl (by decide +kernel)
set_option maxRecDepth 100000 in
theorem w_2725 : (Cond.instanceMethod ({ cls := "NumberHouseModel$WholeRows", name := "common", desc := "(III)V" } : MethodName)) ∈ q_tbl := q_of12 85 rfl (by decide +kernel)
set_option maxRecDepth 100000 in
theorem w_2726 : (Cond.selects "NumberHouseModel$WholeRows" ({ cls := "NumberHouseModel$WholeRows", name := "common", desc := "(III)V" } : MethodName) ({ cls := "NumberHouseModel$WholeRows", name := "common", desc := "(III)V" } : MethodName)) ∈ q_tbl := q_of12 86 rfl (by decide +kernel)
theorem LV_NM_183 : q_LV "NumberHouseModel" 183 y_WR_common prog_19_method_32_code 4 none 3 := ⟨w_2727, w_15, w_2724, w_2725, w_2726, ⟨by decide, by decide, by decide +kernel⟩⟩
theorem d_14_20_191 : decode prog_14_method_20_code 191 = .ok (.goto 32, 3) := by decide +kernel
theorem d_14_20_194 : decode prog_14_method_20_code 194 = .ok (.aload_n 0, 1) := by decide +kernel
theorem d_14_20_195 : decode prog_14_method_20_code 195 = .ok (.getfield 19, 3) := by decide +kernel
theorem d_14_20_198 : decode prog_14_method_20_code 198 = .ok (.iload_n 2, 1) := by decide +kernel
theorem d_14_20_199 : decode prog_14_method_20_code 199 = .ok (.iload_n 3, 1) := by decide +kernel
theorem d_14_20_200 : decode prog_14_method_20_code 200 = .ok (.iload 4, 2) := by decide +kernel
theorem d_14_20_202 : decode prog_14_method_20_code 202 = .ok (.invokevirtual 186, 3) := by decide +kernel
set_option maxRecDepth 100000 in
theorem w_2731 : (Cond.code ({ cls := "NumberHouseModel$WholeRows", name := "inverse", desc := "(III)V" } : MethodName) prog_19_method_34_code (4 : Nat) (none : Option ClassFile.FieldType)) ∈ q_tbl := q_of12 91 rfl (by decide +kernel)
set_option maxRecDepth 100000 in
theorem w_2728 : (Cond.methodLink "NumberHouseModel" (186 : Nat) ({ cls := "NumberHouseModel$WholeRows", name := "inverse", desc := "(III)V" } : MethodName)) ∈ q_tbl := q_of12 88 rfl (by decide +kernel)
set_option maxRecDepth 100000 in
theorem w_2729 : (Cond.instanceMethod ({ cls := "NumberHouseModel$WholeRows", name := "inverse", desc := "(III)V" } : MethodName)) ∈ q_tbl := q_of12 89 rfl (by decide +kernel)
set_option maxRecDepth 100000 in
theorem w_2730 : (Cond.selects "NumberHouseModel$WholeRows" ({ cls := "NumberHouseModel$WholeRows", name := "inverse", desc := "(III)V" } : MethodName) ({ cls := "NumberHouseModel$WholeRows", name := "inverse", desc := "(III)V" } : MethodName)) ∈ q_tbl := q_of12 90 rfl (by decide +kernel)
theorem LV_NM_186 : q_LV "NumberHouseModel" 186 y_WR_inverse prog_19_method_34_code 4 none 3 := ⟨w_2731, w_15, w_2728, w_2729, w_2730, ⟨by decide, by decide, by decide +kernel⟩⟩
theorem d_14_20_205 : decode prog_14_method_20_code 205 = .ok (.goto 18, 3) := by decide +kernel
theorem d_14_20_208 : decode prog_14_method_20_code 208 = .ok (.aload_n 0, 1) := by decide +kernel
theorem d_14_20_209 : decode prog_14_method_20_code 209 = .ok (.getfield 19, 3) := by decide +kernel
theorem d_14_20_212 : decode prog_14_method_20_code 212 = .ok (.iload_n 2, 1) := by decide +kernel
theorem d_14_20_213 : decode prog_14_method_20_code 213 = .ok (.iload_n 3, 1) := by decide +kernel
theorem d_14_20_214 : decode prog_14_method_20_code 214 = .ok (.iload 4, 2) := by decide +kernel
theorem d_14_20_216 : decode prog_14_method_20_code 216 = .ok (.iload_n 1, 1) := by decide +kernel
theorem d_14_20_217 : decode prog_14_method_20_code 217 = .ok (.bipush 8, 2) := by decide +kernel
theorem d_14_20_219 : decode prog_14_method_20_code 219 = .ok (.isub, 1) := by decide +kernel
theorem d_14_20_220 : decode prog_14_method_20_code 220 = .ok (.invokevirtual 189, 3) := by decide +kernel
set_option maxRecDepth 100000 in
theorem w_2743 : (Cond.code ({ cls := "NumberHouseModel$WholeRows", name := "combine", desc := "(IIII)V" } : MethodName) prog_19_method_37_code (8 : Nat) (none : Option ClassFile.FieldType)) ∈ q_tbl := q_of12 103 rfl (by decide +kernel)
set_option maxRecDepth 100000 in
theorem w_2740 : (Cond.methodLink "NumberHouseModel" (189 : Nat) ({ cls := "NumberHouseModel$WholeRows", name := "combine", desc := "(IIII)V" } : MethodName)) ∈ q_tbl := q_of12 100 rfl (by decide +kernel)
set_option maxRecDepth 100000 in
theorem w_2741 : (Cond.instanceMethod ({ cls := "NumberHouseModel$WholeRows", name := "combine", desc := "(IIII)V" } : MethodName)) ∈ q_tbl := q_of12 101 rfl (by decide +kernel)
set_option maxRecDepth 100000 in
theorem w_2742 : (Cond.selects "NumberHouseModel$WholeRows" ({ cls := "NumberHouseModel$WholeRows", name := "combine", desc := "(IIII)V" } : MethodName) ({ cls := "NumberHouseModel$WholeRows", name := "combine", desc := "(IIII)V" } : MethodName)) ∈ q_tbl := q_of12 102 rfl (by decide +kernel)
theorem LV_NM_189 : q_LV "NumberHouseModel" 189 y_WR_combine prog_19_method_37_code 8 none 4 := ⟨w_2743, w_15, w_2740, w_2741, w_2742, ⟨by decide, by decide, by decide +kernel⟩⟩
theorem d_14_20_48 : decode prog_14_method_20_code 48 = .ok (.return_, 1) := by decide +kernel
theorem d_14_20_33 : decode prog_14_method_20_code 33 = .ok (.iconst 1, 1) := by decide +kernel
theorem d_14_20_34 : decode prog_14_method_20_code 34 = .ok (.goto 4, 3) := by decide +kernel
theorem d_14_20_2 : decode prog_14_method_20_code 2 = .ok (.ifCond .lt 31, 3) := by decide +kernel
theorem d_14_20_5 : decode prog_14_method_20_code 5 = .ok (.iload_n 1, 1) := by decide +kernel
theorem d_14_20_6 : decode prog_14_method_20_code 6 = .ok (.bipush 11, 2) := by decide +kernel
theorem d_14_20_8 : decode prog_14_method_20_code 8 = .ok (.if_icmp .gt 25, 3) := by decide +kernel
theorem d_14_20_11 : decode prog_14_method_20_code 11 = .ok (.iload_n 2, 1) := by decide +kernel
theorem d_14_20_12 : decode prog_14_method_20_code 12 = .ok (.invokestatic 70, 3) := by decide +kernel
theorem d_14_20_15 : decode prog_14_method_20_code 15 = .ok (.ifCond .ne 18, 3) := by decide +kernel
theorem d_14_20_18 : decode prog_14_method_20_code 18 = .ok (.iload_n 3, 1) := by decide +kernel
theorem d_14_20_19 : decode prog_14_method_20_code 19 = .ok (.invokestatic 70, 3) := by decide +kernel
theorem d_14_20_22 : decode prog_14_method_20_code 22 = .ok (.ifCond .ne 11, 3) := by decide +kernel
theorem d_14_20_25 : decode prog_14_method_20_code 25 = .ok (.iload 4, 2) := by decide +kernel
theorem d_14_20_27 : decode prog_14_method_20_code 27 = .ok (.invokestatic 70, 3) := by decide +kernel
theorem d_14_20_30 : decode prog_14_method_20_code 30 = .ok (.ifCond .eq 7, 3) := by decide +kernel
theorem d_14_20_37 : decode prog_14_method_20_code 37 = .ok (.iconst 0, 1) := by decide +kernel
def y_NM_whole : MethodName := ⟨"NumberHouseModel", "whole", "(IIII)V"⟩
def F_NM_whole_c114 (x2 : Int32) (x3 : Int32) (x4 : Int32) (x5 : Int32) (t0_0 : Int32) (t0_1 : Int32) (t0_2 : Int32) (t1_0 : Int32) (t1_1 : Int32) (t1_2 : Int32) (t1_3 : Int32) (t1_4 : Int32) (t1_5 : Int32) (t1_6 : Int32) (t2_0 : (Nat → Int32)) (t3_0 : (Nat → Int32)) (t4_0 : (Nat → Int32)) (t5_0 : (Nat → Int32)) (t6_0 : (Nat → Int32)) (t7_0 : (Nat → Int32)) (t8_0 : (Nat → Int32)) (t9_0 : (Nat → Int32)) (t10_0 : (Nat → Int32)) (t11_0 : (Nat → Int32)) (t12_0 : (Nat → Int32)) (t13_0 : (Nat → Int32)) (lx56 : Int32) (p119 : (Int32 × Int32 × Int32 × Int32 × Int32 × Int32 × Int32 × (Nat → Int32) × (Nat → Int32) × (Nat → Int32) × (Nat → Int32) × (Nat → Int32))) : Int32 × Int32 × Int32 × Int32 × Int32 × Int32 × Int32 × Int32 × (Nat → Int32) × (Nat → Int32) × (Nat → Int32) × (Nat → Int32) × (Nat → Int32) × (Nat → Int32) × (Nat → Int32) × (Nat → Int32) × (Nat → Int32) × (Nat → Int32) × (Nat → Int32) × (Nat → Int32) := ((p119.1 : Int32), (p119.1 : Int32), (p119.2.1 : Int32), (p119.2.2.1 : Int32), (p119.2.2.2.1 : Int32), (p119.2.2.2.2.1 : Int32), (p119.2.2.2.2.2.1 : Int32), (p119.2.2.2.2.2.2.1 : Int32), (p119.2.2.2.2.2.2.2.1 : (Nat → Int32)), (p119.2.2.2.2.2.2.2.2.1 : (Nat → Int32)), (p119.2.2.2.2.2.2.2.2.2.1 : (Nat → Int32)), t5_0, t6_0, t7_0, t8_0, (p119.2.2.2.2.2.2.2.2.2.2.1 : (Nat → Int32)), (p119.2.2.2.2.2.2.2.2.2.2.2 : (Nat → Int32)), t11_0, t12_0, t13_0)
def F_NM_whole_c114_3 (x2 : Int32) (x3 : Int32) (x4 : Int32) (x5 : Int32) (t0_0 : Int32) (t0_1 : Int32) (t0_2 : Int32) (t1_0 : Int32) (t1_1 : Int32) (t1_2 : Int32) (t1_3 : Int32) (t1_4 : Int32) (t1_5 : Int32) (t1_6 : Int32) (t2_0 : (Nat → Int32)) (t3_0 : (Nat → Int32)) (t4_0 : (Nat → Int32)) (t5_0 : (Nat → Int32)) (t6_0 : (Nat → Int32)) (t7_0 : (Nat → Int32)) (t8_0 : (Nat → Int32)) (t9_0 : (Nat → Int32)) (t10_0 : (Nat → Int32)) (t11_0 : (Nat → Int32)) (t12_0 : (Nat → Int32)) (t13_0 : (Nat → Int32)) (lx56 : Int32) (p177 : (Int32 × Int32 × Int32 × Int32 × Int32 × Int32 × Int32 × (Nat → Int32) × (Nat → Int32) × (Nat → Int32) × (Nat → Int32) × (Nat → Int32))) : Int32 × Int32 × Int32 × Int32 × Int32 × Int32 × Int32 × Int32 × (Nat → Int32) × (Nat → Int32) × (Nat → Int32) × (Nat → Int32) × (Nat → Int32) × (Nat → Int32) × (Nat → Int32) × (Nat → Int32) × (Nat → Int32) × (Nat → Int32) × (Nat → Int32) × (Nat → Int32) := ((p177.1 : Int32), (p177.1 : Int32), (p177.2.1 : Int32), (p177.2.2.1 : Int32), (p177.2.2.2.1 : Int32), (p177.2.2.2.2.1 : Int32), (p177.2.2.2.2.2.1 : Int32), (p177.2.2.2.2.2.2.1 : Int32), (p177.2.2.2.2.2.2.2.1 : (Nat → Int32)), (p177.2.2.2.2.2.2.2.2.1 : (Nat → Int32)), (p177.2.2.2.2.2.2.2.2.2.1 : (Nat → Int32)), t5_0, t6_0, t7_0, t8_0, (p177.2.2.2.2.2.2.2.2.2.2.1 : (Nat → Int32)), (p177.2.2.2.2.2.2.2.2.2.2.2 : (Nat → Int32)), t11_0, t12_0, t13_0)
def F_NM_whole_c128 (x2 : Int32) (x3 : Int32) (x4 : Int32) (x5 : Int32) (t0_0 : Int32) (t0_1 : Int32) (t0_2 : Int32) (t1_0 : Int32) (t1_1 : Int32) (t1_2 : Int32) (t1_3 : Int32) (t1_4 : Int32) (t1_5 : Int32) (t1_6 : Int32) (t2_0 : (Nat → Int32)) (t3_0 : (Nat → Int32)) (t4_0 : (Nat → Int32)) (t5_0 : (Nat → Int32)) (t6_0 : (Nat → Int32)) (t7_0 : (Nat → Int32)) (t8_0 : (Nat → Int32)) (t9_0 : (Nat → Int32)) (t10_0 : (Nat → Int32)) (t11_0 : (Nat → Int32)) (t12_0 : (Nat → Int32)) (t13_0 : (Nat → Int32)) (lx56 : Int32) (p236 : (Int32 × Int32 × Int32 × Int32 × Int32 × Int32 × Int32 × (Nat → Int32) × (Nat → Int32) × (Nat → Int32) × (Nat → Int32) × (Nat → Int32) × (Nat → Int32))) : Int32 × Int32 × Int32 × Int32 × Int32 × Int32 × Int32 × Int32 × (Nat → Int32) × (Nat → Int32) × (Nat → Int32) × (Nat → Int32) × (Nat → Int32) × (Nat → Int32) × (Nat → Int32) × (Nat → Int32) × (Nat → Int32) × (Nat → Int32) × (Nat → Int32) × (Nat → Int32) := ((p236.1 : Int32), (p236.1 : Int32), (p236.2.1 : Int32), (p236.2.2.1 : Int32), (p236.2.2.2.1 : Int32), (p236.2.2.2.2.1 : Int32), (p236.2.2.2.2.2.1 : Int32), (p236.2.2.2.2.2.2.1 : Int32), (p236.2.2.2.2.2.2.2.1 : (Nat → Int32)), (p236.2.2.2.2.2.2.2.2.1 : (Nat → Int32)), (p236.2.2.2.2.2.2.2.2.2.1 : (Nat → Int32)), t5_0, (p236.2.2.2.2.2.2.2.2.2.2.1 : (Nat → Int32)), t7_0, t8_0, (p236.2.2.2.2.2.2.2.2.2.2.2.1 : (Nat → Int32)), (p236.2.2.2.2.2.2.2.2.2.2.2.2 : (Nat → Int32)), t11_0, t12_0, t13_0)
def F_NM_whole_c144 (x2 : Int32) (x3 : Int32) (x4 : Int32) (x5 : Int32) (t0_0 : Int32) (t0_1 : Int32) (t0_2 : Int32) (t1_0 : Int32) (t1_1 : Int32) (t1_2 : Int32) (t1_3 : Int32) (t1_4 : Int32) (t1_5 : Int32) (t1_6 : Int32) (t2_0 : (Nat → Int32)) (t3_0 : (Nat → Int32)) (t4_0 : (Nat → Int32)) (t5_0 : (Nat → Int32)) (t6_0 : (Nat → Int32)) (t7_0 : (Nat → Int32)) (t8_0 : (Nat → Int32)) (t9_0 : (Nat → Int32)) (t10_0 : (Nat → Int32)) (t11_0 : (Nat → Int32)) (t12_0 : (Nat → Int32)) (t13_0 : (Nat → Int32)) (lx56 : Int32) (p300 : (Int32 × Int32 × Int32 × Int32 × Int32 × Int32 × Int32 × (Nat → Int32) × (Nat → Int32) × (Nat → Int32) × (Nat → Int32) × (Nat → Int32) × (Nat → Int32) × (Nat → Int32))) : Int32 × Int32 × Int32 × Int32 × Int32 × Int32 × Int32 × Int32 × (Nat → Int32) × (Nat → Int32) × (Nat → Int32) × (Nat → Int32) × (Nat → Int32) × (Nat → Int32) × (Nat → Int32) × (Nat → Int32) × (Nat → Int32) × (Nat → Int32) × (Nat → Int32) × (Nat → Int32) := ((p300.1 : Int32), (p300.1 : Int32), (p300.2.1 : Int32), (p300.2.2.1 : Int32), (p300.2.2.2.1 : Int32), (p300.2.2.2.2.1 : Int32), (p300.2.2.2.2.2.1 : Int32), (p300.2.2.2.2.2.2.1 : Int32), (p300.2.2.2.2.2.2.2.1 : (Nat → Int32)), (p300.2.2.2.2.2.2.2.2.1 : (Nat → Int32)), (p300.2.2.2.2.2.2.2.2.2.1 : (Nat → Int32)), t5_0, t6_0, (p300.2.2.2.2.2.2.2.2.2.2.1 : (Nat → Int32)), (p300.2.2.2.2.2.2.2.2.2.2.2.1 : (Nat → Int32)), (p300.2.2.2.2.2.2.2.2.2.2.2.2.1 : (Nat → Int32)), (p300.2.2.2.2.2.2.2.2.2.2.2.2.2 : (Nat → Int32)), t11_0, t12_0, t13_0)
def F_NM_whole_c160 (x2 : Int32) (x3 : Int32) (x4 : Int32) (x5 : Int32) (t0_0 : Int32) (t0_1 : Int32) (t0_2 : Int32) (t1_0 : Int32) (t1_1 : Int32) (t1_2 : Int32) (t1_3 : Int32) (t1_4 : Int32) (t1_5 : Int32) (t1_6 : Int32) (t2_0 : (Nat → Int32)) (t3_0 : (Nat → Int32)) (t4_0 : (Nat → Int32)) (t5_0 : (Nat → Int32)) (t6_0 : (Nat → Int32)) (t7_0 : (Nat → Int32)) (t8_0 : (Nat → Int32)) (t9_0 : (Nat → Int32)) (t10_0 : (Nat → Int32)) (t11_0 : (Nat → Int32)) (t12_0 : (Nat → Int32)) (t13_0 : (Nat → Int32)) (lx56 : Int32) (p365 : (Int32 × Int32 × Int32 × Int32 × Int32 × Int32 × Int32 × (Nat → Int32) × (Nat → Int32) × (Nat → Int32) × (Nat → Int32) × (Nat → Int32) × (Nat → Int32) × (Nat → Int32))) : Int32 × Int32 × Int32 × Int32 × Int32 × Int32 × Int32 × Int32 × (Nat → Int32) × (Nat → Int32) × (Nat → Int32) × (Nat → Int32) × (Nat → Int32) × (Nat → Int32) × (Nat → Int32) × (Nat → Int32) × (Nat → Int32) × (Nat → Int32) × (Nat → Int32) × (Nat → Int32) := ((p365.1 : Int32), (p365.1 : Int32), (p365.2.1 : Int32), (p365.2.2.1 : Int32), (p365.2.2.2.1 : Int32), (p365.2.2.2.2.1 : Int32), (p365.2.2.2.2.2.1 : Int32), (p365.2.2.2.2.2.2.1 : Int32), (p365.2.2.2.2.2.2.2.1 : (Nat → Int32)), (p365.2.2.2.2.2.2.2.2.1 : (Nat → Int32)), (p365.2.2.2.2.2.2.2.2.2.1 : (Nat → Int32)), t5_0, t6_0, (p365.2.2.2.2.2.2.2.2.2.2.1 : (Nat → Int32)), (p365.2.2.2.2.2.2.2.2.2.2.2.1 : (Nat → Int32)), (p365.2.2.2.2.2.2.2.2.2.2.2.2.1 : (Nat → Int32)), (p365.2.2.2.2.2.2.2.2.2.2.2.2.2 : (Nat → Int32)), t11_0, t12_0, t13_0)
def F_NM_whole_c174 (x2 : Int32) (x3 : Int32) (x4 : Int32) (x5 : Int32) (t0_0 : Int32) (t0_1 : Int32) (t0_2 : Int32) (t1_0 : Int32) (t1_1 : Int32) (t1_2 : Int32) (t1_3 : Int32) (t1_4 : Int32) (t1_5 : Int32) (t1_6 : Int32) (t2_0 : (Nat → Int32)) (t3_0 : (Nat → Int32)) (t4_0 : (Nat → Int32)) (t5_0 : (Nat → Int32)) (t6_0 : (Nat → Int32)) (t7_0 : (Nat → Int32)) (t8_0 : (Nat → Int32)) (t9_0 : (Nat → Int32)) (t10_0 : (Nat → Int32)) (t11_0 : (Nat → Int32)) (t12_0 : (Nat → Int32)) (t13_0 : (Nat → Int32)) (lx56 : Int32) (p430 : (Int32 × Int32 × Int32 × Int32 × Int32 × Int32 × Int32 × (Nat → Int32) × (Nat → Int32) × (Nat → Int32) × (Nat → Int32) × (Nat → Int32) × (Nat → Int32) × (Nat → Int32))) : Int32 × Int32 × Int32 × Int32 × Int32 × Int32 × Int32 × Int32 × (Nat → Int32) × (Nat → Int32) × (Nat → Int32) × (Nat → Int32) × (Nat → Int32) × (Nat → Int32) × (Nat → Int32) × (Nat → Int32) × (Nat → Int32) × (Nat → Int32) × (Nat → Int32) × (Nat → Int32) := ((p430.1 : Int32), (p430.1 : Int32), (p430.2.1 : Int32), (p430.2.2.1 : Int32), (p430.2.2.2.1 : Int32), (p430.2.2.2.2.1 : Int32), (p430.2.2.2.2.2.1 : Int32), (p430.2.2.2.2.2.2.1 : Int32), (p430.2.2.2.2.2.2.2.1 : (Nat → Int32)), (p430.2.2.2.2.2.2.2.2.1 : (Nat → Int32)), (p430.2.2.2.2.2.2.2.2.2.1 : (Nat → Int32)), t5_0, t6_0, (p430.2.2.2.2.2.2.2.2.2.2.1 : (Nat → Int32)), (p430.2.2.2.2.2.2.2.2.2.2.2.1 : (Nat → Int32)), (p430.2.2.2.2.2.2.2.2.2.2.2.2.1 : (Nat → Int32)), t10_0, t11_0, t12_0, (p430.2.2.2.2.2.2.2.2.2.2.2.2.2 : (Nat → Int32)))
def F_NM_whole_c188 (x2 : Int32) (x3 : Int32) (x4 : Int32) (x5 : Int32) (t0_0 : Int32) (t0_1 : Int32) (t0_2 : Int32) (t1_0 : Int32) (t1_1 : Int32) (t1_2 : Int32) (t1_3 : Int32) (t1_4 : Int32) (t1_5 : Int32) (t1_6 : Int32) (t2_0 : (Nat → Int32)) (t3_0 : (Nat → Int32)) (t4_0 : (Nat → Int32)) (t5_0 : (Nat → Int32)) (t6_0 : (Nat → Int32)) (t7_0 : (Nat → Int32)) (t8_0 : (Nat → Int32)) (t9_0 : (Nat → Int32)) (t10_0 : (Nat → Int32)) (t11_0 : (Nat → Int32)) (t12_0 : (Nat → Int32)) (t13_0 : (Nat → Int32)) (lx56 : Int32) (p495 : (Int32 × Int32 × Int32 × Int32 × Int32 × Int32 × Int32 × (Nat → Int32) × (Nat → Int32) × (Nat → Int32) × (Nat → Int32) × (Nat → Int32) × (Nat → Int32) × (Nat → Int32))) : Int32 × Int32 × Int32 × Int32 × Int32 × Int32 × Int32 × Int32 × (Nat → Int32) × (Nat → Int32) × (Nat → Int32) × (Nat → Int32) × (Nat → Int32) × (Nat → Int32) × (Nat → Int32) × (Nat → Int32) × (Nat → Int32) × (Nat → Int32) × (Nat → Int32) × (Nat → Int32) := ((p495.1 : Int32), (p495.1 : Int32), (p495.2.1 : Int32), (p495.2.2.1 : Int32), (p495.2.2.2.1 : Int32), (p495.2.2.2.2.1 : Int32), (p495.2.2.2.2.2.1 : Int32), (p495.2.2.2.2.2.2.1 : Int32), (p495.2.2.2.2.2.2.2.1 : (Nat → Int32)), (p495.2.2.2.2.2.2.2.2.1 : (Nat → Int32)), (p495.2.2.2.2.2.2.2.2.2.1 : (Nat → Int32)), t5_0, t6_0, (p495.2.2.2.2.2.2.2.2.2.2.1 : (Nat → Int32)), (p495.2.2.2.2.2.2.2.2.2.2.2.1 : (Nat → Int32)), (p495.2.2.2.2.2.2.2.2.2.2.2.2.1 : (Nat → Int32)), (p495.2.2.2.2.2.2.2.2.2.2.2.2.2 : (Nat → Int32)), t11_0, t12_0, t13_0)
def F_NM_whole_c202 (x2 : Int32) (x3 : Int32) (x4 : Int32) (x5 : Int32) (t0_0 : Int32) (t0_1 : Int32) (t0_2 : Int32) (t1_0 : Int32) (t1_1 : Int32) (t1_2 : Int32) (t1_3 : Int32) (t1_4 : Int32) (t1_5 : Int32) (t1_6 : Int32) (t2_0 : (Nat → Int32)) (t3_0 : (Nat → Int32)) (t4_0 : (Nat → Int32)) (t5_0 : (Nat → Int32)) (t6_0 : (Nat → Int32)) (t7_0 : (Nat → Int32)) (t8_0 : (Nat → Int32)) (t9_0 : (Nat → Int32)) (t10_0 : (Nat → Int32)) (t11_0 : (Nat → Int32)) (t12_0 : (Nat → Int32)) (t13_0 : (Nat → Int32)) (lx56 : Int32) (p570 : (Int32 × Int32 × Int32 × Int32 × Int32 × Int32 × Int32 × (Nat → Int32) × (Nat → Int32) × (Nat → Int32) × (Nat → Int32) × (Nat → Int32) × (Nat → Int32) × (Nat → Int32) × (Nat → Int32) × (Nat → Int32) × (Nat → Int32) × (Nat → Int32) × (Nat → Int32))) : Int32 × Int32 × Int32 × Int32 × Int32 × Int32 × Int32 × Int32 × (Nat → Int32) × (Nat → Int32) × (Nat → Int32) × (Nat → Int32) × (Nat → Int32) × (Nat → Int32) × (Nat → Int32) × (Nat → Int32) × (Nat → Int32) × (Nat → Int32) × (Nat → Int32) × (Nat → Int32) := ((p570.1 : Int32), (p570.1 : Int32), (p570.2.1 : Int32), (p570.2.2.1 : Int32), (p570.2.2.2.1 : Int32), (p570.2.2.2.2.1 : Int32), (p570.2.2.2.2.2.1 : Int32), (p570.2.2.2.2.2.2.1 : Int32), (p570.2.2.2.2.2.2.2.1 : (Nat → Int32)), (p570.2.2.2.2.2.2.2.2.1 : (Nat → Int32)), (p570.2.2.2.2.2.2.2.2.2.1 : (Nat → Int32)), (p570.2.2.2.2.2.2.2.2.2.2.1 : (Nat → Int32)), (p570.2.2.2.2.2.2.2.2.2.2.2.1 : (Nat → Int32)), (p570.2.2.2.2.2.2.2.2.2.2.2.2.1 : (Nat → Int32)), (p570.2.2.2.2.2.2.2.2.2.2.2.2.2.1 : (Nat → Int32)), (p570.2.2.2.2.2.2.2.2.2.2.2.2.2.2.1 : (Nat → Int32)), (p570.2.2.2.2.2.2.2.2.2.2.2.2.2.2.2.1 : (Nat → Int32)), (p570.2.2.2.2.2.2.2.2.2.2.2.2.2.2.2.2.1 : (Nat → Int32)), (p570.2.2.2.2.2.2.2.2.2.2.2.2.2.2.2.2.2.1 : (Nat → Int32)), (p570.2.2.2.2.2.2.2.2.2.2.2.2.2.2.2.2.2.2 : (Nat → Int32)))
def F_NM_whole_c220 (x2 : Int32) (x3 : Int32) (x4 : Int32) (x5 : Int32) (t0_0 : Int32) (t0_1 : Int32) (t0_2 : Int32) (t1_0 : Int32) (t1_1 : Int32) (t1_2 : Int32) (t1_3 : Int32) (t1_4 : Int32) (t1_5 : Int32) (t1_6 : Int32) (t2_0 : (Nat → Int32)) (t3_0 : (Nat → Int32)) (t4_0 : (Nat → Int32)) (t5_0 : (Nat → Int32)) (t6_0 : (Nat → Int32)) (t7_0 : (Nat → Int32)) (t8_0 : (Nat → Int32)) (t9_0 : (Nat → Int32)) (t10_0 : (Nat → Int32)) (t11_0 : (Nat → Int32)) (t12_0 : (Nat → Int32)) (t13_0 : (Nat → Int32)) (lx56 : Int32) (p632 : (Int32 × Int32 × Int32 × Int32 × Int32 × Int32 × Int32 × (Nat → Int32) × (Nat → Int32) × (Nat → Int32) × (Nat → Int32))) : Int32 × Int32 × Int32 × Int32 × Int32 × Int32 × Int32 × Int32 × (Nat → Int32) × (Nat → Int32) × (Nat → Int32) × (Nat → Int32) × (Nat → Int32) × (Nat → Int32) × (Nat → Int32) × (Nat → Int32) × (Nat → Int32) × (Nat → Int32) × (Nat → Int32) × (Nat → Int32) := ((p632.1 : Int32), (p632.1 : Int32), (p632.2.1 : Int32), (p632.2.2.1 : Int32), (p632.2.2.2.1 : Int32), (p632.2.2.2.2.1 : Int32), (p632.2.2.2.2.2.1 : Int32), (p632.2.2.2.2.2.2.1 : Int32), (p632.2.2.2.2.2.2.2.1 : (Nat → Int32)), (p632.2.2.2.2.2.2.2.2.1 : (Nat → Int32)), (p632.2.2.2.2.2.2.2.2.2.1 : (Nat → Int32)), (p632.2.2.2.2.2.2.2.2.2.2 : (Nat → Int32)), t6_0, t7_0, t8_0, t9_0, t10_0, t11_0, t12_0, t13_0)
def F_NM_whole_J38 (x2 : Int32) (x3 : Int32) (x4 : Int32) (x5 : Int32) (t0_0 : Int32) (t0_1 : Int32) (t0_2 : Int32) (t1_0 : Int32) (t1_1 : Int32) (t1_2 : Int32) (t1_3 : Int32) (t1_4 : Int32) (t1_5 : Int32) (t1_6 : Int32) (t2_0 : (Nat → Int32)) (t3_0 : (Nat → Int32)) (t4_0 : (Nat → Int32)) (t5_0 : (Nat → Int32)) (t6_0 : (Nat → Int32)) (t7_0 : (Nat → Int32)) (t8_0 : (Nat → Int32)) (t9_0 : (Nat → Int32)) (t10_0 : (Nat → Int32)) (t11_0 : (Nat → Int32)) (t12_0 : (Nat → Int32)) (t13_0 : (Nat → Int32)) (lx56 : Int32) : Int32 × Int32 × Int32 × Int32 × Int32 × Int32 × Int32 × Int32 × (Nat → Int32) × (Nat → Int32) × (Nat → Int32) × (Nat → Int32) × (Nat → Int32) × (Nat → Int32) × (Nat → Int32) × (Nat → Int32) × (Nat → Int32) × (Nat → Int32) × (Nat → Int32) × (Nat → Int32) := if lx56 ≤ (0 : Int32) then (if x2 = (0 : Int32) then (F_NM_whole_c114 x2 x3 x4 x5 t0_0 t0_1 t0_2 t1_0 t1_1 t1_2 t1_3 t1_4 t1_5 t1_6 t2_0 t3_0 t4_0 t5_0 t6_0 t7_0 t8_0 t9_0 t10_0 t11_0 t12_0 t13_0 lx56 ((F_WR_add x3 x4 x5 (0 : Int32) t1_0 t1_1 t1_2 t1_3 t1_4 t1_5 t1_6 t2_0 t3_0 t4_0 t9_0 t10_0) : (Int32 × Int32 × Int32 × Int32 × Int32 × Int32 × Int32 × (Nat → Int32) × (Nat → Int32) × (Nat → Int32) × (Nat → Int32) × (Nat → Int32)))) else (if x2 = (1 : Int32) then (F_NM_whole_c114_3 x2 x3 x4 x5 t0_0 t0_1 t0_2 t1_0 t1_1 t1_2 t1_3 t1_4 t1_5 t1_6 t2_0 t3_0 t4_0 t5_0 t6_0 t7_0 t8_0 t9_0 t10_0 t11_0 t12_0 t13_0 lx56 ((F_WR_add x3 x4 x5 (1 : Int32) t1_0 t1_1 t1_2 t1_3 t1_4 t1_5 t1_6 t2_0 t3_0 t4_0 t9_0 t10_0) : (Int32 × Int32 × Int32 × Int32 × Int32 × Int32 × Int32 × (Nat → Int32) × (Nat → Int32) × (Nat → Int32) × (Nat → Int32) × (Nat → Int32)))) else (if x2 = (2 : Int32) then (F_NM_whole_c128 x2 x3 x4 x5 t0_0 t0_1 t0_2 t1_0 t1_1 t1_2 t1_3 t1_4 t1_5 t1_6 t2_0 t3_0 t4_0 t5_0 t6_0 t7_0 t8_0 t9_0 t10_0 t11_0 t12_0 t13_0 lx56 ((F_WR_multiply x3 x4 x5 t1_0 t1_1 t1_2 t1_3 t1_4 t1_5 t1_6 t2_0 t3_0 t4_0 t6_0 t9_0 t10_0) : (Int32 × Int32 × Int32 × Int32 × Int32 × Int32 × Int32 × (Nat → Int32) × (Nat → Int32) × (Nat → Int32) × (Nat → Int32) × (Nat → Int32) × (Nat → Int32)))) else (if x2 = (3 : Int32) then (F_NM_whole_c144 x2 x3 x4 x5 t0_0 t0_1 t0_2 t1_0 t1_1 t1_2 t1_3 t1_4 t1_5 t1_6 t2_0 t3_0 t4_0 t5_0 t6_0 t7_0 t8_0 t9_0 t10_0 t11_0 t12_0 t13_0 lx56 ((F_WR_divide x3 x4 x5 (10 : Int32) t1_0 t1_1 t1_2 t1_3 t1_4 t1_5 t1_6 t2_0 t3_0 t4_0 t7_0 t8_0 t9_0 t10_0) : (Int32 × Int32 × Int32 × Int32 × Int32 × Int32 × Int32 × (Nat → Int32) × (Nat → Int32) × (Nat → Int32) × (Nat → Int32) × (Nat → Int32) × (Nat → Int32) × (Nat → Int32)))) else (if x2 = (4 : Int32) then (F_NM_whole_c160 x2 x3 x4 x5 t0_0 t0_1 t0_2 t1_0 t1_1 t1_2 t1_3 t1_4 t1_5 t1_6 t2_0 t3_0 t4_0 t5_0 t6_0 t7_0 t8_0 t9_0 t10_0 t11_0 t12_0 t13_0 lx56 ((F_WR_divide x3 x4 (10 : Int32) x5 t1_0 t1_1 t1_2 t1_3 t1_4 t1_5 t1_6 t2_0 t3_0 t4_0 t7_0 t8_0 t9_0 t10_0) : (Int32 × Int32 × Int32 × Int32 × Int32 × Int32 × Int32 × (Nat → Int32) × (Nat → Int32) × (Nat → Int32) × (Nat → Int32) × (Nat → Int32) × (Nat → Int32) × (Nat → Int32)))) else (if x2 = (5 : Int32) then (F_NM_whole_c174 x2 x3 x4 x5 t0_0 t0_1 t0_2 t1_0 t1_1 t1_2 t1_3 t1_4 t1_5 t1_6 t2_0 t3_0 t4_0 t5_0 t6_0 t7_0 t8_0 t9_0 t10_0 t11_0 t12_0 t13_0 lx56 ((F_WR_modulo x3 x4 x5 t1_0 t1_1 t1_2 t1_3 t1_4 t1_5 t1_6 t2_0 t3_0 t4_0 t7_0 t8_0 t9_0 t13_0) : (Int32 × Int32 × Int32 × Int32 × Int32 × Int32 × Int32 × (Nat → Int32) × (Nat → Int32) × (Nat → Int32) × (Nat → Int32) × (Nat → Int32) × (Nat → Int32) × (Nat → Int32)))) else (if x2 = (6 : Int32) then (F_NM_whole_c188 x2 x3 x4 x5 t0_0 t0_1 t0_2 t1_0 t1_1 t1_2 t1_3 t1_4 t1_5 t1_6 t2_0 t3_0 t4_0 t5_0 t6_0 t7_0 t8_0 t9_0 t10_0 t11_0 t12_0 t13_0 lx56 ((F_WR_common x3 x4 x5 t1_0 t1_1 t1_2 t1_3 t1_4 t1_5 t1_6 t2_0 t3_0 t4_0 t7_0 t8_0 t9_0 t10_0) : (Int32 × Int32 × Int32 × Int32 × Int32 × Int32 × Int32 × (Nat → Int32) × (Nat → Int32) × (Nat → Int32) × (Nat → Int32) × (Nat → Int32) × (Nat → Int32) × (Nat → Int32)))) else (if x2 = (7 : Int32) then (F_NM_whole_c202 x2 x3 x4 x5 t0_0 t0_1 t0_2 t1_0 t1_1 t1_2 t1_3 t1_4 t1_5 t1_6 t2_0 t3_0 t4_0 t5_0 t6_0 t7_0 t8_0 t9_0 t10_0 t11_0 t12_0 t13_0 lx56 ((F_WR_inverse x3 x4 x5 t1_0 t1_1 t1_2 t1_3 t1_4 t1_5 t1_6 t2_0 t3_0 t4_0 t5_0 t6_0 t7_0 t8_0 t9_0 t10_0 t11_0 t12_0 t13_0) : (Int32 × Int32 × Int32 × Int32 × Int32 × Int32 × Int32 × (Nat → Int32) × (Nat → Int32) × (Nat → Int32) × (Nat → Int32) × (Nat → Int32) × (Nat → Int32) × (Nat → Int32) × (Nat → Int32) × (Nat → Int32) × (Nat → Int32) × (Nat → Int32) × (Nat → Int32)))) else (F_NM_whole_c220 x2 x3 x4 x5 t0_0 t0_1 t0_2 t1_0 t1_1 t1_2 t1_3 t1_4 t1_5 t1_6 t2_0 t3_0 t4_0 t5_0 t6_0 t7_0 t8_0 t9_0 t10_0 t11_0 t12_0 t13_0 lx56 ((F_WR_combine x3 x4 x5 (x2 - 8 : Int32) t1_0 t1_1 t1_2 t1_3 t1_4 t1_5 t1_6 t2_0 t3_0 t4_0 t5_0) : (Int32 × Int32 × Int32 × Int32 × Int32 × Int32 × Int32 × (Nat → Int32) × (Nat → Int32) × (Nat → Int32) × (Nat → Int32)))))))))))) else ((lx56, t1_0, t1_1, t1_2, t1_3, t1_4, t1_5, t1_6, t2_0, t3_0, t4_0, t5_0, t6_0, t7_0, t8_0, t9_0, t10_0, t11_0, t12_0, t13_0))
def F_NM_whole_J33 (x2 : Int32) (x3 : Int32) (x4 : Int32) (x5 : Int32) (t0_0 : Int32) (t0_1 : Int32) (t0_2 : Int32) (t1_0 : Int32) (t1_1 : Int32) (t1_2 : Int32) (t1_3 : Int32) (t1_4 : Int32) (t1_5 : Int32) (t1_6 : Int32) (t2_0 : (Nat → Int32)) (t3_0 : (Nat → Int32)) (t4_0 : (Nat → Int32)) (t5_0 : (Nat → Int32)) (t6_0 : (Nat → Int32)) (t7_0 : (Nat → Int32)) (t8_0 : (Nat → Int32)) (t9_0 : (Nat → Int32)) (t10_0 : (Nat → Int32)) (t11_0 : (Nat → Int32)) (t12_0 : (Nat → Int32)) (t13_0 : (Nat → Int32)) : Int32 × Int32 × Int32 × Int32 × Int32 × Int32 × Int32 × Int32 × (Nat → Int32) × (Nat → Int32) × (Nat → Int32) × (Nat → Int32) × (Nat → Int32) × (Nat → Int32) × (Nat → Int32) × (Nat → Int32) × (Nat → Int32) × (Nat → Int32) × (Nat → Int32) × (Nat → Int32) := F_NM_whole_J38 x2 x3 x4 x5 t0_0 t0_1 t0_2 t1_0 t1_1 t1_2 t1_3 t1_4 t1_5 t1_6 t2_0 t3_0 t4_0 t5_0 t6_0 t7_0 t8_0 t9_0 t10_0 t11_0 t12_0 t13_0 1
def F_NM_whole (x2 : Int32) (x3 : Int32) (x4 : Int32) (x5 : Int32) (t0_0 : Int32) (t0_1 : Int32) (t0_2 : Int32) (t1_0 : Int32) (t1_1 : Int32) (t1_2 : Int32) (t1_3 : Int32) (t1_4 : Int32) (t1_5 : Int32) (t1_6 : Int32) (t2_0 : (Nat → Int32)) (t3_0 : (Nat → Int32)) (t4_0 : (Nat → Int32)) (t5_0 : (Nat → Int32)) (t6_0 : (Nat → Int32)) (t7_0 : (Nat → Int32)) (t8_0 : (Nat → Int32)) (t9_0 : (Nat → Int32)) (t10_0 : (Nat → Int32)) (t11_0 : (Nat → Int32)) (t12_0 : (Nat → Int32)) (t13_0 : (Nat → Int32)) : Int32 × Int32 × Int32 × Int32 × Int32 × Int32 × Int32 × Int32 × (Nat → Int32) × (Nat → Int32) × (Nat → Int32) × (Nat → Int32) × (Nat → Int32) × (Nat → Int32) × (Nat → Int32) × (Nat → Int32) × (Nat → Int32) × (Nat → Int32) × (Nat → Int32) × (Nat → Int32) := if x2 < (0 : Int32) then (F_NM_whole_J33 x2 x3 x4 x5 t0_0 t0_1 t0_2 t1_0 t1_1 t1_2 t1_3 t1_4 t1_5 t1_6 t2_0 t3_0 t4_0 t5_0 t6_0 t7_0 t8_0 t9_0 t10_0 t11_0 t12_0 t13_0) else (if (11 : Int32) < x2 then (F_NM_whole_J33 x2 x3 x4 x5 t0_0 t0_1 t0_2 t1_0 t1_1 t1_2 t1_3 t1_4 t1_5 t1_6 t2_0 t3_0 t4_0 t5_0 t6_0 t7_0 t8_0 t9_0 t10_0 t11_0 t12_0 t13_0) else (if ((F_NM_no_IZ x3) : Int32) = (0 : Int32) then (if ((F_NM_no_IZ x4) : Int32) = (0 : Int32) then (if ((F_NM_no_IZ x5) : Int32) = (0 : Int32) then (F_NM_whole_J38 x2 x3 x4 x5 t0_0 t0_1 t0_2 t1_0 t1_1 t1_2 t1_3 t1_4 t1_5 t1_6 t2_0 t3_0 t4_0 t5_0 t6_0 t7_0 t8_0 t9_0 t10_0 t11_0 t12_0 t13_0 0) else (F_NM_whole_J33 x2 x3 x4 x5 t0_0 t0_1 t0_2 t1_0 t1_1 t1_2 t1_3 t1_4 t1_5 t1_6 t2_0 t3_0 t4_0 t5_0 t6_0 t7_0 t8_0 t9_0 t10_0 t11_0 t12_0 t13_0)) else (F_NM_whole_J33 x2 x3 x4 x5 t0_0 t0_1 t0_2 t1_0 t1_1 t1_2 t1_3 t1_4 t1_5 t1_6 t2_0 t3_0 t4_0 t5_0 t6_0 t7_0 t8_0 t9_0 t10_0 t11_0 t12_0 t13_0)) else (F_NM_whole_J33 x2 x3 x4 x5 t0_0 t0_1 t0_2 t1_0 t1_1 t1_2 t1_3 t1_4 t1_5 t1_6 t2_0 t3_0 t4_0 t5_0 t6_0 t7_0 t8_0 t9_0 t10_0 t11_0 t12_0 t13_0)))
def S_NM_whole_c114 (x2 : Int32) (x3 : Int32) (x4 : Int32) (x5 : Int32) (t0_0 : Int32) (t0_1 : Int32) (t0_2 : Int32) (t1_0 : Int32) (t1_1 : Int32) (t1_2 : Int32) (t1_3 : Int32) (t1_4 : Int32) (t1_5 : Int32) (t1_6 : Int32) (t2_0 : (Nat → Int32)) (t3_0 : (Nat → Int32)) (t4_0 : (Nat → Int32)) (t5_0 : (Nat → Int32)) (t6_0 : (Nat → Int32)) (t7_0 : (Nat → Int32)) (t8_0 : (Nat → Int32)) (t9_0 : (Nat → Int32)) (t10_0 : (Nat → Int32)) (t11_0 : (Nat → Int32)) (t12_0 : (Nat → Int32)) (t13_0 : (Nat → Int32)) (lx56 : Int32) (p119 : (Int32 × Int32 × Int32 × Int32 × Int32 × Int32 × Int32 × (Nat → Int32) × (Nat → Int32) × (Nat → Int32) × (Nat → Int32) × (Nat → Int32))) : Prop := True
def S_NM_whole_c114_3 (x2 : Int32) (x3 : Int32) (x4 : Int32) (x5 : Int32) (t0_0 : Int32) (t0_1 : Int32) (t0_2 : Int32) (t1_0 : Int32) (t1_1 : Int32) (t1_2 : Int32) (t1_3 : Int32) (t1_4 : Int32) (t1_5 : Int32) (t1_6 : Int32) (t2_0 : (Nat → Int32)) (t3_0 : (Nat → Int32)) (t4_0 : (Nat → Int32)) (t5_0 : (Nat → Int32)) (t6_0 : (Nat → Int32)) (t7_0 : (Nat → Int32)) (t8_0 : (Nat → Int32)) (t9_0 : (Nat → Int32)) (t10_0 : (Nat → Int32)) (t11_0 : (Nat → Int32)) (t12_0 : (Nat → Int32)) (t13_0 : (Nat → Int32)) (lx56 : Int32) (p177 : (Int32 × Int32 × Int32 × Int32 × Int32 × Int32 × Int32 × (Nat → Int32) × (Nat → Int32) × (Nat → Int32) × (Nat → Int32) × (Nat → Int32))) : Prop := True
def S_NM_whole_c128 (x2 : Int32) (x3 : Int32) (x4 : Int32) (x5 : Int32) (t0_0 : Int32) (t0_1 : Int32) (t0_2 : Int32) (t1_0 : Int32) (t1_1 : Int32) (t1_2 : Int32) (t1_3 : Int32) (t1_4 : Int32) (t1_5 : Int32) (t1_6 : Int32) (t2_0 : (Nat → Int32)) (t3_0 : (Nat → Int32)) (t4_0 : (Nat → Int32)) (t5_0 : (Nat → Int32)) (t6_0 : (Nat → Int32)) (t7_0 : (Nat → Int32)) (t8_0 : (Nat → Int32)) (t9_0 : (Nat → Int32)) (t10_0 : (Nat → Int32)) (t11_0 : (Nat → Int32)) (t12_0 : (Nat → Int32)) (t13_0 : (Nat → Int32)) (lx56 : Int32) (p236 : (Int32 × Int32 × Int32 × Int32 × Int32 × Int32 × Int32 × (Nat → Int32) × (Nat → Int32) × (Nat → Int32) × (Nat → Int32) × (Nat → Int32) × (Nat → Int32))) : Prop := True
def S_NM_whole_c144 (x2 : Int32) (x3 : Int32) (x4 : Int32) (x5 : Int32) (t0_0 : Int32) (t0_1 : Int32) (t0_2 : Int32) (t1_0 : Int32) (t1_1 : Int32) (t1_2 : Int32) (t1_3 : Int32) (t1_4 : Int32) (t1_5 : Int32) (t1_6 : Int32) (t2_0 : (Nat → Int32)) (t3_0 : (Nat → Int32)) (t4_0 : (Nat → Int32)) (t5_0 : (Nat → Int32)) (t6_0 : (Nat → Int32)) (t7_0 : (Nat → Int32)) (t8_0 : (Nat → Int32)) (t9_0 : (Nat → Int32)) (t10_0 : (Nat → Int32)) (t11_0 : (Nat → Int32)) (t12_0 : (Nat → Int32)) (t13_0 : (Nat → Int32)) (lx56 : Int32) (p300 : (Int32 × Int32 × Int32 × Int32 × Int32 × Int32 × Int32 × (Nat → Int32) × (Nat → Int32) × (Nat → Int32) × (Nat → Int32) × (Nat → Int32) × (Nat → Int32) × (Nat → Int32))) : Prop := True
def S_NM_whole_c160 (x2 : Int32) (x3 : Int32) (x4 : Int32) (x5 : Int32) (t0_0 : Int32) (t0_1 : Int32) (t0_2 : Int32) (t1_0 : Int32) (t1_1 : Int32) (t1_2 : Int32) (t1_3 : Int32) (t1_4 : Int32) (t1_5 : Int32) (t1_6 : Int32) (t2_0 : (Nat → Int32)) (t3_0 : (Nat → Int32)) (t4_0 : (Nat → Int32)) (t5_0 : (Nat → Int32)) (t6_0 : (Nat → Int32)) (t7_0 : (Nat → Int32)) (t8_0 : (Nat → Int32)) (t9_0 : (Nat → Int32)) (t10_0 : (Nat → Int32)) (t11_0 : (Nat → Int32)) (t12_0 : (Nat → Int32)) (t13_0 : (Nat → Int32)) (lx56 : Int32) (p365 : (Int32 × Int32 × Int32 × Int32 × Int32 × Int32 × Int32 × (Nat → Int32) × (Nat → Int32) × (Nat → Int32) × (Nat → Int32) × (Nat → Int32) × (Nat → Int32) × (Nat → Int32))) : Prop := True
def S_NM_whole_c174 (x2 : Int32) (x3 : Int32) (x4 : Int32) (x5 : Int32) (t0_0 : Int32) (t0_1 : Int32) (t0_2 : Int32) (t1_0 : Int32) (t1_1 : Int32) (t1_2 : Int32) (t1_3 : Int32) (t1_4 : Int32) (t1_5 : Int32) (t1_6 : Int32) (t2_0 : (Nat → Int32)) (t3_0 : (Nat → Int32)) (t4_0 : (Nat → Int32)) (t5_0 : (Nat → Int32)) (t6_0 : (Nat → Int32)) (t7_0 : (Nat → Int32)) (t8_0 : (Nat → Int32)) (t9_0 : (Nat → Int32)) (t10_0 : (Nat → Int32)) (t11_0 : (Nat → Int32)) (t12_0 : (Nat → Int32)) (t13_0 : (Nat → Int32)) (lx56 : Int32) (p430 : (Int32 × Int32 × Int32 × Int32 × Int32 × Int32 × Int32 × (Nat → Int32) × (Nat → Int32) × (Nat → Int32) × (Nat → Int32) × (Nat → Int32) × (Nat → Int32) × (Nat → Int32))) : Prop := True
def S_NM_whole_c188 (x2 : Int32) (x3 : Int32) (x4 : Int32) (x5 : Int32) (t0_0 : Int32) (t0_1 : Int32) (t0_2 : Int32) (t1_0 : Int32) (t1_1 : Int32) (t1_2 : Int32) (t1_3 : Int32) (t1_4 : Int32) (t1_5 : Int32) (t1_6 : Int32) (t2_0 : (Nat → Int32)) (t3_0 : (Nat → Int32)) (t4_0 : (Nat → Int32)) (t5_0 : (Nat → Int32)) (t6_0 : (Nat → Int32)) (t7_0 : (Nat → Int32)) (t8_0 : (Nat → Int32)) (t9_0 : (Nat → Int32)) (t10_0 : (Nat → Int32)) (t11_0 : (Nat → Int32)) (t12_0 : (Nat → Int32)) (t13_0 : (Nat → Int32)) (lx56 : Int32) (p495 : (Int32 × Int32 × Int32 × Int32 × Int32 × Int32 × Int32 × (Nat → Int32) × (Nat → Int32) × (Nat → Int32) × (Nat → Int32) × (Nat → Int32) × (Nat → Int32) × (Nat → Int32))) : Prop := True
def S_NM_whole_c202 (x2 : Int32) (x3 : Int32) (x4 : Int32) (x5 : Int32) (t0_0 : Int32) (t0_1 : Int32) (t0_2 : Int32) (t1_0 : Int32) (t1_1 : Int32) (t1_2 : Int32) (t1_3 : Int32) (t1_4 : Int32) (t1_5 : Int32) (t1_6 : Int32) (t2_0 : (Nat → Int32)) (t3_0 : (Nat → Int32)) (t4_0 : (Nat → Int32)) (t5_0 : (Nat → Int32)) (t6_0 : (Nat → Int32)) (t7_0 : (Nat → Int32)) (t8_0 : (Nat → Int32)) (t9_0 : (Nat → Int32)) (t10_0 : (Nat → Int32)) (t11_0 : (Nat → Int32)) (t12_0 : (Nat → Int32)) (t13_0 : (Nat → Int32)) (lx56 : Int32) (p570 : (Int32 × Int32 × Int32 × Int32 × Int32 × Int32 × Int32 × (Nat → Int32) × (Nat → Int32) × (Nat → Int32) × (Nat → Int32) × (Nat → Int32) × (Nat → Int32) × (Nat → Int32) × (Nat → Int32) × (Nat → Int32) × (Nat → Int32) × (Nat → Int32) × (Nat → Int32))) : Prop := True
def S_NM_whole_c220 (x2 : Int32) (x3 : Int32) (x4 : Int32) (x5 : Int32) (t0_0 : Int32) (t0_1 : Int32) (t0_2 : Int32) (t1_0 : Int32) (t1_1 : Int32) (t1_2 : Int32) (t1_3 : Int32) (t1_4 : Int32) (t1_5 : Int32) (t1_6 : Int32) (t2_0 : (Nat → Int32)) (t3_0 : (Nat → Int32)) (t4_0 : (Nat → Int32)) (t5_0 : (Nat → Int32)) (t6_0 : (Nat → Int32)) (t7_0 : (Nat → Int32)) (t8_0 : (Nat → Int32)) (t9_0 : (Nat → Int32)) (t10_0 : (Nat → Int32)) (t11_0 : (Nat → Int32)) (t12_0 : (Nat → Int32)) (t13_0 : (Nat → Int32)) (lx56 : Int32) (p632 : (Int32 × Int32 × Int32 × Int32 × Int32 × Int32 × Int32 × (Nat → Int32) × (Nat → Int32) × (Nat → Int32) × (Nat → Int32))) : Prop := True
def S_NM_whole_J38 (x2 : Int32) (x3 : Int32) (x4 : Int32) (x5 : Int32) (t0_0 : Int32) (t0_1 : Int32) (t0_2 : Int32) (t1_0 : Int32) (t1_1 : Int32) (t1_2 : Int32) (t1_3 : Int32) (t1_4 : Int32) (t1_5 : Int32) (t1_6 : Int32) (t2_0 : (Nat → Int32)) (t3_0 : (Nat → Int32)) (t4_0 : (Nat → Int32)) (t5_0 : (Nat → Int32)) (t6_0 : (Nat → Int32)) (t7_0 : (Nat → Int32)) (t8_0 : (Nat → Int32)) (t9_0 : (Nat → Int32)) (t10_0 : (Nat → Int32)) (t11_0 : (Nat → Int32)) (t12_0 : (Nat → Int32)) (t13_0 : (Nat → Int32)) (lx56 : Int32) : Prop := if lx56 ≤ (0 : Int32) then (if x2 = (0 : Int32) then ((True ∧ S_WR_add x3 x4 x5 (0 : Int32) t1_0 t1_1 t1_2 t1_3 t1_4 t1_5 t1_6 t2_0 t3_0 t4_0 t9_0 t10_0) ∧ (S_NM_whole_c114 x2 x3 x4 x5 t0_0 t0_1 t0_2 t1_0 t1_1 t1_2 t1_3 t1_4 t1_5 t1_6 t2_0 t3_0 t4_0 t5_0 t6_0 t7_0 t8_0 t9_0 t10_0 t11_0 t12_0 t13_0 lx56 ((F_WR_add x3 x4 x5 (0 : Int32) t1_0 t1_1 t1_2 t1_3 t1_4 t1_5 t1_6 t2_0 t3_0 t4_0 t9_0 t10_0) : (Int32 × Int32 × Int32 × Int32 × Int32 × Int32 × Int32 × (Nat → Int32) × (Nat → Int32) × (Nat → Int32) × (Nat → Int32) × (Nat → Int32))))) else (if x2 = (1 : Int32) then ((True ∧ S_WR_add x3 x4 x5 (1 : Int32) t1_0 t1_1 t1_2 t1_3 t1_4 t1_5 t1_6 t2_0 t3_0 t4_0 t9_0 t10_0) ∧ (S_NM_whole_c114_3 x2 x3 x4 x5 t0_0 t0_1 t0_2 t1_0 t1_1 t1_2 t1_3 t1_4 t1_5 t1_6 t2_0 t3_0 t4_0 t5_0 t6_0 t7_0 t8_0 t9_0 t10_0 t11_0 t12_0 t13_0 lx56 ((F_WR_add x3 x4 x5 (1 : Int32) t1_0 t1_1 t1_2 t1_3 t1_4 t1_5 t1_6 t2_0 t3_0 t4_0 t9_0 t10_0) : (Int32 × Int32 × Int32 × Int32 × Int32 × Int32 × Int32 × (Nat → Int32) × (Nat → Int32) × (Nat → Int32) × (Nat → Int32) × (Nat → Int32))))) else (if x2 = (2 : Int32) then ((True ∧ S_WR_multiply x3 x4 x5 t1_0 t1_1 t1_2 t1_3 t1_4 t1_5 t1_6 t2_0 t3_0 t4_0 t6_0 t9_0 t10_0) ∧ (S_NM_whole_c128 x2 x3 x4 x5 t0_0 t0_1 t0_2 t1_0 t1_1 t1_2 t1_3 t1_4 t1_5 t1_6 t2_0 t3_0 t4_0 t5_0 t6_0 t7_0 t8_0 t9_0 t10_0 t11_0 t12_0 t13_0 lx56 ((F_WR_multiply x3 x4 x5 t1_0 t1_1 t1_2 t1_3 t1_4 t1_5 t1_6 t2_0 t3_0 t4_0 t6_0 t9_0 t10_0) : (Int32 × Int32 × Int32 × Int32 × Int32 × Int32 × Int32 × (Nat → Int32) × (Nat → Int32) × (Nat → Int32) × (Nat → Int32) × (Nat → Int32) × (Nat → Int32))))) else (if x2 = (3 : Int32) then ((True ∧ S_WR_divide x3 x4 x5 (10 : Int32) t1_0 t1_1 t1_2 t1_3 t1_4 t1_5 t1_6 t2_0 t3_0 t4_0 t7_0 t8_0 t9_0 t10_0) ∧ (S_NM_whole_c144 x2 x3 x4 x5 t0_0 t0_1 t0_2 t1_0 t1_1 t1_2 t1_3 t1_4 t1_5 t1_6 t2_0 t3_0 t4_0 t5_0 t6_0 t7_0 t8_0 t9_0 t10_0 t11_0 t12_0 t13_0 lx56 ((F_WR_divide x3 x4 x5 (10 : Int32) t1_0 t1_1 t1_2 t1_3 t1_4 t1_5 t1_6 t2_0 t3_0 t4_0 t7_0 t8_0 t9_0 t10_0) : (Int32 × Int32 × Int32 × Int32 × Int32 × Int32 × Int32 × (Nat → Int32) × (Nat → Int32) × (Nat → Int32) × (Nat → Int32) × (Nat → Int32) × (Nat → Int32) × (Nat → Int32))))) else (if x2 = (4 : Int32) then ((True ∧ S_WR_divide x3 x4 (10 : Int32) x5 t1_0 t1_1 t1_2 t1_3 t1_4 t1_5 t1_6 t2_0 t3_0 t4_0 t7_0 t8_0 t9_0 t10_0) ∧ (S_NM_whole_c160 x2 x3 x4 x5 t0_0 t0_1 t0_2 t1_0 t1_1 t1_2 t1_3 t1_4 t1_5 t1_6 t2_0 t3_0 t4_0 t5_0 t6_0 t7_0 t8_0 t9_0 t10_0 t11_0 t12_0 t13_0 lx56 ((F_WR_divide x3 x4 (10 : Int32) x5 t1_0 t1_1 t1_2 t1_3 t1_4 t1_5 t1_6 t2_0 t3_0 t4_0 t7_0 t8_0 t9_0 t10_0) : (Int32 × Int32 × Int32 × Int32 × Int32 × Int32 × Int32 × (Nat → Int32) × (Nat → Int32) × (Nat → Int32) × (Nat → Int32) × (Nat → Int32) × (Nat → Int32) × (Nat → Int32))))) else (if x2 = (5 : Int32) then ((True ∧ S_WR_modulo x3 x4 x5 t1_0 t1_1 t1_2 t1_3 t1_4 t1_5 t1_6 t2_0 t3_0 t4_0 t7_0 t8_0 t9_0 t13_0) ∧ (S_NM_whole_c174 x2 x3 x4 x5 t0_0 t0_1 t0_2 t1_0 t1_1 t1_2 t1_3 t1_4 t1_5 t1_6 t2_0 t3_0 t4_0 t5_0 t6_0 t7_0 t8_0 t9_0 t10_0 t11_0 t12_0 t13_0 lx56 ((F_WR_modulo x3 x4 x5 t1_0 t1_1 t1_2 t1_3 t1_4 t1_5 t1_6 t2_0 t3_0 t4_0 t7_0 t8_0 t9_0 t13_0) : (Int32 × Int32 × Int32 × Int32 × Int32 × Int32 × Int32 × (Nat → Int32) × (Nat → Int32) × (Nat → Int32) × (Nat → Int32) × (Nat → Int32) × (Nat → Int32) × (Nat → Int32))))) else (if x2 = (6 : Int32) then ((True ∧ S_WR_common x3 x4 x5 t1_0 t1_1 t1_2 t1_3 t1_4 t1_5 t1_6 t2_0 t3_0 t4_0 t7_0 t8_0 t9_0 t10_0) ∧ (S_NM_whole_c188 x2 x3 x4 x5 t0_0 t0_1 t0_2 t1_0 t1_1 t1_2 t1_3 t1_4 t1_5 t1_6 t2_0 t3_0 t4_0 t5_0 t6_0 t7_0 t8_0 t9_0 t10_0 t11_0 t12_0 t13_0 lx56 ((F_WR_common x3 x4 x5 t1_0 t1_1 t1_2 t1_3 t1_4 t1_5 t1_6 t2_0 t3_0 t4_0 t7_0 t8_0 t9_0 t10_0) : (Int32 × Int32 × Int32 × Int32 × Int32 × Int32 × Int32 × (Nat → Int32) × (Nat → Int32) × (Nat → Int32) × (Nat → Int32) × (Nat → Int32) × (Nat → Int32) × (Nat → Int32))))) else (if x2 = (7 : Int32) then ((True ∧ S_WR_inverse x3 x4 x5 t1_0 t1_1 t1_2 t1_3 t1_4 t1_5 t1_6 t2_0 t3_0 t4_0 t5_0 t6_0 t7_0 t8_0 t9_0 t10_0 t11_0 t12_0 t13_0) ∧ (S_NM_whole_c202 x2 x3 x4 x5 t0_0 t0_1 t0_2 t1_0 t1_1 t1_2 t1_3 t1_4 t1_5 t1_6 t2_0 t3_0 t4_0 t5_0 t6_0 t7_0 t8_0 t9_0 t10_0 t11_0 t12_0 t13_0 lx56 ((F_WR_inverse x3 x4 x5 t1_0 t1_1 t1_2 t1_3 t1_4 t1_5 t1_6 t2_0 t3_0 t4_0 t5_0 t6_0 t7_0 t8_0 t9_0 t10_0 t11_0 t12_0 t13_0) : (Int32 × Int32 × Int32 × Int32 × Int32 × Int32 × Int32 × (Nat → Int32) × (Nat → Int32) × (Nat → Int32) × (Nat → Int32) × (Nat → Int32) × (Nat → Int32) × (Nat → Int32) × (Nat → Int32) × (Nat → Int32) × (Nat → Int32) × (Nat → Int32) × (Nat → Int32))))) else ((True ∧ S_WR_combine x3 x4 x5 (x2 - 8 : Int32) t1_0 t1_1 t1_2 t1_3 t1_4 t1_5 t1_6 t2_0 t3_0 t4_0 t5_0) ∧ (S_NM_whole_c220 x2 x3 x4 x5 t0_0 t0_1 t0_2 t1_0 t1_1 t1_2 t1_3 t1_4 t1_5 t1_6 t2_0 t3_0 t4_0 t5_0 t6_0 t7_0 t8_0 t9_0 t10_0 t11_0 t12_0 t13_0 lx56 ((F_WR_combine x3 x4 x5 (x2 - 8 : Int32) t1_0 t1_1 t1_2 t1_3 t1_4 t1_5 t1_6 t2_0 t3_0 t4_0 t5_0) : (Int32 × Int32 × Int32 × Int32 × Int32 × Int32 × Int32 × (Nat → Int32) × (Nat → Int32) × (Nat → Int32) × (Nat → Int32))))))))))))) else (True)
def S_NM_whole_J33 (x2 : Int32) (x3 : Int32) (x4 : Int32) (x5 : Int32) (t0_0 : Int32) (t0_1 : Int32) (t0_2 : Int32) (t1_0 : Int32) (t1_1 : Int32) (t1_2 : Int32) (t1_3 : Int32) (t1_4 : Int32) (t1_5 : Int32) (t1_6 : Int32) (t2_0 : (Nat → Int32)) (t3_0 : (Nat → Int32)) (t4_0 : (Nat → Int32)) (t5_0 : (Nat → Int32)) (t6_0 : (Nat → Int32)) (t7_0 : (Nat → Int32)) (t8_0 : (Nat → Int32)) (t9_0 : (Nat → Int32)) (t10_0 : (Nat → Int32)) (t11_0 : (Nat → Int32)) (t12_0 : (Nat → Int32)) (t13_0 : (Nat → Int32)) : Prop := S_NM_whole_J38 x2 x3 x4 x5 t0_0 t0_1 t0_2 t1_0 t1_1 t1_2 t1_3 t1_4 t1_5 t1_6 t2_0 t3_0 t4_0 t5_0 t6_0 t7_0 t8_0 t9_0 t10_0 t11_0 t12_0 t13_0 1
def S_NM_whole (x2 : Int32) (x3 : Int32) (x4 : Int32) (x5 : Int32) (t0_0 : Int32) (t0_1 : Int32) (t0_2 : Int32) (t1_0 : Int32) (t1_1 : Int32) (t1_2 : Int32) (t1_3 : Int32) (t1_4 : Int32) (t1_5 : Int32) (t1_6 : Int32) (t2_0 : (Nat → Int32)) (t3_0 : (Nat → Int32)) (t4_0 : (Nat → Int32)) (t5_0 : (Nat → Int32)) (t6_0 : (Nat → Int32)) (t7_0 : (Nat → Int32)) (t8_0 : (Nat → Int32)) (t9_0 : (Nat → Int32)) (t10_0 : (Nat → Int32)) (t11_0 : (Nat → Int32)) (t12_0 : (Nat → Int32)) (t13_0 : (Nat → Int32)) : Prop := if x2 < (0 : Int32) then (S_NM_whole_J33 x2 x3 x4 x5 t0_0 t0_1 t0_2 t1_0 t1_1 t1_2 t1_3 t1_4 t1_5 t1_6 t2_0 t3_0 t4_0 t5_0 t6_0 t7_0 t8_0 t9_0 t10_0 t11_0 t12_0 t13_0) else (if (11 : Int32) < x2 then (S_NM_whole_J33 x2 x3 x4 x5 t0_0 t0_1 t0_2 t1_0 t1_1 t1_2 t1_3 t1_4 t1_5 t1_6 t2_0 t3_0 t4_0 t5_0 t6_0 t7_0 t8_0 t9_0 t10_0 t11_0 t12_0 t13_0) else (if ((F_NM_no_IZ x3) : Int32) = (0 : Int32) then (if ((F_NM_no_IZ x4) : Int32) = (0 : Int32) then (if ((F_NM_no_IZ x5) : Int32) = (0 : Int32) then (S_NM_whole_J38 x2 x3 x4 x5 t0_0 t0_1 t0_2 t1_0 t1_1 t1_2 t1_3 t1_4 t1_5 t1_6 t2_0 t3_0 t4_0 t5_0 t6_0 t7_0 t8_0 t9_0 t10_0 t11_0 t12_0 t13_0 0) else (S_NM_whole_J33 x2 x3 x4 x5 t0_0 t0_1 t0_2 t1_0 t1_1 t1_2 t1_3 t1_4 t1_5 t1_6 t2_0 t3_0 t4_0 t5_0 t6_0 t7_0 t8_0 t9_0 t10_0 t11_0 t12_0 t13_0)) else (S_NM_whole_J33 x2 x3 x4 x5 t0_0 t0_1 t0_2 t1_0 t1_1 t1_2 t1_3 t1_4 t1_5 t1_6 t2_0 t3_0 t4_0 t5_0 t6_0 t7_0 t8_0 t9_0 t10_0 t11_0 t12_0 t13_0)) else (S_NM_whole_J33 x2 x3 x4 x5 t0_0 t0_1 t0_2 t1_0 t1_1 t1_2 t1_3 t1_4 t1_5 t1_6 t2_0 t3_0 t4_0 t5_0 t6_0 t7_0 t8_0 t9_0 t10_0 t11_0 t12_0 t13_0)))
set_option maxRecDepth 100000 in
set_option maxHeartbeats 4000000 in
theorem X_NM_whole (l : Launch) (D : va_G) (g : Nat → ClassId) (q : Nat → Nat) (ws : va_W) (x2 : Int32) (x3 : Int32) (x4 : Int32) (x5 : Int32) (hI : q_I (msh g q) q ws) (t0_0 : Int32) (t0_1 : Int32) (t0_2 : Int32) (hT0 : ws[116]? = (some (q 116, .inr (12, [.int t0_0, .ref (q 117), .int t0_1, .ref (q 118), .int t0_2, .ref (q 119), .ref (q 134), .ref (q 145), .ref (q 153), .ref (q 157), .ref (q 167), .ref (q 168)])) : Option (Nat × va_E))) (t1_0 : Int32) (t1_1 : Int32) (t1_2 : Int32) (t1_3 : Int32) (t1_4 : Int32) (t1_5 : Int32) (t1_6 : Int32) (hT1 : ws[119]? = (some (q 119, .inr (13, [.int t1_0, .int t1_1, .ref (q 120), .int t1_2, .ref (q 121), .ref (q 122), .ref (q 123), .int t1_3, .ref (q 124), .ref (q 125), .ref (q 126), .ref (q 127), .ref (q 128), .ref (q 129), .ref (q 130), .ref (q 131), .int t1_4, .int t1_5, .ref (q 132), .ref (q 133), .int t1_6])) : Option (Nat × va_E))) (t2_0 : (Nat → Int32)) (hT2 : ws[121]? = (some (q 121, .inl (g 0, (1408 : Int32).toNatClampNeg, .inl t2_0)) : Option (Nat × va_E))) (t3_0 : (Nat → Int32)) (hT3 : ws[122]? = (some (q 122, .inl (g 3, 11, .inl t3_0)) : Option (Nat × va_E))) (t4_0 : (Nat → Int32)) (hT4 : ws[123]? = (some (q 123, .inl (g 0, (264 : Int32).toNatClampNeg, .inl t4_0)) : Option (Nat × va_E))) (t5_0 : (Nat → Int32)) (hT5 : ws[124]? = (some (q 124, .inl (g 0, (264 : Int32).toNatClampNeg, .inl t5_0)) : Option (Nat × va_E))) (t6_0 : (Nat → Int32)) (hT6 : ws[125]? = (some (q 125, .inl (g 0, (528 : Int32).toNatClampNeg, .inl t6_0)) : Option (Nat × va_E))) (t7_0 : (Nat → Int32)) (hT7 : ws[126]? = (some (q 126, .inl (g 0, (264 : Int32).toNatClampNeg, .inl t7_0)) : Option (Nat × va_E))) (t8_0 : (Nat → Int32)) (hT8 : ws[127]? = (some (q 127, .inl (g 0, (264 : Int32).toNatClampNeg, .inl t8_0)) : Option (Nat × va_E))) (t9_0 : (Nat → Int32)) (hT9 : ws[128]? = (some (q 128, .inl (g 0, (264 : Int32).toNatClampNeg, .inl t9_0)) : Option (Nat × va_E))) (t10_0 : (Nat → Int32)) (hT10 : ws[129]? = (some (q 129, .inl (g 0, (264 : Int32).toNatClampNeg, .inl t10_0)) : Option (Nat × va_E))) (t11_0 : (Nat → Int32)) (hT11 : ws[130]? = (some (q 130, .inl (g 0, (264 : Int32).toNatClampNeg, .inl t11_0)) : Option (Nat × va_E))) (t12_0 : (Nat → Int32)) (hT12 : ws[131]? = (some (q 131, .inl (g 0, (264 : Int32).toNatClampNeg, .inl t12_0)) : Option (Nat × va_E))) (t13_0 : (Nat → Int32)) (hT13 : ws[132]? = (some (q 132, .inl (g 0, (264 : Int32).toNatClampNeg, .inl t13_0)) : Option (Nat × va_E))) (hS : True ∧ S_NM_whole x2 x3 x4 x5 t0_0 t0_1 t0_2 t1_0 t1_1 t1_2 t1_3 t1_4 t1_5 t1_6 t2_0 t3_0 t4_0 t5_0 t6_0 t7_0 t8_0 t9_0 t10_0 t11_0 t12_0 t13_0) : q_mV l y_NM_whole prog_14_method_20_code 5 5 0 0 D g [.ref (q 116), .int x2, .int x3, .int x4, .int x5] ws (fun u => q_I (msh g q) q u ∧ q_un ws u [116, 119, 121, 122, 123, 124, 125, 126, 127, 128, 129, 130, 131, 132] ∧ ∃ (u0_0 : Int32) (u1_0 : Int32) (u1_1 : Int32) (u1_2 : Int32) (u1_3 : Int32) (u1_4 : Int32) (u1_5 : Int32) (u1_6 : Int32) (u2_0 : (Nat → Int32)) (u3_0 : (Nat → Int32)) (u4_0 : (Nat → Int32)) (u5_0 : (Nat → Int32)) (u6_0 : (Nat → Int32)) (u7_0 : (Nat → Int32)) (u8_0 : (Nat → Int32)) (u9_0 : (Nat → Int32)) (u10_0 : (Nat → Int32)) (u11_0 : (Nat → Int32)) (u12_0 : (Nat → Int32)) (u13_0 : (Nat → Int32)), u[116]? = (some (q 116, .inr (12, [.int u0_0, .ref (q 117), .int t0_1, .ref (q 118), .int t0_2, .ref (q 119), .ref (q 134), .ref (q 145), .ref (q 153), .ref (q 157), .ref (q 167), .ref (q 168)])) : Option (Nat × va_E)) ∧ u[119]? = (some (q 119, .inr (13, [.int u1_0, .int u1_1, .ref (q 120), .int u1_2, .ref (q 121), .ref (q 122), .ref (q 123), .int u1_3, .ref (q 124), .ref (q 125), .ref (q 126), .ref (q 127), .ref (q 128), .ref (q 129), .ref (q 130), .ref (q 131), .int u1_4, .int u1_5, .ref (q 132), .ref (q 133), .int u1_6])) : Option (Nat × va_E)) ∧ u[121]? = (some (q 121, .inl (g 0, (1408 : Int32).toNatClampNeg, .inl u2_0)) : Option (Nat × va_E)) ∧ u[122]? = (some (q 122, .inl (g 3, 11, .inl u3_0)) : Option (Nat × va_E)) ∧ u[123]? = (some (q 123, .inl (g 0, (264 : Int32).toNatClampNeg, .inl u4_0)) : Option (Nat × va_E)) ∧ u[124]? = (some (q 124, .inl (g 0, (264 : Int32).toNatClampNeg, .inl u5_0)) : Option (Nat × va_E)) ∧ u[125]? = (some (q 125, .inl (g 0, (528 : Int32).toNatClampNeg, .inl u6_0)) : Option (Nat × va_E)) ∧ u[126]? = (some (q 126, .inl (g 0, (264 : Int32).toNatClampNeg, .inl u7_0)) : Option (Nat × va_E)) ∧ u[127]? = (some (q 127, .inl (g 0, (264 : Int32).toNatClampNeg, .inl u8_0)) : Option (Nat × va_E)) ∧ u[128]? = (some (q 128, .inl (g 0, (264 : Int32).toNatClampNeg, .inl u9_0)) : Option (Nat × va_E)) ∧ u[129]? = (some (q 129, .inl (g 0, (264 : Int32).toNatClampNeg, .inl u10_0)) : Option (Nat × va_E)) ∧ u[130]? = (some (q 130, .inl (g 0, (264 : Int32).toNatClampNeg, .inl u11_0)) : Option (Nat × va_E)) ∧ u[131]? = (some (q 131, .inl (g 0, (264 : Int32).toNatClampNeg, .inl u12_0)) : Option (Nat × va_E)) ∧ u[132]? = (some (q 132, .inl (g 0, (264 : Int32).toNatClampNeg, .inl u13_0)) : Option (Nat × va_E)) ∧ (0 ≤ u1_3.toInt) ∧ (u1_3.toInt ≤ 1) ∧ (0 ≤ u1_4.toInt) ∧ (u1_4.toInt ≤ 1) ∧ (0 ≤ u1_5.toInt) ∧ (u1_5.toInt ≤ 1) ∧ (t1_2.toInt ≤ u1_2.toInt) ∧ (u1_2.toInt ≤ t1_2.toInt) ∧ (t1_6.toInt ≤ u1_6.toInt) ∧ (u1_6.toInt ≤ t1_6.toInt) ∧ (u0_0, u1_0, u1_1, u1_2, u1_3, u1_4, u1_5, u1_6, u2_0, u3_0, u4_0, u5_0, u6_0, u7_0, u8_0, u9_0, u10_0, u11_0, u12_0, u13_0) = (F_NM_whole x2 x3 x4 x5 t0_0 t0_1 t0_2 t1_0 t1_1 t1_2 t1_3 t1_4 t1_5 t1_6 t2_0 t3_0 t4_0 t5_0 t6_0 t7_0 t8_0 t9_0 t10_0 t11_0 t12_0 t13_0)) := by
  intro sz
  refine q_into (by decide) (Nat.le_of_ble_eq_true rfl) ?_
  intro p e s m below meth c ls hsz C0 V hl
  have hx := C0.1
  have hb := C0.2.1
  obtain ⟨btt0_1, btt0_2⟩ := n_w116 hI hT0
  replace btt0_1 : q_F (0 ≤ t0_1.toInt ∧ t0_1.toInt ≤ 4100) := btt0_1
  replace btt0_2 : q_F (0 ≤ t0_2.toInt ∧ t0_2.toInt ≤ 12200) := btt0_2
  have hZ9 := (n_w119 hI hT1).2
  obtain ⟨btt1_3, hZ9⟩ := hZ9
  obtain ⟨btt1_4, hZ9⟩ := hZ9
  obtain ⟨btt1_5, -⟩ := hZ9
  replace btt1_3 : q_F (0 ≤ t1_3.toInt ∧ t1_3.toInt ≤ 1) := btt1_3
  replace btt1_4 : q_F (0 ≤ t1_4.toInt ∧ t1_4.toInt ≤ 1) := btt1_4
  replace btt1_5 : q_F (0 ≤ t1_5.toInt ∧ t1_5.toInt ≤ 1) := btt1_5
  have hF : q_un ws ws [116, 119, 121, 122, 123, 124, 125, 126, 127, 128, 129, 130, 131, 132] := q_u0
  have hl : lv_has ls 5 [(0, .ref (q 116)), (1, .int x2), (2, .int x3), (3, .int x4), (4, .int x5)] := hl
  refine lv_aload_n hx hb d_14_20_0 rfl (lv_at hl 0 rfl) ?_
  refine lv_iload_n hx hb d_14_20_1 rfl (lv_at hl 1 rfl) ?_
  refine q_join (X := Int32) (fun z H locs ls _ => q_F (0 ≤ z.toInt) ∧ q_F (z.toInt ≤ 1) ∧ q_Wd D g (va_A ws sz) s ws H locs ∧ lv_has ls 5 [(0, .ref (q 116)), (1, .int x2), (2, .int x3), (3, .int x4), (4, .int x5)] ∧ F_NM_whole_J38 x2 x3 x4 x5 t0_0 t0_1 t0_2 t1_0 t1_1 t1_2 t1_3 t1_4 t1_5 t1_6 t2_0 t3_0 t4_0 t5_0 t6_0 t7_0 t8_0 t9_0 t10_0 t11_0 t12_0 t13_0 z = (F_NM_whole x2 x3 x4 x5 t0_0 t0_1 t0_2 t1_0 t1_1 t1_2 t1_3 t1_4 t1_5 t1_6 t2_0 t3_0 t4_0 t5_0 t6_0 t7_0 t8_0 t9_0 t10_0 t11_0 t12_0 t13_0) ∧ True ∧ S_NM_whole_J38 x2 x3 x4 x5 t0_0 t0_1 t0_2 t1_0 t1_1 t1_2 t1_3 t1_4 t1_5 t1_6 t2_0 t3_0 t4_0 t5_0 t6_0 t7_0 t8_0 t9_0 t10_0 t11_0 t12_0 t13_0 z) (fun z => [.int z, .ref (q 116)]) 38 0 0 ?_ ?_
  ·
    rintro lx56 H locs ls _ hZ9
    replace hZ9 := hZ9.2.2
    obtain ⟨V, hZ9⟩ := hZ9
    obtain ⟨hl, hZ9⟩ := hZ9
    obtain ⟨hR74, hS75⟩ := hZ9
    replace hl : lv_has ls 5 [(0, .ref (q 116)), (1, .int x2), (2, .int x3), (3, .int x4), (4, .int x5)] := hl
    refine q_put (ci := 12) (j := 0) (v := .int lx56) (ty := .int) C0 V i_NM o_NM n_NM rfl rfl hT0 (by decide) w_2298 rfl rfl rfl rfl (Nat.le_of_ble_eq_true rfl) d_14_20_38 (fun H locs w79 hu80 hT0 V => ?_)
    replace hT0 : w79[116]? = (some (q 116, .inr (12, [.int lx56, .ref (q 117), .int t0_1, .ref (q 118), .int t0_2, .ref (q 119), .ref (q 134), .ref (q 145), .ref (q 153), .ref (q 157), .ref (q 167), .ref (q 168)])) : Option (Nat × va_E)) := hT0
    replace hI := n_p116 hI hu80 hT0 (by first | with_reducible exact q_fe btt0_1 | exact ⟨(by have t1 : 0 ≤ t0_1.toInt ∧ t0_1.toInt ≤ 4100 := btt0_1; omega), (by have t1 : 0 ≤ t0_1.toInt ∧ t0_1.toInt ≤ 4100 := btt0_1; omega)⟩) (by first | with_reducible exact q_fe btt0_2 | exact ⟨(by have t1 : 0 ≤ t0_2.toInt ∧ t0_2.toInt ≤ 12200 := btt0_2; omega), (by have t1 : 0 ≤ t0_2.toInt ∧ t0_2.toInt ≤ 12200 := btt0_2; omega)⟩)
    replace hT1 := (hu80 _ (by decide)).trans hT1
    replace hT2 := (hu80 _ (by decide)).trans hT2
    replace hT3 := (hu80 _ (by decide)).trans hT3
    replace hT4 := (hu80 _ (by decide)).trans hT4
    replace hT5 := (hu80 _ (by decide)).trans hT5
    replace hT6 := (hu80 _ (by decide)).trans hT6
    replace hT7 := (hu80 _ (by decide)).trans hT7
    replace hT8 := (hu80 _ (by decide)).trans hT8
    replace hT9 := (hu80 _ (by decide)).trans hT9
    replace hT10 := (hu80 _ (by decide)).trans hT10
    replace hT11 := (hu80 _ (by decide)).trans hT11
    replace hT12 := (hu80 _ (by decide)).trans hT12
    replace hT13 := (hu80 _ (by decide)).trans hT13
    replace hF := q_us hF hu80 (by simp)
    refine lv_aload_n hx hb d_14_20_41 rfl (lv_at hl 0 rfl) ?_
    refine q_get (ci := 12) (j := 0) (v := .int lx56) C0 V i_NM rfl rfl hT0 (by decide) w_2298 rfl d_14_20_42 ?_
    refine lv_if_le (tgt := 49) hx hb d_14_20_45 (by decide) (fun c81 => ?_) (fun c81 => ?_)
    ·
      refine lv_iload_n hx hb d_14_20_49 rfl (lv_at hl 1 rfl) ?_
      by_cases c83 : x2 = 0
      ·
        have b84 : q_F (x2.toInt = 0) := (q_eqI c83)
        refine q_ti (v := 0) c83 ?_
        refine lv_tableIn (tgt := 96) (off := 46) hx hb d_14_20_50 (by decide) (by decide) (by decide) (by decide) ?_
        refine lv_aload_n hx hb d_14_20_96 rfl (lv_at hl 0 rfl) ?_
        refine q_get (ci := 12) (j := 5) (v := .ref (q 119)) C0 V i_NM rfl rfl hT0 (by decide) w_2303 rfl d_14_20_97 ?_
        refine lv_iload_n hx hb d_14_20_100 rfl (lv_at hl 2 rfl) ?_
        refine lv_iload_n hx hb d_14_20_101 rfl (lv_at hl 3 rfl) ?_
        refine lv_iload hx hb d_14_20_102 (lv_at hl 4 rfl) ?_
        refine lv_iload_n hx hb d_14_20_104 rfl (lv_at hl 1 rfl) ?_
        refine lv_iconst (v := 1) hx hb d_14_20_105 (by decide) ?_
        refine lv_icmp_ne (tgt := 113) hx hb d_14_20_106 (by decide) (fun c85 => ?_) (fun c85 => absurd (show x2.toInt = 1 from q_eqI c85) (by first | with_reducible exact q_fe b84 | (have t1 : x2.toInt = 0 := b84; omega)))
        refine lv_iconst (v := 0) hx hb d_14_20_113 (by decide) ?_
        have ob86 : True ∧ S_WR_add x3 x4 x5 (0 : Int32) t1_0 t1_1 t1_2 t1_3 t1_4 t1_5 t1_6 t2_0 t3_0 t4_0 t9_0 t10_0 := (by have h := hS75; rw [S_NM_whole_J38.eq_1] at h; rw [if_pos c81] at h; rw [if_pos c83] at h; with_reducible exact h.2.1)
        refine q_gov V (q_runV (As := [.int x3, .int x4, .int x5, .int 0]) (rest := []) (d := 3) (mc := 0) (ms := 0) (ci := 13) C0 V rfl LV_NM_168 (X_WR_add l D g q w79  x3 x4 x5 0 hI t1_0 t1_1 t1_2 t1_3 t1_4 t1_5 t1_6 hT1 t2_0 hT2 t3_0 hT3 t4_0 hT4 t9_0 hT9 t10_0 hT10 ⟨(by have y0 : (0 : Int32).toInt = 0 := rfl; omega), (by have y0 : (0 : Int32).toInt = 0 := rfl; omega)⟩ ob86 _) rfl rfl hT1 rfl hl.1 rfl (Nat.le_of_ble_eq_true rfl) ⟨by decide, by decide⟩ ⟨Nat.le_of_ble_eq_true rfl, Nat.le_of_ble_eq_true rfl⟩ d_14_20_114) (fun u87 H locs hp88 V => ?_)
        obtain ⟨hI, hZ9⟩ := hp88
        obtain ⟨hu118, hZ9⟩ := hZ9
        obtain ⟨y90, hZ9⟩ := hZ9
        obtain ⟨y91, hZ9⟩ := hZ9
        obtain ⟨y92, hZ9⟩ := hZ9
        obtain ⟨y93, hZ9⟩ := hZ9
        obtain ⟨y94, hZ9⟩ := hZ9
        obtain ⟨y95, hZ9⟩ := hZ9
        obtain ⟨y96, hZ9⟩ := hZ9
        obtain ⟨f97, hZ9⟩ := hZ9
        obtain ⟨f99, hZ9⟩ := hZ9
        obtain ⟨f101, hZ9⟩ := hZ9
        obtain ⟨f103, hZ9⟩ := hZ9
        obtain ⟨f105, hZ9⟩ := hZ9
        obtain ⟨hO89, hZ9⟩ := hZ9
        obtain ⟨hA98, hZ9⟩ := hZ9
        obtain ⟨hA100, hZ9⟩ := hZ9
        obtain ⟨hA102, hZ9⟩ := hZ9
        obtain ⟨hA104, hZ9⟩ := hZ9
        obtain ⟨hA106, hZ9⟩ := hZ9
        obtain ⟨b107, hZ9⟩ := hZ9
        obtain ⟨b108, hZ9⟩ := hZ9
        obtain ⟨b109, hZ9⟩ := hZ9
        obtain ⟨b110, hZ9⟩ := hZ9
        obtain ⟨b111, hZ9⟩ := hZ9
        obtain ⟨b112, hZ9⟩ := hZ9
        obtain ⟨b113, hZ9⟩ := hZ9
        obtain ⟨b114, hZ9⟩ := hZ9
        obtain ⟨b115, hZ9⟩ := hZ9
        obtain ⟨b116, hE117⟩ := hZ9
        replace hO89 : u87[119]? = (some (q 119, .inr (13, [.int y90, .int y91, .ref (q 120), .int y92, .ref (q 121), .ref (q 122), .ref (q 123), .int y93, .ref (q 124), .ref (q 125), .ref (q 126), .ref (q 127), .ref (q 128), .ref (q 129), .ref (q 130), .ref (q 131), .int y94, .int y95, .ref (q 132), .ref (q 133), .int y96])) : Option (Nat × va_E)) := hO89
        replace hA98 : u87[121]? = (some (q 121, .inl (g 0, (1408 : Int32).toNatClampNeg, .inl f97)) : Option (Nat × va_E)) := hA98
        replace hA100 : u87[122]? = (some (q 122, .inl (g 3, 11, .inl f99)) : Option (Nat × va_E)) := hA100
        replace hA102 : u87[123]? = (some (q 123, .inl (g 0, (264 : Int32).toNatClampNeg, .inl f101)) : Option (Nat × va_E)) := hA102
        replace hA104 : u87[128]? = (some (q 128, .inl (g 0, (264 : Int32).toNatClampNeg, .inl f103)) : Option (Nat × va_E)) := hA104
        replace hA106 : u87[129]? = (some (q 129, .inl (g 0, (264 : Int32).toNatClampNeg, .inl f105)) : Option (Nat × va_E)) := hA106
        obtain ⟨p119, e120⟩ : ∃ z, z = (F_WR_add x3 x4 x5 (0 : Int32) t1_0 t1_1 t1_2 t1_3 t1_4 t1_5 t1_6 t2_0 t3_0 t4_0 t9_0 t10_0) := ⟨_, rfl⟩
        have e121 : y90 = p119.1 := congrArg (fun z => z.1) (hE117.trans e120.symm)
        have e122 : y91 = p119.2.1 := congrArg (fun z => z.2.1) (hE117.trans e120.symm)
        have e123 : y92 = p119.2.2.1 := congrArg (fun z => z.2.2.1) (hE117.trans e120.symm)
        have e124 : y93 = p119.2.2.2.1 := congrArg (fun z => z.2.2.2.1) (hE117.trans e120.symm)
        have e125 : y94 = p119.2.2.2.2.1 := congrArg (fun z => z.2.2.2.2.1) (hE117.trans e120.symm)
        have e126 : y95 = p119.2.2.2.2.2.1 := congrArg (fun z => z.2.2.2.2.2.1) (hE117.trans e120.symm)
        have e127 : y96 = p119.2.2.2.2.2.2.1 := congrArg (fun z => z.2.2.2.2.2.2.1) (hE117.trans e120.symm)
        have e128 : f97 = p119.2.2.2.2.2.2.2.1 := congrArg (fun z => z.2.2.2.2.2.2.2.1) (hE117.trans e120.symm)
        have e129 : f99 = p119.2.2.2.2.2.2.2.2.1 := congrArg (fun z => z.2.2.2.2.2.2.2.2.1) (hE117.trans e120.symm)
        have e130 : f101 = p119.2.2.2.2.2.2.2.2.2.1 := congrArg (fun z => z.2.2.2.2.2.2.2.2.2.1) (hE117.trans e120.symm)
        have e131 : f103 = p119.2.2.2.2.2.2.2.2.2.2.1 := congrArg (fun z => z.2.2.2.2.2.2.2.2.2.2.1) (hE117.trans e120.symm)
        have e132 : f105 = p119.2.2.2.2.2.2.2.2.2.2.2 := congrArg (fun z => z.2.2.2.2.2.2.2.2.2.2.2) (hE117.trans e120.symm)
        replace b107 : q_F (0 ≤ y93.toInt) := b107
        replace b108 : q_F (y93.toInt ≤ 1) := b108
        replace b109 : q_F (t1_2.toInt ≤ y92.toInt) := b109
        replace b110 : q_F (y92.toInt ≤ t1_2.toInt) := b110
        replace b111 : q_F (t1_4.toInt ≤ y94.toInt) := b111
        replace b112 : q_F (y94.toInt ≤ t1_4.toInt) := b112
        replace b113 : q_F (t1_5.toInt ≤ y95.toInt) := b113
        replace b114 : q_F (y95.toInt ≤ t1_5.toInt) := b114
        replace b115 : q_F (t1_6.toInt ≤ y96.toInt) := b115
        replace b116 : q_F (y96.toInt ≤ t1_6.toInt) := b116
        replace hT0 := (hu118 _ (by decide)).trans hT0
        replace hT5 := (hu118 _ (by decide)).trans hT5
        replace hT6 := (hu118 _ (by decide)).trans hT6
        replace hT7 := (hu118 _ (by decide)).trans hT7
        replace hT8 := (hu118 _ (by decide)).trans hT8
        replace hT11 := (hu118 _ (by decide)).trans hT11
        replace hT12 := (hu118 _ (by decide)).trans hT12
        replace hT13 := (hu118 _ (by decide)).trans hT13
        replace hF := q_uc hF hu118 (by simp)
        have hR133 := (show F_NM_whole_c114 x2 x3 x4 x5 t0_0 t0_1 t0_2 t1_0 t1_1 t1_2 t1_3 t1_4 t1_5 t1_6 t2_0 t3_0 t4_0 t5_0 t6_0 t7_0 t8_0 t9_0 t10_0 t11_0 t12_0 t13_0 lx56 p119 = (F_NM_whole x2 x3 x4 x5 t0_0 t0_1 t0_2 t1_0 t1_1 t1_2 t1_3 t1_4 t1_5 t1_6 t2_0 t3_0 t4_0 t5_0 t6_0 t7_0 t8_0 t9_0 t10_0 t11_0 t12_0 t13_0) from Eq.trans (by rw [e120, F_NM_whole_J38.eq_1, if_pos c81, if_pos c83]) hR74)
        have hS134 := (show True ∧ S_NM_whole_c114 x2 x3 x4 x5 t0_0 t0_1 t0_2 t1_0 t1_1 t1_2 t1_3 t1_4 t1_5 t1_6 t2_0 t3_0 t4_0 t5_0 t6_0 t7_0 t8_0 t9_0 t10_0 t11_0 t12_0 t13_0 lx56 p119 from (by rw [e120]; have h := hS75; rw [S_NM_whole_J38.eq_1] at h; rw [if_pos c81] at h; rw [if_pos c83] at h; replace h := q_s2 h; with_reducible exact h))
        refine lv_goto (tgt := 223) hx hb d_14_20_117 (by decide) ?_
        refine lv_aload_n hx hb d_14_20_223 rfl (lv_at hl 0 rfl) ?_
        refine lv_aload_n hx hb d_14_20_224 rfl (lv_at hl 0 rfl) ?_
        refine q_get (ci := 12) (j := 5) (v := .ref (q 119)) C0 V i_NM rfl rfl hT0 (by decide) w_2303 rfl d_14_20_225 ?_
        refine q_getN (ci := 13) (j := 0) (v := .int y90) C0 V i_WR rfl rfl hO89 (by decide) wo_1922 rfl d_14_20_228 ?_
        refine q_put (ci := 12) (j := 0) (v := .int y90) (ty := .int) C0 V i_NM o_NM n_NM rfl rfl hT0 (by decide) w_2298 rfl rfl rfl rfl (Nat.le_of_ble_eq_true rfl) d_14_20_231 (fun H locs w138 hu139 hT0 V => ?_)
        replace hT0 : w138[116]? = (some (q 116, .inr (12, [.int y90, .ref (q 117), .int t0_1, .ref (q 118), .int t0_2, .ref (q 119), .ref (q 134), .ref (q 145), .ref (q 153), .ref (q 157), .ref (q 167), .ref (q 168)])) : Option (Nat × va_E)) := hT0
        replace hI := n_p116 hI hu139 hT0 (by first | with_reducible exact q_fe btt0_1 | exact ⟨(by have t1 : 0 ≤ t0_1.toInt ∧ t0_1.toInt ≤ 4100 := btt0_1; omega), (by have t1 : 0 ≤ t0_1.toInt ∧ t0_1.toInt ≤ 4100 := btt0_1; omega)⟩) (by first | with_reducible exact q_fe btt0_2 | exact ⟨(by have t1 : 0 ≤ t0_2.toInt ∧ t0_2.toInt ≤ 12200 := btt0_2; omega), (by have t1 : 0 ≤ t0_2.toInt ∧ t0_2.toInt ≤ 12200 := btt0_2; omega)⟩)
        replace hO89 := (hu139 _ (by decide)).trans hO89
        replace hA98 := (hu139 _ (by decide)).trans hA98
        replace hA100 := (hu139 _ (by decide)).trans hA100
        replace hA102 := (hu139 _ (by decide)).trans hA102
        replace hT5 := (hu139 _ (by decide)).trans hT5
        replace hT6 := (hu139 _ (by decide)).trans hT6
        replace hT7 := (hu139 _ (by decide)).trans hT7
        replace hT8 := (hu139 _ (by decide)).trans hT8
        replace hA104 := (hu139 _ (by decide)).trans hA104
        replace hA106 := (hu139 _ (by decide)).trans hA106
        replace hT11 := (hu139 _ (by decide)).trans hT11
        replace hT12 := (hu139 _ (by decide)).trans hT12
        replace hT13 := (hu139 _ (by decide)).trans hT13
        replace hF := q_us hF hu139 (by simp)
        exact q_retv C0 V (⟨hI, hF, y90, y90, y91, y92, y93, y94, y95, y96, f97, f99, f101, t5_0, t6_0, t7_0, t8_0, f103, f105, t11_0, t12_0, t13_0, hT0, hO89, hA98, hA100, hA102, hT5, hT6, hT7, hT8, hA104, hA106, hT11, hT12, hT13, (show 0 ≤ y93.toInt from (by first | with_reducible exact q_fe b107 | (have t1 : 0 ≤ y93.toInt := b107; omega))), (show y93.toInt ≤ 1 from (by first | with_reducible exact q_fe b108 | (have t1 : y93.toInt ≤ 1 := b108; omega))), (show 0 ≤ y94.toInt from (by have t1 : 0 ≤ t1_4.toInt ∧ t1_4.toInt ≤ 1 := btt1_4; have t2 : t1_4.toInt ≤ y94.toInt := b111; omega)), (show y94.toInt ≤ 1 from (by have t1 : 0 ≤ t1_4.toInt ∧ t1_4.toInt ≤ 1 := btt1_4; have t2 : y94.toInt ≤ t1_4.toInt := b112; omega)), (show 0 ≤ y95.toInt from (by have t1 : 0 ≤ t1_5.toInt ∧ t1_5.toInt ≤ 1 := btt1_5; have t2 : t1_5.toInt ≤ y95.toInt := b113; omega)), (show y95.toInt ≤ 1 from (by have t1 : 0 ≤ t1_5.toInt ∧ t1_5.toInt ≤ 1 := btt1_5; have t2 : y95.toInt ≤ t1_5.toInt := b114; omega)), (show t1_2.toInt ≤ y92.toInt from (by first | with_reducible exact q_fe b109 | (have t1 : t1_2.toInt ≤ y92.toInt := b109; omega))), (show y92.toInt ≤ t1_2.toInt from (by first | with_reducible exact q_fe b110 | (have t1 : y92.toInt ≤ t1_2.toInt := b110; omega))), (show t1_6.toInt ≤ y96.toInt from (by first | with_reducible exact q_fe b115 | (have t1 : t1_6.toInt ≤ y96.toInt := b115; omega))), (show y96.toInt ≤ t1_6.toInt from (by first | with_reducible exact q_fe b116 | (have t1 : y96.toInt ≤ t1_6.toInt := b116; omega))), (show (y90, y90, y91, y92, y93, y94, y95, y96, f97, f99, f101, t5_0, t6_0, t7_0, t8_0, f103, f105, t11_0, t12_0, t13_0) = (F_NM_whole x2 x3 x4 x5 t0_0 t0_1 t0_2 t1_0 t1_1 t1_2 t1_3 t1_4 t1_5 t1_6 t2_0 t3_0 t4_0 t5_0 t6_0 t7_0 t8_0 t9_0 t10_0 t11_0 t12_0 t13_0) from Eq.trans (by rw [e132, e131, e130, e129, e128, e127, e126, e125, e124, e123, e122, e121, F_NM_whole_c114.eq_1]) hR133)⟩) d_14_20_234
      by_cases c141 : x2 = 1
      ·
        have b142 : q_F (x2.toInt = 1) := (q_eqI c141)
        refine q_ti (v := 1) c141 ?_
        refine lv_tableIn (tgt := 96) (off := 46) hx hb d_14_20_50 (by decide) (by decide) (by decide) (by decide) ?_
        refine lv_aload_n hx hb d_14_20_96 rfl (lv_at hl 0 rfl) ?_
        refine q_get (ci := 12) (j := 5) (v := .ref (q 119)) C0 V i_NM rfl rfl hT0 (by decide) w_2303 rfl d_14_20_97 ?_
        refine lv_iload_n hx hb d_14_20_100 rfl (lv_at hl 2 rfl) ?_
        refine lv_iload_n hx hb d_14_20_101 rfl (lv_at hl 3 rfl) ?_
        refine lv_iload hx hb d_14_20_102 (lv_at hl 4 rfl) ?_
        refine lv_iload_n hx hb d_14_20_104 rfl (lv_at hl 1 rfl) ?_
        refine lv_iconst (v := 1) hx hb d_14_20_105 (by decide) ?_
        refine lv_icmp_ne (tgt := 113) hx hb d_14_20_106 (by decide) (fun c143 => absurd (show x2.toInt ≠ 1 from q_neI c143) (by first | with_reducible exact q_fe b142 | (have t1 : x2.toInt = 1 := b142; omega))) (fun c143 => ?_)
        refine lv_iconst (v := 1) hx hb d_14_20_109 (by decide) ?_
        refine lv_goto (tgt := 114) hx hb d_14_20_110 (by decide) ?_
        have ob144 : True ∧ S_WR_add x3 x4 x5 (1 : Int32) t1_0 t1_1 t1_2 t1_3 t1_4 t1_5 t1_6 t2_0 t3_0 t4_0 t9_0 t10_0 := (by have h := hS75; rw [S_NM_whole_J38.eq_1] at h; rw [if_pos c81] at h; rw [if_neg c83] at h; rw [if_pos c141] at h; with_reducible exact h.2.1)
        refine q_gov V (q_runV (As := [.int x3, .int x4, .int x5, .int 1]) (rest := []) (d := 3) (mc := 0) (ms := 0) (ci := 13) C0 V rfl LV_NM_168 (X_WR_add l D g q w79  x3 x4 x5 1 hI t1_0 t1_1 t1_2 t1_3 t1_4 t1_5 t1_6 hT1 t2_0 hT2 t3_0 hT3 t4_0 hT4 t9_0 hT9 t10_0 hT10 ⟨(by have y0 : (1 : Int32).toInt = 1 := rfl; omega), (by have y0 : (1 : Int32).toInt = 1 := rfl; omega)⟩ ob144 _) rfl rfl hT1 rfl hl.1 rfl (Nat.le_of_ble_eq_true rfl) ⟨by decide, by decide⟩ ⟨Nat.le_of_ble_eq_true rfl, Nat.le_of_ble_eq_true rfl⟩ d_14_20_114) (fun u145 H locs hp146 V => ?_)
        obtain ⟨hI, hZ9⟩ := hp146
        obtain ⟨hu176, hZ9⟩ := hZ9
        obtain ⟨y148, hZ9⟩ := hZ9
        obtain ⟨y149, hZ9⟩ := hZ9
        obtain ⟨y150, hZ9⟩ := hZ9
        obtain ⟨y151, hZ9⟩ := hZ9
        obtain ⟨y152, hZ9⟩ := hZ9
        obtain ⟨y153, hZ9⟩ := hZ9
        obtain ⟨y154, hZ9⟩ := hZ9
        obtain ⟨f155, hZ9⟩ := hZ9
        obtain ⟨f157, hZ9⟩ := hZ9
        obtain ⟨f159, hZ9⟩ := hZ9
        obtain ⟨f161, hZ9⟩ := hZ9
        obtain ⟨f163, hZ9⟩ := hZ9
        obtain ⟨hO147, hZ9⟩ := hZ9
        obtain ⟨hA156, hZ9⟩ := hZ9
        obtain ⟨hA158, hZ9⟩ := hZ9
        obtain ⟨hA160, hZ9⟩ := hZ9
        obtain ⟨hA162, hZ9⟩ := hZ9
        obtain ⟨hA164, hZ9⟩ := hZ9
        obtain ⟨b165, hZ9⟩ := hZ9
        obtain ⟨b166, hZ9⟩ := hZ9
        obtain ⟨b167, hZ9⟩ := hZ9
        obtain ⟨b168, hZ9⟩ := hZ9
        obtain ⟨b169, hZ9⟩ := hZ9
        obtain ⟨b170, hZ9⟩ := hZ9
        obtain ⟨b171, hZ9⟩ := hZ9
        obtain ⟨b172, hZ9⟩ := hZ9
        obtain ⟨b173, hZ9⟩ := hZ9
        obtain ⟨b174, hE175⟩ := hZ9
        replace hO147 : u145[119]? = (some (q 119, .inr (13, [.int y148, .int y149, .ref (q 120), .int y150, .ref (q 121), .ref (q 122), .ref (q 123), .int y151, .ref (q 124), .ref (q 125), .ref (q 126), .ref (q 127), .ref (q 128), .ref (q 129), .ref (q 130), .ref (q 131), .int y152, .int y153, .ref (q 132), .ref (q 133), .int y154])) : Option (Nat × va_E)) := hO147
        replace hA156 : u145[121]? = (some (q 121, .inl (g 0, (1408 : Int32).toNatClampNeg, .inl f155)) : Option (Nat × va_E)) := hA156
        replace hA158 : u145[122]? = (some (q 122, .inl (g 3, 11, .inl f157)) : Option (Nat × va_E)) := hA158
        replace hA160 : u145[123]? = (some (q 123, .inl (g 0, (264 : Int32).toNatClampNeg, .inl f159)) : Option (Nat × va_E)) := hA160
        replace hA162 : u145[128]? = (some (q 128, .inl (g 0, (264 : Int32).toNatClampNeg, .inl f161)) : Option (Nat × va_E)) := hA162
        replace hA164 : u145[129]? = (some (q 129, .inl (g 0, (264 : Int32).toNatClampNeg, .inl f163)) : Option (Nat × va_E)) := hA164
        obtain ⟨p177, e178⟩ : ∃ z, z = (F_WR_add x3 x4 x5 (1 : Int32) t1_0 t1_1 t1_2 t1_3 t1_4 t1_5 t1_6 t2_0 t3_0 t4_0 t9_0 t10_0) := ⟨_, rfl⟩
        have e179 : y148 = p177.1 := congrArg (fun z => z.1) (hE175.trans e178.symm)
        have e180 : y149 = p177.2.1 := congrArg (fun z => z.2.1) (hE175.trans e178.symm)
        have e181 : y150 = p177.2.2.1 := congrArg (fun z => z.2.2.1) (hE175.trans e178.symm)
        have e182 : y151 = p177.2.2.2.1 := congrArg (fun z => z.2.2.2.1) (hE175.trans e178.symm)
        have e183 : y152 = p177.2.2.2.2.1 := congrArg (fun z => z.2.2.2.2.1) (hE175.trans e178.symm)
        have e184 : y153 = p177.2.2.2.2.2.1 := congrArg (fun z => z.2.2.2.2.2.1) (hE175.trans e178.symm)
        have e185 : y154 = p177.2.2.2.2.2.2.1 := congrArg (fun z => z.2.2.2.2.2.2.1) (hE175.trans e178.symm)
        have e186 : f155 = p177.2.2.2.2.2.2.2.1 := congrArg (fun z => z.2.2.2.2.2.2.2.1) (hE175.trans e178.symm)
        have e187 : f157 = p177.2.2.2.2.2.2.2.2.1 := congrArg (fun z => z.2.2.2.2.2.2.2.2.1) (hE175.trans e178.symm)
        have e188 : f159 = p177.2.2.2.2.2.2.2.2.2.1 := congrArg (fun z => z.2.2.2.2.2.2.2.2.2.1) (hE175.trans e178.symm)
        have e189 : f161 = p177.2.2.2.2.2.2.2.2.2.2.1 := congrArg (fun z => z.2.2.2.2.2.2.2.2.2.2.1) (hE175.trans e178.symm)
        have e190 : f163 = p177.2.2.2.2.2.2.2.2.2.2.2 := congrArg (fun z => z.2.2.2.2.2.2.2.2.2.2.2) (hE175.trans e178.symm)
        replace b165 : q_F (0 ≤ y151.toInt) := b165
        replace b166 : q_F (y151.toInt ≤ 1) := b166
        replace b167 : q_F (t1_2.toInt ≤ y150.toInt) := b167
        replace b168 : q_F (y150.toInt ≤ t1_2.toInt) := b168
        replace b169 : q_F (t1_4.toInt ≤ y152.toInt) := b169
        replace b170 : q_F (y152.toInt ≤ t1_4.toInt) := b170
        replace b171 : q_F (t1_5.toInt ≤ y153.toInt) := b171
        replace b172 : q_F (y153.toInt ≤ t1_5.toInt) := b172
        replace b173 : q_F (t1_6.toInt ≤ y154.toInt) := b173
        replace b174 : q_F (y154.toInt ≤ t1_6.toInt) := b174
        replace hT0 := (hu176 _ (by decide)).trans hT0
        replace hT5 := (hu176 _ (by decide)).trans hT5
        replace hT6 := (hu176 _ (by decide)).trans hT6
        replace hT7 := (hu176 _ (by decide)).trans hT7
        replace hT8 := (hu176 _ (by decide)).trans hT8
        replace hT11 := (hu176 _ (by decide)).trans hT11
        replace hT12 := (hu176 _ (by decide)).trans hT12
        replace hT13 := (hu176 _ (by decide)).trans hT13
        replace hF := q_uc hF hu176 (by simp)
        have hR191 := (show F_NM_whole_c114_3 x2 x3 x4 x5 t0_0 t0_1 t0_2 t1_0 t1_1 t1_2 t1_3 t1_4 t1_5 t1_6 t2_0 t3_0 t4_0 t5_0 t6_0 t7_0 t8_0 t9_0 t10_0 t11_0 t12_0 t13_0 lx56 p177 = (F_NM_whole x2 x3 x4 x5 t0_0 t0_1 t0_2 t1_0 t1_1 t1_2 t1_3 t1_4 t1_5 t1_6 t2_0 t3_0 t4_0 t5_0 t6_0 t7_0 t8_0 t9_0 t10_0 t11_0 t12_0 t13_0) from Eq.trans (by rw [e178, F_NM_whole_J38.eq_1, if_pos c81, if_neg c83, if_pos c141]) hR74)
        have hS192 := (show True ∧ S_NM_whole_c114_3 x2 x3 x4 x5 t0_0 t0_1 t0_2 t1_0 t1_1 t1_2 t1_3 t1_4 t1_5 t1_6 t2_0 t3_0 t4_0 t5_0 t6_0 t7_0 t8_0 t9_0 t10_0 t11_0 t12_0 t13_0 lx56 p177 from (by rw [e178]; have h := hS75; rw [S_NM_whole_J38.eq_1] at h; rw [if_pos c81] at h; rw [if_neg c83] at h; rw [if_pos c141] at h; replace h := q_s2 h; with_reducible exact h))
        refine lv_goto (tgt := 223) hx hb d_14_20_117 (by decide) ?_
        refine lv_aload_n hx hb d_14_20_223 rfl (lv_at hl 0 rfl) ?_
        refine lv_aload_n hx hb d_14_20_224 rfl (lv_at hl 0 rfl) ?_
        refine q_get (ci := 12) (j := 5) (v := .ref (q 119)) C0 V i_NM rfl rfl hT0 (by decide) w_2303 rfl d_14_20_225 ?_
        refine q_getN (ci := 13) (j := 0) (v := .int y148) C0 V i_WR rfl rfl hO147 (by decide) wo_1922 rfl d_14_20_228 ?_
        refine q_put (ci := 12) (j := 0) (v := .int y148) (ty := .int) C0 V i_NM o_NM n_NM rfl rfl hT0 (by decide) w_2298 rfl rfl rfl rfl (Nat.le_of_ble_eq_true rfl) d_14_20_231 (fun H locs w196 hu197 hT0 V => ?_)
        replace hT0 : w196[116]? = (some (q 116, .inr (12, [.int y148, .ref (q 117), .int t0_1, .ref (q 118), .int t0_2, .ref (q 119), .ref (q 134), .ref (q 145), .ref (q 153), .ref (q 157), .ref (q 167), .ref (q 168)])) : Option (Nat × va_E)) := hT0
        replace hI := n_p116 hI hu197 hT0 (by first | with_reducible exact q_fe btt0_1 | exact ⟨(by have t1 : 0 ≤ t0_1.toInt ∧ t0_1.toInt ≤ 4100 := btt0_1; omega), (by have t1 : 0 ≤ t0_1.toInt ∧ t0_1.toInt ≤ 4100 := btt0_1; omega)⟩) (by first | with_reducible exact q_fe btt0_2 | exact ⟨(by have t1 : 0 ≤ t0_2.toInt ∧ t0_2.toInt ≤ 12200 := btt0_2; omega), (by have t1 : 0 ≤ t0_2.toInt ∧ t0_2.toInt ≤ 12200 := btt0_2; omega)⟩)
        replace hO147 := (hu197 _ (by decide)).trans hO147
        replace hA156 := (hu197 _ (by decide)).trans hA156
        replace hA158 := (hu197 _ (by decide)).trans hA158
        replace hA160 := (hu197 _ (by decide)).trans hA160
        replace hT5 := (hu197 _ (by decide)).trans hT5
        replace hT6 := (hu197 _ (by decide)).trans hT6
        replace hT7 := (hu197 _ (by decide)).trans hT7
        replace hT8 := (hu197 _ (by decide)).trans hT8
        replace hA162 := (hu197 _ (by decide)).trans hA162
        replace hA164 := (hu197 _ (by decide)).trans hA164
        replace hT11 := (hu197 _ (by decide)).trans hT11
        replace hT12 := (hu197 _ (by decide)).trans hT12
        replace hT13 := (hu197 _ (by decide)).trans hT13
        replace hF := q_us hF hu197 (by simp)
        exact q_retv C0 V (⟨hI, hF, y148, y148, y149, y150, y151, y152, y153, y154, f155, f157, f159, t5_0, t6_0, t7_0, t8_0, f161, f163, t11_0, t12_0, t13_0, hT0, hO147, hA156, hA158, hA160, hT5, hT6, hT7, hT8, hA162, hA164, hT11, hT12, hT13, (show 0 ≤ y151.toInt from (by first | with_reducible exact q_fe b165 | (have t1 : 0 ≤ y151.toInt := b165; omega))), (show y151.toInt ≤ 1 from (by first | with_reducible exact q_fe b166 | (have t1 : y151.toInt ≤ 1 := b166; omega))), (show 0 ≤ y152.toInt from (by have t1 : 0 ≤ t1_4.toInt ∧ t1_4.toInt ≤ 1 := btt1_4; have t2 : t1_4.toInt ≤ y152.toInt := b169; omega)), (show y152.toInt ≤ 1 from (by have t1 : 0 ≤ t1_4.toInt ∧ t1_4.toInt ≤ 1 := btt1_4; have t2 : y152.toInt ≤ t1_4.toInt := b170; omega)), (show 0 ≤ y153.toInt from (by have t1 : 0 ≤ t1_5.toInt ∧ t1_5.toInt ≤ 1 := btt1_5; have t2 : t1_5.toInt ≤ y153.toInt := b171; omega)), (show y153.toInt ≤ 1 from (by have t1 : 0 ≤ t1_5.toInt ∧ t1_5.toInt ≤ 1 := btt1_5; have t2 : y153.toInt ≤ t1_5.toInt := b172; omega)), (show t1_2.toInt ≤ y150.toInt from (by first | with_reducible exact q_fe b167 | (have t1 : t1_2.toInt ≤ y150.toInt := b167; omega))), (show y150.toInt ≤ t1_2.toInt from (by first | with_reducible exact q_fe b168 | (have t1 : y150.toInt ≤ t1_2.toInt := b168; omega))), (show t1_6.toInt ≤ y154.toInt from (by first | with_reducible exact q_fe b173 | (have t1 : t1_6.toInt ≤ y154.toInt := b173; omega))), (show y154.toInt ≤ t1_6.toInt from (by first | with_reducible exact q_fe b174 | (have t1 : y154.toInt ≤ t1_6.toInt := b174; omega))), (show (y148, y148, y149, y150, y151, y152, y153, y154, f155, f157, f159, t5_0, t6_0, t7_0, t8_0, f161, f163, t11_0, t12_0, t13_0) = (F_NM_whole x2 x3 x4 x5 t0_0 t0_1 t0_2 t1_0 t1_1 t1_2 t1_3 t1_4 t1_5 t1_6 t2_0 t3_0 t4_0 t5_0 t6_0 t7_0 t8_0 t9_0 t10_0 t11_0 t12_0 t13_0) from Eq.trans (by rw [e190, e189, e188, e187, e186, e185, e184, e183, e182, e181, e180, e179, F_NM_whole_c114_3.eq_1]) hR191)⟩) d_14_20_234
      by_cases c199 : x2 = 2
      ·
        refine q_ti (v := 2) c199 ?_
        refine lv_tableIn (tgt := 120) (off := 70) hx hb d_14_20_50 (by decide) (by decide) (by decide) (by decide) ?_
        refine lv_aload_n hx hb d_14_20_120 rfl (lv_at hl 0 rfl) ?_
        refine q_get (ci := 12) (j := 5) (v := .ref (q 119)) C0 V i_NM rfl rfl hT0 (by decide) w_2303 rfl d_14_20_121 ?_
        refine lv_iload_n hx hb d_14_20_124 rfl (lv_at hl 2 rfl) ?_
        refine lv_iload_n hx hb d_14_20_125 rfl (lv_at hl 3 rfl) ?_
        refine lv_iload hx hb d_14_20_126 (lv_at hl 4 rfl) ?_
        have ob201 : True ∧ S_WR_multiply x3 x4 x5 t1_0 t1_1 t1_2 t1_3 t1_4 t1_5 t1_6 t2_0 t3_0 t4_0 t6_0 t9_0 t10_0 := (by have h := hS75; rw [S_NM_whole_J38.eq_1] at h; rw [if_pos c81] at h; rw [if_neg c83] at h; rw [if_neg c141] at h; rw [if_pos c199] at h; with_reducible exact h.2.1)
        refine q_gov V (q_runV (As := [.int x3, .int x4, .int x5]) (rest := []) (d := 3) (mc := 0) (ms := 0) (ci := 13) C0 V rfl LV_NM_172 (X_WR_multiply l D g q w79  x3 x4 x5 hI t1_0 t1_1 t1_2 t1_3 t1_4 t1_5 t1_6 hT1 t2_0 hT2 t3_0 hT3 t4_0 hT4 t6_0 hT6 t9_0 hT9 t10_0 hT10 ob201 _) rfl rfl hT1 rfl hl.1 rfl (Nat.le_of_ble_eq_true rfl) ⟨by decide, by decide⟩ ⟨Nat.le_of_ble_eq_true rfl, Nat.le_of_ble_eq_true rfl⟩ d_14_20_128) (fun u202 H locs hp203 V => ?_)
        obtain ⟨hI, hZ9⟩ := hp203
        obtain ⟨hu235, hZ9⟩ := hZ9
        obtain ⟨y205, hZ9⟩ := hZ9
        obtain ⟨y206, hZ9⟩ := hZ9
        obtain ⟨y207, hZ9⟩ := hZ9
        obtain ⟨y208, hZ9⟩ := hZ9
        obtain ⟨y209, hZ9⟩ := hZ9
        obtain ⟨y210, hZ9⟩ := hZ9
        obtain ⟨y211, hZ9⟩ := hZ9
        obtain ⟨f212, hZ9⟩ := hZ9
        obtain ⟨f214, hZ9⟩ := hZ9
        obtain ⟨f216, hZ9⟩ := hZ9
        obtain ⟨f218, hZ9⟩ := hZ9
        obtain ⟨f220, hZ9⟩ := hZ9
        obtain ⟨f222, hZ9⟩ := hZ9
        obtain ⟨hO204, hZ9⟩ := hZ9
        obtain ⟨hA213, hZ9⟩ := hZ9
        obtain ⟨hA215, hZ9⟩ := hZ9
        obtain ⟨hA217, hZ9⟩ := hZ9
        obtain ⟨hA219, hZ9⟩ := hZ9
        obtain ⟨hA221, hZ9⟩ := hZ9
        obtain ⟨hA223, hZ9⟩ := hZ9
        obtain ⟨b224, hZ9⟩ := hZ9
        obtain ⟨b225, hZ9⟩ := hZ9
        obtain ⟨b226, hZ9⟩ := hZ9
        obtain ⟨b227, hZ9⟩ := hZ9
        obtain ⟨b228, hZ9⟩ := hZ9
        obtain ⟨b229, hZ9⟩ := hZ9
        obtain ⟨b230, hZ9⟩ := hZ9
        obtain ⟨b231, hZ9⟩ := hZ9
        obtain ⟨b232, hZ9⟩ := hZ9
        obtain ⟨b233, hE234⟩ := hZ9
        replace hO204 : u202[119]? = (some (q 119, .inr (13, [.int y205, .int y206, .ref (q 120), .int y207, .ref (q 121), .ref (q 122), .ref (q 123), .int y208, .ref (q 124), .ref (q 125), .ref (q 126), .ref (q 127), .ref (q 128), .ref (q 129), .ref (q 130), .ref (q 131), .int y209, .int y210, .ref (q 132), .ref (q 133), .int y211])) : Option (Nat × va_E)) := hO204
        replace hA213 : u202[121]? = (some (q 121, .inl (g 0, (1408 : Int32).toNatClampNeg, .inl f212)) : Option (Nat × va_E)) := hA213
        replace hA215 : u202[122]? = (some (q 122, .inl (g 3, 11, .inl f214)) : Option (Nat × va_E)) := hA215
        replace hA217 : u202[123]? = (some (q 123, .inl (g 0, (264 : Int32).toNatClampNeg, .inl f216)) : Option (Nat × va_E)) := hA217
        replace hA219 : u202[125]? = (some (q 125, .inl (g 0, (528 : Int32).toNatClampNeg, .inl f218)) : Option (Nat × va_E)) := hA219
        replace hA221 : u202[128]? = (some (q 128, .inl (g 0, (264 : Int32).toNatClampNeg, .inl f220)) : Option (Nat × va_E)) := hA221
        replace hA223 : u202[129]? = (some (q 129, .inl (g 0, (264 : Int32).toNatClampNeg, .inl f222)) : Option (Nat × va_E)) := hA223
        obtain ⟨p236, e237⟩ : ∃ z, z = (F_WR_multiply x3 x4 x5 t1_0 t1_1 t1_2 t1_3 t1_4 t1_5 t1_6 t2_0 t3_0 t4_0 t6_0 t9_0 t10_0) := ⟨_, rfl⟩
        have e238 : y205 = p236.1 := congrArg (fun z => z.1) (hE234.trans e237.symm)
        have e239 : y206 = p236.2.1 := congrArg (fun z => z.2.1) (hE234.trans e237.symm)
        have e240 : y207 = p236.2.2.1 := congrArg (fun z => z.2.2.1) (hE234.trans e237.symm)
        have e241 : y208 = p236.2.2.2.1 := congrArg (fun z => z.2.2.2.1) (hE234.trans e237.symm)
        have e242 : y209 = p236.2.2.2.2.1 := congrArg (fun z => z.2.2.2.2.1) (hE234.trans e237.symm)
        have e243 : y210 = p236.2.2.2.2.2.1 := congrArg (fun z => z.2.2.2.2.2.1) (hE234.trans e237.symm)
        have e244 : y211 = p236.2.2.2.2.2.2.1 := congrArg (fun z => z.2.2.2.2.2.2.1) (hE234.trans e237.symm)
        have e245 : f212 = p236.2.2.2.2.2.2.2.1 := congrArg (fun z => z.2.2.2.2.2.2.2.1) (hE234.trans e237.symm)
        have e246 : f214 = p236.2.2.2.2.2.2.2.2.1 := congrArg (fun z => z.2.2.2.2.2.2.2.2.1) (hE234.trans e237.symm)
        have e247 : f216 = p236.2.2.2.2.2.2.2.2.2.1 := congrArg (fun z => z.2.2.2.2.2.2.2.2.2.1) (hE234.trans e237.symm)
        have e248 : f218 = p236.2.2.2.2.2.2.2.2.2.2.1 := congrArg (fun z => z.2.2.2.2.2.2.2.2.2.2.1) (hE234.trans e237.symm)
        have e249 : f220 = p236.2.2.2.2.2.2.2.2.2.2.2.1 := congrArg (fun z => z.2.2.2.2.2.2.2.2.2.2.2.1) (hE234.trans e237.symm)
        have e250 : f222 = p236.2.2.2.2.2.2.2.2.2.2.2.2 := congrArg (fun z => z.2.2.2.2.2.2.2.2.2.2.2.2) (hE234.trans e237.symm)
        replace b224 : q_F (0 ≤ y208.toInt) := b224
        replace b225 : q_F (y208.toInt ≤ 1) := b225
        replace b226 : q_F (t1_2.toInt ≤ y207.toInt) := b226
        replace b227 : q_F (y207.toInt ≤ t1_2.toInt) := b227
        replace b228 : q_F (t1_4.toInt ≤ y209.toInt) := b228
        replace b229 : q_F (y209.toInt ≤ t1_4.toInt) := b229
        replace b230 : q_F (t1_5.toInt ≤ y210.toInt) := b230
        replace b231 : q_F (y210.toInt ≤ t1_5.toInt) := b231
        replace b232 : q_F (t1_6.toInt ≤ y211.toInt) := b232
        replace b233 : q_F (y211.toInt ≤ t1_6.toInt) := b233
        replace hT0 := (hu235 _ (by decide)).trans hT0
        replace hT5 := (hu235 _ (by decide)).trans hT5
        replace hT7 := (hu235 _ (by decide)).trans hT7
        replace hT8 := (hu235 _ (by decide)).trans hT8
        replace hT11 := (hu235 _ (by decide)).trans hT11
        replace hT12 := (hu235 _ (by decide)).trans hT12
        replace hT13 := (hu235 _ (by decide)).trans hT13
        replace hF := q_uc hF hu235 (by simp)
        have hR251 := (show F_NM_whole_c128 x2 x3 x4 x5 t0_0 t0_1 t0_2 t1_0 t1_1 t1_2 t1_3 t1_4 t1_5 t1_6 t2_0 t3_0 t4_0 t5_0 t6_0 t7_0 t8_0 t9_0 t10_0 t11_0 t12_0 t13_0 lx56 p236 = (F_NM_whole x2 x3 x4 x5 t0_0 t0_1 t0_2 t1_0 t1_1 t1_2 t1_3 t1_4 t1_5 t1_6 t2_0 t3_0 t4_0 t5_0 t6_0 t7_0 t8_0 t9_0 t10_0 t11_0 t12_0 t13_0) from Eq.trans (by rw [e237, F_NM_whole_J38.eq_1, if_pos c81, if_neg c83, if_neg c141, if_pos c199]) hR74)
        have hS252 := (show True ∧ S_NM_whole_c128 x2 x3 x4 x5 t0_0 t0_1 t0_2 t1_0 t1_1 t1_2 t1_3 t1_4 t1_5 t1_6 t2_0 t3_0 t4_0 t5_0 t6_0 t7_0 t8_0 t9_0 t10_0 t11_0 t12_0 t13_0 lx56 p236 from (by rw [e237]; have h := hS75; rw [S_NM_whole_J38.eq_1] at h; rw [if_pos c81] at h; rw [if_neg c83] at h; rw [if_neg c141] at h; rw [if_pos c199] at h; replace h := q_s2 h; with_reducible exact h))
        refine lv_goto (tgt := 223) hx hb d_14_20_131 (by decide) ?_
        refine lv_aload_n hx hb d_14_20_223 rfl (lv_at hl 0 rfl) ?_
        refine lv_aload_n hx hb d_14_20_224 rfl (lv_at hl 0 rfl) ?_
        refine q_get (ci := 12) (j := 5) (v := .ref (q 119)) C0 V i_NM rfl rfl hT0 (by decide) w_2303 rfl d_14_20_225 ?_
        refine q_getN (ci := 13) (j := 0) (v := .int y205) C0 V i_WR rfl rfl hO204 (by decide) wo_1922 rfl d_14_20_228 ?_
        refine q_put (ci := 12) (j := 0) (v := .int y205) (ty := .int) C0 V i_NM o_NM n_NM rfl rfl hT0 (by decide) w_2298 rfl rfl rfl rfl (Nat.le_of_ble_eq_true rfl) d_14_20_231 (fun H locs w256 hu257 hT0 V => ?_)
        replace hT0 : w256[116]? = (some (q 116, .inr (12, [.int y205, .ref (q 117), .int t0_1, .ref (q 118), .int t0_2, .ref (q 119), .ref (q 134), .ref (q 145), .ref (q 153), .ref (q 157), .ref (q 167), .ref (q 168)])) : Option (Nat × va_E)) := hT0
        replace hI := n_p116 hI hu257 hT0 (by first | with_reducible exact q_fe btt0_1 | exact ⟨(by have t1 : 0 ≤ t0_1.toInt ∧ t0_1.toInt ≤ 4100 := btt0_1; omega), (by have t1 : 0 ≤ t0_1.toInt ∧ t0_1.toInt ≤ 4100 := btt0_1; omega)⟩) (by first | with_reducible exact q_fe btt0_2 | exact ⟨(by have t1 : 0 ≤ t0_2.toInt ∧ t0_2.toInt ≤ 12200 := btt0_2; omega), (by have t1 : 0 ≤ t0_2.toInt ∧ t0_2.toInt ≤ 12200 := btt0_2; omega)⟩)
        replace hO204 := (hu257 _ (by decide)).trans hO204
        replace hA213 := (hu257 _ (by decide)).trans hA213
        replace hA215 := (hu257 _ (by decide)).trans hA215
        replace hA217 := (hu257 _ (by decide)).trans hA217
        replace hT5 := (hu257 _ (by decide)).trans hT5
        replace hA219 := (hu257 _ (by decide)).trans hA219
        replace hT7 := (hu257 _ (by decide)).trans hT7
        replace hT8 := (hu257 _ (by decide)).trans hT8
        replace hA221 := (hu257 _ (by decide)).trans hA221
        replace hA223 := (hu257 _ (by decide)).trans hA223
        replace hT11 := (hu257 _ (by decide)).trans hT11
        replace hT12 := (hu257 _ (by decide)).trans hT12
        replace hT13 := (hu257 _ (by decide)).trans hT13
        replace hF := q_us hF hu257 (by simp)
        exact q_retv C0 V (⟨hI, hF, y205, y205, y206, y207, y208, y209, y210, y211, f212, f214, f216, t5_0, f218, t7_0, t8_0, f220, f222, t11_0, t12_0, t13_0, hT0, hO204, hA213, hA215, hA217, hT5, hA219, hT7, hT8, hA221, hA223, hT11, hT12, hT13, (show 0 ≤ y208.toInt from (by first | with_reducible exact q_fe b224 | (have t1 : 0 ≤ y208.toInt := b224; omega))), (show y208.toInt ≤ 1 from (by first | with_reducible exact q_fe b225 | (have t1 : y208.toInt ≤ 1 := b225; omega))), (show 0 ≤ y209.toInt from (by have t1 : 0 ≤ t1_4.toInt ∧ t1_4.toInt ≤ 1 := btt1_4; have t2 : t1_4.toInt ≤ y209.toInt := b228; omega)), (show y209.toInt ≤ 1 from (by have t1 : 0 ≤ t1_4.toInt ∧ t1_4.toInt ≤ 1 := btt1_4; have t2 : y209.toInt ≤ t1_4.toInt := b229; omega)), (show 0 ≤ y210.toInt from (by have t1 : 0 ≤ t1_5.toInt ∧ t1_5.toInt ≤ 1 := btt1_5; have t2 : t1_5.toInt ≤ y210.toInt := b230; omega)), (show y210.toInt ≤ 1 from (by have t1 : 0 ≤ t1_5.toInt ∧ t1_5.toInt ≤ 1 := btt1_5; have t2 : y210.toInt ≤ t1_5.toInt := b231; omega)), (show t1_2.toInt ≤ y207.toInt from (by first | with_reducible exact q_fe b226 | (have t1 : t1_2.toInt ≤ y207.toInt := b226; omega))), (show y207.toInt ≤ t1_2.toInt from (by first | with_reducible exact q_fe b227 | (have t1 : y207.toInt ≤ t1_2.toInt := b227; omega))), (show t1_6.toInt ≤ y211.toInt from (by first | with_reducible exact q_fe b232 | (have t1 : t1_6.toInt ≤ y211.toInt := b232; omega))), (show y211.toInt ≤ t1_6.toInt from (by first | with_reducible exact q_fe b233 | (have t1 : y211.toInt ≤ t1_6.toInt := b233; omega))), (show (y205, y205, y206, y207, y208, y209, y210, y211, f212, f214, f216, t5_0, f218, t7_0, t8_0, f220, f222, t11_0, t12_0, t13_0) = (F_NM_whole x2 x3 x4 x5 t0_0 t0_1 t0_2 t1_0 t1_1 t1_2 t1_3 t1_4 t1_5 t1_6 t2_0 t3_0 t4_0 t5_0 t6_0 t7_0 t8_0 t9_0 t10_0 t11_0 t12_0 t13_0) from Eq.trans (by rw [e250, e249, e248, e247, e246, e245, e244, e243, e242, e241, e240, e239, e238, F_NM_whole_c128.eq_1]) hR251)⟩) d_14_20_234
      by_cases c259 : x2 = 3
      ·
        refine q_ti (v := 3) c259 ?_
        refine lv_tableIn (tgt := 134) (off := 84) hx hb d_14_20_50 (by decide) (by decide) (by decide) (by decide) ?_
        refine lv_aload_n hx hb d_14_20_134 rfl (lv_at hl 0 rfl) ?_
        refine q_get (ci := 12) (j := 5) (v := .ref (q 119)) C0 V i_NM rfl rfl hT0 (by decide) w_2303 rfl d_14_20_135 ?_
        refine lv_iload_n hx hb d_14_20_138 rfl (lv_at hl 2 rfl) ?_
        refine lv_iload_n hx hb d_14_20_139 rfl (lv_at hl 3 rfl) ?_
        refine lv_iload hx hb d_14_20_140 (lv_at hl 4 rfl) ?_
        refine lv_bipush (v := 10) hx hb d_14_20_142 (by decide) ?_
        have ob261 : True ∧ S_WR_divide x3 x4 x5 (10 : Int32) t1_0 t1_1 t1_2 t1_3 t1_4 t1_5 t1_6 t2_0 t3_0 t4_0 t7_0 t8_0 t9_0 t10_0 := (by have h := hS75; rw [S_NM_whole_J38.eq_1] at h; rw [if_pos c81] at h; rw [if_neg c83] at h; rw [if_neg c141] at h; rw [if_neg c199] at h; rw [if_pos c259] at h; with_reducible exact h.2.1)
        refine q_gov V (q_runV (As := [.int x3, .int x4, .int x5, .int 10]) (rest := []) (d := 3) (mc := 0) (ms := 0) (ci := 13) C0 V rfl LV_NM_176 (X_WR_divide l D g q w79  x3 x4 x5 10 hI t1_0 t1_1 t1_2 t1_3 t1_4 t1_5 t1_6 hT1 t2_0 hT2 t3_0 hT3 t4_0 hT4 t7_0 hT7 t8_0 hT8 t9_0 hT9 t10_0 hT10 ob261 _) rfl rfl hT1 rfl hl.1 rfl (Nat.le_of_ble_eq_true rfl) ⟨by decide, by decide⟩ ⟨Nat.le_of_ble_eq_true rfl, Nat.le_of_ble_eq_true rfl⟩ d_14_20_144) (fun u262 H locs hp263 V => ?_)
        obtain ⟨hI, hZ9⟩ := hp263
        obtain ⟨hu299, hZ9⟩ := hZ9
        obtain ⟨y265, hZ9⟩ := hZ9
        obtain ⟨y266, hZ9⟩ := hZ9
        obtain ⟨y267, hZ9⟩ := hZ9
        obtain ⟨y268, hZ9⟩ := hZ9
        obtain ⟨y269, hZ9⟩ := hZ9
        obtain ⟨y270, hZ9⟩ := hZ9
        obtain ⟨y271, hZ9⟩ := hZ9
        obtain ⟨f272, hZ9⟩ := hZ9
        obtain ⟨f274, hZ9⟩ := hZ9
        obtain ⟨f276, hZ9⟩ := hZ9
        obtain ⟨f278, hZ9⟩ := hZ9
        obtain ⟨f280, hZ9⟩ := hZ9
        obtain ⟨f282, hZ9⟩ := hZ9
        obtain ⟨f284, hZ9⟩ := hZ9
        obtain ⟨hO264, hZ9⟩ := hZ9
        obtain ⟨hA273, hZ9⟩ := hZ9
        obtain ⟨hA275, hZ9⟩ := hZ9
        obtain ⟨hA277, hZ9⟩ := hZ9
        obtain ⟨hA279, hZ9⟩ := hZ9
        obtain ⟨hA281, hZ9⟩ := hZ9
        obtain ⟨hA283, hZ9⟩ := hZ9
        obtain ⟨hA285, hZ9⟩ := hZ9
        obtain ⟨b286, hZ9⟩ := hZ9
        obtain ⟨b287, hZ9⟩ := hZ9
        replace hZ9 := hZ9.2.2
        obtain ⟨b290, hZ9⟩ := hZ9
        obtain ⟨b291, hZ9⟩ := hZ9
        obtain ⟨b292, hZ9⟩ := hZ9
        obtain ⟨b293, hZ9⟩ := hZ9
        obtain ⟨b294, hZ9⟩ := hZ9
        obtain ⟨b295, hZ9⟩ := hZ9
        obtain ⟨b296, hZ9⟩ := hZ9
        obtain ⟨b297, hE298⟩ := hZ9
        replace hO264 : u262[119]? = (some (q 119, .inr (13, [.int y265, .int y266, .ref (q 120), .int y267, .ref (q 121), .ref (q 122), .ref (q 123), .int y268, .ref (q 124), .ref (q 125), .ref (q 126), .ref (q 127), .ref (q 128), .ref (q 129), .ref (q 130), .ref (q 131), .int y269, .int y270, .ref (q 132), .ref (q 133), .int y271])) : Option (Nat × va_E)) := hO264
        replace hA273 : u262[121]? = (some (q 121, .inl (g 0, (1408 : Int32).toNatClampNeg, .inl f272)) : Option (Nat × va_E)) := hA273
        replace hA275 : u262[122]? = (some (q 122, .inl (g 3, 11, .inl f274)) : Option (Nat × va_E)) := hA275
        replace hA277 : u262[123]? = (some (q 123, .inl (g 0, (264 : Int32).toNatClampNeg, .inl f276)) : Option (Nat × va_E)) := hA277
        replace hA279 : u262[126]? = (some (q 126, .inl (g 0, (264 : Int32).toNatClampNeg, .inl f278)) : Option (Nat × va_E)) := hA279
        replace hA281 : u262[127]? = (some (q 127, .inl (g 0, (264 : Int32).toNatClampNeg, .inl f280)) : Option (Nat × va_E)) := hA281
        replace hA283 : u262[128]? = (some (q 128, .inl (g 0, (264 : Int32).toNatClampNeg, .inl f282)) : Option (Nat × va_E)) := hA283
        replace hA285 : u262[129]? = (some (q 129, .inl (g 0, (264 : Int32).toNatClampNeg, .inl f284)) : Option (Nat × va_E)) := hA285
        obtain ⟨p300, e301⟩ : ∃ z, z = (F_WR_divide x3 x4 x5 (10 : Int32) t1_0 t1_1 t1_2 t1_3 t1_4 t1_5 t1_6 t2_0 t3_0 t4_0 t7_0 t8_0 t9_0 t10_0) := ⟨_, rfl⟩
        have e302 : y265 = p300.1 := congrArg (fun z => z.1) (hE298.trans e301.symm)
        have e303 : y266 = p300.2.1 := congrArg (fun z => z.2.1) (hE298.trans e301.symm)
        have e304 : y267 = p300.2.2.1 := congrArg (fun z => z.2.2.1) (hE298.trans e301.symm)
        have e305 : y268 = p300.2.2.2.1 := congrArg (fun z => z.2.2.2.1) (hE298.trans e301.symm)
        have e306 : y269 = p300.2.2.2.2.1 := congrArg (fun z => z.2.2.2.2.1) (hE298.trans e301.symm)
        have e307 : y270 = p300.2.2.2.2.2.1 := congrArg (fun z => z.2.2.2.2.2.1) (hE298.trans e301.symm)
        have e308 : y271 = p300.2.2.2.2.2.2.1 := congrArg (fun z => z.2.2.2.2.2.2.1) (hE298.trans e301.symm)
        have e309 : f272 = p300.2.2.2.2.2.2.2.1 := congrArg (fun z => z.2.2.2.2.2.2.2.1) (hE298.trans e301.symm)
        have e310 : f274 = p300.2.2.2.2.2.2.2.2.1 := congrArg (fun z => z.2.2.2.2.2.2.2.2.1) (hE298.trans e301.symm)
        have e311 : f276 = p300.2.2.2.2.2.2.2.2.2.1 := congrArg (fun z => z.2.2.2.2.2.2.2.2.2.1) (hE298.trans e301.symm)
        have e312 : f278 = p300.2.2.2.2.2.2.2.2.2.2.1 := congrArg (fun z => z.2.2.2.2.2.2.2.2.2.2.1) (hE298.trans e301.symm)
        have e313 : f280 = p300.2.2.2.2.2.2.2.2.2.2.2.1 := congrArg (fun z => z.2.2.2.2.2.2.2.2.2.2.2.1) (hE298.trans e301.symm)
        have e314 : f282 = p300.2.2.2.2.2.2.2.2.2.2.2.2.1 := congrArg (fun z => z.2.2.2.2.2.2.2.2.2.2.2.2.1) (hE298.trans e301.symm)
        have e315 : f284 = p300.2.2.2.2.2.2.2.2.2.2.2.2.2 := congrArg (fun z => z.2.2.2.2.2.2.2.2.2.2.2.2.2) (hE298.trans e301.symm)
        replace b286 : q_F (0 ≤ y268.toInt) := b286
        replace b287 : q_F (y268.toInt ≤ 1) := b287
        replace b290 : q_F (t1_2.toInt ≤ y267.toInt) := b290
        replace b291 : q_F (y267.toInt ≤ t1_2.toInt) := b291
        replace b292 : q_F (t1_4.toInt ≤ y269.toInt) := b292
        replace b293 : q_F (y269.toInt ≤ t1_4.toInt) := b293
        replace b294 : q_F (t1_5.toInt ≤ y270.toInt) := b294
        replace b295 : q_F (y270.toInt ≤ t1_5.toInt) := b295
        replace b296 : q_F (t1_6.toInt ≤ y271.toInt) := b296
        replace b297 : q_F (y271.toInt ≤ t1_6.toInt) := b297
        replace hT0 := (hu299 _ (by decide)).trans hT0
        replace hT5 := (hu299 _ (by decide)).trans hT5
        replace hT6 := (hu299 _ (by decide)).trans hT6
        replace hT11 := (hu299 _ (by decide)).trans hT11
        replace hT12 := (hu299 _ (by decide)).trans hT12
        replace hT13 := (hu299 _ (by decide)).trans hT13
        replace hF := q_uc hF hu299 (by simp)
        have hR316 := (show F_NM_whole_c144 x2 x3 x4 x5 t0_0 t0_1 t0_2 t1_0 t1_1 t1_2 t1_3 t1_4 t1_5 t1_6 t2_0 t3_0 t4_0 t5_0 t6_0 t7_0 t8_0 t9_0 t10_0 t11_0 t12_0 t13_0 lx56 p300 = (F_NM_whole x2 x3 x4 x5 t0_0 t0_1 t0_2 t1_0 t1_1 t1_2 t1_3 t1_4 t1_5 t1_6 t2_0 t3_0 t4_0 t5_0 t6_0 t7_0 t8_0 t9_0 t10_0 t11_0 t12_0 t13_0) from Eq.trans (by rw [e301, F_NM_whole_J38.eq_1, if_pos c81, if_neg c83, if_neg c141, if_neg c199, if_pos c259]) hR74)
        have hS317 := (show True ∧ S_NM_whole_c144 x2 x3 x4 x5 t0_0 t0_1 t0_2 t1_0 t1_1 t1_2 t1_3 t1_4 t1_5 t1_6 t2_0 t3_0 t4_0 t5_0 t6_0 t7_0 t8_0 t9_0 t10_0 t11_0 t12_0 t13_0 lx56 p300 from (by rw [e301]; have h := hS75; rw [S_NM_whole_J38.eq_1] at h; rw [if_pos c81] at h; rw [if_neg c83] at h; rw [if_neg c141] at h; rw [if_neg c199] at h; rw [if_pos c259] at h; replace h := q_s2 h; with_reducible exact h))
        refine lv_goto (tgt := 223) hx hb d_14_20_147 (by decide) ?_
        refine lv_aload_n hx hb d_14_20_223 rfl (lv_at hl 0 rfl) ?_
        refine lv_aload_n hx hb d_14_20_224 rfl (lv_at hl 0 rfl) ?_
        refine q_get (ci := 12) (j := 5) (v := .ref (q 119)) C0 V i_NM rfl rfl hT0 (by decide) w_2303 rfl d_14_20_225 ?_
        refine q_getN (ci := 13) (j := 0) (v := .int y265) C0 V i_WR rfl rfl hO264 (by decide) wo_1922 rfl d_14_20_228 ?_
        refine q_put (ci := 12) (j := 0) (v := .int y265) (ty := .int) C0 V i_NM o_NM n_NM rfl rfl hT0 (by decide) w_2298 rfl rfl rfl rfl (Nat.le_of_ble_eq_true rfl) d_14_20_231 (fun H locs w321 hu322 hT0 V => ?_)
        replace hT0 : w321[116]? = (some (q 116, .inr (12, [.int y265, .ref (q 117), .int t0_1, .ref (q 118), .int t0_2, .ref (q 119), .ref (q 134), .ref (q 145), .ref (q 153), .ref (q 157), .ref (q 167), .ref (q 168)])) : Option (Nat × va_E)) := hT0
        replace hI := n_p116 hI hu322 hT0 (by first | with_reducible exact q_fe btt0_1 | exact ⟨(by have t1 : 0 ≤ t0_1.toInt ∧ t0_1.toInt ≤ 4100 := btt0_1; omega), (by have t1 : 0 ≤ t0_1.toInt ∧ t0_1.toInt ≤ 4100 := btt0_1; omega)⟩) (by first | with_reducible exact q_fe btt0_2 | exact ⟨(by have t1 : 0 ≤ t0_2.toInt ∧ t0_2.toInt ≤ 12200 := btt0_2; omega), (by have t1 : 0 ≤ t0_2.toInt ∧ t0_2.toInt ≤ 12200 := btt0_2; omega)⟩)
        replace hO264 := (hu322 _ (by decide)).trans hO264
        replace hA273 := (hu322 _ (by decide)).trans hA273
        replace hA275 := (hu322 _ (by decide)).trans hA275
        replace hA277 := (hu322 _ (by decide)).trans hA277
        replace hT5 := (hu322 _ (by decide)).trans hT5
        replace hT6 := (hu322 _ (by decide)).trans hT6
        replace hA279 := (hu322 _ (by decide)).trans hA279
        replace hA281 := (hu322 _ (by decide)).trans hA281
        replace hA283 := (hu322 _ (by decide)).trans hA283
        replace hA285 := (hu322 _ (by decide)).trans hA285
        replace hT11 := (hu322 _ (by decide)).trans hT11
        replace hT12 := (hu322 _ (by decide)).trans hT12
        replace hT13 := (hu322 _ (by decide)).trans hT13
        replace hF := q_us hF hu322 (by simp)
        exact q_retv C0 V (⟨hI, hF, y265, y265, y266, y267, y268, y269, y270, y271, f272, f274, f276, t5_0, t6_0, f278, f280, f282, f284, t11_0, t12_0, t13_0, hT0, hO264, hA273, hA275, hA277, hT5, hT6, hA279, hA281, hA283, hA285, hT11, hT12, hT13, (show 0 ≤ y268.toInt from (by first | with_reducible exact q_fe b286 | (have t1 : 0 ≤ y268.toInt := b286; omega))), (show y268.toInt ≤ 1 from (by first | with_reducible exact q_fe b287 | (have t1 : y268.toInt ≤ 1 := b287; omega))), (show 0 ≤ y269.toInt from (by have t1 : 0 ≤ t1_4.toInt ∧ t1_4.toInt ≤ 1 := btt1_4; have t2 : t1_4.toInt ≤ y269.toInt := b292; omega)), (show y269.toInt ≤ 1 from (by have t1 : 0 ≤ t1_4.toInt ∧ t1_4.toInt ≤ 1 := btt1_4; have t2 : y269.toInt ≤ t1_4.toInt := b293; omega)), (show 0 ≤ y270.toInt from (by have t1 : 0 ≤ t1_5.toInt ∧ t1_5.toInt ≤ 1 := btt1_5; have t2 : t1_5.toInt ≤ y270.toInt := b294; omega)), (show y270.toInt ≤ 1 from (by have t1 : 0 ≤ t1_5.toInt ∧ t1_5.toInt ≤ 1 := btt1_5; have t2 : y270.toInt ≤ t1_5.toInt := b295; omega)), (show t1_2.toInt ≤ y267.toInt from (by first | with_reducible exact q_fe b290 | (have t1 : t1_2.toInt ≤ y267.toInt := b290; omega))), (show y267.toInt ≤ t1_2.toInt from (by first | with_reducible exact q_fe b291 | (have t1 : y267.toInt ≤ t1_2.toInt := b291; omega))), (show t1_6.toInt ≤ y271.toInt from (by first | with_reducible exact q_fe b296 | (have t1 : t1_6.toInt ≤ y271.toInt := b296; omega))), (show y271.toInt ≤ t1_6.toInt from (by first | with_reducible exact q_fe b297 | (have t1 : y271.toInt ≤ t1_6.toInt := b297; omega))), (show (y265, y265, y266, y267, y268, y269, y270, y271, f272, f274, f276, t5_0, t6_0, f278, f280, f282, f284, t11_0, t12_0, t13_0) = (F_NM_whole x2 x3 x4 x5 t0_0 t0_1 t0_2 t1_0 t1_1 t1_2 t1_3 t1_4 t1_5 t1_6 t2_0 t3_0 t4_0 t5_0 t6_0 t7_0 t8_0 t9_0 t10_0 t11_0 t12_0 t13_0) from Eq.trans (by rw [e315, e314, e313, e312, e311, e310, e309, e308, e307, e306, e305, e304, e303, e302, F_NM_whole_c144.eq_1]) hR316)⟩) d_14_20_234
      by_cases c324 : x2 = 4
      ·
        refine q_ti (v := 4) c324 ?_
        refine lv_tableIn (tgt := 150) (off := 100) hx hb d_14_20_50 (by decide) (by decide) (by decide) (by decide) ?_
        refine lv_aload_n hx hb d_14_20_150 rfl (lv_at hl 0 rfl) ?_
        refine q_get (ci := 12) (j := 5) (v := .ref (q 119)) C0 V i_NM rfl rfl hT0 (by decide) w_2303 rfl d_14_20_151 ?_
        refine lv_iload_n hx hb d_14_20_154 rfl (lv_at hl 2 rfl) ?_
        refine lv_iload_n hx hb d_14_20_155 rfl (lv_at hl 3 rfl) ?_
        refine lv_bipush (v := 10) hx hb d_14_20_156 (by decide) ?_
        refine lv_iload hx hb d_14_20_158 (lv_at hl 4 rfl) ?_
        have ob326 : True ∧ S_WR_divide x3 x4 (10 : Int32) x5 t1_0 t1_1 t1_2 t1_3 t1_4 t1_5 t1_6 t2_0 t3_0 t4_0 t7_0 t8_0 t9_0 t10_0 := (by have h := hS75; rw [S_NM_whole_J38.eq_1] at h; rw [if_pos c81] at h; rw [if_neg c83] at h; rw [if_neg c141] at h; rw [if_neg c199] at h; rw [if_neg c259] at h; rw [if_pos c324] at h; with_reducible exact h.2.1)
        refine q_gov V (q_runV (As := [.int x3, .int x4, .int 10, .int x5]) (rest := []) (d := 3) (mc := 0) (ms := 0) (ci := 13) C0 V rfl LV_NM_176 (X_WR_divide l D g q w79  x3 x4 10 x5 hI t1_0 t1_1 t1_2 t1_3 t1_4 t1_5 t1_6 hT1 t2_0 hT2 t3_0 hT3 t4_0 hT4 t7_0 hT7 t8_0 hT8 t9_0 hT9 t10_0 hT10 ob326 _) rfl rfl hT1 rfl hl.1 rfl (Nat.le_of_ble_eq_true rfl) ⟨by decide, by decide⟩ ⟨Nat.le_of_ble_eq_true rfl, Nat.le_of_ble_eq_true rfl⟩ d_14_20_160) (fun u327 H locs hp328 V => ?_)
        obtain ⟨hI, hZ9⟩ := hp328
        obtain ⟨hu364, hZ9⟩ := hZ9
        obtain ⟨y330, hZ9⟩ := hZ9
        obtain ⟨y331, hZ9⟩ := hZ9
        obtain ⟨y332, hZ9⟩ := hZ9
        obtain ⟨y333, hZ9⟩ := hZ9
        obtain ⟨y334, hZ9⟩ := hZ9
        obtain ⟨y335, hZ9⟩ := hZ9
        obtain ⟨y336, hZ9⟩ := hZ9
        obtain ⟨f337, hZ9⟩ := hZ9
        obtain ⟨f339, hZ9⟩ := hZ9
        obtain ⟨f341, hZ9⟩ := hZ9
        obtain ⟨f343, hZ9⟩ := hZ9
        obtain ⟨f345, hZ9⟩ := hZ9
        obtain ⟨f347, hZ9⟩ := hZ9
        obtain ⟨f349, hZ9⟩ := hZ9
        obtain ⟨hO329, hZ9⟩ := hZ9
        obtain ⟨hA338, hZ9⟩ := hZ9
        obtain ⟨hA340, hZ9⟩ := hZ9
        obtain ⟨hA342, hZ9⟩ := hZ9
        obtain ⟨hA344, hZ9⟩ := hZ9
        obtain ⟨hA346, hZ9⟩ := hZ9
        obtain ⟨hA348, hZ9⟩ := hZ9
        obtain ⟨hA350, hZ9⟩ := hZ9
        obtain ⟨b351, hZ9⟩ := hZ9
        obtain ⟨b352, hZ9⟩ := hZ9
        replace hZ9 := hZ9.2.2
        obtain ⟨b355, hZ9⟩ := hZ9
        obtain ⟨b356, hZ9⟩ := hZ9
        obtain ⟨b357, hZ9⟩ := hZ9
        obtain ⟨b358, hZ9⟩ := hZ9
        obtain ⟨b359, hZ9⟩ := hZ9
        obtain ⟨b360, hZ9⟩ := hZ9
        obtain ⟨b361, hZ9⟩ := hZ9
        obtain ⟨b362, hE363⟩ := hZ9
        replace hO329 : u327[119]? = (some (q 119, .inr (13, [.int y330, .int y331, .ref (q 120), .int y332, .ref (q 121), .ref (q 122), .ref (q 123), .int y333, .ref (q 124), .ref (q 125), .ref (q 126), .ref (q 127), .ref (q 128), .ref (q 129), .ref (q 130), .ref (q 131), .int y334, .int y335, .ref (q 132), .ref (q 133), .int y336])) : Option (Nat × va_E)) := hO329
        replace hA338 : u327[121]? = (some (q 121, .inl (g 0, (1408 : Int32).toNatClampNeg, .inl f337)) : Option (Nat × va_E)) := hA338
        replace hA340 : u327[122]? = (some (q 122, .inl (g 3, 11, .inl f339)) : Option (Nat × va_E)) := hA340
        replace hA342 : u327[123]? = (some (q 123, .inl (g 0, (264 : Int32).toNatClampNeg, .inl f341)) : Option (Nat × va_E)) := hA342
        replace hA344 : u327[126]? = (some (q 126, .inl (g 0, (264 : Int32).toNatClampNeg, .inl f343)) : Option (Nat × va_E)) := hA344
        replace hA346 : u327[127]? = (some (q 127, .inl (g 0, (264 : Int32).toNatClampNeg, .inl f345)) : Option (Nat × va_E)) := hA346
        replace hA348 : u327[128]? = (some (q 128, .inl (g 0, (264 : Int32).toNatClampNeg, .inl f347)) : Option (Nat × va_E)) := hA348
        replace hA350 : u327[129]? = (some (q 129, .inl (g 0, (264 : Int32).toNatClampNeg, .inl f349)) : Option (Nat × va_E)) := hA350
        obtain ⟨p365, e366⟩ : ∃ z, z = (F_WR_divide x3 x4 (10 : Int32) x5 t1_0 t1_1 t1_2 t1_3 t1_4 t1_5 t1_6 t2_0 t3_0 t4_0 t7_0 t8_0 t9_0 t10_0) := ⟨_, rfl⟩
        have e367 : y330 = p365.1 := congrArg (fun z => z.1) (hE363.trans e366.symm)
        have e368 : y331 = p365.2.1 := congrArg (fun z => z.2.1) (hE363.trans e366.symm)
        have e369 : y332 = p365.2.2.1 := congrArg (fun z => z.2.2.1) (hE363.trans e366.symm)
        have e370 : y333 = p365.2.2.2.1 := congrArg (fun z => z.2.2.2.1) (hE363.trans e366.symm)
        have e371 : y334 = p365.2.2.2.2.1 := congrArg (fun z => z.2.2.2.2.1) (hE363.trans e366.symm)
        have e372 : y335 = p365.2.2.2.2.2.1 := congrArg (fun z => z.2.2.2.2.2.1) (hE363.trans e366.symm)
        have e373 : y336 = p365.2.2.2.2.2.2.1 := congrArg (fun z => z.2.2.2.2.2.2.1) (hE363.trans e366.symm)
        have e374 : f337 = p365.2.2.2.2.2.2.2.1 := congrArg (fun z => z.2.2.2.2.2.2.2.1) (hE363.trans e366.symm)
        have e375 : f339 = p365.2.2.2.2.2.2.2.2.1 := congrArg (fun z => z.2.2.2.2.2.2.2.2.1) (hE363.trans e366.symm)
        have e376 : f341 = p365.2.2.2.2.2.2.2.2.2.1 := congrArg (fun z => z.2.2.2.2.2.2.2.2.2.1) (hE363.trans e366.symm)
        have e377 : f343 = p365.2.2.2.2.2.2.2.2.2.2.1 := congrArg (fun z => z.2.2.2.2.2.2.2.2.2.2.1) (hE363.trans e366.symm)
        have e378 : f345 = p365.2.2.2.2.2.2.2.2.2.2.2.1 := congrArg (fun z => z.2.2.2.2.2.2.2.2.2.2.2.1) (hE363.trans e366.symm)
        have e379 : f347 = p365.2.2.2.2.2.2.2.2.2.2.2.2.1 := congrArg (fun z => z.2.2.2.2.2.2.2.2.2.2.2.2.1) (hE363.trans e366.symm)
        have e380 : f349 = p365.2.2.2.2.2.2.2.2.2.2.2.2.2 := congrArg (fun z => z.2.2.2.2.2.2.2.2.2.2.2.2.2) (hE363.trans e366.symm)
        replace b351 : q_F (0 ≤ y333.toInt) := b351
        replace b352 : q_F (y333.toInt ≤ 1) := b352
        replace b355 : q_F (t1_2.toInt ≤ y332.toInt) := b355
        replace b356 : q_F (y332.toInt ≤ t1_2.toInt) := b356
        replace b357 : q_F (t1_4.toInt ≤ y334.toInt) := b357
        replace b358 : q_F (y334.toInt ≤ t1_4.toInt) := b358
        replace b359 : q_F (t1_5.toInt ≤ y335.toInt) := b359
        replace b360 : q_F (y335.toInt ≤ t1_5.toInt) := b360
        replace b361 : q_F (t1_6.toInt ≤ y336.toInt) := b361
        replace b362 : q_F (y336.toInt ≤ t1_6.toInt) := b362
        replace hT0 := (hu364 _ (by decide)).trans hT0
        replace hT5 := (hu364 _ (by decide)).trans hT5
        replace hT6 := (hu364 _ (by decide)).trans hT6
        replace hT11 := (hu364 _ (by decide)).trans hT11
        replace hT12 := (hu364 _ (by decide)).trans hT12
        replace hT13 := (hu364 _ (by decide)).trans hT13
        replace hF := q_uc hF hu364 (by simp)
        have hR381 := (show F_NM_whole_c160 x2 x3 x4 x5 t0_0 t0_1 t0_2 t1_0 t1_1 t1_2 t1_3 t1_4 t1_5 t1_6 t2_0 t3_0 t4_0 t5_0 t6_0 t7_0 t8_0 t9_0 t10_0 t11_0 t12_0 t13_0 lx56 p365 = (F_NM_whole x2 x3 x4 x5 t0_0 t0_1 t0_2 t1_0 t1_1 t1_2 t1_3 t1_4 t1_5 t1_6 t2_0 t3_0 t4_0 t5_0 t6_0 t7_0 t8_0 t9_0 t10_0 t11_0 t12_0 t13_0) from Eq.trans (by rw [e366, F_NM_whole_J38.eq_1, if_pos c81, if_neg c83, if_neg c141, if_neg c199, if_neg c259, if_pos c324]) hR74)
        have hS382 := (show True ∧ S_NM_whole_c160 x2 x3 x4 x5 t0_0 t0_1 t0_2 t1_0 t1_1 t1_2 t1_3 t1_4 t1_5 t1_6 t2_0 t3_0 t4_0 t5_0 t6_0 t7_0 t8_0 t9_0 t10_0 t11_0 t12_0 t13_0 lx56 p365 from (by rw [e366]; have h := hS75; rw [S_NM_whole_J38.eq_1] at h; rw [if_pos c81] at h; rw [if_neg c83] at h; rw [if_neg c141] at h; rw [if_neg c199] at h; rw [if_neg c259] at h; rw [if_pos c324] at h; replace h := q_s2 h; with_reducible exact h))
        refine lv_goto (tgt := 223) hx hb d_14_20_163 (by decide) ?_
        refine lv_aload_n hx hb d_14_20_223 rfl (lv_at hl 0 rfl) ?_
        refine lv_aload_n hx hb d_14_20_224 rfl (lv_at hl 0 rfl) ?_
        refine q_get (ci := 12) (j := 5) (v := .ref (q 119)) C0 V i_NM rfl rfl hT0 (by decide) w_2303 rfl d_14_20_225 ?_
        refine q_getN (ci := 13) (j := 0) (v := .int y330) C0 V i_WR rfl rfl hO329 (by decide) wo_1922 rfl d_14_20_228 ?_
        refine q_put (ci := 12) (j := 0) (v := .int y330) (ty := .int) C0 V i_NM o_NM n_NM rfl rfl hT0 (by decide) w_2298 rfl rfl rfl rfl (Nat.le_of_ble_eq_true rfl) d_14_20_231 (fun H locs w386 hu387 hT0 V => ?_)
        replace hT0 : w386[116]? = (some (q 116, .inr (12, [.int y330, .ref (q 117), .int t0_1, .ref (q 118), .int t0_2, .ref (q 119), .ref (q 134), .ref (q 145), .ref (q 153), .ref (q 157), .ref (q 167), .ref (q 168)])) : Option (Nat × va_E)) := hT0
        replace hI := n_p116 hI hu387 hT0 (by first | with_reducible exact q_fe btt0_1 | exact ⟨(by have t1 : 0 ≤ t0_1.toInt ∧ t0_1.toInt ≤ 4100 := btt0_1; omega), (by have t1 : 0 ≤ t0_1.toInt ∧ t0_1.toInt ≤ 4100 := btt0_1; omega)⟩) (by first | with_reducible exact q_fe btt0_2 | exact ⟨(by have t1 : 0 ≤ t0_2.toInt ∧ t0_2.toInt ≤ 12200 := btt0_2; omega), (by have t1 : 0 ≤ t0_2.toInt ∧ t0_2.toInt ≤ 12200 := btt0_2; omega)⟩)
        replace hO329 := (hu387 _ (by decide)).trans hO329
        replace hA338 := (hu387 _ (by decide)).trans hA338
        replace hA340 := (hu387 _ (by decide)).trans hA340
        replace hA342 := (hu387 _ (by decide)).trans hA342
        replace hT5 := (hu387 _ (by decide)).trans hT5
        replace hT6 := (hu387 _ (by decide)).trans hT6
        replace hA344 := (hu387 _ (by decide)).trans hA344
        replace hA346 := (hu387 _ (by decide)).trans hA346
        replace hA348 := (hu387 _ (by decide)).trans hA348
        replace hA350 := (hu387 _ (by decide)).trans hA350
        replace hT11 := (hu387 _ (by decide)).trans hT11
        replace hT12 := (hu387 _ (by decide)).trans hT12
        replace hT13 := (hu387 _ (by decide)).trans hT13
        replace hF := q_us hF hu387 (by simp)
        exact q_retv C0 V (⟨hI, hF, y330, y330, y331, y332, y333, y334, y335, y336, f337, f339, f341, t5_0, t6_0, f343, f345, f347, f349, t11_0, t12_0, t13_0, hT0, hO329, hA338, hA340, hA342, hT5, hT6, hA344, hA346, hA348, hA350, hT11, hT12, hT13, (show 0 ≤ y333.toInt from (by first | with_reducible exact q_fe b351 | (have t1 : 0 ≤ y333.toInt := b351; omega))), (show y333.toInt ≤ 1 from (by first | with_reducible exact q_fe b352 | (have t1 : y333.toInt ≤ 1 := b352; omega))), (show 0 ≤ y334.toInt from (by have t1 : 0 ≤ t1_4.toInt ∧ t1_4.toInt ≤ 1 := btt1_4; have t2 : t1_4.toInt ≤ y334.toInt := b357; omega)), (show y334.toInt ≤ 1 from (by have t1 : 0 ≤ t1_4.toInt ∧ t1_4.toInt ≤ 1 := btt1_4; have t2 : y334.toInt ≤ t1_4.toInt := b358; omega)), (show 0 ≤ y335.toInt from (by have t1 : 0 ≤ t1_5.toInt ∧ t1_5.toInt ≤ 1 := btt1_5; have t2 : t1_5.toInt ≤ y335.toInt := b359; omega)), (show y335.toInt ≤ 1 from (by have t1 : 0 ≤ t1_5.toInt ∧ t1_5.toInt ≤ 1 := btt1_5; have t2 : y335.toInt ≤ t1_5.toInt := b360; omega)), (show t1_2.toInt ≤ y332.toInt from (by first | with_reducible exact q_fe b355 | (have t1 : t1_2.toInt ≤ y332.toInt := b355; omega))), (show y332.toInt ≤ t1_2.toInt from (by first | with_reducible exact q_fe b356 | (have t1 : y332.toInt ≤ t1_2.toInt := b356; omega))), (show t1_6.toInt ≤ y336.toInt from (by first | with_reducible exact q_fe b361 | (have t1 : t1_6.toInt ≤ y336.toInt := b361; omega))), (show y336.toInt ≤ t1_6.toInt from (by first | with_reducible exact q_fe b362 | (have t1 : y336.toInt ≤ t1_6.toInt := b362; omega))), (show (y330, y330, y331, y332, y333, y334, y335, y336, f337, f339, f341, t5_0, t6_0, f343, f345, f347, f349, t11_0, t12_0, t13_0) = (F_NM_whole x2 x3 x4 x5 t0_0 t0_1 t0_2 t1_0 t1_1 t1_2 t1_3 t1_4 t1_5 t1_6 t2_0 t3_0 t4_0 t5_0 t6_0 t7_0 t8_0 t9_0 t10_0 t11_0 t12_0 t13_0) from Eq.trans (by rw [e380, e379, e378, e377, e376, e375, e374, e373, e372, e371, e370, e369, e368, e367, F_NM_whole_c160.eq_1]) hR381)⟩) d_14_20_234
      by_cases c389 : x2 = 5
      ·
        refine q_ti (v := 5) c389 ?_
        refine lv_tableIn (tgt := 166) (off := 116) hx hb d_14_20_50 (by decide) (by decide) (by decide) (by decide) ?_
        refine lv_aload_n hx hb d_14_20_166 rfl (lv_at hl 0 rfl) ?_
        refine q_get (ci := 12) (j := 5) (v := .ref (q 119)) C0 V i_NM rfl rfl hT0 (by decide) w_2303 rfl d_14_20_167 ?_
        refine lv_iload_n hx hb d_14_20_170 rfl (lv_at hl 2 rfl) ?_
        refine lv_iload_n hx hb d_14_20_171 rfl (lv_at hl 3 rfl) ?_
        refine lv_iload hx hb d_14_20_172 (lv_at hl 4 rfl) ?_
        have ob391 : True ∧ S_WR_modulo x3 x4 x5 t1_0 t1_1 t1_2 t1_3 t1_4 t1_5 t1_6 t2_0 t3_0 t4_0 t7_0 t8_0 t9_0 t13_0 := (by have h := hS75; rw [S_NM_whole_J38.eq_1] at h; rw [if_pos c81] at h; rw [if_neg c83] at h; rw [if_neg c141] at h; rw [if_neg c199] at h; rw [if_neg c259] at h; rw [if_neg c324] at h; rw [if_pos c389] at h; with_reducible exact h.2.1)
        refine q_gov V (q_runV (As := [.int x3, .int x4, .int x5]) (rest := []) (d := 4) (mc := 0) (ms := 0) (ci := 13) C0 V rfl LV_NM_180 (X_WR_modulo l D g q w79  x3 x4 x5 hI t1_0 t1_1 t1_2 t1_3 t1_4 t1_5 t1_6 hT1 t2_0 hT2 t3_0 hT3 t4_0 hT4 t7_0 hT7 t8_0 hT8 t9_0 hT9 t13_0 hT13 ob391 _) rfl rfl hT1 rfl hl.1 rfl (Nat.le_of_ble_eq_true rfl) ⟨by decide, by decide⟩ ⟨Nat.le_of_ble_eq_true rfl, Nat.le_of_ble_eq_true rfl⟩ d_14_20_174) (fun u392 H locs hp393 V => ?_)
        obtain ⟨hI, hZ9⟩ := hp393
        obtain ⟨hu429, hZ9⟩ := hZ9
        obtain ⟨y395, hZ9⟩ := hZ9
        obtain ⟨y396, hZ9⟩ := hZ9
        obtain ⟨y397, hZ9⟩ := hZ9
        obtain ⟨y398, hZ9⟩ := hZ9
        obtain ⟨y399, hZ9⟩ := hZ9
        obtain ⟨y400, hZ9⟩ := hZ9
        obtain ⟨y401, hZ9⟩ := hZ9
        obtain ⟨f402, hZ9⟩ := hZ9
        obtain ⟨f404, hZ9⟩ := hZ9
        obtain ⟨f406, hZ9⟩ := hZ9
        obtain ⟨f408, hZ9⟩ := hZ9
        obtain ⟨f410, hZ9⟩ := hZ9
        obtain ⟨f412, hZ9⟩ := hZ9
        obtain ⟨f414, hZ9⟩ := hZ9
        obtain ⟨hO394, hZ9⟩ := hZ9
        obtain ⟨hA403, hZ9⟩ := hZ9
        obtain ⟨hA405, hZ9⟩ := hZ9
        obtain ⟨hA407, hZ9⟩ := hZ9
        obtain ⟨hA409, hZ9⟩ := hZ9
        obtain ⟨hA411, hZ9⟩ := hZ9
        obtain ⟨hA413, hZ9⟩ := hZ9
        obtain ⟨hA415, hZ9⟩ := hZ9
        obtain ⟨b416, hZ9⟩ := hZ9
        replace hZ9 := hZ9.2.2
        obtain ⟨b419, hZ9⟩ := hZ9
        obtain ⟨b420, hZ9⟩ := hZ9
        obtain ⟨b421, hZ9⟩ := hZ9
        obtain ⟨b422, hZ9⟩ := hZ9
        obtain ⟨b423, hZ9⟩ := hZ9
        obtain ⟨b424, hZ9⟩ := hZ9
        obtain ⟨b425, hZ9⟩ := hZ9
        obtain ⟨b426, hZ9⟩ := hZ9
        obtain ⟨b427, hE428⟩ := hZ9
        replace hO394 : u392[119]? = (some (q 119, .inr (13, [.int y395, .int y396, .ref (q 120), .int y397, .ref (q 121), .ref (q 122), .ref (q 123), .int y398, .ref (q 124), .ref (q 125), .ref (q 126), .ref (q 127), .ref (q 128), .ref (q 129), .ref (q 130), .ref (q 131), .int y399, .int y400, .ref (q 132), .ref (q 133), .int y401])) : Option (Nat × va_E)) := hO394
        replace hA403 : u392[121]? = (some (q 121, .inl (g 0, (1408 : Int32).toNatClampNeg, .inl f402)) : Option (Nat × va_E)) := hA403
        replace hA405 : u392[122]? = (some (q 122, .inl (g 3, 11, .inl f404)) : Option (Nat × va_E)) := hA405
        replace hA407 : u392[123]? = (some (q 123, .inl (g 0, (264 : Int32).toNatClampNeg, .inl f406)) : Option (Nat × va_E)) := hA407
        replace hA409 : u392[126]? = (some (q 126, .inl (g 0, (264 : Int32).toNatClampNeg, .inl f408)) : Option (Nat × va_E)) := hA409
        replace hA411 : u392[127]? = (some (q 127, .inl (g 0, (264 : Int32).toNatClampNeg, .inl f410)) : Option (Nat × va_E)) := hA411
        replace hA413 : u392[128]? = (some (q 128, .inl (g 0, (264 : Int32).toNatClampNeg, .inl f412)) : Option (Nat × va_E)) := hA413
        replace hA415 : u392[132]? = (some (q 132, .inl (g 0, (264 : Int32).toNatClampNeg, .inl f414)) : Option (Nat × va_E)) := hA415
        obtain ⟨p430, e431⟩ : ∃ z, z = (F_WR_modulo x3 x4 x5 t1_0 t1_1 t1_2 t1_3 t1_4 t1_5 t1_6 t2_0 t3_0 t4_0 t7_0 t8_0 t9_0 t13_0) := ⟨_, rfl⟩
        have e432 : y395 = p430.1 := congrArg (fun z => z.1) (hE428.trans e431.symm)
        have e433 : y396 = p430.2.1 := congrArg (fun z => z.2.1) (hE428.trans e431.symm)
        have e434 : y397 = p430.2.2.1 := congrArg (fun z => z.2.2.1) (hE428.trans e431.symm)
        have e435 : y398 = p430.2.2.2.1 := congrArg (fun z => z.2.2.2.1) (hE428.trans e431.symm)
        have e436 : y399 = p430.2.2.2.2.1 := congrArg (fun z => z.2.2.2.2.1) (hE428.trans e431.symm)
        have e437 : y400 = p430.2.2.2.2.2.1 := congrArg (fun z => z.2.2.2.2.2.1) (hE428.trans e431.symm)
        have e438 : y401 = p430.2.2.2.2.2.2.1 := congrArg (fun z => z.2.2.2.2.2.2.1) (hE428.trans e431.symm)
        have e439 : f402 = p430.2.2.2.2.2.2.2.1 := congrArg (fun z => z.2.2.2.2.2.2.2.1) (hE428.trans e431.symm)
        have e440 : f404 = p430.2.2.2.2.2.2.2.2.1 := congrArg (fun z => z.2.2.2.2.2.2.2.2.1) (hE428.trans e431.symm)
        have e441 : f406 = p430.2.2.2.2.2.2.2.2.2.1 := congrArg (fun z => z.2.2.2.2.2.2.2.2.2.1) (hE428.trans e431.symm)
        have e442 : f408 = p430.2.2.2.2.2.2.2.2.2.2.1 := congrArg (fun z => z.2.2.2.2.2.2.2.2.2.2.1) (hE428.trans e431.symm)
        have e443 : f410 = p430.2.2.2.2.2.2.2.2.2.2.2.1 := congrArg (fun z => z.2.2.2.2.2.2.2.2.2.2.2.1) (hE428.trans e431.symm)
        have e444 : f412 = p430.2.2.2.2.2.2.2.2.2.2.2.2.1 := congrArg (fun z => z.2.2.2.2.2.2.2.2.2.2.2.2.1) (hE428.trans e431.symm)
        have e445 : f414 = p430.2.2.2.2.2.2.2.2.2.2.2.2.2 := congrArg (fun z => z.2.2.2.2.2.2.2.2.2.2.2.2.2) (hE428.trans e431.symm)
        replace b416 : q_F (0 ≤ y398.toInt) := b416
        replace b419 : q_F (t1_2.toInt ≤ y397.toInt) := b419
        replace b420 : q_F (y397.toInt ≤ t1_2.toInt) := b420
        replace b421 : q_F (y398.toInt ≤ t1_3.toInt) := b421
        replace b422 : q_F (t1_4.toInt ≤ y399.toInt) := b422
        replace b423 : q_F (y399.toInt ≤ t1_4.toInt) := b423
        replace b424 : q_F (t1_5.toInt ≤ y400.toInt) := b424
        replace b425 : q_F (y400.toInt ≤ t1_5.toInt) := b425
        replace b426 : q_F (t1_6.toInt ≤ y401.toInt) := b426
        replace b427 : q_F (y401.toInt ≤ t1_6.toInt) := b427
        replace hT0 := (hu429 _ (by decide)).trans hT0
        replace hT5 := (hu429 _ (by decide)).trans hT5
        replace hT6 := (hu429 _ (by decide)).trans hT6
        replace hT10 := (hu429 _ (by decide)).trans hT10
        replace hT11 := (hu429 _ (by decide)).trans hT11
        replace hT12 := (hu429 _ (by decide)).trans hT12
        replace hF := q_uc hF hu429 (by simp)
        have hR446 := (show F_NM_whole_c174 x2 x3 x4 x5 t0_0 t0_1 t0_2 t1_0 t1_1 t1_2 t1_3 t1_4 t1_5 t1_6 t2_0 t3_0 t4_0 t5_0 t6_0 t7_0 t8_0 t9_0 t10_0 t11_0 t12_0 t13_0 lx56 p430 = (F_NM_whole x2 x3 x4 x5 t0_0 t0_1 t0_2 t1_0 t1_1 t1_2 t1_3 t1_4 t1_5 t1_6 t2_0 t3_0 t4_0 t5_0 t6_0 t7_0 t8_0 t9_0 t10_0 t11_0 t12_0 t13_0) from Eq.trans (by rw [e431, F_NM_whole_J38.eq_1, if_pos c81, if_neg c83, if_neg c141, if_neg c199, if_neg c259, if_neg c324, if_pos c389]) hR74)
        have hS447 := (show True ∧ S_NM_whole_c174 x2 x3 x4 x5 t0_0 t0_1 t0_2 t1_0 t1_1 t1_2 t1_3 t1_4 t1_5 t1_6 t2_0 t3_0 t4_0 t5_0 t6_0 t7_0 t8_0 t9_0 t10_0 t11_0 t12_0 t13_0 lx56 p430 from (by rw [e431]; have h := hS75; rw [S_NM_whole_J38.eq_1] at h; rw [if_pos c81] at h; rw [if_neg c83] at h; rw [if_neg c141] at h; rw [if_neg c199] at h; rw [if_neg c259] at h; rw [if_neg c324] at h; rw [if_pos c389] at h; replace h := q_s2 h; with_reducible exact h))
        refine lv_goto (tgt := 223) hx hb d_14_20_177 (by decide) ?_
        refine lv_aload_n hx hb d_14_20_223 rfl (lv_at hl 0 rfl) ?_
        refine lv_aload_n hx hb d_14_20_224 rfl (lv_at hl 0 rfl) ?_
        refine q_get (ci := 12) (j := 5) (v := .ref (q 119)) C0 V i_NM rfl rfl hT0 (by decide) w_2303 rfl d_14_20_225 ?_
        refine q_getN (ci := 13) (j := 0) (v := .int y395) C0 V i_WR rfl rfl hO394 (by decide) wo_1922 rfl d_14_20_228 ?_
        refine q_put (ci := 12) (j := 0) (v := .int y395) (ty := .int) C0 V i_NM o_NM n_NM rfl rfl hT0 (by decide) w_2298 rfl rfl rfl rfl (Nat.le_of_ble_eq_true rfl) d_14_20_231 (fun H locs w451 hu452 hT0 V => ?_)
        replace hT0 : w451[116]? = (some (q 116, .inr (12, [.int y395, .ref (q 117), .int t0_1, .ref (q 118), .int t0_2, .ref (q 119), .ref (q 134), .ref (q 145), .ref (q 153), .ref (q 157), .ref (q 167), .ref (q 168)])) : Option (Nat × va_E)) := hT0
        replace hI := n_p116 hI hu452 hT0 (by first | with_reducible exact q_fe btt0_1 | exact ⟨(by have t1 : 0 ≤ t0_1.toInt ∧ t0_1.toInt ≤ 4100 := btt0_1; omega), (by have t1 : 0 ≤ t0_1.toInt ∧ t0_1.toInt ≤ 4100 := btt0_1; omega)⟩) (by first | with_reducible exact q_fe btt0_2 | exact ⟨(by have t1 : 0 ≤ t0_2.toInt ∧ t0_2.toInt ≤ 12200 := btt0_2; omega), (by have t1 : 0 ≤ t0_2.toInt ∧ t0_2.toInt ≤ 12200 := btt0_2; omega)⟩)
        replace hO394 := (hu452 _ (by decide)).trans hO394
        replace hA403 := (hu452 _ (by decide)).trans hA403
        replace hA405 := (hu452 _ (by decide)).trans hA405
        replace hA407 := (hu452 _ (by decide)).trans hA407
        replace hT5 := (hu452 _ (by decide)).trans hT5
        replace hT6 := (hu452 _ (by decide)).trans hT6
        replace hA409 := (hu452 _ (by decide)).trans hA409
        replace hA411 := (hu452 _ (by decide)).trans hA411
        replace hA413 := (hu452 _ (by decide)).trans hA413
        replace hT10 := (hu452 _ (by decide)).trans hT10
        replace hT11 := (hu452 _ (by decide)).trans hT11
        replace hT12 := (hu452 _ (by decide)).trans hT12
        replace hA415 := (hu452 _ (by decide)).trans hA415
        replace hF := q_us hF hu452 (by simp)
        exact q_retv C0 V (⟨hI, hF, y395, y395, y396, y397, y398, y399, y400, y401, f402, f404, f406, t5_0, t6_0, f408, f410, f412, t10_0, t11_0, t12_0, f414, hT0, hO394, hA403, hA405, hA407, hT5, hT6, hA409, hA411, hA413, hT10, hT11, hT12, hA415, (show 0 ≤ y398.toInt from (by first | with_reducible exact q_fe b416 | (have t1 : 0 ≤ y398.toInt := b416; omega))), (show y398.toInt ≤ 1 from (by have t1 : 0 ≤ t1_3.toInt ∧ t1_3.toInt ≤ 1 := btt1_3; have t2 : y398.toInt ≤ t1_3.toInt := b421; omega)), (show 0 ≤ y399.toInt from (by have t1 : 0 ≤ t1_4.toInt ∧ t1_4.toInt ≤ 1 := btt1_4; have t2 : t1_4.toInt ≤ y399.toInt := b422; omega)), (show y399.toInt ≤ 1 from (by have t1 : 0 ≤ t1_4.toInt ∧ t1_4.toInt ≤ 1 := btt1_4; have t2 : y399.toInt ≤ t1_4.toInt := b423; omega)), (show 0 ≤ y400.toInt from (by have t1 : 0 ≤ t1_5.toInt ∧ t1_5.toInt ≤ 1 := btt1_5; have t2 : t1_5.toInt ≤ y400.toInt := b424; omega)), (show y400.toInt ≤ 1 from (by have t1 : 0 ≤ t1_5.toInt ∧ t1_5.toInt ≤ 1 := btt1_5; have t2 : y400.toInt ≤ t1_5.toInt := b425; omega)), (show t1_2.toInt ≤ y397.toInt from (by first | with_reducible exact q_fe b419 | (have t1 : t1_2.toInt ≤ y397.toInt := b419; omega))), (show y397.toInt ≤ t1_2.toInt from (by first | with_reducible exact q_fe b420 | (have t1 : y397.toInt ≤ t1_2.toInt := b420; omega))), (show t1_6.toInt ≤ y401.toInt from (by first | with_reducible exact q_fe b426 | (have t1 : t1_6.toInt ≤ y401.toInt := b426; omega))), (show y401.toInt ≤ t1_6.toInt from (by first | with_reducible exact q_fe b427 | (have t1 : y401.toInt ≤ t1_6.toInt := b427; omega))), (show (y395, y395, y396, y397, y398, y399, y400, y401, f402, f404, f406, t5_0, t6_0, f408, f410, f412, t10_0, t11_0, t12_0, f414) = (F_NM_whole x2 x3 x4 x5 t0_0 t0_1 t0_2 t1_0 t1_1 t1_2 t1_3 t1_4 t1_5 t1_6 t2_0 t3_0 t4_0 t5_0 t6_0 t7_0 t8_0 t9_0 t10_0 t11_0 t12_0 t13_0) from Eq.trans (by rw [e445, e444, e443, e442, e441, e440, e439, e438, e437, e436, e435, e434, e433, e432, F_NM_whole_c174.eq_1]) hR446)⟩) d_14_20_234
      by_cases c454 : x2 = 6
      ·
        refine q_ti (v := 6) c454 ?_
        refine lv_tableIn (tgt := 180) (off := 130) hx hb d_14_20_50 (by decide) (by decide) (by decide) (by decide) ?_
        refine lv_aload_n hx hb d_14_20_180 rfl (lv_at hl 0 rfl) ?_
        refine q_get (ci := 12) (j := 5) (v := .ref (q 119)) C0 V i_NM rfl rfl hT0 (by decide) w_2303 rfl d_14_20_181 ?_
        refine lv_iload_n hx hb d_14_20_184 rfl (lv_at hl 2 rfl) ?_
        refine lv_iload_n hx hb d_14_20_185 rfl (lv_at hl 3 rfl) ?_
        refine lv_iload hx hb d_14_20_186 (lv_at hl 4 rfl) ?_
        have ob456 : True ∧ S_WR_common x3 x4 x5 t1_0 t1_1 t1_2 t1_3 t1_4 t1_5 t1_6 t2_0 t3_0 t4_0 t7_0 t8_0 t9_0 t10_0 := (by have h := hS75; rw [S_NM_whole_J38.eq_1] at h; rw [if_pos c81] at h; rw [if_neg c83] at h; rw [if_neg c141] at h; rw [if_neg c199] at h; rw [if_neg c259] at h; rw [if_neg c324] at h; rw [if_neg c389] at h; rw [if_pos c454] at h; with_reducible exact h.2.1)
        refine q_gov V (q_runV (As := [.int x3, .int x4, .int x5]) (rest := []) (d := 3) (mc := 0) (ms := 0) (ci := 13) C0 V rfl LV_NM_183 (X_WR_common l D g q w79  x3 x4 x5 hI t1_0 t1_1 t1_2 t1_3 t1_4 t1_5 t1_6 hT1 t2_0 hT2 t3_0 hT3 t4_0 hT4 t7_0 hT7 t8_0 hT8 t9_0 hT9 t10_0 hT10 ob456 _) rfl rfl hT1 rfl hl.1 rfl (Nat.le_of_ble_eq_true rfl) ⟨by decide, by decide⟩ ⟨Nat.le_of_ble_eq_true rfl, Nat.le_of_ble_eq_true rfl⟩ d_14_20_188) (fun u457 H locs hp458 V => ?_)
        obtain ⟨hI, hZ9⟩ := hp458
        obtain ⟨hu494, hZ9⟩ := hZ9
        obtain ⟨y460, hZ9⟩ := hZ9
        obtain ⟨y461, hZ9⟩ := hZ9
        obtain ⟨y462, hZ9⟩ := hZ9
        obtain ⟨y463, hZ9⟩ := hZ9
        obtain ⟨y464, hZ9⟩ := hZ9
        obtain ⟨y465, hZ9⟩ := hZ9
        obtain ⟨y466, hZ9⟩ := hZ9
        obtain ⟨f467, hZ9⟩ := hZ9
        obtain ⟨f469, hZ9⟩ := hZ9
        obtain ⟨f471, hZ9⟩ := hZ9
        obtain ⟨f473, hZ9⟩ := hZ9
        obtain ⟨f475, hZ9⟩ := hZ9
        obtain ⟨f477, hZ9⟩ := hZ9
        obtain ⟨f479, hZ9⟩ := hZ9
        obtain ⟨hO459, hZ9⟩ := hZ9
        obtain ⟨hA468, hZ9⟩ := hZ9
        obtain ⟨hA470, hZ9⟩ := hZ9
        obtain ⟨hA472, hZ9⟩ := hZ9
        obtain ⟨hA474, hZ9⟩ := hZ9
        obtain ⟨hA476, hZ9⟩ := hZ9
        obtain ⟨hA478, hZ9⟩ := hZ9
        obtain ⟨hA480, hZ9⟩ := hZ9
        obtain ⟨b481, hZ9⟩ := hZ9
        replace hZ9 := hZ9.2.2
        obtain ⟨b484, hZ9⟩ := hZ9
        obtain ⟨b485, hZ9⟩ := hZ9
        obtain ⟨b486, hZ9⟩ := hZ9
        obtain ⟨b487, hZ9⟩ := hZ9
        obtain ⟨b488, hZ9⟩ := hZ9
        obtain ⟨b489, hZ9⟩ := hZ9
        obtain ⟨b490, hZ9⟩ := hZ9
        obtain ⟨b491, hZ9⟩ := hZ9
        obtain ⟨b492, hE493⟩ := hZ9
        replace hO459 : u457[119]? = (some (q 119, .inr (13, [.int y460, .int y461, .ref (q 120), .int y462, .ref (q 121), .ref (q 122), .ref (q 123), .int y463, .ref (q 124), .ref (q 125), .ref (q 126), .ref (q 127), .ref (q 128), .ref (q 129), .ref (q 130), .ref (q 131), .int y464, .int y465, .ref (q 132), .ref (q 133), .int y466])) : Option (Nat × va_E)) := hO459
        replace hA468 : u457[121]? = (some (q 121, .inl (g 0, (1408 : Int32).toNatClampNeg, .inl f467)) : Option (Nat × va_E)) := hA468
        replace hA470 : u457[122]? = (some (q 122, .inl (g 3, 11, .inl f469)) : Option (Nat × va_E)) := hA470
        replace hA472 : u457[123]? = (some (q 123, .inl (g 0, (264 : Int32).toNatClampNeg, .inl f471)) : Option (Nat × va_E)) := hA472
        replace hA474 : u457[126]? = (some (q 126, .inl (g 0, (264 : Int32).toNatClampNeg, .inl f473)) : Option (Nat × va_E)) := hA474
        replace hA476 : u457[127]? = (some (q 127, .inl (g 0, (264 : Int32).toNatClampNeg, .inl f475)) : Option (Nat × va_E)) := hA476
        replace hA478 : u457[128]? = (some (q 128, .inl (g 0, (264 : Int32).toNatClampNeg, .inl f477)) : Option (Nat × va_E)) := hA478
        replace hA480 : u457[129]? = (some (q 129, .inl (g 0, (264 : Int32).toNatClampNeg, .inl f479)) : Option (Nat × va_E)) := hA480
        obtain ⟨p495, e496⟩ : ∃ z, z = (F_WR_common x3 x4 x5 t1_0 t1_1 t1_2 t1_3 t1_4 t1_5 t1_6 t2_0 t3_0 t4_0 t7_0 t8_0 t9_0 t10_0) := ⟨_, rfl⟩
        have e497 : y460 = p495.1 := congrArg (fun z => z.1) (hE493.trans e496.symm)
        have e498 : y461 = p495.2.1 := congrArg (fun z => z.2.1) (hE493.trans e496.symm)
        have e499 : y462 = p495.2.2.1 := congrArg (fun z => z.2.2.1) (hE493.trans e496.symm)
        have e500 : y463 = p495.2.2.2.1 := congrArg (fun z => z.2.2.2.1) (hE493.trans e496.symm)
        have e501 : y464 = p495.2.2.2.2.1 := congrArg (fun z => z.2.2.2.2.1) (hE493.trans e496.symm)
        have e502 : y465 = p495.2.2.2.2.2.1 := congrArg (fun z => z.2.2.2.2.2.1) (hE493.trans e496.symm)
        have e503 : y466 = p495.2.2.2.2.2.2.1 := congrArg (fun z => z.2.2.2.2.2.2.1) (hE493.trans e496.symm)
        have e504 : f467 = p495.2.2.2.2.2.2.2.1 := congrArg (fun z => z.2.2.2.2.2.2.2.1) (hE493.trans e496.symm)
        have e505 : f469 = p495.2.2.2.2.2.2.2.2.1 := congrArg (fun z => z.2.2.2.2.2.2.2.2.1) (hE493.trans e496.symm)
        have e506 : f471 = p495.2.2.2.2.2.2.2.2.2.1 := congrArg (fun z => z.2.2.2.2.2.2.2.2.2.1) (hE493.trans e496.symm)
        have e507 : f473 = p495.2.2.2.2.2.2.2.2.2.2.1 := congrArg (fun z => z.2.2.2.2.2.2.2.2.2.2.1) (hE493.trans e496.symm)
        have e508 : f475 = p495.2.2.2.2.2.2.2.2.2.2.2.1 := congrArg (fun z => z.2.2.2.2.2.2.2.2.2.2.2.1) (hE493.trans e496.symm)
        have e509 : f477 = p495.2.2.2.2.2.2.2.2.2.2.2.2.1 := congrArg (fun z => z.2.2.2.2.2.2.2.2.2.2.2.2.1) (hE493.trans e496.symm)
        have e510 : f479 = p495.2.2.2.2.2.2.2.2.2.2.2.2.2 := congrArg (fun z => z.2.2.2.2.2.2.2.2.2.2.2.2.2) (hE493.trans e496.symm)
        replace b481 : q_F (0 ≤ y463.toInt) := b481
        replace b484 : q_F (t1_2.toInt ≤ y462.toInt) := b484
        replace b485 : q_F (y462.toInt ≤ t1_2.toInt) := b485
        replace b486 : q_F (y463.toInt ≤ t1_3.toInt) := b486
        replace b487 : q_F (t1_4.toInt ≤ y464.toInt) := b487
        replace b488 : q_F (y464.toInt ≤ t1_4.toInt) := b488
        replace b489 : q_F (t1_5.toInt ≤ y465.toInt) := b489
        replace b490 : q_F (y465.toInt ≤ t1_5.toInt) := b490
        replace b491 : q_F (t1_6.toInt ≤ y466.toInt) := b491
        replace b492 : q_F (y466.toInt ≤ t1_6.toInt) := b492
        replace hT0 := (hu494 _ (by decide)).trans hT0
        replace hT5 := (hu494 _ (by decide)).trans hT5
        replace hT6 := (hu494 _ (by decide)).trans hT6
        replace hT11 := (hu494 _ (by decide)).trans hT11
        replace hT12 := (hu494 _ (by decide)).trans hT12
        replace hT13 := (hu494 _ (by decide)).trans hT13
        replace hF := q_uc hF hu494 (by simp)
        have hR511 := (show F_NM_whole_c188 x2 x3 x4 x5 t0_0 t0_1 t0_2 t1_0 t1_1 t1_2 t1_3 t1_4 t1_5 t1_6 t2_0 t3_0 t4_0 t5_0 t6_0 t7_0 t8_0 t9_0 t10_0 t11_0 t12_0 t13_0 lx56 p495 = (F_NM_whole x2 x3 x4 x5 t0_0 t0_1 t0_2 t1_0 t1_1 t1_2 t1_3 t1_4 t1_5 t1_6 t2_0 t3_0 t4_0 t5_0 t6_0 t7_0 t8_0 t9_0 t10_0 t11_0 t12_0 t13_0) from Eq.trans (by rw [e496, F_NM_whole_J38.eq_1, if_pos c81, if_neg c83, if_neg c141, if_neg c199, if_neg c259, if_neg c324, if_neg c389, if_pos c454]) hR74)
        have hS512 := (show True ∧ S_NM_whole_c188 x2 x3 x4 x5 t0_0 t0_1 t0_2 t1_0 t1_1 t1_2 t1_3 t1_4 t1_5 t1_6 t2_0 t3_0 t4_0 t5_0 t6_0 t7_0 t8_0 t9_0 t10_0 t11_0 t12_0 t13_0 lx56 p495 from (by rw [e496]; have h := hS75; rw [S_NM_whole_J38.eq_1] at h; rw [if_pos c81] at h; rw [if_neg c83] at h; rw [if_neg c141] at h; rw [if_neg c199] at h; rw [if_neg c259] at h; rw [if_neg c324] at h; rw [if_neg c389] at h; rw [if_pos c454] at h; replace h := q_s2 h; with_reducible exact h))
        refine lv_goto (tgt := 223) hx hb d_14_20_191 (by decide) ?_
        refine lv_aload_n hx hb d_14_20_223 rfl (lv_at hl 0 rfl) ?_
        refine lv_aload_n hx hb d_14_20_224 rfl (lv_at hl 0 rfl) ?_
        refine q_get (ci := 12) (j := 5) (v := .ref (q 119)) C0 V i_NM rfl rfl hT0 (by decide) w_2303 rfl d_14_20_225 ?_
        refine q_getN (ci := 13) (j := 0) (v := .int y460) C0 V i_WR rfl rfl hO459 (by decide) wo_1922 rfl d_14_20_228 ?_
        refine q_put (ci := 12) (j := 0) (v := .int y460) (ty := .int) C0 V i_NM o_NM n_NM rfl rfl hT0 (by decide) w_2298 rfl rfl rfl rfl (Nat.le_of_ble_eq_true rfl) d_14_20_231 (fun H locs w516 hu517 hT0 V => ?_)
        replace hT0 : w516[116]? = (some (q 116, .inr (12, [.int y460, .ref (q 117), .int t0_1, .ref (q 118), .int t0_2, .ref (q 119), .ref (q 134), .ref (q 145), .ref (q 153), .ref (q 157), .ref (q 167), .ref (q 168)])) : Option (Nat × va_E)) := hT0
        replace hI := n_p116 hI hu517 hT0 (by first | with_reducible exact q_fe btt0_1 | exact ⟨(by have t1 : 0 ≤ t0_1.toInt ∧ t0_1.toInt ≤ 4100 := btt0_1; omega), (by have t1 : 0 ≤ t0_1.toInt ∧ t0_1.toInt ≤ 4100 := btt0_1; omega)⟩) (by first | with_reducible exact q_fe btt0_2 | exact ⟨(by have t1 : 0 ≤ t0_2.toInt ∧ t0_2.toInt ≤ 12200 := btt0_2; omega), (by have t1 : 0 ≤ t0_2.toInt ∧ t0_2.toInt ≤ 12200 := btt0_2; omega)⟩)
        replace hO459 := (hu517 _ (by decide)).trans hO459
        replace hA468 := (hu517 _ (by decide)).trans hA468
        replace hA470 := (hu517 _ (by decide)).trans hA470
        replace hA472 := (hu517 _ (by decide)).trans hA472
        replace hT5 := (hu517 _ (by decide)).trans hT5
        replace hT6 := (hu517 _ (by decide)).trans hT6
        replace hA474 := (hu517 _ (by decide)).trans hA474
        replace hA476 := (hu517 _ (by decide)).trans hA476
        replace hA478 := (hu517 _ (by decide)).trans hA478
        replace hA480 := (hu517 _ (by decide)).trans hA480
        replace hT11 := (hu517 _ (by decide)).trans hT11
        replace hT12 := (hu517 _ (by decide)).trans hT12
        replace hT13 := (hu517 _ (by decide)).trans hT13
        replace hF := q_us hF hu517 (by simp)
        exact q_retv C0 V (⟨hI, hF, y460, y460, y461, y462, y463, y464, y465, y466, f467, f469, f471, t5_0, t6_0, f473, f475, f477, f479, t11_0, t12_0, t13_0, hT0, hO459, hA468, hA470, hA472, hT5, hT6, hA474, hA476, hA478, hA480, hT11, hT12, hT13, (show 0 ≤ y463.toInt from (by first | with_reducible exact q_fe b481 | (have t1 : 0 ≤ y463.toInt := b481; omega))), (show y463.toInt ≤ 1 from (by have t1 : 0 ≤ t1_3.toInt ∧ t1_3.toInt ≤ 1 := btt1_3; have t2 : y463.toInt ≤ t1_3.toInt := b486; omega)), (show 0 ≤ y464.toInt from (by have t1 : 0 ≤ t1_4.toInt ∧ t1_4.toInt ≤ 1 := btt1_4; have t2 : t1_4.toInt ≤ y464.toInt := b487; omega)), (show y464.toInt ≤ 1 from (by have t1 : 0 ≤ t1_4.toInt ∧ t1_4.toInt ≤ 1 := btt1_4; have t2 : y464.toInt ≤ t1_4.toInt := b488; omega)), (show 0 ≤ y465.toInt from (by have t1 : 0 ≤ t1_5.toInt ∧ t1_5.toInt ≤ 1 := btt1_5; have t2 : t1_5.toInt ≤ y465.toInt := b489; omega)), (show y465.toInt ≤ 1 from (by have t1 : 0 ≤ t1_5.toInt ∧ t1_5.toInt ≤ 1 := btt1_5; have t2 : y465.toInt ≤ t1_5.toInt := b490; omega)), (show t1_2.toInt ≤ y462.toInt from (by first | with_reducible exact q_fe b484 | (have t1 : t1_2.toInt ≤ y462.toInt := b484; omega))), (show y462.toInt ≤ t1_2.toInt from (by first | with_reducible exact q_fe b485 | (have t1 : y462.toInt ≤ t1_2.toInt := b485; omega))), (show t1_6.toInt ≤ y466.toInt from (by first | with_reducible exact q_fe b491 | (have t1 : t1_6.toInt ≤ y466.toInt := b491; omega))), (show y466.toInt ≤ t1_6.toInt from (by first | with_reducible exact q_fe b492 | (have t1 : y466.toInt ≤ t1_6.toInt := b492; omega))), (show (y460, y460, y461, y462, y463, y464, y465, y466, f467, f469, f471, t5_0, t6_0, f473, f475, f477, f479, t11_0, t12_0, t13_0) = (F_NM_whole x2 x3 x4 x5 t0_0 t0_1 t0_2 t1_0 t1_1 t1_2 t1_3 t1_4 t1_5 t1_6 t2_0 t3_0 t4_0 t5_0 t6_0 t7_0 t8_0 t9_0 t10_0 t11_0 t12_0 t13_0) from Eq.trans (by rw [e510, e509, e508, e507, e506, e505, e504, e503, e502, e501, e500, e499, e498, e497, F_NM_whole_c188.eq_1]) hR511)⟩) d_14_20_234
      by_cases c519 : x2 = 7
      ·
        refine q_ti (v := 7) c519 ?_
        refine lv_tableIn (tgt := 194) (off := 144) hx hb d_14_20_50 (by decide) (by decide) (by decide) (by decide) ?_
        refine lv_aload_n hx hb d_14_20_194 rfl (lv_at hl 0 rfl) ?_
        refine q_get (ci := 12) (j := 5) (v := .ref (q 119)) C0 V i_NM rfl rfl hT0 (by decide) w_2303 rfl d_14_20_195 ?_
        refine lv_iload_n hx hb d_14_20_198 rfl (lv_at hl 2 rfl) ?_
        refine lv_iload_n hx hb d_14_20_199 rfl (lv_at hl 3 rfl) ?_
        refine lv_iload hx hb d_14_20_200 (lv_at hl 4 rfl) ?_
        have ob521 : True ∧ S_WR_inverse x3 x4 x5 t1_0 t1_1 t1_2 t1_3 t1_4 t1_5 t1_6 t2_0 t3_0 t4_0 t5_0 t6_0 t7_0 t8_0 t9_0 t10_0 t11_0 t12_0 t13_0 := (by have h := hS75; rw [S_NM_whole_J38.eq_1] at h; rw [if_pos c81] at h; rw [if_neg c83] at h; rw [if_neg c141] at h; rw [if_neg c199] at h; rw [if_neg c259] at h; rw [if_neg c324] at h; rw [if_neg c389] at h; rw [if_neg c454] at h; rw [if_pos c519] at h; with_reducible exact h.2.1)
        refine q_gov V (q_runV (As := [.int x3, .int x4, .int x5]) (rest := []) (d := 4) (mc := 0) (ms := 0) (ci := 13) C0 V rfl LV_NM_186 (X_WR_inverse l D g q w79  x3 x4 x5 hI t1_0 t1_1 t1_2 t1_3 t1_4 t1_5 t1_6 hT1 t2_0 hT2 t3_0 hT3 t4_0 hT4 t5_0 hT5 t6_0 hT6 t7_0 hT7 t8_0 hT8 t9_0 hT9 t10_0 hT10 t11_0 hT11 t12_0 hT12 t13_0 hT13 ob521 _) rfl rfl hT1 rfl hl.1 rfl (Nat.le_of_ble_eq_true rfl) ⟨by decide, by decide⟩ ⟨Nat.le_of_ble_eq_true rfl, Nat.le_of_ble_eq_true rfl⟩ d_14_20_202) (fun u522 H locs hp523 V => ?_)
        obtain ⟨hI, hZ9⟩ := hp523
        obtain ⟨hu569, hZ9⟩ := hZ9
        obtain ⟨y525, hZ9⟩ := hZ9
        obtain ⟨y526, hZ9⟩ := hZ9
        obtain ⟨y527, hZ9⟩ := hZ9
        obtain ⟨y528, hZ9⟩ := hZ9
        obtain ⟨y529, hZ9⟩ := hZ9
        obtain ⟨y530, hZ9⟩ := hZ9
        obtain ⟨y531, hZ9⟩ := hZ9
        obtain ⟨f532, hZ9⟩ := hZ9
        obtain ⟨f534, hZ9⟩ := hZ9
        obtain ⟨f536, hZ9⟩ := hZ9
        obtain ⟨f538, hZ9⟩ := hZ9
        obtain ⟨f540, hZ9⟩ := hZ9
        obtain ⟨f542, hZ9⟩ := hZ9
        obtain ⟨f544, hZ9⟩ := hZ9
        obtain ⟨f546, hZ9⟩ := hZ9
        obtain ⟨f548, hZ9⟩ := hZ9
        obtain ⟨f550, hZ9⟩ := hZ9
        obtain ⟨f552, hZ9⟩ := hZ9
        obtain ⟨f554, hZ9⟩ := hZ9
        obtain ⟨hO524, hZ9⟩ := hZ9
        obtain ⟨hA533, hZ9⟩ := hZ9
        obtain ⟨hA535, hZ9⟩ := hZ9
        obtain ⟨hA537, hZ9⟩ := hZ9
        obtain ⟨hA539, hZ9⟩ := hZ9
        obtain ⟨hA541, hZ9⟩ := hZ9
        obtain ⟨hA543, hZ9⟩ := hZ9
        obtain ⟨hA545, hZ9⟩ := hZ9
        obtain ⟨hA547, hZ9⟩ := hZ9
        obtain ⟨hA549, hZ9⟩ := hZ9
        obtain ⟨hA551, hZ9⟩ := hZ9
        obtain ⟨hA553, hZ9⟩ := hZ9
        obtain ⟨hA555, hZ9⟩ := hZ9
        obtain ⟨b556, hZ9⟩ := hZ9
        obtain ⟨b557, hZ9⟩ := hZ9
        obtain ⟨b558, hZ9⟩ := hZ9
        obtain ⟨b559, hZ9⟩ := hZ9
        obtain ⟨b560, hZ9⟩ := hZ9
        obtain ⟨b561, hZ9⟩ := hZ9
        replace hZ9 := hZ9.2.2
        obtain ⟨b564, hZ9⟩ := hZ9
        obtain ⟨b565, hZ9⟩ := hZ9
        obtain ⟨b566, hZ9⟩ := hZ9
        obtain ⟨b567, hE568⟩ := hZ9
        replace hO524 : u522[119]? = (some (q 119, .inr (13, [.int y525, .int y526, .ref (q 120), .int y527, .ref (q 121), .ref (q 122), .ref (q 123), .int y528, .ref (q 124), .ref (q 125), .ref (q 126), .ref (q 127), .ref (q 128), .ref (q 129), .ref (q 130), .ref (q 131), .int y529, .int y530, .ref (q 132), .ref (q 133), .int y531])) : Option (Nat × va_E)) := hO524
        replace hA533 : u522[121]? = (some (q 121, .inl (g 0, (1408 : Int32).toNatClampNeg, .inl f532)) : Option (Nat × va_E)) := hA533
        replace hA535 : u522[122]? = (some (q 122, .inl (g 3, 11, .inl f534)) : Option (Nat × va_E)) := hA535
        replace hA537 : u522[123]? = (some (q 123, .inl (g 0, (264 : Int32).toNatClampNeg, .inl f536)) : Option (Nat × va_E)) := hA537
        replace hA539 : u522[124]? = (some (q 124, .inl (g 0, (264 : Int32).toNatClampNeg, .inl f538)) : Option (Nat × va_E)) := hA539
        replace hA541 : u522[125]? = (some (q 125, .inl (g 0, (528 : Int32).toNatClampNeg, .inl f540)) : Option (Nat × va_E)) := hA541
        replace hA543 : u522[126]? = (some (q 126, .inl (g 0, (264 : Int32).toNatClampNeg, .inl f542)) : Option (Nat × va_E)) := hA543
        replace hA545 : u522[127]? = (some (q 127, .inl (g 0, (264 : Int32).toNatClampNeg, .inl f544)) : Option (Nat × va_E)) := hA545
        replace hA547 : u522[128]? = (some (q 128, .inl (g 0, (264 : Int32).toNatClampNeg, .inl f546)) : Option (Nat × va_E)) := hA547
        replace hA549 : u522[129]? = (some (q 129, .inl (g 0, (264 : Int32).toNatClampNeg, .inl f548)) : Option (Nat × va_E)) := hA549
        replace hA551 : u522[130]? = (some (q 130, .inl (g 0, (264 : Int32).toNatClampNeg, .inl f550)) : Option (Nat × va_E)) := hA551
        replace hA553 : u522[131]? = (some (q 131, .inl (g 0, (264 : Int32).toNatClampNeg, .inl f552)) : Option (Nat × va_E)) := hA553
        replace hA555 : u522[132]? = (some (q 132, .inl (g 0, (264 : Int32).toNatClampNeg, .inl f554)) : Option (Nat × va_E)) := hA555
        obtain ⟨p570, e571⟩ : ∃ z, z = (F_WR_inverse x3 x4 x5 t1_0 t1_1 t1_2 t1_3 t1_4 t1_5 t1_6 t2_0 t3_0 t4_0 t5_0 t6_0 t7_0 t8_0 t9_0 t10_0 t11_0 t12_0 t13_0) := ⟨_, rfl⟩
        have e572 : y525 = p570.1 := congrArg (fun z => z.1) (hE568.trans e571.symm)
        have e573 : y526 = p570.2.1 := congrArg (fun z => z.2.1) (hE568.trans e571.symm)
        have e574 : y527 = p570.2.2.1 := congrArg (fun z => z.2.2.1) (hE568.trans e571.symm)
        have e575 : y528 = p570.2.2.2.1 := congrArg (fun z => z.2.2.2.1) (hE568.trans e571.symm)
        have e576 : y529 = p570.2.2.2.2.1 := congrArg (fun z => z.2.2.2.2.1) (hE568.trans e571.symm)
        have e577 : y530 = p570.2.2.2.2.2.1 := congrArg (fun z => z.2.2.2.2.2.1) (hE568.trans e571.symm)
        have e578 : y531 = p570.2.2.2.2.2.2.1 := congrArg (fun z => z.2.2.2.2.2.2.1) (hE568.trans e571.symm)
        have e579 : f532 = p570.2.2.2.2.2.2.2.1 := congrArg (fun z => z.2.2.2.2.2.2.2.1) (hE568.trans e571.symm)
        have e580 : f534 = p570.2.2.2.2.2.2.2.2.1 := congrArg (fun z => z.2.2.2.2.2.2.2.2.1) (hE568.trans e571.symm)
        have e581 : f536 = p570.2.2.2.2.2.2.2.2.2.1 := congrArg (fun z => z.2.2.2.2.2.2.2.2.2.1) (hE568.trans e571.symm)
        have e582 : f538 = p570.2.2.2.2.2.2.2.2.2.2.1 := congrArg (fun z => z.2.2.2.2.2.2.2.2.2.2.1) (hE568.trans e571.symm)
        have e583 : f540 = p570.2.2.2.2.2.2.2.2.2.2.2.1 := congrArg (fun z => z.2.2.2.2.2.2.2.2.2.2.2.1) (hE568.trans e571.symm)
        have e584 : f542 = p570.2.2.2.2.2.2.2.2.2.2.2.2.1 := congrArg (fun z => z.2.2.2.2.2.2.2.2.2.2.2.2.1) (hE568.trans e571.symm)
        have e585 : f544 = p570.2.2.2.2.2.2.2.2.2.2.2.2.2.1 := congrArg (fun z => z.2.2.2.2.2.2.2.2.2.2.2.2.2.1) (hE568.trans e571.symm)
        have e586 : f546 = p570.2.2.2.2.2.2.2.2.2.2.2.2.2.2.1 := congrArg (fun z => z.2.2.2.2.2.2.2.2.2.2.2.2.2.2.1) (hE568.trans e571.symm)
        have e587 : f548 = p570.2.2.2.2.2.2.2.2.2.2.2.2.2.2.2.1 := congrArg (fun z => z.2.2.2.2.2.2.2.2.2.2.2.2.2.2.2.1) (hE568.trans e571.symm)
        have e588 : f550 = p570.2.2.2.2.2.2.2.2.2.2.2.2.2.2.2.2.1 := congrArg (fun z => z.2.2.2.2.2.2.2.2.2.2.2.2.2.2.2.2.1) (hE568.trans e571.symm)
        have e589 : f552 = p570.2.2.2.2.2.2.2.2.2.2.2.2.2.2.2.2.2.1 := congrArg (fun z => z.2.2.2.2.2.2.2.2.2.2.2.2.2.2.2.2.2.1) (hE568.trans e571.symm)
        have e590 : f554 = p570.2.2.2.2.2.2.2.2.2.2.2.2.2.2.2.2.2.2 := congrArg (fun z => z.2.2.2.2.2.2.2.2.2.2.2.2.2.2.2.2.2.2) (hE568.trans e571.symm)
        replace b556 : q_F (0 ≤ y528.toInt) := b556
        replace b557 : q_F (y528.toInt ≤ 1) := b557
        replace b558 : q_F (0 ≤ y529.toInt) := b558
        replace b559 : q_F (y529.toInt ≤ 1) := b559
        replace b560 : q_F (0 ≤ y530.toInt) := b560
        replace b561 : q_F (y530.toInt ≤ 1) := b561
        replace b564 : q_F (t1_2.toInt ≤ y527.toInt) := b564
        replace b565 : q_F (y527.toInt ≤ t1_2.toInt) := b565
        replace b566 : q_F (t1_6.toInt ≤ y531.toInt) := b566
        replace b567 : q_F (y531.toInt ≤ t1_6.toInt) := b567
        replace hT0 := (hu569 _ (by decide)).trans hT0
        replace hF := q_uc hF hu569 (by simp)
        have hR591 := (show F_NM_whole_c202 x2 x3 x4 x5 t0_0 t0_1 t0_2 t1_0 t1_1 t1_2 t1_3 t1_4 t1_5 t1_6 t2_0 t3_0 t4_0 t5_0 t6_0 t7_0 t8_0 t9_0 t10_0 t11_0 t12_0 t13_0 lx56 p570 = (F_NM_whole x2 x3 x4 x5 t0_0 t0_1 t0_2 t1_0 t1_1 t1_2 t1_3 t1_4 t1_5 t1_6 t2_0 t3_0 t4_0 t5_0 t6_0 t7_0 t8_0 t9_0 t10_0 t11_0 t12_0 t13_0) from Eq.trans (by rw [e571, F_NM_whole_J38.eq_1, if_pos c81, if_neg c83, if_neg c141, if_neg c199, if_neg c259, if_neg c324, if_neg c389, if_neg c454, if_pos c519]) hR74)
        have hS592 := (show True ∧ S_NM_whole_c202 x2 x3 x4 x5 t0_0 t0_1 t0_2 t1_0 t1_1 t1_2 t1_3 t1_4 t1_5 t1_6 t2_0 t3_0 t4_0 t5_0 t6_0 t7_0 t8_0 t9_0 t10_0 t11_0 t12_0 t13_0 lx56 p570 from (by rw [e571]; have h := hS75; rw [S_NM_whole_J38.eq_1] at h; rw [if_pos c81] at h; rw [if_neg c83] at h; rw [if_neg c141] at h; rw [if_neg c199] at h; rw [if_neg c259] at h; rw [if_neg c324] at h; rw [if_neg c389] at h; rw [if_neg c454] at h; rw [if_pos c519] at h; replace h := q_s2 h; with_reducible exact h))
        refine lv_goto (tgt := 223) hx hb d_14_20_205 (by decide) ?_
        refine lv_aload_n hx hb d_14_20_223 rfl (lv_at hl 0 rfl) ?_
        refine lv_aload_n hx hb d_14_20_224 rfl (lv_at hl 0 rfl) ?_
        refine q_get (ci := 12) (j := 5) (v := .ref (q 119)) C0 V i_NM rfl rfl hT0 (by decide) w_2303 rfl d_14_20_225 ?_
        refine q_getN (ci := 13) (j := 0) (v := .int y525) C0 V i_WR rfl rfl hO524 (by decide) wo_1922 rfl d_14_20_228 ?_
        refine q_put (ci := 12) (j := 0) (v := .int y525) (ty := .int) C0 V i_NM o_NM n_NM rfl rfl hT0 (by decide) w_2298 rfl rfl rfl rfl (Nat.le_of_ble_eq_true rfl) d_14_20_231 (fun H locs w596 hu597 hT0 V => ?_)
        replace hT0 : w596[116]? = (some (q 116, .inr (12, [.int y525, .ref (q 117), .int t0_1, .ref (q 118), .int t0_2, .ref (q 119), .ref (q 134), .ref (q 145), .ref (q 153), .ref (q 157), .ref (q 167), .ref (q 168)])) : Option (Nat × va_E)) := hT0
        replace hI := n_p116 hI hu597 hT0 (by first | with_reducible exact q_fe btt0_1 | exact ⟨(by have t1 : 0 ≤ t0_1.toInt ∧ t0_1.toInt ≤ 4100 := btt0_1; omega), (by have t1 : 0 ≤ t0_1.toInt ∧ t0_1.toInt ≤ 4100 := btt0_1; omega)⟩) (by first | with_reducible exact q_fe btt0_2 | exact ⟨(by have t1 : 0 ≤ t0_2.toInt ∧ t0_2.toInt ≤ 12200 := btt0_2; omega), (by have t1 : 0 ≤ t0_2.toInt ∧ t0_2.toInt ≤ 12200 := btt0_2; omega)⟩)
        replace hO524 := (hu597 _ (by decide)).trans hO524
        replace hA533 := (hu597 _ (by decide)).trans hA533
        replace hA535 := (hu597 _ (by decide)).trans hA535
        replace hA537 := (hu597 _ (by decide)).trans hA537
        replace hA539 := (hu597 _ (by decide)).trans hA539
        replace hA541 := (hu597 _ (by decide)).trans hA541
        replace hA543 := (hu597 _ (by decide)).trans hA543
        replace hA545 := (hu597 _ (by decide)).trans hA545
        replace hA547 := (hu597 _ (by decide)).trans hA547
        replace hA549 := (hu597 _ (by decide)).trans hA549
        replace hA551 := (hu597 _ (by decide)).trans hA551
        replace hA553 := (hu597 _ (by decide)).trans hA553
        replace hA555 := (hu597 _ (by decide)).trans hA555
        replace hF := q_us hF hu597 (by simp)
        exact q_retv C0 V (⟨hI, hF, y525, y525, y526, y527, y528, y529, y530, y531, f532, f534, f536, f538, f540, f542, f544, f546, f548, f550, f552, f554, hT0, hO524, hA533, hA535, hA537, hA539, hA541, hA543, hA545, hA547, hA549, hA551, hA553, hA555, (show 0 ≤ y528.toInt from (by first | with_reducible exact q_fe b556 | (have t1 : 0 ≤ y528.toInt := b556; omega))), (show y528.toInt ≤ 1 from (by first | with_reducible exact q_fe b557 | (have t1 : y528.toInt ≤ 1 := b557; omega))), (show 0 ≤ y529.toInt from (by first | with_reducible exact q_fe b558 | (have t1 : 0 ≤ y529.toInt := b558; omega))), (show y529.toInt ≤ 1 from (by first | with_reducible exact q_fe b559 | (have t1 : y529.toInt ≤ 1 := b559; omega))), (show 0 ≤ y530.toInt from (by first | with_reducible exact q_fe b560 | (have t1 : 0 ≤ y530.toInt := b560; omega))), (show y530.toInt ≤ 1 from (by first | with_reducible exact q_fe b561 | (have t1 : y530.toInt ≤ 1 := b561; omega))), (show t1_2.toInt ≤ y527.toInt from (by first | with_reducible exact q_fe b564 | (have t1 : t1_2.toInt ≤ y527.toInt := b564; omega))), (show y527.toInt ≤ t1_2.toInt from (by first | with_reducible exact q_fe b565 | (have t1 : y527.toInt ≤ t1_2.toInt := b565; omega))), (show t1_6.toInt ≤ y531.toInt from (by first | with_reducible exact q_fe b566 | (have t1 : t1_6.toInt ≤ y531.toInt := b566; omega))), (show y531.toInt ≤ t1_6.toInt from (by first | with_reducible exact q_fe b567 | (have t1 : y531.toInt ≤ t1_6.toInt := b567; omega))), (show (y525, y525, y526, y527, y528, y529, y530, y531, f532, f534, f536, f538, f540, f542, f544, f546, f548, f550, f552, f554) = (F_NM_whole x2 x3 x4 x5 t0_0 t0_1 t0_2 t1_0 t1_1 t1_2 t1_3 t1_4 t1_5 t1_6 t2_0 t3_0 t4_0 t5_0 t6_0 t7_0 t8_0 t9_0 t10_0 t11_0 t12_0 t13_0) from Eq.trans (by rw [e590, e589, e588, e587, e586, e585, e584, e583, e582, e581, e580, e579, e578, e577, e576, e575, e574, e573, e572, F_NM_whole_c202.eq_1]) hR591)⟩) d_14_20_234
      refine lv_tableOut (tgt := 208) hx hb d_14_20_50 (by have z0 : x2.toInt ≠ 0 := q_neI c83; have z1 : x2.toInt ≠ 1 := q_neI c141; have z2 : x2.toInt ≠ 2 := q_neI c199; have z3 : x2.toInt ≠ 3 := q_neI c259; have z4 : x2.toInt ≠ 4 := q_neI c324; have z5 : x2.toInt ≠ 5 := q_neI c389; have z6 : x2.toInt ≠ 6 := q_neI c454; have z7 : x2.toInt ≠ 7 := q_neI c519; omega) (by decide) ?_
      refine lv_aload_n hx hb d_14_20_208 rfl (lv_at hl 0 rfl) ?_
      refine q_get (ci := 12) (j := 5) (v := .ref (q 119)) C0 V i_NM rfl rfl hT0 (by decide) w_2303 rfl d_14_20_209 ?_
      refine lv_iload_n hx hb d_14_20_212 rfl (lv_at hl 2 rfl) ?_
      refine lv_iload_n hx hb d_14_20_213 rfl (lv_at hl 3 rfl) ?_
      refine lv_iload hx hb d_14_20_214 (lv_at hl 4 rfl) ?_
      refine lv_iload_n hx hb d_14_20_216 rfl (lv_at hl 1 rfl) ?_
      refine lv_bipush (v := 8) hx hb d_14_20_217 (by decide) ?_
      refine lv_isub hx hb d_14_20_219 ?_
      obtain ⟨a599, e600⟩ := q_nm (x2 - 8 : Int32)
      refine q_ti (v := a599) e600 ?_
      have ob601 : True ∧ S_WR_combine x3 x4 x5 a599 t1_0 t1_1 t1_2 t1_3 t1_4 t1_5 t1_6 t2_0 t3_0 t4_0 t5_0 := (by rw [← e600]; have h := hS75; rw [S_NM_whole_J38.eq_1] at h; rw [if_pos c81] at h; rw [if_neg c83] at h; rw [if_neg c141] at h; rw [if_neg c199] at h; rw [if_neg c259] at h; rw [if_neg c324] at h; rw [if_neg c389] at h; rw [if_neg c454] at h; rw [if_neg c519] at h; with_reducible exact h.2.1)
      refine q_gov V (q_runV (As := [.int x3, .int x4, .int x5, .int a599]) (rest := []) (d := 3) (mc := 0) (ms := 0) (ci := 13) C0 V rfl LV_NM_189 (X_WR_combine l D g q w79  x3 x4 x5 a599 hI t1_0 t1_1 t1_2 t1_3 t1_4 t1_5 t1_6 hT1 t2_0 hT2 t3_0 hT3 t4_0 hT4 t5_0 hT5 ob601 _) rfl rfl hT1 rfl hl.1 rfl (Nat.le_of_ble_eq_true rfl) ⟨by decide, by decide⟩ ⟨Nat.le_of_ble_eq_true rfl, Nat.le_of_ble_eq_true rfl⟩ d_14_20_220) (fun u602 H locs hp603 V => ?_)
      obtain ⟨hI, hZ9⟩ := hp603
      obtain ⟨hu631, hZ9⟩ := hZ9
      obtain ⟨y605, hZ9⟩ := hZ9
      obtain ⟨y606, hZ9⟩ := hZ9
      obtain ⟨y607, hZ9⟩ := hZ9
      obtain ⟨y608, hZ9⟩ := hZ9
      obtain ⟨y609, hZ9⟩ := hZ9
      obtain ⟨y610, hZ9⟩ := hZ9
      obtain ⟨y611, hZ9⟩ := hZ9
      obtain ⟨f612, hZ9⟩ := hZ9
      obtain ⟨f614, hZ9⟩ := hZ9
      obtain ⟨f616, hZ9⟩ := hZ9
      obtain ⟨f618, hZ9⟩ := hZ9
      obtain ⟨hO604, hZ9⟩ := hZ9
      obtain ⟨hA613, hZ9⟩ := hZ9
      obtain ⟨hA615, hZ9⟩ := hZ9
      obtain ⟨hA617, hZ9⟩ := hZ9
      obtain ⟨hA619, hZ9⟩ := hZ9
      obtain ⟨b620, hZ9⟩ := hZ9
      obtain ⟨b621, hZ9⟩ := hZ9
      obtain ⟨b622, hZ9⟩ := hZ9
      obtain ⟨b623, hZ9⟩ := hZ9
      obtain ⟨b624, hZ9⟩ := hZ9
      obtain ⟨b625, hZ9⟩ := hZ9
      obtain ⟨b626, hZ9⟩ := hZ9
      obtain ⟨b627, hZ9⟩ := hZ9
      obtain ⟨b628, hZ9⟩ := hZ9
      obtain ⟨b629, hE630⟩ := hZ9
      replace hO604 : u602[119]? = (some (q 119, .inr (13, [.int y605, .int y606, .ref (q 120), .int y607, .ref (q 121), .ref (q 122), .ref (q 123), .int y608, .ref (q 124), .ref (q 125), .ref (q 126), .ref (q 127), .ref (q 128), .ref (q 129), .ref (q 130), .ref (q 131), .int y609, .int y610, .ref (q 132), .ref (q 133), .int y611])) : Option (Nat × va_E)) := hO604
      replace hA613 : u602[121]? = (some (q 121, .inl (g 0, (1408 : Int32).toNatClampNeg, .inl f612)) : Option (Nat × va_E)) := hA613
      replace hA615 : u602[122]? = (some (q 122, .inl (g 3, 11, .inl f614)) : Option (Nat × va_E)) := hA615
      replace hA617 : u602[123]? = (some (q 123, .inl (g 0, (264 : Int32).toNatClampNeg, .inl f616)) : Option (Nat × va_E)) := hA617
      replace hA619 : u602[124]? = (some (q 124, .inl (g 0, (264 : Int32).toNatClampNeg, .inl f618)) : Option (Nat × va_E)) := hA619
      obtain ⟨p632, e633⟩ : ∃ z, z = (F_WR_combine x3 x4 x5 a599 t1_0 t1_1 t1_2 t1_3 t1_4 t1_5 t1_6 t2_0 t3_0 t4_0 t5_0) := ⟨_, rfl⟩
      have e634 : y605 = p632.1 := congrArg (fun z => z.1) (hE630.trans e633.symm)
      have e635 : y606 = p632.2.1 := congrArg (fun z => z.2.1) (hE630.trans e633.symm)
      have e636 : y607 = p632.2.2.1 := congrArg (fun z => z.2.2.1) (hE630.trans e633.symm)
      have e637 : y608 = p632.2.2.2.1 := congrArg (fun z => z.2.2.2.1) (hE630.trans e633.symm)
      have e638 : y609 = p632.2.2.2.2.1 := congrArg (fun z => z.2.2.2.2.1) (hE630.trans e633.symm)
      have e639 : y610 = p632.2.2.2.2.2.1 := congrArg (fun z => z.2.2.2.2.2.1) (hE630.trans e633.symm)
      have e640 : y611 = p632.2.2.2.2.2.2.1 := congrArg (fun z => z.2.2.2.2.2.2.1) (hE630.trans e633.symm)
      have e641 : f612 = p632.2.2.2.2.2.2.2.1 := congrArg (fun z => z.2.2.2.2.2.2.2.1) (hE630.trans e633.symm)
      have e642 : f614 = p632.2.2.2.2.2.2.2.2.1 := congrArg (fun z => z.2.2.2.2.2.2.2.2.1) (hE630.trans e633.symm)
      have e643 : f616 = p632.2.2.2.2.2.2.2.2.2.1 := congrArg (fun z => z.2.2.2.2.2.2.2.2.2.1) (hE630.trans e633.symm)
      have e644 : f618 = p632.2.2.2.2.2.2.2.2.2.2 := congrArg (fun z => z.2.2.2.2.2.2.2.2.2.2) (hE630.trans e633.symm)
      replace b620 : q_F (0 ≤ y608.toInt) := b620
      replace b621 : q_F (y608.toInt ≤ 1) := b621
      replace b622 : q_F (t1_2.toInt ≤ y607.toInt) := b622
      replace b623 : q_F (y607.toInt ≤ t1_2.toInt) := b623
      replace b624 : q_F (t1_4.toInt ≤ y609.toInt) := b624
      replace b625 : q_F (y609.toInt ≤ t1_4.toInt) := b625
      replace b626 : q_F (t1_5.toInt ≤ y610.toInt) := b626
      replace b627 : q_F (y610.toInt ≤ t1_5.toInt) := b627
      replace b628 : q_F (t1_6.toInt ≤ y611.toInt) := b628
      replace b629 : q_F (y611.toInt ≤ t1_6.toInt) := b629
      replace hT0 := (hu631 _ (by decide)).trans hT0
      replace hT6 := (hu631 _ (by decide)).trans hT6
      replace hT7 := (hu631 _ (by decide)).trans hT7
      replace hT8 := (hu631 _ (by decide)).trans hT8
      replace hT9 := (hu631 _ (by decide)).trans hT9
      replace hT10 := (hu631 _ (by decide)).trans hT10
      replace hT11 := (hu631 _ (by decide)).trans hT11
      replace hT12 := (hu631 _ (by decide)).trans hT12
      replace hT13 := (hu631 _ (by decide)).trans hT13
      replace hF := q_uc hF hu631 (by simp)
      have hR645 := (show F_NM_whole_c220 x2 x3 x4 x5 t0_0 t0_1 t0_2 t1_0 t1_1 t1_2 t1_3 t1_4 t1_5 t1_6 t2_0 t3_0 t4_0 t5_0 t6_0 t7_0 t8_0 t9_0 t10_0 t11_0 t12_0 t13_0 lx56 p632 = (F_NM_whole x2 x3 x4 x5 t0_0 t0_1 t0_2 t1_0 t1_1 t1_2 t1_3 t1_4 t1_5 t1_6 t2_0 t3_0 t4_0 t5_0 t6_0 t7_0 t8_0 t9_0 t10_0 t11_0 t12_0 t13_0) from Eq.trans (by rw [e633, ← e600, F_NM_whole_J38.eq_1, if_pos c81, if_neg c83, if_neg c141, if_neg c199, if_neg c259, if_neg c324, if_neg c389, if_neg c454, if_neg c519]) hR74)
      have hS646 := (show True ∧ S_NM_whole_c220 x2 x3 x4 x5 t0_0 t0_1 t0_2 t1_0 t1_1 t1_2 t1_3 t1_4 t1_5 t1_6 t2_0 t3_0 t4_0 t5_0 t6_0 t7_0 t8_0 t9_0 t10_0 t11_0 t12_0 t13_0 lx56 p632 from (by rw [e633, ← e600]; have h := hS75; rw [S_NM_whole_J38.eq_1] at h; rw [if_pos c81] at h; rw [if_neg c83] at h; rw [if_neg c141] at h; rw [if_neg c199] at h; rw [if_neg c259] at h; rw [if_neg c324] at h; rw [if_neg c389] at h; rw [if_neg c454] at h; rw [if_neg c519] at h; replace h := q_s2 h; with_reducible exact h))
      refine lv_aload_n hx hb d_14_20_223 rfl (lv_at hl 0 rfl) ?_
      refine lv_aload_n hx hb d_14_20_224 rfl (lv_at hl 0 rfl) ?_
      refine q_get (ci := 12) (j := 5) (v := .ref (q 119)) C0 V i_NM rfl rfl hT0 (by decide) w_2303 rfl d_14_20_225 ?_
      refine q_getN (ci := 13) (j := 0) (v := .int y605) C0 V i_WR rfl rfl hO604 (by decide) wo_1922 rfl d_14_20_228 ?_
      refine q_put (ci := 12) (j := 0) (v := .int y605) (ty := .int) C0 V i_NM o_NM n_NM rfl rfl hT0 (by decide) w_2298 rfl rfl rfl rfl (Nat.le_of_ble_eq_true rfl) d_14_20_231 (fun H locs w650 hu651 hT0 V => ?_)
      replace hT0 : w650[116]? = (some (q 116, .inr (12, [.int y605, .ref (q 117), .int t0_1, .ref (q 118), .int t0_2, .ref (q 119), .ref (q 134), .ref (q 145), .ref (q 153), .ref (q 157), .ref (q 167), .ref (q 168)])) : Option (Nat × va_E)) := hT0
      replace hI := n_p116 hI hu651 hT0 (by first | with_reducible exact q_fe btt0_1 | exact ⟨(by have t1 : 0 ≤ t0_1.toInt ∧ t0_1.toInt ≤ 4100 := btt0_1; omega), (by have t1 : 0 ≤ t0_1.toInt ∧ t0_1.toInt ≤ 4100 := btt0_1; omega)⟩) (by first | with_reducible exact q_fe btt0_2 | exact ⟨(by have t1 : 0 ≤ t0_2.toInt ∧ t0_2.toInt ≤ 12200 := btt0_2; omega), (by have t1 : 0 ≤ t0_2.toInt ∧ t0_2.toInt ≤ 12200 := btt0_2; omega)⟩)
      replace hO604 := (hu651 _ (by decide)).trans hO604
      replace hA613 := (hu651 _ (by decide)).trans hA613
      replace hA615 := (hu651 _ (by decide)).trans hA615
      replace hA617 := (hu651 _ (by decide)).trans hA617
      replace hA619 := (hu651 _ (by decide)).trans hA619
      replace hT6 := (hu651 _ (by decide)).trans hT6
      replace hT7 := (hu651 _ (by decide)).trans hT7
      replace hT8 := (hu651 _ (by decide)).trans hT8
      replace hT9 := (hu651 _ (by decide)).trans hT9
      replace hT10 := (hu651 _ (by decide)).trans hT10
      replace hT11 := (hu651 _ (by decide)).trans hT11
      replace hT12 := (hu651 _ (by decide)).trans hT12
      replace hT13 := (hu651 _ (by decide)).trans hT13
      replace hF := q_us hF hu651 (by simp)
      exact q_retv C0 V (⟨hI, hF, y605, y605, y606, y607, y608, y609, y610, y611, f612, f614, f616, f618, t6_0, t7_0, t8_0, t9_0, t10_0, t11_0, t12_0, t13_0, hT0, hO604, hA613, hA615, hA617, hA619, hT6, hT7, hT8, hT9, hT10, hT11, hT12, hT13, (show 0 ≤ y608.toInt from (by first | with_reducible exact q_fe b620 | (have t1 : 0 ≤ y608.toInt := b620; omega))), (show y608.toInt ≤ 1 from (by first | with_reducible exact q_fe b621 | (have t1 : y608.toInt ≤ 1 := b621; omega))), (show 0 ≤ y609.toInt from (by have t1 : 0 ≤ t1_4.toInt ∧ t1_4.toInt ≤ 1 := btt1_4; have t2 : t1_4.toInt ≤ y609.toInt := b624; omega)), (show y609.toInt ≤ 1 from (by have t1 : 0 ≤ t1_4.toInt ∧ t1_4.toInt ≤ 1 := btt1_4; have t2 : y609.toInt ≤ t1_4.toInt := b625; omega)), (show 0 ≤ y610.toInt from (by have t1 : 0 ≤ t1_5.toInt ∧ t1_5.toInt ≤ 1 := btt1_5; have t2 : t1_5.toInt ≤ y610.toInt := b626; omega)), (show y610.toInt ≤ 1 from (by have t1 : 0 ≤ t1_5.toInt ∧ t1_5.toInt ≤ 1 := btt1_5; have t2 : y610.toInt ≤ t1_5.toInt := b627; omega)), (show t1_2.toInt ≤ y607.toInt from (by first | with_reducible exact q_fe b622 | (have t1 : t1_2.toInt ≤ y607.toInt := b622; omega))), (show y607.toInt ≤ t1_2.toInt from (by first | with_reducible exact q_fe b623 | (have t1 : y607.toInt ≤ t1_2.toInt := b623; omega))), (show t1_6.toInt ≤ y611.toInt from (by first | with_reducible exact q_fe b628 | (have t1 : t1_6.toInt ≤ y611.toInt := b628; omega))), (show y611.toInt ≤ t1_6.toInt from (by first | with_reducible exact q_fe b629 | (have t1 : y611.toInt ≤ t1_6.toInt := b629; omega))), (show (y605, y605, y606, y607, y608, y609, y610, y611, f612, f614, f616, f618, t6_0, t7_0, t8_0, t9_0, t10_0, t11_0, t12_0, t13_0) = (F_NM_whole x2 x3 x4 x5 t0_0 t0_1 t0_2 t1_0 t1_1 t1_2 t1_3 t1_4 t1_5 t1_6 t2_0 t3_0 t4_0 t5_0 t6_0 t7_0 t8_0 t9_0 t10_0 t11_0 t12_0 t13_0) from Eq.trans (by rw [e644, e643, e642, e641, e640, e639, e638, e637, e636, e635, e634, F_NM_whole_c220.eq_1]) hR645)⟩) d_14_20_234
    ·
      exact q_retv C0 V (⟨hI, hF, lx56, t1_0, t1_1, t1_2, t1_3, t1_4, t1_5, t1_6, t2_0, t3_0, t4_0, t5_0, t6_0, t7_0, t8_0, t9_0, t10_0, t11_0, t12_0, t13_0, hT0, hT1, hT2, hT3, hT4, hT5, hT6, hT7, hT8, hT9, hT10, hT11, hT12, hT13, (show 0 ≤ t1_3.toInt from (by first | with_reducible exact (q_fe btt1_3).2 | with_reducible exact (q_fe btt1_3).1 | (have t1 : 0 ≤ t1_3.toInt ∧ t1_3.toInt ≤ 1 := btt1_3; omega))), (show t1_3.toInt ≤ 1 from (by first | with_reducible exact (q_fe btt1_3).2 | with_reducible exact (q_fe btt1_3).1 | (have t1 : 0 ≤ t1_3.toInt ∧ t1_3.toInt ≤ 1 := btt1_3; omega))), (show 0 ≤ t1_4.toInt from (by first | with_reducible exact (q_fe btt1_4).2 | with_reducible exact (q_fe btt1_4).1 | (have t1 : 0 ≤ t1_4.toInt ∧ t1_4.toInt ≤ 1 := btt1_4; omega))), (show t1_4.toInt ≤ 1 from (by first | with_reducible exact (q_fe btt1_4).2 | with_reducible exact (q_fe btt1_4).1 | (have t1 : 0 ≤ t1_4.toInt ∧ t1_4.toInt ≤ 1 := btt1_4; omega))), (show 0 ≤ t1_5.toInt from (by first | with_reducible exact (q_fe btt1_5).2 | with_reducible exact (q_fe btt1_5).1 | (have t1 : 0 ≤ t1_5.toInt ∧ t1_5.toInt ≤ 1 := btt1_5; omega))), (show t1_5.toInt ≤ 1 from (by first | with_reducible exact (q_fe btt1_5).2 | with_reducible exact (q_fe btt1_5).1 | (have t1 : 0 ≤ t1_5.toInt ∧ t1_5.toInt ≤ 1 := btt1_5; omega))), (show t1_2.toInt ≤ t1_2.toInt from (by omega)), (show t1_2.toInt ≤ t1_2.toInt from (by omega)), (show t1_6.toInt ≤ t1_6.toInt from (by omega)), (show t1_6.toInt ≤ t1_6.toInt from (by omega)), (show (lx56, t1_0, t1_1, t1_2, t1_3, t1_4, t1_5, t1_6, t2_0, t3_0, t4_0, t5_0, t6_0, t7_0, t8_0, t9_0, t10_0, t11_0, t12_0, t13_0) = (F_NM_whole x2 x3 x4 x5 t0_0 t0_1 t0_2 t1_0 t1_1 t1_2 t1_3 t1_4 t1_5 t1_6 t2_0 t3_0 t4_0 t5_0 t6_0 t7_0 t8_0 t9_0 t10_0 t11_0 t12_0 t13_0) from Eq.trans (by rw [F_NM_whole_J38.eq_1, if_neg c81]) hR74)⟩) d_14_20_48
  ·
    intro J71
    refine q_join (X := Unit) (fun z H locs ls _ => q_Wd D g (va_A ws sz) s ws H locs ∧ lv_has ls 5 [(0, .ref (q 116)), (1, .int x2), (2, .int x3), (3, .int x4), (4, .int x5)] ∧ F_NM_whole_J33 x2 x3 x4 x5 t0_0 t0_1 t0_2 t1_0 t1_1 t1_2 t1_3 t1_4 t1_5 t1_6 t2_0 t3_0 t4_0 t5_0 t6_0 t7_0 t8_0 t9_0 t10_0 t11_0 t12_0 t13_0 = (F_NM_whole x2 x3 x4 x5 t0_0 t0_1 t0_2 t1_0 t1_1 t1_2 t1_3 t1_4 t1_5 t1_6 t2_0 t3_0 t4_0 t5_0 t6_0 t7_0 t8_0 t9_0 t10_0 t11_0 t12_0 t13_0) ∧ True ∧ S_NM_whole_J33 x2 x3 x4 x5 t0_0 t0_1 t0_2 t1_0 t1_1 t1_2 t1_3 t1_4 t1_5 t1_6 t2_0 t3_0 t4_0 t5_0 t6_0 t7_0 t8_0 t9_0 t10_0 t11_0 t12_0 t13_0) (fun z => [.ref (q 116)]) 33 0 0 ?_ ?_
    ·
      rintro _ H locs ls _ ⟨V, hl, hR668, hS669⟩
      replace hl : lv_has ls 5 [(0, .ref (q 116)), (1, .int x2), (2, .int x3), (3, .int x4), (4, .int x5)] := hl
      refine lv_iconst (v := 1) hx hb d_14_20_33 (by decide) ?_
      refine lv_goto (tgt := 38) hx hb d_14_20_34 (by decide) ?_
      exact J71 ((1 : Int32)) _ _ _ ws ⟨(show q_F (0 ≤ 1) from (show 0 ≤ 1 from by omega)), (show q_F (1 ≤ 1) from (show 1 ≤ 1 from by omega)), V, q_lw hl (q_lw1 0 rfl (q_lw1 1 rfl (q_lw1 2 rfl (q_lw1 3 rfl (q_lw1 4 rfl q_lw0))))), (show F_NM_whole_J38 x2 x3 x4 x5 t0_0 t0_1 t0_2 t1_0 t1_1 t1_2 t1_3 t1_4 t1_5 t1_6 t2_0 t3_0 t4_0 t5_0 t6_0 t7_0 t8_0 t9_0 t10_0 t11_0 t12_0 t13_0 1 = (F_NM_whole x2 x3 x4 x5 t0_0 t0_1 t0_2 t1_0 t1_1 t1_2 t1_3 t1_4 t1_5 t1_6 t2_0 t3_0 t4_0 t5_0 t6_0 t7_0 t8_0 t9_0 t10_0 t11_0 t12_0 t13_0) from Eq.trans (by rw [F_NM_whole_J33.eq_1]) hR668), (show True ∧ S_NM_whole_J38 x2 x3 x4 x5 t0_0 t0_1 t0_2 t1_0 t1_1 t1_2 t1_3 t1_4 t1_5 t1_6 t2_0 t3_0 t4_0 t5_0 t6_0 t7_0 t8_0 t9_0 t10_0 t11_0 t12_0 t13_0 1 from (by have h := hS669; rw [S_NM_whole_J33.eq_1] at h; with_reducible exact h))⟩
    ·
      intro J667
      refine lv_if_lt (tgt := 33) hx hb d_14_20_2 (by decide) (fun c673 => ?_) (fun c673 => ?_)
      ·
        exact J667 (()) _ _ _ ws ⟨V, q_lw hl (q_lw1 0 rfl (q_lw1 1 rfl (q_lw1 2 rfl (q_lw1 3 rfl (q_lw1 4 rfl q_lw0))))), (show F_NM_whole_J33 x2 x3 x4 x5 t0_0 t0_1 t0_2 t1_0 t1_1 t1_2 t1_3 t1_4 t1_5 t1_6 t2_0 t3_0 t4_0 t5_0 t6_0 t7_0 t8_0 t9_0 t10_0 t11_0 t12_0 t13_0 = (F_NM_whole x2 x3 x4 x5 t0_0 t0_1 t0_2 t1_0 t1_1 t1_2 t1_3 t1_4 t1_5 t1_6 t2_0 t3_0 t4_0 t5_0 t6_0 t7_0 t8_0 t9_0 t10_0 t11_0 t12_0 t13_0) from (by rw [F_NM_whole.eq_1, if_pos c673])), (show True ∧ S_NM_whole_J33 x2 x3 x4 x5 t0_0 t0_1 t0_2 t1_0 t1_1 t1_2 t1_3 t1_4 t1_5 t1_6 t2_0 t3_0 t4_0 t5_0 t6_0 t7_0 t8_0 t9_0 t10_0 t11_0 t12_0 t13_0 from (by have h := hS; rw [S_NM_whole.eq_1] at h; rw [if_pos c673] at h; with_reducible exact h))⟩
      ·
        refine lv_iload_n hx hb d_14_20_5 rfl (lv_at hl 1 rfl) ?_
        refine lv_bipush (v := 11) hx hb d_14_20_6 (by decide) ?_
        refine lv_icmp_gt (tgt := 33) hx hb d_14_20_8 (by decide) (fun c676 => ?_) (fun c676 => ?_)
        ·
          exact J667 (()) _ _ _ ws ⟨V, q_lw hl (q_lw1 0 rfl (q_lw1 1 rfl (q_lw1 2 rfl (q_lw1 3 rfl (q_lw1 4 rfl q_lw0))))), (show F_NM_whole_J33 x2 x3 x4 x5 t0_0 t0_1 t0_2 t1_0 t1_1 t1_2 t1_3 t1_4 t1_5 t1_6 t2_0 t3_0 t4_0 t5_0 t6_0 t7_0 t8_0 t9_0 t10_0 t11_0 t12_0 t13_0 = (F_NM_whole x2 x3 x4 x5 t0_0 t0_1 t0_2 t1_0 t1_1 t1_2 t1_3 t1_4 t1_5 t1_6 t2_0 t3_0 t4_0 t5_0 t6_0 t7_0 t8_0 t9_0 t10_0 t11_0 t12_0 t13_0) from (by rw [F_NM_whole.eq_1, if_neg c673, if_pos c676])), (show True ∧ S_NM_whole_J33 x2 x3 x4 x5 t0_0 t0_1 t0_2 t1_0 t1_1 t1_2 t1_3 t1_4 t1_5 t1_6 t2_0 t3_0 t4_0 t5_0 t6_0 t7_0 t8_0 t9_0 t10_0 t11_0 t12_0 t13_0 from (by have h := hS; rw [S_NM_whole.eq_1] at h; rw [if_neg c673] at h; rw [if_pos c676] at h; with_reducible exact h))⟩
        ·
          refine lv_iload_n hx hb d_14_20_11 rfl (lv_at hl 2 rfl) ?_
          refine q_goi V (q_runS (As := [.int x3]) (rest := [.ref (q 116)]) (d := 1) (mc := 0) (ms := 0) C0 V rfl LS_NM_70 (X_NM_no_IZ l D g q ws  x3 hI   _) rfl hl.1 rfl (Nat.le_of_ble_eq_true rfl) ⟨by decide, by decide⟩ ⟨Nat.le_of_ble_eq_true rfl, Nat.le_of_ble_eq_true rfl⟩ d_14_20_12) (fun a681 u679 H locs hp680 V => ?_)
          obtain ⟨rfl, b682, b683, hE684⟩ := hp680
          have e685 : a681 = (F_NM_no_IZ x3) := hE684
          clear b682
          clear b683
          refine lv_if_ne (tgt := 33) hx hb d_14_20_15 (by decide) (fun c686 => ?_) (fun c686 => ?_)
          ·
            exact J667 (()) _ _ _ ws ⟨V, q_lw hl (q_lw1 0 rfl (q_lw1 1 rfl (q_lw1 2 rfl (q_lw1 3 rfl (q_lw1 4 rfl q_lw0))))), (show F_NM_whole_J33 x2 x3 x4 x5 t0_0 t0_1 t0_2 t1_0 t1_1 t1_2 t1_3 t1_4 t1_5 t1_6 t2_0 t3_0 t4_0 t5_0 t6_0 t7_0 t8_0 t9_0 t10_0 t11_0 t12_0 t13_0 = (F_NM_whole x2 x3 x4 x5 t0_0 t0_1 t0_2 t1_0 t1_1 t1_2 t1_3 t1_4 t1_5 t1_6 t2_0 t3_0 t4_0 t5_0 t6_0 t7_0 t8_0 t9_0 t10_0 t11_0 t12_0 t13_0) from (by have c686x := c686; rw [e685] at c686x; rw [F_NM_whole.eq_1, if_neg c673, if_neg c676, if_neg c686x])), (show True ∧ S_NM_whole_J33 x2 x3 x4 x5 t0_0 t0_1 t0_2 t1_0 t1_1 t1_2 t1_3 t1_4 t1_5 t1_6 t2_0 t3_0 t4_0 t5_0 t6_0 t7_0 t8_0 t9_0 t10_0 t11_0 t12_0 t13_0 from (by have h := hS; rw [S_NM_whole.eq_1] at h; rw [if_neg c673] at h; rw [if_neg c676] at h; have c686x := c686; rw [e685] at c686x; rw [if_neg c686x] at h; with_reducible exact h))⟩
          ·
            refine lv_iload_n hx hb d_14_20_18 rfl (lv_at hl 3 rfl) ?_
            refine q_goi V (q_runS (As := [.int x4]) (rest := [.ref (q 116)]) (d := 1) (mc := 0) (ms := 0) C0 V rfl LS_NM_70 (X_NM_no_IZ l D g q ws  x4 hI   _) rfl hl.1 rfl (Nat.le_of_ble_eq_true rfl) ⟨by decide, by decide⟩ ⟨Nat.le_of_ble_eq_true rfl, Nat.le_of_ble_eq_true rfl⟩ d_14_20_19) (fun a691 u689 H locs hp690 V => ?_)
            obtain ⟨rfl, b692, b693, hE694⟩ := hp690
            have e695 : a691 = (F_NM_no_IZ x4) := hE694
            clear b692
            clear b693
            refine lv_if_ne (tgt := 33) hx hb d_14_20_22 (by decide) (fun c696 => ?_) (fun c696 => ?_)
            ·
              exact J667 (()) _ _ _ ws ⟨V, q_lw hl (q_lw1 0 rfl (q_lw1 1 rfl (q_lw1 2 rfl (q_lw1 3 rfl (q_lw1 4 rfl q_lw0))))), (show F_NM_whole_J33 x2 x3 x4 x5 t0_0 t0_1 t0_2 t1_0 t1_1 t1_2 t1_3 t1_4 t1_5 t1_6 t2_0 t3_0 t4_0 t5_0 t6_0 t7_0 t8_0 t9_0 t10_0 t11_0 t12_0 t13_0 = (F_NM_whole x2 x3 x4 x5 t0_0 t0_1 t0_2 t1_0 t1_1 t1_2 t1_3 t1_4 t1_5 t1_6 t2_0 t3_0 t4_0 t5_0 t6_0 t7_0 t8_0 t9_0 t10_0 t11_0 t12_0 t13_0) from (by have c686x := c686; rw [e685] at c686x; have c696x := c696; rw [e695] at c696x; rw [F_NM_whole.eq_1, if_neg c673, if_neg c676, if_pos c686x, if_neg c696x])), (show True ∧ S_NM_whole_J33 x2 x3 x4 x5 t0_0 t0_1 t0_2 t1_0 t1_1 t1_2 t1_3 t1_4 t1_5 t1_6 t2_0 t3_0 t4_0 t5_0 t6_0 t7_0 t8_0 t9_0 t10_0 t11_0 t12_0 t13_0 from (by have h := hS; rw [S_NM_whole.eq_1] at h; rw [if_neg c673] at h; rw [if_neg c676] at h; have c686x := c686; rw [e685] at c686x; rw [if_pos c686x] at h; have c696x := c696; rw [e695] at c696x; rw [if_neg c696x] at h; with_reducible exact h))⟩
            ·
              refine lv_iload hx hb d_14_20_25 (lv_at hl 4 rfl) ?_
              refine q_goi V (q_runS (As := [.int x5]) (rest := [.ref (q 116)]) (d := 1) (mc := 0) (ms := 0) C0 V rfl LS_NM_70 (X_NM_no_IZ l D g q ws  x5 hI   _) rfl hl.1 rfl (Nat.le_of_ble_eq_true rfl) ⟨by decide, by decide⟩ ⟨Nat.le_of_ble_eq_true rfl, Nat.le_of_ble_eq_true rfl⟩ d_14_20_27) (fun a701 u699 H locs hp700 V => ?_)
              obtain ⟨rfl, b702, b703, hE704⟩ := hp700
              have e705 : a701 = (F_NM_no_IZ x5) := hE704
              clear b702
              clear b703
              refine lv_if_eq (tgt := 37) hx hb d_14_20_30 (by decide) (fun c706 => ?_) (fun c706 => ?_)
              ·
                refine lv_iconst (v := 0) hx hb d_14_20_37 (by decide) ?_
                exact J71 ((0 : Int32)) _ _ _ ws ⟨(show q_F (0 ≤ 0) from (show 0 ≤ 0 from by omega)), (show q_F (0 ≤ 1) from (show 0 ≤ 1 from by omega)), V, q_lw hl (q_lw1 0 rfl (q_lw1 1 rfl (q_lw1 2 rfl (q_lw1 3 rfl (q_lw1 4 rfl q_lw0))))), (show F_NM_whole_J38 x2 x3 x4 x5 t0_0 t0_1 t0_2 t1_0 t1_1 t1_2 t1_3 t1_4 t1_5 t1_6 t2_0 t3_0 t4_0 t5_0 t6_0 t7_0 t8_0 t9_0 t10_0 t11_0 t12_0 t13_0 0 = (F_NM_whole x2 x3 x4 x5 t0_0 t0_1 t0_2 t1_0 t1_1 t1_2 t1_3 t1_4 t1_5 t1_6 t2_0 t3_0 t4_0 t5_0 t6_0 t7_0 t8_0 t9_0 t10_0 t11_0 t12_0 t13_0) from (by have c686x := c686; rw [e685] at c686x; have c696x := c696; rw [e695] at c696x; have c706x := c706; rw [e705] at c706x; rw [F_NM_whole.eq_1, if_neg c673, if_neg c676, if_pos c686x, if_pos c696x, if_pos c706x])), (show True ∧ S_NM_whole_J38 x2 x3 x4 x5 t0_0 t0_1 t0_2 t1_0 t1_1 t1_2 t1_3 t1_4 t1_5 t1_6 t2_0 t3_0 t4_0 t5_0 t6_0 t7_0 t8_0 t9_0 t10_0 t11_0 t12_0 t13_0 0 from (by have h := hS; rw [S_NM_whole.eq_1] at h; rw [if_neg c673] at h; rw [if_neg c676] at h; have c686x := c686; rw [e685] at c686x; rw [if_pos c686x] at h; have c696x := c696; rw [e695] at c696x; rw [if_pos c696x] at h; have c706x := c706; rw [e705] at c706x; rw [if_pos c706x] at h; with_reducible exact h))⟩
              ·
                exact J667 (()) _ _ _ ws ⟨V, q_lw hl (q_lw1 0 rfl (q_lw1 1 rfl (q_lw1 2 rfl (q_lw1 3 rfl (q_lw1 4 rfl q_lw0))))), (show F_NM_whole_J33 x2 x3 x4 x5 t0_0 t0_1 t0_2 t1_0 t1_1 t1_2 t1_3 t1_4 t1_5 t1_6 t2_0 t3_0 t4_0 t5_0 t6_0 t7_0 t8_0 t9_0 t10_0 t11_0 t12_0 t13_0 = (F_NM_whole x2 x3 x4 x5 t0_0 t0_1 t0_2 t1_0 t1_1 t1_2 t1_3 t1_4 t1_5 t1_6 t2_0 t3_0 t4_0 t5_0 t6_0 t7_0 t8_0 t9_0 t10_0 t11_0 t12_0 t13_0) from (by have c686x := c686; rw [e685] at c686x; have c696x := c696; rw [e695] at c696x; have c706x := c706; rw [e705] at c706x; rw [F_NM_whole.eq_1, if_neg c673, if_neg c676, if_pos c686x, if_pos c696x, if_neg c706x])), (show True ∧ S_NM_whole_J33 x2 x3 x4 x5 t0_0 t0_1 t0_2 t1_0 t1_1 t1_2 t1_3 t1_4 t1_5 t1_6 t2_0 t3_0 t4_0 t5_0 t6_0 t7_0 t8_0 t9_0 t10_0 t11_0 t12_0 t13_0 from (by have h := hS; rw [S_NM_whole.eq_1] at h; rw [if_neg c673] at h; rw [if_neg c676] at h; have c686x := c686; rw [e685] at c686x; rw [if_pos c686x] at h; have c696x := c696; rw [e695] at c696x; rw [if_pos c696x] at h; have c706x := c706; rw [e705] at c706x; rw [if_neg c706x] at h; with_reducible exact h))⟩

