/-! NumberHouse, exactly: t1.argument -/
theorem d_1_19_0 : decode prog_1_method_19_code 0 = .ok (.iload_n 1, 1) := by decide +kernel
theorem d_1_19_25 : decode prog_1_method_19_code 25 = .ok (.invokestatic 104, 3) := by decide +kernel
theorem d_1_19_28 : decode prog_1_method_19_code 28 = .ok (.iload_n 1, 1) := by decide +kernel
theorem d_1_19_29 : decode prog_1_method_19_code 29 = .ok (.iconst 1, 1) := by decide +kernel
theorem d_1_19_45 : decode prog_1_method_19_code 45 = .ok (.invokestatic 104, 3) := by decide +kernel
theorem d_1_19_48 : decode prog_1_method_19_code 48 = .ok (.iload_n 1, 1) := by decide +kernel
theorem d_1_19_49 : decode prog_1_method_19_code 49 = .ok (.bipush 6, 2) := by decide +kernel
theorem d_1_19_70 : decode prog_1_method_19_code 70 = .ok (.invokestatic 104, 3) := by decide +kernel
theorem d_1_19_73 : decode prog_1_method_19_code 73 = .ok (.iload_n 1, 1) := by decide +kernel
theorem d_1_19_74 : decode prog_1_method_19_code 74 = .ok (.bipush 8, 2) := by decide +kernel
theorem d_1_19_76 : decode prog_1_method_19_code 76 = .ok (.if_icmp .ne 13, 3) := by decide +kernel
theorem d_1_19_89 : decode prog_1_method_19_code 89 = .ok (.iload_n 1, 1) := by decide +kernel
theorem d_1_19_110 : decode prog_1_method_19_code 110 = .ok (.invokestatic 138, 3) := by decide +kernel
theorem d_1_19_113 : decode prog_1_method_19_code 113 = .ok (.iload_n 1, 1) := by decide +kernel
theorem d_1_19_114 : decode prog_1_method_19_code 114 = .ok (.iconst 1, 1) := by decide +kernel
theorem d_1_19_139 : decode prog_1_method_19_code 139 = .ok (.invokestatic 138, 3) := by decide +kernel
theorem d_1_19_142 : decode prog_1_method_19_code 142 = .ok (.iload_n 1, 1) := by decide +kernel
theorem d_1_19_143 : decode prog_1_method_19_code 143 = .ok (.bipush 7, 2) := by decide +kernel
theorem d_1_19_171 : decode prog_1_method_19_code 171 = .ok (.aload_n 0, 1) := by decide +kernel
theorem d_1_19_172 : decode prog_1_method_19_code 172 = .ok (.getfield 98, 3) := by decide +kernel
theorem d_1_19_175 : decode prog_1_method_19_code 175 = .ok (.getfield 339, 3) := by decide +kernel
set_option maxRecDepth 100000 in
theorem w_385 : (Cond.fieldLink "NumberHouse" (339 : Nat) "NumberHouse$Printer" "count" "I") ∈ q_tbl := q_of2 145 rfl (by decide +kernel)
theorem d_1_19_178 : decode prog_1_method_19_code 178 = .ok (.bipush 9, 2) := by decide +kernel
theorem d_1_19_180 : decode prog_1_method_19_code 180 = .ok (.if_icmp .lt 5, 3) := by decide +kernel
theorem d_1_19_185 : decode prog_1_method_19_code 185 = .ok (.aload_n 0, 1) := by decide +kernel
theorem d_1_19_186 : decode prog_1_method_19_code 186 = .ok (.iload_n 1, 1) := by decide +kernel
theorem d_1_19_187 : decode prog_1_method_19_code 187 = .ok (.iload_n 2, 1) := by decide +kernel
theorem d_1_19_188 : decode prog_1_method_19_code 188 = .ok (.invokevirtual 357, 3) := by decide +kernel
set_option maxRecDepth 100000 in
theorem w_1707 : (Cond.code ({ cls := "NumberHouse", name := "addArgument", desc := "(II)V" } : MethodName) prog_1_method_22_code (3 : Nat) (none : Option ClassFile.FieldType)) ∈ q_tbl := q_of8 27 rfl (by decide +kernel)
set_option maxRecDepth 100000 in
theorem w_1704 : (Cond.methodLink "NumberHouse" (357 : Nat) ({ cls := "NumberHouse", name := "addArgument", desc := "(II)V" } : MethodName)) ∈ q_tbl := q_of8 24 rfl (by decide +kernel)
set_option maxRecDepth 100000 in
theorem w_1706 : (Cond.instanceMethod ({ cls := "NumberHouse", name := "addArgument", desc := "(II)V" } : MethodName)) ∈ q_tbl := q_of8 26 rfl (by decide +kernel)
theorem ws_44 : Cond.selects "NumberHouse" (⟨"NumberHouse", "addArgument", "(II)V"⟩ : MethodName) (⟨"NumberHouse", "addArgument", "(II)V"⟩ : MethodName) ∈ q_tbl := q_ofs 44 (by decide +kernel) (by decide +kernel)
theorem LV_NH_357 : q_LV "NumberHouse" 357 y_NH_addArgument prog_1_method_22_code 3 none 2 := ⟨w_1707, w_1, w_1704, w_1706, ws_44, ⟨by decide, by decide, by decide +kernel⟩⟩
theorem d_1_19_191 : decode prog_1_method_19_code 191 = .ok (.aload_n 0, 1) := by decide +kernel
theorem d_1_19_192 : decode prog_1_method_19_code 192 = .ok (.getfield 98, 3) := by decide +kernel
theorem d_1_19_195 : decode prog_1_method_19_code 195 = .ok (.getfield 339, 3) := by decide +kernel
theorem d_1_19_198 : decode prog_1_method_19_code 198 = .ok (.ireturn, 1) := by decide +kernel
theorem d_1_19_183 : decode prog_1_method_19_code 183 = .ok (.iconst (-1), 1) := by decide +kernel
theorem d_1_19_184 : decode prog_1_method_19_code 184 = .ok (.ireturn, 1) := by decide +kernel
theorem d_1_19_145 : decode prog_1_method_19_code 145 = .ok (.if_icmp .ne 26, 3) := by decide +kernel
theorem d_1_19_148 : decode prog_1_method_19_code 148 = .ok (.aload_n 0, 1) := by decide +kernel
theorem d_1_19_149 : decode prog_1_method_19_code 149 = .ok (.getfield 14, 3) := by decide +kernel
theorem d_1_19_152 : decode prog_1_method_19_code 152 = .ok (.getfield 108, 3) := by decide +kernel
theorem d_1_19_155 : decode prog_1_method_19_code 155 = .ok (.bipush 64, 2) := by decide +kernel
theorem d_1_19_157 : decode prog_1_method_19_code 157 = .ok (.if_icmp .le 14, 3) := by decide +kernel
theorem d_1_19_160 : decode prog_1_method_19_code 160 = .ok (.new 350, 3) := by decide +kernel
theorem d_1_19_163 : decode prog_1_method_19_code 163 = .ok (.dup, 1) := by decide +kernel
theorem d_1_19_164 : decode prog_1_method_19_code 164 = .ok (.ldc_w 352, 3) := by decide +kernel
theorem d_1_19_167 : decode prog_1_method_19_code 167 = .ok (.invokespecial 354, 3) := by decide +kernel
theorem d_1_19_170 : decode prog_1_method_19_code 170 = .ok (.athrow, 1) := by decide +kernel
theorem t_NH_354 : ∀ w ∈ Bundle.ownAtoms "NumberHouse" 354 "java/lang/IllegalStateException" ["java/lang/RuntimeException", "java/lang/Exception"], w ∈ q_tbl ∨ (w ∈ q_odd ∧ w.onTables = true) ∨ w ∈ q_four := by decide +kernel
set_option maxRecDepth 100000 in
theorem w_1688 : (Cond.classLink "NumberHouse" (350 : Nat) "java/lang/IllegalStateException") ∈ q_tbl := q_of8 8 rfl (by decide +kernel)
set_option maxRecDepth 100000 in
theorem w_36 : (Cond.initialized "java/lang/IllegalStateException") ∈ q_tbl := q_of1 36 rfl (by decide +kernel)
set_option maxRecDepth 100000 in
theorem wo_1697 : (Cond.stringRef "NumberHouse" (352 : Nat) "the tape has more than 64 bytes") ∈ q_odd := q_oo8 17 rfl (by decide +kernel)
set_option maxRecDepth 100000 in
theorem w_1689 : (Cond.instantiable "java/lang/IllegalStateException" (6 : Nat)) ∈ q_tbl := q_of8 9 rfl (by decide +kernel)
theorem d_1_19_134 : decode prog_1_method_19_code 134 = .ok (.iconst 1, 1) := by decide +kernel
theorem d_1_19_135 : decode prog_1_method_19_code 135 = .ok (.goto 4, 3) := by decide +kernel
theorem d_1_19_115 : decode prog_1_method_19_code 115 = .ok (.if_icmp .ne 19, 3) := by decide +kernel
theorem d_1_19_118 : decode prog_1_method_19_code 118 = .ok (.aload_n 0, 1) := by decide +kernel
theorem d_1_19_119 : decode prog_1_method_19_code 119 = .ok (.getfield 98, 3) := by decide +kernel
theorem d_1_19_122 : decode prog_1_method_19_code 122 = .ok (.aload_n 0, 1) := by decide +kernel
theorem d_1_19_123 : decode prog_1_method_19_code 123 = .ok (.getfield 29, 3) := by decide +kernel
theorem d_1_19_126 : decode prog_1_method_19_code 126 = .ok (.iload_n 2, 1) := by decide +kernel
theorem d_1_19_127 : decode prog_1_method_19_code 127 = .ok (.aaload, 1) := by decide +kernel
theorem d_1_19_128 : decode prog_1_method_19_code 128 = .ok (.invokevirtual 346, 3) := by decide +kernel
set_option maxRecDepth 100000 in
theorem w_1686 : (Cond.code ({ cls := "NumberHouse$Printer", name := "canTake", desc := "(LNumberHouse$Dec;)Z" } : MethodName) prog_9_method_2_code (2 : Nat) (some .boolean)) ∈ q_tbl := q_of8 6 rfl (by decide +kernel)
set_option maxRecDepth 100000 in
theorem w_1683 : (Cond.methodLink "NumberHouse" (346 : Nat) ({ cls := "NumberHouse$Printer", name := "canTake", desc := "(LNumberHouse$Dec;)Z" } : MethodName)) ∈ q_tbl := q_of8 3 rfl (by decide +kernel)
set_option maxRecDepth 100000 in
theorem w_1684 : (Cond.instanceMethod ({ cls := "NumberHouse$Printer", name := "canTake", desc := "(LNumberHouse$Dec;)Z" } : MethodName)) ∈ q_tbl := q_of8 4 rfl (by decide +kernel)
set_option maxRecDepth 100000 in
theorem w_1685 : (Cond.selects "NumberHouse$Printer" ({ cls := "NumberHouse$Printer", name := "canTake", desc := "(LNumberHouse$Dec;)Z" } : MethodName) ({ cls := "NumberHouse$Printer", name := "canTake", desc := "(LNumberHouse$Dec;)Z" } : MethodName)) ∈ q_tbl := q_of8 5 rfl (by decide +kernel)
theorem LV_NH_346 : q_LV "NumberHouse" 346 y_Pri_canTake prog_9_method_2_code 2 (some .boolean) 1 := ⟨w_1686, w_12, w_1683, w_1684, w_1685, ⟨by decide, by decide, by decide +kernel⟩⟩
theorem d_1_19_131 : decode prog_1_method_19_code 131 = .ok (.ifCond .eq 7, 3) := by decide +kernel
theorem d_1_19_138 : decode prog_1_method_19_code 138 = .ok (.iconst 0, 1) := by decide +kernel
theorem d_1_19_105 : decode prog_1_method_19_code 105 = .ok (.iconst 1, 1) := by decide +kernel
theorem d_1_19_106 : decode prog_1_method_19_code 106 = .ok (.goto 4, 3) := by decide +kernel
theorem d_1_19_90 : decode prog_1_method_19_code 90 = .ok (.ifCond .ne 15, 3) := by decide +kernel
theorem d_1_19_93 : decode prog_1_method_19_code 93 = .ok (.aload_n 0, 1) := by decide +kernel
theorem d_1_19_94 : decode prog_1_method_19_code 94 = .ok (.getfield 23, 3) := by decide +kernel
theorem d_1_19_97 : decode prog_1_method_19_code 97 = .ok (.iload_n 2, 1) := by decide +kernel
theorem d_1_19_98 : decode prog_1_method_19_code 98 = .ok (.aaload, 1) := by decide +kernel
theorem d_1_19_99 : decode prog_1_method_19_code 99 = .ok (.invokevirtual 342, 3) := by decide +kernel
set_option maxRecDepth 100000 in
theorem w_1678 : (Cond.methodLink "NumberHouse" (342 : Nat) ({ cls := "NumberHouse$Big", name := "fitsLong", desc := "()Z" } : MethodName)) ∈ q_tbl := q_of7 238 rfl (by decide +kernel)
theorem LV_NH_342 : q_LV "NumberHouse" 342 y_Big_fitsLong prog_2_method_11_code 1 (some .boolean) 0 := ⟨w_1681, w_4, w_1678, w_1679, w_1680, ⟨by decide, by decide, by decide +kernel⟩⟩
theorem d_1_19_102 : decode prog_1_method_19_code 102 = .ok (.ifCond .eq 7, 3) := by decide +kernel
theorem d_1_19_109 : decode prog_1_method_19_code 109 = .ok (.iconst 0, 1) := by decide +kernel
theorem d_1_19_79 : decode prog_1_method_19_code 79 = .ok (.aload_n 0, 1) := by decide +kernel
theorem d_1_19_80 : decode prog_1_method_19_code 80 = .ok (.getfield 98, 3) := by decide +kernel
theorem d_1_19_83 : decode prog_1_method_19_code 83 = .ok (.iconst 0, 1) := by decide +kernel
theorem d_1_19_84 : decode prog_1_method_19_code 84 = .ok (.putfield 339, 3) := by decide +kernel
theorem d_1_19_87 : decode prog_1_method_19_code 87 = .ok (.iconst 0, 1) := by decide +kernel
theorem d_1_19_88 : decode prog_1_method_19_code 88 = .ok (.ireturn, 1) := by decide +kernel
theorem d_1_19_65 : decode prog_1_method_19_code 65 = .ok (.iconst 1, 1) := by decide +kernel
theorem d_1_19_66 : decode prog_1_method_19_code 66 = .ok (.goto 4, 3) := by decide +kernel
theorem d_1_19_51 : decode prog_1_method_19_code 51 = .ok (.if_icmp .ne 14, 3) := by decide +kernel
theorem d_1_19_54 : decode prog_1_method_19_code 54 = .ok (.iload_n 2, 1) := by decide +kernel
theorem d_1_19_69 : decode prog_1_method_19_code 69 = .ok (.iconst 0, 1) := by decide +kernel
theorem d_1_19_55 : decode prog_1_method_19_code 55 = .ok (.ifCond .lt 14, 3) := by decide +kernel
theorem d_1_19_58 : decode prog_1_method_19_code 58 = .ok (.iload_n 2, 1) := by decide +kernel
theorem d_1_19_59 : decode prog_1_method_19_code 59 = .ok (.sipush 255, 3) := by decide +kernel
theorem d_1_19_62 : decode prog_1_method_19_code 62 = .ok (.if_icmp .gt 7, 3) := by decide +kernel
theorem d_1_19_40 : decode prog_1_method_19_code 40 = .ok (.iconst 1, 1) := by decide +kernel
theorem d_1_19_41 : decode prog_1_method_19_code 41 = .ok (.goto 4, 3) := by decide +kernel
theorem d_1_19_30 : decode prog_1_method_19_code 30 = .ok (.if_icmp .gt 10, 3) := by decide +kernel
theorem d_1_19_33 : decode prog_1_method_19_code 33 = .ok (.iload_n 2, 1) := by decide +kernel
theorem d_1_19_34 : decode prog_1_method_19_code 34 = .ok (.invokestatic 212, 3) := by decide +kernel
theorem d_1_19_37 : decode prog_1_method_19_code 37 = .ok (.ifCond .eq 7, 3) := by decide +kernel
theorem d_1_19_44 : decode prog_1_method_19_code 44 = .ok (.iconst 0, 1) := by decide +kernel
theorem d_1_19_20 : decode prog_1_method_19_code 20 = .ok (.iconst 1, 1) := by decide +kernel
theorem d_1_19_21 : decode prog_1_method_19_code 21 = .ok (.goto 4, 3) := by decide +kernel
theorem d_1_19_1 : decode prog_1_method_19_code 1 = .ok (.ifCond .eq 19, 3) := by decide +kernel
theorem d_1_19_4 : decode prog_1_method_19_code 4 = .ok (.iload_n 1, 1) := by decide +kernel
theorem d_1_19_5 : decode prog_1_method_19_code 5 = .ok (.iconst 1, 1) := by decide +kernel
theorem d_1_19_6 : decode prog_1_method_19_code 6 = .ok (.if_icmp .eq 14, 3) := by decide +kernel
theorem d_1_19_9 : decode prog_1_method_19_code 9 = .ok (.iload_n 1, 1) := by decide +kernel
theorem d_1_19_10 : decode prog_1_method_19_code 10 = .ok (.iconst 4, 1) := by decide +kernel
theorem d_1_19_24 : decode prog_1_method_19_code 24 = .ok (.iconst 0, 1) := by decide +kernel
theorem d_1_19_11 : decode prog_1_method_19_code 11 = .ok (.if_icmp .lt 13, 3) := by decide +kernel
theorem d_1_19_14 : decode prog_1_method_19_code 14 = .ok (.iload_n 1, 1) := by decide +kernel
theorem d_1_19_15 : decode prog_1_method_19_code 15 = .ok (.bipush 8, 2) := by decide +kernel
theorem d_1_19_17 : decode prog_1_method_19_code 17 = .ok (.if_icmp .gt 7, 3) := by decide +kernel
def y_NH_argument : MethodName := ⟨"NumberHouse", "argument", "(II)I"⟩
def F_NH_argument_c188 (x2 : Int32) (x3 : Int32) (t0_0 : Int32) (t0_1 : Int32) (t0_2 : Int32) (t0_3 : Int32) (t1_0 : (Nat → Int32)) (t2_0 : (Nat → Int64)) (t3_0 : (Nat → Int32)) (t4_0 : Int32) (t5_0 : (Nat → Int64)) (t6_0 : Int32) (t7_0 : (Nat → Int64)) (t8_0 : Int32) (t9_0 : (Nat → Int64)) (t10_0 : Int32) (t11_0 : (Nat → Int64)) (t12_0 : Int32) (t13_0 : (Nat → Int64)) (t14_0 : Int32) (t15_0 : (Nat → Int64)) (t16_0 : Int32) (t17_0 : (Nat → Int64)) (t18_0 : Int32) (t19_0 : (Nat → Int64)) (t20_0 : Int32) (t21_0 : (Nat → Int64)) (t22_0 : Int32) (t23_0 : (Nat → Int64)) (t24_0 : Int32) (t24_1 : Int32) (t25_0 : (Nat → Int32)) (t26_0 : Int32) (t26_1 : Int32) (t27_0 : Int32) (t27_1 : Int32) (t28_0 : (Nat → Int32)) (lx88 : Int32) (lx135 : Int32) (lx182 : Int32) (lx231 : Int32) (lx278 : Int32) (p453 : (Int32 × Int32 × Int32 × Int32 × (Nat → Int32) × (Nat → Int64) × (Nat → Int32) × Int32 × Int32 × (Nat → Int64) × Int32 × (Nat → Int64) × Int32 × (Nat → Int64) × Int32 × (Nat → Int64) × Int32 × (Nat → Int64) × Int32 × (Nat → Int64) × Int32 × (Nat → Int64) × Int32 × (Nat → Int64) × Int32 × (Nat → Int64))) : Int32 × Int32 × Int32 × Int32 × Int32 × Int32 × (Nat → Int32) × (Nat → Int64) × (Nat → Int32) × Int32 × Int32 × (Nat → Int64) × Int32 × (Nat → Int64) × Int32 × (Nat → Int64) × Int32 × (Nat → Int64) × Int32 × (Nat → Int64) × Int32 × (Nat → Int64) × Int32 × (Nat → Int64) × Int32 × (Nat → Int64) × Int32 × (Nat → Int64) := ((0 : Int32), (p453.1 : Int32), (p453.1 : Int32), (p453.2.1 : Int32), (p453.2.2.1 : Int32), (p453.2.2.2.1 : Int32), (p453.2.2.2.2.1 : (Nat → Int32)), (p453.2.2.2.2.2.1 : (Nat → Int64)), (p453.2.2.2.2.2.2.1 : (Nat → Int32)), (p453.2.2.2.2.2.2.2.1 : Int32), (p453.2.2.2.2.2.2.2.2.1 : Int32), (p453.2.2.2.2.2.2.2.2.2.1 : (Nat → Int64)), (p453.2.2.2.2.2.2.2.2.2.2.1 : Int32), (p453.2.2.2.2.2.2.2.2.2.2.2.1 : (Nat → Int64)), (p453.2.2.2.2.2.2.2.2.2.2.2.2.1 : Int32), (p453.2.2.2.2.2.2.2.2.2.2.2.2.2.1 : (Nat → Int64)), (p453.2.2.2.2.2.2.2.2.2.2.2.2.2.2.1 : Int32), (p453.2.2.2.2.2.2.2.2.2.2.2.2.2.2.2.1 : (Nat → Int64)), (p453.2.2.2.2.2.2.2.2.2.2.2.2.2.2.2.2.1 : Int32), (p453.2.2.2.2.2.2.2.2.2.2.2.2.2.2.2.2.2.1 : (Nat → Int64)), (p453.2.2.2.2.2.2.2.2.2.2.2.2.2.2.2.2.2.2.1 : Int32), (p453.2.2.2.2.2.2.2.2.2.2.2.2.2.2.2.2.2.2.2.1 : (Nat → Int64)), (p453.2.2.2.2.2.2.2.2.2.2.2.2.2.2.2.2.2.2.2.2.1 : Int32), (p453.2.2.2.2.2.2.2.2.2.2.2.2.2.2.2.2.2.2.2.2.2.1 : (Nat → Int64)), (p453.2.2.2.2.2.2.2.2.2.2.2.2.2.2.2.2.2.2.2.2.2.2.1 : Int32), (p453.2.2.2.2.2.2.2.2.2.2.2.2.2.2.2.2.2.2.2.2.2.2.2.1 : (Nat → Int64)), (p453.2.2.2.2.2.2.2.2.2.2.2.2.2.2.2.2.2.2.2.2.2.2.2.2.1 : Int32), (p453.2.2.2.2.2.2.2.2.2.2.2.2.2.2.2.2.2.2.2.2.2.2.2.2.2 : (Nat → Int64)))
def F_NH_argument_J171 (x2 : Int32) (x3 : Int32) (t0_0 : Int32) (t0_1 : Int32) (t0_2 : Int32) (t0_3 : Int32) (t1_0 : (Nat → Int32)) (t2_0 : (Nat → Int64)) (t3_0 : (Nat → Int32)) (t4_0 : Int32) (t5_0 : (Nat → Int64)) (t6_0 : Int32) (t7_0 : (Nat → Int64)) (t8_0 : Int32) (t9_0 : (Nat → Int64)) (t10_0 : Int32) (t11_0 : (Nat → Int64)) (t12_0 : Int32) (t13_0 : (Nat → Int64)) (t14_0 : Int32) (t15_0 : (Nat → Int64)) (t16_0 : Int32) (t17_0 : (Nat → Int64)) (t18_0 : Int32) (t19_0 : (Nat → Int64)) (t20_0 : Int32) (t21_0 : (Nat → Int64)) (t22_0 : Int32) (t23_0 : (Nat → Int64)) (t24_0 : Int32) (t24_1 : Int32) (t25_0 : (Nat → Int32)) (t26_0 : Int32) (t26_1 : Int32) (t27_0 : Int32) (t27_1 : Int32) (t28_0 : (Nat → Int32)) (lx88 : Int32) (lx135 : Int32) (lx182 : Int32) (lx231 : Int32) (lx278 : Int32) : Int32 × Int32 × Int32 × Int32 × Int32 × Int32 × (Nat → Int32) × (Nat → Int64) × (Nat → Int32) × Int32 × Int32 × (Nat → Int64) × Int32 × (Nat → Int64) × Int32 × (Nat → Int64) × Int32 × (Nat → Int64) × Int32 × (Nat → Int64) × Int32 × (Nat → Int64) × Int32 × (Nat → Int64) × Int32 × (Nat → Int64) × Int32 × (Nat → Int64) := if t0_0 < (9 : Int32) then (F_NH_argument_c188 x2 x3 t0_0 t0_1 t0_2 t0_3 t1_0 t2_0 t3_0 t4_0 t5_0 t6_0 t7_0 t8_0 t9_0 t10_0 t11_0 t12_0 t13_0 t14_0 t15_0 t16_0 t17_0 t18_0 t19_0 t20_0 t21_0 t22_0 t23_0 t24_0 t24_1 t25_0 t26_0 t26_1 t27_0 t27_1 t28_0 lx88 lx135 lx182 lx231 lx278 ((F_NH_addArgument x2 x3 t0_0 t0_1 t0_2 t0_3 t1_0 t2_0 t3_0 t4_0 t5_0 t6_0 t7_0 t8_0 t9_0 t10_0 t11_0 t12_0 t13_0 t14_0 t15_0 t16_0 t17_0 t18_0 t19_0 t20_0 t21_0 t22_0 t23_0 t24_0 t24_1 t25_0 t26_0 t26_1 t27_0 t27_1 t28_0) : (Int32 × Int32 × Int32 × Int32 × (Nat → Int32) × (Nat → Int64) × (Nat → Int32) × Int32 × Int32 × (Nat → Int64) × Int32 × (Nat → Int64) × Int32 × (Nat → Int64) × Int32 × (Nat → Int64) × Int32 × (Nat → Int64) × Int32 × (Nat → Int64) × Int32 × (Nat → Int64) × Int32 × (Nat → Int64) × Int32 × (Nat → Int64)))) else (((0 : Int32), (-1 : Int32), t0_0, t0_1, t0_2, t0_3, t1_0, t2_0, t3_0, t4_0, t6_0, t7_0, t8_0, t9_0, t10_0, t11_0, t12_0, t13_0, t14_0, t15_0, t16_0, t17_0, t18_0, t19_0, t20_0, t21_0, t22_0, t23_0))
def F_NH_argument_J139 (x2 : Int32) (x3 : Int32) (t0_0 : Int32) (t0_1 : Int32) (t0_2 : Int32) (t0_3 : Int32) (t1_0 : (Nat → Int32)) (t2_0 : (Nat → Int64)) (t3_0 : (Nat → Int32)) (t4_0 : Int32) (t5_0 : (Nat → Int64)) (t6_0 : Int32) (t7_0 : (Nat → Int64)) (t8_0 : Int32) (t9_0 : (Nat → Int64)) (t10_0 : Int32) (t11_0 : (Nat → Int64)) (t12_0 : Int32) (t13_0 : (Nat → Int64)) (t14_0 : Int32) (t15_0 : (Nat → Int64)) (t16_0 : Int32) (t17_0 : (Nat → Int64)) (t18_0 : Int32) (t19_0 : (Nat → Int64)) (t20_0 : Int32) (t21_0 : (Nat → Int64)) (t22_0 : Int32) (t23_0 : (Nat → Int64)) (t24_0 : Int32) (t24_1 : Int32) (t25_0 : (Nat → Int32)) (t26_0 : Int32) (t26_1 : Int32) (t27_0 : Int32) (t27_1 : Int32) (t28_0 : (Nat → Int32)) (lx88 : Int32) (lx135 : Int32) (lx182 : Int32) (lx231 : Int32) (lx278 : Int32) : Int32 × Int32 × Int32 × Int32 × Int32 × Int32 × (Nat → Int32) × (Nat → Int64) × (Nat → Int32) × Int32 × Int32 × (Nat → Int64) × Int32 × (Nat → Int64) × Int32 × (Nat → Int64) × Int32 × (Nat → Int64) × Int32 × (Nat → Int64) × Int32 × (Nat → Int64) × Int32 × (Nat → Int64) × Int32 × (Nat → Int64) × Int32 × (Nat → Int64) := if (F_NH_canHave lx278) = (0 : Int32) then (if x2 = (7 : Int32) then (if t4_0 ≤ (64 : Int32) then (F_NH_argument_J171 x2 x3 t0_0 t0_1 t0_2 t0_3 t1_0 t2_0 t3_0 t4_0 t5_0 t6_0 t7_0 t8_0 t9_0 t10_0 t11_0 t12_0 t13_0 t14_0 t15_0 t16_0 t17_0 t18_0 t19_0 t20_0 t21_0 t22_0 t23_0 t24_0 t24_1 t25_0 t26_0 t26_1 t27_0 t27_1 t28_0 lx88 lx135 lx182 lx231 lx278) else (((3 : Int32), (0 : Int32), t0_0, t0_1, t0_2, t0_3, t1_0, t2_0, t3_0, t4_0, t6_0, t7_0, t8_0, t9_0, t10_0, t11_0, t12_0, t13_0, t14_0, t15_0, t16_0, t17_0, t18_0, t19_0, t20_0, t21_0, t22_0, t23_0))) else (F_NH_argument_J171 x2 x3 t0_0 t0_1 t0_2 t0_3 t1_0 t2_0 t3_0 t4_0 t5_0 t6_0 t7_0 t8_0 t9_0 t10_0 t11_0 t12_0 t13_0 t14_0 t15_0 t16_0 t17_0 t18_0 t19_0 t20_0 t21_0 t22_0 t23_0 t24_0 t24_1 t25_0 t26_0 t26_1 t27_0 t27_1 t28_0 lx88 lx135 lx182 lx231 lx278)) else (((F_NH_canHave lx278), (0 : Int32), t0_0, t0_1, t0_2, t0_3, t1_0, t2_0, t3_0, t4_0, t6_0, t7_0, t8_0, t9_0, t10_0, t11_0, t12_0, t13_0, t14_0, t15_0, t16_0, t17_0, t18_0, t19_0, t20_0, t21_0, t22_0, t23_0))
def F_NH_argument_J134 (x2 : Int32) (x3 : Int32) (t0_0 : Int32) (t0_1 : Int32) (t0_2 : Int32) (t0_3 : Int32) (t1_0 : (Nat → Int32)) (t2_0 : (Nat → Int64)) (t3_0 : (Nat → Int32)) (t4_0 : Int32) (t5_0 : (Nat → Int64)) (t6_0 : Int32) (t7_0 : (Nat → Int64)) (t8_0 : Int32) (t9_0 : (Nat → Int64)) (t10_0 : Int32) (t11_0 : (Nat → Int64)) (t12_0 : Int32) (t13_0 : (Nat → Int64)) (t14_0 : Int32) (t15_0 : (Nat → Int64)) (t16_0 : Int32) (t17_0 : (Nat → Int64)) (t18_0 : Int32) (t19_0 : (Nat → Int64)) (t20_0 : Int32) (t21_0 : (Nat → Int64)) (t22_0 : Int32) (t23_0 : (Nat → Int64)) (t24_0 : Int32) (t24_1 : Int32) (t25_0 : (Nat → Int32)) (t26_0 : Int32) (t26_1 : Int32) (t27_0 : Int32) (t27_1 : Int32) (t28_0 : (Nat → Int32)) (lx88 : Int32) (lx135 : Int32) (lx182 : Int32) (lx231 : Int32) : Int32 × Int32 × Int32 × Int32 × Int32 × Int32 × (Nat → Int32) × (Nat → Int64) × (Nat → Int32) × Int32 × Int32 × (Nat → Int64) × Int32 × (Nat → Int64) × Int32 × (Nat → Int64) × Int32 × (Nat → Int64) × Int32 × (Nat → Int64) × Int32 × (Nat → Int64) × Int32 × (Nat → Int64) × Int32 × (Nat → Int64) × Int32 × (Nat → Int64) := F_NH_argument_J139 x2 x3 t0_0 t0_1 t0_2 t0_3 t1_0 t2_0 t3_0 t4_0 t5_0 t6_0 t7_0 t8_0 t9_0 t10_0 t11_0 t12_0 t13_0 t14_0 t15_0 t16_0 t17_0 t18_0 t19_0 t20_0 t21_0 t22_0 t23_0 t24_0 t24_1 t25_0 t26_0 t26_1 t27_0 t27_1 t28_0 lx88 lx135 lx182 lx231 1
def F_NH_argument_J110 (x2 : Int32) (x3 : Int32) (t0_0 : Int32) (t0_1 : Int32) (t0_2 : Int32) (t0_3 : Int32) (t1_0 : (Nat → Int32)) (t2_0 : (Nat → Int64)) (t3_0 : (Nat → Int32)) (t4_0 : Int32) (t5_0 : (Nat → Int64)) (t6_0 : Int32) (t7_0 : (Nat → Int64)) (t8_0 : Int32) (t9_0 : (Nat → Int64)) (t10_0 : Int32) (t11_0 : (Nat → Int64)) (t12_0 : Int32) (t13_0 : (Nat → Int64)) (t14_0 : Int32) (t15_0 : (Nat → Int64)) (t16_0 : Int32) (t17_0 : (Nat → Int64)) (t18_0 : Int32) (t19_0 : (Nat → Int64)) (t20_0 : Int32) (t21_0 : (Nat → Int64)) (t22_0 : Int32) (t23_0 : (Nat → Int64)) (t24_0 : Int32) (t24_1 : Int32) (t25_0 : (Nat → Int32)) (t26_0 : Int32) (t26_1 : Int32) (t27_0 : Int32) (t27_1 : Int32) (t28_0 : (Nat → Int32)) (lx88 : Int32) (lx135 : Int32) (lx182 : Int32) (lx231 : Int32) : Int32 × Int32 × Int32 × Int32 × Int32 × Int32 × (Nat → Int32) × (Nat → Int64) × (Nat → Int32) × Int32 × Int32 × (Nat → Int64) × Int32 × (Nat → Int64) × Int32 × (Nat → Int64) × Int32 × (Nat → Int64) × Int32 × (Nat → Int64) × Int32 × (Nat → Int64) × Int32 × (Nat → Int64) × Int32 × (Nat → Int64) × Int32 × (Nat → Int64) := if (F_NH_canHave lx231) = (0 : Int32) then (if x2 = (1 : Int32) then (if ((F_Pri_canTake (108 : Int32) t26_0 t26_1 t27_0 t27_1 t28_0) : Int32) = (0 : Int32) then (F_NH_argument_J139 x2 x3 t0_0 t0_1 t0_2 t0_3 t1_0 t2_0 t3_0 t4_0 t5_0 t6_0 t7_0 t8_0 t9_0 t10_0 t11_0 t12_0 t13_0 t14_0 t15_0 t16_0 t17_0 t18_0 t19_0 t20_0 t21_0 t22_0 t23_0 t24_0 t24_1 t25_0 t26_0 t26_1 t27_0 t27_1 t28_0 lx88 lx135 lx182 lx231 0) else (F_NH_argument_J134 x2 x3 t0_0 t0_1 t0_2 t0_3 t1_0 t2_0 t3_0 t4_0 t5_0 t6_0 t7_0 t8_0 t9_0 t10_0 t11_0 t12_0 t13_0 t14_0 t15_0 t16_0 t17_0 t18_0 t19_0 t20_0 t21_0 t22_0 t23_0 t24_0 t24_1 t25_0 t26_0 t26_1 t27_0 t27_1 t28_0 lx88 lx135 lx182 lx231)) else (F_NH_argument_J134 x2 x3 t0_0 t0_1 t0_2 t0_3 t1_0 t2_0 t3_0 t4_0 t5_0 t6_0 t7_0 t8_0 t9_0 t10_0 t11_0 t12_0 t13_0 t14_0 t15_0 t16_0 t17_0 t18_0 t19_0 t20_0 t21_0 t22_0 t23_0 t24_0 t24_1 t25_0 t26_0 t26_1 t27_0 t27_1 t28_0 lx88 lx135 lx182 lx231)) else (((F_NH_canHave lx231), (0 : Int32), t0_0, t0_1, t0_2, t0_3, t1_0, t2_0, t3_0, t4_0, t6_0, t7_0, t8_0, t9_0, t10_0, t11_0, t12_0, t13_0, t14_0, t15_0, t16_0, t17_0, t18_0, t19_0, t20_0, t21_0, t22_0, t23_0))
def F_NH_argument_J105 (x2 : Int32) (x3 : Int32) (t0_0 : Int32) (t0_1 : Int32) (t0_2 : Int32) (t0_3 : Int32) (t1_0 : (Nat → Int32)) (t2_0 : (Nat → Int64)) (t3_0 : (Nat → Int32)) (t4_0 : Int32) (t5_0 : (Nat → Int64)) (t6_0 : Int32) (t7_0 : (Nat → Int64)) (t8_0 : Int32) (t9_0 : (Nat → Int64)) (t10_0 : Int32) (t11_0 : (Nat → Int64)) (t12_0 : Int32) (t13_0 : (Nat → Int64)) (t14_0 : Int32) (t15_0 : (Nat → Int64)) (t16_0 : Int32) (t17_0 : (Nat → Int64)) (t18_0 : Int32) (t19_0 : (Nat → Int64)) (t20_0 : Int32) (t21_0 : (Nat → Int64)) (t22_0 : Int32) (t23_0 : (Nat → Int64)) (t24_0 : Int32) (t24_1 : Int32) (t25_0 : (Nat → Int32)) (t26_0 : Int32) (t26_1 : Int32) (t27_0 : Int32) (t27_1 : Int32) (t28_0 : (Nat → Int32)) (lx88 : Int32) (lx135 : Int32) (lx182 : Int32) : Int32 × Int32 × Int32 × Int32 × Int32 × Int32 × (Nat → Int32) × (Nat → Int64) × (Nat → Int32) × Int32 × Int32 × (Nat → Int64) × Int32 × (Nat → Int64) × Int32 × (Nat → Int64) × Int32 × (Nat → Int64) × Int32 × (Nat → Int64) × Int32 × (Nat → Int64) × Int32 × (Nat → Int64) × Int32 × (Nat → Int64) × Int32 × (Nat → Int64) := F_NH_argument_J110 x2 x3 t0_0 t0_1 t0_2 t0_3 t1_0 t2_0 t3_0 t4_0 t5_0 t6_0 t7_0 t8_0 t9_0 t10_0 t11_0 t12_0 t13_0 t14_0 t15_0 t16_0 t17_0 t18_0 t19_0 t20_0 t21_0 t22_0 t23_0 t24_0 t24_1 t25_0 t26_0 t26_1 t27_0 t27_1 t28_0 lx88 lx135 lx182 1
def F_NH_argument_J70 (x2 : Int32) (x3 : Int32) (t0_0 : Int32) (t0_1 : Int32) (t0_2 : Int32) (t0_3 : Int32) (t1_0 : (Nat → Int32)) (t2_0 : (Nat → Int64)) (t3_0 : (Nat → Int32)) (t4_0 : Int32) (t5_0 : (Nat → Int64)) (t6_0 : Int32) (t7_0 : (Nat → Int64)) (t8_0 : Int32) (t9_0 : (Nat → Int64)) (t10_0 : Int32) (t11_0 : (Nat → Int64)) (t12_0 : Int32) (t13_0 : (Nat → Int64)) (t14_0 : Int32) (t15_0 : (Nat → Int64)) (t16_0 : Int32) (t17_0 : (Nat → Int64)) (t18_0 : Int32) (t19_0 : (Nat → Int64)) (t20_0 : Int32) (t21_0 : (Nat → Int64)) (t22_0 : Int32) (t23_0 : (Nat → Int64)) (t24_0 : Int32) (t24_1 : Int32) (t25_0 : (Nat → Int32)) (t26_0 : Int32) (t26_1 : Int32) (t27_0 : Int32) (t27_1 : Int32) (t28_0 : (Nat → Int32)) (lx88 : Int32) (lx135 : Int32) (lx182 : Int32) : Int32 × Int32 × Int32 × Int32 × Int32 × Int32 × (Nat → Int32) × (Nat → Int64) × (Nat → Int32) × Int32 × Int32 × (Nat → Int64) × Int32 × (Nat → Int64) × Int32 × (Nat → Int64) × Int32 × (Nat → Int64) × Int32 × (Nat → Int64) × Int32 × (Nat → Int64) × Int32 × (Nat → Int64) × Int32 × (Nat → Int64) × Int32 × (Nat → Int64) := if (F_NH_need lx182) = (0 : Int32) then (if x2 = (8 : Int32) then (((0 : Int32), (0 : Int32), (0 : Int32), t0_1, t0_2, t0_3, t1_0, t2_0, t3_0, t4_0, t6_0, t7_0, t8_0, t9_0, t10_0, t11_0, t12_0, t13_0, t14_0, t15_0, t16_0, t17_0, t18_0, t19_0, t20_0, t21_0, t22_0, t23_0)) else (if x2 = (0 : Int32) then (if ((F_Big_fitsLong (68 : Int32) t24_0 t24_1 t25_0) : Int32) = (0 : Int32) then (F_NH_argument_J110 x2 x3 t0_0 t0_1 t0_2 t0_3 t1_0 t2_0 t3_0 t4_0 t5_0 t6_0 t7_0 t8_0 t9_0 t10_0 t11_0 t12_0 t13_0 t14_0 t15_0 t16_0 t17_0 t18_0 t19_0 t20_0 t21_0 t22_0 t23_0 t24_0 t24_1 t25_0 t26_0 t26_1 t27_0 t27_1 t28_0 lx88 lx135 lx182 0) else (F_NH_argument_J105 x2 x3 t0_0 t0_1 t0_2 t0_3 t1_0 t2_0 t3_0 t4_0 t5_0 t6_0 t7_0 t8_0 t9_0 t10_0 t11_0 t12_0 t13_0 t14_0 t15_0 t16_0 t17_0 t18_0 t19_0 t20_0 t21_0 t22_0 t23_0 t24_0 t24_1 t25_0 t26_0 t26_1 t27_0 t27_1 t28_0 lx88 lx135 lx182)) else (F_NH_argument_J105 x2 x3 t0_0 t0_1 t0_2 t0_3 t1_0 t2_0 t3_0 t4_0 t5_0 t6_0 t7_0 t8_0 t9_0 t10_0 t11_0 t12_0 t13_0 t14_0 t15_0 t16_0 t17_0 t18_0 t19_0 t20_0 t21_0 t22_0 t23_0 t24_0 t24_1 t25_0 t26_0 t26_1 t27_0 t27_1 t28_0 lx88 lx135 lx182))) else (((F_NH_need lx182), (0 : Int32), t0_0, t0_1, t0_2, t0_3, t1_0, t2_0, t3_0, t4_0, t6_0, t7_0, t8_0, t9_0, t10_0, t11_0, t12_0, t13_0, t14_0, t15_0, t16_0, t17_0, t18_0, t19_0, t20_0, t21_0, t22_0, t23_0))
def F_NH_argument_J65 (x2 : Int32) (x3 : Int32) (t0_0 : Int32) (t0_1 : Int32) (t0_2 : Int32) (t0_3 : Int32) (t1_0 : (Nat → Int32)) (t2_0 : (Nat → Int64)) (t3_0 : (Nat → Int32)) (t4_0 : Int32) (t5_0 : (Nat → Int64)) (t6_0 : Int32) (t7_0 : (Nat → Int64)) (t8_0 : Int32) (t9_0 : (Nat → Int64)) (t10_0 : Int32) (t11_0 : (Nat → Int64)) (t12_0 : Int32) (t13_0 : (Nat → Int64)) (t14_0 : Int32) (t15_0 : (Nat → Int64)) (t16_0 : Int32) (t17_0 : (Nat → Int64)) (t18_0 : Int32) (t19_0 : (Nat → Int64)) (t20_0 : Int32) (t21_0 : (Nat → Int64)) (t22_0 : Int32) (t23_0 : (Nat → Int64)) (t24_0 : Int32) (t24_1 : Int32) (t25_0 : (Nat → Int32)) (t26_0 : Int32) (t26_1 : Int32) (t27_0 : Int32) (t27_1 : Int32) (t28_0 : (Nat → Int32)) (lx88 : Int32) (lx135 : Int32) : Int32 × Int32 × Int32 × Int32 × Int32 × Int32 × (Nat → Int32) × (Nat → Int64) × (Nat → Int32) × Int32 × Int32 × (Nat → Int64) × Int32 × (Nat → Int64) × Int32 × (Nat → Int64) × Int32 × (Nat → Int64) × Int32 × (Nat → Int64) × Int32 × (Nat → Int64) × Int32 × (Nat → Int64) × Int32 × (Nat → Int64) × Int32 × (Nat → Int64) := F_NH_argument_J70 x2 x3 t0_0 t0_1 t0_2 t0_3 t1_0 t2_0 t3_0 t4_0 t5_0 t6_0 t7_0 t8_0 t9_0 t10_0 t11_0 t12_0 t13_0 t14_0 t15_0 t16_0 t17_0 t18_0 t19_0 t20_0 t21_0 t22_0 t23_0 t24_0 t24_1 t25_0 t26_0 t26_1 t27_0 t27_1 t28_0 lx88 lx135 1
def F_NH_argument_J69 (x2 : Int32) (x3 : Int32) (t0_0 : Int32) (t0_1 : Int32) (t0_2 : Int32) (t0_3 : Int32) (t1_0 : (Nat → Int32)) (t2_0 : (Nat → Int64)) (t3_0 : (Nat → Int32)) (t4_0 : Int32) (t5_0 : (Nat → Int64)) (t6_0 : Int32) (t7_0 : (Nat → Int64)) (t8_0 : Int32) (t9_0 : (Nat → Int64)) (t10_0 : Int32) (t11_0 : (Nat → Int64)) (t12_0 : Int32) (t13_0 : (Nat → Int64)) (t14_0 : Int32) (t15_0 : (Nat → Int64)) (t16_0 : Int32) (t17_0 : (Nat → Int64)) (t18_0 : Int32) (t19_0 : (Nat → Int64)) (t20_0 : Int32) (t21_0 : (Nat → Int64)) (t22_0 : Int32) (t23_0 : (Nat → Int64)) (t24_0 : Int32) (t24_1 : Int32) (t25_0 : (Nat → Int32)) (t26_0 : Int32) (t26_1 : Int32) (t27_0 : Int32) (t27_1 : Int32) (t28_0 : (Nat → Int32)) (lx88 : Int32) (lx135 : Int32) : Int32 × Int32 × Int32 × Int32 × Int32 × Int32 × (Nat → Int32) × (Nat → Int64) × (Nat → Int32) × Int32 × Int32 × (Nat → Int64) × Int32 × (Nat → Int64) × Int32 × (Nat → Int64) × Int32 × (Nat → Int64) × Int32 × (Nat → Int64) × Int32 × (Nat → Int64) × Int32 × (Nat → Int64) × Int32 × (Nat → Int64) × Int32 × (Nat → Int64) := F_NH_argument_J70 x2 x3 t0_0 t0_1 t0_2 t0_3 t1_0 t2_0 t3_0 t4_0 t5_0 t6_0 t7_0 t8_0 t9_0 t10_0 t11_0 t12_0 t13_0 t14_0 t15_0 t16_0 t17_0 t18_0 t19_0 t20_0 t21_0 t22_0 t23_0 t24_0 t24_1 t25_0 t26_0 t26_1 t27_0 t27_1 t28_0 lx88 lx135 0
def F_NH_argument_J45 (x2 : Int32) (x3 : Int32) (t0_0 : Int32) (t0_1 : Int32) (t0_2 : Int32) (t0_3 : Int32) (t1_0 : (Nat → Int32)) (t2_0 : (Nat → Int64)) (t3_0 : (Nat → Int32)) (t4_0 : Int32) (t5_0 : (Nat → Int64)) (t6_0 : Int32) (t7_0 : (Nat → Int64)) (t8_0 : Int32) (t9_0 : (Nat → Int64)) (t10_0 : Int32) (t11_0 : (Nat → Int64)) (t12_0 : Int32) (t13_0 : (Nat → Int64)) (t14_0 : Int32) (t15_0 : (Nat → Int64)) (t16_0 : Int32) (t17_0 : (Nat → Int64)) (t18_0 : Int32) (t19_0 : (Nat → Int64)) (t20_0 : Int32) (t21_0 : (Nat → Int64)) (t22_0 : Int32) (t23_0 : (Nat → Int64)) (t24_0 : Int32) (t24_1 : Int32) (t25_0 : (Nat → Int32)) (t26_0 : Int32) (t26_1 : Int32) (t27_0 : Int32) (t27_1 : Int32) (t28_0 : (Nat → Int32)) (lx88 : Int32) (lx135 : Int32) : Int32 × Int32 × Int32 × Int32 × Int32 × Int32 × (Nat → Int32) × (Nat → Int64) × (Nat → Int32) × Int32 × Int32 × (Nat → Int64) × Int32 × (Nat → Int64) × Int32 × (Nat → Int64) × Int32 × (Nat → Int64) × Int32 × (Nat → Int64) × Int32 × (Nat → Int64) × Int32 × (Nat → Int64) × Int32 × (Nat → Int64) × Int32 × (Nat → Int64) := if (F_NH_need lx135) = (0 : Int32) then (if x2 = (6 : Int32) then (if x3 < (0 : Int32) then (F_NH_argument_J69 x2 x3 t0_0 t0_1 t0_2 t0_3 t1_0 t2_0 t3_0 t4_0 t5_0 t6_0 t7_0 t8_0 t9_0 t10_0 t11_0 t12_0 t13_0 t14_0 t15_0 t16_0 t17_0 t18_0 t19_0 t20_0 t21_0 t22_0 t23_0 t24_0 t24_1 t25_0 t26_0 t26_1 t27_0 t27_1 t28_0 lx88 lx135) else (if (255 : Int32) < x3 then (F_NH_argument_J69 x2 x3 t0_0 t0_1 t0_2 t0_3 t1_0 t2_0 t3_0 t4_0 t5_0 t6_0 t7_0 t8_0 t9_0 t10_0 t11_0 t12_0 t13_0 t14_0 t15_0 t16_0 t17_0 t18_0 t19_0 t20_0 t21_0 t22_0 t23_0 t24_0 t24_1 t25_0 t26_0 t26_1 t27_0 t27_1 t28_0 lx88 lx135) else (F_NH_argument_J65 x2 x3 t0_0 t0_1 t0_2 t0_3 t1_0 t2_0 t3_0 t4_0 t5_0 t6_0 t7_0 t8_0 t9_0 t10_0 t11_0 t12_0 t13_0 t14_0 t15_0 t16_0 t17_0 t18_0 t19_0 t20_0 t21_0 t22_0 t23_0 t24_0 t24_1 t25_0 t26_0 t26_1 t27_0 t27_1 t28_0 lx88 lx135))) else (F_NH_argument_J65 x2 x3 t0_0 t0_1 t0_2 t0_3 t1_0 t2_0 t3_0 t4_0 t5_0 t6_0 t7_0 t8_0 t9_0 t10_0 t11_0 t12_0 t13_0 t14_0 t15_0 t16_0 t17_0 t18_0 t19_0 t20_0 t21_0 t22_0 t23_0 t24_0 t24_1 t25_0 t26_0 t26_1 t27_0 t27_1 t28_0 lx88 lx135)) else (((F_NH_need lx135), (0 : Int32), t0_0, t0_1, t0_2, t0_3, t1_0, t2_0, t3_0, t4_0, t6_0, t7_0, t8_0, t9_0, t10_0, t11_0, t12_0, t13_0, t14_0, t15_0, t16_0, t17_0, t18_0, t19_0, t20_0, t21_0, t22_0, t23_0))
def F_NH_argument_J40 (x2 : Int32) (x3 : Int32) (t0_0 : Int32) (t0_1 : Int32) (t0_2 : Int32) (t0_3 : Int32) (t1_0 : (Nat → Int32)) (t2_0 : (Nat → Int64)) (t3_0 : (Nat → Int32)) (t4_0 : Int32) (t5_0 : (Nat → Int64)) (t6_0 : Int32) (t7_0 : (Nat → Int64)) (t8_0 : Int32) (t9_0 : (Nat → Int64)) (t10_0 : Int32) (t11_0 : (Nat → Int64)) (t12_0 : Int32) (t13_0 : (Nat → Int64)) (t14_0 : Int32) (t15_0 : (Nat → Int64)) (t16_0 : Int32) (t17_0 : (Nat → Int64)) (t18_0 : Int32) (t19_0 : (Nat → Int64)) (t20_0 : Int32) (t21_0 : (Nat → Int64)) (t22_0 : Int32) (t23_0 : (Nat → Int64)) (t24_0 : Int32) (t24_1 : Int32) (t25_0 : (Nat → Int32)) (t26_0 : Int32) (t26_1 : Int32) (t27_0 : Int32) (t27_1 : Int32) (t28_0 : (Nat → Int32)) (lx88 : Int32) : Int32 × Int32 × Int32 × Int32 × Int32 × Int32 × (Nat → Int32) × (Nat → Int64) × (Nat → Int32) × Int32 × Int32 × (Nat → Int64) × Int32 × (Nat → Int64) × Int32 × (Nat → Int64) × Int32 × (Nat → Int64) × Int32 × (Nat → Int64) × Int32 × (Nat → Int64) × Int32 × (Nat → Int64) × Int32 × (Nat → Int64) × Int32 × (Nat → Int64) := F_NH_argument_J45 x2 x3 t0_0 t0_1 t0_2 t0_3 t1_0 t2_0 t3_0 t4_0 t5_0 t6_0 t7_0 t8_0 t9_0 t10_0 t11_0 t12_0 t13_0 t14_0 t15_0 t16_0 t17_0 t18_0 t19_0 t20_0 t21_0 t22_0 t23_0 t24_0 t24_1 t25_0 t26_0 t26_1 t27_0 t27_1 t28_0 lx88 1
def F_NH_argument_J25 (x2 : Int32) (x3 : Int32) (t0_0 : Int32) (t0_1 : Int32) (t0_2 : Int32) (t0_3 : Int32) (t1_0 : (Nat → Int32)) (t2_0 : (Nat → Int64)) (t3_0 : (Nat → Int32)) (t4_0 : Int32) (t5_0 : (Nat → Int64)) (t6_0 : Int32) (t7_0 : (Nat → Int64)) (t8_0 : Int32) (t9_0 : (Nat → Int64)) (t10_0 : Int32) (t11_0 : (Nat → Int64)) (t12_0 : Int32) (t13_0 : (Nat → Int64)) (t14_0 : Int32) (t15_0 : (Nat → Int64)) (t16_0 : Int32) (t17_0 : (Nat → Int64)) (t18_0 : Int32) (t19_0 : (Nat → Int64)) (t20_0 : Int32) (t21_0 : (Nat → Int64)) (t22_0 : Int32) (t23_0 : (Nat → Int64)) (t24_0 : Int32) (t24_1 : Int32) (t25_0 : (Nat → Int32)) (t26_0 : Int32) (t26_1 : Int32) (t27_0 : Int32) (t27_1 : Int32) (t28_0 : (Nat → Int32)) (lx88 : Int32) : Int32 × Int32 × Int32 × Int32 × Int32 × Int32 × (Nat → Int32) × (Nat → Int64) × (Nat → Int32) × Int32 × Int32 × (Nat → Int64) × Int32 × (Nat → Int64) × Int32 × (Nat → Int64) × Int32 × (Nat → Int64) × Int32 × (Nat → Int64) × Int32 × (Nat → Int64) × Int32 × (Nat → Int64) × Int32 × (Nat → Int64) × Int32 × (Nat → Int64) := if (F_NH_need lx88) = (0 : Int32) then (if (1 : Int32) < x2 then (F_NH_argument_J40 x2 x3 t0_0 t0_1 t0_2 t0_3 t1_0 t2_0 t3_0 t4_0 t5_0 t6_0 t7_0 t8_0 t9_0 t10_0 t11_0 t12_0 t13_0 t14_0 t15_0 t16_0 t17_0 t18_0 t19_0 t20_0 t21_0 t22_0 t23_0 t24_0 t24_1 t25_0 t26_0 t26_1 t27_0 t27_1 t28_0 lx88) else (if ((F_NH_isRegister x3) : Int32) = (0 : Int32) then (F_NH_argument_J45 x2 x3 t0_0 t0_1 t0_2 t0_3 t1_0 t2_0 t3_0 t4_0 t5_0 t6_0 t7_0 t8_0 t9_0 t10_0 t11_0 t12_0 t13_0 t14_0 t15_0 t16_0 t17_0 t18_0 t19_0 t20_0 t21_0 t22_0 t23_0 t24_0 t24_1 t25_0 t26_0 t26_1 t27_0 t27_1 t28_0 lx88 0) else (F_NH_argument_J40 x2 x3 t0_0 t0_1 t0_2 t0_3 t1_0 t2_0 t3_0 t4_0 t5_0 t6_0 t7_0 t8_0 t9_0 t10_0 t11_0 t12_0 t13_0 t14_0 t15_0 t16_0 t17_0 t18_0 t19_0 t20_0 t21_0 t22_0 t23_0 t24_0 t24_1 t25_0 t26_0 t26_1 t27_0 t27_1 t28_0 lx88))) else (((F_NH_need lx88), (0 : Int32), t0_0, t0_1, t0_2, t0_3, t1_0, t2_0, t3_0, t4_0, t6_0, t7_0, t8_0, t9_0, t10_0, t11_0, t12_0, t13_0, t14_0, t15_0, t16_0, t17_0, t18_0, t19_0, t20_0, t21_0, t22_0, t23_0))
def F_NH_argument_J20 (x2 : Int32) (x3 : Int32) (t0_0 : Int32) (t0_1 : Int32) (t0_2 : Int32) (t0_3 : Int32) (t1_0 : (Nat → Int32)) (t2_0 : (Nat → Int64)) (t3_0 : (Nat → Int32)) (t4_0 : Int32) (t5_0 : (Nat → Int64)) (t6_0 : Int32) (t7_0 : (Nat → Int64)) (t8_0 : Int32) (t9_0 : (Nat → Int64)) (t10_0 : Int32) (t11_0 : (Nat → Int64)) (t12_0 : Int32) (t13_0 : (Nat → Int64)) (t14_0 : Int32) (t15_0 : (Nat → Int64)) (t16_0 : Int32) (t17_0 : (Nat → Int64)) (t18_0 : Int32) (t19_0 : (Nat → Int64)) (t20_0 : Int32) (t21_0 : (Nat → Int64)) (t22_0 : Int32) (t23_0 : (Nat → Int64)) (t24_0 : Int32) (t24_1 : Int32) (t25_0 : (Nat → Int32)) (t26_0 : Int32) (t26_1 : Int32) (t27_0 : Int32) (t27_1 : Int32) (t28_0 : (Nat → Int32)) : Int32 × Int32 × Int32 × Int32 × Int32 × Int32 × (Nat → Int32) × (Nat → Int64) × (Nat → Int32) × Int32 × Int32 × (Nat → Int64) × Int32 × (Nat → Int64) × Int32 × (Nat → Int64) × Int32 × (Nat → Int64) × Int32 × (Nat → Int64) × Int32 × (Nat → Int64) × Int32 × (Nat → Int64) × Int32 × (Nat → Int64) × Int32 × (Nat → Int64) := F_NH_argument_J25 x2 x3 t0_0 t0_1 t0_2 t0_3 t1_0 t2_0 t3_0 t4_0 t5_0 t6_0 t7_0 t8_0 t9_0 t10_0 t11_0 t12_0 t13_0 t14_0 t15_0 t16_0 t17_0 t18_0 t19_0 t20_0 t21_0 t22_0 t23_0 t24_0 t24_1 t25_0 t26_0 t26_1 t27_0 t27_1 t28_0 1
def F_NH_argument_J24 (x2 : Int32) (x3 : Int32) (t0_0 : Int32) (t0_1 : Int32) (t0_2 : Int32) (t0_3 : Int32) (t1_0 : (Nat → Int32)) (t2_0 : (Nat → Int64)) (t3_0 : (Nat → Int32)) (t4_0 : Int32) (t5_0 : (Nat → Int64)) (t6_0 : Int32) (t7_0 : (Nat → Int64)) (t8_0 : Int32) (t9_0 : (Nat → Int64)) (t10_0 : Int32) (t11_0 : (Nat → Int64)) (t12_0 : Int32) (t13_0 : (Nat → Int64)) (t14_0 : Int32) (t15_0 : (Nat → Int64)) (t16_0 : Int32) (t17_0 : (Nat → Int64)) (t18_0 : Int32) (t19_0 : (Nat → Int64)) (t20_0 : Int32) (t21_0 : (Nat → Int64)) (t22_0 : Int32) (t23_0 : (Nat → Int64)) (t24_0 : Int32) (t24_1 : Int32) (t25_0 : (Nat → Int32)) (t26_0 : Int32) (t26_1 : Int32) (t27_0 : Int32) (t27_1 : Int32) (t28_0 : (Nat → Int32)) : Int32 × Int32 × Int32 × Int32 × Int32 × Int32 × (Nat → Int32) × (Nat → Int64) × (Nat → Int32) × Int32 × Int32 × (Nat → Int64) × Int32 × (Nat → Int64) × Int32 × (Nat → Int64) × Int32 × (Nat → Int64) × Int32 × (Nat → Int64) × Int32 × (Nat → Int64) × Int32 × (Nat → Int64) × Int32 × (Nat → Int64) × Int32 × (Nat → Int64) := F_NH_argument_J25 x2 x3 t0_0 t0_1 t0_2 t0_3 t1_0 t2_0 t3_0 t4_0 t5_0 t6_0 t7_0 t8_0 t9_0 t10_0 t11_0 t12_0 t13_0 t14_0 t15_0 t16_0 t17_0 t18_0 t19_0 t20_0 t21_0 t22_0 t23_0 t24_0 t24_1 t25_0 t26_0 t26_1 t27_0 t27_1 t28_0 0
def F_NH_argument (x2 : Int32) (x3 : Int32) (t0_0 : Int32) (t0_1 : Int32) (t0_2 : Int32) (t0_3 : Int32) (t1_0 : (Nat → Int32)) (t2_0 : (Nat → Int64)) (t3_0 : (Nat → Int32)) (t4_0 : Int32) (t5_0 : (Nat → Int64)) (t6_0 : Int32) (t7_0 : (Nat → Int64)) (t8_0 : Int32) (t9_0 : (Nat → Int64)) (t10_0 : Int32) (t11_0 : (Nat → Int64)) (t12_0 : Int32) (t13_0 : (Nat → Int64)) (t14_0 : Int32) (t15_0 : (Nat → Int64)) (t16_0 : Int32) (t17_0 : (Nat → Int64)) (t18_0 : Int32) (t19_0 : (Nat → Int64)) (t20_0 : Int32) (t21_0 : (Nat → Int64)) (t22_0 : Int32) (t23_0 : (Nat → Int64)) (t24_0 : Int32) (t24_1 : Int32) (t25_0 : (Nat → Int32)) (t26_0 : Int32) (t26_1 : Int32) (t27_0 : Int32) (t27_1 : Int32) (t28_0 : (Nat → Int32)) : Int32 × Int32 × Int32 × Int32 × Int32 × Int32 × (Nat → Int32) × (Nat → Int64) × (Nat → Int32) × Int32 × Int32 × (Nat → Int64) × Int32 × (Nat → Int64) × Int32 × (Nat → Int64) × Int32 × (Nat → Int64) × Int32 × (Nat → Int64) × Int32 × (Nat → Int64) × Int32 × (Nat → Int64) × Int32 × (Nat → Int64) × Int32 × (Nat → Int64) := if x2 = (0 : Int32) then (F_NH_argument_J20 x2 x3 t0_0 t0_1 t0_2 t0_3 t1_0 t2_0 t3_0 t4_0 t5_0 t6_0 t7_0 t8_0 t9_0 t10_0 t11_0 t12_0 t13_0 t14_0 t15_0 t16_0 t17_0 t18_0 t19_0 t20_0 t21_0 t22_0 t23_0 t24_0 t24_1 t25_0 t26_0 t26_1 t27_0 t27_1 t28_0) else (if x2 = (1 : Int32) then (F_NH_argument_J20 x2 x3 t0_0 t0_1 t0_2 t0_3 t1_0 t2_0 t3_0 t4_0 t5_0 t6_0 t7_0 t8_0 t9_0 t10_0 t11_0 t12_0 t13_0 t14_0 t15_0 t16_0 t17_0 t18_0 t19_0 t20_0 t21_0 t22_0 t23_0 t24_0 t24_1 t25_0 t26_0 t26_1 t27_0 t27_1 t28_0) else (if x2 < (4 : Int32) then (F_NH_argument_J24 x2 x3 t0_0 t0_1 t0_2 t0_3 t1_0 t2_0 t3_0 t4_0 t5_0 t6_0 t7_0 t8_0 t9_0 t10_0 t11_0 t12_0 t13_0 t14_0 t15_0 t16_0 t17_0 t18_0 t19_0 t20_0 t21_0 t22_0 t23_0 t24_0 t24_1 t25_0 t26_0 t26_1 t27_0 t27_1 t28_0) else (if (8 : Int32) < x2 then (F_NH_argument_J24 x2 x3 t0_0 t0_1 t0_2 t0_3 t1_0 t2_0 t3_0 t4_0 t5_0 t6_0 t7_0 t8_0 t9_0 t10_0 t11_0 t12_0 t13_0 t14_0 t15_0 t16_0 t17_0 t18_0 t19_0 t20_0 t21_0 t22_0 t23_0 t24_0 t24_1 t25_0 t26_0 t26_1 t27_0 t27_1 t28_0) else (F_NH_argument_J20 x2 x3 t0_0 t0_1 t0_2 t0_3 t1_0 t2_0 t3_0 t4_0 t5_0 t6_0 t7_0 t8_0 t9_0 t10_0 t11_0 t12_0 t13_0 t14_0 t15_0 t16_0 t17_0 t18_0 t19_0 t20_0 t21_0 t22_0 t23_0 t24_0 t24_1 t25_0 t26_0 t26_1 t27_0 t27_1 t28_0))))
def S_NH_argument_c188 (x2 : Int32) (x3 : Int32) (t0_0 : Int32) (t0_1 : Int32) (t0_2 : Int32) (t0_3 : Int32) (t1_0 : (Nat → Int32)) (t2_0 : (Nat → Int64)) (t3_0 : (Nat → Int32)) (t4_0 : Int32) (t5_0 : (Nat → Int64)) (t6_0 : Int32) (t7_0 : (Nat → Int64)) (t8_0 : Int32) (t9_0 : (Nat → Int64)) (t10_0 : Int32) (t11_0 : (Nat → Int64)) (t12_0 : Int32) (t13_0 : (Nat → Int64)) (t14_0 : Int32) (t15_0 : (Nat → Int64)) (t16_0 : Int32) (t17_0 : (Nat → Int64)) (t18_0 : Int32) (t19_0 : (Nat → Int64)) (t20_0 : Int32) (t21_0 : (Nat → Int64)) (t22_0 : Int32) (t23_0 : (Nat → Int64)) (t24_0 : Int32) (t24_1 : Int32) (t25_0 : (Nat → Int32)) (t26_0 : Int32) (t26_1 : Int32) (t27_0 : Int32) (t27_1 : Int32) (t28_0 : (Nat → Int32)) (lx88 : Int32) (lx135 : Int32) (lx182 : Int32) (lx231 : Int32) (lx278 : Int32) (p453 : (Int32 × Int32 × Int32 × Int32 × (Nat → Int32) × (Nat → Int64) × (Nat → Int32) × Int32 × Int32 × (Nat → Int64) × Int32 × (Nat → Int64) × Int32 × (Nat → Int64) × Int32 × (Nat → Int64) × Int32 × (Nat → Int64) × Int32 × (Nat → Int64) × Int32 × (Nat → Int64) × Int32 × (Nat → Int64) × Int32 × (Nat → Int64))) : Prop := True
def S_NH_argument_J171 (x2 : Int32) (x3 : Int32) (t0_0 : Int32) (t0_1 : Int32) (t0_2 : Int32) (t0_3 : Int32) (t1_0 : (Nat → Int32)) (t2_0 : (Nat → Int64)) (t3_0 : (Nat → Int32)) (t4_0 : Int32) (t5_0 : (Nat → Int64)) (t6_0 : Int32) (t7_0 : (Nat → Int64)) (t8_0 : Int32) (t9_0 : (Nat → Int64)) (t10_0 : Int32) (t11_0 : (Nat → Int64)) (t12_0 : Int32) (t13_0 : (Nat → Int64)) (t14_0 : Int32) (t15_0 : (Nat → Int64)) (t16_0 : Int32) (t17_0 : (Nat → Int64)) (t18_0 : Int32) (t19_0 : (Nat → Int64)) (t20_0 : Int32) (t21_0 : (Nat → Int64)) (t22_0 : Int32) (t23_0 : (Nat → Int64)) (t24_0 : Int32) (t24_1 : Int32) (t25_0 : (Nat → Int32)) (t26_0 : Int32) (t26_1 : Int32) (t27_0 : Int32) (t27_1 : Int32) (t28_0 : (Nat → Int32)) (lx88 : Int32) (lx135 : Int32) (lx182 : Int32) (lx231 : Int32) (lx278 : Int32) : Prop := if t0_0 < (9 : Int32) then ((True ∧ S_NH_addArgument x2 x3 t0_0 t0_1 t0_2 t0_3 t1_0 t2_0 t3_0 t4_0 t5_0 t6_0 t7_0 t8_0 t9_0 t10_0 t11_0 t12_0 t13_0 t14_0 t15_0 t16_0 t17_0 t18_0 t19_0 t20_0 t21_0 t22_0 t23_0 t24_0 t24_1 t25_0 t26_0 t26_1 t27_0 t27_1 t28_0) ∧ (S_NH_argument_c188 x2 x3 t0_0 t0_1 t0_2 t0_3 t1_0 t2_0 t3_0 t4_0 t5_0 t6_0 t7_0 t8_0 t9_0 t10_0 t11_0 t12_0 t13_0 t14_0 t15_0 t16_0 t17_0 t18_0 t19_0 t20_0 t21_0 t22_0 t23_0 t24_0 t24_1 t25_0 t26_0 t26_1 t27_0 t27_1 t28_0 lx88 lx135 lx182 lx231 lx278 ((F_NH_addArgument x2 x3 t0_0 t0_1 t0_2 t0_3 t1_0 t2_0 t3_0 t4_0 t5_0 t6_0 t7_0 t8_0 t9_0 t10_0 t11_0 t12_0 t13_0 t14_0 t15_0 t16_0 t17_0 t18_0 t19_0 t20_0 t21_0 t22_0 t23_0 t24_0 t24_1 t25_0 t26_0 t26_1 t27_0 t27_1 t28_0) : (Int32 × Int32 × Int32 × Int32 × (Nat → Int32) × (Nat → Int64) × (Nat → Int32) × Int32 × Int32 × (Nat → Int64) × Int32 × (Nat → Int64) × Int32 × (Nat → Int64) × Int32 × (Nat → Int64) × Int32 × (Nat → Int64) × Int32 × (Nat → Int64) × Int32 × (Nat → Int64) × Int32 × (Nat → Int64) × Int32 × (Nat → Int64))))) else (True)
def S_NH_argument_J139 (x2 : Int32) (x3 : Int32) (t0_0 : Int32) (t0_1 : Int32) (t0_2 : Int32) (t0_3 : Int32) (t1_0 : (Nat → Int32)) (t2_0 : (Nat → Int64)) (t3_0 : (Nat → Int32)) (t4_0 : Int32) (t5_0 : (Nat → Int64)) (t6_0 : Int32) (t7_0 : (Nat → Int64)) (t8_0 : Int32) (t9_0 : (Nat → Int64)) (t10_0 : Int32) (t11_0 : (Nat → Int64)) (t12_0 : Int32) (t13_0 : (Nat → Int64)) (t14_0 : Int32) (t15_0 : (Nat → Int64)) (t16_0 : Int32) (t17_0 : (Nat → Int64)) (t18_0 : Int32) (t19_0 : (Nat → Int64)) (t20_0 : Int32) (t21_0 : (Nat → Int64)) (t22_0 : Int32) (t23_0 : (Nat → Int64)) (t24_0 : Int32) (t24_1 : Int32) (t25_0 : (Nat → Int32)) (t26_0 : Int32) (t26_1 : Int32) (t27_0 : Int32) (t27_1 : Int32) (t28_0 : (Nat → Int32)) (lx88 : Int32) (lx135 : Int32) (lx182 : Int32) (lx231 : Int32) (lx278 : Int32) : Prop := if (F_NH_canHave lx278) = (0 : Int32) then (if x2 = (7 : Int32) then (if t4_0 ≤ (64 : Int32) then (S_NH_argument_J171 x2 x3 t0_0 t0_1 t0_2 t0_3 t1_0 t2_0 t3_0 t4_0 t5_0 t6_0 t7_0 t8_0 t9_0 t10_0 t11_0 t12_0 t13_0 t14_0 t15_0 t16_0 t17_0 t18_0 t19_0 t20_0 t21_0 t22_0 t23_0 t24_0 t24_1 t25_0 t26_0 t26_1 t27_0 t27_1 t28_0 lx88 lx135 lx182 lx231 lx278) else (True)) else (S_NH_argument_J171 x2 x3 t0_0 t0_1 t0_2 t0_3 t1_0 t2_0 t3_0 t4_0 t5_0 t6_0 t7_0 t8_0 t9_0 t10_0 t11_0 t12_0 t13_0 t14_0 t15_0 t16_0 t17_0 t18_0 t19_0 t20_0 t21_0 t22_0 t23_0 t24_0 t24_1 t25_0 t26_0 t26_1 t27_0 t27_1 t28_0 lx88 lx135 lx182 lx231 lx278)) else (True)
def S_NH_argument_J134 (x2 : Int32) (x3 : Int32) (t0_0 : Int32) (t0_1 : Int32) (t0_2 : Int32) (t0_3 : Int32) (t1_0 : (Nat → Int32)) (t2_0 : (Nat → Int64)) (t3_0 : (Nat → Int32)) (t4_0 : Int32) (t5_0 : (Nat → Int64)) (t6_0 : Int32) (t7_0 : (Nat → Int64)) (t8_0 : Int32) (t9_0 : (Nat → Int64)) (t10_0 : Int32) (t11_0 : (Nat → Int64)) (t12_0 : Int32) (t13_0 : (Nat → Int64)) (t14_0 : Int32) (t15_0 : (Nat → Int64)) (t16_0 : Int32) (t17_0 : (Nat → Int64)) (t18_0 : Int32) (t19_0 : (Nat → Int64)) (t20_0 : Int32) (t21_0 : (Nat → Int64)) (t22_0 : Int32) (t23_0 : (Nat → Int64)) (t24_0 : Int32) (t24_1 : Int32) (t25_0 : (Nat → Int32)) (t26_0 : Int32) (t26_1 : Int32) (t27_0 : Int32) (t27_1 : Int32) (t28_0 : (Nat → Int32)) (lx88 : Int32) (lx135 : Int32) (lx182 : Int32) (lx231 : Int32) : Prop := S_NH_argument_J139 x2 x3 t0_0 t0_1 t0_2 t0_3 t1_0 t2_0 t3_0 t4_0 t5_0 t6_0 t7_0 t8_0 t9_0 t10_0 t11_0 t12_0 t13_0 t14_0 t15_0 t16_0 t17_0 t18_0 t19_0 t20_0 t21_0 t22_0 t23_0 t24_0 t24_1 t25_0 t26_0 t26_1 t27_0 t27_1 t28_0 lx88 lx135 lx182 lx231 1
def S_NH_argument_J110 (x2 : Int32) (x3 : Int32) (t0_0 : Int32) (t0_1 : Int32) (t0_2 : Int32) (t0_3 : Int32) (t1_0 : (Nat → Int32)) (t2_0 : (Nat → Int64)) (t3_0 : (Nat → Int32)) (t4_0 : Int32) (t5_0 : (Nat → Int64)) (t6_0 : Int32) (t7_0 : (Nat → Int64)) (t8_0 : Int32) (t9_0 : (Nat → Int64)) (t10_0 : Int32) (t11_0 : (Nat → Int64)) (t12_0 : Int32) (t13_0 : (Nat → Int64)) (t14_0 : Int32) (t15_0 : (Nat → Int64)) (t16_0 : Int32) (t17_0 : (Nat → Int64)) (t18_0 : Int32) (t19_0 : (Nat → Int64)) (t20_0 : Int32) (t21_0 : (Nat → Int64)) (t22_0 : Int32) (t23_0 : (Nat → Int64)) (t24_0 : Int32) (t24_1 : Int32) (t25_0 : (Nat → Int32)) (t26_0 : Int32) (t26_1 : Int32) (t27_0 : Int32) (t27_1 : Int32) (t28_0 : (Nat → Int32)) (lx88 : Int32) (lx135 : Int32) (lx182 : Int32) (lx231 : Int32) : Prop := if (F_NH_canHave lx231) = (0 : Int32) then (if x2 = (1 : Int32) then ((0 ≤ x3.toInt) ∧ ((x3.toInt ≤ 9) ∧ (if ((F_Pri_canTake (108 : Int32) t26_0 t26_1 t27_0 t27_1 t28_0) : Int32) = (0 : Int32) then (S_NH_argument_J139 x2 x3 t0_0 t0_1 t0_2 t0_3 t1_0 t2_0 t3_0 t4_0 t5_0 t6_0 t7_0 t8_0 t9_0 t10_0 t11_0 t12_0 t13_0 t14_0 t15_0 t16_0 t17_0 t18_0 t19_0 t20_0 t21_0 t22_0 t23_0 t24_0 t24_1 t25_0 t26_0 t26_1 t27_0 t27_1 t28_0 lx88 lx135 lx182 lx231 0) else (S_NH_argument_J134 x2 x3 t0_0 t0_1 t0_2 t0_3 t1_0 t2_0 t3_0 t4_0 t5_0 t6_0 t7_0 t8_0 t9_0 t10_0 t11_0 t12_0 t13_0 t14_0 t15_0 t16_0 t17_0 t18_0 t19_0 t20_0 t21_0 t22_0 t23_0 t24_0 t24_1 t25_0 t26_0 t26_1 t27_0 t27_1 t28_0 lx88 lx135 lx182 lx231)))) else (S_NH_argument_J134 x2 x3 t0_0 t0_1 t0_2 t0_3 t1_0 t2_0 t3_0 t4_0 t5_0 t6_0 t7_0 t8_0 t9_0 t10_0 t11_0 t12_0 t13_0 t14_0 t15_0 t16_0 t17_0 t18_0 t19_0 t20_0 t21_0 t22_0 t23_0 t24_0 t24_1 t25_0 t26_0 t26_1 t27_0 t27_1 t28_0 lx88 lx135 lx182 lx231)) else (True)
def S_NH_argument_J105 (x2 : Int32) (x3 : Int32) (t0_0 : Int32) (t0_1 : Int32) (t0_2 : Int32) (t0_3 : Int32) (t1_0 : (Nat → Int32)) (t2_0 : (Nat → Int64)) (t3_0 : (Nat → Int32)) (t4_0 : Int32) (t5_0 : (Nat → Int64)) (t6_0 : Int32) (t7_0 : (Nat → Int64)) (t8_0 : Int32) (t9_0 : (Nat → Int64)) (t10_0 : Int32) (t11_0 : (Nat → Int64)) (t12_0 : Int32) (t13_0 : (Nat → Int64)) (t14_0 : Int32) (t15_0 : (Nat → Int64)) (t16_0 : Int32) (t17_0 : (Nat → Int64)) (t18_0 : Int32) (t19_0 : (Nat → Int64)) (t20_0 : Int32) (t21_0 : (Nat → Int64)) (t22_0 : Int32) (t23_0 : (Nat → Int64)) (t24_0 : Int32) (t24_1 : Int32) (t25_0 : (Nat → Int32)) (t26_0 : Int32) (t26_1 : Int32) (t27_0 : Int32) (t27_1 : Int32) (t28_0 : (Nat → Int32)) (lx88 : Int32) (lx135 : Int32) (lx182 : Int32) : Prop := S_NH_argument_J110 x2 x3 t0_0 t0_1 t0_2 t0_3 t1_0 t2_0 t3_0 t4_0 t5_0 t6_0 t7_0 t8_0 t9_0 t10_0 t11_0 t12_0 t13_0 t14_0 t15_0 t16_0 t17_0 t18_0 t19_0 t20_0 t21_0 t22_0 t23_0 t24_0 t24_1 t25_0 t26_0 t26_1 t27_0 t27_1 t28_0 lx88 lx135 lx182 1
def S_NH_argument_J70 (x2 : Int32) (x3 : Int32) (t0_0 : Int32) (t0_1 : Int32) (t0_2 : Int32) (t0_3 : Int32) (t1_0 : (Nat → Int32)) (t2_0 : (Nat → Int64)) (t3_0 : (Nat → Int32)) (t4_0 : Int32) (t5_0 : (Nat → Int64)) (t6_0 : Int32) (t7_0 : (Nat → Int64)) (t8_0 : Int32) (t9_0 : (Nat → Int64)) (t10_0 : Int32) (t11_0 : (Nat → Int64)) (t12_0 : Int32) (t13_0 : (Nat → Int64)) (t14_0 : Int32) (t15_0 : (Nat → Int64)) (t16_0 : Int32) (t17_0 : (Nat → Int64)) (t18_0 : Int32) (t19_0 : (Nat → Int64)) (t20_0 : Int32) (t21_0 : (Nat → Int64)) (t22_0 : Int32) (t23_0 : (Nat → Int64)) (t24_0 : Int32) (t24_1 : Int32) (t25_0 : (Nat → Int32)) (t26_0 : Int32) (t26_1 : Int32) (t27_0 : Int32) (t27_1 : Int32) (t28_0 : (Nat → Int32)) (lx88 : Int32) (lx135 : Int32) (lx182 : Int32) : Prop := if (F_NH_need lx182) = (0 : Int32) then (if x2 = (8 : Int32) then (True) else (if x2 = (0 : Int32) then ((0 ≤ x3.toInt) ∧ ((x3.toInt ≤ 9) ∧ (if ((F_Big_fitsLong (68 : Int32) t24_0 t24_1 t25_0) : Int32) = (0 : Int32) then (S_NH_argument_J110 x2 x3 t0_0 t0_1 t0_2 t0_3 t1_0 t2_0 t3_0 t4_0 t5_0 t6_0 t7_0 t8_0 t9_0 t10_0 t11_0 t12_0 t13_0 t14_0 t15_0 t16_0 t17_0 t18_0 t19_0 t20_0 t21_0 t22_0 t23_0 t24_0 t24_1 t25_0 t26_0 t26_1 t27_0 t27_1 t28_0 lx88 lx135 lx182 0) else (S_NH_argument_J105 x2 x3 t0_0 t0_1 t0_2 t0_3 t1_0 t2_0 t3_0 t4_0 t5_0 t6_0 t7_0 t8_0 t9_0 t10_0 t11_0 t12_0 t13_0 t14_0 t15_0 t16_0 t17_0 t18_0 t19_0 t20_0 t21_0 t22_0 t23_0 t24_0 t24_1 t25_0 t26_0 t26_1 t27_0 t27_1 t28_0 lx88 lx135 lx182)))) else (S_NH_argument_J105 x2 x3 t0_0 t0_1 t0_2 t0_3 t1_0 t2_0 t3_0 t4_0 t5_0 t6_0 t7_0 t8_0 t9_0 t10_0 t11_0 t12_0 t13_0 t14_0 t15_0 t16_0 t17_0 t18_0 t19_0 t20_0 t21_0 t22_0 t23_0 t24_0 t24_1 t25_0 t26_0 t26_1 t27_0 t27_1 t28_0 lx88 lx135 lx182))) else (True)
def S_NH_argument_J65 (x2 : Int32) (x3 : Int32) (t0_0 : Int32) (t0_1 : Int32) (t0_2 : Int32) (t0_3 : Int32) (t1_0 : (Nat → Int32)) (t2_0 : (Nat → Int64)) (t3_0 : (Nat → Int32)) (t4_0 : Int32) (t5_0 : (Nat → Int64)) (t6_0 : Int32) (t7_0 : (Nat → Int64)) (t8_0 : Int32) (t9_0 : (Nat → Int64)) (t10_0 : Int32) (t11_0 : (Nat → Int64)) (t12_0 : Int32) (t13_0 : (Nat → Int64)) (t14_0 : Int32) (t15_0 : (Nat → Int64)) (t16_0 : Int32) (t17_0 : (Nat → Int64)) (t18_0 : Int32) (t19_0 : (Nat → Int64)) (t20_0 : Int32) (t21_0 : (Nat → Int64)) (t22_0 : Int32) (t23_0 : (Nat → Int64)) (t24_0 : Int32) (t24_1 : Int32) (t25_0 : (Nat → Int32)) (t26_0 : Int32) (t26_1 : Int32) (t27_0 : Int32) (t27_1 : Int32) (t28_0 : (Nat → Int32)) (lx88 : Int32) (lx135 : Int32) : Prop := S_NH_argument_J70 x2 x3 t0_0 t0_1 t0_2 t0_3 t1_0 t2_0 t3_0 t4_0 t5_0 t6_0 t7_0 t8_0 t9_0 t10_0 t11_0 t12_0 t13_0 t14_0 t15_0 t16_0 t17_0 t18_0 t19_0 t20_0 t21_0 t22_0 t23_0 t24_0 t24_1 t25_0 t26_0 t26_1 t27_0 t27_1 t28_0 lx88 lx135 1
def S_NH_argument_J69 (x2 : Int32) (x3 : Int32) (t0_0 : Int32) (t0_1 : Int32) (t0_2 : Int32) (t0_3 : Int32) (t1_0 : (Nat → Int32)) (t2_0 : (Nat → Int64)) (t3_0 : (Nat → Int32)) (t4_0 : Int32) (t5_0 : (Nat → Int64)) (t6_0 : Int32) (t7_0 : (Nat → Int64)) (t8_0 : Int32) (t9_0 : (Nat → Int64)) (t10_0 : Int32) (t11_0 : (Nat → Int64)) (t12_0 : Int32) (t13_0 : (Nat → Int64)) (t14_0 : Int32) (t15_0 : (Nat → Int64)) (t16_0 : Int32) (t17_0 : (Nat → Int64)) (t18_0 : Int32) (t19_0 : (Nat → Int64)) (t20_0 : Int32) (t21_0 : (Nat → Int64)) (t22_0 : Int32) (t23_0 : (Nat → Int64)) (t24_0 : Int32) (t24_1 : Int32) (t25_0 : (Nat → Int32)) (t26_0 : Int32) (t26_1 : Int32) (t27_0 : Int32) (t27_1 : Int32) (t28_0 : (Nat → Int32)) (lx88 : Int32) (lx135 : Int32) : Prop := S_NH_argument_J70 x2 x3 t0_0 t0_1 t0_2 t0_3 t1_0 t2_0 t3_0 t4_0 t5_0 t6_0 t7_0 t8_0 t9_0 t10_0 t11_0 t12_0 t13_0 t14_0 t15_0 t16_0 t17_0 t18_0 t19_0 t20_0 t21_0 t22_0 t23_0 t24_0 t24_1 t25_0 t26_0 t26_1 t27_0 t27_1 t28_0 lx88 lx135 0
def S_NH_argument_J45 (x2 : Int32) (x3 : Int32) (t0_0 : Int32) (t0_1 : Int32) (t0_2 : Int32) (t0_3 : Int32) (t1_0 : (Nat → Int32)) (t2_0 : (Nat → Int64)) (t3_0 : (Nat → Int32)) (t4_0 : Int32) (t5_0 : (Nat → Int64)) (t6_0 : Int32) (t7_0 : (Nat → Int64)) (t8_0 : Int32) (t9_0 : (Nat → Int64)) (t10_0 : Int32) (t11_0 : (Nat → Int64)) (t12_0 : Int32) (t13_0 : (Nat → Int64)) (t14_0 : Int32) (t15_0 : (Nat → Int64)) (t16_0 : Int32) (t17_0 : (Nat → Int64)) (t18_0 : Int32) (t19_0 : (Nat → Int64)) (t20_0 : Int32) (t21_0 : (Nat → Int64)) (t22_0 : Int32) (t23_0 : (Nat → Int64)) (t24_0 : Int32) (t24_1 : Int32) (t25_0 : (Nat → Int32)) (t26_0 : Int32) (t26_1 : Int32) (t27_0 : Int32) (t27_1 : Int32) (t28_0 : (Nat → Int32)) (lx88 : Int32) (lx135 : Int32) : Prop := if (F_NH_need lx135) = (0 : Int32) then (if x2 = (6 : Int32) then (if x3 < (0 : Int32) then (S_NH_argument_J69 x2 x3 t0_0 t0_1 t0_2 t0_3 t1_0 t2_0 t3_0 t4_0 t5_0 t6_0 t7_0 t8_0 t9_0 t10_0 t11_0 t12_0 t13_0 t14_0 t15_0 t16_0 t17_0 t18_0 t19_0 t20_0 t21_0 t22_0 t23_0 t24_0 t24_1 t25_0 t26_0 t26_1 t27_0 t27_1 t28_0 lx88 lx135) else (if (255 : Int32) < x3 then (S_NH_argument_J69 x2 x3 t0_0 t0_1 t0_2 t0_3 t1_0 t2_0 t3_0 t4_0 t5_0 t6_0 t7_0 t8_0 t9_0 t10_0 t11_0 t12_0 t13_0 t14_0 t15_0 t16_0 t17_0 t18_0 t19_0 t20_0 t21_0 t22_0 t23_0 t24_0 t24_1 t25_0 t26_0 t26_1 t27_0 t27_1 t28_0 lx88 lx135) else (S_NH_argument_J65 x2 x3 t0_0 t0_1 t0_2 t0_3 t1_0 t2_0 t3_0 t4_0 t5_0 t6_0 t7_0 t8_0 t9_0 t10_0 t11_0 t12_0 t13_0 t14_0 t15_0 t16_0 t17_0 t18_0 t19_0 t20_0 t21_0 t22_0 t23_0 t24_0 t24_1 t25_0 t26_0 t26_1 t27_0 t27_1 t28_0 lx88 lx135))) else (S_NH_argument_J65 x2 x3 t0_0 t0_1 t0_2 t0_3 t1_0 t2_0 t3_0 t4_0 t5_0 t6_0 t7_0 t8_0 t9_0 t10_0 t11_0 t12_0 t13_0 t14_0 t15_0 t16_0 t17_0 t18_0 t19_0 t20_0 t21_0 t22_0 t23_0 t24_0 t24_1 t25_0 t26_0 t26_1 t27_0 t27_1 t28_0 lx88 lx135)) else (True)
def S_NH_argument_J40 (x2 : Int32) (x3 : Int32) (t0_0 : Int32) (t0_1 : Int32) (t0_2 : Int32) (t0_3 : Int32) (t1_0 : (Nat → Int32)) (t2_0 : (Nat → Int64)) (t3_0 : (Nat → Int32)) (t4_0 : Int32) (t5_0 : (Nat → Int64)) (t6_0 : Int32) (t7_0 : (Nat → Int64)) (t8_0 : Int32) (t9_0 : (Nat → Int64)) (t10_0 : Int32) (t11_0 : (Nat → Int64)) (t12_0 : Int32) (t13_0 : (Nat → Int64)) (t14_0 : Int32) (t15_0 : (Nat → Int64)) (t16_0 : Int32) (t17_0 : (Nat → Int64)) (t18_0 : Int32) (t19_0 : (Nat → Int64)) (t20_0 : Int32) (t21_0 : (Nat → Int64)) (t22_0 : Int32) (t23_0 : (Nat → Int64)) (t24_0 : Int32) (t24_1 : Int32) (t25_0 : (Nat → Int32)) (t26_0 : Int32) (t26_1 : Int32) (t27_0 : Int32) (t27_1 : Int32) (t28_0 : (Nat → Int32)) (lx88 : Int32) : Prop := S_NH_argument_J45 x2 x3 t0_0 t0_1 t0_2 t0_3 t1_0 t2_0 t3_0 t4_0 t5_0 t6_0 t7_0 t8_0 t9_0 t10_0 t11_0 t12_0 t13_0 t14_0 t15_0 t16_0 t17_0 t18_0 t19_0 t20_0 t21_0 t22_0 t23_0 t24_0 t24_1 t25_0 t26_0 t26_1 t27_0 t27_1 t28_0 lx88 1
def S_NH_argument_J25 (x2 : Int32) (x3 : Int32) (t0_0 : Int32) (t0_1 : Int32) (t0_2 : Int32) (t0_3 : Int32) (t1_0 : (Nat → Int32)) (t2_0 : (Nat → Int64)) (t3_0 : (Nat → Int32)) (t4_0 : Int32) (t5_0 : (Nat → Int64)) (t6_0 : Int32) (t7_0 : (Nat → Int64)) (t8_0 : Int32) (t9_0 : (Nat → Int64)) (t10_0 : Int32) (t11_0 : (Nat → Int64)) (t12_0 : Int32) (t13_0 : (Nat → Int64)) (t14_0 : Int32) (t15_0 : (Nat → Int64)) (t16_0 : Int32) (t17_0 : (Nat → Int64)) (t18_0 : Int32) (t19_0 : (Nat → Int64)) (t20_0 : Int32) (t21_0 : (Nat → Int64)) (t22_0 : Int32) (t23_0 : (Nat → Int64)) (t24_0 : Int32) (t24_1 : Int32) (t25_0 : (Nat → Int32)) (t26_0 : Int32) (t26_1 : Int32) (t27_0 : Int32) (t27_1 : Int32) (t28_0 : (Nat → Int32)) (lx88 : Int32) : Prop := if (F_NH_need lx88) = (0 : Int32) then (if (1 : Int32) < x2 then (S_NH_argument_J40 x2 x3 t0_0 t0_1 t0_2 t0_3 t1_0 t2_0 t3_0 t4_0 t5_0 t6_0 t7_0 t8_0 t9_0 t10_0 t11_0 t12_0 t13_0 t14_0 t15_0 t16_0 t17_0 t18_0 t19_0 t20_0 t21_0 t22_0 t23_0 t24_0 t24_1 t25_0 t26_0 t26_1 t27_0 t27_1 t28_0 lx88) else (if ((F_NH_isRegister x3) : Int32) = (0 : Int32) then (S_NH_argument_J45 x2 x3 t0_0 t0_1 t0_2 t0_3 t1_0 t2_0 t3_0 t4_0 t5_0 t6_0 t7_0 t8_0 t9_0 t10_0 t11_0 t12_0 t13_0 t14_0 t15_0 t16_0 t17_0 t18_0 t19_0 t20_0 t21_0 t22_0 t23_0 t24_0 t24_1 t25_0 t26_0 t26_1 t27_0 t27_1 t28_0 lx88 0) else (S_NH_argument_J40 x2 x3 t0_0 t0_1 t0_2 t0_3 t1_0 t2_0 t3_0 t4_0 t5_0 t6_0 t7_0 t8_0 t9_0 t10_0 t11_0 t12_0 t13_0 t14_0 t15_0 t16_0 t17_0 t18_0 t19_0 t20_0 t21_0 t22_0 t23_0 t24_0 t24_1 t25_0 t26_0 t26_1 t27_0 t27_1 t28_0 lx88))) else (True)
def S_NH_argument_J20 (x2 : Int32) (x3 : Int32) (t0_0 : Int32) (t0_1 : Int32) (t0_2 : Int32) (t0_3 : Int32) (t1_0 : (Nat → Int32)) (t2_0 : (Nat → Int64)) (t3_0 : (Nat → Int32)) (t4_0 : Int32) (t5_0 : (Nat → Int64)) (t6_0 : Int32) (t7_0 : (Nat → Int64)) (t8_0 : Int32) (t9_0 : (Nat → Int64)) (t10_0 : Int32) (t11_0 : (Nat → Int64)) (t12_0 : Int32) (t13_0 : (Nat → Int64)) (t14_0 : Int32) (t15_0 : (Nat → Int64)) (t16_0 : Int32) (t17_0 : (Nat → Int64)) (t18_0 : Int32) (t19_0 : (Nat → Int64)) (t20_0 : Int32) (t21_0 : (Nat → Int64)) (t22_0 : Int32) (t23_0 : (Nat → Int64)) (t24_0 : Int32) (t24_1 : Int32) (t25_0 : (Nat → Int32)) (t26_0 : Int32) (t26_1 : Int32) (t27_0 : Int32) (t27_1 : Int32) (t28_0 : (Nat → Int32)) : Prop := S_NH_argument_J25 x2 x3 t0_0 t0_1 t0_2 t0_3 t1_0 t2_0 t3_0 t4_0 t5_0 t6_0 t7_0 t8_0 t9_0 t10_0 t11_0 t12_0 t13_0 t14_0 t15_0 t16_0 t17_0 t18_0 t19_0 t20_0 t21_0 t22_0 t23_0 t24_0 t24_1 t25_0 t26_0 t26_1 t27_0 t27_1 t28_0 1
def S_NH_argument_J24 (x2 : Int32) (x3 : Int32) (t0_0 : Int32) (t0_1 : Int32) (t0_2 : Int32) (t0_3 : Int32) (t1_0 : (Nat → Int32)) (t2_0 : (Nat → Int64)) (t3_0 : (Nat → Int32)) (t4_0 : Int32) (t5_0 : (Nat → Int64)) (t6_0 : Int32) (t7_0 : (Nat → Int64)) (t8_0 : Int32) (t9_0 : (Nat → Int64)) (t10_0 : Int32) (t11_0 : (Nat → Int64)) (t12_0 : Int32) (t13_0 : (Nat → Int64)) (t14_0 : Int32) (t15_0 : (Nat → Int64)) (t16_0 : Int32) (t17_0 : (Nat → Int64)) (t18_0 : Int32) (t19_0 : (Nat → Int64)) (t20_0 : Int32) (t21_0 : (Nat → Int64)) (t22_0 : Int32) (t23_0 : (Nat → Int64)) (t24_0 : Int32) (t24_1 : Int32) (t25_0 : (Nat → Int32)) (t26_0 : Int32) (t26_1 : Int32) (t27_0 : Int32) (t27_1 : Int32) (t28_0 : (Nat → Int32)) : Prop := S_NH_argument_J25 x2 x3 t0_0 t0_1 t0_2 t0_3 t1_0 t2_0 t3_0 t4_0 t5_0 t6_0 t7_0 t8_0 t9_0 t10_0 t11_0 t12_0 t13_0 t14_0 t15_0 t16_0 t17_0 t18_0 t19_0 t20_0 t21_0 t22_0 t23_0 t24_0 t24_1 t25_0 t26_0 t26_1 t27_0 t27_1 t28_0 0
def S_NH_argument (x2 : Int32) (x3 : Int32) (t0_0 : Int32) (t0_1 : Int32) (t0_2 : Int32) (t0_3 : Int32) (t1_0 : (Nat → Int32)) (t2_0 : (Nat → Int64)) (t3_0 : (Nat → Int32)) (t4_0 : Int32) (t5_0 : (Nat → Int64)) (t6_0 : Int32) (t7_0 : (Nat → Int64)) (t8_0 : Int32) (t9_0 : (Nat → Int64)) (t10_0 : Int32) (t11_0 : (Nat → Int64)) (t12_0 : Int32) (t13_0 : (Nat → Int64)) (t14_0 : Int32) (t15_0 : (Nat → Int64)) (t16_0 : Int32) (t17_0 : (Nat → Int64)) (t18_0 : Int32) (t19_0 : (Nat → Int64)) (t20_0 : Int32) (t21_0 : (Nat → Int64)) (t22_0 : Int32) (t23_0 : (Nat → Int64)) (t24_0 : Int32) (t24_1 : Int32) (t25_0 : (Nat → Int32)) (t26_0 : Int32) (t26_1 : Int32) (t27_0 : Int32) (t27_1 : Int32) (t28_0 : (Nat → Int32)) : Prop := if x2 = (0 : Int32) then (S_NH_argument_J20 x2 x3 t0_0 t0_1 t0_2 t0_3 t1_0 t2_0 t3_0 t4_0 t5_0 t6_0 t7_0 t8_0 t9_0 t10_0 t11_0 t12_0 t13_0 t14_0 t15_0 t16_0 t17_0 t18_0 t19_0 t20_0 t21_0 t22_0 t23_0 t24_0 t24_1 t25_0 t26_0 t26_1 t27_0 t27_1 t28_0) else (if x2 = (1 : Int32) then (S_NH_argument_J20 x2 x3 t0_0 t0_1 t0_2 t0_3 t1_0 t2_0 t3_0 t4_0 t5_0 t6_0 t7_0 t8_0 t9_0 t10_0 t11_0 t12_0 t13_0 t14_0 t15_0 t16_0 t17_0 t18_0 t19_0 t20_0 t21_0 t22_0 t23_0 t24_0 t24_1 t25_0 t26_0 t26_1 t27_0 t27_1 t28_0) else (if x2 < (4 : Int32) then (S_NH_argument_J24 x2 x3 t0_0 t0_1 t0_2 t0_3 t1_0 t2_0 t3_0 t4_0 t5_0 t6_0 t7_0 t8_0 t9_0 t10_0 t11_0 t12_0 t13_0 t14_0 t15_0 t16_0 t17_0 t18_0 t19_0 t20_0 t21_0 t22_0 t23_0 t24_0 t24_1 t25_0 t26_0 t26_1 t27_0 t27_1 t28_0) else (if (8 : Int32) < x2 then (S_NH_argument_J24 x2 x3 t0_0 t0_1 t0_2 t0_3 t1_0 t2_0 t3_0 t4_0 t5_0 t6_0 t7_0 t8_0 t9_0 t10_0 t11_0 t12_0 t13_0 t14_0 t15_0 t16_0 t17_0 t18_0 t19_0 t20_0 t21_0 t22_0 t23_0 t24_0 t24_1 t25_0 t26_0 t26_1 t27_0 t27_1 t28_0) else (S_NH_argument_J20 x2 x3 t0_0 t0_1 t0_2 t0_3 t1_0 t2_0 t3_0 t4_0 t5_0 t6_0 t7_0 t8_0 t9_0 t10_0 t11_0 t12_0 t13_0 t14_0 t15_0 t16_0 t17_0 t18_0 t19_0 t20_0 t21_0 t22_0 t23_0 t24_0 t24_1 t25_0 t26_0 t26_1 t27_0 t27_1 t28_0))))
set_option maxRecDepth 100000 in
set_option maxHeartbeats 4000000 in
theorem X_NH_argument (l : Launch) (D : va_G) (g : Nat → ClassId) (q : Nat → Nat) (ws : va_W) (x2 : Int32) (x3 : Int32) (k3 : Nat) (hBk3 : q_isBig (nsh g q) g q k3 68) (yk3 : 66 ≤ k3) (gk3x3 : x3.toNatClampNeg < 10 → k3 = 66 + 5 * x3.toNatClampNeg) (d3 : Nat) (hBd3 : q_isDec (nsh g q) g q d3 108) (yd3 : 66 ≤ d3) (gd3x3 : x3.toNatClampNeg < 10 → d3 = 68 + 5 * x3.toNatClampNeg) (ne_k3_d3 : k3 ≠ d3) (ne_k3_d3p1 : k3 ≠ d3 + 1) (ne_k3_d3p2 : k3 ≠ d3 + 2) (ne_d3_k3p1 : d3 ≠ k3 + 1) (hlt : l.stackTraces = false) (hI : q_I (nsh g q) q ws) (t0_0 : Int32) (t0_1 : Int32) (t0_2 : Int32) (t0_3 : Int32) (hT0 : ws[40]? = (some (q 40, .inr (11, [.int t0_0, .ref (q 41), .ref (q 42), .ref (q 43), .ref (q 44), .ref (q 1), .ref (q 47), .ref (q 36), .ref (q 45), .int t0_1, .int t0_2, .int t0_3])) : Option (Nat × va_E))) (t1_0 : (Nat → Int32)) (hT1 : ws[41]? = (some (q 41, .inl (g 0, 9, .inl t1_0)) : Option (Nat × va_E))) (t2_0 : (Nat → Int64)) (hT2 : ws[42]? = (some (q 42, .inl (g 1, 9, .inr (.inl t2_0))) : Option (Nat × va_E))) (t3_0 : (Nat → Int32)) (hT3 : ws[43]? = (some (q 43, .inl (g 0, 9, .inl t3_0)) : Option (Nat × va_E))) (t4_0 : Int32) (hT4 : ws[1]? = (some (q 1, .inr (1, [.ref (q 2), .int 4100, .int t4_0])) : Option (Nat × va_E))) (t5_0 : (Nat → Int64)) (hT5 : ws[2]? = (some (q 2, .inl (g 1, (513 : Int32).toNatClampNeg, .inr (.inl t5_0))) : Option (Nat × va_E))) (t6_0 : Int32) (hT6 : ws[48]? = (some (q 48, .inr (1, [.ref (q 49), .int 64, .int t6_0])) : Option (Nat × va_E))) (t7_0 : (Nat → Int64)) (hT7 : ws[49]? = (some (q 49, .inl (g 1, (8 : Int32).toNatClampNeg, .inr (.inl t7_0))) : Option (Nat × va_E))) (t8_0 : Int32) (hT8 : ws[50]? = (some (q 50, .inr (1, [.ref (q 51), .int 64, .int t8_0])) : Option (Nat × va_E))) (t9_0 : (Nat → Int64)) (hT9 : ws[51]? = (some (q 51, .inl (g 1, (8 : Int32).toNatClampNeg, .inr (.inl t9_0))) : Option (Nat × va_E))) (t10_0 : Int32) (hT10 : ws[52]? = (some (q 52, .inr (1, [.ref (q 53), .int 64, .int t10_0])) : Option (Nat × va_E))) (t11_0 : (Nat → Int64)) (hT11 : ws[53]? = (some (q 53, .inl (g 1, (8 : Int32).toNatClampNeg, .inr (.inl t11_0))) : Option (Nat × va_E))) (t12_0 : Int32) (hT12 : ws[54]? = (some (q 54, .inr (1, [.ref (q 55), .int 64, .int t12_0])) : Option (Nat × va_E))) (t13_0 : (Nat → Int64)) (hT13 : ws[55]? = (some (q 55, .inl (g 1, (8 : Int32).toNatClampNeg, .inr (.inl t13_0))) : Option (Nat × va_E))) (t14_0 : Int32) (hT14 : ws[56]? = (some (q 56, .inr (1, [.ref (q 57), .int 64, .int t14_0])) : Option (Nat × va_E))) (t15_0 : (Nat → Int64)) (hT15 : ws[57]? = (some (q 57, .inl (g 1, (8 : Int32).toNatClampNeg, .inr (.inl t15_0))) : Option (Nat × va_E))) (t16_0 : Int32) (hT16 : ws[58]? = (some (q 58, .inr (1, [.ref (q 59), .int 64, .int t16_0])) : Option (Nat × va_E))) (t17_0 : (Nat → Int64)) (hT17 : ws[59]? = (some (q 59, .inl (g 1, (8 : Int32).toNatClampNeg, .inr (.inl t17_0))) : Option (Nat × va_E))) (t18_0 : Int32) (hT18 : ws[60]? = (some (q 60, .inr (1, [.ref (q 61), .int 64, .int t18_0])) : Option (Nat × va_E))) (t19_0 : (Nat → Int64)) (hT19 : ws[61]? = (some (q 61, .inl (g 1, (8 : Int32).toNatClampNeg, .inr (.inl t19_0))) : Option (Nat × va_E))) (t20_0 : Int32) (hT20 : ws[62]? = (some (q 62, .inr (1, [.ref (q 63), .int 64, .int t20_0])) : Option (Nat × va_E))) (t21_0 : (Nat → Int64)) (hT21 : ws[63]? = (some (q 63, .inl (g 1, (8 : Int32).toNatClampNeg, .inr (.inl t21_0))) : Option (Nat × va_E))) (t22_0 : Int32) (hT22 : ws[64]? = (some (q 64, .inr (1, [.ref (q 65), .int 64, .int t22_0])) : Option (Nat × va_E))) (t23_0 : (Nat → Int64)) (hT23 : ws[65]? = (some (q 65, .inl (g 1, (8 : Int32).toNatClampNeg, .inr (.inl t23_0))) : Option (Nat × va_E))) (t24_0 : Int32) (t24_1 : Int32) (hT24 : ws[k3]? = (some (q k3, .inr (2, [.ref (q (k3 + 1)), .int t24_0, .int t24_1])) : Option (Nat × va_E))) (t25_0 : (Nat → Int32)) (hT25 : ws[k3 + 1]? = (some (q (k3 + 1), .inl (g 0, (68 : Int32).toNatClampNeg, .inl t25_0)) : Option (Nat × va_E))) (t26_0 : Int32) (t26_1 : Int32) (hT26 : ws[d3]? = (some (q d3, .inr (3, [.ref (q (d3 + 1)), .int t26_0, .int t26_1])) : Option (Nat × va_E))) (t27_0 : Int32) (t27_1 : Int32) (hT27 : ws[d3 + 1]? = (some (q (d3 + 1), .inr (2, [.ref (q (d3 + 2)), .int t27_0, .int t27_1])) : Option (Nat × va_E))) (t28_0 : (Nat → Int32)) (hT28 : ws[d3 + 2]? = (some (q (d3 + 2), .inl (g 0, (108 : Int32).toNatClampNeg, .inl t28_0)) : Option (Nat × va_E))) (hS : True ∧ S_NH_argument x2 x3 t0_0 t0_1 t0_2 t0_3 t1_0 t2_0 t3_0 t4_0 t5_0 t6_0 t7_0 t8_0 t9_0 t10_0 t11_0 t12_0 t13_0 t14_0 t15_0 t16_0 t17_0 t18_0 t19_0 t20_0 t21_0 t22_0 t23_0 t24_0 t24_1 t25_0 t26_0 t26_1 t27_0 t27_1 t28_0) : ∀ sz, q_Mx l y_NH_argument prog_1_method_19_code 3 (some .int) 8 6 36 D g [.ref (q 0), .int x2, .int x3] ws sz (va_Qi (fun r u => q_I (nsh g q) q u ∧ q_un ws u [1, 40, 41, 42, 43, 48, 49, 50, 51, 52, 53, 54, 55, 56, 57, 58, 59, 60, 61, 62, 63, 64, 65] ∧ ∃ (u0_0 : Int32) (u0_1 : Int32) (u0_2 : Int32) (u0_3 : Int32) (u1_0 : (Nat → Int32)) (u2_0 : (Nat → Int64)) (u3_0 : (Nat → Int32)) (u4_0 : Int32) (u6_0 : Int32) (u7_0 : (Nat → Int64)) (u8_0 : Int32) (u9_0 : (Nat → Int64)) (u10_0 : Int32) (u11_0 : (Nat → Int64)) (u12_0 : Int32) (u13_0 : (Nat → Int64)) (u14_0 : Int32) (u15_0 : (Nat → Int64)) (u16_0 : Int32) (u17_0 : (Nat → Int64)) (u18_0 : Int32) (u19_0 : (Nat → Int64)) (u20_0 : Int32) (u21_0 : (Nat → Int64)) (u22_0 : Int32) (u23_0 : (Nat → Int64)), u[40]? = (some (q 40, .inr (11, [.int u0_0, .ref (q 41), .ref (q 42), .ref (q 43), .ref (q 44), .ref (q 1), .ref (q 47), .ref (q 36), .ref (q 45), .int u0_1, .int u0_2, .int u0_3])) : Option (Nat × va_E)) ∧ u[41]? = (some (q 41, .inl (g 0, 9, .inl u1_0)) : Option (Nat × va_E)) ∧ u[42]? = (some (q 42, .inl (g 1, 9, .inr (.inl u2_0))) : Option (Nat × va_E)) ∧ u[43]? = (some (q 43, .inl (g 0, 9, .inl u3_0)) : Option (Nat × va_E)) ∧ u[1]? = (some (q 1, .inr (1, [.ref (q 2), .int 4100, .int u4_0])) : Option (Nat × va_E)) ∧ u[48]? = (some (q 48, .inr (1, [.ref (q 49), .int 64, .int u6_0])) : Option (Nat × va_E)) ∧ u[49]? = (some (q 49, .inl (g 1, (8 : Int32).toNatClampNeg, .inr (.inl u7_0))) : Option (Nat × va_E)) ∧ u[50]? = (some (q 50, .inr (1, [.ref (q 51), .int 64, .int u8_0])) : Option (Nat × va_E)) ∧ u[51]? = (some (q 51, .inl (g 1, (8 : Int32).toNatClampNeg, .inr (.inl u9_0))) : Option (Nat × va_E)) ∧ u[52]? = (some (q 52, .inr (1, [.ref (q 53), .int 64, .int u10_0])) : Option (Nat × va_E)) ∧ u[53]? = (some (q 53, .inl (g 1, (8 : Int32).toNatClampNeg, .inr (.inl u11_0))) : Option (Nat × va_E)) ∧ u[54]? = (some (q 54, .inr (1, [.ref (q 55), .int 64, .int u12_0])) : Option (Nat × va_E)) ∧ u[55]? = (some (q 55, .inl (g 1, (8 : Int32).toNatClampNeg, .inr (.inl u13_0))) : Option (Nat × va_E)) ∧ u[56]? = (some (q 56, .inr (1, [.ref (q 57), .int 64, .int u14_0])) : Option (Nat × va_E)) ∧ u[57]? = (some (q 57, .inl (g 1, (8 : Int32).toNatClampNeg, .inr (.inl u15_0))) : Option (Nat × va_E)) ∧ u[58]? = (some (q 58, .inr (1, [.ref (q 59), .int 64, .int u16_0])) : Option (Nat × va_E)) ∧ u[59]? = (some (q 59, .inl (g 1, (8 : Int32).toNatClampNeg, .inr (.inl u17_0))) : Option (Nat × va_E)) ∧ u[60]? = (some (q 60, .inr (1, [.ref (q 61), .int 64, .int u18_0])) : Option (Nat × va_E)) ∧ u[61]? = (some (q 61, .inl (g 1, (8 : Int32).toNatClampNeg, .inr (.inl u19_0))) : Option (Nat × va_E)) ∧ u[62]? = (some (q 62, .inr (1, [.ref (q 63), .int 64, .int u20_0])) : Option (Nat × va_E)) ∧ u[63]? = (some (q 63, .inl (g 1, (8 : Int32).toNatClampNeg, .inr (.inl u21_0))) : Option (Nat × va_E)) ∧ u[64]? = (some (q 64, .inr (1, [.ref (q 65), .int 64, .int u22_0])) : Option (Nat × va_E)) ∧ u[65]? = (some (q 65, .inl (g 1, (8 : Int32).toNatClampNeg, .inr (.inl u23_0))) : Option (Nat × va_E)) ∧ (0 ≤ r.toInt + 1) ∧ (r.toInt ≤ 9) ∧ (0 ≤ u0_0.toInt) ∧ (u0_0.toInt ≤ 9) ∧ (0 ≤ u0_1.toInt + 1) ∧ (u0_1.toInt ≤ 1000000) ∧ (0 ≤ u0_3.toInt + 1) ∧ (u0_3.toInt ≤ 8) ∧ (0 ≤ u4_0.toInt) ∧ (u4_0.toInt ≤ 4100) ∧ (0 ≤ u6_0.toInt) ∧ (u6_0.toInt ≤ 64) ∧ (0 ≤ u8_0.toInt) ∧ (u8_0.toInt ≤ 64) ∧ (0 ≤ u10_0.toInt) ∧ (u10_0.toInt ≤ 64) ∧ (0 ≤ u12_0.toInt) ∧ (u12_0.toInt ≤ 64) ∧ (0 ≤ u14_0.toInt) ∧ (u14_0.toInt ≤ 64) ∧ (0 ≤ u16_0.toInt) ∧ (u16_0.toInt ≤ 64) ∧ (0 ≤ u18_0.toInt) ∧ (u18_0.toInt ≤ 64) ∧ (0 ≤ u20_0.toInt) ∧ (u20_0.toInt ≤ 64) ∧ (0 ≤ u22_0.toInt) ∧ (u22_0.toInt ≤ 64) ∧ (u0_0.toInt ≤ t0_0.toInt + 1) ∧ (t0_1.toInt ≤ u0_1.toInt) ∧ (u0_1.toInt ≤ t0_1.toInt) ∧ (t0_2.toInt ≤ u0_2.toInt) ∧ (u0_2.toInt ≤ t0_2.toInt) ∧ (t0_3.toInt ≤ u0_3.toInt) ∧ (u0_3.toInt ≤ t0_3.toInt) ∧ (t4_0.toInt ≤ u4_0.toInt + 64) ∧ (u4_0.toInt ≤ t4_0.toInt) ∧ (r.toInt ≤ u0_0.toInt) ∧ ((0 : Int32), r, u0_0, u0_1, u0_2, u0_3, u1_0, u2_0, u3_0, u4_0, u6_0, u7_0, u8_0, u9_0, u10_0, u11_0, u12_0, u13_0, u14_0, u15_0, u16_0, u17_0, u18_0, u19_0, u20_0, u21_0, u22_0, u23_0) = (F_NH_argument x2 x3 t0_0 t0_1 t0_2 t0_3 t1_0 t2_0 t3_0 t4_0 t5_0 t6_0 t7_0 t8_0 t9_0 t10_0 t11_0 t12_0 t13_0 t14_0 t15_0 t16_0 t17_0 t18_0 t19_0 t20_0 t21_0 t22_0 t23_0 t24_0 t24_1 t25_0 t26_0 t26_1 t27_0 t27_1 t28_0)) (q_B D g (va_A ws sz)) (va_A ws sz)) (fun E u => ∃ c : Int32, E = qE c ∧ c ≠ 0 ∧ q_I (nsh g q) q u ∧ q_un ws u [1, 40, 41, 42, 43, 48, 49, 50, 51, 52, 53, 54, 55, 56, 57, 58, 59, 60, 61, 62, 63, 64, 65] ∧ ∃ (u0_0 : Int32) (u0_1 : Int32) (u0_2 : Int32) (u0_3 : Int32) (u1_0 : (Nat → Int32)) (u2_0 : (Nat → Int64)) (u3_0 : (Nat → Int32)) (u4_0 : Int32) (u6_0 : Int32) (u7_0 : (Nat → Int64)) (u8_0 : Int32) (u9_0 : (Nat → Int64)) (u10_0 : Int32) (u11_0 : (Nat → Int64)) (u12_0 : Int32) (u13_0 : (Nat → Int64)) (u14_0 : Int32) (u15_0 : (Nat → Int64)) (u16_0 : Int32) (u17_0 : (Nat → Int64)) (u18_0 : Int32) (u19_0 : (Nat → Int64)) (u20_0 : Int32) (u21_0 : (Nat → Int64)) (u22_0 : Int32) (u23_0 : (Nat → Int64)), u[40]? = (some (q 40, .inr (11, [.int u0_0, .ref (q 41), .ref (q 42), .ref (q 43), .ref (q 44), .ref (q 1), .ref (q 47), .ref (q 36), .ref (q 45), .int u0_1, .int u0_2, .int u0_3])) : Option (Nat × va_E)) ∧ u[41]? = (some (q 41, .inl (g 0, 9, .inl u1_0)) : Option (Nat × va_E)) ∧ u[42]? = (some (q 42, .inl (g 1, 9, .inr (.inl u2_0))) : Option (Nat × va_E)) ∧ u[43]? = (some (q 43, .inl (g 0, 9, .inl u3_0)) : Option (Nat × va_E)) ∧ u[1]? = (some (q 1, .inr (1, [.ref (q 2), .int 4100, .int u4_0])) : Option (Nat × va_E)) ∧ u[48]? = (some (q 48, .inr (1, [.ref (q 49), .int 64, .int u6_0])) : Option (Nat × va_E)) ∧ u[49]? = (some (q 49, .inl (g 1, (8 : Int32).toNatClampNeg, .inr (.inl u7_0))) : Option (Nat × va_E)) ∧ u[50]? = (some (q 50, .inr (1, [.ref (q 51), .int 64, .int u8_0])) : Option (Nat × va_E)) ∧ u[51]? = (some (q 51, .inl (g 1, (8 : Int32).toNatClampNeg, .inr (.inl u9_0))) : Option (Nat × va_E)) ∧ u[52]? = (some (q 52, .inr (1, [.ref (q 53), .int 64, .int u10_0])) : Option (Nat × va_E)) ∧ u[53]? = (some (q 53, .inl (g 1, (8 : Int32).toNatClampNeg, .inr (.inl u11_0))) : Option (Nat × va_E)) ∧ u[54]? = (some (q 54, .inr (1, [.ref (q 55), .int 64, .int u12_0])) : Option (Nat × va_E)) ∧ u[55]? = (some (q 55, .inl (g 1, (8 : Int32).toNatClampNeg, .inr (.inl u13_0))) : Option (Nat × va_E)) ∧ u[56]? = (some (q 56, .inr (1, [.ref (q 57), .int 64, .int u14_0])) : Option (Nat × va_E)) ∧ u[57]? = (some (q 57, .inl (g 1, (8 : Int32).toNatClampNeg, .inr (.inl u15_0))) : Option (Nat × va_E)) ∧ u[58]? = (some (q 58, .inr (1, [.ref (q 59), .int 64, .int u16_0])) : Option (Nat × va_E)) ∧ u[59]? = (some (q 59, .inl (g 1, (8 : Int32).toNatClampNeg, .inr (.inl u17_0))) : Option (Nat × va_E)) ∧ u[60]? = (some (q 60, .inr (1, [.ref (q 61), .int 64, .int u18_0])) : Option (Nat × va_E)) ∧ u[61]? = (some (q 61, .inl (g 1, (8 : Int32).toNatClampNeg, .inr (.inl u19_0))) : Option (Nat × va_E)) ∧ u[62]? = (some (q 62, .inr (1, [.ref (q 63), .int 64, .int u20_0])) : Option (Nat × va_E)) ∧ u[63]? = (some (q 63, .inl (g 1, (8 : Int32).toNatClampNeg, .inr (.inl u21_0))) : Option (Nat × va_E)) ∧ u[64]? = (some (q 64, .inr (1, [.ref (q 65), .int 64, .int u22_0])) : Option (Nat × va_E)) ∧ u[65]? = (some (q 65, .inl (g 1, (8 : Int32).toNatClampNeg, .inr (.inl u23_0))) : Option (Nat × va_E)) ∧ (c, (0 : Int32), u0_0, u0_1, u0_2, u0_3, u1_0, u2_0, u3_0, u4_0, u6_0, u7_0, u8_0, u9_0, u10_0, u11_0, u12_0, u13_0, u14_0, u15_0, u16_0, u17_0, u18_0, u19_0, u20_0, u21_0, u22_0, u23_0) = (F_NH_argument x2 x3 t0_0 t0_1 t0_2 t0_3 t1_0 t2_0 t3_0 t4_0 t5_0 t6_0 t7_0 t8_0 t9_0 t10_0 t11_0 t12_0 t13_0 t14_0 t15_0 t16_0 t17_0 t18_0 t19_0 t20_0 t21_0 t22_0 t23_0 t24_0 t24_1 t25_0 t26_0 t26_1 t27_0 t27_1 t28_0)) := by
  intro sz
  refine q_intoX (by decide) (Nat.le_of_ble_eq_true rfl) ?_
  intro p e s m below meth c ls hsz C0 V hno hl
  have hx := C0.1
  have hb := C0.2.1
  obtain ⟨btt0_0, hZ9⟩ := n_w40 hI hT0
  obtain ⟨btt0_1, btt0_3⟩ := hZ9
  replace btt0_0 : q_F (0 ≤ t0_0.toInt ∧ t0_0.toInt ≤ 9) := btt0_0
  replace btt0_1 : q_F (-1 ≤ t0_1.toInt ∧ t0_1.toInt ≤ 1000000) := btt0_1
  replace btt0_3 : q_F (-1 ≤ t0_3.toInt ∧ t0_3.toInt ≤ 8) := btt0_3
  have btt4_0 := n_shW hI (n_h1 g q) hT4
  replace btt4_0 : q_F (0 ≤ t4_0.toInt ∧ t4_0.toInt ≤ 4100) := btt4_0
  have btt6_0 := n_shW hI (n_h48 g q) hT6
  replace btt6_0 : q_F (0 ≤ t6_0.toInt ∧ t6_0.toInt ≤ 64) := btt6_0
  have btt8_0 := n_shW hI (n_h50 g q) hT8
  replace btt8_0 : q_F (0 ≤ t8_0.toInt ∧ t8_0.toInt ≤ 64) := btt8_0
  have btt10_0 := n_shW hI (n_h52 g q) hT10
  replace btt10_0 : q_F (0 ≤ t10_0.toInt ∧ t10_0.toInt ≤ 64) := btt10_0
  have btt12_0 := n_shW hI (n_h54 g q) hT12
  replace btt12_0 : q_F (0 ≤ t12_0.toInt ∧ t12_0.toInt ≤ 64) := btt12_0
  have btt14_0 := n_shW hI (n_h56 g q) hT14
  replace btt14_0 : q_F (0 ≤ t14_0.toInt ∧ t14_0.toInt ≤ 64) := btt14_0
  have btt16_0 := n_shW hI (n_h58 g q) hT16
  replace btt16_0 : q_F (0 ≤ t16_0.toInt ∧ t16_0.toInt ≤ 64) := btt16_0
  have btt18_0 := n_shW hI (n_h60 g q) hT18
  replace btt18_0 : q_F (0 ≤ t18_0.toInt ∧ t18_0.toInt ≤ 64) := btt18_0
  have btt20_0 := n_shW hI (n_h62 g q) hT20
  replace btt20_0 : q_F (0 ≤ t20_0.toInt ∧ t20_0.toInt ≤ 64) := btt20_0
  have btt22_0 := n_shW hI (n_h64 g q) hT22
  replace btt22_0 : q_F (0 ≤ t22_0.toInt ∧ t22_0.toInt ≤ 64) := btt22_0
  have btt24_1 := (q_bigW hI hBk3 hT24).2
  clear btt24_1
  have btt26_1 := (n_deW hI hBd3 hT26).2
  clear btt26_1
  have btt27_1 := (q_bigW hI hBd3.2 hT27).2
  clear btt27_1
  have hF : q_un ws ws [1, 40, 41, 42, 43, 48, 49, 50, 51, 52, 53, 54, 55, 56, 57, 58, 59, 60, 61, 62, 63, 64, 65] := q_u0
  have hl : lv_has ls 3 [(0, .ref (q 0)), (1, .int x2), (2, .int x3)] := hl
  refine lv_iload_n hx hb d_1_19_0 rfl (lv_at hl 1 rfl) ?_
  refine q_join (X := Int32) (fun z H locs ls _ => q_F (0 ≤ z.toInt) ∧ q_F (z.toInt ≤ 1) ∧ q_Wd D g (va_A ws sz) s ws H locs ∧ lv_has ls 3 [(0, .ref (q 0)), (1, .int x2), (2, .int x3)] ∧ F_NH_argument_J25 x2 x3 t0_0 t0_1 t0_2 t0_3 t1_0 t2_0 t3_0 t4_0 t5_0 t6_0 t7_0 t8_0 t9_0 t10_0 t11_0 t12_0 t13_0 t14_0 t15_0 t16_0 t17_0 t18_0 t19_0 t20_0 t21_0 t22_0 t23_0 t24_0 t24_1 t25_0 t26_0 t26_1 t27_0 t27_1 t28_0 z = (F_NH_argument x2 x3 t0_0 t0_1 t0_2 t0_3 t1_0 t2_0 t3_0 t4_0 t5_0 t6_0 t7_0 t8_0 t9_0 t10_0 t11_0 t12_0 t13_0 t14_0 t15_0 t16_0 t17_0 t18_0 t19_0 t20_0 t21_0 t22_0 t23_0 t24_0 t24_1 t25_0 t26_0 t26_1 t27_0 t27_1 t28_0) ∧ True ∧ S_NH_argument_J25 x2 x3 t0_0 t0_1 t0_2 t0_3 t1_0 t2_0 t3_0 t4_0 t5_0 t6_0 t7_0 t8_0 t9_0 t10_0 t11_0 t12_0 t13_0 t14_0 t15_0 t16_0 t17_0 t18_0 t19_0 t20_0 t21_0 t22_0 t23_0 t24_0 t24_1 t25_0 t26_0 t26_1 t27_0 t27_1 t28_0 z) (fun z => [.int z]) 25 0 0 ?_ ?_
  ·
    rintro lx88 H locs ls _ hZ9
    obtain ⟨i119, hZ9⟩ := hZ9
    obtain ⟨i120, hZ9⟩ := hZ9
    obtain ⟨V, hZ9⟩ := hZ9
    obtain ⟨hl, hZ9⟩ := hZ9
    obtain ⟨hR121, hS122⟩ := hZ9
    replace i119 : q_F (0 ≤ lx88.toInt) := i119
    replace i120 : q_F (lx88.toInt ≤ 1) := i120
    replace hl : lv_has ls 3 [(0, .ref (q 0)), (1, .int x2), (2, .int x3)] := hl
    refine q_goxv V (q_runSX (As := [.int lx88]) (rest := []) (d := 7) (mc := 1) (ms := 6) C0 V rfl LS_NH_104 (X_NH_need l D g q ws  lx88 hlt hI  ⟨(by first | with_reducible exact q_fe i119 | (have t1 : 0 ≤ lx88.toInt := i119; omega)), (by first | with_reducible exact q_fe i120 | (have t1 : lx88.toInt ≤ 1 := i120; omega))⟩ _) rfl hl.1 rfl (Nat.le_of_ble_eq_true rfl) ⟨by decide, by decide⟩ ⟨Nat.le_of_ble_eq_true rfl, Nat.le_of_ble_eq_true rfl⟩ d_1_19_25) (fun qx Ex ce u126 H locs hp127 V hce hcv hcl => ?_) (fun u126 H locs hp127 V => ?_)
    ·
      obtain ⟨cx129, he130, hc131, rfl, hE128⟩ := hp127
      have c132 : ¬ (F_NH_need lx88) = (0 : Int32) := fun z => hc131 (((hE128) : cx129 = _).trans z)
      exact q_outT hno C0 V (⟨(F_NH_need lx88), (he130.trans (congrArg qE ((hE128) : cx129 = _))), c132, hI, hF, t0_0, t0_1, t0_2, t0_3, t1_0, t2_0, t3_0, t4_0, t6_0, t7_0, t8_0, t9_0, t10_0, t11_0, t12_0, t13_0, t14_0, t15_0, t16_0, t17_0, t18_0, t19_0, t20_0, t21_0, t22_0, t23_0, hT0, hT1, hT2, hT3, hT4, hT6, hT7, hT8, hT9, hT10, hT11, hT12, hT13, hT14, hT15, hT16, hT17, hT18, hT19, hT20, hT21, hT22, hT23, (show ((F_NH_need lx88), (0 : Int32), t0_0, t0_1, t0_2, t0_3, t1_0, t2_0, t3_0, t4_0, t6_0, t7_0, t8_0, t9_0, t10_0, t11_0, t12_0, t13_0, t14_0, t15_0, t16_0, t17_0, t18_0, t19_0, t20_0, t21_0, t22_0, t23_0) = (F_NH_argument x2 x3 t0_0 t0_1 t0_2 t0_3 t1_0 t2_0 t3_0 t4_0 t5_0 t6_0 t7_0 t8_0 t9_0 t10_0 t11_0 t12_0 t13_0 t14_0 t15_0 t16_0 t17_0 t18_0 t19_0 t20_0 t21_0 t22_0 t23_0 t24_0 t24_1 t25_0 t26_0 t26_1 t27_0 t27_1 t28_0) from Eq.trans (by rw [F_NH_argument_J25.eq_1, if_neg c132]) hR121)⟩) hce hcv hcl (Nat.le_of_ble_eq_true rfl) (Nat.le_of_ble_eq_true rfl)
    ·
      obtain ⟨rfl, hE133⟩ := hp127
      have c132 : (F_NH_need lx88) = (0 : Int32) := ((hE133) : (0 : Int32) = _).symm
      refine lv_iload_n hx hb d_1_19_28 rfl (lv_at hl 1 rfl) ?_
      refine lv_iconst (v := 1) hx hb d_1_19_29 (by decide) ?_
      refine q_join (X := Int32) (fun z H locs ls _ => q_F (0 ≤ z.toInt) ∧ q_F (z.toInt ≤ 1) ∧ q_Wd D g (va_A ws sz) s ws H locs ∧ lv_has ls 3 [(0, .ref (q 0)), (1, .int x2), (2, .int x3)] ∧ F_NH_argument_J45 x2 x3 t0_0 t0_1 t0_2 t0_3 t1_0 t2_0 t3_0 t4_0 t5_0 t6_0 t7_0 t8_0 t9_0 t10_0 t11_0 t12_0 t13_0 t14_0 t15_0 t16_0 t17_0 t18_0 t19_0 t20_0 t21_0 t22_0 t23_0 t24_0 t24_1 t25_0 t26_0 t26_1 t27_0 t27_1 t28_0 lx88 z = (F_NH_argument x2 x3 t0_0 t0_1 t0_2 t0_3 t1_0 t2_0 t3_0 t4_0 t5_0 t6_0 t7_0 t8_0 t9_0 t10_0 t11_0 t12_0 t13_0 t14_0 t15_0 t16_0 t17_0 t18_0 t19_0 t20_0 t21_0 t22_0 t23_0 t24_0 t24_1 t25_0 t26_0 t26_1 t27_0 t27_1 t28_0) ∧ True ∧ S_NH_argument_J45 x2 x3 t0_0 t0_1 t0_2 t0_3 t1_0 t2_0 t3_0 t4_0 t5_0 t6_0 t7_0 t8_0 t9_0 t10_0 t11_0 t12_0 t13_0 t14_0 t15_0 t16_0 t17_0 t18_0 t19_0 t20_0 t21_0 t22_0 t23_0 t24_0 t24_1 t25_0 t26_0 t26_1 t27_0 t27_1 t28_0 lx88 z) (fun z => [.int z]) 45 1 6 ?_ ?_
      ·
        rintro lx135 H locs ls _ hZ9
        obtain ⟨i166, hZ9⟩ := hZ9
        obtain ⟨i167, hZ9⟩ := hZ9
        obtain ⟨V, hZ9⟩ := hZ9
        obtain ⟨hl, hZ9⟩ := hZ9
        obtain ⟨hR168, hS169⟩ := hZ9
        replace i166 : q_F (0 ≤ lx135.toInt) := i166
        replace i167 : q_F (lx135.toInt ≤ 1) := i167
        replace hl : lv_has ls 3 [(0, .ref (q 0)), (1, .int x2), (2, .int x3)] := hl
        refine q_goxv V (q_runSX (As := [.int lx135]) (rest := []) (d := 7) (mc := 1) (ms := 6) C0 V rfl LS_NH_104 (X_NH_need l D g q ws  lx135 hlt hI  ⟨(by first | with_reducible exact q_fe i166 | (have t1 : 0 ≤ lx135.toInt := i166; omega)), (by first | with_reducible exact q_fe i167 | (have t1 : lx135.toInt ≤ 1 := i167; omega))⟩ _) rfl hl.1 rfl (Nat.le_of_ble_eq_true rfl) ⟨by decide, by decide⟩ ⟨Nat.le_of_ble_eq_true rfl, Nat.le_of_ble_eq_true rfl⟩ d_1_19_45) (fun qx Ex ce u173 H locs hp174 V hce hcv hcl => ?_) (fun u173 H locs hp174 V => ?_)
        ·
          obtain ⟨cx176, he177, hc178, rfl, hE175⟩ := hp174
          have c179 : ¬ (F_NH_need lx135) = (0 : Int32) := fun z => hc178 (((hE175) : cx176 = _).trans z)
          exact q_outT hno C0 V (⟨(F_NH_need lx135), (he177.trans (congrArg qE ((hE175) : cx176 = _))), c179, hI, hF, t0_0, t0_1, t0_2, t0_3, t1_0, t2_0, t3_0, t4_0, t6_0, t7_0, t8_0, t9_0, t10_0, t11_0, t12_0, t13_0, t14_0, t15_0, t16_0, t17_0, t18_0, t19_0, t20_0, t21_0, t22_0, t23_0, hT0, hT1, hT2, hT3, hT4, hT6, hT7, hT8, hT9, hT10, hT11, hT12, hT13, hT14, hT15, hT16, hT17, hT18, hT19, hT20, hT21, hT22, hT23, (show ((F_NH_need lx135), (0 : Int32), t0_0, t0_1, t0_2, t0_3, t1_0, t2_0, t3_0, t4_0, t6_0, t7_0, t8_0, t9_0, t10_0, t11_0, t12_0, t13_0, t14_0, t15_0, t16_0, t17_0, t18_0, t19_0, t20_0, t21_0, t22_0, t23_0) = (F_NH_argument x2 x3 t0_0 t0_1 t0_2 t0_3 t1_0 t2_0 t3_0 t4_0 t5_0 t6_0 t7_0 t8_0 t9_0 t10_0 t11_0 t12_0 t13_0 t14_0 t15_0 t16_0 t17_0 t18_0 t19_0 t20_0 t21_0 t22_0 t23_0 t24_0 t24_1 t25_0 t26_0 t26_1 t27_0 t27_1 t28_0) from Eq.trans (by rw [F_NH_argument_J45.eq_1, if_neg c179]) hR168)⟩) hce hcv hcl (Nat.le_of_ble_eq_true rfl) (Nat.le_of_ble_eq_true rfl)
        ·
          obtain ⟨rfl, hE180⟩ := hp174
          have c179 : (F_NH_need lx135) = (0 : Int32) := ((hE180) : (0 : Int32) = _).symm
          refine lv_iload_n hx hb d_1_19_48 rfl (lv_at hl 1 rfl) ?_
          refine lv_bipush (v := 6) hx hb d_1_19_49 (by decide) ?_
          refine q_join (X := Int32) (fun z H locs ls _ => q_F (0 ≤ z.toInt) ∧ q_F (z.toInt ≤ 1) ∧ q_Wd D g (va_A ws sz) s ws H locs ∧ lv_has ls 3 [(0, .ref (q 0)), (1, .int x2), (2, .int x3)] ∧ F_NH_argument_J70 x2 x3 t0_0 t0_1 t0_2 t0_3 t1_0 t2_0 t3_0 t4_0 t5_0 t6_0 t7_0 t8_0 t9_0 t10_0 t11_0 t12_0 t13_0 t14_0 t15_0 t16_0 t17_0 t18_0 t19_0 t20_0 t21_0 t22_0 t23_0 t24_0 t24_1 t25_0 t26_0 t26_1 t27_0 t27_1 t28_0 lx88 lx135 z = (F_NH_argument x2 x3 t0_0 t0_1 t0_2 t0_3 t1_0 t2_0 t3_0 t4_0 t5_0 t6_0 t7_0 t8_0 t9_0 t10_0 t11_0 t12_0 t13_0 t14_0 t15_0 t16_0 t17_0 t18_0 t19_0 t20_0 t21_0 t22_0 t23_0 t24_0 t24_1 t25_0 t26_0 t26_1 t27_0 t27_1 t28_0) ∧ True ∧ S_NH_argument_J70 x2 x3 t0_0 t0_1 t0_2 t0_3 t1_0 t2_0 t3_0 t4_0 t5_0 t6_0 t7_0 t8_0 t9_0 t10_0 t11_0 t12_0 t13_0 t14_0 t15_0 t16_0 t17_0 t18_0 t19_0 t20_0 t21_0 t22_0 t23_0 t24_0 t24_1 t25_0 t26_0 t26_1 t27_0 t27_1 t28_0 lx88 lx135 z) (fun z => [.int z]) 70 2 12 ?_ ?_
          ·
            rintro lx182 H locs ls _ hZ9
            obtain ⟨i213, hZ9⟩ := hZ9
            obtain ⟨i214, hZ9⟩ := hZ9
            obtain ⟨V, hZ9⟩ := hZ9
            obtain ⟨hl, hZ9⟩ := hZ9
            obtain ⟨hR215, hS216⟩ := hZ9
            replace i213 : q_F (0 ≤ lx182.toInt) := i213
            replace i214 : q_F (lx182.toInt ≤ 1) := i214
            replace hl : lv_has ls 3 [(0, .ref (q 0)), (1, .int x2), (2, .int x3)] := hl
            refine q_goxv V (q_runSX (As := [.int lx182]) (rest := []) (d := 7) (mc := 1) (ms := 6) C0 V rfl LS_NH_104 (X_NH_need l D g q ws  lx182 hlt hI  ⟨(by first | with_reducible exact q_fe i213 | (have t1 : 0 ≤ lx182.toInt := i213; omega)), (by first | with_reducible exact q_fe i214 | (have t1 : lx182.toInt ≤ 1 := i214; omega))⟩ _) rfl hl.1 rfl (Nat.le_of_ble_eq_true rfl) ⟨by decide, by decide⟩ ⟨Nat.le_of_ble_eq_true rfl, Nat.le_of_ble_eq_true rfl⟩ d_1_19_70) (fun qx Ex ce u220 H locs hp221 V hce hcv hcl => ?_) (fun u220 H locs hp221 V => ?_)
            ·
              obtain ⟨cx223, he224, hc225, rfl, hE222⟩ := hp221
              have c226 : ¬ (F_NH_need lx182) = (0 : Int32) := fun z => hc225 (((hE222) : cx223 = _).trans z)
              exact q_outT hno C0 V (⟨(F_NH_need lx182), (he224.trans (congrArg qE ((hE222) : cx223 = _))), c226, hI, hF, t0_0, t0_1, t0_2, t0_3, t1_0, t2_0, t3_0, t4_0, t6_0, t7_0, t8_0, t9_0, t10_0, t11_0, t12_0, t13_0, t14_0, t15_0, t16_0, t17_0, t18_0, t19_0, t20_0, t21_0, t22_0, t23_0, hT0, hT1, hT2, hT3, hT4, hT6, hT7, hT8, hT9, hT10, hT11, hT12, hT13, hT14, hT15, hT16, hT17, hT18, hT19, hT20, hT21, hT22, hT23, (show ((F_NH_need lx182), (0 : Int32), t0_0, t0_1, t0_2, t0_3, t1_0, t2_0, t3_0, t4_0, t6_0, t7_0, t8_0, t9_0, t10_0, t11_0, t12_0, t13_0, t14_0, t15_0, t16_0, t17_0, t18_0, t19_0, t20_0, t21_0, t22_0, t23_0) = (F_NH_argument x2 x3 t0_0 t0_1 t0_2 t0_3 t1_0 t2_0 t3_0 t4_0 t5_0 t6_0 t7_0 t8_0 t9_0 t10_0 t11_0 t12_0 t13_0 t14_0 t15_0 t16_0 t17_0 t18_0 t19_0 t20_0 t21_0 t22_0 t23_0 t24_0 t24_1 t25_0 t26_0 t26_1 t27_0 t27_1 t28_0) from Eq.trans (by rw [F_NH_argument_J70.eq_1, if_neg c226]) hR215)⟩) hce hcv hcl (Nat.le_of_ble_eq_true rfl) (Nat.le_of_ble_eq_true rfl)
            ·
              obtain ⟨rfl, hE227⟩ := hp221
              have c226 : (F_NH_need lx182) = (0 : Int32) := ((hE227) : (0 : Int32) = _).symm
              refine lv_iload_n hx hb d_1_19_73 rfl (lv_at hl 1 rfl) ?_
              refine lv_bipush (v := 8) hx hb d_1_19_74 (by decide) ?_
              refine lv_icmp_ne (tgt := 89) hx hb d_1_19_76 (by decide) (fun c229 => ?_) (fun c229 => ?_)
              ·
                refine lv_iload_n hx hb d_1_19_89 rfl (lv_at hl 1 rfl) ?_
                refine q_join (X := Int32) (fun z H locs ls _ => q_F (0 ≤ z.toInt) ∧ q_F (z.toInt ≤ 1) ∧ q_Wd D g (va_A ws sz) s ws H locs ∧ lv_has ls 3 [(0, .ref (q 0)), (1, .int x2), (2, .int x3)] ∧ F_NH_argument_J110 x2 x3 t0_0 t0_1 t0_2 t0_3 t1_0 t2_0 t3_0 t4_0 t5_0 t6_0 t7_0 t8_0 t9_0 t10_0 t11_0 t12_0 t13_0 t14_0 t15_0 t16_0 t17_0 t18_0 t19_0 t20_0 t21_0 t22_0 t23_0 t24_0 t24_1 t25_0 t26_0 t26_1 t27_0 t27_1 t28_0 lx88 lx135 lx182 z = (F_NH_argument x2 x3 t0_0 t0_1 t0_2 t0_3 t1_0 t2_0 t3_0 t4_0 t5_0 t6_0 t7_0 t8_0 t9_0 t10_0 t11_0 t12_0 t13_0 t14_0 t15_0 t16_0 t17_0 t18_0 t19_0 t20_0 t21_0 t22_0 t23_0 t24_0 t24_1 t25_0 t26_0 t26_1 t27_0 t27_1 t28_0) ∧ True ∧ S_NH_argument_J110 x2 x3 t0_0 t0_1 t0_2 t0_3 t1_0 t2_0 t3_0 t4_0 t5_0 t6_0 t7_0 t8_0 t9_0 t10_0 t11_0 t12_0 t13_0 t14_0 t15_0 t16_0 t17_0 t18_0 t19_0 t20_0 t21_0 t22_0 t23_0 t24_0 t24_1 t25_0 t26_0 t26_1 t27_0 t27_1 t28_0 lx88 lx135 lx182 z) (fun z => [.int z]) 110 3 18 ?_ ?_
                ·
                  rintro lx231 H locs ls _ hZ9
                  obtain ⟨i262, hZ9⟩ := hZ9
                  obtain ⟨i263, hZ9⟩ := hZ9
                  obtain ⟨V, hZ9⟩ := hZ9
                  obtain ⟨hl, hZ9⟩ := hZ9
                  obtain ⟨hR264, hS265⟩ := hZ9
                  replace i262 : q_F (0 ≤ lx231.toInt) := i262
                  replace i263 : q_F (lx231.toInt ≤ 1) := i263
                  replace hl : lv_has ls 3 [(0, .ref (q 0)), (1, .int x2), (2, .int x3)] := hl
                  refine q_goxv V (q_runSX (As := [.int lx231]) (rest := []) (d := 7) (mc := 1) (ms := 6) C0 V rfl LS_NH_138 (X_NH_canHave l D g q ws  lx231 hlt hI  ⟨(by first | with_reducible exact q_fe i262 | (have t1 : 0 ≤ lx231.toInt := i262; omega)), (by first | with_reducible exact q_fe i263 | (have t1 : lx231.toInt ≤ 1 := i263; omega))⟩ _) rfl hl.1 rfl (Nat.le_of_ble_eq_true rfl) ⟨by decide, by decide⟩ ⟨Nat.le_of_ble_eq_true rfl, Nat.le_of_ble_eq_true rfl⟩ d_1_19_110) (fun qx Ex ce u269 H locs hp270 V hce hcv hcl => ?_) (fun u269 H locs hp270 V => ?_)
                  ·
                    obtain ⟨cx272, he273, hc274, rfl, hE271⟩ := hp270
                    have c275 : ¬ (F_NH_canHave lx231) = (0 : Int32) := fun z => hc274 (((hE271) : cx272 = _).trans z)
                    exact q_outT hno C0 V (⟨(F_NH_canHave lx231), (he273.trans (congrArg qE ((hE271) : cx272 = _))), c275, hI, hF, t0_0, t0_1, t0_2, t0_3, t1_0, t2_0, t3_0, t4_0, t6_0, t7_0, t8_0, t9_0, t10_0, t11_0, t12_0, t13_0, t14_0, t15_0, t16_0, t17_0, t18_0, t19_0, t20_0, t21_0, t22_0, t23_0, hT0, hT1, hT2, hT3, hT4, hT6, hT7, hT8, hT9, hT10, hT11, hT12, hT13, hT14, hT15, hT16, hT17, hT18, hT19, hT20, hT21, hT22, hT23, (show ((F_NH_canHave lx231), (0 : Int32), t0_0, t0_1, t0_2, t0_3, t1_0, t2_0, t3_0, t4_0, t6_0, t7_0, t8_0, t9_0, t10_0, t11_0, t12_0, t13_0, t14_0, t15_0, t16_0, t17_0, t18_0, t19_0, t20_0, t21_0, t22_0, t23_0) = (F_NH_argument x2 x3 t0_0 t0_1 t0_2 t0_3 t1_0 t2_0 t3_0 t4_0 t5_0 t6_0 t7_0 t8_0 t9_0 t10_0 t11_0 t12_0 t13_0 t14_0 t15_0 t16_0 t17_0 t18_0 t19_0 t20_0 t21_0 t22_0 t23_0 t24_0 t24_1 t25_0 t26_0 t26_1 t27_0 t27_1 t28_0) from Eq.trans (by rw [F_NH_argument_J110.eq_1, if_neg c275]) hR264)⟩) hce hcv hcl (Nat.le_of_ble_eq_true rfl) (Nat.le_of_ble_eq_true rfl)
                  ·
                    obtain ⟨rfl, hE276⟩ := hp270
                    have c275 : (F_NH_canHave lx231) = (0 : Int32) := ((hE276) : (0 : Int32) = _).symm
                    refine lv_iload_n hx hb d_1_19_113 rfl (lv_at hl 1 rfl) ?_
                    refine lv_iconst (v := 1) hx hb d_1_19_114 (by decide) ?_
                    refine q_join (X := Int32) (fun z H locs ls _ => q_F (0 ≤ z.toInt) ∧ q_F (z.toInt ≤ 1) ∧ q_Wd D g (va_A ws sz) s ws H locs ∧ lv_has ls 3 [(0, .ref (q 0)), (1, .int x2), (2, .int x3)] ∧ F_NH_argument_J139 x2 x3 t0_0 t0_1 t0_2 t0_3 t1_0 t2_0 t3_0 t4_0 t5_0 t6_0 t7_0 t8_0 t9_0 t10_0 t11_0 t12_0 t13_0 t14_0 t15_0 t16_0 t17_0 t18_0 t19_0 t20_0 t21_0 t22_0 t23_0 t24_0 t24_1 t25_0 t26_0 t26_1 t27_0 t27_1 t28_0 lx88 lx135 lx182 lx231 z = (F_NH_argument x2 x3 t0_0 t0_1 t0_2 t0_3 t1_0 t2_0 t3_0 t4_0 t5_0 t6_0 t7_0 t8_0 t9_0 t10_0 t11_0 t12_0 t13_0 t14_0 t15_0 t16_0 t17_0 t18_0 t19_0 t20_0 t21_0 t22_0 t23_0 t24_0 t24_1 t25_0 t26_0 t26_1 t27_0 t27_1 t28_0) ∧ True ∧ S_NH_argument_J139 x2 x3 t0_0 t0_1 t0_2 t0_3 t1_0 t2_0 t3_0 t4_0 t5_0 t6_0 t7_0 t8_0 t9_0 t10_0 t11_0 t12_0 t13_0 t14_0 t15_0 t16_0 t17_0 t18_0 t19_0 t20_0 t21_0 t22_0 t23_0 t24_0 t24_1 t25_0 t26_0 t26_1 t27_0 t27_1 t28_0 lx88 lx135 lx182 lx231 z) (fun z => [.int z]) 139 4 24 ?_ ?_
                    ·
                      rintro lx278 H locs ls _ hZ9
                      obtain ⟨i309, hZ9⟩ := hZ9
                      obtain ⟨i310, hZ9⟩ := hZ9
                      obtain ⟨V, hZ9⟩ := hZ9
                      obtain ⟨hl, hZ9⟩ := hZ9
                      obtain ⟨hR311, hS312⟩ := hZ9
                      replace i309 : q_F (0 ≤ lx278.toInt) := i309
                      replace i310 : q_F (lx278.toInt ≤ 1) := i310
                      replace hl : lv_has ls 3 [(0, .ref (q 0)), (1, .int x2), (2, .int x3)] := hl
                      refine q_goxv V (q_runSX (As := [.int lx278]) (rest := []) (d := 7) (mc := 1) (ms := 6) C0 V rfl LS_NH_138 (X_NH_canHave l D g q ws  lx278 hlt hI  ⟨(by first | with_reducible exact q_fe i309 | (have t1 : 0 ≤ lx278.toInt := i309; omega)), (by first | with_reducible exact q_fe i310 | (have t1 : lx278.toInt ≤ 1 := i310; omega))⟩ _) rfl hl.1 rfl (Nat.le_of_ble_eq_true rfl) ⟨by decide, by decide⟩ ⟨Nat.le_of_ble_eq_true rfl, Nat.le_of_ble_eq_true rfl⟩ d_1_19_139) (fun qx Ex ce u316 H locs hp317 V hce hcv hcl => ?_) (fun u316 H locs hp317 V => ?_)
                      ·
                        obtain ⟨cx319, he320, hc321, rfl, hE318⟩ := hp317
                        have c322 : ¬ (F_NH_canHave lx278) = (0 : Int32) := fun z => hc321 (((hE318) : cx319 = _).trans z)
                        exact q_outT hno C0 V (⟨(F_NH_canHave lx278), (he320.trans (congrArg qE ((hE318) : cx319 = _))), c322, hI, hF, t0_0, t0_1, t0_2, t0_3, t1_0, t2_0, t3_0, t4_0, t6_0, t7_0, t8_0, t9_0, t10_0, t11_0, t12_0, t13_0, t14_0, t15_0, t16_0, t17_0, t18_0, t19_0, t20_0, t21_0, t22_0, t23_0, hT0, hT1, hT2, hT3, hT4, hT6, hT7, hT8, hT9, hT10, hT11, hT12, hT13, hT14, hT15, hT16, hT17, hT18, hT19, hT20, hT21, hT22, hT23, (show ((F_NH_canHave lx278), (0 : Int32), t0_0, t0_1, t0_2, t0_3, t1_0, t2_0, t3_0, t4_0, t6_0, t7_0, t8_0, t9_0, t10_0, t11_0, t12_0, t13_0, t14_0, t15_0, t16_0, t17_0, t18_0, t19_0, t20_0, t21_0, t22_0, t23_0) = (F_NH_argument x2 x3 t0_0 t0_1 t0_2 t0_3 t1_0 t2_0 t3_0 t4_0 t5_0 t6_0 t7_0 t8_0 t9_0 t10_0 t11_0 t12_0 t13_0 t14_0 t15_0 t16_0 t17_0 t18_0 t19_0 t20_0 t21_0 t22_0 t23_0 t24_0 t24_1 t25_0 t26_0 t26_1 t27_0 t27_1 t28_0) from Eq.trans (by rw [F_NH_argument_J139.eq_1, if_neg c322]) hR311)⟩) hce hcv hcl (Nat.le_of_ble_eq_true rfl) (Nat.le_of_ble_eq_true rfl)
                      ·
                        obtain ⟨rfl, hE323⟩ := hp317
                        have c322 : (F_NH_canHave lx278) = (0 : Int32) := ((hE323) : (0 : Int32) = _).symm
                        refine lv_iload_n hx hb d_1_19_142 rfl (lv_at hl 1 rfl) ?_
                        refine lv_bipush (v := 7) hx hb d_1_19_143 (by decide) ?_
                        refine q_join (X := Unit) (fun z H locs ls _ => q_Wd D g (va_A ws sz) s ws H locs ∧ lv_has ls 3 [(0, .ref (q 0)), (1, .int x2), (2, .int x3)] ∧ F_NH_argument_J171 x2 x3 t0_0 t0_1 t0_2 t0_3 t1_0 t2_0 t3_0 t4_0 t5_0 t6_0 t7_0 t8_0 t9_0 t10_0 t11_0 t12_0 t13_0 t14_0 t15_0 t16_0 t17_0 t18_0 t19_0 t20_0 t21_0 t22_0 t23_0 t24_0 t24_1 t25_0 t26_0 t26_1 t27_0 t27_1 t28_0 lx88 lx135 lx182 lx231 lx278 = (F_NH_argument x2 x3 t0_0 t0_1 t0_2 t0_3 t1_0 t2_0 t3_0 t4_0 t5_0 t6_0 t7_0 t8_0 t9_0 t10_0 t11_0 t12_0 t13_0 t14_0 t15_0 t16_0 t17_0 t18_0 t19_0 t20_0 t21_0 t22_0 t23_0 t24_0 t24_1 t25_0 t26_0 t26_1 t27_0 t27_1 t28_0) ∧ True ∧ S_NH_argument_J171 x2 x3 t0_0 t0_1 t0_2 t0_3 t1_0 t2_0 t3_0 t4_0 t5_0 t6_0 t7_0 t8_0 t9_0 t10_0 t11_0 t12_0 t13_0 t14_0 t15_0 t16_0 t17_0 t18_0 t19_0 t20_0 t21_0 t22_0 t23_0 t24_0 t24_1 t25_0 t26_0 t26_1 t27_0 t27_1 t28_0 lx88 lx135 lx182 lx231 lx278) (fun z => []) 171 5 30 ?_ ?_
                        ·
                          rintro _ H locs ls _ ⟨V, hl, hR355, hS356⟩
                          replace hl : lv_has ls 3 [(0, .ref (q 0)), (1, .int x2), (2, .int x3)] := hl
                          refine lv_aload_n hx hb d_1_19_171 rfl (lv_at hl 0 rfl) ?_
                          have hO360 := n_o0 hI
                          refine q_get (ci := 0) (j := 13) (v := .ref (q 40)) C0 V i_NH rfl rfl hO360 (by decide) w_437 rfl d_1_19_172 ?_
                          refine q_get (ci := 11) (j := 0) (v := .int t0_0) C0 V i_Pri rfl rfl hT0 (by decide) w_385 rfl d_1_19_175 ?_
                          refine lv_bipush (v := 9) hx hb d_1_19_178 (by decide) ?_
                          refine lv_icmp_lt (tgt := 185) hx hb d_1_19_180 (by decide) (fun c361 => ?_) (fun c361 => ?_)
                          ·
                            refine lv_aload_n hx hb d_1_19_185 rfl (lv_at hl 0 rfl) ?_
                            refine lv_iload_n hx hb d_1_19_186 rfl (lv_at hl 1 rfl) ?_
                            refine lv_iload_n hx hb d_1_19_187 rfl (lv_at hl 2 rfl) ?_
                            have ob363 : True ∧ S_NH_addArgument x2 x3 t0_0 t0_1 t0_2 t0_3 t1_0 t2_0 t3_0 t4_0 t5_0 t6_0 t7_0 t8_0 t9_0 t10_0 t11_0 t12_0 t13_0 t14_0 t15_0 t16_0 t17_0 t18_0 t19_0 t20_0 t21_0 t22_0 t23_0 t24_0 t24_1 t25_0 t26_0 t26_1 t27_0 t27_1 t28_0 := (by have h := hS356; rw [S_NH_argument_J171.eq_1] at h; rw [if_pos c361] at h; with_reducible exact h.2.1)
                            refine q_gov V (q_runV (As := [.int x2, .int x3]) (rest := []) (d := 4) (mc := 0) (ms := 0) (ci := 0) C0 V rfl LV_NH_357 (X_NH_addArgument l D g q ws  x2 x3 k3 hBk3 yk3 gk3x3 d3 hBd3 yd3 gd3x3 (by have z := ne_k3_d3; omega) (by have z := ne_k3_d3p1; omega) (by have z := ne_k3_d3p2; omega) (by have z := ne_d3_k3p1; omega) hI t0_0 t0_1 t0_2 t0_3 hT0 t1_0 hT1 t2_0 hT2 t3_0 hT3 t4_0 hT4 t5_0 hT5 t6_0 hT6 t7_0 hT7 t8_0 hT8 t9_0 hT9 t10_0 hT10 t11_0 hT11 t12_0 hT12 t13_0 hT13 t14_0 hT14 t15_0 hT15 t16_0 hT16 t17_0 hT17 t18_0 hT18 t19_0 hT19 t20_0 hT20 t21_0 hT21 t22_0 hT22 t23_0 hT23 t24_0 t24_1 hT24 t25_0 hT25 t26_0 t26_1 hT26 t27_0 t27_1 hT27 t28_0 hT28 ob363 _) rfl rfl hO360 rfl hl.1 rfl (Nat.le_of_ble_eq_true rfl) ⟨by decide, by decide⟩ ⟨Nat.le_of_ble_eq_true rfl, Nat.le_of_ble_eq_true rfl⟩ d_1_19_188) (fun u364 H locs hp365 V => ?_)
                            obtain ⟨hI, hZ9⟩ := hp365
                            obtain ⟨hu452, hZ9⟩ := hZ9
                            obtain ⟨y367, hZ9⟩ := hZ9
                            obtain ⟨y368, hZ9⟩ := hZ9
                            obtain ⟨y369, hZ9⟩ := hZ9
                            obtain ⟨y370, hZ9⟩ := hZ9
                            obtain ⟨f371, hZ9⟩ := hZ9
                            obtain ⟨f373, hZ9⟩ := hZ9
                            obtain ⟨f375, hZ9⟩ := hZ9
                            obtain ⟨y378, hZ9⟩ := hZ9
                            obtain ⟨y380, hZ9⟩ := hZ9
                            obtain ⟨f381, hZ9⟩ := hZ9
                            obtain ⟨y384, hZ9⟩ := hZ9
                            obtain ⟨f385, hZ9⟩ := hZ9
                            obtain ⟨y388, hZ9⟩ := hZ9
                            obtain ⟨f389, hZ9⟩ := hZ9
                            obtain ⟨y392, hZ9⟩ := hZ9
                            obtain ⟨f393, hZ9⟩ := hZ9
                            obtain ⟨y396, hZ9⟩ := hZ9
                            obtain ⟨f397, hZ9⟩ := hZ9
                            obtain ⟨y400, hZ9⟩ := hZ9
                            obtain ⟨f401, hZ9⟩ := hZ9
                            obtain ⟨y404, hZ9⟩ := hZ9
                            obtain ⟨f405, hZ9⟩ := hZ9
                            obtain ⟨y408, hZ9⟩ := hZ9
                            obtain ⟨f409, hZ9⟩ := hZ9
                            obtain ⟨y412, hZ9⟩ := hZ9
                            obtain ⟨f413, hZ9⟩ := hZ9
                            obtain ⟨hO366, hZ9⟩ := hZ9
                            obtain ⟨hA372, hZ9⟩ := hZ9
                            obtain ⟨hA374, hZ9⟩ := hZ9
                            obtain ⟨hA376, hZ9⟩ := hZ9
                            obtain ⟨hO377, hZ9⟩ := hZ9
                            obtain ⟨hO379, hZ9⟩ := hZ9
                            obtain ⟨hA382, hZ9⟩ := hZ9
                            obtain ⟨hO383, hZ9⟩ := hZ9
                            obtain ⟨hA386, hZ9⟩ := hZ9
                            obtain ⟨hO387, hZ9⟩ := hZ9
                            obtain ⟨hA390, hZ9⟩ := hZ9
                            obtain ⟨hO391, hZ9⟩ := hZ9
                            obtain ⟨hA394, hZ9⟩ := hZ9
                            obtain ⟨hO395, hZ9⟩ := hZ9
                            obtain ⟨hA398, hZ9⟩ := hZ9
                            obtain ⟨hO399, hZ9⟩ := hZ9
                            obtain ⟨hA402, hZ9⟩ := hZ9
                            obtain ⟨hO403, hZ9⟩ := hZ9
                            obtain ⟨hA406, hZ9⟩ := hZ9
                            obtain ⟨hO407, hZ9⟩ := hZ9
                            obtain ⟨hA410, hZ9⟩ := hZ9
                            obtain ⟨hO411, hZ9⟩ := hZ9
                            obtain ⟨hA414, hZ9⟩ := hZ9
                            obtain ⟨b415, hZ9⟩ := hZ9
                            obtain ⟨b416, hZ9⟩ := hZ9
                            obtain ⟨b417, hZ9⟩ := hZ9
                            obtain ⟨b418, hZ9⟩ := hZ9
                            obtain ⟨b419, hZ9⟩ := hZ9
                            obtain ⟨b420, hZ9⟩ := hZ9
                            obtain ⟨b421, hZ9⟩ := hZ9
                            obtain ⟨b422, hZ9⟩ := hZ9
                            obtain ⟨b423, hZ9⟩ := hZ9
                            obtain ⟨b424, hZ9⟩ := hZ9
                            obtain ⟨b425, hZ9⟩ := hZ9
                            obtain ⟨b426, hZ9⟩ := hZ9
                            obtain ⟨b427, hZ9⟩ := hZ9
                            obtain ⟨b428, hZ9⟩ := hZ9
                            obtain ⟨b429, hZ9⟩ := hZ9
                            obtain ⟨b430, hZ9⟩ := hZ9
                            obtain ⟨b431, hZ9⟩ := hZ9
                            obtain ⟨b432, hZ9⟩ := hZ9
                            obtain ⟨b433, hZ9⟩ := hZ9
                            obtain ⟨b434, hZ9⟩ := hZ9
                            obtain ⟨b435, hZ9⟩ := hZ9
                            obtain ⟨b436, hZ9⟩ := hZ9
                            obtain ⟨b437, hZ9⟩ := hZ9
                            obtain ⟨b438, hZ9⟩ := hZ9
                            obtain ⟨b439, hZ9⟩ := hZ9
                            obtain ⟨b440, hZ9⟩ := hZ9
                            replace hZ9 := hZ9.2
                            obtain ⟨b442, hZ9⟩ := hZ9
                            obtain ⟨b443, hZ9⟩ := hZ9
                            obtain ⟨b444, hZ9⟩ := hZ9
                            obtain ⟨b445, hZ9⟩ := hZ9
                            obtain ⟨b446, hZ9⟩ := hZ9
                            obtain ⟨b447, hZ9⟩ := hZ9
                            obtain ⟨b448, hZ9⟩ := hZ9
                            obtain ⟨b449, hZ9⟩ := hZ9
                            obtain ⟨b450, hE451⟩ := hZ9
                            replace hO366 : u364[40]? = (some (q 40, .inr (11, [.int y367, .ref (q 41), .ref (q 42), .ref (q 43), .ref (q 44), .ref (q 1), .ref (q 47), .ref (q 36), .ref (q 45), .int y368, .int y369, .int y370])) : Option (Nat × va_E)) := hO366
                            replace hA372 : u364[41]? = (some (q 41, .inl (g 0, 9, .inl f371)) : Option (Nat × va_E)) := hA372
                            replace hA374 : u364[42]? = (some (q 42, .inl (g 1, 9, .inr (.inl f373))) : Option (Nat × va_E)) := hA374
                            replace hA376 : u364[43]? = (some (q 43, .inl (g 0, 9, .inl f375)) : Option (Nat × va_E)) := hA376
                            replace hO377 : u364[1]? = (some (q 1, .inr (1, [.ref (q 2), .int 4100, .int y378])) : Option (Nat × va_E)) := hO377
                            replace hO379 : u364[48]? = (some (q 48, .inr (1, [.ref (q 49), .int 64, .int y380])) : Option (Nat × va_E)) := hO379
                            replace hA382 : u364[49]? = (some (q 49, .inl (g 1, (8 : Int32).toNatClampNeg, .inr (.inl f381))) : Option (Nat × va_E)) := hA382
                            replace hO383 : u364[50]? = (some (q 50, .inr (1, [.ref (q 51), .int 64, .int y384])) : Option (Nat × va_E)) := hO383
                            replace hA386 : u364[51]? = (some (q 51, .inl (g 1, (8 : Int32).toNatClampNeg, .inr (.inl f385))) : Option (Nat × va_E)) := hA386
                            replace hO387 : u364[52]? = (some (q 52, .inr (1, [.ref (q 53), .int 64, .int y388])) : Option (Nat × va_E)) := hO387
                            replace hA390 : u364[53]? = (some (q 53, .inl (g 1, (8 : Int32).toNatClampNeg, .inr (.inl f389))) : Option (Nat × va_E)) := hA390
                            replace hO391 : u364[54]? = (some (q 54, .inr (1, [.ref (q 55), .int 64, .int y392])) : Option (Nat × va_E)) := hO391
                            replace hA394 : u364[55]? = (some (q 55, .inl (g 1, (8 : Int32).toNatClampNeg, .inr (.inl f393))) : Option (Nat × va_E)) := hA394
                            replace hO395 : u364[56]? = (some (q 56, .inr (1, [.ref (q 57), .int 64, .int y396])) : Option (Nat × va_E)) := hO395
                            replace hA398 : u364[57]? = (some (q 57, .inl (g 1, (8 : Int32).toNatClampNeg, .inr (.inl f397))) : Option (Nat × va_E)) := hA398
                            replace hO399 : u364[58]? = (some (q 58, .inr (1, [.ref (q 59), .int 64, .int y400])) : Option (Nat × va_E)) := hO399
                            replace hA402 : u364[59]? = (some (q 59, .inl (g 1, (8 : Int32).toNatClampNeg, .inr (.inl f401))) : Option (Nat × va_E)) := hA402
                            replace hO403 : u364[60]? = (some (q 60, .inr (1, [.ref (q 61), .int 64, .int y404])) : Option (Nat × va_E)) := hO403
                            replace hA406 : u364[61]? = (some (q 61, .inl (g 1, (8 : Int32).toNatClampNeg, .inr (.inl f405))) : Option (Nat × va_E)) := hA406
                            replace hO407 : u364[62]? = (some (q 62, .inr (1, [.ref (q 63), .int 64, .int y408])) : Option (Nat × va_E)) := hO407
                            replace hA410 : u364[63]? = (some (q 63, .inl (g 1, (8 : Int32).toNatClampNeg, .inr (.inl f409))) : Option (Nat × va_E)) := hA410
                            replace hO411 : u364[64]? = (some (q 64, .inr (1, [.ref (q 65), .int 64, .int y412])) : Option (Nat × va_E)) := hO411
                            replace hA414 : u364[65]? = (some (q 65, .inl (g 1, (8 : Int32).toNatClampNeg, .inr (.inl f413))) : Option (Nat × va_E)) := hA414
                            obtain ⟨p453, e454⟩ : ∃ z, z = (F_NH_addArgument x2 x3 t0_0 t0_1 t0_2 t0_3 t1_0 t2_0 t3_0 t4_0 t5_0 t6_0 t7_0 t8_0 t9_0 t10_0 t11_0 t12_0 t13_0 t14_0 t15_0 t16_0 t17_0 t18_0 t19_0 t20_0 t21_0 t22_0 t23_0 t24_0 t24_1 t25_0 t26_0 t26_1 t27_0 t27_1 t28_0) := ⟨_, rfl⟩
                            have e455 : y367 = p453.1 := congrArg (fun z => z.1) (hE451.trans e454.symm)
                            have e456 : y368 = p453.2.1 := congrArg (fun z => z.2.1) (hE451.trans e454.symm)
                            have e457 : y369 = p453.2.2.1 := congrArg (fun z => z.2.2.1) (hE451.trans e454.symm)
                            have e458 : y370 = p453.2.2.2.1 := congrArg (fun z => z.2.2.2.1) (hE451.trans e454.symm)
                            have e459 : f371 = p453.2.2.2.2.1 := congrArg (fun z => z.2.2.2.2.1) (hE451.trans e454.symm)
                            have e460 : f373 = p453.2.2.2.2.2.1 := congrArg (fun z => z.2.2.2.2.2.1) (hE451.trans e454.symm)
                            have e461 : f375 = p453.2.2.2.2.2.2.1 := congrArg (fun z => z.2.2.2.2.2.2.1) (hE451.trans e454.symm)
                            have e462 : y378 = p453.2.2.2.2.2.2.2.1 := congrArg (fun z => z.2.2.2.2.2.2.2.1) (hE451.trans e454.symm)
                            have e463 : y380 = p453.2.2.2.2.2.2.2.2.1 := congrArg (fun z => z.2.2.2.2.2.2.2.2.1) (hE451.trans e454.symm)
                            have e464 : f381 = p453.2.2.2.2.2.2.2.2.2.1 := congrArg (fun z => z.2.2.2.2.2.2.2.2.2.1) (hE451.trans e454.symm)
                            have e465 : y384 = p453.2.2.2.2.2.2.2.2.2.2.1 := congrArg (fun z => z.2.2.2.2.2.2.2.2.2.2.1) (hE451.trans e454.symm)
                            have e466 : f385 = p453.2.2.2.2.2.2.2.2.2.2.2.1 := congrArg (fun z => z.2.2.2.2.2.2.2.2.2.2.2.1) (hE451.trans e454.symm)
                            have e467 : y388 = p453.2.2.2.2.2.2.2.2.2.2.2.2.1 := congrArg (fun z => z.2.2.2.2.2.2.2.2.2.2.2.2.1) (hE451.trans e454.symm)
                            have e468 : f389 = p453.2.2.2.2.2.2.2.2.2.2.2.2.2.1 := congrArg (fun z => z.2.2.2.2.2.2.2.2.2.2.2.2.2.1) (hE451.trans e454.symm)
                            have e469 : y392 = p453.2.2.2.2.2.2.2.2.2.2.2.2.2.2.1 := congrArg (fun z => z.2.2.2.2.2.2.2.2.2.2.2.2.2.2.1) (hE451.trans e454.symm)
                            have e470 : f393 = p453.2.2.2.2.2.2.2.2.2.2.2.2.2.2.2.1 := congrArg (fun z => z.2.2.2.2.2.2.2.2.2.2.2.2.2.2.2.1) (hE451.trans e454.symm)
                            have e471 : y396 = p453.2.2.2.2.2.2.2.2.2.2.2.2.2.2.2.2.1 := congrArg (fun z => z.2.2.2.2.2.2.2.2.2.2.2.2.2.2.2.2.1) (hE451.trans e454.symm)
                            have e472 : f397 = p453.2.2.2.2.2.2.2.2.2.2.2.2.2.2.2.2.2.1 := congrArg (fun z => z.2.2.2.2.2.2.2.2.2.2.2.2.2.2.2.2.2.1) (hE451.trans e454.symm)
                            have e473 : y400 = p453.2.2.2.2.2.2.2.2.2.2.2.2.2.2.2.2.2.2.1 := congrArg (fun z => z.2.2.2.2.2.2.2.2.2.2.2.2.2.2.2.2.2.2.1) (hE451.trans e454.symm)
                            have e474 : f401 = p453.2.2.2.2.2.2.2.2.2.2.2.2.2.2.2.2.2.2.2.1 := congrArg (fun z => z.2.2.2.2.2.2.2.2.2.2.2.2.2.2.2.2.2.2.2.1) (hE451.trans e454.symm)
                            have e475 : y404 = p453.2.2.2.2.2.2.2.2.2.2.2.2.2.2.2.2.2.2.2.2.1 := congrArg (fun z => z.2.2.2.2.2.2.2.2.2.2.2.2.2.2.2.2.2.2.2.2.1) (hE451.trans e454.symm)
                            have e476 : f405 = p453.2.2.2.2.2.2.2.2.2.2.2.2.2.2.2.2.2.2.2.2.2.1 := congrArg (fun z => z.2.2.2.2.2.2.2.2.2.2.2.2.2.2.2.2.2.2.2.2.2.1) (hE451.trans e454.symm)
                            have e477 : y408 = p453.2.2.2.2.2.2.2.2.2.2.2.2.2.2.2.2.2.2.2.2.2.2.1 := congrArg (fun z => z.2.2.2.2.2.2.2.2.2.2.2.2.2.2.2.2.2.2.2.2.2.2.1) (hE451.trans e454.symm)
                            have e478 : f409 = p453.2.2.2.2.2.2.2.2.2.2.2.2.2.2.2.2.2.2.2.2.2.2.2.1 := congrArg (fun z => z.2.2.2.2.2.2.2.2.2.2.2.2.2.2.2.2.2.2.2.2.2.2.2.1) (hE451.trans e454.symm)
                            have e479 : y412 = p453.2.2.2.2.2.2.2.2.2.2.2.2.2.2.2.2.2.2.2.2.2.2.2.2.1 := congrArg (fun z => z.2.2.2.2.2.2.2.2.2.2.2.2.2.2.2.2.2.2.2.2.2.2.2.2.1) (hE451.trans e454.symm)
                            have e480 : f413 = p453.2.2.2.2.2.2.2.2.2.2.2.2.2.2.2.2.2.2.2.2.2.2.2.2.2 := congrArg (fun z => z.2.2.2.2.2.2.2.2.2.2.2.2.2.2.2.2.2.2.2.2.2.2.2.2.2) (hE451.trans e454.symm)
                            replace b415 : q_F (1 ≤ y367.toInt) := b415
                            replace b416 : q_F (y367.toInt ≤ 9) := b416
                            replace b417 : q_F (0 ≤ y368.toInt + 1) := b417
                            replace b418 : q_F (y368.toInt ≤ 1000000) := b418
                            replace b419 : q_F (0 ≤ y370.toInt + 1) := b419
                            replace b420 : q_F (y370.toInt ≤ 8) := b420
                            replace b421 : q_F (0 ≤ y378.toInt) := b421
                            replace b422 : q_F (y378.toInt ≤ 4100) := b422
                            replace b423 : q_F (0 ≤ y380.toInt) := b423
                            replace b424 : q_F (y380.toInt ≤ 64) := b424
                            replace b425 : q_F (0 ≤ y384.toInt) := b425
                            replace b426 : q_F (y384.toInt ≤ 64) := b426
                            replace b427 : q_F (0 ≤ y388.toInt) := b427
                            replace b428 : q_F (y388.toInt ≤ 64) := b428
                            replace b429 : q_F (0 ≤ y392.toInt) := b429
                            replace b430 : q_F (y392.toInt ≤ 64) := b430
                            replace b431 : q_F (0 ≤ y396.toInt) := b431
                            replace b432 : q_F (y396.toInt ≤ 64) := b432
                            replace b433 : q_F (0 ≤ y400.toInt) := b433
                            replace b434 : q_F (y400.toInt ≤ 64) := b434
                            replace b435 : q_F (0 ≤ y404.toInt) := b435
                            replace b436 : q_F (y404.toInt ≤ 64) := b436
                            replace b437 : q_F (0 ≤ y408.toInt) := b437
                            replace b438 : q_F (y408.toInt ≤ 64) := b438
                            replace b439 : q_F (0 ≤ y412.toInt) := b439
                            replace b440 : q_F (y412.toInt ≤ 64) := b440
                            replace b442 : q_F (y367.toInt ≤ t0_0.toInt + 1) := b442
                            replace b443 : q_F (t0_1.toInt ≤ y368.toInt) := b443
                            replace b444 : q_F (y368.toInt ≤ t0_1.toInt) := b444
                            replace b445 : q_F (t0_2.toInt ≤ y369.toInt) := b445
                            replace b446 : q_F (y369.toInt ≤ t0_2.toInt) := b446
                            replace b447 : q_F (t0_3.toInt ≤ y370.toInt) := b447
                            replace b448 : q_F (y370.toInt ≤ t0_3.toInt) := b448
                            replace b449 : q_F (t4_0.toInt ≤ y378.toInt + 64) := b449
                            replace b450 : q_F (y378.toInt ≤ t4_0.toInt) := b450
                            replace hO360 := (hu452 _ (by decide)).trans hO360
                            replace hF := q_uc hF hu452 (by simp)
                            have hR481 := (show F_NH_argument_c188 x2 x3 t0_0 t0_1 t0_2 t0_3 t1_0 t2_0 t3_0 t4_0 t5_0 t6_0 t7_0 t8_0 t9_0 t10_0 t11_0 t12_0 t13_0 t14_0 t15_0 t16_0 t17_0 t18_0 t19_0 t20_0 t21_0 t22_0 t23_0 t24_0 t24_1 t25_0 t26_0 t26_1 t27_0 t27_1 t28_0 lx88 lx135 lx182 lx231 lx278 p453 = (F_NH_argument x2 x3 t0_0 t0_1 t0_2 t0_3 t1_0 t2_0 t3_0 t4_0 t5_0 t6_0 t7_0 t8_0 t9_0 t10_0 t11_0 t12_0 t13_0 t14_0 t15_0 t16_0 t17_0 t18_0 t19_0 t20_0 t21_0 t22_0 t23_0 t24_0 t24_1 t25_0 t26_0 t26_1 t27_0 t27_1 t28_0) from Eq.trans (by rw [e454, F_NH_argument_J171.eq_1, if_pos c361]) hR355)
                            have hS482 := (show True ∧ S_NH_argument_c188 x2 x3 t0_0 t0_1 t0_2 t0_3 t1_0 t2_0 t3_0 t4_0 t5_0 t6_0 t7_0 t8_0 t9_0 t10_0 t11_0 t12_0 t13_0 t14_0 t15_0 t16_0 t17_0 t18_0 t19_0 t20_0 t21_0 t22_0 t23_0 t24_0 t24_1 t25_0 t26_0 t26_1 t27_0 t27_1 t28_0 lx88 lx135 lx182 lx231 lx278 p453 from (by rw [e454]; have h := hS356; rw [S_NH_argument_J171.eq_1] at h; rw [if_pos c361] at h; replace h := q_s2 h; with_reducible exact h))
                            refine lv_aload_n hx hb d_1_19_191 rfl (lv_at hl 0 rfl) ?_
                            refine q_get (ci := 0) (j := 13) (v := .ref (q 40)) C0 V i_NH rfl rfl hO360 (by decide) w_437 rfl d_1_19_192 ?_
                            refine q_get (ci := 11) (j := 0) (v := .int y367) C0 V i_Pri rfl rfl hO366 (by decide) w_385 rfl d_1_19_195 ?_
                            refine W.widen (k := 6) (n := 36) (Nat.le_of_ble_eq_true rfl) (Nat.le_of_ble_eq_true rfl) ?_
                            exact q_retX (q_reti C0 V (⟨hI, hF, y367, y368, y369, y370, f371, f373, f375, y378, y380, f381, y384, f385, y388, f389, y392, f393, y396, f397, y400, f401, y404, f405, y408, f409, y412, f413, hO366, hA372, hA374, hA376, hO377, hO379, hA382, hO383, hA386, hO387, hA390, hO391, hA394, hO395, hA398, hO399, hA402, hO403, hA406, hO407, hA410, hO411, hA414, (show 0 ≤ y367.toInt + 1 from (by first | with_reducible exact q_fe b415 | (have t1 : 1 ≤ y367.toInt := b415; omega))), (show y367.toInt ≤ 9 from (by first | with_reducible exact q_fe b416 | (have t1 : y367.toInt ≤ 9 := b416; omega))), (show 0 ≤ y367.toInt from (by first | with_reducible exact q_fe b415 | (have t1 : 1 ≤ y367.toInt := b415; omega))), (show y367.toInt ≤ 9 from (by first | with_reducible exact q_fe b416 | (have t1 : y367.toInt ≤ 9 := b416; omega))), (show 0 ≤ y368.toInt + 1 from (by first | with_reducible exact q_fe b417 | (have t1 : 0 ≤ y368.toInt + 1 := b417; omega))), (show y368.toInt ≤ 1000000 from (by first | with_reducible exact q_fe b418 | (have t1 : y368.toInt ≤ 1000000 := b418; omega))), (show 0 ≤ y370.toInt + 1 from (by first | with_reducible exact q_fe b419 | (have t1 : 0 ≤ y370.toInt + 1 := b419; omega))), (show y370.toInt ≤ 8 from (by first | with_reducible exact q_fe b420 | (have t1 : y370.toInt ≤ 8 := b420; omega))), (show 0 ≤ y378.toInt from (by first | with_reducible exact q_fe b421 | (have t1 : 0 ≤ y378.toInt := b421; omega))), (show y378.toInt ≤ 4100 from (by first | with_reducible exact q_fe b422 | (have t1 : y378.toInt ≤ 4100 := b422; omega))), (show 0 ≤ y380.toInt from (by first | with_reducible exact q_fe b423 | (have t1 : 0 ≤ y380.toInt := b423; omega))), (show y380.toInt ≤ 64 from (by first | with_reducible exact q_fe b424 | (have t1 : y380.toInt ≤ 64 := b424; omega))), (show 0 ≤ y384.toInt from (by first | with_reducible exact q_fe b425 | (have t1 : 0 ≤ y384.toInt := b425; omega))), (show y384.toInt ≤ 64 from (by first | with_reducible exact q_fe b426 | (have t1 : y384.toInt ≤ 64 := b426; omega))), (show 0 ≤ y388.toInt from (by first | with_reducible exact q_fe b427 | (have t1 : 0 ≤ y388.toInt := b427; omega))), (show y388.toInt ≤ 64 from (by first | with_reducible exact q_fe b428 | (have t1 : y388.toInt ≤ 64 := b428; omega))), (show 0 ≤ y392.toInt from (by first | with_reducible exact q_fe b429 | (have t1 : 0 ≤ y392.toInt := b429; omega))), (show y392.toInt ≤ 64 from (by first | with_reducible exact q_fe b430 | (have t1 : y392.toInt ≤ 64 := b430; omega))), (show 0 ≤ y396.toInt from (by first | with_reducible exact q_fe b431 | (have t1 : 0 ≤ y396.toInt := b431; omega))), (show y396.toInt ≤ 64 from (by first | with_reducible exact q_fe b432 | (have t1 : y396.toInt ≤ 64 := b432; omega))), (show 0 ≤ y400.toInt from (by first | with_reducible exact q_fe b433 | (have t1 : 0 ≤ y400.toInt := b433; omega))), (show y400.toInt ≤ 64 from (by first | with_reducible exact q_fe b434 | (have t1 : y400.toInt ≤ 64 := b434; omega))), (show 0 ≤ y404.toInt from (by first | with_reducible exact q_fe b435 | (have t1 : 0 ≤ y404.toInt := b435; omega))), (show y404.toInt ≤ 64 from (by first | with_reducible exact q_fe b436 | (have t1 : y404.toInt ≤ 64 := b436; omega))), (show 0 ≤ y408.toInt from (by first | with_reducible exact q_fe b437 | (have t1 : 0 ≤ y408.toInt := b437; omega))), (show y408.toInt ≤ 64 from (by first | with_reducible exact q_fe b438 | (have t1 : y408.toInt ≤ 64 := b438; omega))), (show 0 ≤ y412.toInt from (by first | with_reducible exact q_fe b439 | (have t1 : 0 ≤ y412.toInt := b439; omega))), (show y412.toInt ≤ 64 from (by first | with_reducible exact q_fe b440 | (have t1 : y412.toInt ≤ 64 := b440; omega))), (show y367.toInt ≤ t0_0.toInt + 1 from (by first | with_reducible exact q_fe b442 | (have t1 : y367.toInt ≤ t0_0.toInt + 1 := b442; omega))), (show t0_1.toInt ≤ y368.toInt from (by first | with_reducible exact q_fe b443 | (have t1 : t0_1.toInt ≤ y368.toInt := b443; omega))), (show y368.toInt ≤ t0_1.toInt from (by first | with_reducible exact q_fe b444 | (have t1 : y368.toInt ≤ t0_1.toInt := b444; omega))), (show t0_2.toInt ≤ y369.toInt from (by first | with_reducible exact q_fe b445 | (have t1 : t0_2.toInt ≤ y369.toInt := b445; omega))), (show y369.toInt ≤ t0_2.toInt from (by first | with_reducible exact q_fe b446 | (have t1 : y369.toInt ≤ t0_2.toInt := b446; omega))), (show t0_3.toInt ≤ y370.toInt from (by first | with_reducible exact q_fe b447 | (have t1 : t0_3.toInt ≤ y370.toInt := b447; omega))), (show y370.toInt ≤ t0_3.toInt from (by first | with_reducible exact q_fe b448 | (have t1 : y370.toInt ≤ t0_3.toInt := b448; omega))), (show t4_0.toInt ≤ y378.toInt + 64 from (by first | with_reducible exact q_fe b449 | (have t1 : t4_0.toInt ≤ y378.toInt + 64 := b449; omega))), (show y378.toInt ≤ t4_0.toInt from (by first | with_reducible exact q_fe b450 | (have t1 : y378.toInt ≤ t4_0.toInt := b450; omega))), (show y367.toInt ≤ y367.toInt from (by omega)), (show ((0 : Int32), y367, y367, y368, y369, y370, f371, f373, f375, y378, y380, f381, y384, f385, y388, f389, y392, f393, y396, f397, y400, f401, y404, f405, y408, f409, y412, f413) = (F_NH_argument x2 x3 t0_0 t0_1 t0_2 t0_3 t1_0 t2_0 t3_0 t4_0 t5_0 t6_0 t7_0 t8_0 t9_0 t10_0 t11_0 t12_0 t13_0 t14_0 t15_0 t16_0 t17_0 t18_0 t19_0 t20_0 t21_0 t22_0 t23_0 t24_0 t24_1 t25_0 t26_0 t26_1 t27_0 t27_1 t28_0) from Eq.trans (by rw [e480, e479, e478, e477, e476, e475, e474, e473, e472, e471, e470, e469, e468, e467, e466, e465, e464, e463, e462, e461, e460, e459, e458, e457, e456, e455, F_NH_argument_c188.eq_1]) hR481)⟩) d_1_19_198)
                          ·
                            refine lv_iconst (v := (-1)) hx hb d_1_19_183 (by decide) ?_
                            refine W.widen (k := 6) (n := 36) (Nat.le_of_ble_eq_true rfl) (Nat.le_of_ble_eq_true rfl) ?_
                            exact q_retX (q_reti C0 V (⟨hI, hF, t0_0, t0_1, t0_2, t0_3, t1_0, t2_0, t3_0, t4_0, t6_0, t7_0, t8_0, t9_0, t10_0, t11_0, t12_0, t13_0, t14_0, t15_0, t16_0, t17_0, t18_0, t19_0, t20_0, t21_0, t22_0, t23_0, hT0, hT1, hT2, hT3, hT4, hT6, hT7, hT8, hT9, hT10, hT11, hT12, hT13, hT14, hT15, hT16, hT17, hT18, hT19, hT20, hT21, hT22, hT23, (show 0 ≤ (-1 : Int32).toInt + 1 from (by have z37 : (-1 : Int32).toInt = -1 := rfl; omega)), (show (-1 : Int32).toInt ≤ 9 from (by have z37 : (-1 : Int32).toInt = -1 := rfl; omega)), (show 0 ≤ t0_0.toInt from (by have z37 : (-1 : Int32).toInt = -1 := rfl; have t1 : 0 ≤ t0_0.toInt ∧ t0_0.toInt ≤ 9 := btt0_0; omega)), (show t0_0.toInt ≤ 9 from (by have z37 : (-1 : Int32).toInt = -1 := rfl; have t1 : 0 ≤ t0_0.toInt ∧ t0_0.toInt ≤ 9 := btt0_0; omega)), (show 0 ≤ t0_1.toInt + 1 from (by have z37 : (-1 : Int32).toInt = -1 := rfl; have t1 : -1 ≤ t0_1.toInt ∧ t0_1.toInt ≤ 1000000 := btt0_1; omega)), (show t0_1.toInt ≤ 1000000 from (by have z37 : (-1 : Int32).toInt = -1 := rfl; have t1 : -1 ≤ t0_1.toInt ∧ t0_1.toInt ≤ 1000000 := btt0_1; omega)), (show 0 ≤ t0_3.toInt + 1 from (by have z37 : (-1 : Int32).toInt = -1 := rfl; have t1 : -1 ≤ t0_3.toInt ∧ t0_3.toInt ≤ 8 := btt0_3; omega)), (show t0_3.toInt ≤ 8 from (by have z37 : (-1 : Int32).toInt = -1 := rfl; have t1 : -1 ≤ t0_3.toInt ∧ t0_3.toInt ≤ 8 := btt0_3; omega)), (show 0 ≤ t4_0.toInt from (by have z37 : (-1 : Int32).toInt = -1 := rfl; have t1 : 0 ≤ t4_0.toInt ∧ t4_0.toInt ≤ 4100 := btt4_0; omega)), (show t4_0.toInt ≤ 4100 from (by have z37 : (-1 : Int32).toInt = -1 := rfl; have t1 : 0 ≤ t4_0.toInt ∧ t4_0.toInt ≤ 4100 := btt4_0; omega)), (show 0 ≤ t6_0.toInt from (by have z37 : (-1 : Int32).toInt = -1 := rfl; have t1 : 0 ≤ t6_0.toInt ∧ t6_0.toInt ≤ 64 := btt6_0; omega)), (show t6_0.toInt ≤ 64 from (by have z37 : (-1 : Int32).toInt = -1 := rfl; have t1 : 0 ≤ t6_0.toInt ∧ t6_0.toInt ≤ 64 := btt6_0; omega)), (show 0 ≤ t8_0.toInt from (by have z37 : (-1 : Int32).toInt = -1 := rfl; have t1 : 0 ≤ t8_0.toInt ∧ t8_0.toInt ≤ 64 := btt8_0; omega)), (show t8_0.toInt ≤ 64 from (by have z37 : (-1 : Int32).toInt = -1 := rfl; have t1 : 0 ≤ t8_0.toInt ∧ t8_0.toInt ≤ 64 := btt8_0; omega)), (show 0 ≤ t10_0.toInt from (by have z37 : (-1 : Int32).toInt = -1 := rfl; have t1 : 0 ≤ t10_0.toInt ∧ t10_0.toInt ≤ 64 := btt10_0; omega)), (show t10_0.toInt ≤ 64 from (by have z37 : (-1 : Int32).toInt = -1 := rfl; have t1 : 0 ≤ t10_0.toInt ∧ t10_0.toInt ≤ 64 := btt10_0; omega)), (show 0 ≤ t12_0.toInt from (by have z37 : (-1 : Int32).toInt = -1 := rfl; have t1 : 0 ≤ t12_0.toInt ∧ t12_0.toInt ≤ 64 := btt12_0; omega)), (show t12_0.toInt ≤ 64 from (by have z37 : (-1 : Int32).toInt = -1 := rfl; have t1 : 0 ≤ t12_0.toInt ∧ t12_0.toInt ≤ 64 := btt12_0; omega)), (show 0 ≤ t14_0.toInt from (by have z37 : (-1 : Int32).toInt = -1 := rfl; have t1 : 0 ≤ t14_0.toInt ∧ t14_0.toInt ≤ 64 := btt14_0; omega)), (show t14_0.toInt ≤ 64 from (by have z37 : (-1 : Int32).toInt = -1 := rfl; have t1 : 0 ≤ t14_0.toInt ∧ t14_0.toInt ≤ 64 := btt14_0; omega)), (show 0 ≤ t16_0.toInt from (by have z37 : (-1 : Int32).toInt = -1 := rfl; have t1 : 0 ≤ t16_0.toInt ∧ t16_0.toInt ≤ 64 := btt16_0; omega)), (show t16_0.toInt ≤ 64 from (by have z37 : (-1 : Int32).toInt = -1 := rfl; have t1 : 0 ≤ t16_0.toInt ∧ t16_0.toInt ≤ 64 := btt16_0; omega)), (show 0 ≤ t18_0.toInt from (by have z37 : (-1 : Int32).toInt = -1 := rfl; have t1 : 0 ≤ t18_0.toInt ∧ t18_0.toInt ≤ 64 := btt18_0; omega)), (show t18_0.toInt ≤ 64 from (by have z37 : (-1 : Int32).toInt = -1 := rfl; have t1 : 0 ≤ t18_0.toInt ∧ t18_0.toInt ≤ 64 := btt18_0; omega)), (show 0 ≤ t20_0.toInt from (by have z37 : (-1 : Int32).toInt = -1 := rfl; have t1 : 0 ≤ t20_0.toInt ∧ t20_0.toInt ≤ 64 := btt20_0; omega)), (show t20_0.toInt ≤ 64 from (by have z37 : (-1 : Int32).toInt = -1 := rfl; have t1 : 0 ≤ t20_0.toInt ∧ t20_0.toInt ≤ 64 := btt20_0; omega)), (show 0 ≤ t22_0.toInt from (by have z37 : (-1 : Int32).toInt = -1 := rfl; have t1 : 0 ≤ t22_0.toInt ∧ t22_0.toInt ≤ 64 := btt22_0; omega)), (show t22_0.toInt ≤ 64 from (by have z37 : (-1 : Int32).toInt = -1 := rfl; have t1 : 0 ≤ t22_0.toInt ∧ t22_0.toInt ≤ 64 := btt22_0; omega)), (show t0_0.toInt ≤ t0_0.toInt + 1 from (by have z37 : (-1 : Int32).toInt = -1 := rfl; omega)), (show t0_1.toInt ≤ t0_1.toInt from (by have z37 : (-1 : Int32).toInt = -1 := rfl; omega)), (show t0_1.toInt ≤ t0_1.toInt from (by have z37 : (-1 : Int32).toInt = -1 := rfl; omega)), (show t0_2.toInt ≤ t0_2.toInt from (by have z37 : (-1 : Int32).toInt = -1 := rfl; omega)), (show t0_2.toInt ≤ t0_2.toInt from (by have z37 : (-1 : Int32).toInt = -1 := rfl; omega)), (show t0_3.toInt ≤ t0_3.toInt from (by have z37 : (-1 : Int32).toInt = -1 := rfl; omega)), (show t0_3.toInt ≤ t0_3.toInt from (by have z37 : (-1 : Int32).toInt = -1 := rfl; omega)), (show t4_0.toInt ≤ t4_0.toInt + 64 from (by have z37 : (-1 : Int32).toInt = -1 := rfl; omega)), (show t4_0.toInt ≤ t4_0.toInt from (by have z37 : (-1 : Int32).toInt = -1 := rfl; omega)), (show (-1 : Int32).toInt ≤ t0_0.toInt from (by have z37 : (-1 : Int32).toInt = -1 := rfl; have t1 : 0 ≤ t0_0.toInt ∧ t0_0.toInt ≤ 9 := btt0_0; omega)), (show ((0 : Int32), (-1 : Int32), t0_0, t0_1, t0_2, t0_3, t1_0, t2_0, t3_0, t4_0, t6_0, t7_0, t8_0, t9_0, t10_0, t11_0, t12_0, t13_0, t14_0, t15_0, t16_0, t17_0, t18_0, t19_0, t20_0, t21_0, t22_0, t23_0) = (F_NH_argument x2 x3 t0_0 t0_1 t0_2 t0_3 t1_0 t2_0 t3_0 t4_0 t5_0 t6_0 t7_0 t8_0 t9_0 t10_0 t11_0 t12_0 t13_0 t14_0 t15_0 t16_0 t17_0 t18_0 t19_0 t20_0 t21_0 t22_0 t23_0 t24_0 t24_1 t25_0 t26_0 t26_1 t27_0 t27_1 t28_0) from Eq.trans (by rw [F_NH_argument_J171.eq_1, if_neg c361]) hR355)⟩) d_1_19_184)
                        ·
                          intro J354
                          refine lv_icmp_ne (tgt := 171) hx hb d_1_19_145 (by decide) (fun c487 => ?_) (fun c487 => ?_)
                          ·
                            exact J354 (()) _ _ _ ws ⟨V, q_lw hl (q_lw1 0 rfl (q_lw1 1 rfl (q_lw1 2 rfl q_lw0))), (show F_NH_argument_J171 x2 x3 t0_0 t0_1 t0_2 t0_3 t1_0 t2_0 t3_0 t4_0 t5_0 t6_0 t7_0 t8_0 t9_0 t10_0 t11_0 t12_0 t13_0 t14_0 t15_0 t16_0 t17_0 t18_0 t19_0 t20_0 t21_0 t22_0 t23_0 t24_0 t24_1 t25_0 t26_0 t26_1 t27_0 t27_1 t28_0 lx88 lx135 lx182 lx231 lx278 = (F_NH_argument x2 x3 t0_0 t0_1 t0_2 t0_3 t1_0 t2_0 t3_0 t4_0 t5_0 t6_0 t7_0 t8_0 t9_0 t10_0 t11_0 t12_0 t13_0 t14_0 t15_0 t16_0 t17_0 t18_0 t19_0 t20_0 t21_0 t22_0 t23_0 t24_0 t24_1 t25_0 t26_0 t26_1 t27_0 t27_1 t28_0) from Eq.trans (by rw [F_NH_argument_J139.eq_1, if_pos c322, if_neg c487]) hR311), (show True ∧ S_NH_argument_J171 x2 x3 t0_0 t0_1 t0_2 t0_3 t1_0 t2_0 t3_0 t4_0 t5_0 t6_0 t7_0 t8_0 t9_0 t10_0 t11_0 t12_0 t13_0 t14_0 t15_0 t16_0 t17_0 t18_0 t19_0 t20_0 t21_0 t22_0 t23_0 t24_0 t24_1 t25_0 t26_0 t26_1 t27_0 t27_1 t28_0 lx88 lx135 lx182 lx231 lx278 from (by have h := hS312; rw [S_NH_argument_J139.eq_1] at h; rw [if_pos c322] at h; rw [if_neg c487] at h; with_reducible exact h))⟩
                          ·
                            refine lv_aload_n hx hb d_1_19_148 rfl (lv_at hl 0 rfl) ?_
                            have hO490 := n_o0 hI
                            refine q_get (ci := 0) (j := 0) (v := .ref (q 1)) C0 V i_NH rfl rfl hO490 (by decide) w_424 rfl d_1_19_149 ?_
                            refine q_get (ci := 1) (j := 2) (v := .int t4_0) C0 V i_She rfl rfl hT4 (by decide) w_56 rfl d_1_19_152 ?_
                            refine lv_bipush (v := 64) hx hb d_1_19_155 (by decide) ?_
                            refine lv_icmp_le (tgt := 171) hx hb d_1_19_157 (by decide) (fun c491 => ?_) (fun c491 => ?_)
                            ·
                              exact J354 (()) _ _ _ ws ⟨V, q_lw hl (q_lw1 0 rfl (q_lw1 1 rfl (q_lw1 2 rfl q_lw0))), (show F_NH_argument_J171 x2 x3 t0_0 t0_1 t0_2 t0_3 t1_0 t2_0 t3_0 t4_0 t5_0 t6_0 t7_0 t8_0 t9_0 t10_0 t11_0 t12_0 t13_0 t14_0 t15_0 t16_0 t17_0 t18_0 t19_0 t20_0 t21_0 t22_0 t23_0 t24_0 t24_1 t25_0 t26_0 t26_1 t27_0 t27_1 t28_0 lx88 lx135 lx182 lx231 lx278 = (F_NH_argument x2 x3 t0_0 t0_1 t0_2 t0_3 t1_0 t2_0 t3_0 t4_0 t5_0 t6_0 t7_0 t8_0 t9_0 t10_0 t11_0 t12_0 t13_0 t14_0 t15_0 t16_0 t17_0 t18_0 t19_0 t20_0 t21_0 t22_0 t23_0 t24_0 t24_1 t25_0 t26_0 t26_1 t27_0 t27_1 t28_0) from Eq.trans (by rw [F_NH_argument_J139.eq_1, if_pos c322, if_pos c487, if_pos c491]) hR311), (show True ∧ S_NH_argument_J171 x2 x3 t0_0 t0_1 t0_2 t0_3 t1_0 t2_0 t3_0 t4_0 t5_0 t6_0 t7_0 t8_0 t9_0 t10_0 t11_0 t12_0 t13_0 t14_0 t15_0 t16_0 t17_0 t18_0 t19_0 t20_0 t21_0 t22_0 t23_0 t24_0 t24_1 t25_0 t26_0 t26_1 t27_0 t27_1 t28_0 lx88 lx135 lx182 lx231 lx278 from (by have h := hS312; rw [S_NH_argument_J139.eq_1] at h; rw [if_pos c322] at h; rw [if_pos c487] at h; rw [if_pos c491] at h; with_reducible exact h))⟩
                            ·
                              exact q_throwG (names := ["java/lang/RuntimeException", "java/lang/Exception"]) C0 V hlt hno rfl hl.1 (by decide) (by decide) w_1688 w_36 wo_1697 w_1689 t_NH_354 d_1_19_160 d_1_19_163 d_1_19_164 d_1_19_167 d_1_19_170 (by decide) (by decide) (by decide) (by decide) (by decide) (by decide) ⟨(3 : Int32), qE3, (by decide), hI, hF, t0_0, t0_1, t0_2, t0_3, t1_0, t2_0, t3_0, t4_0, t6_0, t7_0, t8_0, t9_0, t10_0, t11_0, t12_0, t13_0, t14_0, t15_0, t16_0, t17_0, t18_0, t19_0, t20_0, t21_0, t22_0, t23_0, hT0, hT1, hT2, hT3, hT4, hT6, hT7, hT8, hT9, hT10, hT11, hT12, hT13, hT14, hT15, hT16, hT17, hT18, hT19, hT20, hT21, hT22, hT23, (show ((3 : Int32), (0 : Int32), t0_0, t0_1, t0_2, t0_3, t1_0, t2_0, t3_0, t4_0, t6_0, t7_0, t8_0, t9_0, t10_0, t11_0, t12_0, t13_0, t14_0, t15_0, t16_0, t17_0, t18_0, t19_0, t20_0, t21_0, t22_0, t23_0) = (F_NH_argument x2 x3 t0_0 t0_1 t0_2 t0_3 t1_0 t2_0 t3_0 t4_0 t5_0 t6_0 t7_0 t8_0 t9_0 t10_0 t11_0 t12_0 t13_0 t14_0 t15_0 t16_0 t17_0 t18_0 t19_0 t20_0 t21_0 t22_0 t23_0 t24_0 t24_1 t25_0 t26_0 t26_1 t27_0 t27_1 t28_0) from Eq.trans (by rw [F_NH_argument_J139.eq_1, if_pos c322, if_pos c487, if_neg c491]) hR311)⟩
                    ·
                      intro J308
                      refine q_join (X := Unit) (fun z H locs ls _ => q_Wd D g (va_A ws sz) s ws H locs ∧ lv_has ls 3 [(0, .ref (q 0)), (1, .int x2), (2, .int x3)] ∧ F_NH_argument_J134 x2 x3 t0_0 t0_1 t0_2 t0_3 t1_0 t2_0 t3_0 t4_0 t5_0 t6_0 t7_0 t8_0 t9_0 t10_0 t11_0 t12_0 t13_0 t14_0 t15_0 t16_0 t17_0 t18_0 t19_0 t20_0 t21_0 t22_0 t23_0 t24_0 t24_1 t25_0 t26_0 t26_1 t27_0 t27_1 t28_0 lx88 lx135 lx182 lx231 = (F_NH_argument x2 x3 t0_0 t0_1 t0_2 t0_3 t1_0 t2_0 t3_0 t4_0 t5_0 t6_0 t7_0 t8_0 t9_0 t10_0 t11_0 t12_0 t13_0 t14_0 t15_0 t16_0 t17_0 t18_0 t19_0 t20_0 t21_0 t22_0 t23_0 t24_0 t24_1 t25_0 t26_0 t26_1 t27_0 t27_1 t28_0) ∧ True ∧ S_NH_argument_J134 x2 x3 t0_0 t0_1 t0_2 t0_3 t1_0 t2_0 t3_0 t4_0 t5_0 t6_0 t7_0 t8_0 t9_0 t10_0 t11_0 t12_0 t13_0 t14_0 t15_0 t16_0 t17_0 t18_0 t19_0 t20_0 t21_0 t22_0 t23_0 t24_0 t24_1 t25_0 t26_0 t26_1 t27_0 t27_1 t28_0 lx88 lx135 lx182 lx231) (fun z => []) 134 4 24 ?_ ?_
                      ·
                        rintro _ H locs ls _ ⟨V, hl, hR524, hS525⟩
                        replace hl : lv_has ls 3 [(0, .ref (q 0)), (1, .int x2), (2, .int x3)] := hl
                        refine lv_iconst (v := 1) hx hb d_1_19_134 (by decide) ?_
                        refine lv_goto (tgt := 139) hx hb d_1_19_135 (by decide) ?_
                        exact J308 ((1 : Int32)) _ _ _ ws ⟨(show q_F (0 ≤ 1) from (show 0 ≤ 1 from by omega)), (show q_F (1 ≤ 1) from (show 1 ≤ 1 from by omega)), V, q_lw hl (q_lw1 0 rfl (q_lw1 1 rfl (q_lw1 2 rfl q_lw0))), (show F_NH_argument_J139 x2 x3 t0_0 t0_1 t0_2 t0_3 t1_0 t2_0 t3_0 t4_0 t5_0 t6_0 t7_0 t8_0 t9_0 t10_0 t11_0 t12_0 t13_0 t14_0 t15_0 t16_0 t17_0 t18_0 t19_0 t20_0 t21_0 t22_0 t23_0 t24_0 t24_1 t25_0 t26_0 t26_1 t27_0 t27_1 t28_0 lx88 lx135 lx182 lx231 1 = (F_NH_argument x2 x3 t0_0 t0_1 t0_2 t0_3 t1_0 t2_0 t3_0 t4_0 t5_0 t6_0 t7_0 t8_0 t9_0 t10_0 t11_0 t12_0 t13_0 t14_0 t15_0 t16_0 t17_0 t18_0 t19_0 t20_0 t21_0 t22_0 t23_0 t24_0 t24_1 t25_0 t26_0 t26_1 t27_0 t27_1 t28_0) from Eq.trans (by rw [F_NH_argument_J134.eq_1]) hR524), (show True ∧ S_NH_argument_J139 x2 x3 t0_0 t0_1 t0_2 t0_3 t1_0 t2_0 t3_0 t4_0 t5_0 t6_0 t7_0 t8_0 t9_0 t10_0 t11_0 t12_0 t13_0 t14_0 t15_0 t16_0 t17_0 t18_0 t19_0 t20_0 t21_0 t22_0 t23_0 t24_0 t24_1 t25_0 t26_0 t26_1 t27_0 t27_1 t28_0 lx88 lx135 lx182 lx231 1 from (by have h := hS525; rw [S_NH_argument_J134.eq_1] at h; with_reducible exact h))⟩
                      ·
                        intro J523
                        refine lv_icmp_ne (tgt := 134) hx hb d_1_19_115 (by decide) (fun c529 => ?_) (fun c529 => ?_)
                        ·
                          exact J523 (()) _ _ _ ws ⟨V, q_lw hl (q_lw1 0 rfl (q_lw1 1 rfl (q_lw1 2 rfl q_lw0))), (show F_NH_argument_J134 x2 x3 t0_0 t0_1 t0_2 t0_3 t1_0 t2_0 t3_0 t4_0 t5_0 t6_0 t7_0 t8_0 t9_0 t10_0 t11_0 t12_0 t13_0 t14_0 t15_0 t16_0 t17_0 t18_0 t19_0 t20_0 t21_0 t22_0 t23_0 t24_0 t24_1 t25_0 t26_0 t26_1 t27_0 t27_1 t28_0 lx88 lx135 lx182 lx231 = (F_NH_argument x2 x3 t0_0 t0_1 t0_2 t0_3 t1_0 t2_0 t3_0 t4_0 t5_0 t6_0 t7_0 t8_0 t9_0 t10_0 t11_0 t12_0 t13_0 t14_0 t15_0 t16_0 t17_0 t18_0 t19_0 t20_0 t21_0 t22_0 t23_0 t24_0 t24_1 t25_0 t26_0 t26_1 t27_0 t27_1 t28_0) from Eq.trans (by rw [F_NH_argument_J110.eq_1, if_pos c275, if_neg c529]) hR264), (show True ∧ S_NH_argument_J134 x2 x3 t0_0 t0_1 t0_2 t0_3 t1_0 t2_0 t3_0 t4_0 t5_0 t6_0 t7_0 t8_0 t9_0 t10_0 t11_0 t12_0 t13_0 t14_0 t15_0 t16_0 t17_0 t18_0 t19_0 t20_0 t21_0 t22_0 t23_0 t24_0 t24_1 t25_0 t26_0 t26_1 t27_0 t27_1 t28_0 lx88 lx135 lx182 lx231 from (by have h := hS265; rw [S_NH_argument_J110.eq_1] at h; rw [if_pos c275] at h; rw [if_neg c529] at h; with_reducible exact h))⟩
                        ·
                          refine lv_aload_n hx hb d_1_19_118 rfl (lv_at hl 0 rfl) ?_
                          have hO532 := n_o0 hI
                          refine q_get (ci := 0) (j := 13) (v := .ref (q 40)) C0 V i_NH rfl rfl hO532 (by decide) w_437 rfl d_1_19_119 ?_
                          refine lv_aload_n hx hb d_1_19_122 rfl (lv_at hl 0 rfl) ?_
                          refine q_get (ci := 0) (j := 3) (v := .ref (q 6)) C0 V i_NH rfl rfl hO532 (by decide) w_427 rfl d_1_19_123 ?_
                          refine lv_iload_n hx hb d_1_19_126 rfl (lv_at hl 2 rfl) ?_
                          have hX533 := n_fx hI (n_s6 g q)
                          have ob534 : q_F (0 ≤ x3.toInt) := (by have h := hS265; rw [S_NH_argument_J110.eq_1] at h; rw [if_pos c275] at h; rw [if_pos c529] at h; exact h.2.1)
                          have ob535 : q_F (x3.toInt ≤ 9) := (by have h := hS265; rw [S_NH_argument_J110.eq_1] at h; rw [if_pos c275] at h; rw [if_pos c529] at h; replace h := q_s2 h; exact h.2.1)
                          have hj536 : x3.toNatClampNeg < 10 := by have z := q_clI (i := x3) (x := x3.toInt) rfl (by first | with_reducible exact q_fe ob534 | (have t1 : 0 ≤ x3.toInt := ob534; omega)); have t1 : 0 ≤ x3.toInt := ob534; have t2 : x3.toInt ≤ 9 := ob535; omega
                          have hq537 := gd3x3 hj536
                          refine q_aald (t := 5) (q := q d3) C0 V hX533 rfl (q_ix (x := x3.toInt) rfl (by first | with_reducible exact q_fe ob534 | (have t1 : 0 ≤ x3.toInt := ob534; omega)) (by have t1 : 0 ≤ x3.toInt := ob534; have t2 : x3.toInt ≤ 9 := ob535; omega)) (by rw [hq537]; exact n_fdv hj536) d_1_19_127 ?_
                          refine q_goi V (q_runV (As := [.ref (q d3)]) (rest := []) (d := 6) (mc := 0) (ms := 0) (ci := 11) C0 V rfl LV_NH_346 (X_Pri_canTake l D g q ws d3 108 hBd3 (Or.inr yd3)  hI t26_0 t26_1 hT26 t27_0 t27_1 hT27 t28_0 hT28  _) rfl rfl hT0 rfl hl.1 rfl (Nat.le_of_ble_eq_true rfl) ⟨by decide, by decide⟩ ⟨Nat.le_of_ble_eq_true rfl, Nat.le_of_ble_eq_true rfl⟩ d_1_19_128) (fun a540 u538 H locs hp539 V => ?_)
                          obtain ⟨rfl, b541, b542, b543, hE544⟩ := hp539
                          have e545 : a540 = (F_Pri_canTake (108 : Int32) t26_0 t26_1 t27_0 t27_1 t28_0) := hE544
                          clear b541
                          clear b542
                          clear b543
                          refine lv_if_eq (tgt := 138) hx hb d_1_19_131 (by decide) (fun c546 => ?_) (fun c546 => ?_)
                          ·
                            refine lv_iconst (v := 0) hx hb d_1_19_138 (by decide) ?_
                            exact J308 ((0 : Int32)) _ _ _ ws ⟨(show q_F (0 ≤ 0) from (show 0 ≤ 0 from by omega)), (show q_F (0 ≤ 1) from (show 0 ≤ 1 from by omega)), V, q_lw hl (q_lw1 0 rfl (q_lw1 1 rfl (q_lw1 2 rfl q_lw0))), (show F_NH_argument_J139 x2 x3 t0_0 t0_1 t0_2 t0_3 t1_0 t2_0 t3_0 t4_0 t5_0 t6_0 t7_0 t8_0 t9_0 t10_0 t11_0 t12_0 t13_0 t14_0 t15_0 t16_0 t17_0 t18_0 t19_0 t20_0 t21_0 t22_0 t23_0 t24_0 t24_1 t25_0 t26_0 t26_1 t27_0 t27_1 t28_0 lx88 lx135 lx182 lx231 0 = (F_NH_argument x2 x3 t0_0 t0_1 t0_2 t0_3 t1_0 t2_0 t3_0 t4_0 t5_0 t6_0 t7_0 t8_0 t9_0 t10_0 t11_0 t12_0 t13_0 t14_0 t15_0 t16_0 t17_0 t18_0 t19_0 t20_0 t21_0 t22_0 t23_0 t24_0 t24_1 t25_0 t26_0 t26_1 t27_0 t27_1 t28_0) from Eq.trans (by have c546x := c546; rw [e545] at c546x; rw [F_NH_argument_J110.eq_1, if_pos c275, if_pos c529, if_pos c546x]) hR264), (show True ∧ S_NH_argument_J139 x2 x3 t0_0 t0_1 t0_2 t0_3 t1_0 t2_0 t3_0 t4_0 t5_0 t6_0 t7_0 t8_0 t9_0 t10_0 t11_0 t12_0 t13_0 t14_0 t15_0 t16_0 t17_0 t18_0 t19_0 t20_0 t21_0 t22_0 t23_0 t24_0 t24_1 t25_0 t26_0 t26_1 t27_0 t27_1 t28_0 lx88 lx135 lx182 lx231 0 from (by have h := hS265; rw [S_NH_argument_J110.eq_1] at h; rw [if_pos c275] at h; rw [if_pos c529] at h; replace h := q_s2 h; replace h := q_s2 h; have c546x := c546; rw [e545] at c546x; rw [if_pos c546x] at h; with_reducible exact h))⟩
                          ·
                            exact J523 (()) _ _ _ ws ⟨V, q_lw hl (q_lw1 0 rfl (q_lw1 1 rfl (q_lw1 2 rfl q_lw0))), (show F_NH_argument_J134 x2 x3 t0_0 t0_1 t0_2 t0_3 t1_0 t2_0 t3_0 t4_0 t5_0 t6_0 t7_0 t8_0 t9_0 t10_0 t11_0 t12_0 t13_0 t14_0 t15_0 t16_0 t17_0 t18_0 t19_0 t20_0 t21_0 t22_0 t23_0 t24_0 t24_1 t25_0 t26_0 t26_1 t27_0 t27_1 t28_0 lx88 lx135 lx182 lx231 = (F_NH_argument x2 x3 t0_0 t0_1 t0_2 t0_3 t1_0 t2_0 t3_0 t4_0 t5_0 t6_0 t7_0 t8_0 t9_0 t10_0 t11_0 t12_0 t13_0 t14_0 t15_0 t16_0 t17_0 t18_0 t19_0 t20_0 t21_0 t22_0 t23_0 t24_0 t24_1 t25_0 t26_0 t26_1 t27_0 t27_1 t28_0) from Eq.trans (by have c546x := c546; rw [e545] at c546x; rw [F_NH_argument_J110.eq_1, if_pos c275, if_pos c529, if_neg c546x]) hR264), (show True ∧ S_NH_argument_J134 x2 x3 t0_0 t0_1 t0_2 t0_3 t1_0 t2_0 t3_0 t4_0 t5_0 t6_0 t7_0 t8_0 t9_0 t10_0 t11_0 t12_0 t13_0 t14_0 t15_0 t16_0 t17_0 t18_0 t19_0 t20_0 t21_0 t22_0 t23_0 t24_0 t24_1 t25_0 t26_0 t26_1 t27_0 t27_1 t28_0 lx88 lx135 lx182 lx231 from (by have h := hS265; rw [S_NH_argument_J110.eq_1] at h; rw [if_pos c275] at h; rw [if_pos c529] at h; replace h := q_s2 h; replace h := q_s2 h; have c546x := c546; rw [e545] at c546x; rw [if_neg c546x] at h; with_reducible exact h))⟩
                ·
                  intro J261
                  refine q_join (X := Unit) (fun z H locs ls _ => q_Wd D g (va_A ws sz) s ws H locs ∧ lv_has ls 3 [(0, .ref (q 0)), (1, .int x2), (2, .int x3)] ∧ F_NH_argument_J105 x2 x3 t0_0 t0_1 t0_2 t0_3 t1_0 t2_0 t3_0 t4_0 t5_0 t6_0 t7_0 t8_0 t9_0 t10_0 t11_0 t12_0 t13_0 t14_0 t15_0 t16_0 t17_0 t18_0 t19_0 t20_0 t21_0 t22_0 t23_0 t24_0 t24_1 t25_0 t26_0 t26_1 t27_0 t27_1 t28_0 lx88 lx135 lx182 = (F_NH_argument x2 x3 t0_0 t0_1 t0_2 t0_3 t1_0 t2_0 t3_0 t4_0 t5_0 t6_0 t7_0 t8_0 t9_0 t10_0 t11_0 t12_0 t13_0 t14_0 t15_0 t16_0 t17_0 t18_0 t19_0 t20_0 t21_0 t22_0 t23_0 t24_0 t24_1 t25_0 t26_0 t26_1 t27_0 t27_1 t28_0) ∧ True ∧ S_NH_argument_J105 x2 x3 t0_0 t0_1 t0_2 t0_3 t1_0 t2_0 t3_0 t4_0 t5_0 t6_0 t7_0 t8_0 t9_0 t10_0 t11_0 t12_0 t13_0 t14_0 t15_0 t16_0 t17_0 t18_0 t19_0 t20_0 t21_0 t22_0 t23_0 t24_0 t24_1 t25_0 t26_0 t26_1 t27_0 t27_1 t28_0 lx88 lx135 lx182) (fun z => []) 105 3 18 ?_ ?_
                  ·
                    rintro _ H locs ls _ ⟨V, hl, hR579, hS580⟩
                    replace hl : lv_has ls 3 [(0, .ref (q 0)), (1, .int x2), (2, .int x3)] := hl
                    refine lv_iconst (v := 1) hx hb d_1_19_105 (by decide) ?_
                    refine lv_goto (tgt := 110) hx hb d_1_19_106 (by decide) ?_
                    exact J261 ((1 : Int32)) _ _ _ ws ⟨(show q_F (0 ≤ 1) from (show 0 ≤ 1 from by omega)), (show q_F (1 ≤ 1) from (show 1 ≤ 1 from by omega)), V, q_lw hl (q_lw1 0 rfl (q_lw1 1 rfl (q_lw1 2 rfl q_lw0))), (show F_NH_argument_J110 x2 x3 t0_0 t0_1 t0_2 t0_3 t1_0 t2_0 t3_0 t4_0 t5_0 t6_0 t7_0 t8_0 t9_0 t10_0 t11_0 t12_0 t13_0 t14_0 t15_0 t16_0 t17_0 t18_0 t19_0 t20_0 t21_0 t22_0 t23_0 t24_0 t24_1 t25_0 t26_0 t26_1 t27_0 t27_1 t28_0 lx88 lx135 lx182 1 = (F_NH_argument x2 x3 t0_0 t0_1 t0_2 t0_3 t1_0 t2_0 t3_0 t4_0 t5_0 t6_0 t7_0 t8_0 t9_0 t10_0 t11_0 t12_0 t13_0 t14_0 t15_0 t16_0 t17_0 t18_0 t19_0 t20_0 t21_0 t22_0 t23_0 t24_0 t24_1 t25_0 t26_0 t26_1 t27_0 t27_1 t28_0) from Eq.trans (by rw [F_NH_argument_J105.eq_1]) hR579), (show True ∧ S_NH_argument_J110 x2 x3 t0_0 t0_1 t0_2 t0_3 t1_0 t2_0 t3_0 t4_0 t5_0 t6_0 t7_0 t8_0 t9_0 t10_0 t11_0 t12_0 t13_0 t14_0 t15_0 t16_0 t17_0 t18_0 t19_0 t20_0 t21_0 t22_0 t23_0 t24_0 t24_1 t25_0 t26_0 t26_1 t27_0 t27_1 t28_0 lx88 lx135 lx182 1 from (by have h := hS580; rw [S_NH_argument_J105.eq_1] at h; with_reducible exact h))⟩
                  ·
                    intro J578
                    refine lv_if_ne (tgt := 105) hx hb d_1_19_90 (by decide) (fun c584 => ?_) (fun c584 => ?_)
                    ·
                      exact J578 (()) _ _ _ ws ⟨V, q_lw hl (q_lw1 0 rfl (q_lw1 1 rfl (q_lw1 2 rfl q_lw0))), (show F_NH_argument_J105 x2 x3 t0_0 t0_1 t0_2 t0_3 t1_0 t2_0 t3_0 t4_0 t5_0 t6_0 t7_0 t8_0 t9_0 t10_0 t11_0 t12_0 t13_0 t14_0 t15_0 t16_0 t17_0 t18_0 t19_0 t20_0 t21_0 t22_0 t23_0 t24_0 t24_1 t25_0 t26_0 t26_1 t27_0 t27_1 t28_0 lx88 lx135 lx182 = (F_NH_argument x2 x3 t0_0 t0_1 t0_2 t0_3 t1_0 t2_0 t3_0 t4_0 t5_0 t6_0 t7_0 t8_0 t9_0 t10_0 t11_0 t12_0 t13_0 t14_0 t15_0 t16_0 t17_0 t18_0 t19_0 t20_0 t21_0 t22_0 t23_0 t24_0 t24_1 t25_0 t26_0 t26_1 t27_0 t27_1 t28_0) from Eq.trans (by rw [F_NH_argument_J70.eq_1, if_pos c226, if_neg c229, if_neg c584]) hR215), (show True ∧ S_NH_argument_J105 x2 x3 t0_0 t0_1 t0_2 t0_3 t1_0 t2_0 t3_0 t4_0 t5_0 t6_0 t7_0 t8_0 t9_0 t10_0 t11_0 t12_0 t13_0 t14_0 t15_0 t16_0 t17_0 t18_0 t19_0 t20_0 t21_0 t22_0 t23_0 t24_0 t24_1 t25_0 t26_0 t26_1 t27_0 t27_1 t28_0 lx88 lx135 lx182 from (by have h := hS216; rw [S_NH_argument_J70.eq_1] at h; rw [if_pos c226] at h; rw [if_neg c229] at h; rw [if_neg c584] at h; with_reducible exact h))⟩
                    ·
                      refine lv_aload_n hx hb d_1_19_93 rfl (lv_at hl 0 rfl) ?_
                      have hO587 := n_o0 hI
                      refine q_get (ci := 0) (j := 2) (v := .ref (q 5)) C0 V i_NH rfl rfl hO587 (by decide) w_426 rfl d_1_19_94 ?_
                      refine lv_iload_n hx hb d_1_19_97 rfl (lv_at hl 2 rfl) ?_
                      have hX588 := n_fx hI (n_s5 g q)
                      have ob589 : q_F (0 ≤ x3.toInt) := (by have h := hS216; rw [S_NH_argument_J70.eq_1] at h; rw [if_pos c226] at h; rw [if_neg c229] at h; rw [if_pos c584] at h; exact h.2.1)
                      have ob590 : q_F (x3.toInt ≤ 9) := (by have h := hS216; rw [S_NH_argument_J70.eq_1] at h; rw [if_pos c226] at h; rw [if_neg c229] at h; rw [if_pos c584] at h; replace h := q_s2 h; exact h.2.1)
                      have hj591 : x3.toNatClampNeg < 10 := by have z := q_clI (i := x3) (x := x3.toInt) rfl (by first | with_reducible exact q_fe ob589 | (have t1 : 0 ≤ x3.toInt := ob589; omega)); have t1 : 0 ≤ x3.toInt := ob589; have t2 : x3.toInt ≤ 9 := ob590; omega
                      have hq592 := gk3x3 hj591
                      refine q_aald (t := 4) (q := q k3) C0 V hX588 rfl (q_ix (x := x3.toInt) rfl (by first | with_reducible exact q_fe ob589 | (have t1 : 0 ≤ x3.toInt := ob589; omega)) (by have t1 : 0 ≤ x3.toInt := ob589; have t2 : x3.toInt ≤ 9 := ob590; omega)) (by rw [hq592]; exact n_fwv hj591) d_1_19_98 ?_
                      refine q_goi V (q_runV (As := []) (rest := []) (d := 5) (mc := 0) (ms := 0) (ci := 2) C0 V rfl LV_NH_342 (X_Big_fitsLong l D g q ws k3 68 hBk3 (Or.inr yk3)  hI t24_0 t24_1 hT24 t25_0 hT25  _) rfl rfl hT24 rfl hl.1 rfl (Nat.le_of_ble_eq_true rfl) ⟨by decide, by decide⟩ ⟨Nat.le_of_ble_eq_true rfl, Nat.le_of_ble_eq_true rfl⟩ d_1_19_99) (fun a595 u593 H locs hp594 V => ?_)
                      obtain ⟨rfl, b596, b597, hE598⟩ := hp594
                      have e599 : a595 = (F_Big_fitsLong (68 : Int32) t24_0 t24_1 t25_0) := hE598
                      clear b596
                      clear b597
                      refine lv_if_eq (tgt := 109) hx hb d_1_19_102 (by decide) (fun c600 => ?_) (fun c600 => ?_)
                      ·
                        refine lv_iconst (v := 0) hx hb d_1_19_109 (by decide) ?_
                        exact J261 ((0 : Int32)) _ _ _ ws ⟨(show q_F (0 ≤ 0) from (show 0 ≤ 0 from by omega)), (show q_F (0 ≤ 1) from (show 0 ≤ 1 from by omega)), V, q_lw hl (q_lw1 0 rfl (q_lw1 1 rfl (q_lw1 2 rfl q_lw0))), (show F_NH_argument_J110 x2 x3 t0_0 t0_1 t0_2 t0_3 t1_0 t2_0 t3_0 t4_0 t5_0 t6_0 t7_0 t8_0 t9_0 t10_0 t11_0 t12_0 t13_0 t14_0 t15_0 t16_0 t17_0 t18_0 t19_0 t20_0 t21_0 t22_0 t23_0 t24_0 t24_1 t25_0 t26_0 t26_1 t27_0 t27_1 t28_0 lx88 lx135 lx182 0 = (F_NH_argument x2 x3 t0_0 t0_1 t0_2 t0_3 t1_0 t2_0 t3_0 t4_0 t5_0 t6_0 t7_0 t8_0 t9_0 t10_0 t11_0 t12_0 t13_0 t14_0 t15_0 t16_0 t17_0 t18_0 t19_0 t20_0 t21_0 t22_0 t23_0 t24_0 t24_1 t25_0 t26_0 t26_1 t27_0 t27_1 t28_0) from Eq.trans (by have c600x := c600; rw [e599] at c600x; rw [F_NH_argument_J70.eq_1, if_pos c226, if_neg c229, if_pos c584, if_pos c600x]) hR215), (show True ∧ S_NH_argument_J110 x2 x3 t0_0 t0_1 t0_2 t0_3 t1_0 t2_0 t3_0 t4_0 t5_0 t6_0 t7_0 t8_0 t9_0 t10_0 t11_0 t12_0 t13_0 t14_0 t15_0 t16_0 t17_0 t18_0 t19_0 t20_0 t21_0 t22_0 t23_0 t24_0 t24_1 t25_0 t26_0 t26_1 t27_0 t27_1 t28_0 lx88 lx135 lx182 0 from (by have h := hS216; rw [S_NH_argument_J70.eq_1] at h; rw [if_pos c226] at h; rw [if_neg c229] at h; rw [if_pos c584] at h; replace h := q_s2 h; replace h := q_s2 h; have c600x := c600; rw [e599] at c600x; rw [if_pos c600x] at h; with_reducible exact h))⟩
                      ·
                        exact J578 (()) _ _ _ ws ⟨V, q_lw hl (q_lw1 0 rfl (q_lw1 1 rfl (q_lw1 2 rfl q_lw0))), (show F_NH_argument_J105 x2 x3 t0_0 t0_1 t0_2 t0_3 t1_0 t2_0 t3_0 t4_0 t5_0 t6_0 t7_0 t8_0 t9_0 t10_0 t11_0 t12_0 t13_0 t14_0 t15_0 t16_0 t17_0 t18_0 t19_0 t20_0 t21_0 t22_0 t23_0 t24_0 t24_1 t25_0 t26_0 t26_1 t27_0 t27_1 t28_0 lx88 lx135 lx182 = (F_NH_argument x2 x3 t0_0 t0_1 t0_2 t0_3 t1_0 t2_0 t3_0 t4_0 t5_0 t6_0 t7_0 t8_0 t9_0 t10_0 t11_0 t12_0 t13_0 t14_0 t15_0 t16_0 t17_0 t18_0 t19_0 t20_0 t21_0 t22_0 t23_0 t24_0 t24_1 t25_0 t26_0 t26_1 t27_0 t27_1 t28_0) from Eq.trans (by have c600x := c600; rw [e599] at c600x; rw [F_NH_argument_J70.eq_1, if_pos c226, if_neg c229, if_pos c584, if_neg c600x]) hR215), (show True ∧ S_NH_argument_J105 x2 x3 t0_0 t0_1 t0_2 t0_3 t1_0 t2_0 t3_0 t4_0 t5_0 t6_0 t7_0 t8_0 t9_0 t10_0 t11_0 t12_0 t13_0 t14_0 t15_0 t16_0 t17_0 t18_0 t19_0 t20_0 t21_0 t22_0 t23_0 t24_0 t24_1 t25_0 t26_0 t26_1 t27_0 t27_1 t28_0 lx88 lx135 lx182 from (by have h := hS216; rw [S_NH_argument_J70.eq_1] at h; rw [if_pos c226] at h; rw [if_neg c229] at h; rw [if_pos c584] at h; replace h := q_s2 h; replace h := q_s2 h; have c600x := c600; rw [e599] at c600x; rw [if_neg c600x] at h; with_reducible exact h))⟩
              ·
                refine lv_aload_n hx hb d_1_19_79 rfl (lv_at hl 0 rfl) ?_
                have hO604 := n_o0 hI
                refine q_get (ci := 0) (j := 13) (v := .ref (q 40)) C0 V i_NH rfl rfl hO604 (by decide) w_437 rfl d_1_19_80 ?_
                refine lv_iconst (v := 0) hx hb d_1_19_83 (by decide) ?_
                refine q_put (ci := 11) (j := 0) (v := .int 0) (ty := .int) C0 V i_Pri o_Pri n_Pri rfl rfl hT0 (by decide) w_385 rfl rfl rfl rfl (Nat.le_of_ble_eq_true rfl) d_1_19_84 (fun H locs w605 hu606 hT0 V => ?_)
                replace hT0 : w605[40]? = (some (q 40, .inr (11, [.int 0, .ref (q 41), .ref (q 42), .ref (q 43), .ref (q 44), .ref (q 1), .ref (q 47), .ref (q 36), .ref (q 45), .int t0_1, .int t0_2, .int t0_3])) : Option (Nat × va_E)) := hT0
                replace hI := n_p40 hI hu606 hT0 ⟨(by have z9 : (0 : Int32).toInt = 0 := rfl; omega), (by have z9 : (0 : Int32).toInt = 0 := rfl; omega)⟩ (by first | with_reducible exact q_fe btt0_1 | exact ⟨(by have t1 : -1 ≤ t0_1.toInt ∧ t0_1.toInt ≤ 1000000 := btt0_1; omega), (by have t1 : -1 ≤ t0_1.toInt ∧ t0_1.toInt ≤ 1000000 := btt0_1; omega)⟩) (by first | with_reducible exact q_fe btt0_3 | exact ⟨(by have t1 : -1 ≤ t0_3.toInt ∧ t0_3.toInt ≤ 8 := btt0_3; omega), (by have t1 : -1 ≤ t0_3.toInt ∧ t0_3.toInt ≤ 8 := btt0_3; omega)⟩)
                replace hT1 := (hu606 _ (by decide)).trans hT1
                replace hT2 := (hu606 _ (by decide)).trans hT2
                replace hT3 := (hu606 _ (by decide)).trans hT3
                replace hT4 := (hu606 _ (by decide)).trans hT4
                replace hT6 := (hu606 _ (by decide)).trans hT6
                replace hT7 := (hu606 _ (by decide)).trans hT7
                replace hT8 := (hu606 _ (by decide)).trans hT8
                replace hT9 := (hu606 _ (by decide)).trans hT9
                replace hT10 := (hu606 _ (by decide)).trans hT10
                replace hT11 := (hu606 _ (by decide)).trans hT11
                replace hT12 := (hu606 _ (by decide)).trans hT12
                replace hT13 := (hu606 _ (by decide)).trans hT13
                replace hT14 := (hu606 _ (by decide)).trans hT14
                replace hT15 := (hu606 _ (by decide)).trans hT15
                replace hT16 := (hu606 _ (by decide)).trans hT16
                replace hT17 := (hu606 _ (by decide)).trans hT17
                replace hT18 := (hu606 _ (by decide)).trans hT18
                replace hT19 := (hu606 _ (by decide)).trans hT19
                replace hT20 := (hu606 _ (by decide)).trans hT20
                replace hT21 := (hu606 _ (by decide)).trans hT21
                replace hT22 := (hu606 _ (by decide)).trans hT22
                replace hT23 := (hu606 _ (by decide)).trans hT23
                replace hF := q_us hF hu606 (by simp)
                refine lv_iconst (v := 0) hx hb d_1_19_87 (by decide) ?_
                refine W.widen (k := 6) (n := 36) (Nat.le_of_ble_eq_true rfl) (Nat.le_of_ble_eq_true rfl) ?_
                exact q_retX (q_reti C0 V (⟨hI, hF, 0, t0_1, t0_2, t0_3, t1_0, t2_0, t3_0, t4_0, t6_0, t7_0, t8_0, t9_0, t10_0, t11_0, t12_0, t13_0, t14_0, t15_0, t16_0, t17_0, t18_0, t19_0, t20_0, t21_0, t22_0, t23_0, hT0, hT1, hT2, hT3, hT4, hT6, hT7, hT8, hT9, hT10, hT11, hT12, hT13, hT14, hT15, hT16, hT17, hT18, hT19, hT20, hT21, hT22, hT23, (show 0 ≤ (0 : Int32).toInt + 1 from (by have z37 : (0 : Int32).toInt = 0 := rfl; have z38 : (0 : Int32).toInt = 0 := rfl; omega)), (show (0 : Int32).toInt ≤ 9 from (by have z37 : (0 : Int32).toInt = 0 := rfl; have z38 : (0 : Int32).toInt = 0 := rfl; omega)), (show 0 ≤ (0 : Int32).toInt from (by have z37 : (0 : Int32).toInt = 0 := rfl; have z38 : (0 : Int32).toInt = 0 := rfl; omega)), (show (0 : Int32).toInt ≤ 9 from (by have z37 : (0 : Int32).toInt = 0 := rfl; have z38 : (0 : Int32).toInt = 0 := rfl; omega)), (show 0 ≤ t0_1.toInt + 1 from (by have z37 : (0 : Int32).toInt = 0 := rfl; have z38 : (0 : Int32).toInt = 0 := rfl; have t1 : -1 ≤ t0_1.toInt ∧ t0_1.toInt ≤ 1000000 := btt0_1; omega)), (show t0_1.toInt ≤ 1000000 from (by have z37 : (0 : Int32).toInt = 0 := rfl; have z38 : (0 : Int32).toInt = 0 := rfl; have t1 : -1 ≤ t0_1.toInt ∧ t0_1.toInt ≤ 1000000 := btt0_1; omega)), (show 0 ≤ t0_3.toInt + 1 from (by have z37 : (0 : Int32).toInt = 0 := rfl; have z38 : (0 : Int32).toInt = 0 := rfl; have t1 : -1 ≤ t0_3.toInt ∧ t0_3.toInt ≤ 8 := btt0_3; omega)), (show t0_3.toInt ≤ 8 from (by have z37 : (0 : Int32).toInt = 0 := rfl; have z38 : (0 : Int32).toInt = 0 := rfl; have t1 : -1 ≤ t0_3.toInt ∧ t0_3.toInt ≤ 8 := btt0_3; omega)), (show 0 ≤ t4_0.toInt from (by have z37 : (0 : Int32).toInt = 0 := rfl; have z38 : (0 : Int32).toInt = 0 := rfl; have t1 : 0 ≤ t4_0.toInt ∧ t4_0.toInt ≤ 4100 := btt4_0; omega)), (show t4_0.toInt ≤ 4100 from (by have z37 : (0 : Int32).toInt = 0 := rfl; have z38 : (0 : Int32).toInt = 0 := rfl; have t1 : 0 ≤ t4_0.toInt ∧ t4_0.toInt ≤ 4100 := btt4_0; omega)), (show 0 ≤ t6_0.toInt from (by have z37 : (0 : Int32).toInt = 0 := rfl; have z38 : (0 : Int32).toInt = 0 := rfl; have t1 : 0 ≤ t6_0.toInt ∧ t6_0.toInt ≤ 64 := btt6_0; omega)), (show t6_0.toInt ≤ 64 from (by have z37 : (0 : Int32).toInt = 0 := rfl; have z38 : (0 : Int32).toInt = 0 := rfl; have t1 : 0 ≤ t6_0.toInt ∧ t6_0.toInt ≤ 64 := btt6_0; omega)), (show 0 ≤ t8_0.toInt from (by have z37 : (0 : Int32).toInt = 0 := rfl; have z38 : (0 : Int32).toInt = 0 := rfl; have t1 : 0 ≤ t8_0.toInt ∧ t8_0.toInt ≤ 64 := btt8_0; omega)), (show t8_0.toInt ≤ 64 from (by have z37 : (0 : Int32).toInt = 0 := rfl; have z38 : (0 : Int32).toInt = 0 := rfl; have t1 : 0 ≤ t8_0.toInt ∧ t8_0.toInt ≤ 64 := btt8_0; omega)), (show 0 ≤ t10_0.toInt from (by have z37 : (0 : Int32).toInt = 0 := rfl; have z38 : (0 : Int32).toInt = 0 := rfl; have t1 : 0 ≤ t10_0.toInt ∧ t10_0.toInt ≤ 64 := btt10_0; omega)), (show t10_0.toInt ≤ 64 from (by have z37 : (0 : Int32).toInt = 0 := rfl; have z38 : (0 : Int32).toInt = 0 := rfl; have t1 : 0 ≤ t10_0.toInt ∧ t10_0.toInt ≤ 64 := btt10_0; omega)), (show 0 ≤ t12_0.toInt from (by have z37 : (0 : Int32).toInt = 0 := rfl; have z38 : (0 : Int32).toInt = 0 := rfl; have t1 : 0 ≤ t12_0.toInt ∧ t12_0.toInt ≤ 64 := btt12_0; omega)), (show t12_0.toInt ≤ 64 from (by have z37 : (0 : Int32).toInt = 0 := rfl; have z38 : (0 : Int32).toInt = 0 := rfl; have t1 : 0 ≤ t12_0.toInt ∧ t12_0.toInt ≤ 64 := btt12_0; omega)), (show 0 ≤ t14_0.toInt from (by have z37 : (0 : Int32).toInt = 0 := rfl; have z38 : (0 : Int32).toInt = 0 := rfl; have t1 : 0 ≤ t14_0.toInt ∧ t14_0.toInt ≤ 64 := btt14_0; omega)), (show t14_0.toInt ≤ 64 from (by have z37 : (0 : Int32).toInt = 0 := rfl; have z38 : (0 : Int32).toInt = 0 := rfl; have t1 : 0 ≤ t14_0.toInt ∧ t14_0.toInt ≤ 64 := btt14_0; omega)), (show 0 ≤ t16_0.toInt from (by have z37 : (0 : Int32).toInt = 0 := rfl; have z38 : (0 : Int32).toInt = 0 := rfl; have t1 : 0 ≤ t16_0.toInt ∧ t16_0.toInt ≤ 64 := btt16_0; omega)), (show t16_0.toInt ≤ 64 from (by have z37 : (0 : Int32).toInt = 0 := rfl; have z38 : (0 : Int32).toInt = 0 := rfl; have t1 : 0 ≤ t16_0.toInt ∧ t16_0.toInt ≤ 64 := btt16_0; omega)), (show 0 ≤ t18_0.toInt from (by have z37 : (0 : Int32).toInt = 0 := rfl; have z38 : (0 : Int32).toInt = 0 := rfl; have t1 : 0 ≤ t18_0.toInt ∧ t18_0.toInt ≤ 64 := btt18_0; omega)), (show t18_0.toInt ≤ 64 from (by have z37 : (0 : Int32).toInt = 0 := rfl; have z38 : (0 : Int32).toInt = 0 := rfl; have t1 : 0 ≤ t18_0.toInt ∧ t18_0.toInt ≤ 64 := btt18_0; omega)), (show 0 ≤ t20_0.toInt from (by have z37 : (0 : Int32).toInt = 0 := rfl; have z38 : (0 : Int32).toInt = 0 := rfl; have t1 : 0 ≤ t20_0.toInt ∧ t20_0.toInt ≤ 64 := btt20_0; omega)), (show t20_0.toInt ≤ 64 from (by have z37 : (0 : Int32).toInt = 0 := rfl; have z38 : (0 : Int32).toInt = 0 := rfl; have t1 : 0 ≤ t20_0.toInt ∧ t20_0.toInt ≤ 64 := btt20_0; omega)), (show 0 ≤ t22_0.toInt from (by have z37 : (0 : Int32).toInt = 0 := rfl; have z38 : (0 : Int32).toInt = 0 := rfl; have t1 : 0 ≤ t22_0.toInt ∧ t22_0.toInt ≤ 64 := btt22_0; omega)), (show t22_0.toInt ≤ 64 from (by have z37 : (0 : Int32).toInt = 0 := rfl; have z38 : (0 : Int32).toInt = 0 := rfl; have t1 : 0 ≤ t22_0.toInt ∧ t22_0.toInt ≤ 64 := btt22_0; omega)), (show (0 : Int32).toInt ≤ t0_0.toInt + 1 from (by have z37 : (0 : Int32).toInt = 0 := rfl; have z38 : (0 : Int32).toInt = 0 := rfl; have t1 : 0 ≤ t0_0.toInt ∧ t0_0.toInt ≤ 9 := btt0_0; omega)), (show t0_1.toInt ≤ t0_1.toInt from (by have z37 : (0 : Int32).toInt = 0 := rfl; have z38 : (0 : Int32).toInt = 0 := rfl; omega)), (show t0_1.toInt ≤ t0_1.toInt from (by have z37 : (0 : Int32).toInt = 0 := rfl; have z38 : (0 : Int32).toInt = 0 := rfl; omega)), (show t0_2.toInt ≤ t0_2.toInt from (by have z37 : (0 : Int32).toInt = 0 := rfl; have z38 : (0 : Int32).toInt = 0 := rfl; omega)), (show t0_2.toInt ≤ t0_2.toInt from (by have z37 : (0 : Int32).toInt = 0 := rfl; have z38 : (0 : Int32).toInt = 0 := rfl; omega)), (show t0_3.toInt ≤ t0_3.toInt from (by have z37 : (0 : Int32).toInt = 0 := rfl; have z38 : (0 : Int32).toInt = 0 := rfl; omega)), (show t0_3.toInt ≤ t0_3.toInt from (by have z37 : (0 : Int32).toInt = 0 := rfl; have z38 : (0 : Int32).toInt = 0 := rfl; omega)), (show t4_0.toInt ≤ t4_0.toInt + 64 from (by have z37 : (0 : Int32).toInt = 0 := rfl; have z38 : (0 : Int32).toInt = 0 := rfl; omega)), (show t4_0.toInt ≤ t4_0.toInt from (by have z37 : (0 : Int32).toInt = 0 := rfl; have z38 : (0 : Int32).toInt = 0 := rfl; omega)), (show (0 : Int32).toInt ≤ (0 : Int32).toInt from (by have z37 : (0 : Int32).toInt = 0 := rfl; have z38 : (0 : Int32).toInt = 0 := rfl; omega)), (show ((0 : Int32), (0 : Int32), (0 : Int32), t0_1, t0_2, t0_3, t1_0, t2_0, t3_0, t4_0, t6_0, t7_0, t8_0, t9_0, t10_0, t11_0, t12_0, t13_0, t14_0, t15_0, t16_0, t17_0, t18_0, t19_0, t20_0, t21_0, t22_0, t23_0) = (F_NH_argument x2 x3 t0_0 t0_1 t0_2 t0_3 t1_0 t2_0 t3_0 t4_0 t5_0 t6_0 t7_0 t8_0 t9_0 t10_0 t11_0 t12_0 t13_0 t14_0 t15_0 t16_0 t17_0 t18_0 t19_0 t20_0 t21_0 t22_0 t23_0 t24_0 t24_1 t25_0 t26_0 t26_1 t27_0 t27_1 t28_0) from Eq.trans (by rw [F_NH_argument_J70.eq_1, if_pos c226, if_pos c229]) hR215)⟩) d_1_19_88)
          ·
            intro J212
            refine q_join (X := Unit) (fun z H locs ls _ => q_Wd D g (va_A ws sz) s ws H locs ∧ lv_has ls 3 [(0, .ref (q 0)), (1, .int x2), (2, .int x3)] ∧ F_NH_argument_J65 x2 x3 t0_0 t0_1 t0_2 t0_3 t1_0 t2_0 t3_0 t4_0 t5_0 t6_0 t7_0 t8_0 t9_0 t10_0 t11_0 t12_0 t13_0 t14_0 t15_0 t16_0 t17_0 t18_0 t19_0 t20_0 t21_0 t22_0 t23_0 t24_0 t24_1 t25_0 t26_0 t26_1 t27_0 t27_1 t28_0 lx88 lx135 = (F_NH_argument x2 x3 t0_0 t0_1 t0_2 t0_3 t1_0 t2_0 t3_0 t4_0 t5_0 t6_0 t7_0 t8_0 t9_0 t10_0 t11_0 t12_0 t13_0 t14_0 t15_0 t16_0 t17_0 t18_0 t19_0 t20_0 t21_0 t22_0 t23_0 t24_0 t24_1 t25_0 t26_0 t26_1 t27_0 t27_1 t28_0) ∧ True ∧ S_NH_argument_J65 x2 x3 t0_0 t0_1 t0_2 t0_3 t1_0 t2_0 t3_0 t4_0 t5_0 t6_0 t7_0 t8_0 t9_0 t10_0 t11_0 t12_0 t13_0 t14_0 t15_0 t16_0 t17_0 t18_0 t19_0 t20_0 t21_0 t22_0 t23_0 t24_0 t24_1 t25_0 t26_0 t26_1 t27_0 t27_1 t28_0 lx88 lx135) (fun z => []) 65 2 12 ?_ ?_
            ·
              rintro _ H locs ls _ ⟨V, hl, hR637, hS638⟩
              replace hl : lv_has ls 3 [(0, .ref (q 0)), (1, .int x2), (2, .int x3)] := hl
              refine lv_iconst (v := 1) hx hb d_1_19_65 (by decide) ?_
              refine lv_goto (tgt := 70) hx hb d_1_19_66 (by decide) ?_
              exact J212 ((1 : Int32)) _ _ _ ws ⟨(show q_F (0 ≤ 1) from (show 0 ≤ 1 from by omega)), (show q_F (1 ≤ 1) from (show 1 ≤ 1 from by omega)), V, q_lw hl (q_lw1 0 rfl (q_lw1 1 rfl (q_lw1 2 rfl q_lw0))), (show F_NH_argument_J70 x2 x3 t0_0 t0_1 t0_2 t0_3 t1_0 t2_0 t3_0 t4_0 t5_0 t6_0 t7_0 t8_0 t9_0 t10_0 t11_0 t12_0 t13_0 t14_0 t15_0 t16_0 t17_0 t18_0 t19_0 t20_0 t21_0 t22_0 t23_0 t24_0 t24_1 t25_0 t26_0 t26_1 t27_0 t27_1 t28_0 lx88 lx135 1 = (F_NH_argument x2 x3 t0_0 t0_1 t0_2 t0_3 t1_0 t2_0 t3_0 t4_0 t5_0 t6_0 t7_0 t8_0 t9_0 t10_0 t11_0 t12_0 t13_0 t14_0 t15_0 t16_0 t17_0 t18_0 t19_0 t20_0 t21_0 t22_0 t23_0 t24_0 t24_1 t25_0 t26_0 t26_1 t27_0 t27_1 t28_0) from Eq.trans (by rw [F_NH_argument_J65.eq_1]) hR637), (show True ∧ S_NH_argument_J70 x2 x3 t0_0 t0_1 t0_2 t0_3 t1_0 t2_0 t3_0 t4_0 t5_0 t6_0 t7_0 t8_0 t9_0 t10_0 t11_0 t12_0 t13_0 t14_0 t15_0 t16_0 t17_0 t18_0 t19_0 t20_0 t21_0 t22_0 t23_0 t24_0 t24_1 t25_0 t26_0 t26_1 t27_0 t27_1 t28_0 lx88 lx135 1 from (by have h := hS638; rw [S_NH_argument_J65.eq_1] at h; with_reducible exact h))⟩
            ·
              intro J636
              refine lv_icmp_ne (tgt := 65) hx hb d_1_19_51 (by decide) (fun c642 => ?_) (fun c642 => ?_)
              ·
                exact J636 (()) _ _ _ ws ⟨V, q_lw hl (q_lw1 0 rfl (q_lw1 1 rfl (q_lw1 2 rfl q_lw0))), (show F_NH_argument_J65 x2 x3 t0_0 t0_1 t0_2 t0_3 t1_0 t2_0 t3_0 t4_0 t5_0 t6_0 t7_0 t8_0 t9_0 t10_0 t11_0 t12_0 t13_0 t14_0 t15_0 t16_0 t17_0 t18_0 t19_0 t20_0 t21_0 t22_0 t23_0 t24_0 t24_1 t25_0 t26_0 t26_1 t27_0 t27_1 t28_0 lx88 lx135 = (F_NH_argument x2 x3 t0_0 t0_1 t0_2 t0_3 t1_0 t2_0 t3_0 t4_0 t5_0 t6_0 t7_0 t8_0 t9_0 t10_0 t11_0 t12_0 t13_0 t14_0 t15_0 t16_0 t17_0 t18_0 t19_0 t20_0 t21_0 t22_0 t23_0 t24_0 t24_1 t25_0 t26_0 t26_1 t27_0 t27_1 t28_0) from Eq.trans (by rw [F_NH_argument_J45.eq_1, if_pos c179, if_neg c642]) hR168), (show True ∧ S_NH_argument_J65 x2 x3 t0_0 t0_1 t0_2 t0_3 t1_0 t2_0 t3_0 t4_0 t5_0 t6_0 t7_0 t8_0 t9_0 t10_0 t11_0 t12_0 t13_0 t14_0 t15_0 t16_0 t17_0 t18_0 t19_0 t20_0 t21_0 t22_0 t23_0 t24_0 t24_1 t25_0 t26_0 t26_1 t27_0 t27_1 t28_0 lx88 lx135 from (by have h := hS169; rw [S_NH_argument_J45.eq_1] at h; rw [if_pos c179] at h; rw [if_neg c642] at h; with_reducible exact h))⟩
              ·
                refine lv_iload_n hx hb d_1_19_54 rfl (lv_at hl 2 rfl) ?_
                refine q_join (X := Unit) (fun z H locs ls _ => q_Wd D g (va_A ws sz) s ws H locs ∧ lv_has ls 3 [(0, .ref (q 0)), (1, .int x2), (2, .int x3)] ∧ F_NH_argument_J69 x2 x3 t0_0 t0_1 t0_2 t0_3 t1_0 t2_0 t3_0 t4_0 t5_0 t6_0 t7_0 t8_0 t9_0 t10_0 t11_0 t12_0 t13_0 t14_0 t15_0 t16_0 t17_0 t18_0 t19_0 t20_0 t21_0 t22_0 t23_0 t24_0 t24_1 t25_0 t26_0 t26_1 t27_0 t27_1 t28_0 lx88 lx135 = (F_NH_argument x2 x3 t0_0 t0_1 t0_2 t0_3 t1_0 t2_0 t3_0 t4_0 t5_0 t6_0 t7_0 t8_0 t9_0 t10_0 t11_0 t12_0 t13_0 t14_0 t15_0 t16_0 t17_0 t18_0 t19_0 t20_0 t21_0 t22_0 t23_0 t24_0 t24_1 t25_0 t26_0 t26_1 t27_0 t27_1 t28_0) ∧ True ∧ S_NH_argument_J69 x2 x3 t0_0 t0_1 t0_2 t0_3 t1_0 t2_0 t3_0 t4_0 t5_0 t6_0 t7_0 t8_0 t9_0 t10_0 t11_0 t12_0 t13_0 t14_0 t15_0 t16_0 t17_0 t18_0 t19_0 t20_0 t21_0 t22_0 t23_0 t24_0 t24_1 t25_0 t26_0 t26_1 t27_0 t27_1 t28_0 lx88 lx135) (fun z => []) 69 2 12 ?_ ?_
                ·
                  rintro _ H locs ls _ ⟨V, hl, hR675, hS676⟩
                  replace hl : lv_has ls 3 [(0, .ref (q 0)), (1, .int x2), (2, .int x3)] := hl
                  refine lv_iconst (v := 0) hx hb d_1_19_69 (by decide) ?_
                  exact J212 ((0 : Int32)) _ _ _ ws ⟨(show q_F (0 ≤ 0) from (show 0 ≤ 0 from by omega)), (show q_F (0 ≤ 1) from (show 0 ≤ 1 from by omega)), V, q_lw hl (q_lw1 0 rfl (q_lw1 1 rfl (q_lw1 2 rfl q_lw0))), (show F_NH_argument_J70 x2 x3 t0_0 t0_1 t0_2 t0_3 t1_0 t2_0 t3_0 t4_0 t5_0 t6_0 t7_0 t8_0 t9_0 t10_0 t11_0 t12_0 t13_0 t14_0 t15_0 t16_0 t17_0 t18_0 t19_0 t20_0 t21_0 t22_0 t23_0 t24_0 t24_1 t25_0 t26_0 t26_1 t27_0 t27_1 t28_0 lx88 lx135 0 = (F_NH_argument x2 x3 t0_0 t0_1 t0_2 t0_3 t1_0 t2_0 t3_0 t4_0 t5_0 t6_0 t7_0 t8_0 t9_0 t10_0 t11_0 t12_0 t13_0 t14_0 t15_0 t16_0 t17_0 t18_0 t19_0 t20_0 t21_0 t22_0 t23_0 t24_0 t24_1 t25_0 t26_0 t26_1 t27_0 t27_1 t28_0) from Eq.trans (by rw [F_NH_argument_J69.eq_1]) hR675), (show True ∧ S_NH_argument_J70 x2 x3 t0_0 t0_1 t0_2 t0_3 t1_0 t2_0 t3_0 t4_0 t5_0 t6_0 t7_0 t8_0 t9_0 t10_0 t11_0 t12_0 t13_0 t14_0 t15_0 t16_0 t17_0 t18_0 t19_0 t20_0 t21_0 t22_0 t23_0 t24_0 t24_1 t25_0 t26_0 t26_1 t27_0 t27_1 t28_0 lx88 lx135 0 from (by have h := hS676; rw [S_NH_argument_J69.eq_1] at h; with_reducible exact h))⟩
                ·
                  intro J674
                  refine lv_if_lt (tgt := 69) hx hb d_1_19_55 (by decide) (fun c680 => ?_) (fun c680 => ?_)
                  ·
                    exact J674 (()) _ _ _ ws ⟨V, q_lw hl (q_lw1 0 rfl (q_lw1 1 rfl (q_lw1 2 rfl q_lw0))), (show F_NH_argument_J69 x2 x3 t0_0 t0_1 t0_2 t0_3 t1_0 t2_0 t3_0 t4_0 t5_0 t6_0 t7_0 t8_0 t9_0 t10_0 t11_0 t12_0 t13_0 t14_0 t15_0 t16_0 t17_0 t18_0 t19_0 t20_0 t21_0 t22_0 t23_0 t24_0 t24_1 t25_0 t26_0 t26_1 t27_0 t27_1 t28_0 lx88 lx135 = (F_NH_argument x2 x3 t0_0 t0_1 t0_2 t0_3 t1_0 t2_0 t3_0 t4_0 t5_0 t6_0 t7_0 t8_0 t9_0 t10_0 t11_0 t12_0 t13_0 t14_0 t15_0 t16_0 t17_0 t18_0 t19_0 t20_0 t21_0 t22_0 t23_0 t24_0 t24_1 t25_0 t26_0 t26_1 t27_0 t27_1 t28_0) from Eq.trans (by rw [F_NH_argument_J45.eq_1, if_pos c179, if_pos c642, if_pos c680]) hR168), (show True ∧ S_NH_argument_J69 x2 x3 t0_0 t0_1 t0_2 t0_3 t1_0 t2_0 t3_0 t4_0 t5_0 t6_0 t7_0 t8_0 t9_0 t10_0 t11_0 t12_0 t13_0 t14_0 t15_0 t16_0 t17_0 t18_0 t19_0 t20_0 t21_0 t22_0 t23_0 t24_0 t24_1 t25_0 t26_0 t26_1 t27_0 t27_1 t28_0 lx88 lx135 from (by have h := hS169; rw [S_NH_argument_J45.eq_1] at h; rw [if_pos c179] at h; rw [if_pos c642] at h; rw [if_pos c680] at h; with_reducible exact h))⟩
                  ·
                    refine lv_iload_n hx hb d_1_19_58 rfl (lv_at hl 2 rfl) ?_
                    refine lv_sipush (v := 255) hx hb d_1_19_59 (by decide) ?_
                    refine lv_icmp_gt (tgt := 69) hx hb d_1_19_62 (by decide) (fun c683 => ?_) (fun c683 => ?_)
                    ·
                      exact J674 (()) _ _ _ ws ⟨V, q_lw hl (q_lw1 0 rfl (q_lw1 1 rfl (q_lw1 2 rfl q_lw0))), (show F_NH_argument_J69 x2 x3 t0_0 t0_1 t0_2 t0_3 t1_0 t2_0 t3_0 t4_0 t5_0 t6_0 t7_0 t8_0 t9_0 t10_0 t11_0 t12_0 t13_0 t14_0 t15_0 t16_0 t17_0 t18_0 t19_0 t20_0 t21_0 t22_0 t23_0 t24_0 t24_1 t25_0 t26_0 t26_1 t27_0 t27_1 t28_0 lx88 lx135 = (F_NH_argument x2 x3 t0_0 t0_1 t0_2 t0_3 t1_0 t2_0 t3_0 t4_0 t5_0 t6_0 t7_0 t8_0 t9_0 t10_0 t11_0 t12_0 t13_0 t14_0 t15_0 t16_0 t17_0 t18_0 t19_0 t20_0 t21_0 t22_0 t23_0 t24_0 t24_1 t25_0 t26_0 t26_1 t27_0 t27_1 t28_0) from Eq.trans (by rw [F_NH_argument_J45.eq_1, if_pos c179, if_pos c642, if_neg c680, if_pos c683]) hR168), (show True ∧ S_NH_argument_J69 x2 x3 t0_0 t0_1 t0_2 t0_3 t1_0 t2_0 t3_0 t4_0 t5_0 t6_0 t7_0 t8_0 t9_0 t10_0 t11_0 t12_0 t13_0 t14_0 t15_0 t16_0 t17_0 t18_0 t19_0 t20_0 t21_0 t22_0 t23_0 t24_0 t24_1 t25_0 t26_0 t26_1 t27_0 t27_1 t28_0 lx88 lx135 from (by have h := hS169; rw [S_NH_argument_J45.eq_1] at h; rw [if_pos c179] at h; rw [if_pos c642] at h; rw [if_neg c680] at h; rw [if_pos c683] at h; with_reducible exact h))⟩
                    ·
                      exact J636 (()) _ _ _ ws ⟨V, q_lw hl (q_lw1 0 rfl (q_lw1 1 rfl (q_lw1 2 rfl q_lw0))), (show F_NH_argument_J65 x2 x3 t0_0 t0_1 t0_2 t0_3 t1_0 t2_0 t3_0 t4_0 t5_0 t6_0 t7_0 t8_0 t9_0 t10_0 t11_0 t12_0 t13_0 t14_0 t15_0 t16_0 t17_0 t18_0 t19_0 t20_0 t21_0 t22_0 t23_0 t24_0 t24_1 t25_0 t26_0 t26_1 t27_0 t27_1 t28_0 lx88 lx135 = (F_NH_argument x2 x3 t0_0 t0_1 t0_2 t0_3 t1_0 t2_0 t3_0 t4_0 t5_0 t6_0 t7_0 t8_0 t9_0 t10_0 t11_0 t12_0 t13_0 t14_0 t15_0 t16_0 t17_0 t18_0 t19_0 t20_0 t21_0 t22_0 t23_0 t24_0 t24_1 t25_0 t26_0 t26_1 t27_0 t27_1 t28_0) from Eq.trans (by rw [F_NH_argument_J45.eq_1, if_pos c179, if_pos c642, if_neg c680, if_neg c683]) hR168), (show True ∧ S_NH_argument_J65 x2 x3 t0_0 t0_1 t0_2 t0_3 t1_0 t2_0 t3_0 t4_0 t5_0 t6_0 t7_0 t8_0 t9_0 t10_0 t11_0 t12_0 t13_0 t14_0 t15_0 t16_0 t17_0 t18_0 t19_0 t20_0 t21_0 t22_0 t23_0 t24_0 t24_1 t25_0 t26_0 t26_1 t27_0 t27_1 t28_0 lx88 lx135 from (by have h := hS169; rw [S_NH_argument_J45.eq_1] at h; rw [if_pos c179] at h; rw [if_pos c642] at h; rw [if_neg c680] at h; rw [if_neg c683] at h; with_reducible exact h))⟩
      ·
        intro J165
        refine q_join (X := Unit) (fun z H locs ls _ => q_Wd D g (va_A ws sz) s ws H locs ∧ lv_has ls 3 [(0, .ref (q 0)), (1, .int x2), (2, .int x3)] ∧ F_NH_argument_J40 x2 x3 t0_0 t0_1 t0_2 t0_3 t1_0 t2_0 t3_0 t4_0 t5_0 t6_0 t7_0 t8_0 t9_0 t10_0 t11_0 t12_0 t13_0 t14_0 t15_0 t16_0 t17_0 t18_0 t19_0 t20_0 t21_0 t22_0 t23_0 t24_0 t24_1 t25_0 t26_0 t26_1 t27_0 t27_1 t28_0 lx88 = (F_NH_argument x2 x3 t0_0 t0_1 t0_2 t0_3 t1_0 t2_0 t3_0 t4_0 t5_0 t6_0 t7_0 t8_0 t9_0 t10_0 t11_0 t12_0 t13_0 t14_0 t15_0 t16_0 t17_0 t18_0 t19_0 t20_0 t21_0 t22_0 t23_0 t24_0 t24_1 t25_0 t26_0 t26_1 t27_0 t27_1 t28_0) ∧ True ∧ S_NH_argument_J40 x2 x3 t0_0 t0_1 t0_2 t0_3 t1_0 t2_0 t3_0 t4_0 t5_0 t6_0 t7_0 t8_0 t9_0 t10_0 t11_0 t12_0 t13_0 t14_0 t15_0 t16_0 t17_0 t18_0 t19_0 t20_0 t21_0 t22_0 t23_0 t24_0 t24_1 t25_0 t26_0 t26_1 t27_0 t27_1 t28_0 lx88) (fun z => []) 40 1 6 ?_ ?_
        ·
          rintro _ H locs ls _ ⟨V, hl, hR716, hS717⟩
          replace hl : lv_has ls 3 [(0, .ref (q 0)), (1, .int x2), (2, .int x3)] := hl
          refine lv_iconst (v := 1) hx hb d_1_19_40 (by decide) ?_
          refine lv_goto (tgt := 45) hx hb d_1_19_41 (by decide) ?_
          exact J165 ((1 : Int32)) _ _ _ ws ⟨(show q_F (0 ≤ 1) from (show 0 ≤ 1 from by omega)), (show q_F (1 ≤ 1) from (show 1 ≤ 1 from by omega)), V, q_lw hl (q_lw1 0 rfl (q_lw1 1 rfl (q_lw1 2 rfl q_lw0))), (show F_NH_argument_J45 x2 x3 t0_0 t0_1 t0_2 t0_3 t1_0 t2_0 t3_0 t4_0 t5_0 t6_0 t7_0 t8_0 t9_0 t10_0 t11_0 t12_0 t13_0 t14_0 t15_0 t16_0 t17_0 t18_0 t19_0 t20_0 t21_0 t22_0 t23_0 t24_0 t24_1 t25_0 t26_0 t26_1 t27_0 t27_1 t28_0 lx88 1 = (F_NH_argument x2 x3 t0_0 t0_1 t0_2 t0_3 t1_0 t2_0 t3_0 t4_0 t5_0 t6_0 t7_0 t8_0 t9_0 t10_0 t11_0 t12_0 t13_0 t14_0 t15_0 t16_0 t17_0 t18_0 t19_0 t20_0 t21_0 t22_0 t23_0 t24_0 t24_1 t25_0 t26_0 t26_1 t27_0 t27_1 t28_0) from Eq.trans (by rw [F_NH_argument_J40.eq_1]) hR716), (show True ∧ S_NH_argument_J45 x2 x3 t0_0 t0_1 t0_2 t0_3 t1_0 t2_0 t3_0 t4_0 t5_0 t6_0 t7_0 t8_0 t9_0 t10_0 t11_0 t12_0 t13_0 t14_0 t15_0 t16_0 t17_0 t18_0 t19_0 t20_0 t21_0 t22_0 t23_0 t24_0 t24_1 t25_0 t26_0 t26_1 t27_0 t27_1 t28_0 lx88 1 from (by have h := hS717; rw [S_NH_argument_J40.eq_1] at h; with_reducible exact h))⟩
        ·
          intro J715
          refine lv_icmp_gt (tgt := 40) hx hb d_1_19_30 (by decide) (fun c721 => ?_) (fun c721 => ?_)
          ·
            exact J715 (()) _ _ _ ws ⟨V, q_lw hl (q_lw1 0 rfl (q_lw1 1 rfl (q_lw1 2 rfl q_lw0))), (show F_NH_argument_J40 x2 x3 t0_0 t0_1 t0_2 t0_3 t1_0 t2_0 t3_0 t4_0 t5_0 t6_0 t7_0 t8_0 t9_0 t10_0 t11_0 t12_0 t13_0 t14_0 t15_0 t16_0 t17_0 t18_0 t19_0 t20_0 t21_0 t22_0 t23_0 t24_0 t24_1 t25_0 t26_0 t26_1 t27_0 t27_1 t28_0 lx88 = (F_NH_argument x2 x3 t0_0 t0_1 t0_2 t0_3 t1_0 t2_0 t3_0 t4_0 t5_0 t6_0 t7_0 t8_0 t9_0 t10_0 t11_0 t12_0 t13_0 t14_0 t15_0 t16_0 t17_0 t18_0 t19_0 t20_0 t21_0 t22_0 t23_0 t24_0 t24_1 t25_0 t26_0 t26_1 t27_0 t27_1 t28_0) from Eq.trans (by rw [F_NH_argument_J25.eq_1, if_pos c132, if_pos c721]) hR121), (show True ∧ S_NH_argument_J40 x2 x3 t0_0 t0_1 t0_2 t0_3 t1_0 t2_0 t3_0 t4_0 t5_0 t6_0 t7_0 t8_0 t9_0 t10_0 t11_0 t12_0 t13_0 t14_0 t15_0 t16_0 t17_0 t18_0 t19_0 t20_0 t21_0 t22_0 t23_0 t24_0 t24_1 t25_0 t26_0 t26_1 t27_0 t27_1 t28_0 lx88 from (by have h := hS122; rw [S_NH_argument_J25.eq_1] at h; rw [if_pos c132] at h; rw [if_pos c721] at h; with_reducible exact h))⟩
          ·
            refine lv_iload_n hx hb d_1_19_33 rfl (lv_at hl 2 rfl) ?_
            refine q_goi V (q_runS (As := [.int x3]) (rest := []) (d := 1) (mc := 0) (ms := 0) C0 V rfl LS_NH_212 (X_NH_isRegister l D g q ws  x3 hI   _) rfl hl.1 rfl (Nat.le_of_ble_eq_true rfl) ⟨by decide, by decide⟩ ⟨Nat.le_of_ble_eq_true rfl, Nat.le_of_ble_eq_true rfl⟩ d_1_19_34) (fun a726 u724 H locs hp725 V => ?_)
            obtain ⟨rfl, b727, b728, hE729⟩ := hp725
            have e730 : a726 = (F_NH_isRegister x3) := hE729
            clear b727
            clear b728
            refine lv_if_eq (tgt := 44) hx hb d_1_19_37 (by decide) (fun c731 => ?_) (fun c731 => ?_)
            ·
              refine lv_iconst (v := 0) hx hb d_1_19_44 (by decide) ?_
              exact J165 ((0 : Int32)) _ _ _ ws ⟨(show q_F (0 ≤ 0) from (show 0 ≤ 0 from by omega)), (show q_F (0 ≤ 1) from (show 0 ≤ 1 from by omega)), V, q_lw hl (q_lw1 0 rfl (q_lw1 1 rfl (q_lw1 2 rfl q_lw0))), (show F_NH_argument_J45 x2 x3 t0_0 t0_1 t0_2 t0_3 t1_0 t2_0 t3_0 t4_0 t5_0 t6_0 t7_0 t8_0 t9_0 t10_0 t11_0 t12_0 t13_0 t14_0 t15_0 t16_0 t17_0 t18_0 t19_0 t20_0 t21_0 t22_0 t23_0 t24_0 t24_1 t25_0 t26_0 t26_1 t27_0 t27_1 t28_0 lx88 0 = (F_NH_argument x2 x3 t0_0 t0_1 t0_2 t0_3 t1_0 t2_0 t3_0 t4_0 t5_0 t6_0 t7_0 t8_0 t9_0 t10_0 t11_0 t12_0 t13_0 t14_0 t15_0 t16_0 t17_0 t18_0 t19_0 t20_0 t21_0 t22_0 t23_0 t24_0 t24_1 t25_0 t26_0 t26_1 t27_0 t27_1 t28_0) from Eq.trans (by have c731x := c731; rw [e730] at c731x; rw [F_NH_argument_J25.eq_1, if_pos c132, if_neg c721, if_pos c731x]) hR121), (show True ∧ S_NH_argument_J45 x2 x3 t0_0 t0_1 t0_2 t0_3 t1_0 t2_0 t3_0 t4_0 t5_0 t6_0 t7_0 t8_0 t9_0 t10_0 t11_0 t12_0 t13_0 t14_0 t15_0 t16_0 t17_0 t18_0 t19_0 t20_0 t21_0 t22_0 t23_0 t24_0 t24_1 t25_0 t26_0 t26_1 t27_0 t27_1 t28_0 lx88 0 from (by have h := hS122; rw [S_NH_argument_J25.eq_1] at h; rw [if_pos c132] at h; rw [if_neg c721] at h; have c731x := c731; rw [e730] at c731x; rw [if_pos c731x] at h; with_reducible exact h))⟩
            ·
              exact J715 (()) _ _ _ ws ⟨V, q_lw hl (q_lw1 0 rfl (q_lw1 1 rfl (q_lw1 2 rfl q_lw0))), (show F_NH_argument_J40 x2 x3 t0_0 t0_1 t0_2 t0_3 t1_0 t2_0 t3_0 t4_0 t5_0 t6_0 t7_0 t8_0 t9_0 t10_0 t11_0 t12_0 t13_0 t14_0 t15_0 t16_0 t17_0 t18_0 t19_0 t20_0 t21_0 t22_0 t23_0 t24_0 t24_1 t25_0 t26_0 t26_1 t27_0 t27_1 t28_0 lx88 = (F_NH_argument x2 x3 t0_0 t0_1 t0_2 t0_3 t1_0 t2_0 t3_0 t4_0 t5_0 t6_0 t7_0 t8_0 t9_0 t10_0 t11_0 t12_0 t13_0 t14_0 t15_0 t16_0 t17_0 t18_0 t19_0 t20_0 t21_0 t22_0 t23_0 t24_0 t24_1 t25_0 t26_0 t26_1 t27_0 t27_1 t28_0) from Eq.trans (by have c731x := c731; rw [e730] at c731x; rw [F_NH_argument_J25.eq_1, if_pos c132, if_neg c721, if_neg c731x]) hR121), (show True ∧ S_NH_argument_J40 x2 x3 t0_0 t0_1 t0_2 t0_3 t1_0 t2_0 t3_0 t4_0 t5_0 t6_0 t7_0 t8_0 t9_0 t10_0 t11_0 t12_0 t13_0 t14_0 t15_0 t16_0 t17_0 t18_0 t19_0 t20_0 t21_0 t22_0 t23_0 t24_0 t24_1 t25_0 t26_0 t26_1 t27_0 t27_1 t28_0 lx88 from (by have h := hS122; rw [S_NH_argument_J25.eq_1] at h; rw [if_pos c132] at h; rw [if_neg c721] at h; have c731x := c731; rw [e730] at c731x; rw [if_neg c731x] at h; with_reducible exact h))⟩
  ·
    intro J118
    refine q_join (X := Unit) (fun z H locs ls _ => q_Wd D g (va_A ws sz) s ws H locs ∧ lv_has ls 3 [(0, .ref (q 0)), (1, .int x2), (2, .int x3)] ∧ F_NH_argument_J20 x2 x3 t0_0 t0_1 t0_2 t0_3 t1_0 t2_0 t3_0 t4_0 t5_0 t6_0 t7_0 t8_0 t9_0 t10_0 t11_0 t12_0 t13_0 t14_0 t15_0 t16_0 t17_0 t18_0 t19_0 t20_0 t21_0 t22_0 t23_0 t24_0 t24_1 t25_0 t26_0 t26_1 t27_0 t27_1 t28_0 = (F_NH_argument x2 x3 t0_0 t0_1 t0_2 t0_3 t1_0 t2_0 t3_0 t4_0 t5_0 t6_0 t7_0 t8_0 t9_0 t10_0 t11_0 t12_0 t13_0 t14_0 t15_0 t16_0 t17_0 t18_0 t19_0 t20_0 t21_0 t22_0 t23_0 t24_0 t24_1 t25_0 t26_0 t26_1 t27_0 t27_1 t28_0) ∧ True ∧ S_NH_argument_J20 x2 x3 t0_0 t0_1 t0_2 t0_3 t1_0 t2_0 t3_0 t4_0 t5_0 t6_0 t7_0 t8_0 t9_0 t10_0 t11_0 t12_0 t13_0 t14_0 t15_0 t16_0 t17_0 t18_0 t19_0 t20_0 t21_0 t22_0 t23_0 t24_0 t24_1 t25_0 t26_0 t26_1 t27_0 t27_1 t28_0) (fun z => []) 20 0 0 ?_ ?_
    ·
      rintro _ H locs ls _ ⟨V, hl, hR764, hS765⟩
      replace hl : lv_has ls 3 [(0, .ref (q 0)), (1, .int x2), (2, .int x3)] := hl
      refine lv_iconst (v := 1) hx hb d_1_19_20 (by decide) ?_
      refine lv_goto (tgt := 25) hx hb d_1_19_21 (by decide) ?_
      exact J118 ((1 : Int32)) _ _ _ ws ⟨(show q_F (0 ≤ 1) from (show 0 ≤ 1 from by omega)), (show q_F (1 ≤ 1) from (show 1 ≤ 1 from by omega)), V, q_lw hl (q_lw1 0 rfl (q_lw1 1 rfl (q_lw1 2 rfl q_lw0))), (show F_NH_argument_J25 x2 x3 t0_0 t0_1 t0_2 t0_3 t1_0 t2_0 t3_0 t4_0 t5_0 t6_0 t7_0 t8_0 t9_0 t10_0 t11_0 t12_0 t13_0 t14_0 t15_0 t16_0 t17_0 t18_0 t19_0 t20_0 t21_0 t22_0 t23_0 t24_0 t24_1 t25_0 t26_0 t26_1 t27_0 t27_1 t28_0 1 = (F_NH_argument x2 x3 t0_0 t0_1 t0_2 t0_3 t1_0 t2_0 t3_0 t4_0 t5_0 t6_0 t7_0 t8_0 t9_0 t10_0 t11_0 t12_0 t13_0 t14_0 t15_0 t16_0 t17_0 t18_0 t19_0 t20_0 t21_0 t22_0 t23_0 t24_0 t24_1 t25_0 t26_0 t26_1 t27_0 t27_1 t28_0) from Eq.trans (by rw [F_NH_argument_J20.eq_1]) hR764), (show True ∧ S_NH_argument_J25 x2 x3 t0_0 t0_1 t0_2 t0_3 t1_0 t2_0 t3_0 t4_0 t5_0 t6_0 t7_0 t8_0 t9_0 t10_0 t11_0 t12_0 t13_0 t14_0 t15_0 t16_0 t17_0 t18_0 t19_0 t20_0 t21_0 t22_0 t23_0 t24_0 t24_1 t25_0 t26_0 t26_1 t27_0 t27_1 t28_0 1 from (by have h := hS765; rw [S_NH_argument_J20.eq_1] at h; with_reducible exact h))⟩
    ·
      intro J763
      refine lv_if_eq (tgt := 20) hx hb d_1_19_1 (by decide) (fun c769 => ?_) (fun c769 => ?_)
      ·
        exact J763 (()) _ _ _ ws ⟨V, q_lw hl (q_lw1 0 rfl (q_lw1 1 rfl (q_lw1 2 rfl q_lw0))), (show F_NH_argument_J20 x2 x3 t0_0 t0_1 t0_2 t0_3 t1_0 t2_0 t3_0 t4_0 t5_0 t6_0 t7_0 t8_0 t9_0 t10_0 t11_0 t12_0 t13_0 t14_0 t15_0 t16_0 t17_0 t18_0 t19_0 t20_0 t21_0 t22_0 t23_0 t24_0 t24_1 t25_0 t26_0 t26_1 t27_0 t27_1 t28_0 = (F_NH_argument x2 x3 t0_0 t0_1 t0_2 t0_3 t1_0 t2_0 t3_0 t4_0 t5_0 t6_0 t7_0 t8_0 t9_0 t10_0 t11_0 t12_0 t13_0 t14_0 t15_0 t16_0 t17_0 t18_0 t19_0 t20_0 t21_0 t22_0 t23_0 t24_0 t24_1 t25_0 t26_0 t26_1 t27_0 t27_1 t28_0) from (by rw [F_NH_argument.eq_1, if_pos c769])), (show True ∧ S_NH_argument_J20 x2 x3 t0_0 t0_1 t0_2 t0_3 t1_0 t2_0 t3_0 t4_0 t5_0 t6_0 t7_0 t8_0 t9_0 t10_0 t11_0 t12_0 t13_0 t14_0 t15_0 t16_0 t17_0 t18_0 t19_0 t20_0 t21_0 t22_0 t23_0 t24_0 t24_1 t25_0 t26_0 t26_1 t27_0 t27_1 t28_0 from (by have h := hS; rw [S_NH_argument.eq_1] at h; rw [if_pos c769] at h; with_reducible exact h))⟩
      ·
        refine lv_iload_n hx hb d_1_19_4 rfl (lv_at hl 1 rfl) ?_
        refine lv_iconst (v := 1) hx hb d_1_19_5 (by decide) ?_
        refine lv_icmp_eq (tgt := 20) hx hb d_1_19_6 (by decide) (fun c772 => ?_) (fun c772 => ?_)
        ·
          exact J763 (()) _ _ _ ws ⟨V, q_lw hl (q_lw1 0 rfl (q_lw1 1 rfl (q_lw1 2 rfl q_lw0))), (show F_NH_argument_J20 x2 x3 t0_0 t0_1 t0_2 t0_3 t1_0 t2_0 t3_0 t4_0 t5_0 t6_0 t7_0 t8_0 t9_0 t10_0 t11_0 t12_0 t13_0 t14_0 t15_0 t16_0 t17_0 t18_0 t19_0 t20_0 t21_0 t22_0 t23_0 t24_0 t24_1 t25_0 t26_0 t26_1 t27_0 t27_1 t28_0 = (F_NH_argument x2 x3 t0_0 t0_1 t0_2 t0_3 t1_0 t2_0 t3_0 t4_0 t5_0 t6_0 t7_0 t8_0 t9_0 t10_0 t11_0 t12_0 t13_0 t14_0 t15_0 t16_0 t17_0 t18_0 t19_0 t20_0 t21_0 t22_0 t23_0 t24_0 t24_1 t25_0 t26_0 t26_1 t27_0 t27_1 t28_0) from (by rw [F_NH_argument.eq_1, if_neg c769, if_pos c772])), (show True ∧ S_NH_argument_J20 x2 x3 t0_0 t0_1 t0_2 t0_3 t1_0 t2_0 t3_0 t4_0 t5_0 t6_0 t7_0 t8_0 t9_0 t10_0 t11_0 t12_0 t13_0 t14_0 t15_0 t16_0 t17_0 t18_0 t19_0 t20_0 t21_0 t22_0 t23_0 t24_0 t24_1 t25_0 t26_0 t26_1 t27_0 t27_1 t28_0 from (by have h := hS; rw [S_NH_argument.eq_1] at h; rw [if_neg c769] at h; rw [if_pos c772] at h; with_reducible exact h))⟩
        ·
          refine lv_iload_n hx hb d_1_19_9 rfl (lv_at hl 1 rfl) ?_
          refine lv_iconst (v := 4) hx hb d_1_19_10 (by decide) ?_
          refine q_join (X := Unit) (fun z H locs ls _ => q_Wd D g (va_A ws sz) s ws H locs ∧ lv_has ls 3 [(0, .ref (q 0)), (1, .int x2), (2, .int x3)] ∧ F_NH_argument_J24 x2 x3 t0_0 t0_1 t0_2 t0_3 t1_0 t2_0 t3_0 t4_0 t5_0 t6_0 t7_0 t8_0 t9_0 t10_0 t11_0 t12_0 t13_0 t14_0 t15_0 t16_0 t17_0 t18_0 t19_0 t20_0 t21_0 t22_0 t23_0 t24_0 t24_1 t25_0 t26_0 t26_1 t27_0 t27_1 t28_0 = (F_NH_argument x2 x3 t0_0 t0_1 t0_2 t0_3 t1_0 t2_0 t3_0 t4_0 t5_0 t6_0 t7_0 t8_0 t9_0 t10_0 t11_0 t12_0 t13_0 t14_0 t15_0 t16_0 t17_0 t18_0 t19_0 t20_0 t21_0 t22_0 t23_0 t24_0 t24_1 t25_0 t26_0 t26_1 t27_0 t27_1 t28_0) ∧ True ∧ S_NH_argument_J24 x2 x3 t0_0 t0_1 t0_2 t0_3 t1_0 t2_0 t3_0 t4_0 t5_0 t6_0 t7_0 t8_0 t9_0 t10_0 t11_0 t12_0 t13_0 t14_0 t15_0 t16_0 t17_0 t18_0 t19_0 t20_0 t21_0 t22_0 t23_0 t24_0 t24_1 t25_0 t26_0 t26_1 t27_0 t27_1 t28_0) (fun z => []) 24 0 0 ?_ ?_
          ·
            rintro _ H locs ls _ ⟨V, hl, hR805, hS806⟩
            replace hl : lv_has ls 3 [(0, .ref (q 0)), (1, .int x2), (2, .int x3)] := hl
            refine lv_iconst (v := 0) hx hb d_1_19_24 (by decide) ?_
            exact J118 ((0 : Int32)) _ _ _ ws ⟨(show q_F (0 ≤ 0) from (show 0 ≤ 0 from by omega)), (show q_F (0 ≤ 1) from (show 0 ≤ 1 from by omega)), V, q_lw hl (q_lw1 0 rfl (q_lw1 1 rfl (q_lw1 2 rfl q_lw0))), (show F_NH_argument_J25 x2 x3 t0_0 t0_1 t0_2 t0_3 t1_0 t2_0 t3_0 t4_0 t5_0 t6_0 t7_0 t8_0 t9_0 t10_0 t11_0 t12_0 t13_0 t14_0 t15_0 t16_0 t17_0 t18_0 t19_0 t20_0 t21_0 t22_0 t23_0 t24_0 t24_1 t25_0 t26_0 t26_1 t27_0 t27_1 t28_0 0 = (F_NH_argument x2 x3 t0_0 t0_1 t0_2 t0_3 t1_0 t2_0 t3_0 t4_0 t5_0 t6_0 t7_0 t8_0 t9_0 t10_0 t11_0 t12_0 t13_0 t14_0 t15_0 t16_0 t17_0 t18_0 t19_0 t20_0 t21_0 t22_0 t23_0 t24_0 t24_1 t25_0 t26_0 t26_1 t27_0 t27_1 t28_0) from Eq.trans (by rw [F_NH_argument_J24.eq_1]) hR805), (show True ∧ S_NH_argument_J25 x2 x3 t0_0 t0_1 t0_2 t0_3 t1_0 t2_0 t3_0 t4_0 t5_0 t6_0 t7_0 t8_0 t9_0 t10_0 t11_0 t12_0 t13_0 t14_0 t15_0 t16_0 t17_0 t18_0 t19_0 t20_0 t21_0 t22_0 t23_0 t24_0 t24_1 t25_0 t26_0 t26_1 t27_0 t27_1 t28_0 0 from (by have h := hS806; rw [S_NH_argument_J24.eq_1] at h; with_reducible exact h))⟩
          ·
            intro J804
            refine lv_icmp_lt (tgt := 24) hx hb d_1_19_11 (by decide) (fun c810 => ?_) (fun c810 => ?_)
            ·
              exact J804 (()) _ _ _ ws ⟨V, q_lw hl (q_lw1 0 rfl (q_lw1 1 rfl (q_lw1 2 rfl q_lw0))), (show F_NH_argument_J24 x2 x3 t0_0 t0_1 t0_2 t0_3 t1_0 t2_0 t3_0 t4_0 t5_0 t6_0 t7_0 t8_0 t9_0 t10_0 t11_0 t12_0 t13_0 t14_0 t15_0 t16_0 t17_0 t18_0 t19_0 t20_0 t21_0 t22_0 t23_0 t24_0 t24_1 t25_0 t26_0 t26_1 t27_0 t27_1 t28_0 = (F_NH_argument x2 x3 t0_0 t0_1 t0_2 t0_3 t1_0 t2_0 t3_0 t4_0 t5_0 t6_0 t7_0 t8_0 t9_0 t10_0 t11_0 t12_0 t13_0 t14_0 t15_0 t16_0 t17_0 t18_0 t19_0 t20_0 t21_0 t22_0 t23_0 t24_0 t24_1 t25_0 t26_0 t26_1 t27_0 t27_1 t28_0) from (by rw [F_NH_argument.eq_1, if_neg c769, if_neg c772, if_pos c810])), (show True ∧ S_NH_argument_J24 x2 x3 t0_0 t0_1 t0_2 t0_3 t1_0 t2_0 t3_0 t4_0 t5_0 t6_0 t7_0 t8_0 t9_0 t10_0 t11_0 t12_0 t13_0 t14_0 t15_0 t16_0 t17_0 t18_0 t19_0 t20_0 t21_0 t22_0 t23_0 t24_0 t24_1 t25_0 t26_0 t26_1 t27_0 t27_1 t28_0 from (by have h := hS; rw [S_NH_argument.eq_1] at h; rw [if_neg c769] at h; rw [if_neg c772] at h; rw [if_pos c810] at h; with_reducible exact h))⟩
            ·
              refine lv_iload_n hx hb d_1_19_14 rfl (lv_at hl 1 rfl) ?_
              refine lv_bipush (v := 8) hx hb d_1_19_15 (by decide) ?_
              refine lv_icmp_gt (tgt := 24) hx hb d_1_19_17 (by decide) (fun c813 => ?_) (fun c813 => ?_)
              ·
                exact J804 (()) _ _ _ ws ⟨V, q_lw hl (q_lw1 0 rfl (q_lw1 1 rfl (q_lw1 2 rfl q_lw0))), (show F_NH_argument_J24 x2 x3 t0_0 t0_1 t0_2 t0_3 t1_0 t2_0 t3_0 t4_0 t5_0 t6_0 t7_0 t8_0 t9_0 t10_0 t11_0 t12_0 t13_0 t14_0 t15_0 t16_0 t17_0 t18_0 t19_0 t20_0 t21_0 t22_0 t23_0 t24_0 t24_1 t25_0 t26_0 t26_1 t27_0 t27_1 t28_0 = (F_NH_argument x2 x3 t0_0 t0_1 t0_2 t0_3 t1_0 t2_0 t3_0 t4_0 t5_0 t6_0 t7_0 t8_0 t9_0 t10_0 t11_0 t12_0 t13_0 t14_0 t15_0 t16_0 t17_0 t18_0 t19_0 t20_0 t21_0 t22_0 t23_0 t24_0 t24_1 t25_0 t26_0 t26_1 t27_0 t27_1 t28_0) from (by rw [F_NH_argument.eq_1, if_neg c769, if_neg c772, if_neg c810, if_pos c813])), (show True ∧ S_NH_argument_J24 x2 x3 t0_0 t0_1 t0_2 t0_3 t1_0 t2_0 t3_0 t4_0 t5_0 t6_0 t7_0 t8_0 t9_0 t10_0 t11_0 t12_0 t13_0 t14_0 t15_0 t16_0 t17_0 t18_0 t19_0 t20_0 t21_0 t22_0 t23_0 t24_0 t24_1 t25_0 t26_0 t26_1 t27_0 t27_1 t28_0 from (by have h := hS; rw [S_NH_argument.eq_1] at h; rw [if_neg c769] at h; rw [if_neg c772] at h; rw [if_neg c810] at h; rw [if_pos c813] at h; with_reducible exact h))⟩
              ·
                exact J763 (()) _ _ _ ws ⟨V, q_lw hl (q_lw1 0 rfl (q_lw1 1 rfl (q_lw1 2 rfl q_lw0))), (show F_NH_argument_J20 x2 x3 t0_0 t0_1 t0_2 t0_3 t1_0 t2_0 t3_0 t4_0 t5_0 t6_0 t7_0 t8_0 t9_0 t10_0 t11_0 t12_0 t13_0 t14_0 t15_0 t16_0 t17_0 t18_0 t19_0 t20_0 t21_0 t22_0 t23_0 t24_0 t24_1 t25_0 t26_0 t26_1 t27_0 t27_1 t28_0 = (F_NH_argument x2 x3 t0_0 t0_1 t0_2 t0_3 t1_0 t2_0 t3_0 t4_0 t5_0 t6_0 t7_0 t8_0 t9_0 t10_0 t11_0 t12_0 t13_0 t14_0 t15_0 t16_0 t17_0 t18_0 t19_0 t20_0 t21_0 t22_0 t23_0 t24_0 t24_1 t25_0 t26_0 t26_1 t27_0 t27_1 t28_0) from (by rw [F_NH_argument.eq_1, if_neg c769, if_neg c772, if_neg c810, if_neg c813])), (show True ∧ S_NH_argument_J20 x2 x3 t0_0 t0_1 t0_2 t0_3 t1_0 t2_0 t3_0 t4_0 t5_0 t6_0 t7_0 t8_0 t9_0 t10_0 t11_0 t12_0 t13_0 t14_0 t15_0 t16_0 t17_0 t18_0 t19_0 t20_0 t21_0 t22_0 t23_0 t24_0 t24_1 t25_0 t26_0 t26_1 t27_0 t27_1 t28_0 from (by have h := hS; rw [S_NH_argument.eq_1] at h; rw [if_neg c769] at h; rw [if_neg c772] at h; rw [if_neg c810] at h; rw [if_neg c813] at h; with_reducible exact h))⟩

/-! NumberHouse, exactly: t2.format -/
theorem d_1_20_0 : decode prog_1_method_20_code 0 = .ok (.aload_n 0, 1) := by decide +kernel
theorem d_1_20_1 : decode prog_1_method_20_code 1 = .ok (.getfield 14, 3) := by decide +kernel
theorem d_1_20_4 : decode prog_1_method_20_code 4 = .ok (.getfield 108, 3) := by decide +kernel
theorem d_1_20_7 : decode prog_1_method_20_code 7 = .ok (.sipush 256, 3) := by decide +kernel
theorem d_1_20_10 : decode prog_1_method_20_code 10 = .ok (.if_icmp .le 14, 3) := by decide +kernel
theorem d_1_20_24 : decode prog_1_method_20_code 24 = .ok (.aload_n 0, 1) := by decide +kernel
theorem d_1_20_25 : decode prog_1_method_20_code 25 = .ok (.getfield 98, 3) := by decide +kernel
theorem d_1_20_28 : decode prog_1_method_20_code 28 = .ok (.aload_n 0, 1) := by decide +kernel
theorem d_1_20_29 : decode prog_1_method_20_code 29 = .ok (.getfield 18, 3) := by decide +kernel
theorem d_1_20_32 : decode prog_1_method_20_code 32 = .ok (.invokevirtual 362, 3) := by decide +kernel
set_option maxRecDepth 100000 in
theorem w_1734 : (Cond.code ({ cls := "NumberHouse$Printer", name := "run", desc := "(LNumberHouse$Sheet;)I" } : MethodName) prog_9_method_5_code (6 : Nat) (some .int)) ∈ q_tbl := q_of8 54 rfl (by decide +kernel)
set_option maxRecDepth 100000 in
theorem w_1731 : (Cond.methodLink "NumberHouse" (362 : Nat) ({ cls := "NumberHouse$Printer", name := "run", desc := "(LNumberHouse$Sheet;)I" } : MethodName)) ∈ q_tbl := q_of8 51 rfl (by decide +kernel)
set_option maxRecDepth 100000 in
theorem w_1732 : (Cond.instanceMethod ({ cls := "NumberHouse$Printer", name := "run", desc := "(LNumberHouse$Sheet;)I" } : MethodName)) ∈ q_tbl := q_of8 52 rfl (by decide +kernel)
set_option maxRecDepth 100000 in
theorem w_1733 : (Cond.selects "NumberHouse$Printer" ({ cls := "NumberHouse$Printer", name := "run", desc := "(LNumberHouse$Sheet;)I" } : MethodName) ({ cls := "NumberHouse$Printer", name := "run", desc := "(LNumberHouse$Sheet;)I" } : MethodName)) ∈ q_tbl := q_of8 53 rfl (by decide +kernel)
theorem LV_NH_362 : q_LV "NumberHouse" 362 y_Pri_run prog_9_method_5_code 6 (some .int) 1 := ⟨w_1734, w_12, w_1731, w_1732, w_1733, ⟨by decide, by decide, by decide +kernel⟩⟩
theorem d_1_20_35 : decode prog_1_method_20_code 35 = .ok (.istore_n 1, 1) := by decide +kernel
theorem d_1_20_36 : decode prog_1_method_20_code 36 = .ok (.iload_n 1, 1) := by decide +kernel
theorem d_1_20_37 : decode prog_1_method_20_code 37 = .ok (.ifCond .lt 10, 3) := by decide +kernel
theorem d_1_20_47 : decode prog_1_method_20_code 47 = .ok (.iload_n 1, 1) := by decide +kernel
theorem d_1_20_48 : decode prog_1_method_20_code 48 = .ok (.ireturn, 1) := by decide +kernel
theorem d_1_20_40 : decode prog_1_method_20_code 40 = .ok (.aload_n 0, 1) := by decide +kernel
theorem d_1_20_41 : decode prog_1_method_20_code 41 = .ok (.getfield 14, 3) := by decide +kernel
theorem d_1_20_44 : decode prog_1_method_20_code 44 = .ok (.invokevirtual 115, 3) := by decide +kernel
theorem d_1_20_13 : decode prog_1_method_20_code 13 = .ok (.new 350, 3) := by decide +kernel
theorem d_1_20_16 : decode prog_1_method_20_code 16 = .ok (.dup, 1) := by decide +kernel
theorem d_1_20_17 : decode prog_1_method_20_code 17 = .ok (.ldc_w 360, 3) := by decide +kernel
theorem d_1_20_20 : decode prog_1_method_20_code 20 = .ok (.invokespecial 354, 3) := by decide +kernel
theorem d_1_20_23 : decode prog_1_method_20_code 23 = .ok (.athrow, 1) := by decide +kernel
set_option maxRecDepth 100000 in
theorem wo_1730 : (Cond.stringRef "NumberHouse" (360 : Nat) "the tape has more than 256 bytes") ∈ q_odd := q_oo8 50 rfl (by decide +kernel)
def y_NH_format : MethodName := ⟨"NumberHouse", "format", "()I"⟩
def F_NH_format_c32 (t0_0 : Int32) (t1_0 : (Nat → Int64)) (t2_0 : Int32) (t3_0 : (Nat → Int64)) (t4_0 : Int32) (t4_1 : Int32) (t4_2 : Int32) (t4_3 : Int32) (t5_0 : (Nat → Int32)) (t6_0 : (Nat → Int64)) (t7_0 : (Nat → Int32)) (t8_0 : Int32) (t8_1 : Int32) (t9_0 : (Nat → Int32)) (t10_0 : Int32) (t11_0 : (Nat → Int64)) (t12_0 : Int32) (t12_1 : Int32) (t12_2 : Int32) (t12_3 : Int32) (t12_4 : Int32) (t12_5 : Int32) (t12_6 : Int32) (t13_0 : Int32) (t14_0 : (Nat → Int64)) (t15_0 : Int32) (t16_0 : (Nat → Int64)) (t17_0 : Int32) (t18_0 : (Nat → Int64)) (t19_0 : Int32) (t20_0 : (Nat → Int64)) (t21_0 : Int32) (t22_0 : (Nat → Int64)) (t23_0 : Int32) (t24_0 : (Nat → Int64)) (t25_0 : Int32) (t26_0 : (Nat → Int64)) (t27_0 : Int32) (t28_0 : (Nat → Int64)) (t29_0 : Int32) (t30_0 : (Nat → Int64)) (p147 : (Int32 × Int32 × (Nat → Int64) × Int32 × Int32 × Int32 × Int32 × Int32 × Int32 × (Nat → Int32) × Int32 × (Nat → Int64) × Int32 × Int32 × Int32 × Int32 × Int32 × Int32 × Int32)) : Int32 × Int32 × Int32 × Int32 × (Nat → Int64) × Int32 × Int32 × Int32 × Int32 × Int32 × Int32 × (Nat → Int32) × Int32 × (Nat → Int64) × Int32 × Int32 × Int32 × Int32 × Int32 × Int32 × Int32 := if (p147.1 : Int32) < (0 : Int32) then (((0 : Int32), (p147.1 : Int32), t0_0, (p147.2.1 : Int32), (p147.2.2.1 : (Nat → Int64)), (p147.2.2.2.1 : Int32), (p147.2.2.2.2.1 : Int32), (p147.2.2.2.2.2.1 : Int32), (p147.2.2.2.2.2.2.1 : Int32), (p147.2.2.2.2.2.2.2.1 : Int32), (p147.2.2.2.2.2.2.2.2.1 : Int32), (p147.2.2.2.2.2.2.2.2.2.1 : (Nat → Int32)), (p147.2.2.2.2.2.2.2.2.2.2.1 : Int32), (p147.2.2.2.2.2.2.2.2.2.2.2.1 : (Nat → Int64)), (p147.2.2.2.2.2.2.2.2.2.2.2.2.1 : Int32), (p147.2.2.2.2.2.2.2.2.2.2.2.2.2.1 : Int32), (p147.2.2.2.2.2.2.2.2.2.2.2.2.2.2.1 : Int32), (p147.2.2.2.2.2.2.2.2.2.2.2.2.2.2.2.1 : Int32), (p147.2.2.2.2.2.2.2.2.2.2.2.2.2.2.2.2.1 : Int32), (p147.2.2.2.2.2.2.2.2.2.2.2.2.2.2.2.2.2.1 : Int32), (p147.2.2.2.2.2.2.2.2.2.2.2.2.2.2.2.2.2.2 : Int32))) else (((0 : Int32), (p147.1 : Int32), ((F_She_clear (4100 : Int32) (513 : Int32) (4100 : Int32) t0_0) : Int32), (p147.2.1 : Int32), (p147.2.2.1 : (Nat → Int64)), (p147.2.2.2.1 : Int32), (p147.2.2.2.2.1 : Int32), (p147.2.2.2.2.2.1 : Int32), (p147.2.2.2.2.2.2.1 : Int32), (p147.2.2.2.2.2.2.2.1 : Int32), (p147.2.2.2.2.2.2.2.2.1 : Int32), (p147.2.2.2.2.2.2.2.2.2.1 : (Nat → Int32)), (p147.2.2.2.2.2.2.2.2.2.2.1 : Int32), (p147.2.2.2.2.2.2.2.2.2.2.2.1 : (Nat → Int64)), (p147.2.2.2.2.2.2.2.2.2.2.2.2.1 : Int32), (p147.2.2.2.2.2.2.2.2.2.2.2.2.2.1 : Int32), (p147.2.2.2.2.2.2.2.2.2.2.2.2.2.2.1 : Int32), (p147.2.2.2.2.2.2.2.2.2.2.2.2.2.2.2.1 : Int32), (p147.2.2.2.2.2.2.2.2.2.2.2.2.2.2.2.2.1 : Int32), (p147.2.2.2.2.2.2.2.2.2.2.2.2.2.2.2.2.2.1 : Int32), (p147.2.2.2.2.2.2.2.2.2.2.2.2.2.2.2.2.2.2 : Int32)))
def F_NH_format (t0_0 : Int32) (t1_0 : (Nat → Int64)) (t2_0 : Int32) (t3_0 : (Nat → Int64)) (t4_0 : Int32) (t4_1 : Int32) (t4_2 : Int32) (t4_3 : Int32) (t5_0 : (Nat → Int32)) (t6_0 : (Nat → Int64)) (t7_0 : (Nat → Int32)) (t8_0 : Int32) (t8_1 : Int32) (t9_0 : (Nat → Int32)) (t10_0 : Int32) (t11_0 : (Nat → Int64)) (t12_0 : Int32) (t12_1 : Int32) (t12_2 : Int32) (t12_3 : Int32) (t12_4 : Int32) (t12_5 : Int32) (t12_6 : Int32) (t13_0 : Int32) (t14_0 : (Nat → Int64)) (t15_0 : Int32) (t16_0 : (Nat → Int64)) (t17_0 : Int32) (t18_0 : (Nat → Int64)) (t19_0 : Int32) (t20_0 : (Nat → Int64)) (t21_0 : Int32) (t22_0 : (Nat → Int64)) (t23_0 : Int32) (t24_0 : (Nat → Int64)) (t25_0 : Int32) (t26_0 : (Nat → Int64)) (t27_0 : Int32) (t28_0 : (Nat → Int64)) (t29_0 : Int32) (t30_0 : (Nat → Int64)) : Int32 × Int32 × Int32 × Int32 × (Nat → Int64) × Int32 × Int32 × Int32 × Int32 × Int32 × Int32 × (Nat → Int32) × Int32 × (Nat → Int64) × Int32 × Int32 × Int32 × Int32 × Int32 × Int32 × Int32 := if t0_0 ≤ (256 : Int32) then (F_NH_format_c32 t0_0 t1_0 t2_0 t3_0 t4_0 t4_1 t4_2 t4_3 t5_0 t6_0 t7_0 t8_0 t8_1 t9_0 t10_0 t11_0 t12_0 t12_1 t12_2 t12_3 t12_4 t12_5 t12_6 t13_0 t14_0 t15_0 t16_0 t17_0 t18_0 t19_0 t20_0 t21_0 t22_0 t23_0 t24_0 t25_0 t26_0 t27_0 t28_0 t29_0 t30_0 ((F_Pri_run t0_0 t1_0 t2_0 t3_0 t4_0 t4_1 t4_2 t4_3 t5_0 t6_0 t7_0 t8_0 t8_1 t9_0 t10_0 t11_0 t12_0 t12_1 t12_2 t12_3 t12_4 t12_5 t12_6 t13_0 t14_0 t15_0 t16_0 t17_0 t18_0 t19_0 t20_0 t21_0 t22_0 t23_0 t24_0 t25_0 t26_0 t27_0 t28_0 t29_0 t30_0) : (Int32 × Int32 × (Nat → Int64) × Int32 × Int32 × Int32 × Int32 × Int32 × Int32 × (Nat → Int32) × Int32 × (Nat → Int64) × Int32 × Int32 × Int32 × Int32 × Int32 × Int32 × Int32))) else (((3 : Int32), (0 : Int32), t0_0, t2_0, t3_0, t4_0, t4_1, t4_2, t4_3, t8_0, t8_1, t9_0, t10_0, t11_0, t12_0, t12_1, t12_2, t12_3, t12_4, t12_5, t12_6))
def S_NH_format_c32 (t0_0 : Int32) (t1_0 : (Nat → Int64)) (t2_0 : Int32) (t3_0 : (Nat → Int64)) (t4_0 : Int32) (t4_1 : Int32) (t4_2 : Int32) (t4_3 : Int32) (t5_0 : (Nat → Int32)) (t6_0 : (Nat → Int64)) (t7_0 : (Nat → Int32)) (t8_0 : Int32) (t8_1 : Int32) (t9_0 : (Nat → Int32)) (t10_0 : Int32) (t11_0 : (Nat → Int64)) (t12_0 : Int32) (t12_1 : Int32) (t12_2 : Int32) (t12_3 : Int32) (t12_4 : Int32) (t12_5 : Int32) (t12_6 : Int32) (t13_0 : Int32) (t14_0 : (Nat → Int64)) (t15_0 : Int32) (t16_0 : (Nat → Int64)) (t17_0 : Int32) (t18_0 : (Nat → Int64)) (t19_0 : Int32) (t20_0 : (Nat → Int64)) (t21_0 : Int32) (t22_0 : (Nat → Int64)) (t23_0 : Int32) (t24_0 : (Nat → Int64)) (t25_0 : Int32) (t26_0 : (Nat → Int64)) (t27_0 : Int32) (t28_0 : (Nat → Int64)) (t29_0 : Int32) (t30_0 : (Nat → Int64)) (p147 : (Int32 × Int32 × (Nat → Int64) × Int32 × Int32 × Int32 × Int32 × Int32 × Int32 × (Nat → Int32) × Int32 × (Nat → Int64) × Int32 × Int32 × Int32 × Int32 × Int32 × Int32 × Int32)) : Prop := if (p147.1 : Int32) < (0 : Int32) then (True) else (True)
def S_NH_format (t0_0 : Int32) (t1_0 : (Nat → Int64)) (t2_0 : Int32) (t3_0 : (Nat → Int64)) (t4_0 : Int32) (t4_1 : Int32) (t4_2 : Int32) (t4_3 : Int32) (t5_0 : (Nat → Int32)) (t6_0 : (Nat → Int64)) (t7_0 : (Nat → Int32)) (t8_0 : Int32) (t8_1 : Int32) (t9_0 : (Nat → Int32)) (t10_0 : Int32) (t11_0 : (Nat → Int64)) (t12_0 : Int32) (t12_1 : Int32) (t12_2 : Int32) (t12_3 : Int32) (t12_4 : Int32) (t12_5 : Int32) (t12_6 : Int32) (t13_0 : Int32) (t14_0 : (Nat → Int64)) (t15_0 : Int32) (t16_0 : (Nat → Int64)) (t17_0 : Int32) (t18_0 : (Nat → Int64)) (t19_0 : Int32) (t20_0 : (Nat → Int64)) (t21_0 : Int32) (t22_0 : (Nat → Int64)) (t23_0 : Int32) (t24_0 : (Nat → Int64)) (t25_0 : Int32) (t26_0 : (Nat → Int64)) (t27_0 : Int32) (t28_0 : (Nat → Int64)) (t29_0 : Int32) (t30_0 : (Nat → Int64)) : Prop := if t0_0 ≤ (256 : Int32) then ((True ∧ S_Pri_run t0_0 t1_0 t2_0 t3_0 t4_0 t4_1 t4_2 t4_3 t5_0 t6_0 t7_0 t8_0 t8_1 t9_0 t10_0 t11_0 t12_0 t12_1 t12_2 t12_3 t12_4 t12_5 t12_6 t13_0 t14_0 t15_0 t16_0 t17_0 t18_0 t19_0 t20_0 t21_0 t22_0 t23_0 t24_0 t25_0 t26_0 t27_0 t28_0 t29_0 t30_0) ∧ (S_NH_format_c32 t0_0 t1_0 t2_0 t3_0 t4_0 t4_1 t4_2 t4_3 t5_0 t6_0 t7_0 t8_0 t8_1 t9_0 t10_0 t11_0 t12_0 t12_1 t12_2 t12_3 t12_4 t12_5 t12_6 t13_0 t14_0 t15_0 t16_0 t17_0 t18_0 t19_0 t20_0 t21_0 t22_0 t23_0 t24_0 t25_0 t26_0 t27_0 t28_0 t29_0 t30_0 ((F_Pri_run t0_0 t1_0 t2_0 t3_0 t4_0 t4_1 t4_2 t4_3 t5_0 t6_0 t7_0 t8_0 t8_1 t9_0 t10_0 t11_0 t12_0 t12_1 t12_2 t12_3 t12_4 t12_5 t12_6 t13_0 t14_0 t15_0 t16_0 t17_0 t18_0 t19_0 t20_0 t21_0 t22_0 t23_0 t24_0 t25_0 t26_0 t27_0 t28_0 t29_0 t30_0) : (Int32 × Int32 × (Nat → Int64) × Int32 × Int32 × Int32 × Int32 × Int32 × Int32 × (Nat → Int32) × Int32 × (Nat → Int64) × Int32 × Int32 × Int32 × Int32 × Int32 × Int32 × Int32)))) else (True)
set_option maxRecDepth 100000 in
set_option maxHeartbeats 4000000 in
theorem X_NH_format (l : Launch) (D : va_G) (g : Nat → ClassId) (q : Nat → Nat) (ws : va_W) (hlt : l.stackTraces = false) (hI : q_I (nsh g q) q ws) (t0_0 : Int32) (hT0 : ws[1]? = (some (q 1, .inr (1, [.ref (q 2), .int 4100, .int t0_0])) : Option (Nat × va_E))) (t1_0 : (Nat → Int64)) (hT1 : ws[2]? = (some (q 2, .inl (g 1, (513 : Int32).toNatClampNeg, .inr (.inl t1_0))) : Option (Nat × va_E))) (t2_0 : Int32) (hT2 : ws[3]? = (some (q 3, .inr (1, [.ref (q 4), .int 11008, .int t2_0])) : Option (Nat × va_E))) (t3_0 : (Nat → Int64)) (hT3 : ws[4]? = (some (q 4, .inl (g 1, (1376 : Int32).toNatClampNeg, .inr (.inl t3_0))) : Option (Nat × va_E))) (t4_0 : Int32) (t4_1 : Int32) (t4_2 : Int32) (t4_3 : Int32) (hT4 : ws[40]? = (some (q 40, .inr (11, [.int t4_0, .ref (q 41), .ref (q 42), .ref (q 43), .ref (q 44), .ref (q 1), .ref (q 47), .ref (q 36), .ref (q 45), .int t4_1, .int t4_2, .int t4_3])) : Option (Nat × va_E))) (t5_0 : (Nat → Int32)) (hT5 : ws[41]? = (some (q 41, .inl (g 0, 9, .inl t5_0)) : Option (Nat × va_E))) (t6_0 : (Nat → Int64)) (hT6 : ws[42]? = (some (q 42, .inl (g 1, 9, .inr (.inl t6_0))) : Option (Nat × va_E))) (t7_0 : (Nat → Int32)) (hT7 : ws[43]? = (some (q 43, .inl (g 0, 9, .inl t7_0)) : Option (Nat × va_E))) (t8_0 : Int32) (t8_1 : Int32) (hT8 : ws[36]? = (some (q 36, .inr (7, [.int t8_0, .int t8_1, .ref (q 37)])) : Option (Nat × va_E))) (t9_0 : (Nat → Int32)) (hT9 : ws[37]? = (some (q 37, .inl (g 2, 1026, .inl t9_0)) : Option (Nat × va_E))) (t10_0 : Int32) (hT10 : ws[45]? = (some (q 45, .inr (1, [.ref (q 46), .int 4104, .int t10_0])) : Option (Nat × va_E))) (t11_0 : (Nat → Int64)) (hT11 : ws[46]? = (some (q 46, .inl (g 1, (513 : Int32).toNatClampNeg, .inr (.inl t11_0))) : Option (Nat × va_E))) (t12_0 : Int32) (t12_1 : Int32) (t12_2 : Int32) (t12_3 : Int32) (t12_4 : Int32) (t12_5 : Int32) (t12_6 : Int32) (hT12 : ws[47]? = (some (q 47, .inr (10, [.int t12_0, .int t12_1, .int t12_2, .int t12_3, .int t12_4, .int t12_5, .ref (q 1), .int t12_6])) : Option (Nat × va_E))) (t13_0 : Int32) (hT13 : ws[48]? = (some (q 48, .inr (1, [.ref (q 49), .int 64, .int t13_0])) : Option (Nat × va_E))) (t14_0 : (Nat → Int64)) (hT14 : ws[49]? = (some (q 49, .inl (g 1, (8 : Int32).toNatClampNeg, .inr (.inl t14_0))) : Option (Nat × va_E))) (t15_0 : Int32) (hT15 : ws[50]? = (some (q 50, .inr (1, [.ref (q 51), .int 64, .int t15_0])) : Option (Nat × va_E))) (t16_0 : (Nat → Int64)) (hT16 : ws[51]? = (some (q 51, .inl (g 1, (8 : Int32).toNatClampNeg, .inr (.inl t16_0))) : Option (Nat × va_E))) (t17_0 : Int32) (hT17 : ws[52]? = (some (q 52, .inr (1, [.ref (q 53), .int 64, .int t17_0])) : Option (Nat × va_E))) (t18_0 : (Nat → Int64)) (hT18 : ws[53]? = (some (q 53, .inl (g 1, (8 : Int32).toNatClampNeg, .inr (.inl t18_0))) : Option (Nat × va_E))) (t19_0 : Int32) (hT19 : ws[54]? = (some (q 54, .inr (1, [.ref (q 55), .int 64, .int t19_0])) : Option (Nat × va_E))) (t20_0 : (Nat → Int64)) (hT20 : ws[55]? = (some (q 55, .inl (g 1, (8 : Int32).toNatClampNeg, .inr (.inl t20_0))) : Option (Nat × va_E))) (t21_0 : Int32) (hT21 : ws[56]? = (some (q 56, .inr (1, [.ref (q 57), .int 64, .int t21_0])) : Option (Nat × va_E))) (t22_0 : (Nat → Int64)) (hT22 : ws[57]? = (some (q 57, .inl (g 1, (8 : Int32).toNatClampNeg, .inr (.inl t22_0))) : Option (Nat × va_E))) (t23_0 : Int32) (hT23 : ws[58]? = (some (q 58, .inr (1, [.ref (q 59), .int 64, .int t23_0])) : Option (Nat × va_E))) (t24_0 : (Nat → Int64)) (hT24 : ws[59]? = (some (q 59, .inl (g 1, (8 : Int32).toNatClampNeg, .inr (.inl t24_0))) : Option (Nat × va_E))) (t25_0 : Int32) (hT25 : ws[60]? = (some (q 60, .inr (1, [.ref (q 61), .int 64, .int t25_0])) : Option (Nat × va_E))) (t26_0 : (Nat → Int64)) (hT26 : ws[61]? = (some (q 61, .inl (g 1, (8 : Int32).toNatClampNeg, .inr (.inl t26_0))) : Option (Nat × va_E))) (t27_0 : Int32) (hT27 : ws[62]? = (some (q 62, .inr (1, [.ref (q 63), .int 64, .int t27_0])) : Option (Nat × va_E))) (t28_0 : (Nat → Int64)) (hT28 : ws[63]? = (some (q 63, .inl (g 1, (8 : Int32).toNatClampNeg, .inr (.inl t28_0))) : Option (Nat × va_E))) (t29_0 : Int32) (hT29 : ws[64]? = (some (q 64, .inr (1, [.ref (q 65), .int 64, .int t29_0])) : Option (Nat × va_E))) (t30_0 : (Nat → Int64)) (hT30 : ws[65]? = (some (q 65, .inl (g 1, (8 : Int32).toNatClampNeg, .inr (.inl t30_0))) : Option (Nat × va_E))) (hS : True ∧ S_NH_format t0_0 t1_0 t2_0 t3_0 t4_0 t4_1 t4_2 t4_3 t5_0 t6_0 t7_0 t8_0 t8_1 t9_0 t10_0 t11_0 t12_0 t12_1 t12_2 t12_3 t12_4 t12_5 t12_6 t13_0 t14_0 t15_0 t16_0 t17_0 t18_0 t19_0 t20_0 t21_0 t22_0 t23_0 t24_0 t25_0 t26_0 t27_0 t28_0 t29_0 t30_0) : ∀ sz, q_Mx l y_NH_format prog_1_method_20_code 2 (some .int) 10 1 6 D g [.ref (q 0)] ws sz (va_Qi (fun r u => q_I (nsh g q) q u ∧ q_un ws u [1, 3, 4, 36, 37, 40, 45, 46, 47] ∧ ∃ (u0_0 : Int32) (u2_0 : Int32) (u3_0 : (Nat → Int64)) (u4_0 : Int32) (u4_1 : Int32) (u4_2 : Int32) (u4_3 : Int32) (u8_0 : Int32) (u8_1 : Int32) (u9_0 : (Nat → Int32)) (u10_0 : Int32) (u11_0 : (Nat → Int64)) (u12_0 : Int32) (u12_1 : Int32) (u12_2 : Int32) (u12_3 : Int32) (u12_4 : Int32) (u12_5 : Int32) (u12_6 : Int32), u[1]? = (some (q 1, .inr (1, [.ref (q 2), .int 4100, .int u0_0])) : Option (Nat × va_E)) ∧ u[3]? = (some (q 3, .inr (1, [.ref (q 4), .int 11008, .int u2_0])) : Option (Nat × va_E)) ∧ u[4]? = (some (q 4, .inl (g 1, (1376 : Int32).toNatClampNeg, .inr (.inl u3_0))) : Option (Nat × va_E)) ∧ u[40]? = (some (q 40, .inr (11, [.int u4_0, .ref (q 41), .ref (q 42), .ref (q 43), .ref (q 44), .ref (q 1), .ref (q 47), .ref (q 36), .ref (q 45), .int u4_1, .int u4_2, .int u4_3])) : Option (Nat × va_E)) ∧ u[36]? = (some (q 36, .inr (7, [.int u8_0, .int u8_1, .ref (q 37)])) : Option (Nat × va_E)) ∧ u[37]? = (some (q 37, .inl (g 2, 1026, .inl u9_0)) : Option (Nat × va_E)) ∧ u[45]? = (some (q 45, .inr (1, [.ref (q 46), .int 4104, .int u10_0])) : Option (Nat × va_E)) ∧ u[46]? = (some (q 46, .inl (g 1, (513 : Int32).toNatClampNeg, .inr (.inl u11_0))) : Option (Nat × va_E)) ∧ u[47]? = (some (q 47, .inr (10, [.int u12_0, .int u12_1, .int u12_2, .int u12_3, .int u12_4, .int u12_5, .ref (q 1), .int u12_6])) : Option (Nat × va_E)) ∧ (r.toInt ≤ 2147482648) ∧ (0 ≤ u0_0.toInt) ∧ (u0_0.toInt ≤ 256) ∧ (0 ≤ u2_0.toInt) ∧ (u2_0.toInt ≤ 1000000) ∧ (0 ≤ u4_1.toInt + 1000000) ∧ (u4_1.toInt ≤ 1000000) ∧ (0 ≤ u10_0.toInt + 1000000) ∧ (u10_0.toInt ≤ 1000000) ∧ (0 ≤ u12_2.toInt + 1) ∧ (u12_2.toInt ≤ 9999) ∧ (0 ≤ u12_3.toInt + 1) ∧ (u12_3.toInt ≤ 9999) ∧ (0 ≤ u12_6.toInt) ∧ (u12_6.toInt ≤ 1) ∧ (t0_0.toInt ≤ u0_0.toInt + 256) ∧ (u0_0.toInt ≤ t0_0.toInt) ∧ (t0_0.toInt ≤ u2_0.toInt + 256) ∧ (t0_0.toInt ≤ u4_1.toInt + 1000256) ∧ (t0_0.toInt ≤ u10_0.toInt + 1000256) ∧ (t0_0.toInt ≤ u12_2.toInt + 257) ∧ (t0_0.toInt ≤ u12_3.toInt + 257) ∧ (t0_0.toInt ≤ u12_6.toInt + 256) ∧ (u2_0.toInt ≤ r.toInt + 12255) ∧ (u4_1.toInt ≤ r.toInt + 1000000) ∧ (u10_0.toInt ≤ r.toInt + 1000000) ∧ ((0 : Int32), r, u0_0, u2_0, u3_0, u4_0, u4_1, u4_2, u4_3, u8_0, u8_1, u9_0, u10_0, u11_0, u12_0, u12_1, u12_2, u12_3, u12_4, u12_5, u12_6) = (F_NH_format t0_0 t1_0 t2_0 t3_0 t4_0 t4_1 t4_2 t4_3 t5_0 t6_0 t7_0 t8_0 t8_1 t9_0 t10_0 t11_0 t12_0 t12_1 t12_2 t12_3 t12_4 t12_5 t12_6 t13_0 t14_0 t15_0 t16_0 t17_0 t18_0 t19_0 t20_0 t21_0 t22_0 t23_0 t24_0 t25_0 t26_0 t27_0 t28_0 t29_0 t30_0)) (q_B D g (va_A ws sz)) (va_A ws sz)) (fun E u => ∃ c : Int32, E = qE c ∧ c ≠ 0 ∧ q_I (nsh g q) q u ∧ q_un ws u [1, 3, 4, 36, 37, 40, 45, 46, 47] ∧ ∃ (u0_0 : Int32) (u2_0 : Int32) (u3_0 : (Nat → Int64)) (u4_0 : Int32) (u4_1 : Int32) (u4_2 : Int32) (u4_3 : Int32) (u8_0 : Int32) (u8_1 : Int32) (u9_0 : (Nat → Int32)) (u10_0 : Int32) (u11_0 : (Nat → Int64)) (u12_0 : Int32) (u12_1 : Int32) (u12_2 : Int32) (u12_3 : Int32) (u12_4 : Int32) (u12_5 : Int32) (u12_6 : Int32), u[1]? = (some (q 1, .inr (1, [.ref (q 2), .int 4100, .int u0_0])) : Option (Nat × va_E)) ∧ u[3]? = (some (q 3, .inr (1, [.ref (q 4), .int 11008, .int u2_0])) : Option (Nat × va_E)) ∧ u[4]? = (some (q 4, .inl (g 1, (1376 : Int32).toNatClampNeg, .inr (.inl u3_0))) : Option (Nat × va_E)) ∧ u[40]? = (some (q 40, .inr (11, [.int u4_0, .ref (q 41), .ref (q 42), .ref (q 43), .ref (q 44), .ref (q 1), .ref (q 47), .ref (q 36), .ref (q 45), .int u4_1, .int u4_2, .int u4_3])) : Option (Nat × va_E)) ∧ u[36]? = (some (q 36, .inr (7, [.int u8_0, .int u8_1, .ref (q 37)])) : Option (Nat × va_E)) ∧ u[37]? = (some (q 37, .inl (g 2, 1026, .inl u9_0)) : Option (Nat × va_E)) ∧ u[45]? = (some (q 45, .inr (1, [.ref (q 46), .int 4104, .int u10_0])) : Option (Nat × va_E)) ∧ u[46]? = (some (q 46, .inl (g 1, (513 : Int32).toNatClampNeg, .inr (.inl u11_0))) : Option (Nat × va_E)) ∧ u[47]? = (some (q 47, .inr (10, [.int u12_0, .int u12_1, .int u12_2, .int u12_3, .int u12_4, .int u12_5, .ref (q 1), .int u12_6])) : Option (Nat × va_E)) ∧ (c, (0 : Int32), u0_0, u2_0, u3_0, u4_0, u4_1, u4_2, u4_3, u8_0, u8_1, u9_0, u10_0, u11_0, u12_0, u12_1, u12_2, u12_3, u12_4, u12_5, u12_6) = (F_NH_format t0_0 t1_0 t2_0 t3_0 t4_0 t4_1 t4_2 t4_3 t5_0 t6_0 t7_0 t8_0 t8_1 t9_0 t10_0 t11_0 t12_0 t12_1 t12_2 t12_3 t12_4 t12_5 t12_6 t13_0 t14_0 t15_0 t16_0 t17_0 t18_0 t19_0 t20_0 t21_0 t22_0 t23_0 t24_0 t25_0 t26_0 t27_0 t28_0 t29_0 t30_0)) := by
  intro sz
  refine q_intoX (by decide) (Nat.le_of_ble_eq_true rfl) ?_
  intro p e s m below meth c ls hsz C0 V hno hl
  have hx := C0.1
  have hb := C0.2.1
  have btt0_0 := n_shW hI (n_h1 g q) hT0
  replace btt0_0 : q_F (0 ≤ t0_0.toInt ∧ t0_0.toInt ≤ 4100) := btt0_0
  have btt2_0 := n_shW hI (n_h3 g q) hT2
  clear btt2_0
  have hZ9 := (n_w40 hI hT4).2
  obtain ⟨-, btt4_3⟩ := hZ9
  clear btt4_3
  have btt8_1 := (n_w36 hI hT8).2
  clear btt8_1
  have btt10_0 := n_shW hI (n_h45 g q) hT10
  clear btt10_0
  have hZ9 := (n_w47 hI hT12).2
  obtain ⟨-, btt12_6⟩ := hZ9
  clear btt12_6
  have btt13_0 := n_shW hI (n_h48 g q) hT13
  clear btt13_0
  have btt15_0 := n_shW hI (n_h50 g q) hT15
  clear btt15_0
  have btt17_0 := n_shW hI (n_h52 g q) hT17
  clear btt17_0
  have btt19_0 := n_shW hI (n_h54 g q) hT19
  clear btt19_0
  have btt21_0 := n_shW hI (n_h56 g q) hT21
  clear btt21_0
  have btt23_0 := n_shW hI (n_h58 g q) hT23
  clear btt23_0
  have btt25_0 := n_shW hI (n_h60 g q) hT25
  clear btt25_0
  have btt27_0 := n_shW hI (n_h62 g q) hT27
  clear btt27_0
  have btt29_0 := n_shW hI (n_h64 g q) hT29
  clear btt29_0
  have hF : q_un ws ws [1, 3, 4, 36, 37, 40, 45, 46, 47] := q_u0
  have hl : lv_has ls 2 [(0, .ref (q 0))] := hl
  refine lv_aload_n hx hb d_1_20_0 rfl (lv_at hl 0 rfl) ?_
  have hO96 := n_o0 hI
  refine q_get (ci := 0) (j := 0) (v := .ref (q 1)) C0 V i_NH rfl rfl hO96 (by decide) w_424 rfl d_1_20_1 ?_
  refine q_get (ci := 1) (j := 2) (v := .int t0_0) C0 V i_She rfl rfl hT0 (by decide) w_56 rfl d_1_20_4 ?_
  refine lv_sipush (v := 256) hx hb d_1_20_7 (by decide) ?_
  refine lv_icmp_le (tgt := 24) hx hb d_1_20_10 (by decide) (fun c97 => ?_) (fun c97 => ?_)
  ·
    have b98 : q_F (t0_0.toInt ≤ 256) := (q_leI c97)
    refine lv_aload_n hx hb d_1_20_24 rfl (lv_at hl 0 rfl) ?_
    refine q_get (ci := 0) (j := 13) (v := .ref (q 40)) C0 V i_NH rfl rfl hO96 (by decide) w_437 rfl d_1_20_25 ?_
    refine lv_aload_n hx hb d_1_20_28 rfl (lv_at hl 0 rfl) ?_
    refine q_get (ci := 0) (j := 1) (v := .ref (q 3)) C0 V i_NH rfl rfl hO96 (by decide) w_425 rfl d_1_20_29 ?_
    have ob99 : True ∧ S_Pri_run t0_0 t1_0 t2_0 t3_0 t4_0 t4_1 t4_2 t4_3 t5_0 t6_0 t7_0 t8_0 t8_1 t9_0 t10_0 t11_0 t12_0 t12_1 t12_2 t12_3 t12_4 t12_5 t12_6 t13_0 t14_0 t15_0 t16_0 t17_0 t18_0 t19_0 t20_0 t21_0 t22_0 t23_0 t24_0 t25_0 t26_0 t27_0 t28_0 t29_0 t30_0 := (by have h := hS; rw [S_NH_format.eq_1] at h; rw [if_pos c97] at h; with_reducible exact h.2.1)
    refine q_goi V (q_runV (As := [.ref (q 3)]) (rest := []) (d := 9) (mc := 0) (ms := 0) (ci := 11) C0 V rfl LV_NH_362 (X_Pri_run l D g q ws   hI t0_0 hT0 t1_0 hT1 t2_0 hT2 t3_0 hT3 t4_0 t4_1 t4_2 t4_3 hT4 t5_0 hT5 t6_0 hT6 t7_0 hT7 t8_0 t8_1 hT8 t9_0 hT9 t10_0 hT10 t11_0 hT11 t12_0 t12_1 t12_2 t12_3 t12_4 t12_5 t12_6 hT12 t13_0 hT13 t14_0 hT14 t15_0 hT15 t16_0 hT16 t17_0 hT17 t18_0 hT18 t19_0 hT19 t20_0 hT20 t21_0 hT21 t22_0 hT22 t23_0 hT23 t24_0 hT24 t25_0 hT25 t26_0 hT26 t27_0 hT27 t28_0 hT28 t29_0 hT29 t30_0 hT30 (by first | with_reducible exact q_fe b98 | (have t1 : t0_0.toInt ≤ 256 := b98; omega)) ob99 _) rfl rfl hT4 rfl hl.1 rfl (Nat.le_of_ble_eq_true rfl) ⟨by decide, by decide⟩ ⟨Nat.le_of_ble_eq_true rfl, Nat.le_of_ble_eq_true rfl⟩ d_1_20_32) (fun a102 u100 H locs hp101 V => ?_)
    obtain ⟨hI, hZ9⟩ := hp101
    obtain ⟨hu146, hZ9⟩ := hZ9
    obtain ⟨y104, hZ9⟩ := hZ9
    obtain ⟨f105, hZ9⟩ := hZ9
    obtain ⟨y108, hZ9⟩ := hZ9
    obtain ⟨y109, hZ9⟩ := hZ9
    obtain ⟨y110, hZ9⟩ := hZ9
    obtain ⟨y111, hZ9⟩ := hZ9
    obtain ⟨y113, hZ9⟩ := hZ9
    obtain ⟨y114, hZ9⟩ := hZ9
    obtain ⟨f115, hZ9⟩ := hZ9
    obtain ⟨y118, hZ9⟩ := hZ9
    obtain ⟨f119, hZ9⟩ := hZ9
    obtain ⟨y122, hZ9⟩ := hZ9
    obtain ⟨y123, hZ9⟩ := hZ9
    obtain ⟨y124, hZ9⟩ := hZ9
    obtain ⟨y125, hZ9⟩ := hZ9
    obtain ⟨y126, hZ9⟩ := hZ9
    obtain ⟨y127, hZ9⟩ := hZ9
    obtain ⟨y128, hZ9⟩ := hZ9
    obtain ⟨hO103, hZ9⟩ := hZ9
    obtain ⟨hA106, hZ9⟩ := hZ9
    obtain ⟨hO107, hZ9⟩ := hZ9
    obtain ⟨hO112, hZ9⟩ := hZ9
    obtain ⟨hA116, hZ9⟩ := hZ9
    obtain ⟨hO117, hZ9⟩ := hZ9
    obtain ⟨hA120, hZ9⟩ := hZ9
    obtain ⟨hO121, hZ9⟩ := hZ9
    obtain ⟨b129, hZ9⟩ := hZ9
    obtain ⟨b130, hZ9⟩ := hZ9
    obtain ⟨b131, hZ9⟩ := hZ9
    obtain ⟨b132, hZ9⟩ := hZ9
    obtain ⟨b133, hZ9⟩ := hZ9
    obtain ⟨b134, hZ9⟩ := hZ9
    obtain ⟨b135, hZ9⟩ := hZ9
    obtain ⟨b136, hZ9⟩ := hZ9
    obtain ⟨b137, hZ9⟩ := hZ9
    obtain ⟨b138, hZ9⟩ := hZ9
    obtain ⟨b139, hZ9⟩ := hZ9
    obtain ⟨b140, hZ9⟩ := hZ9
    obtain ⟨b141, hZ9⟩ := hZ9
    obtain ⟨b142, hZ9⟩ := hZ9
    obtain ⟨b143, hZ9⟩ := hZ9
    obtain ⟨b144, hE145⟩ := hZ9
    replace hO103 : u100[3]? = (some (q 3, .inr (1, [.ref (q 4), .int 11008, .int y104])) : Option (Nat × va_E)) := hO103
    replace hA106 : u100[4]? = (some (q 4, .inl (g 1, (1376 : Int32).toNatClampNeg, .inr (.inl f105))) : Option (Nat × va_E)) := hA106
    replace hO107 : u100[40]? = (some (q 40, .inr (11, [.int y108, .ref (q 41), .ref (q 42), .ref (q 43), .ref (q 44), .ref (q 1), .ref (q 47), .ref (q 36), .ref (q 45), .int y109, .int y110, .int y111])) : Option (Nat × va_E)) := hO107
    replace hO112 : u100[36]? = (some (q 36, .inr (7, [.int y113, .int y114, .ref (q 37)])) : Option (Nat × va_E)) := hO112
    replace hA116 : u100[37]? = (some (q 37, .inl (g 2, 1026, .inl f115)) : Option (Nat × va_E)) := hA116
    replace hO117 : u100[45]? = (some (q 45, .inr (1, [.ref (q 46), .int 4104, .int y118])) : Option (Nat × va_E)) := hO117
    replace hA120 : u100[46]? = (some (q 46, .inl (g 1, (513 : Int32).toNatClampNeg, .inr (.inl f119))) : Option (Nat × va_E)) := hA120
    replace hO121 : u100[47]? = (some (q 47, .inr (10, [.int y122, .int y123, .int y124, .int y125, .int y126, .int y127, .ref (q 1), .int y128])) : Option (Nat × va_E)) := hO121
    obtain ⟨p147, e148⟩ : ∃ z, z = (F_Pri_run t0_0 t1_0 t2_0 t3_0 t4_0 t4_1 t4_2 t4_3 t5_0 t6_0 t7_0 t8_0 t8_1 t9_0 t10_0 t11_0 t12_0 t12_1 t12_2 t12_3 t12_4 t12_5 t12_6 t13_0 t14_0 t15_0 t16_0 t17_0 t18_0 t19_0 t20_0 t21_0 t22_0 t23_0 t24_0 t25_0 t26_0 t27_0 t28_0 t29_0 t30_0) := ⟨_, rfl⟩
    have e149 : a102 = p147.1 := congrArg (fun z => z.1) (hE145.trans e148.symm)
    have e150 : y104 = p147.2.1 := congrArg (fun z => z.2.1) (hE145.trans e148.symm)
    have e151 : f105 = p147.2.2.1 := congrArg (fun z => z.2.2.1) (hE145.trans e148.symm)
    have e152 : y108 = p147.2.2.2.1 := congrArg (fun z => z.2.2.2.1) (hE145.trans e148.symm)
    have e153 : y109 = p147.2.2.2.2.1 := congrArg (fun z => z.2.2.2.2.1) (hE145.trans e148.symm)
    have e154 : y110 = p147.2.2.2.2.2.1 := congrArg (fun z => z.2.2.2.2.2.1) (hE145.trans e148.symm)
    have e155 : y111 = p147.2.2.2.2.2.2.1 := congrArg (fun z => z.2.2.2.2.2.2.1) (hE145.trans e148.symm)
    have e156 : y113 = p147.2.2.2.2.2.2.2.1 := congrArg (fun z => z.2.2.2.2.2.2.2.1) (hE145.trans e148.symm)
    have e157 : y114 = p147.2.2.2.2.2.2.2.2.1 := congrArg (fun z => z.2.2.2.2.2.2.2.2.1) (hE145.trans e148.symm)
    have e158 : f115 = p147.2.2.2.2.2.2.2.2.2.1 := congrArg (fun z => z.2.2.2.2.2.2.2.2.2.1) (hE145.trans e148.symm)
    have e159 : y118 = p147.2.2.2.2.2.2.2.2.2.2.1 := congrArg (fun z => z.2.2.2.2.2.2.2.2.2.2.1) (hE145.trans e148.symm)
    have e160 : f119 = p147.2.2.2.2.2.2.2.2.2.2.2.1 := congrArg (fun z => z.2.2.2.2.2.2.2.2.2.2.2.1) (hE145.trans e148.symm)
    have e161 : y122 = p147.2.2.2.2.2.2.2.2.2.2.2.2.1 := congrArg (fun z => z.2.2.2.2.2.2.2.2.2.2.2.2.1) (hE145.trans e148.symm)
    have e162 : y123 = p147.2.2.2.2.2.2.2.2.2.2.2.2.2.1 := congrArg (fun z => z.2.2.2.2.2.2.2.2.2.2.2.2.2.1) (hE145.trans e148.symm)
    have e163 : y124 = p147.2.2.2.2.2.2.2.2.2.2.2.2.2.2.1 := congrArg (fun z => z.2.2.2.2.2.2.2.2.2.2.2.2.2.2.1) (hE145.trans e148.symm)
    have e164 : y125 = p147.2.2.2.2.2.2.2.2.2.2.2.2.2.2.2.1 := congrArg (fun z => z.2.2.2.2.2.2.2.2.2.2.2.2.2.2.2.1) (hE145.trans e148.symm)
    have e165 : y126 = p147.2.2.2.2.2.2.2.2.2.2.2.2.2.2.2.2.1 := congrArg (fun z => z.2.2.2.2.2.2.2.2.2.2.2.2.2.2.2.2.1) (hE145.trans e148.symm)
    have e166 : y127 = p147.2.2.2.2.2.2.2.2.2.2.2.2.2.2.2.2.2.1 := congrArg (fun z => z.2.2.2.2.2.2.2.2.2.2.2.2.2.2.2.2.2.1) (hE145.trans e148.symm)
    have e167 : y128 = p147.2.2.2.2.2.2.2.2.2.2.2.2.2.2.2.2.2.2 := congrArg (fun z => z.2.2.2.2.2.2.2.2.2.2.2.2.2.2.2.2.2.2) (hE145.trans e148.symm)
    replace b129 : q_F (a102.toInt ≤ 2147482648) := b129
    replace b130 : q_F (0 ≤ y104.toInt) := b130
    replace b131 : q_F (y104.toInt ≤ 1000000) := b131
    replace b132 : q_F (0 ≤ y109.toInt + 1000000) := b132
    replace b133 : q_F (y109.toInt ≤ 1000000) := b133
    replace b134 : q_F (0 ≤ y118.toInt + 1000000) := b134
    replace b135 : q_F (y118.toInt ≤ 1000000) := b135
    replace b136 : q_F (0 ≤ y124.toInt + 1) := b136
    replace b137 : q_F (y124.toInt ≤ 9999) := b137
    replace b138 : q_F (0 ≤ y125.toInt + 1) := b138
    replace b139 : q_F (y125.toInt ≤ 9999) := b139
    replace b140 : q_F (0 ≤ y128.toInt) := b140
    replace b141 : q_F (y128.toInt ≤ 1) := b141
    replace b142 : q_F (y104.toInt ≤ a102.toInt + 12255) := b142
    replace b143 : q_F (y109.toInt ≤ a102.toInt + 1000000) := b143
    replace b144 : q_F (y118.toInt ≤ a102.toInt + 1000000) := b144
    replace hT0 := (hu146 _ (by decide)).trans hT0
    replace hO96 := (hu146 _ (by decide)).trans hO96
    replace hF := q_uc hF hu146 (by simp)
    have hR168 := (show F_NH_format_c32 t0_0 t1_0 t2_0 t3_0 t4_0 t4_1 t4_2 t4_3 t5_0 t6_0 t7_0 t8_0 t8_1 t9_0 t10_0 t11_0 t12_0 t12_1 t12_2 t12_3 t12_4 t12_5 t12_6 t13_0 t14_0 t15_0 t16_0 t17_0 t18_0 t19_0 t20_0 t21_0 t22_0 t23_0 t24_0 t25_0 t26_0 t27_0 t28_0 t29_0 t30_0 p147 = (F_NH_format t0_0 t1_0 t2_0 t3_0 t4_0 t4_1 t4_2 t4_3 t5_0 t6_0 t7_0 t8_0 t8_1 t9_0 t10_0 t11_0 t12_0 t12_1 t12_2 t12_3 t12_4 t12_5 t12_6 t13_0 t14_0 t15_0 t16_0 t17_0 t18_0 t19_0 t20_0 t21_0 t22_0 t23_0 t24_0 t25_0 t26_0 t27_0 t28_0 t29_0 t30_0) from (by rw [e148, F_NH_format.eq_1, if_pos c97]))
    have hS169 := (show True ∧ S_NH_format_c32 t0_0 t1_0 t2_0 t3_0 t4_0 t4_1 t4_2 t4_3 t5_0 t6_0 t7_0 t8_0 t8_1 t9_0 t10_0 t11_0 t12_0 t12_1 t12_2 t12_3 t12_4 t12_5 t12_6 t13_0 t14_0 t15_0 t16_0 t17_0 t18_0 t19_0 t20_0 t21_0 t22_0 t23_0 t24_0 t25_0 t26_0 t27_0 t28_0 t29_0 t30_0 p147 from (by rw [e148]; have h := hS; rw [S_NH_format.eq_1] at h; rw [if_pos c97] at h; replace h := q_s2 h; with_reducible exact h))
    refine lv_istore_n (lv' := [(1, .int a102), (0, .ref (q 0))]) hx hb d_1_20_35 rfl hl (by decide) rfl (fun ls hl => ?_)
    refine lv_iload_n hx hb d_1_20_36 rfl (lv_at hl 0 rfl) ?_
    refine lv_if_lt (tgt := 47) hx hb d_1_20_37 (by decide) (fun c173 => ?_) (fun c173 => ?_)
    ·
      refine lv_iload_n hx hb d_1_20_47 rfl (lv_at hl 0 rfl) ?_
      refine W.widen (k := 1) (n := 6) (Nat.le_of_ble_eq_true rfl) (Nat.le_of_ble_eq_true rfl) ?_
      exact q_retX (q_reti C0 V (⟨hI, hF, t0_0, y104, f105, y108, y109, y110, y111, y113, y114, f115, y118, f119, y122, y123, y124, y125, y126, y127, y128, hT0, hO103, hA106, hO107, hO112, hA116, hO117, hA120, hO121, (show a102.toInt ≤ 2147482648 from (by first | with_reducible exact q_fe b129 | (have t1 : a102.toInt ≤ 2147482648 := b129; omega))), (show 0 ≤ t0_0.toInt from (by first | with_reducible exact (q_fe btt0_0).2 | with_reducible exact (q_fe btt0_0).1 | (have t1 : 0 ≤ t0_0.toInt ∧ t0_0.toInt ≤ 4100 := btt0_0; omega))), (show t0_0.toInt ≤ 256 from (by first | with_reducible exact q_fe b98 | (have t1 : t0_0.toInt ≤ 256 := b98; omega))), (show 0 ≤ y104.toInt from (by first | with_reducible exact q_fe b130 | (have t1 : 0 ≤ y104.toInt := b130; omega))), (show y104.toInt ≤ 1000000 from (by first | with_reducible exact q_fe b131 | (have t1 : y104.toInt ≤ 1000000 := b131; omega))), (show 0 ≤ y109.toInt + 1000000 from (by first | with_reducible exact q_fe b132 | (have t1 : 0 ≤ y109.toInt + 1000000 := b132; omega))), (show y109.toInt ≤ 1000000 from (by first | with_reducible exact q_fe b133 | (have t1 : y109.toInt ≤ 1000000 := b133; omega))), (show 0 ≤ y118.toInt + 1000000 from (by first | with_reducible exact q_fe b134 | (have t1 : 0 ≤ y118.toInt + 1000000 := b134; omega))), (show y118.toInt ≤ 1000000 from (by first | with_reducible exact q_fe b135 | (have t1 : y118.toInt ≤ 1000000 := b135; omega))), (show 0 ≤ y124.toInt + 1 from (by first | with_reducible exact q_fe b136 | (have t1 : 0 ≤ y124.toInt + 1 := b136; omega))), (show y124.toInt ≤ 9999 from (by first | with_reducible exact q_fe b137 | (have t1 : y124.toInt ≤ 9999 := b137; omega))), (show 0 ≤ y125.toInt + 1 from (by first | with_reducible exact q_fe b138 | (have t1 : 0 ≤ y125.toInt + 1 := b138; omega))), (show y125.toInt ≤ 9999 from (by first | with_reducible exact q_fe b139 | (have t1 : y125.toInt ≤ 9999 := b139; omega))), (show 0 ≤ y128.toInt from (by first | with_reducible exact q_fe b140 | (have t1 : 0 ≤ y128.toInt := b140; omega))), (show y128.toInt ≤ 1 from (by first | with_reducible exact q_fe b141 | (have t1 : y128.toInt ≤ 1 := b141; omega))), (show t0_0.toInt ≤ t0_0.toInt + 256 from (by omega)), (show t0_0.toInt ≤ t0_0.toInt from (by omega)), (show t0_0.toInt ≤ y104.toInt + 256 from (by have t1 : t0_0.toInt ≤ 256 := b98; have t2 : 0 ≤ y104.toInt := b130; omega)), (show t0_0.toInt ≤ y109.toInt + 1000256 from (by have t1 : t0_0.toInt ≤ 256 := b98; have t2 : 0 ≤ y109.toInt + 1000000 := b132; omega)), (show t0_0.toInt ≤ y118.toInt + 1000256 from (by have t1 : t0_0.toInt ≤ 256 := b98; have t2 : 0 ≤ y118.toInt + 1000000 := b134; omega)), (show t0_0.toInt ≤ y124.toInt + 257 from (by have t1 : t0_0.toInt ≤ 256 := b98; have t2 : 0 ≤ y124.toInt + 1 := b136; omega)), (show t0_0.toInt ≤ y125.toInt + 257 from (by have t1 : t0_0.toInt ≤ 256 := b98; have t2 : 0 ≤ y125.toInt + 1 := b138; omega)), (show t0_0.toInt ≤ y128.toInt + 256 from (by have t1 : t0_0.toInt ≤ 256 := b98; have t2 : 0 ≤ y128.toInt := b140; omega)), (show y104.toInt ≤ a102.toInt + 12255 from (by first | with_reducible exact q_fe b142 | (have t1 : y104.toInt ≤ a102.toInt + 12255 := b142; omega))), (show y109.toInt ≤ a102.toInt + 1000000 from (by first | with_reducible exact q_fe b143 | (have t1 : y109.toInt ≤ a102.toInt + 1000000 := b143; omega))), (show y118.toInt ≤ a102.toInt + 1000000 from (by first | with_reducible exact q_fe b144 | (have t1 : y118.toInt ≤ a102.toInt + 1000000 := b144; omega))), (show ((0 : Int32), a102, t0_0, y104, f105, y108, y109, y110, y111, y113, y114, f115, y118, f119, y122, y123, y124, y125, y126, y127, y128) = (F_NH_format t0_0 t1_0 t2_0 t3_0 t4_0 t4_1 t4_2 t4_3 t5_0 t6_0 t7_0 t8_0 t8_1 t9_0 t10_0 t11_0 t12_0 t12_1 t12_2 t12_3 t12_4 t12_5 t12_6 t13_0 t14_0 t15_0 t16_0 t17_0 t18_0 t19_0 t20_0 t21_0 t22_0 t23_0 t24_0 t25_0 t26_0 t27_0 t28_0 t29_0 t30_0) from Eq.trans (by have c173x := c173; rw [e149] at c173x; rw [e167, e166, e165, e164, e163, e162, e161, e160, e159, e158, e157, e156, e155, e154, e153, e152, e151, e150, e149, F_NH_format_c32.eq_1, if_pos c173x]) hR168)⟩) d_1_20_48)
    ·
      refine lv_aload_n hx hb d_1_20_40 rfl (lv_at hl 1 rfl) ?_
      refine q_get (ci := 0) (j := 0) (v := .ref (q 1)) C0 V i_NH rfl rfl hO96 (by decide) w_424 rfl d_1_20_41 ?_
      refine q_gov V (q_runV (As := []) (rest := []) (d := 1) (mc := 0) (ms := 0) (ci := 1) C0 V rfl LV_NH_115 (X_She_clear l D g q u100 1 4100 513 4100 (n_h1 g q)  hI t0_0 hT0  _) rfl rfl hT0 rfl hl.1 rfl (Nat.le_of_ble_eq_true rfl) ⟨by decide, by decide⟩ ⟨Nat.le_of_ble_eq_true rfl, Nat.le_of_ble_eq_true rfl⟩ d_1_20_44) (fun u176 H locs hp177 V => ?_)
      obtain ⟨hI, hZ9⟩ := hp177
      obtain ⟨hu183, hZ9⟩ := hZ9
      obtain ⟨y179, hZ9⟩ := hZ9
      obtain ⟨hO178, hZ9⟩ := hZ9
      obtain ⟨b180, hZ9⟩ := hZ9
      obtain ⟨b181, hE182⟩ := hZ9
      replace hO178 : u176[1]? = (some (q 1, .inr (1, [.ref (q 2), .int 4100, .int y179])) : Option (Nat × va_E)) := hO178
      have e184 : y179 = (F_She_clear (4100 : Int32) (513 : Int32) (4100 : Int32) t0_0) := hE182
      replace b180 : q_F (0 ≤ y179.toInt) := b180
      replace b181 : q_F (y179.toInt ≤ 0) := b181
      replace hO103 := (hu183 _ (by decide)).trans hO103
      replace hA106 := (hu183 _ (by decide)).trans hA106
      replace hO107 := (hu183 _ (by decide)).trans hO107
      replace hO112 := (hu183 _ (by decide)).trans hO112
      replace hA116 := (hu183 _ (by decide)).trans hA116
      replace hO117 := (hu183 _ (by decide)).trans hO117
      replace hA120 := (hu183 _ (by decide)).trans hA120
      replace hO121 := (hu183 _ (by decide)).trans hO121
      replace hF := q_uc hF hu183 (by simp)
      refine lv_iload_n hx hb d_1_20_47 rfl (lv_at hl 0 rfl) ?_
      refine W.widen (k := 1) (n := 6) (Nat.le_of_ble_eq_true rfl) (Nat.le_of_ble_eq_true rfl) ?_
      exact q_retX (q_reti C0 V (⟨hI, hF, y179, y104, f105, y108, y109, y110, y111, y113, y114, f115, y118, f119, y122, y123, y124, y125, y126, y127, y128, hO178, hO103, hA106, hO107, hO112, hA116, hO117, hA120, hO121, (show a102.toInt ≤ 2147482648 from (by first | with_reducible exact q_fe b129 | (have t1 : a102.toInt ≤ 2147482648 := b129; omega))), (show 0 ≤ y179.toInt from (by first | with_reducible exact q_fe b180 | (have t1 : 0 ≤ y179.toInt := b180; omega))), (show y179.toInt ≤ 256 from (by first | with_reducible exact q_fe b181 | (have t1 : y179.toInt ≤ 0 := b181; omega))), (show 0 ≤ y104.toInt from (by first | with_reducible exact q_fe b130 | (have t1 : 0 ≤ y104.toInt := b130; omega))), (show y104.toInt ≤ 1000000 from (by first | with_reducible exact q_fe b131 | (have t1 : y104.toInt ≤ 1000000 := b131; omega))), (show 0 ≤ y109.toInt + 1000000 from (by first | with_reducible exact q_fe b132 | (have t1 : 0 ≤ y109.toInt + 1000000 := b132; omega))), (show y109.toInt ≤ 1000000 from (by first | with_reducible exact q_fe b133 | (have t1 : y109.toInt ≤ 1000000 := b133; omega))), (show 0 ≤ y118.toInt + 1000000 from (by first | with_reducible exact q_fe b134 | (have t1 : 0 ≤ y118.toInt + 1000000 := b134; omega))), (show y118.toInt ≤ 1000000 from (by first | with_reducible exact q_fe b135 | (have t1 : y118.toInt ≤ 1000000 := b135; omega))), (show 0 ≤ y124.toInt + 1 from (by first | with_reducible exact q_fe b136 | (have t1 : 0 ≤ y124.toInt + 1 := b136; omega))), (show y124.toInt ≤ 9999 from (by first | with_reducible exact q_fe b137 | (have t1 : y124.toInt ≤ 9999 := b137; omega))), (show 0 ≤ y125.toInt + 1 from (by first | with_reducible exact q_fe b138 | (have t1 : 0 ≤ y125.toInt + 1 := b138; omega))), (show y125.toInt ≤ 9999 from (by first | with_reducible exact q_fe b139 | (have t1 : y125.toInt ≤ 9999 := b139; omega))), (show 0 ≤ y128.toInt from (by first | with_reducible exact q_fe b140 | (have t1 : 0 ≤ y128.toInt := b140; omega))), (show y128.toInt ≤ 1 from (by first | with_reducible exact q_fe b141 | (have t1 : y128.toInt ≤ 1 := b141; omega))), (show t0_0.toInt ≤ y179.toInt + 256 from (by have t1 : t0_0.toInt ≤ 256 := b98; have t2 : 0 ≤ y179.toInt := b180; omega)), (show y179.toInt ≤ t0_0.toInt from (by have t1 : 0 ≤ t0_0.toInt ∧ t0_0.toInt ≤ 4100 := btt0_0; have t2 : y179.toInt ≤ 0 := b181; omega)), (show t0_0.toInt ≤ y104.toInt + 256 from (by have t1 : t0_0.toInt ≤ 256 := b98; have t2 : 0 ≤ y104.toInt := b130; omega)), (show t0_0.toInt ≤ y109.toInt + 1000256 from (by have t1 : t0_0.toInt ≤ 256 := b98; have t2 : 0 ≤ y109.toInt + 1000000 := b132; omega)), (show t0_0.toInt ≤ y118.toInt + 1000256 from (by have t1 : t0_0.toInt ≤ 256 := b98; have t2 : 0 ≤ y118.toInt + 1000000 := b134; omega)), (show t0_0.toInt ≤ y124.toInt + 257 from (by have t1 : t0_0.toInt ≤ 256 := b98; have t2 : 0 ≤ y124.toInt + 1 := b136; omega)), (show t0_0.toInt ≤ y125.toInt + 257 from (by have t1 : t0_0.toInt ≤ 256 := b98; have t2 : 0 ≤ y125.toInt + 1 := b138; omega)), (show t0_0.toInt ≤ y128.toInt + 256 from (by have t1 : t0_0.toInt ≤ 256 := b98; have t2 : 0 ≤ y128.toInt := b140; omega)), (show y104.toInt ≤ a102.toInt + 12255 from (by first | with_reducible exact q_fe b142 | (have t1 : y104.toInt ≤ a102.toInt + 12255 := b142; omega))), (show y109.toInt ≤ a102.toInt + 1000000 from (by first | with_reducible exact q_fe b143 | (have t1 : y109.toInt ≤ a102.toInt + 1000000 := b143; omega))), (show y118.toInt ≤ a102.toInt + 1000000 from (by first | with_reducible exact q_fe b144 | (have t1 : y118.toInt ≤ a102.toInt + 1000000 := b144; omega))), (show ((0 : Int32), a102, y179, y104, f105, y108, y109, y110, y111, y113, y114, f115, y118, f119, y122, y123, y124, y125, y126, y127, y128) = (F_NH_format t0_0 t1_0 t2_0 t3_0 t4_0 t4_1 t4_2 t4_3 t5_0 t6_0 t7_0 t8_0 t8_1 t9_0 t10_0 t11_0 t12_0 t12_1 t12_2 t12_3 t12_4 t12_5 t12_6 t13_0 t14_0 t15_0 t16_0 t17_0 t18_0 t19_0 t20_0 t21_0 t22_0 t23_0 t24_0 t25_0 t26_0 t27_0 t28_0 t29_0 t30_0) from Eq.trans (by have c173x := c173; rw [e149] at c173x; rw [e184, e167, e166, e165, e164, e163, e162, e161, e160, e159, e158, e157, e156, e155, e154, e153, e152, e151, e150, e149, F_NH_format_c32.eq_1, if_neg c173x]) hR168)⟩) d_1_20_48)
  ·
    exact q_throwW (names := ["java/lang/RuntimeException", "java/lang/Exception"]) C0 V hlt hno rfl hl.1 (by decide) (by decide) w_1688 w_36 wo_1730 w_1689 t_NH_354 d_1_20_13 d_1_20_16 d_1_20_17 d_1_20_20 d_1_20_23 (by decide) (by decide) (by decide) (by decide) ⟨(3 : Int32), qE3, (by decide), hI, hF, t0_0, t2_0, t3_0, t4_0, t4_1, t4_2, t4_3, t8_0, t8_1, t9_0, t10_0, t11_0, t12_0, t12_1, t12_2, t12_3, t12_4, t12_5, t12_6, hT0, hT2, hT3, hT4, hT8, hT9, hT10, hT11, hT12, (show ((3 : Int32), (0 : Int32), t0_0, t2_0, t3_0, t4_0, t4_1, t4_2, t4_3, t8_0, t8_1, t9_0, t10_0, t11_0, t12_0, t12_1, t12_2, t12_3, t12_4, t12_5, t12_6) = (F_NH_format t0_0 t1_0 t2_0 t3_0 t4_0 t4_1 t4_2 t4_3 t5_0 t6_0 t7_0 t8_0 t8_1 t9_0 t10_0 t11_0 t12_0 t12_1 t12_2 t12_3 t12_4 t12_5 t12_6 t13_0 t14_0 t15_0 t16_0 t17_0 t18_0 t19_0 t20_0 t21_0 t22_0 t23_0 t24_0 t25_0 t26_0 t27_0 t28_0 t29_0 t30_0) from (by rw [F_NH_format.eq_1, if_neg c97]))⟩

/-! the value of limbs -/
def vB (f : Nat → Int32) : Nat → Int
  | 0 => 0
  | n + 1 => vB f n + (f n).toInt * 2147483648 ^ n
def okL (f : Nat → Int32) (n : Nat) : Prop := ∀ i, i < n → 0 ≤ (f i).toInt
theorem okL.mono {f : Nat → Int32} {n m : Nat} (h : okL f n) (hm : m ≤ n) : okL f m := fun i hi => h i (by omega)
theorem v_pos (n : Nat) : (0 : Int) < 2147483648 ^ n := Int.pow_pos (by decide)
theorem v_pw (n : Nat) : (2147483648 : Int) ^ (n + 1) = 2147483648 ^ n * 2147483648 := Int.pow_succ _ _
theorem v_nn {f : Nat → Int32} : ∀ {n : Nat}, okL f n → 0 ≤ vB f n
  | 0, _ => Int.le_refl 0
  | n + 1, h => by
    have h1 := v_nn (f := f) (n := n) (h.mono (by omega))
    have h2 := Int.mul_nonneg (h n (by omega)) (Int.le_of_lt (v_pos n))
    show 0 ≤ vB f n + _
    omega
theorem v_lt {f : Nat → Int32} : ∀ {n : Nat}, okL f n → vB f n < 2147483648 ^ n
  | 0, _ => by show (0 : Int) < 1; decide
  | n + 1, h => by
    have h1 := v_lt (f := f) (n := n) (h.mono (by omega))
    have h2 := Int32.toInt_lt (f n)
    have h3 : (f n).toInt * 2147483648 ^ n ≤ 2147483647 * 2147483648 ^ n := Int.mul_le_mul_of_nonneg_right (by omega) (Int.le_of_lt (v_pos n))
    have h4 := v_pw n
    show vB f n + _ < _
    rw [h4]
    omega
theorem v_ne {f : Nat → Int32} {i j : Nat} {x : Int32} (h : j ≠ i) : upd f i x j = f j := by simp [upd, h]
theorem v_eq {f : Nat → Int32} {i : Nat} {x : Int32} : upd f i x i = x := by simp [upd]
theorem v_upd_ge {f : Nat → Int32} {i : Nat} {x : Int32} : ∀ {n : Nat}, n ≤ i → vB (upd f i x) n = vB f n
  | 0, _ => rfl
  | n + 1, h => by
    show vB (upd f i x) n + _ = vB f n + _
    rw [v_upd_ge (n := n) (by omega), v_ne (by omega)]
theorem v_upd_in {f : Nat → Int32} {i : Nat} {x : Int32} : vB (upd f i x) (i + 1) = vB f i + x.toInt * 2147483648 ^ i := by
  show vB (upd f i x) i + _ = _
  rw [v_upd_ge (Nat.le_refl i), v_eq]
theorem v_upd_df {f : Nat → Int32} {i : Nat} {x : Int32} : ∀ {n : Nat}, i < n → vB (upd f i x) n - vB (upd f i x) (i + 1) = vB f n - vB f (i + 1)
  | 0, h => by omega
  | n + 1, h => by
    by_cases e : n = i
    · subst e; omega
    · have h1 := v_upd_df (f := f) (x := x) (n := n) (i := i) (by omega)
      show vB (upd f i x) n + (upd f i x n).toInt * _ - _ = vB f n + _ - _
      rw [v_ne (by omega)]
      omega
theorem okL_upd {f : Nat → Int32} {n i : Nat} {x : Int32} (h : okL f n) (hx : 0 ≤ x.toInt) : okL (upd f i x) n := fun j hj => by
  by_cases e : j = i
  · subst e; rw [v_eq]; exact hx
  · rw [v_ne e]; exact h j hj
theorem okL_push {f : Nat → Int32} {n : Nat} {x : Int32} (h : okL f n) (hx : 0 ≤ x.toInt) : okL (upd f n x) (n + 1) := fun j hj => by
  by_cases e : j = n
  · subst e; rw [v_eq]; exact hx
  · rw [v_ne e]; exact h j (by omega)
theorem v_and31 {x : Int64} (h : 0 ≤ x.toInt) : (x &&& 2147483647).toInt = x.toInt % 2147483648 := by
  obtain ⟨h1, h2, -⟩ := s_nnL h
  have h4 : (x &&& 2147483647).toBitVec.toNat = x.toBitVec.toNat % 2147483648 := by
    rw [Int64.toBitVec_and, BitVec.toNat_and]
    exact Nat.and_two_pow_sub_one_eq_mod _ 31
  have h5 := s_ofL h4 (by omega)
  rw [h5, h1]
  omega
theorem v_shr31 {x : Int64} (h : 0 ≤ x.toInt) : ((x.toUInt64 >>> ((31 : Int32).toInt64.toUInt64 &&& Int64.toUInt64 63)).toInt64).toInt = x.toInt / 2147483648 :=
  (s_ushrJ (x := x) (c := 31) 31 (by decide) (by decide)).2.2 h
theorem v_cmp0 {a b : Int64} (h : lg_cmp a b = 0) : a.toInt = b.toInt := by
  have := s_lcmp (a := a) (b := b)
  rw [h] at this
  have e : (0 : Int32).toInt = 0 := rfl
  omega
/-- one limb times a factor: the limb kept and the carry -/
theorem v_part {L x c : Int} (hL : 0 ≤ L) (hL2 : L < 2147483648) (hx : 0 ≤ x) (hx2 : x < 2147483648) (hc : 0 ≤ c) (hc2 : c < 2147483648) : 0 ≤ L * x + c ∧ L * x + c < 2147483648 * 2147483648 ∧ (L * x + c) / 2147483648 < 2147483648 := by
  have h1 : 0 ≤ L * x := Int.mul_nonneg hL hx
  have h2 : L * x ≤ 2147483647 * 2147483647 := Int.mul_le_mul (by omega) (by omega) hx (by decide)
  omega
theorem v_mulId {A L P S x c m k : Int} (h : L * x + c = m + 2147483648 * k) : (A + m * P) + x * (S - (A + L * P)) + k * (P * 2147483648) = A + x * (S - A) + c * P := by
  have h2 : (L * x + c) * P = (m + 2147483648 * k) * P := by rw [h]
  simp only [Int.mul_sub, Int.mul_add, Int.add_mul] at h2 ⊢
  have e1 : x * (L * P) = L * x * P := by rw [Int.mul_comm L x, Int.mul_assoc]
  have e2 : k * (P * 2147483648) = 2147483648 * k * P := by rw [Int.mul_comm P, ← Int.mul_assoc, Int.mul_comm k]
  omega
/-- times a factor: the loop -/
theorem V_mulS {R x2 x3 s neg : Int32} {g0 : Nat → Int32} (hx : 0 ≤ x2.toInt) (hs : 0 ≤ s.toInt) (hsR : s.toInt ≤ R.toInt) (hR : R.toInt ≤ 220) :
    ∀ (n : Nat) (i : Int32) (c : Int64) (f : Nat → Int32), 0 ≤ i.toInt → i.toInt ≤ s.toInt → 0 ≤ c.toInt → c.toInt < 2147483648 → okL f s.toNatClampNeg → (s.toInt - i.toInt).toNat < n →
    ∃ (z : Int32) (h : Nat → Int32), F_Big_multiplySmall_L6 R x2 x3 s neg g0 n i c f = (z, neg, h) ∧ s.toInt ≤ z.toInt ∧ z.toInt ≤ s.toInt + 1 ∧ z.toInt ≤ R.toInt ∧ okL h z.toNatClampNeg ∧
      (s.toInt < R.toInt → vB h z.toNatClampNeg = vB f i.toNatClampNeg + x2.toInt * (vB f s.toNatClampNeg - vB f i.toNatClampNeg) + c.toInt * 2147483648 ^ i.toNatClampNeg ∧ (z.toInt = s.toInt + 1 → h s.toNatClampNeg ≠ 0)) := by
  intro n
  induction n with
  | zero => intro i c f h1 h2 h3 h4 h5 h6; omega
  | succ n ih =>
    intro i c f h1 h2 h3 h4 h5 h6
    have ei := q_clI (i := i) rfl h1
    have es := q_clI (i := s) rfl hs
    rw [F_Big_multiplySmall_L6.eq_2]
    by_cases hc : s ≤ i
    · rw [if_pos hc]
      have hi : i = s := Int32.toInt_inj.mp (by have := q_leI hc; omega)
      subst hi
      by_cases c0 : (lg_cmp c 0 : Int32) = (0 : Int32)
      · rw [if_pos c0]
        have e0 : c.toInt = 0 := v_cmp0 c0
        refine ⟨i, f, rfl, by omega, by omega, hsR, h5, fun _ => ⟨?_, by omega⟩⟩
        rw [e0]
        simp
      · rw [if_neg c0]
        by_cases hr : R ≤ i
        · rw [if_pos hr]
          have := q_leI hr
          exact ⟨i, f, rfl, by omega, by omega, hsR, h5, fun h => by omega⟩
        · rw [if_neg hr]
          have hr2 := q_nleI hr
          have e1 : (i + 1 : Int32).toInt = i.toInt + 1 := q_addI (y := 1) rfl (by decide) (by omega) (by omega)
          have e2 : (i + 1 : Int32).toNatClampNeg = i.toNatClampNeg + 1 := by
            have := q_clI (i := i + 1) e1 (by omega)
            omega
          have e3 : c.toInt32.toInt = c.toInt := s_l2i (by omega) (by omega)
          refine ⟨i + 1, _, rfl, by omega, by omega, by omega, ?_, fun _ => ⟨?_, fun _ => ?_⟩⟩
          · rw [e2]
            exact okL_push h5 (by omega)
          · rw [e2, v_upd_in, e3]
            simp
          · rw [v_eq]
            intro e
            refine c0 ?_
            have e4 : c.toInt = 0 := by rw [← e3, e]; rfl
            exact q_cmE rfl rfl e4
    · rw [if_neg hc]
      have hc2 := q_nleI hc
      obtain ⟨L, eL⟩ := q_nm (f i.toNatClampNeg)
      rw [eL]
      have hL0 : 0 ≤ L.toInt := by rw [← eL]; exact h5 _ (by omega)
      have hL1 := Int32.toInt_lt L
      have hx1 := Int32.toInt_lt x2
      obtain ⟨p1, p2, p3⟩ := v_part hL0 hL1 hx hx1 h3 h4
      have hLx : 0 ≤ L.toInt * x2.toInt := Int.mul_nonneg hL0 hx
      have m1 : (L.toInt64 * x2.toInt64 : Int64).toInt = L.toInt * x2.toInt := q_mulL (q_i2l rfl) (q_i2l rfl) (by omega) (by omega)
      have m2 : (L.toInt64 * x2.toInt64 + c : Int64).toInt = L.toInt * x2.toInt + c.toInt := q_addL m1 rfl (by omega) (by omega)
      have m3 := v_and31 (x := L.toInt64 * x2.toInt64 + c) (by omega)
      have m4 := v_shr31 (x := L.toInt64 * x2.toInt64 + c) (by omega)
      rw [m2] at m3 m4
      have m5 := Int.emod_lt_of_pos (L.toInt * x2.toInt + c.toInt) (show (0 : Int) < 2147483648 by decide)
      have m6 := Int.emod_nonneg (L.toInt * x2.toInt + c.toInt) (show (2147483648 : Int) ≠ 0 by decide)
      have m7 := Int.emod_add_mul_ediv (L.toInt * x2.toInt + c.toInt) 2147483648
      have m8 : ((L.toInt64 * x2.toInt64 + c &&& 2147483647 : Int64).toInt32).toInt = (L.toInt * x2.toInt + c.toInt) % 2147483648 := by rw [s_l2i (by omega) (by omega), m3]
      have e1 : (i + 1 : Int32).toInt = i.toInt + 1 := q_addI (y := 1) rfl (by decide) (by omega) (by omega)
      have e2 : (i + 1 : Int32).toNatClampNeg = i.toNatClampNeg + 1 := by
        have := q_clI (i := i + 1) e1 (by omega)
        omega
      obtain ⟨z, h, r1, r2, r3, r4, r5, r6⟩ := ih (i + 1) _ _ (by omega) (by omega) (by rw [m4]; omega) (by rw [m4]; exact p3) (okL_upd (i := i.toNatClampNeg) (x := (L.toInt64 * x2.toInt64 + c &&& 2147483647 : Int64).toInt32) h5 (by omega)) (by omega)
      refine ⟨z, h, r1, r2, r3, r4, r5, fun hh => ?_⟩
      obtain ⟨r7, r8⟩ := r6 hh
      refine ⟨?_, r8⟩
      rw [r7, e2, v_upd_in, m8, m4]
      have d1 := v_upd_df (f := f) (i := i.toNatClampNeg) (x := (L.toInt64 * x2.toInt64 + c &&& 2147483647 : Int64).toInt32) (n := s.toNatClampNeg) (by omega)
      rw [v_upd_in, m8] at d1
      have d2 : vB f (i.toNatClampNeg + 1) = vB f i.toNatClampNeg + L.toInt * 2147483648 ^ i.toNatClampNeg := by rw [← eL]; rfl
      rw [d2] at d1
      rw [d1, v_pw]
      exact v_mulId m7.symm

/-! values: trim, sums -/
theorem v_sc {i : Int32} (h : 0 ≤ i.toInt) (h2 : i.toInt ≤ 1000000) : (i + 1 : Int32).toInt = i.toInt + 1 ∧ (i + 1 : Int32).toNatClampNeg = i.toNatClampNeg + 1 := by
  have e1 : (i + 1 : Int32).toInt = i.toInt + 1 := q_addI (y := 1) rfl (by decide) (by omega) (by omega)
  have := q_clI (i := i + 1) e1 (by omega)
  have := q_clI (i := i) rfl h
  exact ⟨e1, by omega⟩
theorem v_pc {i : Int32} (h : 0 < i.toInt) : (i - 1 : Int32).toInt = i.toInt - 1 ∧ (i - 1 : Int32).toNatClampNeg + 1 = i.toNatClampNeg ∧ (i + (-1) : Int32).toInt = i.toInt - 1 ∧ (i + (-1) : Int32).toNatClampNeg + 1 = i.toNatClampNeg := by
  have h2 := Int32.toInt_lt i
  have e1 : (i - 1 : Int32).toInt = i.toInt - 1 := q_subI (y := 1) rfl (by decide) (by omega) (by omega)
  have e2 : (i + (-1) : Int32).toInt = i.toInt + (-1) := q_addI (y := -1) rfl (by decide) (by omega) (by omega)
  have h3 := q_clI (i := i - 1) e1 (by omega)
  have h4 := q_clI (i := i + (-1)) e2 (by omega)
  have h5 := q_clI (i := i) rfl (by omega)
  exact ⟨e1, by omega, by omega, by omega⟩
/-- trim: no value is lost, and the first limb is not 0 -/
theorem V_trim {R s neg : Int32} {f : Nat → Int32} : ∀ (n : Nat) (top : Int32), 0 ≤ top.toInt → top.toInt < (n : Int) → ∃ z : Int32, F_Big_trim_L5 R s neg f n top = (z, if neg = 0 then 0 else if z ≤ 0 then 0 else 1) ∧ 0 ≤ z.toInt ∧ z.toInt ≤ top.toInt ∧ (0 < z.toInt → f (z.toNatClampNeg - 1) ≠ 0) ∧ vB f z.toNatClampNeg = vB f top.toNatClampNeg := by
  intro n
  induction n with
  | zero => intro top h1 h2; omega
  | succ n ih =>
    intro top h1 h2
    have key : ∀ z : Int32, F_Big_trim_J26 (F_Big_trim_L5 R s neg f n) R s neg f z = (z, if neg = 0 then 0 else if z ≤ 0 then 0 else 1) := by
      intro z
      unfold F_Big_trim_J26
      by_cases h : neg = 0
      · rw [if_pos h, if_pos h]
      · rw [if_neg h, if_neg h]
        by_cases h3 : z ≤ 0
        · rw [if_pos h3, if_pos h3]
        · rw [if_neg h3, if_neg h3]
    have e : (0 : Int32).toInt = 0 := rfl
    rw [F_Big_trim_L5.eq_2]
    by_cases hc : top ≤ 0
    · rw [if_pos hc, key]
      have := q_leI hc
      exact ⟨top, rfl, h1, Int.le_refl _, fun hh => absurd hh (by omega), rfl⟩
    · rw [if_neg hc]
      have h3 := q_nleI hc
      obtain ⟨p1, p2, p3, p4⟩ := v_pc (i := top) (by omega)
      obtain ⟨M, hM⟩ := q_nm (top - 1 : Int32).toNatClampNeg
      obtain ⟨tp, htp⟩ := q_nm (top + (-1) : Int32)
      rw [htp] at p3 p4 ⊢
      rw [hM] at p2 ⊢
      have p5 : tp.toNatClampNeg = M := by omega
      by_cases hz : f M = 0
      · rw [if_pos hz]
        obtain ⟨z, r1, r2, r3, r4, r5⟩ := ih tp (by omega) (by omega)
        refine ⟨z, r1, r2, by omega, r4, ?_⟩
        have hv : vB f (M + 1) = vB f M + (f M).toInt * 2147483648 ^ M := rfl
        rw [hz, e, Int.zero_mul, Int.add_zero, p2] at hv
        rw [r5, hv, p5]
      · rw [if_neg hz, key]
        refine ⟨top, rfl, h1, Int.le_refl _, fun _ => ?_, rfl⟩
        have h9 : top.toNatClampNeg - 1 = M := by omega
        rw [h9]
        exact hz
/-- the first n limbs of a number of s limbs: 0 behind them -/
def vL (f : Nat → Int32) (s : Nat) : Nat → Int
  | 0 => 0
  | n + 1 => vL f s n + (if n < s then (f n).toInt else 0) * 2147483648 ^ n
theorem vL_le {f : Nat → Int32} {s : Nat} : ∀ {n : Nat}, n ≤ s → vL f s n = vB f n
  | 0, _ => rfl
  | n + 1, h => by
    show vL f s n + (if n < s then (f n).toInt else 0) * _ = vB f n + _
    rw [vL_le (n := n) (by omega), if_pos (by omega)]
theorem vL_ge {f : Nat → Int32} {s : Nat} : ∀ {n : Nat}, s ≤ n → vL f s n = vB f s
  | 0, h => by
    have : s = 0 := by omega
    subst this; rfl
  | n + 1, h => by
    by_cases e : s = n + 1
    · subst e; exact vL_le (Nat.le_refl _)
    · show vL f s n + (if n < s then (f n).toInt else 0) * _ = vB f s
      rw [vL_ge (n := n) (by omega), if_neg (by omega)]
      simp
theorem vL_df {f : Nat → Int32} {s i : Nat} {x : Int32} : ∀ {n : Nat}, i < n → vL (upd f i x) s n - vL (upd f i x) s (i + 1) = vL f s n - vL f s (i + 1)
  | 0, h => by omega
  | n + 1, h => by
    by_cases e : n = i
    · subst e; omega
    · have h1 := vL_df (f := f) (s := s) (x := x) (n := n) (i := i) (by omega)
      show vL (upd f i x) s n + (if n < s then (upd f i x n).toInt else 0) * _ - _ = vL f s n + _ - _
      rw [v_ne (by omega)]
      omega
theorem v_limb {R i s neg : Int32} {f : Nat → Int32} (h : 0 ≤ i.toInt) (hs : 0 ≤ s.toInt) : (F_Big_limb R i s neg f).toInt = if i.toNatClampNeg < s.toNatClampNeg then (f i.toNatClampNeg).toInt else 0 := by
  have e : (0 : Int32).toInt = 0 := rfl
  have h1 := q_clI (i := i) rfl h
  have h2 := q_clI (i := s) rfl hs
  unfold F_Big_limb
  by_cases c : i < 0
  · have := q_ltI c; omega
  · rw [if_neg c]
    by_cases d : s ≤ i
    · have := q_leI d
      rw [if_pos d, if_neg (by omega), e]
    · have := q_nleI d
      rw [if_neg d, if_pos (by omega)]
theorem v_and31I {x : Int32} : 0 ≤ (x &&& 2147483647).toInt ∧ (x &&& 2147483647).toInt = x.toInt % 2147483648 := by
  have h4 : (x &&& 2147483647).toBitVec.toNat = x.toBitVec.toNat % 2147483648 := by
    rw [Int32.toBitVec_and, BitVec.toNat_and]
    exact Nat.and_two_pow_sub_one_eq_mod _ 31
  have h5 := s_of h4 (by omega)
  have h6 : x.toInt = x.toBitVec.toInt := rfl
  have h7 := BitVec.toInt_eq_toNat_bmod x.toBitVec
  have h8 := x.toBitVec.isLt
  rw [h5, h6, h7, Int.bmod_def]
  split <;> omega
theorem v_ushr31I {x : Int32} : ((x.toUInt32 >>> ((31 : Int32).toUInt32 &&& Int32.toUInt32 31)).toInt32).toInt = if 0 ≤ x.toInt then 0 else 1 := by
  have h1 : ((x.toUInt32 >>> ((31 : Int32).toUInt32 &&& Int32.toUInt32 31)).toInt32).toBitVec.toNat = x.toBitVec.toNat / 2147483648 := by
    show (x.toUInt32 >>> ((31 : Int32).toUInt32 &&& Int32.toUInt32 31)).toBitVec.toNat = _
    rw [UInt32.toBitVec_shiftRight, BitVec.ushiftRight_eq', BitVec.toNat_ushiftRight, show (((31 : Int32).toUInt32 &&& Int32.toUInt32 31).toBitVec % 32).toNat = 31 by decide, Nat.shiftRight_eq_div_pow]
    rfl
  have h8 := x.toBitVec.isLt
  have h5 := s_of h1 (by omega)
  have h6 : x.toInt = x.toBitVec.toInt := rfl
  have h7 := BitVec.toInt_eq_toNat_bmod x.toBitVec
  rw [h5, h6, h7, Int.bmod_def]
  split <;> split <;> omega

/-! values: the sum of sizes -/
theorem v_add3 {a b c : Int32} (ha : 0 ≤ a.toInt) (hb : 0 ≤ b.toInt) (hc : 0 ≤ c.toInt) (hc1 : c.toInt ≤ 1) : 0 ≤ ((a + b + c) &&& 2147483647).toInt ∧ ((a + b + c) &&& 2147483647).toInt + 2147483648 * (((a + b + c).toUInt32 >>> ((31 : Int32).toUInt32 &&& Int32.toUInt32 31)).toInt32).toInt = a.toInt + b.toInt + c.toInt ∧ 0 ≤ (((a + b + c).toUInt32 >>> ((31 : Int32).toUInt32 &&& Int32.toUInt32 31)).toInt32).toInt ∧ (((a + b + c).toUInt32 >>> ((31 : Int32).toUInt32 &&& Int32.toUInt32 31)).toInt32).toInt ≤ 1 := by
  have h1 := v_and31I (x := a + b + c)
  have h2 := v_ushr31I (x := a + b + c)
  have h3 := Int32.toInt_lt a
  have h4 := Int32.toInt_lt b
  have h5 : (a + b + c).toInt = a.toInt + b.toInt + c.toInt ∨ (a + b + c).toInt = a.toInt + b.toInt + c.toInt - 4294967296 := by
    have e : ((2 ^ 32 : Nat) : Int) = 4294967296 := rfl
    rw [Int32.toInt_add, Int32.toInt_add, Int.bmod_def, Int.bmod_def, e]
    split <;> split <;> omega
  have h6 := Int32.le_toInt (a + b + c)
  have h7 := Int32.toInt_lt (a + b + c)
  obtain ⟨x, hx⟩ := q_nm (a + b + c)
  rw [hx] at h1 h2 h5 h6 h7 ⊢
  rw [h1.2, h2]
  split <;> omega
theorem v_addId {A S U a b c m k P I J : Int} (h : m + 2147483648 * k = a + b + c) : (A + m * P) + (S - (I + a * P)) + (U - (J + b * P)) + k * (P * 2147483648) = A + (S - I) + (U - J) + c * P := by
  have h2 : (m + 2147483648 * k) * P = (a + b + c) * P := by rw [h]
  simp only [Int.add_mul] at h2
  have e2 : k * (P * 2147483648) = 2147483648 * k * P := by rw [Int.mul_comm P, ← Int.mul_assoc, Int.mul_comm k]
  omega
/-- the sum of two sizes: the loop -/
theorem V_addL {R R2 s neg s2 neg2 top : Int32} {g0 g2 : Nat → Int32} (hs : 0 ≤ s.toInt) (hs2 : 0 ≤ s2.toInt) (ht : 0 ≤ top.toInt) (htR : top.toInt ≤ R.toInt) (hR : R.toInt ≤ 220) (ok2 : okL g2 s2.toNatClampNeg) :
    ∀ (n : Nat) (i c : Int32) (f : Nat → Int32), 0 ≤ i.toInt → i.toInt ≤ top.toInt → 0 ≤ c.toInt → c.toInt ≤ 1 → (∀ j, j < s.toNatClampNeg ∨ j < i.toNatClampNeg → 0 ≤ (f j).toInt) → (top.toInt - i.toInt).toNat < n →
    ∃ (z : Int32) (h : Nat → Int32), F_Big_addSize_L25 R R2 s neg g0 s2 neg2 g2 top n i c f = (z, neg, h) ∧ top.toInt ≤ z.toInt ∧ z.toInt ≤ top.toInt + 1 ∧ z.toInt ≤ R.toInt ∧ okL h z.toNatClampNeg ∧
      (top.toInt < R.toInt → vB h z.toNatClampNeg = vB f i.toNatClampNeg + (vL f s.toNatClampNeg top.toNatClampNeg - vL f s.toNatClampNeg i.toNatClampNeg) + (vL g2 s2.toNatClampNeg top.toNatClampNeg - vL g2 s2.toNatClampNeg i.toNatClampNeg) + c.toInt * 2147483648 ^ i.toNatClampNeg) := by
  intro n
  induction n with
  | zero => intro i c f h1 h2 h3 h4 h5 h6; omega
  | succ n ih =>
    intro i c f h1 h2 h3 h4 h5 h6
    have ei := q_clI (i := i) rfl h1
    have et := q_clI (i := top) rfl ht
    have e0 : (0 : Int32).toInt = 0 := rfl
    rw [F_Big_addSize_L25.eq_2]
    by_cases hc : top ≤ i
    · rw [if_pos hc]
      have hi : i = top := Int32.toInt_inj.mp (by have := q_leI hc; omega)
      subst hi
      have ok : okL f i.toNatClampNeg := fun j hj => h5 j (Or.inr hj)
      by_cases c0 : c = (0 : Int32)
      · rw [if_pos c0]
        refine ⟨i, f, rfl, Int.le_refl _, by omega, htR, ok, fun _ => ?_⟩
        rw [c0, e0, Int.zero_mul]
        omega
      · rw [if_neg c0]
        by_cases hr : R ≤ i
        · have := q_leI hr
          have ep : F_Big_push R c i neg f = (i, neg, f) := by unfold F_Big_push; rw [if_pos hr]
          rw [ep]
          exact ⟨i, f, rfl, Int.le_refl _, by omega, htR, ok, fun h => by omega⟩
        · have := q_nleI hr
          have ep : F_Big_push R c i neg f = (i + 1, neg, upd f i.toNatClampNeg c) := by unfold F_Big_push; rw [if_neg hr]
          rw [ep]
          obtain ⟨e1, e2⟩ := v_sc h1 (by omega)
          refine ⟨i + 1, _, rfl, by omega, by omega, by omega, ?_, fun _ => ?_⟩
          · rw [e2]
            exact okL_push ok h3
          · rw [e2, v_upd_in]
            omega
    · rw [if_neg hc]
      have hc2 := q_nleI hc
      have la := v_limb (R := R) (i := i) (s := s) (neg := neg) (f := f) h1 hs
      have lb := v_limb (R := R2) (i := i) (s := s2) (neg := neg2) (f := g2) h1 hs2
      obtain ⟨a, eA⟩ := q_nm (F_Big_limb R i s neg f)
      obtain ⟨b, eB⟩ := q_nm (F_Big_limb R2 i s2 neg2 g2)
      rw [eA] at la ⊢
      rw [eB] at lb ⊢
      have a0 : 0 ≤ a.toInt := by
        rw [la]
        split
        · exact h5 _ (Or.inl ‹_›)
        · exact Int.le_refl 0
      have b0 : 0 ≤ b.toInt := by
        rw [lb]
        split
        · exact ok2 _ ‹_›
        · exact Int.le_refl 0
      obtain ⟨q1, q2, q3, q4⟩ := v_add3 a0 b0 h3 h4
      obtain ⟨m, em⟩ := q_nm ((a + b + c) &&& 2147483647 : Int32)
      obtain ⟨k, ek⟩ := q_nm (((a + b + c).toUInt32 >>> ((31 : Int32).toUInt32 &&& Int32.toUInt32 31)).toInt32)
      rw [em] at q1 q2 ⊢
      rw [ek] at q2 q3 q4 ⊢
      obtain ⟨e1, e2⟩ := v_sc h1 (by omega)
      obtain ⟨z, h, r1, r2, r3, r4, r5, r6⟩ := ih (i + 1) k (upd f i.toNatClampNeg m) (by omega) (by omega) q3 q4 (fun j hj => by
        by_cases e : j = i.toNatClampNeg
        · subst e; rw [v_eq]; exact q1
        · rw [v_ne e]; exact h5 j (by omega)) (by omega)
      refine ⟨z, h, r1, r2, r3, r4, r5, fun hh => ?_⟩
      rw [r6 hh, e2, v_upd_in]
      have d1 := vL_df (f := f) (s := s.toNatClampNeg) (i := i.toNatClampNeg) (x := m) (n := top.toNatClampNeg) (by omega)
      obtain ⟨I, eI⟩ := q_nm i.toNatClampNeg
      rw [eI] at d1 la lb ⊢
      have d2 : vL f s.toNatClampNeg (I + 1) = vL f s.toNatClampNeg I + a.toInt * 2147483648 ^ I := by rw [la]; rfl
      have d3 : vL g2 s2.toNatClampNeg (I + 1) = vL g2 s2.toNatClampNeg I + b.toInt * 2147483648 ^ I := by rw [lb]; rfl
      rw [d1, d2, d3, v_pw]
      exact v_addId q2

/-! values: the difference of sizes -/
theorem v_upd_n {f : Nat → Int32} {i n : Nat} {x : Int32} (h : i < n) : vB (upd f i x) n = vB f n + (x.toInt - (f i).toInt) * 2147483648 ^ i := by
  have h1 := v_upd_df (f := f) (x := x) h
  have h2 : vB f (i + 1) = vB f i + (f i).toInt * 2147483648 ^ i := rfl
  rw [v_upd_in, h2] at h1
  rw [Int.sub_mul]
  omega
theorem v_sub3 {a b c : Int32} (ha : 0 ≤ a.toInt) (hb : 0 ≤ b.toInt) (hc : 0 ≤ c.toInt) (hc1 : c.toInt ≤ 1) : 0 ≤ ((a - b - c) &&& 2147483647).toInt ∧ ((a - b - c) &&& 2147483647).toInt - 2147483648 * (((a - b - c).toUInt32 >>> ((31 : Int32).toUInt32 &&& Int32.toUInt32 31)).toInt32).toInt = a.toInt - b.toInt - c.toInt ∧ 0 ≤ (((a - b - c).toUInt32 >>> ((31 : Int32).toUInt32 &&& Int32.toUInt32 31)).toInt32).toInt ∧ (((a - b - c).toUInt32 >>> ((31 : Int32).toUInt32 &&& Int32.toUInt32 31)).toInt32).toInt ≤ 1 := by
  have h1 := v_and31I (x := a - b - c)
  have h2 := v_ushr31I (x := a - b - c)
  have h3 := Int32.toInt_lt a
  have h4 := Int32.toInt_lt b
  have h5 : (a - b - c).toInt = a.toInt - b.toInt - c.toInt := q_subI (q_subI rfl rfl (by omega) (by omega)) rfl (by omega) (by omega)
  obtain ⟨x, hx⟩ := q_nm (a - b - c)
  rw [hx] at h1 h2 h5 ⊢
  rw [h1.2, h2]
  split <;> omega
theorem v_subId {V a b c m k P G I : Int} (h : m - 2147483648 * k = a - b - c) : (V + (m - a) * P) - (G - (I + b * P)) - k * (P * 2147483648) = V - (G - I) - c * P := by
  have h2 : (m - 2147483648 * k) * P = (a - b - c) * P := by rw [h]
  simp only [Int.sub_mul] at h2 ⊢
  have e2 : k * (P * 2147483648) = 2147483648 * k * P := by rw [Int.mul_comm P, ← Int.mul_assoc, Int.mul_comm k]
  omega
/-- the difference of two sizes: the loop; w is what is owed behind the last limb -/
theorem V_subL {R R2 s neg s2 neg2 : Int32} {g0 g2 : Nat → Int32} (hs : 0 ≤ s.toInt) (hs2 : 0 ≤ s2.toInt) (hsR : s.toInt ≤ 220) (ok2 : okL g2 s2.toNatClampNeg) :
    ∀ (n : Nat) (i c : Int32) (f : Nat → Int32), 0 ≤ i.toInt → i.toInt ≤ s.toInt → 0 ≤ c.toInt → c.toInt ≤ 1 → okL f s.toNatClampNeg → (s.toInt - i.toInt).toNat < n →
    ∃ (h : Nat → Int32) (w : Int), F_Big_subtractSize_L4 R R2 s neg g0 s2 neg2 g2 n i c f = ((F_Big_trim R s neg h).1, (F_Big_trim R s neg h).2, h) ∧ okL h s.toNatClampNeg ∧ 0 ≤ w ∧ w ≤ 1 ∧
      vB h s.toNatClampNeg - w * 2147483648 ^ s.toNatClampNeg = vB f s.toNatClampNeg - (vL g2 s2.toNatClampNeg s.toNatClampNeg - vL g2 s2.toNatClampNeg i.toNatClampNeg) - c.toInt * 2147483648 ^ i.toNatClampNeg := by
  intro n
  induction n with
  | zero => intro i c f h1 h2 h3 h4 h5 h6; omega
  | succ n ih =>
    intro i c f h1 h2 h3 h4 h5 h6
    have ei := q_clI (i := i) rfl h1
    have es := q_clI (i := s) rfl hs
    rw [F_Big_subtractSize_L4.eq_2]
    by_cases hc : s ≤ i
    · rw [if_pos hc]
      have hi : i = s := Int32.toInt_inj.mp (by have := q_leI hc; omega)
      subst hi
      exact ⟨f, c.toInt, rfl, h5, h3, h4, by omega⟩
    · rw [if_neg hc]
      have hc2 := q_nleI hc
      have lb := v_limb (R := R2) (i := i) (s := s2) (neg := neg2) (f := g2) h1 hs2
      obtain ⟨b, eB⟩ := q_nm (F_Big_limb R2 i s2 neg2 g2)
      obtain ⟨a, eA⟩ := q_nm (f i.toNatClampNeg)
      rw [eB] at lb ⊢
      rw [eA]
      have a0 : 0 ≤ a.toInt := by rw [← eA]; exact h5 _ (by omega)
      have b0 : 0 ≤ b.toInt := by
        rw [lb]
        split
        · exact ok2 _ ‹_›
        · exact Int.le_refl 0
      obtain ⟨q1, q2, q3, q4⟩ := v_sub3 a0 b0 h3 h4
      obtain ⟨m, em⟩ := q_nm ((a - b - c) &&& 2147483647 : Int32)
      obtain ⟨k, ek⟩ := q_nm (((a - b - c).toUInt32 >>> ((31 : Int32).toUInt32 &&& Int32.toUInt32 31)).toInt32)
      rw [em] at q1 q2 ⊢
      rw [ek] at q2 q3 q4 ⊢
      obtain ⟨e1, e2⟩ := v_sc h1 (by omega)
      obtain ⟨h, w, r1, r2, r3, r4, r5⟩ := ih (i + 1) k (upd f i.toNatClampNeg m) (by omega) (by omega) q3 q4 (okL_upd h5 q1) (by omega)
      refine ⟨h, w, r1, r2, r3, r4, ?_⟩
      have d1 := v_upd_n (f := f) (i := i.toNatClampNeg) (x := m) (n := s.toNatClampNeg) (by omega)
      rw [r5, e2, d1, eA]
      obtain ⟨I, eI⟩ := q_nm i.toNatClampNeg
      rw [eI] at lb ⊢
      have d3 : vL g2 s2.toNatClampNeg (I + 1) = vL g2 s2.toNatClampNeg I + b.toInt * 2147483648 ^ I := by rw [lb]; rfl
      rw [d3, v_pw]
      exact v_subId q2

/-! values: which size is greater -/
theorem v_icmp {x y : Int32} : ((F_jInt_compare x y).toInt = 0 ∧ x.toInt = y.toInt) ∨ ((F_jInt_compare x y).toInt < 0 ∧ x.toInt < y.toInt) ∨ (0 < (F_jInt_compare x y).toInt ∧ y.toInt < x.toInt) := by
  unfold F_jInt_compare
  by_cases h : y ≤ x
  · rw [if_pos h]
    have := q_leI h
    by_cases h2 : x = y
    · rw [if_pos h2]
      subst h2
      exact Or.inl ⟨rfl, rfl⟩
    · rw [if_neg h2]
      have h3 := q_neI h2
      exact Or.inr (Or.inr ⟨by decide, by omega⟩)
  · rw [if_neg h]
    have := q_nleI h
    exact Or.inr (Or.inl ⟨by decide, by omega⟩)
theorem v_top {f g : Nat → Int32} {k : Nat} (hf : okL f (k + 1)) (hg : okL g (k + 1)) (h : (f k).toInt < (g k).toInt) : vB f (k + 1) < vB g (k + 1) := by
  have h1 := v_lt (hf.mono (Nat.le_succ k))
  have h2 := v_nn (hg.mono (Nat.le_succ k))
  have h3 : ((f k).toInt + 1) * 2147483648 ^ k ≤ (g k).toInt * 2147483648 ^ k := Int.mul_le_mul_of_nonneg_right (by omega) (Int.le_of_lt (v_pos k))
  rw [Int.add_mul, Int.one_mul] at h3
  show vB f k + _ < vB g k + _
  omega
/-- limbs compared from the first on -/
theorem V_cmpL {R R2 s neg s2 neg2 : Int32} {f g : Nat → Int32} : ∀ (n m : Nat) (i : Int32), i.toInt = (m : Int) - 1 → m < n → okL f m → okL g m →
    ((F_Big_compareSize_L30 R R2 s neg f s2 neg2 g n i).toInt = 0 ∧ vB f m = vB g m) ∨ ((F_Big_compareSize_L30 R R2 s neg f s2 neg2 g n i).toInt < 0 ∧ vB f m < vB g m) ∨ (0 < (F_Big_compareSize_L30 R R2 s neg f s2 neg2 g n i).toInt ∧ vB g m < vB f m) := by
  intro n
  induction n with
  | zero => intro m i h1 h2; omega
  | succ n ih =>
    intro m i h1 h2 hf hg
    have e0 : (0 : Int32).toInt = 0 := rfl
    rw [F_Big_compareSize_L30.eq_2]
    by_cases hc : i < 0
    · rw [if_pos hc]
      have := q_ltI hc
      have hm : m = 0 := by omega
      subst hm
      exact Or.inl ⟨rfl, rfl⟩
    · rw [if_neg hc]
      have h3 := q_nltI hc
      obtain ⟨k, rfl⟩ : ∃ k, m = k + 1 := ⟨m - 1, by omega⟩
      have ek : i.toNatClampNeg = k := by have := q_clI (i := i) rfl (by omega); omega
      rw [ek]
      by_cases he : f k = g k
      · rw [if_pos he]
        obtain ⟨j, ej⟩ := q_nm (i + (-1) : Int32)
        have h4 := Int32.toInt_lt i
        have e2 : (i + (-1) : Int32).toInt = i.toInt + (-1) := q_addI (y := -1) rfl (by decide) (by omega) (by omega)
        rw [ej] at e2 ⊢
        have r := ih k j (by omega) (by omega) (hf.mono (Nat.le_succ k)) (hg.mono (Nat.le_succ k))
        have d1 : vB f (k + 1) = vB f k + (f k).toInt * 2147483648 ^ k := rfl
        have d2 : vB g (k + 1) = vB g k + (g k).toInt * 2147483648 ^ k := rfl
        rw [d1, d2, he]
        omega
      · rw [if_neg he]
        rcases v_icmp (x := f k) (y := g k) with ⟨_, c⟩ | ⟨c1, c⟩ | ⟨c1, c⟩
        · exact absurd (Int32.toInt_inj.mp c) he
        · exact Or.inr (Or.inl ⟨c1, v_top hf hg c⟩)
        · exact Or.inr (Or.inr ⟨c1, v_top hg hf c⟩)

/-! values: division by one limb -/
theorem v_shl31 {x : Int64} (h : 0 ≤ x.toInt) (h2 : x.toInt < 2147483648) : (x <<< ((31 : Int32).toInt64 &&& 63)).toBitVec.toNat = x.toBitVec.toNat * 2147483648 := by
  obtain ⟨h1, h3, -⟩ := s_nnL h
  rw [Int64.toBitVec_shiftLeft, show (((31 : Int32).toInt64 &&& 63).toBitVec.smod 64) = BitVec.ofNat 64 31 by decide, BitVec.shiftLeft_eq', BitVec.toNat_shiftLeft, Nat.shiftLeft_eq, show (BitVec.ofNat 64 31).toNat = 31 from rfl]
  have e : (2 : Nat) ^ 31 = 2147483648 := rfl
  rw [e, Nat.mod_eq_of_lt (by omega)]
theorem v_cat {x y : Int64} (hx : 0 ≤ x.toInt) (hx2 : x.toInt < 2147483648) (hy : 0 ≤ y.toInt) (hy2 : y.toInt < 2147483648) : ((x <<< ((31 : Int32).toInt64 &&& 63)) ||| y).toInt = x.toInt * 2147483648 + y.toInt := by
  obtain ⟨h1, -, -⟩ := s_nnL hx
  obtain ⟨h3, -, -⟩ := s_nnL hy
  have h4 := v_shl31 hx hx2
  have h5 : ((x <<< ((31 : Int32).toInt64 &&& 63)) ||| y).toBitVec.toNat = x.toBitVec.toNat * 2147483648 + y.toBitVec.toNat := by
    rw [Int64.toBitVec_or, BitVec.toNat_or, h4, Nat.mul_comm]
    exact (Nat.two_pow_add_eq_or_of_lt (i := 31) (by omega) _).symm
  have h6 := s_ofL h5 (by omega)
  omega
theorem v_divL {x y : Int64} (hx : 0 ≤ x.toInt) (hy : 0 < y.toInt) : (x / y).toInt = x.toInt / y.toInt := by
  have h1 : x.toInt / y.toInt ≤ x.toInt := Int.ediv_le_self _ hx
  have h2 : 0 ≤ x.toInt / y.toInt := Int.ediv_nonneg hx (by omega)
  have h3 := Int64.toInt_lt x
  rw [Int64.toInt_div, Int.tdiv_eq_ediv_of_nonneg hx]
  exact q_bmL (by omega) (by omega)

/-! values: division by one limb, the loop -/
theorem v_divId {V K Q a r t P y : Int} (h : Q * y + t = r * 2147483648 + a) : (V + (Q - a) * P - K) * y + (t * P + K) = (V - (K + a * P)) * y + (r * (P * 2147483648) + (K + a * P)) := by
  have h2 : (Q * y + t) * P = (r * 2147483648 + a) * P := by rw [h]
  simp only [Int.add_mul, Int.sub_mul] at h2 ⊢
  have e1 : Q * P * y = Q * y * P := Int.mul_right_comm _ _ _
  have e2 : r * (P * 2147483648) = r * 2147483648 * P := by rw [Int.mul_comm P, Int.mul_assoc]
  omega
theorem V_divL {R x2 s neg y : Int32} {g0 : Nat → Int32} (hy : 0 < y.toInt) :
    ∀ (n m : Nat) (i : Int32) (r : Int64) (f : Nat → Int32), i.toInt = (m : Int) - 1 → m ≤ s.toNatClampNeg → m < n → 0 ≤ r.toInt → r.toInt < y.toInt → okL f s.toNatClampNeg →
    ∃ (q : Int64) (h : Nat → Int32), F_Big_divideSmall_L16 R x2 s neg g0 y n i r f = (q.toInt32, (F_Big_trim R s neg h).1, (F_Big_trim R s neg h).2, h) ∧ okL h s.toNatClampNeg ∧ 0 ≤ q.toInt ∧ q.toInt < y.toInt ∧
      vB h s.toNatClampNeg * y.toInt + q.toInt = (vB f s.toNatClampNeg - vB f m) * y.toInt + (r.toInt * 2147483648 ^ m + vB f m) := by
  intro n
  induction n with
  | zero => intro m i r f h1 h2 h3; omega
  | succ n ih =>
    intro m i r f h1 h2 h3 h4 h5 h6
    have e0 : (0 : Int32).toInt = 0 := rfl
    have hy2 := Int32.toInt_lt y
    rw [F_Big_divideSmall_L16.eq_2]
    by_cases hc : i < 0
    · rw [if_pos hc]
      have := q_ltI hc
      have hm : m = 0 := by omega
      subst hm
      refine ⟨r, f, rfl, h6, h4, h5, ?_⟩
      show _ = (vB f s.toNatClampNeg - 0) * y.toInt + (r.toInt * 1 + 0)
      rw [Int.sub_zero, Int.mul_one, Int.add_zero]
    · rw [if_neg hc]
      have h7 := q_nltI hc
      obtain ⟨k, rfl⟩ : ∃ k, m = k + 1 := ⟨m - 1, by omega⟩
      have ek : i.toNatClampNeg = k := by have := q_clI (i := i) rfl (by omega); omega
      rw [ek]
      obtain ⟨a, eA⟩ := q_nm (f k)
      rw [eA]
      have a0 : 0 ≤ a.toInt := by rw [← eA]; exact h6 _ (by omega)
      have a1 := Int32.toInt_lt a
      have i1 : a.toInt64.toInt = a.toInt := q_i2l rfl
      have i2 : y.toInt64.toInt = y.toInt := q_i2l rfl
      have c1 := v_cat (x := r) (y := a.toInt64) h4 (by omega) (by omega) (by omega)
      rw [i1] at c1
      obtain ⟨p, ep⟩ := q_nm ((r <<< ((31 : Int32).toInt64 &&& 63) : Int64) ||| a.toInt64)
      rw [ep] at c1 ⊢
      have p0 : 0 ≤ p.toInt := by omega
      have d1 := v_divL (x := p) (y := y.toInt64) p0 (by omega)
      rw [i2] at d1
      have d2 : 0 ≤ p.toInt / y.toInt := Int.ediv_nonneg p0 (by omega)
      have d3 : p.toInt / y.toInt < 2147483648 := Int.ediv_lt_of_lt_mul hy (by
        have : (r.toInt + 1) * 2147483648 ≤ y.toInt * 2147483648 := Int.mul_le_mul_of_nonneg_right (by omega) (by decide)
        omega)
      obtain ⟨Q, eQ⟩ := q_nm (p / y.toInt64)
      rw [eQ] at d1 ⊢
      have d4 := Int.emod_add_mul_ediv p.toInt y.toInt
      have d5 := Int.emod_nonneg p.toInt (show y.toInt ≠ 0 by omega)
      have d6 := Int.emod_lt_of_pos p.toInt hy
      have d7 : Q.toInt * y.toInt = y.toInt * (p.toInt / y.toInt) := by rw [d1, Int.mul_comm]
      have hp := Int64.toInt_lt p
      have m0 : 0 ≤ Q.toInt * y.toInt := Int.mul_nonneg (by omega) (by omega)
      have m1 : (Q * y.toInt64 : Int64).toInt = Q.toInt * y.toInt := q_mulL rfl i2 (by omega) (by omega)
      have m2 : (p - Q * y.toInt64 : Int64).toInt = p.toInt - Q.toInt * y.toInt := q_subL rfl m1 (by omega) (by omega)
      obtain ⟨t, et⟩ := q_nm (p - Q * y.toInt64 : Int64)
      rw [et] at m2 ⊢
      have q32 : Q.toInt32.toInt = Q.toInt := s_l2i (by omega) (by omega)
      obtain ⟨j, ej⟩ := q_nm (i + (-1) : Int32)
      have i4 := Int32.toInt_lt i
      have e2 : (i + (-1) : Int32).toInt = i.toInt + (-1) := q_addI (y := -1) rfl (by decide) (by omega) (by omega)
      rw [ej] at e2 ⊢
      obtain ⟨q, h, r1, r2, r3, r4, r5⟩ := ih k j t (upd f k Q.toInt32) (by omega) (by omega) (by omega) (by omega) (by omega) (okL_upd h6 (by omega))
      refine ⟨q, h, r1, r2, r3, r4, ?_⟩
      have g1 := v_upd_n (f := f) (i := k) (x := Q.toInt32) (n := s.toNatClampNeg) (by omega)
      have g2 : vB f (k + 1) = vB f k + a.toInt * 2147483648 ^ k := by rw [← eA]; rfl
      rw [r5, g1, v_upd_ge (Nat.le_refl k), q32, eA, g2, v_pw]
      exact v_divId (by omega)

/-! values: the other difference of sizes -/
theorem v_sbfId {A S U a b c m k P I J : Int} (h : m - 2147483648 * k = a - b - c) : (A + m * P) + (U - (J + a * P)) - (S - (I + b * P)) - k * (P * 2147483648) = A + (U - J) - (S - I) - c * P := by
  have h2 : (m - 2147483648 * k) * P = (a - b - c) * P := by rw [h]
  simp only [Int.sub_mul] at h2
  have e2 : k * (P * 2147483648) = 2147483648 * k * P := by rw [Int.mul_comm P, ← Int.mul_assoc, Int.mul_comm k]
  omega
/-- the other's size less this one's: the loop -/
theorem V_sbfL {R R2 s neg s2 neg2 top : Int32} {g0 g2 : Nat → Int32} (hs : 0 ≤ s.toInt) (ht : 0 ≤ top.toInt) (htR : top.toInt ≤ 220) (ok2 : okL g2 top.toNatClampNeg) :
    ∀ (n : Nat) (i c : Int32) (f : Nat → Int32), 0 ≤ i.toInt → i.toInt ≤ top.toInt → 0 ≤ c.toInt → c.toInt ≤ 1 → (∀ j, j < s.toNatClampNeg ∨ j < i.toNatClampNeg → 0 ≤ (f j).toInt) → (top.toInt - i.toInt).toNat < n →
    ∃ (h : Nat → Int32) (w : Int), F_Big_subtractFrom_L18 R R2 s neg g0 s2 neg2 g2 top n i c f = ((F_Big_trim R top neg h).1, (F_Big_trim R top neg h).2, h) ∧ okL h top.toNatClampNeg ∧ 0 ≤ w ∧ w ≤ 1 ∧
      vB h top.toNatClampNeg - w * 2147483648 ^ top.toNatClampNeg = vB f i.toNatClampNeg + (vB g2 top.toNatClampNeg - vB g2 i.toNatClampNeg) - (vL f s.toNatClampNeg top.toNatClampNeg - vL f s.toNatClampNeg i.toNatClampNeg) - c.toInt * 2147483648 ^ i.toNatClampNeg := by
  intro n
  induction n with
  | zero => intro i c f h1 h2 h3 h4 h5 h6; omega
  | succ n ih =>
    intro i c f h1 h2 h3 h4 h5 h6
    have ei := q_clI (i := i) rfl h1
    have et := q_clI (i := top) rfl ht
    rw [F_Big_subtractFrom_L18.eq_2]
    by_cases hc : top ≤ i
    · rw [if_pos hc]
      have hi : i = top := Int32.toInt_inj.mp (by have := q_leI hc; omega)
      subst hi
      exact ⟨f, c.toInt, rfl, fun j hj => h5 j (Or.inr hj), h3, h4, by omega⟩
    · rw [if_neg hc]
      have hc2 := q_nleI hc
      have lb := v_limb (R := R) (i := i) (s := s) (neg := neg) (f := f) h1 hs
      obtain ⟨b, eB⟩ := q_nm (F_Big_limb R i s neg f)
      obtain ⟨a, eA⟩ := q_nm (g2 i.toNatClampNeg)
      rw [eB] at lb ⊢
      rw [eA]
      have a0 : 0 ≤ a.toInt := by rw [← eA]; exact ok2 _ (by omega)
      have b0 : 0 ≤ b.toInt := by
        rw [lb]
        split
        · exact h5 _ (Or.inl ‹_›)
        · exact Int.le_refl 0
      obtain ⟨q1, q2, q3, q4⟩ := v_sub3 a0 b0 h3 h4
      obtain ⟨m, em⟩ := q_nm ((a - b - c) &&& 2147483647 : Int32)
      obtain ⟨k, ek⟩ := q_nm (((a - b - c).toUInt32 >>> ((31 : Int32).toUInt32 &&& Int32.toUInt32 31)).toInt32)
      rw [em] at q1 q2 ⊢
      rw [ek] at q2 q3 q4 ⊢
      obtain ⟨e1, e2⟩ := v_sc h1 (by omega)
      obtain ⟨h, w, r1, r2, r3, r4, r5⟩ := ih (i + 1) k (upd f i.toNatClampNeg m) (by omega) (by omega) q3 q4 (fun j hj => by
        by_cases e : j = i.toNatClampNeg
        · subst e; rw [v_eq]; exact q1
        · rw [v_ne e]; exact h5 j (by omega)) (by omega)
      refine ⟨h, w, r1, r2, r3, r4, ?_⟩
      rw [r5, e2, v_upd_in]
      have d1 := vL_df (f := f) (s := s.toNatClampNeg) (i := i.toNatClampNeg) (x := m) (n := top.toNatClampNeg) (by omega)
      obtain ⟨I, eI⟩ := q_nm i.toNatClampNeg
      rw [eI] at d1 lb eA ⊢
      have d2 : vL f s.toNatClampNeg (I + 1) = vL f s.toNatClampNeg I + b.toInt * 2147483648 ^ I := by rw [lb]; rfl
      have d3 : vB g2 (I + 1) = vB g2 I + a.toInt * 2147483648 ^ I := by rw [← eA]; rfl
      rw [d1, d2, d3, v_pw]
      exact v_sbfId q2

/-! values: products -/
theorem v_setT {f : Nat → Int32} {i n : Nat} {x : Int32} (h : i < n) : vB (upd f i x) n = vB f n + (x.toInt - (f i).toInt) * 2147483648 ^ i := by
  have d1 := v_upd_df (f := f) (x := x) h
  rw [v_upd_in] at d1
  have d2 : vB f (i + 1) = vB f i + (f i).toInt * 2147483648 ^ i := rfl
  rw [d2] at d1
  rw [Int.sub_mul]
  omega
theorem V_fillL {R x1 x2 x3 : Int32} {g0 : Nat → Int32} (hx : x2.toInt ≤ 1000000) : ∀ (n : Nat) (i : Int32) (f : Nat → Int32), 0 ≤ i.toInt → i.toInt ≤ 1000000 → (x2.toInt - i.toInt).toNat < n →
    ∀ k, F_jArr_fill_L10 R x1 x2 x3 g0 n i f k = if i.toInt ≤ (k : Int) ∧ (k : Int) < x2.toInt then x3 else f k := by
  intro n
  induction n with
  | zero => intro i f h1 h2 h3; omega
  | succ n ih =>
    intro i f h1 h2 h3 k
    have ei := q_clI (i := i) rfl h1
    rw [F_jArr_fill_L10.eq_2]
    by_cases hc : x2 ≤ i
    · have := q_leI hc
      rw [if_pos hc, if_neg (by omega)]
    · have := q_nleI hc
      obtain ⟨e1, e2⟩ := v_sc h1 (by omega)
      rw [if_neg hc, ih (i + 1) _ (by omega) (by omega) (by omega) k, e1]
      by_cases hk : k = i.toNatClampNeg
      · subst hk
        rw [if_neg (by omega), if_pos (by omega), v_eq]
      · rw [v_ne hk]
        by_cases h4 : i.toInt + 1 ≤ (k : Int) ∧ (k : Int) < x2.toInt
        · rw [if_pos h4, if_pos (by omega)]
        · rw [if_neg h4, if_neg (by omega)]
theorem V_fill0 {R x2 : Int32} {f : Nat → Int32} (h : 0 ≤ x2.toInt) (h2 : x2.toInt ≤ 220) (k : Nat) : F_jArr_fill R 0 x2 0 f k = if k < x2.toNatClampNeg then 0 else f k := by
  have e := q_clI (i := x2) rfl h
  have e0 : (0 : Int32).toInt = 0 := rfl
  unfold F_jArr_fill
  rw [V_fillL (by omega) _ _ _ (by omega) (by omega) (by omega)]
  by_cases c : k < x2.toNatClampNeg
  · rw [if_pos c, if_pos (by omega)]
  · rw [if_neg c, if_neg (by omega)]
theorem v_zero {f : Nat → Int32} : ∀ {n : Nat}, (∀ k, k < n → f k = 0) → vB f n = 0
  | 0, _ => rfl
  | n + 1, h => by
    have h1 := v_zero (f := f) (n := n) (fun k hk => h k (by omega))
    have e0 : (0 : Int32).toInt = 0 := rfl
    show vB f n + (f n).toInt * _ = 0
    rw [h1, h n (by omega), e0, Int.zero_mul]
    rfl
theorem v_prodId {V m x k a b c P Q A B : Int} (h : m + 2147483648 * k = a * b + x + c) : (V + (m - x) * (P * Q)) + a * (A - (B + b * Q)) * P + k * (P * (Q * 2147483648)) = V + a * (A - B) * P + c * (P * Q) := by
  have h2 : (m + 2147483648 * k) * (P * Q) = (a * b + x + c) * (P * Q) := by rw [h]
  have e1 : a * (b * Q) * P = a * b * (P * Q) := by ac_rfl
  have e2 : k * (P * (Q * 2147483648)) = 2147483648 * k * (P * Q) := by ac_rfl
  simp only [Int.add_mul, Int.sub_mul, Int.mul_sub, Int.mul_add] at h2 ⊢
  omega
theorem V_prodI {K : Int32 → (Nat → Int32) → (Int32 × Int32 × (Nat → Int32))} {R R2 R3 s0 n0 sa na sb nb t ii e : Int32} {g0 ga gb g1 : Nat → Int32} {fa : Int64} (hi : 0 ≤ ii.toInt) (he : 0 ≤ e.toInt) (hie : ii.toInt + e.toInt < t.toInt) (ht : t.toInt ≤ 220) (ha : 0 ≤ fa.toInt) (ha2 : fa.toInt < 2147483648) (okb : okL gb e.toNatClampNeg) :
    ∀ (n : Nat) (j : Int32) (c : Int64) (f : Nat → Int32), 0 ≤ j.toInt → j.toInt ≤ e.toInt → 0 ≤ c.toInt → c.toInt < 2147483648 → okL f t.toNatClampNeg → f (ii.toNatClampNeg + e.toNatClampNeg) = 0 → (e.toInt - j.toInt).toNat < n →
    ∃ h : Nat → Int32, F_Big_product_L69 K R R2 R3 s0 n0 g0 sa na ga sb nb gb t ii g1 fa e n j c f = K (ii + 1) h ∧ okL h t.toNatClampNeg ∧ (∀ k, ii.toNatClampNeg + e.toNatClampNeg < k → h k = f k) ∧
      vB h t.toNatClampNeg = vB f t.toNatClampNeg + fa.toInt * (vB gb e.toNatClampNeg - vB gb j.toNatClampNeg) * 2147483648 ^ ii.toNatClampNeg + c.toInt * (2147483648 ^ ii.toNatClampNeg * 2147483648 ^ j.toNatClampNeg) := by
  have eI := q_clI (i := ii) rfl hi
  have eE := q_clI (i := e) rfl he
  have eT := q_clI (i := t) rfl (by omega)
  intro n
  induction n with
  | zero => intro j c f h1 h2 h3 h4 h5 h6 h7; omega
  | succ n ih =>
    intro j c f h1 h2 h3 h4 h5 h6 h7
    have eJ := q_clI (i := j) rfl h1
    rw [F_Big_product_L69.eq_2]
    by_cases hc : e ≤ j
    · rw [if_pos hc]
      have hj : j = e := Int32.toInt_inj.mp (by have := q_leI hc; omega)
      subst hj
      have s1 : (ii + j : Int32).toInt = ii.toInt + j.toInt := q_addI rfl rfl (by omega) (by omega)
      have s2 : (ii + j : Int32).toNatClampNeg = ii.toNatClampNeg + j.toNatClampNeg := by
        have := q_clI (i := ii + j) s1 (by omega)
        omega
      rw [if_neg (fun hh => by have := q_leI hh; omega), s2]
      have e3 : c.toInt32.toInt = c.toInt := s_l2i (by omega) (by omega)
      refine ⟨_, rfl, okL_upd h5 (by omega), fun k hk => v_ne (by omega), ?_⟩
      have e0 : (0 : Int32).toInt = 0 := rfl
      rw [v_setT (by omega), h6, e3, Int.sub_self, Int.mul_zero, Int.zero_mul, Int.pow_add, e0, Int.sub_zero, Int.add_zero]
    · rw [if_neg hc]
      have hc2 := q_nleI hc
      have s1 : (ii + j : Int32).toInt = ii.toInt + j.toInt := q_addI rfl rfl (by omega) (by omega)
      have s2 : (ii + j : Int32).toNatClampNeg = ii.toNatClampNeg + j.toNatClampNeg := by
        have := q_clI (i := ii + j) s1 (by omega)
        omega
      rw [s2]
      obtain ⟨b, eB⟩ := q_nm (gb j.toNatClampNeg)
      obtain ⟨x, eX⟩ := q_nm (f (ii.toNatClampNeg + j.toNatClampNeg))
      rw [eB, eX]
      have b0 : 0 ≤ b.toInt := by rw [← eB]; exact okb _ (by omega)
      have b1 := Int32.toInt_lt b
      have x0 : 0 ≤ x.toInt := by rw [← eX]; exact h5 _ (by omega)
      have x1 := Int32.toInt_lt x
      have p1 : 0 ≤ fa.toInt * b.toInt := Int.mul_nonneg ha b0
      have p2 : fa.toInt * b.toInt ≤ 2147483647 * 2147483647 := Int.mul_le_mul (by omega) (by omega) b0 (by decide)
      have m1 : (fa * b.toInt64 : Int64).toInt = fa.toInt * b.toInt := q_mulL rfl (q_i2l rfl) (by omega) (by omega)
      have m2 : (fa * b.toInt64 + x.toInt64 : Int64).toInt = fa.toInt * b.toInt + x.toInt := q_addL m1 (q_i2l rfl) (by omega) (by omega)
      have m3 : (fa * b.toInt64 + x.toInt64 + c : Int64).toInt = fa.toInt * b.toInt + x.toInt + c.toInt := q_addL m2 rfl (by omega) (by omega)
      obtain ⟨p, ep⟩ := q_nm (fa * b.toInt64 + x.toInt64 + c : Int64)
      rw [ep] at m3 ⊢
      have m4 := v_and31 (x := p) (by omega)
      have m5 := v_shr31 (x := p) (by omega)
      obtain ⟨c', ec⟩ := q_nm ((p.toUInt64 >>> ((31 : Int32).toInt64.toUInt64 &&& Int64.toUInt64 63)).toInt64)
      obtain ⟨w, ew⟩ := q_nm (p &&& 2147483647 : Int64)
      rw [ec] at m5 ⊢
      rw [ew] at m4 ⊢
      have m6 : w.toInt32.toInt = w.toInt := s_l2i (by omega) (by omega)
      obtain ⟨m, em⟩ := q_nm (w.toInt32)
      rw [em] at m6 ⊢
      have m7 : m.toInt + 2147483648 * c'.toInt = fa.toInt * b.toInt + x.toInt + c.toInt := by omega
      obtain ⟨e1, e2⟩ := v_sc h1 (by omega)
      obtain ⟨h, r1, r2, r3, r4⟩ := ih (j + 1) c' (upd f (ii.toNatClampNeg + j.toNatClampNeg) m) (by omega) (by omega) (by omega) (by omega) (okL_upd h5 (by omega)) (by rw [v_ne (by omega)]; exact h6) (by omega)
      refine ⟨h, r1, r2, fun k hk => by rw [r3 k hk, v_ne (by omega)], ?_⟩
      rw [r4, e2, v_setT (by omega), eX]
      obtain ⟨J, eJJ⟩ := q_nm j.toNatClampNeg
      rw [eJJ] at eB ⊢
      have d2 : vB gb (J + 1) = vB gb J + b.toInt * 2147483648 ^ J := by rw [← eB]; rfl
      rw [d2, v_pw, Int.pow_add]
      exact v_prodId m7
theorem v_proId {V S A a P B : Int} : V + a * (B - 0) * P + 0 * (P * 1) + (S - (A + a * P)) * B = V + (S - A) * B := by
  have e1 : a * B * P = a * P * B := by ac_rfl
  simp only [Int.add_mul, Int.sub_mul, Int.sub_zero, Int.zero_mul]
  omega
theorem V_prodO {R R2 R3 s0 n0 sa na sb nb t : Int32} {g0 ga gb : Nat → Int32} (hsa : 0 ≤ sa.toInt) (hsb : 0 ≤ sb.toInt) (htt : t.toInt = sa.toInt + sb.toInt) (ht : t.toInt ≤ 220) (oka : okL ga sa.toNatClampNeg) (okb : okL gb sb.toNatClampNeg) :
    ∀ (n : Nat) (i : Int32) (f : Nat → Int32), 0 ≤ i.toInt → i.toInt ≤ sa.toInt → okL f t.toNatClampNeg → (∀ k, i.toNatClampNeg + sb.toNatClampNeg ≤ k → k < t.toNatClampNeg → f k = 0) → (sa.toInt - i.toInt).toNat < n →
    ∃ h : Nat → Int32, F_Big_product_L31 R R2 R3 s0 n0 g0 sa na ga sb nb gb t n i f = ((F_Big_trim R t (if na = nb then 0 else 1) h).1, (F_Big_trim R t (if na = nb then 0 else 1) h).2, h) ∧ okL h t.toNatClampNeg ∧
      vB h t.toNatClampNeg = vB f t.toNatClampNeg + (vB ga sa.toNatClampNeg - vB ga i.toNatClampNeg) * vB gb sb.toNatClampNeg := by
  have eA := q_clI (i := sa) rfl hsa
  have eB := q_clI (i := sb) rfl hsb
  have eT := q_clI (i := t) rfl (by omega)
  intro n
  induction n with
  | zero => intro i f h1 h2 h3 h4 h5; omega
  | succ n ih =>
    intro i f h1 h2 h3 h4 h5
    have eI := q_clI (i := i) rfl h1
    rw [F_Big_product_L31.eq_2]
    by_cases hc : sa ≤ i
    · rw [if_pos hc]
      have hi : i = sa := Int32.toInt_inj.mp (by have := q_leI hc; omega)
      subst hi
      refine ⟨f, ?_, h3, by rw [Int.sub_self, Int.zero_mul, Int.add_zero]⟩
      by_cases hn : na = nb
      · rw [if_pos hn, if_pos hn]
      · rw [if_neg hn, if_neg hn]
    · rw [if_neg hc]
      have hc2 := q_nleI hc
      have s1 : (t - i : Int32).toInt = t.toInt - i.toInt := q_subI rfl rfl (by omega) (by omega)
      rw [if_neg (fun hh => by have := q_ltI hh; omega)]
      obtain ⟨a, ea⟩ := q_nm (ga i.toNatClampNeg)
      rw [ea]
      have a0 : 0 ≤ a.toInt := by rw [← ea]; exact oka _ (by omega)
      have a1 := Int32.toInt_lt a
      have a2 : a.toInt64.toInt = a.toInt := q_i2l rfl
      have e0 : (0 : Int32).toInt = 0 := rfl
      have e00 : (0 : Int64).toInt = 0 := rfl
      have e01 : (0 : Int32).toNatClampNeg = 0 := rfl
      obtain ⟨h, r1, r2, r3, r4⟩ := V_prodI (K := F_Big_product_L31 R R2 R3 s0 n0 g0 sa na ga sb nb gb t n) (R := R) (R2 := R2) (R3 := R3) (s0 := s0) (n0 := n0) (sa := sa) (na := na) (sb := sb) (nb := nb) (t := t) (ii := i) (e := sb) (g0 := g0) (ga := ga) (gb := gb) (g1 := f) (fa := a.toInt64) h1 hsb (by omega) ht (by omega) (by omega) okb ((220 - (0 : Int32).toInt).toNat + 1) 0 0 f (by omega) (by omega) (by omega) (by omega) h3 (h4 _ (by omega) (by omega)) (by omega)
      rw [r1]
      obtain ⟨e1, e2⟩ := v_sc h1 (by omega)
      obtain ⟨h', w1, w2, w3⟩ := ih (i + 1) h (by omega) (by omega) r2 (fun k hk hk2 => by rw [r3 k (by omega)]; exact h4 k (by omega) hk2) (by omega)
      refine ⟨h', w1, w2, ?_⟩
      rw [w3, r4, e2, e00, e01, a2]
      obtain ⟨I, eII⟩ := q_nm i.toNatClampNeg
      rw [eII] at ea ⊢
      have d2 : vB ga (I + 1) = vB ga I + a.toInt * 2147483648 ^ I := by rw [← ea]; rfl
      rw [d2]
      exact v_proId
/-- trim as a whole -/
theorem V_trimT {R s neg : Int32} {f : Nat → Int32} (hs : 0 ≤ s.toInt) (hs2 : s.toInt ≤ 1000000) : ∃ z : Int32, F_Big_trim R s neg f = (z, if neg = 0 then 0 else if z ≤ 0 then 0 else 1) ∧ 0 ≤ z.toInt ∧ z.toInt ≤ s.toInt ∧ (0 < z.toInt → f (z.toNatClampNeg - 1) ≠ 0) ∧ vB f z.toNatClampNeg = vB f s.toNatClampNeg := by
  unfold F_Big_trim
  exact V_trim _ _ hs (by omega)
theorem V_product {R R2 R3 s0 n0 sa na sb nb : Int32} {g0 ga gb : Nat → Int32} (hsa : 0 ≤ sa.toInt) (hsb : 0 ≤ sb.toInt) (hR : R.toInt ≤ 220) (hf : sa.toInt + sb.toInt ≤ R.toInt) (oka : okL ga sa.toNatClampNeg) (okb : okL gb sb.toNatClampNeg) :
    ∃ (z : Int32) (h : Nat → Int32), F_Big_product R R2 R3 s0 n0 g0 sa na ga sb nb gb = (z, if na = nb then 0 else if z ≤ 0 then 0 else 1, h) ∧ 0 ≤ z.toInt ∧ z.toInt ≤ sa.toInt + sb.toInt ∧ okL h z.toNatClampNeg ∧ (0 < z.toInt → h (z.toNatClampNeg - 1) ≠ 0) ∧
      vB h z.toNatClampNeg = vB ga sa.toNatClampNeg * vB gb sb.toNatClampNeg := by
  have s1 : (sa + sb : Int32).toInt = sa.toInt + sb.toInt := q_addI rfl rfl (by omega) (by omega)
  have e0 : (0 : Int32).toInt = 0 := rfl
  have e01 : (0 : Int32).toNatClampNeg = 0 := rfl
  have hlt : ¬ R < (sa + sb : Int32) := fun hh => by have := q_ltI hh; omega
  unfold F_Big_product
  rw [if_neg hlt]
  have eT := q_clI (i := sa + sb) s1 (by omega)
  obtain ⟨t, et⟩ := q_nm (sa + sb : Int32)
  rw [et] at s1 eT ⊢
  have fz := fun k => V_fill0 (R := R) (x2 := t) (f := g0) (by omega) (by omega) k
  obtain ⟨f, ef⟩ := q_nm (F_jArr_fill R 0 t 0 g0)
  rw [ef] at fz ⊢
  have hz : ∀ k, k < t.toNatClampNeg → f k = 0 := fun k hk => by rw [fz, if_pos hk]
  obtain ⟨h, r1, r2, r3⟩ := V_prodO (R := R) (R2 := R2) (R3 := R3) (s0 := s0) (n0 := n0) (sa := sa) (na := na) (sb := sb) (nb := nb) (t := t) (g0 := g0) (ga := ga) (gb := gb) hsa hsb s1 (by omega) oka okb ((220 - (0 : Int32).toInt).toNat + 1) 0 f (by omega) (by omega) (fun k hk => by rw [hz k hk, e0]; exact Int.le_refl 0) (fun k _ hk => hz k hk) (by omega)
  obtain ⟨z, t1, t2, t3, t4, t5⟩ := V_trimT (R := R) (s := t) (neg := if na = nb then 0 else 1) (f := h) (by omega) (by omega)
  rw [r1, t1]
  refine ⟨z, h, ?_, t2, by omega, r2.mono (by have := q_clI (i := z) rfl t2; omega), t4, ?_⟩
  · by_cases hn : na = nb
    · rw [if_pos hn, if_pos hn, if_pos rfl]
    · rw [if_neg hn, if_neg hn, if_neg (by decide)]
  · rw [t5, r3, v_zero hz, e01]
    show 0 + (_ - 0) * _ = _
    rw [Int.sub_zero, Int.zero_add]

