/-! NumberHouse, exactly: s5.print -/
theorem d_1_17_0 : decode prog_1_method_17_code 0 = .ok (.iload_n 1, 1) := by decide +kernel
theorem d_1_17_1 : decode prog_1_method_17_code 1 = .ok (.iload_n 2, 1) := by decide +kernel
theorem d_1_17_2 : decode prog_1_method_17_code 2 = .ok (.invokestatic 118, 3) := by decide +kernel
theorem d_1_17_5 : decode prog_1_method_17_code 5 = .ok (.iload_n 1, 1) := by decide +kernel
theorem d_1_17_6 : decode prog_1_method_17_code 6 = .ok (.ifCond .ne 39, 3) := by decide +kernel
theorem d_1_17_45 : decode prog_1_method_17_code 45 = .ok (.iload_n 1, 1) := by decide +kernel
theorem d_1_17_46 : decode prog_1_method_17_code 46 = .ok (.iconst 1, 1) := by decide +kernel
theorem d_1_17_47 : decode prog_1_method_17_code 47 = .ok (.if_icmp .ne 37, 3) := by decide +kernel
theorem d_1_17_84 : decode prog_1_method_17_code 84 = .ok (.iload_n 3, 1) := by decide +kernel
theorem d_1_17_98 : decode prog_1_method_17_code 98 = .ok (.invokestatic 104, 3) := by decide +kernel
theorem d_1_17_101 : decode prog_1_method_17_code 101 = .ok (.aload_n 0, 1) := by decide +kernel
theorem d_1_17_102 : decode prog_1_method_17_code 102 = .ok (.getfield 89, 3) := by decide +kernel
theorem d_1_17_105 : decode prog_1_method_17_code 105 = .ok (.aload_n 0, 1) := by decide +kernel
theorem d_1_17_106 : decode prog_1_method_17_code 106 = .ok (.iload_n 1, 1) := by decide +kernel
theorem d_1_17_107 : decode prog_1_method_17_code 107 = .ok (.invokevirtual 130, 3) := by decide +kernel
theorem d_1_17_110 : decode prog_1_method_17_code 110 = .ok (.aload_n 0, 1) := by decide +kernel
theorem d_1_17_111 : decode prog_1_method_17_code 111 = .ok (.iload_n 1, 1) := by decide +kernel
theorem d_1_17_112 : decode prog_1_method_17_code 112 = .ok (.invokevirtual 157, 3) := by decide +kernel
theorem d_1_17_115 : decode prog_1_method_17_code 115 = .ok (.iload_n 2, 1) := by decide +kernel
theorem d_1_17_116 : decode prog_1_method_17_code 116 = .ok (.laload, 1) := by decide +kernel
theorem d_1_17_117 : decode prog_1_method_17_code 117 = .ok (.iload_n 3, 1) := by decide +kernel
theorem d_1_17_118 : decode prog_1_method_17_code 118 = .ok (.iconst 1, 1) := by decide +kernel
theorem d_1_17_119 : decode prog_1_method_17_code 119 = .ok (.if_icmp .ne 7, 3) := by decide +kernel
theorem d_1_17_126 : decode prog_1_method_17_code 126 = .ok (.iconst 0, 1) := by decide +kernel
theorem d_1_17_127 : decode prog_1_method_17_code 127 = .ok (.invokevirtual 332, 3) := by decide +kernel
set_option maxRecDepth 100000 in
theorem w_1601 : (Cond.code ({ cls := "NumberHouse$Writer", name := "floatText", desc := "(LNumberHouse$Floats;JZ)V" } : MethodName) prog_12_method_6_code (5 : Nat) (none : Option ClassFile.FieldType)) ∈ q_tbl := q_of7 161 rfl (by decide +kernel)
set_option maxRecDepth 100000 in
theorem w_1598 : (Cond.methodLink "NumberHouse" (332 : Nat) ({ cls := "NumberHouse$Writer", name := "floatText", desc := "(LNumberHouse$Floats;JZ)V" } : MethodName)) ∈ q_tbl := q_of7 158 rfl (by decide +kernel)
set_option maxRecDepth 100000 in
theorem w_1599 : (Cond.instanceMethod ({ cls := "NumberHouse$Writer", name := "floatText", desc := "(LNumberHouse$Floats;JZ)V" } : MethodName)) ∈ q_tbl := q_of7 159 rfl (by decide +kernel)
set_option maxRecDepth 100000 in
theorem w_1600 : (Cond.selects "NumberHouse$Writer" ({ cls := "NumberHouse$Writer", name := "floatText", desc := "(LNumberHouse$Floats;JZ)V" } : MethodName) ({ cls := "NumberHouse$Writer", name := "floatText", desc := "(LNumberHouse$Floats;JZ)V" } : MethodName)) ∈ q_tbl := q_of7 160 rfl (by decide +kernel)
theorem LV_NH_332 : q_LV "NumberHouse" 332 y_Wri_floatText prog_12_method_6_code 5 none 3 := ⟨w_1601, w_11, w_1598, w_1599, w_1600, ⟨by decide, by decide, by decide +kernel⟩⟩
theorem d_1_17_130 : decode prog_1_method_17_code 130 = .ok (.aload_n 0, 1) := by decide +kernel
theorem d_1_17_131 : decode prog_1_method_17_code 131 = .ok (.getfield 18, 3) := by decide +kernel
theorem d_1_17_134 : decode prog_1_method_17_code 134 = .ok (.getfield 108, 3) := by decide +kernel
theorem d_1_17_137 : decode prog_1_method_17_code 137 = .ok (.ireturn, 1) := by decide +kernel
theorem d_1_17_122 : decode prog_1_method_17_code 122 = .ok (.iconst 1, 1) := by decide +kernel
theorem d_1_17_123 : decode prog_1_method_17_code 123 = .ok (.goto 4, 3) := by decide +kernel
theorem d_1_17_97 : decode prog_1_method_17_code 97 = .ok (.iconst 0, 1) := by decide +kernel
theorem d_1_17_85 : decode prog_1_method_17_code 85 = .ok (.ifCond .lt 12, 3) := by decide +kernel
theorem d_1_17_88 : decode prog_1_method_17_code 88 = .ok (.iload_n 3, 1) := by decide +kernel
theorem d_1_17_89 : decode prog_1_method_17_code 89 = .ok (.iconst 1, 1) := by decide +kernel
theorem d_1_17_90 : decode prog_1_method_17_code 90 = .ok (.if_icmp .gt 7, 3) := by decide +kernel
theorem d_1_17_93 : decode prog_1_method_17_code 93 = .ok (.iconst 1, 1) := by decide +kernel
theorem d_1_17_94 : decode prog_1_method_17_code 94 = .ok (.goto 4, 3) := by decide +kernel
theorem d_1_17_50 : decode prog_1_method_17_code 50 = .ok (.iload_n 3, 1) := by decide +kernel
theorem d_1_17_64 : decode prog_1_method_17_code 64 = .ok (.invokestatic 104, 3) := by decide +kernel
theorem d_1_17_67 : decode prog_1_method_17_code 67 = .ok (.aload_n 0, 1) := by decide +kernel
theorem d_1_17_68 : decode prog_1_method_17_code 68 = .ok (.getfield 89, 3) := by decide +kernel
theorem d_1_17_71 : decode prog_1_method_17_code 71 = .ok (.aload_n 0, 1) := by decide +kernel
theorem d_1_17_72 : decode prog_1_method_17_code 72 = .ok (.getfield 29, 3) := by decide +kernel
theorem d_1_17_75 : decode prog_1_method_17_code 75 = .ok (.iload_n 2, 1) := by decide +kernel
theorem d_1_17_76 : decode prog_1_method_17_code 76 = .ok (.aaload, 1) := by decide +kernel
theorem d_1_17_77 : decode prog_1_method_17_code 77 = .ok (.iload_n 3, 1) := by decide +kernel
theorem d_1_17_78 : decode prog_1_method_17_code 78 = .ok (.invokevirtual 329, 3) := by decide +kernel
set_option maxRecDepth 100000 in
theorem w_1564 : (Cond.code ({ cls := "NumberHouse$Writer", name := "decimalText", desc := "(LNumberHouse$Dec;I)V" } : MethodName) prog_12_method_3_code (5 : Nat) (none : Option ClassFile.FieldType)) ∈ q_tbl := q_of7 124 rfl (by decide +kernel)
set_option maxRecDepth 100000 in
theorem w_1561 : (Cond.methodLink "NumberHouse" (329 : Nat) ({ cls := "NumberHouse$Writer", name := "decimalText", desc := "(LNumberHouse$Dec;I)V" } : MethodName)) ∈ q_tbl := q_of7 121 rfl (by decide +kernel)
set_option maxRecDepth 100000 in
theorem w_1562 : (Cond.instanceMethod ({ cls := "NumberHouse$Writer", name := "decimalText", desc := "(LNumberHouse$Dec;I)V" } : MethodName)) ∈ q_tbl := q_of7 122 rfl (by decide +kernel)
set_option maxRecDepth 100000 in
theorem w_1563 : (Cond.selects "NumberHouse$Writer" ({ cls := "NumberHouse$Writer", name := "decimalText", desc := "(LNumberHouse$Dec;I)V" } : MethodName) ({ cls := "NumberHouse$Writer", name := "decimalText", desc := "(LNumberHouse$Dec;I)V" } : MethodName)) ∈ q_tbl := q_of7 123 rfl (by decide +kernel)
theorem LV_NH_329 : q_LV "NumberHouse" 329 y_Wri_decimalText prog_12_method_3_code 5 none 2 := ⟨w_1564, w_11, w_1561, w_1562, w_1563, ⟨by decide, by decide, by decide +kernel⟩⟩
theorem d_1_17_81 : decode prog_1_method_17_code 81 = .ok (.goto 49, 3) := by decide +kernel
theorem d_1_17_63 : decode prog_1_method_17_code 63 = .ok (.iconst 0, 1) := by decide +kernel
theorem d_1_17_51 : decode prog_1_method_17_code 51 = .ok (.ifCond .lt 12, 3) := by decide +kernel
theorem d_1_17_54 : decode prog_1_method_17_code 54 = .ok (.iload_n 3, 1) := by decide +kernel
theorem d_1_17_55 : decode prog_1_method_17_code 55 = .ok (.iconst 2, 1) := by decide +kernel
theorem d_1_17_56 : decode prog_1_method_17_code 56 = .ok (.if_icmp .gt 7, 3) := by decide +kernel
theorem d_1_17_59 : decode prog_1_method_17_code 59 = .ok (.iconst 1, 1) := by decide +kernel
theorem d_1_17_60 : decode prog_1_method_17_code 60 = .ok (.goto 4, 3) := by decide +kernel
theorem d_1_17_9 : decode prog_1_method_17_code 9 = .ok (.iload_n 3, 1) := by decide +kernel
theorem d_1_17_10 : decode prog_1_method_17_code 10 = .ok (.iconst 2, 1) := by decide +kernel
theorem d_1_17_25 : decode prog_1_method_17_code 25 = .ok (.invokestatic 104, 3) := by decide +kernel
theorem d_1_17_28 : decode prog_1_method_17_code 28 = .ok (.aload_n 0, 1) := by decide +kernel
theorem d_1_17_29 : decode prog_1_method_17_code 29 = .ok (.getfield 89, 3) := by decide +kernel
theorem d_1_17_32 : decode prog_1_method_17_code 32 = .ok (.aload_n 0, 1) := by decide +kernel
theorem d_1_17_33 : decode prog_1_method_17_code 33 = .ok (.getfield 23, 3) := by decide +kernel
theorem d_1_17_36 : decode prog_1_method_17_code 36 = .ok (.iload_n 2, 1) := by decide +kernel
theorem d_1_17_37 : decode prog_1_method_17_code 37 = .ok (.aaload, 1) := by decide +kernel
theorem d_1_17_38 : decode prog_1_method_17_code 38 = .ok (.iload_n 3, 1) := by decide +kernel
theorem d_1_17_39 : decode prog_1_method_17_code 39 = .ok (.invokevirtual 327, 3) := by decide +kernel
set_option maxRecDepth 100000 in
theorem w_1540 : (Cond.code ({ cls := "NumberHouse$Writer", name := "wholeText", desc := "(LNumberHouse$Big;I)V" } : MethodName) prog_12_method_2_code (9 : Nat) (none : Option ClassFile.FieldType)) ∈ q_tbl := q_of7 100 rfl (by decide +kernel)
set_option maxRecDepth 100000 in
theorem w_1537 : (Cond.methodLink "NumberHouse" (327 : Nat) ({ cls := "NumberHouse$Writer", name := "wholeText", desc := "(LNumberHouse$Big;I)V" } : MethodName)) ∈ q_tbl := q_of7 97 rfl (by decide +kernel)
set_option maxRecDepth 100000 in
theorem w_1538 : (Cond.instanceMethod ({ cls := "NumberHouse$Writer", name := "wholeText", desc := "(LNumberHouse$Big;I)V" } : MethodName)) ∈ q_tbl := q_of7 98 rfl (by decide +kernel)
set_option maxRecDepth 100000 in
theorem w_1539 : (Cond.selects "NumberHouse$Writer" ({ cls := "NumberHouse$Writer", name := "wholeText", desc := "(LNumberHouse$Big;I)V" } : MethodName) ({ cls := "NumberHouse$Writer", name := "wholeText", desc := "(LNumberHouse$Big;I)V" } : MethodName)) ∈ q_tbl := q_of7 99 rfl (by decide +kernel)
theorem LV_NH_327 : q_LV "NumberHouse" 327 y_Wri_wholeText prog_12_method_2_code 9 none 2 := ⟨w_1540, w_11, w_1537, w_1538, w_1539, ⟨by decide, by decide, by decide +kernel⟩⟩
theorem d_1_17_42 : decode prog_1_method_17_code 42 = .ok (.goto 88, 3) := by decide +kernel
theorem d_1_17_24 : decode prog_1_method_17_code 24 = .ok (.iconst 0, 1) := by decide +kernel
theorem d_1_17_11 : decode prog_1_method_17_code 11 = .ok (.if_icmp .lt 13, 3) := by decide +kernel
theorem d_1_17_14 : decode prog_1_method_17_code 14 = .ok (.iload_n 3, 1) := by decide +kernel
theorem d_1_17_15 : decode prog_1_method_17_code 15 = .ok (.bipush 36, 2) := by decide +kernel
theorem d_1_17_17 : decode prog_1_method_17_code 17 = .ok (.if_icmp .gt 7, 3) := by decide +kernel
theorem d_1_17_20 : decode prog_1_method_17_code 20 = .ok (.iconst 1, 1) := by decide +kernel
theorem d_1_17_21 : decode prog_1_method_17_code 21 = .ok (.goto 4, 3) := by decide +kernel
def y_NH_print : MethodName := ⟨"NumberHouse", "print", "(III)I"⟩
def F_NH_print_c127 (x2 : Int32) (x3 : Int32) (x4 : Int32) (t0_0 : Int32) (t1_0 : (Nat → Int64)) (t2_0 : Int32) (t2_1 : Int32) (t3_0 : (Nat → Int32)) (t4_0 : Int32) (t4_1 : Int32) (t5_0 : (Nat → Int32)) (t6_0 : (Nat → Int64)) (t7_0 : (Nat → Int64)) (t8_0 : Int32) (t8_1 : Int32) (t9_0 : (Nat → Int32)) (t10_0 : Int32) (t10_1 : Int32) (t11_0 : (Nat → Int32)) (t12_0 : Int32) (t12_1 : Int32) (t13_0 : (Nat → Int32)) (t14_0 : Int32) (t14_1 : Int32) (t15_0 : (Nat → Int32)) (t16_0 : Int64) (t16_1 : Int32) (t16_2 : Int32) (t17_0 : Int64) (t17_1 : Int32) (t17_2 : Int32) (t18_0 : Int32) (t18_1 : Int32) (t19_0 : (Nat → Int32)) (t20_0 : Int32) (t20_1 : Int32) (t21_0 : Int32) (t21_1 : Int32) (t22_0 : (Nat → Int32)) (lx100 : Int32) (p243 : (Int32 × (Nat → Int64) × Int32 × Int32 × (Nat → Int32) × Int32 × Int32 × (Nat → Int32) × Int32 × Int32 × (Nat → Int32) × Int32 × Int32 × (Nat → Int32) × Int32 × Int32 × (Nat → Int32) × Int32 × Int32 × (Nat → Int32) × Int64 × Int32 × Int32)) : Int32 × Int32 × Int32 × (Nat → Int64) × Int32 × Int32 × (Nat → Int32) × Int32 × Int32 × (Nat → Int32) × Int32 × Int32 × (Nat → Int32) × Int32 × Int32 × (Nat → Int32) × Int32 × Int32 × (Nat → Int32) × Int32 × Int32 × (Nat → Int32) × Int64 × Int32 × Int32 × Int64 × Int32 × Int32 := ((0 : Int32), (p243.1 : Int32), (p243.1 : Int32), (p243.2.1 : (Nat → Int64)), (p243.2.2.2.2.2.1 : Int32), (p243.2.2.2.2.2.2.1 : Int32), (p243.2.2.2.2.2.2.2.1 : (Nat → Int32)), (p243.2.2.1 : Int32), (p243.2.2.2.1 : Int32), (p243.2.2.2.2.1 : (Nat → Int32)), (p243.2.2.2.2.2.2.2.2.1 : Int32), (p243.2.2.2.2.2.2.2.2.2.1 : Int32), (p243.2.2.2.2.2.2.2.2.2.2.1 : (Nat → Int32)), (p243.2.2.2.2.2.2.2.2.2.2.2.1 : Int32), (p243.2.2.2.2.2.2.2.2.2.2.2.2.1 : Int32), (p243.2.2.2.2.2.2.2.2.2.2.2.2.2.1 : (Nat → Int32)), (p243.2.2.2.2.2.2.2.2.2.2.2.2.2.2.1 : Int32), (p243.2.2.2.2.2.2.2.2.2.2.2.2.2.2.2.1 : Int32), (p243.2.2.2.2.2.2.2.2.2.2.2.2.2.2.2.2.1 : (Nat → Int32)), (p243.2.2.2.2.2.2.2.2.2.2.2.2.2.2.2.2.2.1 : Int32), (p243.2.2.2.2.2.2.2.2.2.2.2.2.2.2.2.2.2.2.1 : Int32), (p243.2.2.2.2.2.2.2.2.2.2.2.2.2.2.2.2.2.2.2.1 : (Nat → Int32)), (p243.2.2.2.2.2.2.2.2.2.2.2.2.2.2.2.2.2.2.2.2.1 : Int64), (p243.2.2.2.2.2.2.2.2.2.2.2.2.2.2.2.2.2.2.2.2.2.1 : Int32), (p243.2.2.2.2.2.2.2.2.2.2.2.2.2.2.2.2.2.2.2.2.2.2 : Int32), t17_0, t17_1, t17_2)
def F_NH_print_c127_3 (x2 : Int32) (x3 : Int32) (x4 : Int32) (t0_0 : Int32) (t1_0 : (Nat → Int64)) (t2_0 : Int32) (t2_1 : Int32) (t3_0 : (Nat → Int32)) (t4_0 : Int32) (t4_1 : Int32) (t5_0 : (Nat → Int32)) (t6_0 : (Nat → Int64)) (t7_0 : (Nat → Int64)) (t8_0 : Int32) (t8_1 : Int32) (t9_0 : (Nat → Int32)) (t10_0 : Int32) (t10_1 : Int32) (t11_0 : (Nat → Int32)) (t12_0 : Int32) (t12_1 : Int32) (t13_0 : (Nat → Int32)) (t14_0 : Int32) (t14_1 : Int32) (t15_0 : (Nat → Int32)) (t16_0 : Int64) (t16_1 : Int32) (t16_2 : Int32) (t17_0 : Int64) (t17_1 : Int32) (t17_2 : Int32) (t18_0 : Int32) (t18_1 : Int32) (t19_0 : (Nat → Int32)) (t20_0 : Int32) (t20_1 : Int32) (t21_0 : Int32) (t21_1 : Int32) (t22_0 : (Nat → Int32)) (lx100 : Int32) (p355 : (Int32 × (Nat → Int64) × Int32 × Int32 × (Nat → Int32) × Int32 × Int32 × (Nat → Int32) × Int32 × Int32 × (Nat → Int32) × Int32 × Int32 × (Nat → Int32) × Int32 × Int32 × (Nat → Int32) × Int32 × Int32 × (Nat → Int32) × Int64 × Int32 × Int32)) : Int32 × Int32 × Int32 × (Nat → Int64) × Int32 × Int32 × (Nat → Int32) × Int32 × Int32 × (Nat → Int32) × Int32 × Int32 × (Nat → Int32) × Int32 × Int32 × (Nat → Int32) × Int32 × Int32 × (Nat → Int32) × Int32 × Int32 × (Nat → Int32) × Int64 × Int32 × Int32 × Int64 × Int32 × Int32 := ((0 : Int32), (p355.1 : Int32), (p355.1 : Int32), (p355.2.1 : (Nat → Int64)), (p355.2.2.2.2.2.1 : Int32), (p355.2.2.2.2.2.2.1 : Int32), (p355.2.2.2.2.2.2.2.1 : (Nat → Int32)), (p355.2.2.1 : Int32), (p355.2.2.2.1 : Int32), (p355.2.2.2.2.1 : (Nat → Int32)), (p355.2.2.2.2.2.2.2.2.1 : Int32), (p355.2.2.2.2.2.2.2.2.2.1 : Int32), (p355.2.2.2.2.2.2.2.2.2.2.1 : (Nat → Int32)), (p355.2.2.2.2.2.2.2.2.2.2.2.1 : Int32), (p355.2.2.2.2.2.2.2.2.2.2.2.2.1 : Int32), (p355.2.2.2.2.2.2.2.2.2.2.2.2.2.1 : (Nat → Int32)), (p355.2.2.2.2.2.2.2.2.2.2.2.2.2.2.1 : Int32), (p355.2.2.2.2.2.2.2.2.2.2.2.2.2.2.2.1 : Int32), (p355.2.2.2.2.2.2.2.2.2.2.2.2.2.2.2.2.1 : (Nat → Int32)), (p355.2.2.2.2.2.2.2.2.2.2.2.2.2.2.2.2.2.1 : Int32), (p355.2.2.2.2.2.2.2.2.2.2.2.2.2.2.2.2.2.2.1 : Int32), (p355.2.2.2.2.2.2.2.2.2.2.2.2.2.2.2.2.2.2.2.1 : (Nat → Int32)), (p355.2.2.2.2.2.2.2.2.2.2.2.2.2.2.2.2.2.2.2.2.1 : Int64), (p355.2.2.2.2.2.2.2.2.2.2.2.2.2.2.2.2.2.2.2.2.2.1 : Int32), (p355.2.2.2.2.2.2.2.2.2.2.2.2.2.2.2.2.2.2.2.2.2.2 : Int32), t17_0, t17_1, t17_2)
def F_NH_print_c127_4 (x2 : Int32) (x3 : Int32) (x4 : Int32) (t0_0 : Int32) (t1_0 : (Nat → Int64)) (t2_0 : Int32) (t2_1 : Int32) (t3_0 : (Nat → Int32)) (t4_0 : Int32) (t4_1 : Int32) (t5_0 : (Nat → Int32)) (t6_0 : (Nat → Int64)) (t7_0 : (Nat → Int64)) (t8_0 : Int32) (t8_1 : Int32) (t9_0 : (Nat → Int32)) (t10_0 : Int32) (t10_1 : Int32) (t11_0 : (Nat → Int32)) (t12_0 : Int32) (t12_1 : Int32) (t13_0 : (Nat → Int32)) (t14_0 : Int32) (t14_1 : Int32) (t15_0 : (Nat → Int32)) (t16_0 : Int64) (t16_1 : Int32) (t16_2 : Int32) (t17_0 : Int64) (t17_1 : Int32) (t17_2 : Int32) (t18_0 : Int32) (t18_1 : Int32) (t19_0 : (Nat → Int32)) (t20_0 : Int32) (t20_1 : Int32) (t21_0 : Int32) (t21_1 : Int32) (t22_0 : (Nat → Int32)) (lx100 : Int32) (p474 : (Int32 × (Nat → Int64) × Int32 × Int32 × (Nat → Int32) × Int32 × Int32 × (Nat → Int32) × Int32 × Int32 × (Nat → Int32) × Int32 × Int32 × (Nat → Int32) × Int32 × Int32 × (Nat → Int32) × Int32 × Int32 × (Nat → Int32) × Int64 × Int32 × Int32)) : Int32 × Int32 × Int32 × (Nat → Int64) × Int32 × Int32 × (Nat → Int32) × Int32 × Int32 × (Nat → Int32) × Int32 × Int32 × (Nat → Int32) × Int32 × Int32 × (Nat → Int32) × Int32 × Int32 × (Nat → Int32) × Int32 × Int32 × (Nat → Int32) × Int64 × Int32 × Int32 × Int64 × Int32 × Int32 := ((0 : Int32), (p474.1 : Int32), (p474.1 : Int32), (p474.2.1 : (Nat → Int64)), (p474.2.2.2.2.2.1 : Int32), (p474.2.2.2.2.2.2.1 : Int32), (p474.2.2.2.2.2.2.2.1 : (Nat → Int32)), (p474.2.2.1 : Int32), (p474.2.2.2.1 : Int32), (p474.2.2.2.2.1 : (Nat → Int32)), (p474.2.2.2.2.2.2.2.2.1 : Int32), (p474.2.2.2.2.2.2.2.2.2.1 : Int32), (p474.2.2.2.2.2.2.2.2.2.2.1 : (Nat → Int32)), (p474.2.2.2.2.2.2.2.2.2.2.2.1 : Int32), (p474.2.2.2.2.2.2.2.2.2.2.2.2.1 : Int32), (p474.2.2.2.2.2.2.2.2.2.2.2.2.2.1 : (Nat → Int32)), (p474.2.2.2.2.2.2.2.2.2.2.2.2.2.2.1 : Int32), (p474.2.2.2.2.2.2.2.2.2.2.2.2.2.2.2.1 : Int32), (p474.2.2.2.2.2.2.2.2.2.2.2.2.2.2.2.2.1 : (Nat → Int32)), (p474.2.2.2.2.2.2.2.2.2.2.2.2.2.2.2.2.2.1 : Int32), (p474.2.2.2.2.2.2.2.2.2.2.2.2.2.2.2.2.2.2.1 : Int32), (p474.2.2.2.2.2.2.2.2.2.2.2.2.2.2.2.2.2.2.2.1 : (Nat → Int32)), (p474.2.2.2.2.2.2.2.2.2.2.2.2.2.2.2.2.2.2.2.2.1 : Int64), (p474.2.2.2.2.2.2.2.2.2.2.2.2.2.2.2.2.2.2.2.2.2.1 : Int32), (p474.2.2.2.2.2.2.2.2.2.2.2.2.2.2.2.2.2.2.2.2.2.2 : Int32), t17_0, t17_1, t17_2)
def F_NH_print_c127_5 (x2 : Int32) (x3 : Int32) (x4 : Int32) (t0_0 : Int32) (t1_0 : (Nat → Int64)) (t2_0 : Int32) (t2_1 : Int32) (t3_0 : (Nat → Int32)) (t4_0 : Int32) (t4_1 : Int32) (t5_0 : (Nat → Int32)) (t6_0 : (Nat → Int64)) (t7_0 : (Nat → Int64)) (t8_0 : Int32) (t8_1 : Int32) (t9_0 : (Nat → Int32)) (t10_0 : Int32) (t10_1 : Int32) (t11_0 : (Nat → Int32)) (t12_0 : Int32) (t12_1 : Int32) (t13_0 : (Nat → Int32)) (t14_0 : Int32) (t14_1 : Int32) (t15_0 : (Nat → Int32)) (t16_0 : Int64) (t16_1 : Int32) (t16_2 : Int32) (t17_0 : Int64) (t17_1 : Int32) (t17_2 : Int32) (t18_0 : Int32) (t18_1 : Int32) (t19_0 : (Nat → Int32)) (t20_0 : Int32) (t20_1 : Int32) (t21_0 : Int32) (t21_1 : Int32) (t22_0 : (Nat → Int32)) (lx100 : Int32) (p586 : (Int32 × (Nat → Int64) × Int32 × Int32 × (Nat → Int32) × Int32 × Int32 × (Nat → Int32) × Int32 × Int32 × (Nat → Int32) × Int32 × Int32 × (Nat → Int32) × Int32 × Int32 × (Nat → Int32) × Int32 × Int32 × (Nat → Int32) × Int64 × Int32 × Int32)) : Int32 × Int32 × Int32 × (Nat → Int64) × Int32 × Int32 × (Nat → Int32) × Int32 × Int32 × (Nat → Int32) × Int32 × Int32 × (Nat → Int32) × Int32 × Int32 × (Nat → Int32) × Int32 × Int32 × (Nat → Int32) × Int32 × Int32 × (Nat → Int32) × Int64 × Int32 × Int32 × Int64 × Int32 × Int32 := ((0 : Int32), (p586.1 : Int32), (p586.1 : Int32), (p586.2.1 : (Nat → Int64)), (p586.2.2.2.2.2.1 : Int32), (p586.2.2.2.2.2.2.1 : Int32), (p586.2.2.2.2.2.2.2.1 : (Nat → Int32)), (p586.2.2.1 : Int32), (p586.2.2.2.1 : Int32), (p586.2.2.2.2.1 : (Nat → Int32)), (p586.2.2.2.2.2.2.2.2.1 : Int32), (p586.2.2.2.2.2.2.2.2.2.1 : Int32), (p586.2.2.2.2.2.2.2.2.2.2.1 : (Nat → Int32)), (p586.2.2.2.2.2.2.2.2.2.2.2.1 : Int32), (p586.2.2.2.2.2.2.2.2.2.2.2.2.1 : Int32), (p586.2.2.2.2.2.2.2.2.2.2.2.2.2.1 : (Nat → Int32)), (p586.2.2.2.2.2.2.2.2.2.2.2.2.2.2.1 : Int32), (p586.2.2.2.2.2.2.2.2.2.2.2.2.2.2.2.1 : Int32), (p586.2.2.2.2.2.2.2.2.2.2.2.2.2.2.2.2.1 : (Nat → Int32)), (p586.2.2.2.2.2.2.2.2.2.2.2.2.2.2.2.2.2.1 : Int32), (p586.2.2.2.2.2.2.2.2.2.2.2.2.2.2.2.2.2.2.1 : Int32), (p586.2.2.2.2.2.2.2.2.2.2.2.2.2.2.2.2.2.2.2.1 : (Nat → Int32)), (p586.2.2.2.2.2.2.2.2.2.2.2.2.2.2.2.2.2.2.2.2.1 : Int64), (p586.2.2.2.2.2.2.2.2.2.2.2.2.2.2.2.2.2.2.2.2.2.1 : Int32), (p586.2.2.2.2.2.2.2.2.2.2.2.2.2.2.2.2.2.2.2.2.2.2 : Int32), t17_0, t17_1, t17_2)
def F_NH_print_c127_6 (x2 : Int32) (x3 : Int32) (x4 : Int32) (t0_0 : Int32) (t1_0 : (Nat → Int64)) (t2_0 : Int32) (t2_1 : Int32) (t3_0 : (Nat → Int32)) (t4_0 : Int32) (t4_1 : Int32) (t5_0 : (Nat → Int32)) (t6_0 : (Nat → Int64)) (t7_0 : (Nat → Int64)) (t8_0 : Int32) (t8_1 : Int32) (t9_0 : (Nat → Int32)) (t10_0 : Int32) (t10_1 : Int32) (t11_0 : (Nat → Int32)) (t12_0 : Int32) (t12_1 : Int32) (t13_0 : (Nat → Int32)) (t14_0 : Int32) (t14_1 : Int32) (t15_0 : (Nat → Int32)) (t16_0 : Int64) (t16_1 : Int32) (t16_2 : Int32) (t17_0 : Int64) (t17_1 : Int32) (t17_2 : Int32) (t18_0 : Int32) (t18_1 : Int32) (t19_0 : (Nat → Int32)) (t20_0 : Int32) (t20_1 : Int32) (t21_0 : Int32) (t21_1 : Int32) (t22_0 : (Nat → Int32)) (lx100 : Int32) (p712 : (Int32 × (Nat → Int64) × Int32 × Int32 × (Nat → Int32) × Int32 × Int32 × (Nat → Int32) × Int32 × Int32 × (Nat → Int32) × Int32 × Int32 × (Nat → Int32) × Int32 × Int32 × (Nat → Int32) × Int32 × Int32 × (Nat → Int32) × Int64 × Int32 × Int32)) : Int32 × Int32 × Int32 × (Nat → Int64) × Int32 × Int32 × (Nat → Int32) × Int32 × Int32 × (Nat → Int32) × Int32 × Int32 × (Nat → Int32) × Int32 × Int32 × (Nat → Int32) × Int32 × Int32 × (Nat → Int32) × Int32 × Int32 × (Nat → Int32) × Int64 × Int32 × Int32 × Int64 × Int32 × Int32 := ((0 : Int32), (p712.1 : Int32), (p712.1 : Int32), (p712.2.1 : (Nat → Int64)), (p712.2.2.2.2.2.1 : Int32), (p712.2.2.2.2.2.2.1 : Int32), (p712.2.2.2.2.2.2.2.1 : (Nat → Int32)), (p712.2.2.1 : Int32), (p712.2.2.2.1 : Int32), (p712.2.2.2.2.1 : (Nat → Int32)), (p712.2.2.2.2.2.2.2.2.1 : Int32), (p712.2.2.2.2.2.2.2.2.2.1 : Int32), (p712.2.2.2.2.2.2.2.2.2.2.1 : (Nat → Int32)), (p712.2.2.2.2.2.2.2.2.2.2.2.1 : Int32), (p712.2.2.2.2.2.2.2.2.2.2.2.2.1 : Int32), (p712.2.2.2.2.2.2.2.2.2.2.2.2.2.1 : (Nat → Int32)), (p712.2.2.2.2.2.2.2.2.2.2.2.2.2.2.1 : Int32), (p712.2.2.2.2.2.2.2.2.2.2.2.2.2.2.2.1 : Int32), (p712.2.2.2.2.2.2.2.2.2.2.2.2.2.2.2.2.1 : (Nat → Int32)), (p712.2.2.2.2.2.2.2.2.2.2.2.2.2.2.2.2.2.1 : Int32), (p712.2.2.2.2.2.2.2.2.2.2.2.2.2.2.2.2.2.2.1 : Int32), (p712.2.2.2.2.2.2.2.2.2.2.2.2.2.2.2.2.2.2.2.1 : (Nat → Int32)), t16_0, t16_1, t16_2, (p712.2.2.2.2.2.2.2.2.2.2.2.2.2.2.2.2.2.2.2.2.1 : Int64), (p712.2.2.2.2.2.2.2.2.2.2.2.2.2.2.2.2.2.2.2.2.2.1 : Int32), (p712.2.2.2.2.2.2.2.2.2.2.2.2.2.2.2.2.2.2.2.2.2.2 : Int32))
def F_NH_print_c127_7 (x2 : Int32) (x3 : Int32) (x4 : Int32) (t0_0 : Int32) (t1_0 : (Nat → Int64)) (t2_0 : Int32) (t2_1 : Int32) (t3_0 : (Nat → Int32)) (t4_0 : Int32) (t4_1 : Int32) (t5_0 : (Nat → Int32)) (t6_0 : (Nat → Int64)) (t7_0 : (Nat → Int64)) (t8_0 : Int32) (t8_1 : Int32) (t9_0 : (Nat → Int32)) (t10_0 : Int32) (t10_1 : Int32) (t11_0 : (Nat → Int32)) (t12_0 : Int32) (t12_1 : Int32) (t13_0 : (Nat → Int32)) (t14_0 : Int32) (t14_1 : Int32) (t15_0 : (Nat → Int32)) (t16_0 : Int64) (t16_1 : Int32) (t16_2 : Int32) (t17_0 : Int64) (t17_1 : Int32) (t17_2 : Int32) (t18_0 : Int32) (t18_1 : Int32) (t19_0 : (Nat → Int32)) (t20_0 : Int32) (t20_1 : Int32) (t21_0 : Int32) (t21_1 : Int32) (t22_0 : (Nat → Int32)) (lx100 : Int32) (p824 : (Int32 × (Nat → Int64) × Int32 × Int32 × (Nat → Int32) × Int32 × Int32 × (Nat → Int32) × Int32 × Int32 × (Nat → Int32) × Int32 × Int32 × (Nat → Int32) × Int32 × Int32 × (Nat → Int32) × Int32 × Int32 × (Nat → Int32) × Int64 × Int32 × Int32)) : Int32 × Int32 × Int32 × (Nat → Int64) × Int32 × Int32 × (Nat → Int32) × Int32 × Int32 × (Nat → Int32) × Int32 × Int32 × (Nat → Int32) × Int32 × Int32 × (Nat → Int32) × Int32 × Int32 × (Nat → Int32) × Int32 × Int32 × (Nat → Int32) × Int64 × Int32 × Int32 × Int64 × Int32 × Int32 := ((0 : Int32), (p824.1 : Int32), (p824.1 : Int32), (p824.2.1 : (Nat → Int64)), (p824.2.2.2.2.2.1 : Int32), (p824.2.2.2.2.2.2.1 : Int32), (p824.2.2.2.2.2.2.2.1 : (Nat → Int32)), (p824.2.2.1 : Int32), (p824.2.2.2.1 : Int32), (p824.2.2.2.2.1 : (Nat → Int32)), (p824.2.2.2.2.2.2.2.2.1 : Int32), (p824.2.2.2.2.2.2.2.2.2.1 : Int32), (p824.2.2.2.2.2.2.2.2.2.2.1 : (Nat → Int32)), (p824.2.2.2.2.2.2.2.2.2.2.2.1 : Int32), (p824.2.2.2.2.2.2.2.2.2.2.2.2.1 : Int32), (p824.2.2.2.2.2.2.2.2.2.2.2.2.2.1 : (Nat → Int32)), (p824.2.2.2.2.2.2.2.2.2.2.2.2.2.2.1 : Int32), (p824.2.2.2.2.2.2.2.2.2.2.2.2.2.2.2.1 : Int32), (p824.2.2.2.2.2.2.2.2.2.2.2.2.2.2.2.2.1 : (Nat → Int32)), (p824.2.2.2.2.2.2.2.2.2.2.2.2.2.2.2.2.2.1 : Int32), (p824.2.2.2.2.2.2.2.2.2.2.2.2.2.2.2.2.2.2.1 : Int32), (p824.2.2.2.2.2.2.2.2.2.2.2.2.2.2.2.2.2.2.2.1 : (Nat → Int32)), t16_0, t16_1, t16_2, (p824.2.2.2.2.2.2.2.2.2.2.2.2.2.2.2.2.2.2.2.2.1 : Int64), (p824.2.2.2.2.2.2.2.2.2.2.2.2.2.2.2.2.2.2.2.2.2.1 : Int32), (p824.2.2.2.2.2.2.2.2.2.2.2.2.2.2.2.2.2.2.2.2.2.2 : Int32))
def F_NH_print_c127_8 (x2 : Int32) (x3 : Int32) (x4 : Int32) (t0_0 : Int32) (t1_0 : (Nat → Int64)) (t2_0 : Int32) (t2_1 : Int32) (t3_0 : (Nat → Int32)) (t4_0 : Int32) (t4_1 : Int32) (t5_0 : (Nat → Int32)) (t6_0 : (Nat → Int64)) (t7_0 : (Nat → Int64)) (t8_0 : Int32) (t8_1 : Int32) (t9_0 : (Nat → Int32)) (t10_0 : Int32) (t10_1 : Int32) (t11_0 : (Nat → Int32)) (t12_0 : Int32) (t12_1 : Int32) (t13_0 : (Nat → Int32)) (t14_0 : Int32) (t14_1 : Int32) (t15_0 : (Nat → Int32)) (t16_0 : Int64) (t16_1 : Int32) (t16_2 : Int32) (t17_0 : Int64) (t17_1 : Int32) (t17_2 : Int32) (t18_0 : Int32) (t18_1 : Int32) (t19_0 : (Nat → Int32)) (t20_0 : Int32) (t20_1 : Int32) (t21_0 : Int32) (t21_1 : Int32) (t22_0 : (Nat → Int32)) (lx100 : Int32) (p943 : (Int32 × (Nat → Int64) × Int32 × Int32 × (Nat → Int32) × Int32 × Int32 × (Nat → Int32) × Int32 × Int32 × (Nat → Int32) × Int32 × Int32 × (Nat → Int32) × Int32 × Int32 × (Nat → Int32) × Int32 × Int32 × (Nat → Int32) × Int64 × Int32 × Int32)) : Int32 × Int32 × Int32 × (Nat → Int64) × Int32 × Int32 × (Nat → Int32) × Int32 × Int32 × (Nat → Int32) × Int32 × Int32 × (Nat → Int32) × Int32 × Int32 × (Nat → Int32) × Int32 × Int32 × (Nat → Int32) × Int32 × Int32 × (Nat → Int32) × Int64 × Int32 × Int32 × Int64 × Int32 × Int32 := ((0 : Int32), (p943.1 : Int32), (p943.1 : Int32), (p943.2.1 : (Nat → Int64)), (p943.2.2.2.2.2.1 : Int32), (p943.2.2.2.2.2.2.1 : Int32), (p943.2.2.2.2.2.2.2.1 : (Nat → Int32)), (p943.2.2.1 : Int32), (p943.2.2.2.1 : Int32), (p943.2.2.2.2.1 : (Nat → Int32)), (p943.2.2.2.2.2.2.2.2.1 : Int32), (p943.2.2.2.2.2.2.2.2.2.1 : Int32), (p943.2.2.2.2.2.2.2.2.2.2.1 : (Nat → Int32)), (p943.2.2.2.2.2.2.2.2.2.2.2.1 : Int32), (p943.2.2.2.2.2.2.2.2.2.2.2.2.1 : Int32), (p943.2.2.2.2.2.2.2.2.2.2.2.2.2.1 : (Nat → Int32)), (p943.2.2.2.2.2.2.2.2.2.2.2.2.2.2.1 : Int32), (p943.2.2.2.2.2.2.2.2.2.2.2.2.2.2.2.1 : Int32), (p943.2.2.2.2.2.2.2.2.2.2.2.2.2.2.2.2.1 : (Nat → Int32)), (p943.2.2.2.2.2.2.2.2.2.2.2.2.2.2.2.2.2.1 : Int32), (p943.2.2.2.2.2.2.2.2.2.2.2.2.2.2.2.2.2.2.1 : Int32), (p943.2.2.2.2.2.2.2.2.2.2.2.2.2.2.2.2.2.2.2.1 : (Nat → Int32)), t16_0, t16_1, t16_2, (p943.2.2.2.2.2.2.2.2.2.2.2.2.2.2.2.2.2.2.2.2.1 : Int64), (p943.2.2.2.2.2.2.2.2.2.2.2.2.2.2.2.2.2.2.2.2.2.1 : Int32), (p943.2.2.2.2.2.2.2.2.2.2.2.2.2.2.2.2.2.2.2.2.2.2 : Int32))
def F_NH_print_c127_9 (x2 : Int32) (x3 : Int32) (x4 : Int32) (t0_0 : Int32) (t1_0 : (Nat → Int64)) (t2_0 : Int32) (t2_1 : Int32) (t3_0 : (Nat → Int32)) (t4_0 : Int32) (t4_1 : Int32) (t5_0 : (Nat → Int32)) (t6_0 : (Nat → Int64)) (t7_0 : (Nat → Int64)) (t8_0 : Int32) (t8_1 : Int32) (t9_0 : (Nat → Int32)) (t10_0 : Int32) (t10_1 : Int32) (t11_0 : (Nat → Int32)) (t12_0 : Int32) (t12_1 : Int32) (t13_0 : (Nat → Int32)) (t14_0 : Int32) (t14_1 : Int32) (t15_0 : (Nat → Int32)) (t16_0 : Int64) (t16_1 : Int32) (t16_2 : Int32) (t17_0 : Int64) (t17_1 : Int32) (t17_2 : Int32) (t18_0 : Int32) (t18_1 : Int32) (t19_0 : (Nat → Int32)) (t20_0 : Int32) (t20_1 : Int32) (t21_0 : Int32) (t21_1 : Int32) (t22_0 : (Nat → Int32)) (lx100 : Int32) (p1055 : (Int32 × (Nat → Int64) × Int32 × Int32 × (Nat → Int32) × Int32 × Int32 × (Nat → Int32) × Int32 × Int32 × (Nat → Int32) × Int32 × Int32 × (Nat → Int32) × Int32 × Int32 × (Nat → Int32) × Int32 × Int32 × (Nat → Int32) × Int64 × Int32 × Int32)) : Int32 × Int32 × Int32 × (Nat → Int64) × Int32 × Int32 × (Nat → Int32) × Int32 × Int32 × (Nat → Int32) × Int32 × Int32 × (Nat → Int32) × Int32 × Int32 × (Nat → Int32) × Int32 × Int32 × (Nat → Int32) × Int32 × Int32 × (Nat → Int32) × Int64 × Int32 × Int32 × Int64 × Int32 × Int32 := ((0 : Int32), (p1055.1 : Int32), (p1055.1 : Int32), (p1055.2.1 : (Nat → Int64)), (p1055.2.2.2.2.2.1 : Int32), (p1055.2.2.2.2.2.2.1 : Int32), (p1055.2.2.2.2.2.2.2.1 : (Nat → Int32)), (p1055.2.2.1 : Int32), (p1055.2.2.2.1 : Int32), (p1055.2.2.2.2.1 : (Nat → Int32)), (p1055.2.2.2.2.2.2.2.2.1 : Int32), (p1055.2.2.2.2.2.2.2.2.2.1 : Int32), (p1055.2.2.2.2.2.2.2.2.2.2.1 : (Nat → Int32)), (p1055.2.2.2.2.2.2.2.2.2.2.2.1 : Int32), (p1055.2.2.2.2.2.2.2.2.2.2.2.2.1 : Int32), (p1055.2.2.2.2.2.2.2.2.2.2.2.2.2.1 : (Nat → Int32)), (p1055.2.2.2.2.2.2.2.2.2.2.2.2.2.2.1 : Int32), (p1055.2.2.2.2.2.2.2.2.2.2.2.2.2.2.2.1 : Int32), (p1055.2.2.2.2.2.2.2.2.2.2.2.2.2.2.2.2.1 : (Nat → Int32)), (p1055.2.2.2.2.2.2.2.2.2.2.2.2.2.2.2.2.2.1 : Int32), (p1055.2.2.2.2.2.2.2.2.2.2.2.2.2.2.2.2.2.2.1 : Int32), (p1055.2.2.2.2.2.2.2.2.2.2.2.2.2.2.2.2.2.2.2.1 : (Nat → Int32)), t16_0, t16_1, t16_2, (p1055.2.2.2.2.2.2.2.2.2.2.2.2.2.2.2.2.2.2.2.2.1 : Int64), (p1055.2.2.2.2.2.2.2.2.2.2.2.2.2.2.2.2.2.2.2.2.2.1 : Int32), (p1055.2.2.2.2.2.2.2.2.2.2.2.2.2.2.2.2.2.2.2.2.2.2 : Int32))
def F_NH_print_J98 (x2 : Int32) (x3 : Int32) (x4 : Int32) (t0_0 : Int32) (t1_0 : (Nat → Int64)) (t2_0 : Int32) (t2_1 : Int32) (t3_0 : (Nat → Int32)) (t4_0 : Int32) (t4_1 : Int32) (t5_0 : (Nat → Int32)) (t6_0 : (Nat → Int64)) (t7_0 : (Nat → Int64)) (t8_0 : Int32) (t8_1 : Int32) (t9_0 : (Nat → Int32)) (t10_0 : Int32) (t10_1 : Int32) (t11_0 : (Nat → Int32)) (t12_0 : Int32) (t12_1 : Int32) (t13_0 : (Nat → Int32)) (t14_0 : Int32) (t14_1 : Int32) (t15_0 : (Nat → Int32)) (t16_0 : Int64) (t16_1 : Int32) (t16_2 : Int32) (t17_0 : Int64) (t17_1 : Int32) (t17_2 : Int32) (t18_0 : Int32) (t18_1 : Int32) (t19_0 : (Nat → Int32)) (t20_0 : Int32) (t20_1 : Int32) (t21_0 : Int32) (t21_1 : Int32) (t22_0 : (Nat → Int32)) (lx100 : Int32) : Int32 × Int32 × Int32 × (Nat → Int64) × Int32 × Int32 × (Nat → Int32) × Int32 × Int32 × (Nat → Int32) × Int32 × Int32 × (Nat → Int32) × Int32 × Int32 × (Nat → Int32) × Int32 × Int32 × (Nat → Int32) × Int32 × Int32 × (Nat → Int32) × Int64 × Int32 × Int32 × Int64 × Int32 × Int32 := if (F_NH_need lx100) = (0 : Int32) then (if x2 = (2 : Int32) then (if x2 = (2 : Int32) then (if x4 = (1 : Int32) then (F_NH_print_c127_3 x2 x3 x4 t0_0 t1_0 t2_0 t2_1 t3_0 t4_0 t4_1 t5_0 t6_0 t7_0 t8_0 t8_1 t9_0 t10_0 t10_1 t11_0 t12_0 t12_1 t13_0 t14_0 t14_1 t15_0 t16_0 t16_1 t16_2 t17_0 t17_1 t17_2 t18_0 t18_1 t19_0 t20_0 t20_1 t21_0 t21_1 t22_0 lx100 ((F_Wri_floatText (52 : Int32) (1075 : Int32) (2047 : Int32) (t6_0 x3.toNatClampNeg : Int64) (1 : Int32) t0_0 t1_0 t4_0 t4_1 t5_0 t2_0 t2_1 t3_0 t8_0 t8_1 t9_0 t10_0 t10_1 t11_0 t12_0 t12_1 t13_0 t14_0 t14_1 t15_0 t16_0 t16_1 t16_2) : (Int32 × (Nat → Int64) × Int32 × Int32 × (Nat → Int32) × Int32 × Int32 × (Nat → Int32) × Int32 × Int32 × (Nat → Int32) × Int32 × Int32 × (Nat → Int32) × Int32 × Int32 × (Nat → Int32) × Int32 × Int32 × (Nat → Int32) × Int64 × Int32 × Int32))) else (F_NH_print_c127 x2 x3 x4 t0_0 t1_0 t2_0 t2_1 t3_0 t4_0 t4_1 t5_0 t6_0 t7_0 t8_0 t8_1 t9_0 t10_0 t10_1 t11_0 t12_0 t12_1 t13_0 t14_0 t14_1 t15_0 t16_0 t16_1 t16_2 t17_0 t17_1 t17_2 t18_0 t18_1 t19_0 t20_0 t20_1 t21_0 t21_1 t22_0 lx100 ((F_Wri_floatText (52 : Int32) (1075 : Int32) (2047 : Int32) (t6_0 x3.toNatClampNeg : Int64) (0 : Int32) t0_0 t1_0 t4_0 t4_1 t5_0 t2_0 t2_1 t3_0 t8_0 t8_1 t9_0 t10_0 t10_1 t11_0 t12_0 t12_1 t13_0 t14_0 t14_1 t15_0 t16_0 t16_1 t16_2) : (Int32 × (Nat → Int64) × Int32 × Int32 × (Nat → Int32) × Int32 × Int32 × (Nat → Int32) × Int32 × Int32 × (Nat → Int32) × Int32 × Int32 × (Nat → Int32) × Int32 × Int32 × (Nat → Int32) × Int32 × Int32 × (Nat → Int32) × Int64 × Int32 × Int32)))) else (if x4 = (1 : Int32) then (F_NH_print_c127_5 x2 x3 x4 t0_0 t1_0 t2_0 t2_1 t3_0 t4_0 t4_1 t5_0 t6_0 t7_0 t8_0 t8_1 t9_0 t10_0 t10_1 t11_0 t12_0 t12_1 t13_0 t14_0 t14_1 t15_0 t16_0 t16_1 t16_2 t17_0 t17_1 t17_2 t18_0 t18_1 t19_0 t20_0 t20_1 t21_0 t21_1 t22_0 lx100 ((F_Wri_floatText (52 : Int32) (1075 : Int32) (2047 : Int32) (t7_0 x3.toNatClampNeg : Int64) (1 : Int32) t0_0 t1_0 t4_0 t4_1 t5_0 t2_0 t2_1 t3_0 t8_0 t8_1 t9_0 t10_0 t10_1 t11_0 t12_0 t12_1 t13_0 t14_0 t14_1 t15_0 t16_0 t16_1 t16_2) : (Int32 × (Nat → Int64) × Int32 × Int32 × (Nat → Int32) × Int32 × Int32 × (Nat → Int32) × Int32 × Int32 × (Nat → Int32) × Int32 × Int32 × (Nat → Int32) × Int32 × Int32 × (Nat → Int32) × Int32 × Int32 × (Nat → Int32) × Int64 × Int32 × Int32))) else (F_NH_print_c127_4 x2 x3 x4 t0_0 t1_0 t2_0 t2_1 t3_0 t4_0 t4_1 t5_0 t6_0 t7_0 t8_0 t8_1 t9_0 t10_0 t10_1 t11_0 t12_0 t12_1 t13_0 t14_0 t14_1 t15_0 t16_0 t16_1 t16_2 t17_0 t17_1 t17_2 t18_0 t18_1 t19_0 t20_0 t20_1 t21_0 t21_1 t22_0 lx100 ((F_Wri_floatText (52 : Int32) (1075 : Int32) (2047 : Int32) (t7_0 x3.toNatClampNeg : Int64) (0 : Int32) t0_0 t1_0 t4_0 t4_1 t5_0 t2_0 t2_1 t3_0 t8_0 t8_1 t9_0 t10_0 t10_1 t11_0 t12_0 t12_1 t13_0 t14_0 t14_1 t15_0 t16_0 t16_1 t16_2) : (Int32 × (Nat → Int64) × Int32 × Int32 × (Nat → Int32) × Int32 × Int32 × (Nat → Int32) × Int32 × Int32 × (Nat → Int32) × Int32 × Int32 × (Nat → Int32) × Int32 × Int32 × (Nat → Int32) × Int32 × Int32 × (Nat → Int32) × Int64 × Int32 × Int32))))) else (if x2 = (2 : Int32) then (if x4 = (1 : Int32) then (F_NH_print_c127_7 x2 x3 x4 t0_0 t1_0 t2_0 t2_1 t3_0 t4_0 t4_1 t5_0 t6_0 t7_0 t8_0 t8_1 t9_0 t10_0 t10_1 t11_0 t12_0 t12_1 t13_0 t14_0 t14_1 t15_0 t16_0 t16_1 t16_2 t17_0 t17_1 t17_2 t18_0 t18_1 t19_0 t20_0 t20_1 t21_0 t21_1 t22_0 lx100 ((F_Wri_floatText (23 : Int32) (150 : Int32) (255 : Int32) (t6_0 x3.toNatClampNeg : Int64) (1 : Int32) t0_0 t1_0 t4_0 t4_1 t5_0 t2_0 t2_1 t3_0 t8_0 t8_1 t9_0 t10_0 t10_1 t11_0 t12_0 t12_1 t13_0 t14_0 t14_1 t15_0 t17_0 t17_1 t17_2) : (Int32 × (Nat → Int64) × Int32 × Int32 × (Nat → Int32) × Int32 × Int32 × (Nat → Int32) × Int32 × Int32 × (Nat → Int32) × Int32 × Int32 × (Nat → Int32) × Int32 × Int32 × (Nat → Int32) × Int32 × Int32 × (Nat → Int32) × Int64 × Int32 × Int32))) else (F_NH_print_c127_6 x2 x3 x4 t0_0 t1_0 t2_0 t2_1 t3_0 t4_0 t4_1 t5_0 t6_0 t7_0 t8_0 t8_1 t9_0 t10_0 t10_1 t11_0 t12_0 t12_1 t13_0 t14_0 t14_1 t15_0 t16_0 t16_1 t16_2 t17_0 t17_1 t17_2 t18_0 t18_1 t19_0 t20_0 t20_1 t21_0 t21_1 t22_0 lx100 ((F_Wri_floatText (23 : Int32) (150 : Int32) (255 : Int32) (t6_0 x3.toNatClampNeg : Int64) (0 : Int32) t0_0 t1_0 t4_0 t4_1 t5_0 t2_0 t2_1 t3_0 t8_0 t8_1 t9_0 t10_0 t10_1 t11_0 t12_0 t12_1 t13_0 t14_0 t14_1 t15_0 t17_0 t17_1 t17_2) : (Int32 × (Nat → Int64) × Int32 × Int32 × (Nat → Int32) × Int32 × Int32 × (Nat → Int32) × Int32 × Int32 × (Nat → Int32) × Int32 × Int32 × (Nat → Int32) × Int32 × Int32 × (Nat → Int32) × Int32 × Int32 × (Nat → Int32) × Int64 × Int32 × Int32)))) else (if x4 = (1 : Int32) then (F_NH_print_c127_9 x2 x3 x4 t0_0 t1_0 t2_0 t2_1 t3_0 t4_0 t4_1 t5_0 t6_0 t7_0 t8_0 t8_1 t9_0 t10_0 t10_1 t11_0 t12_0 t12_1 t13_0 t14_0 t14_1 t15_0 t16_0 t16_1 t16_2 t17_0 t17_1 t17_2 t18_0 t18_1 t19_0 t20_0 t20_1 t21_0 t21_1 t22_0 lx100 ((F_Wri_floatText (23 : Int32) (150 : Int32) (255 : Int32) (t7_0 x3.toNatClampNeg : Int64) (1 : Int32) t0_0 t1_0 t4_0 t4_1 t5_0 t2_0 t2_1 t3_0 t8_0 t8_1 t9_0 t10_0 t10_1 t11_0 t12_0 t12_1 t13_0 t14_0 t14_1 t15_0 t17_0 t17_1 t17_2) : (Int32 × (Nat → Int64) × Int32 × Int32 × (Nat → Int32) × Int32 × Int32 × (Nat → Int32) × Int32 × Int32 × (Nat → Int32) × Int32 × Int32 × (Nat → Int32) × Int32 × Int32 × (Nat → Int32) × Int32 × Int32 × (Nat → Int32) × Int64 × Int32 × Int32))) else (F_NH_print_c127_8 x2 x3 x4 t0_0 t1_0 t2_0 t2_1 t3_0 t4_0 t4_1 t5_0 t6_0 t7_0 t8_0 t8_1 t9_0 t10_0 t10_1 t11_0 t12_0 t12_1 t13_0 t14_0 t14_1 t15_0 t16_0 t16_1 t16_2 t17_0 t17_1 t17_2 t18_0 t18_1 t19_0 t20_0 t20_1 t21_0 t21_1 t22_0 lx100 ((F_Wri_floatText (23 : Int32) (150 : Int32) (255 : Int32) (t7_0 x3.toNatClampNeg : Int64) (0 : Int32) t0_0 t1_0 t4_0 t4_1 t5_0 t2_0 t2_1 t3_0 t8_0 t8_1 t9_0 t10_0 t10_1 t11_0 t12_0 t12_1 t13_0 t14_0 t14_1 t15_0 t17_0 t17_1 t17_2) : (Int32 × (Nat → Int64) × Int32 × Int32 × (Nat → Int32) × Int32 × Int32 × (Nat → Int32) × Int32 × Int32 × (Nat → Int32) × Int32 × Int32 × (Nat → Int32) × Int32 × Int32 × (Nat → Int32) × Int32 × Int32 × (Nat → Int32) × Int64 × Int32 × Int32)))))) else (((F_NH_need lx100), (0 : Int32), t0_0, t1_0, t2_0, t2_1, t3_0, t4_0, t4_1, t5_0, t8_0, t8_1, t9_0, t10_0, t10_1, t11_0, t12_0, t12_1, t13_0, t14_0, t14_1, t15_0, t16_0, t16_1, t16_2, t17_0, t17_1, t17_2))
def F_NH_print_J97 (x2 : Int32) (x3 : Int32) (x4 : Int32) (t0_0 : Int32) (t1_0 : (Nat → Int64)) (t2_0 : Int32) (t2_1 : Int32) (t3_0 : (Nat → Int32)) (t4_0 : Int32) (t4_1 : Int32) (t5_0 : (Nat → Int32)) (t6_0 : (Nat → Int64)) (t7_0 : (Nat → Int64)) (t8_0 : Int32) (t8_1 : Int32) (t9_0 : (Nat → Int32)) (t10_0 : Int32) (t10_1 : Int32) (t11_0 : (Nat → Int32)) (t12_0 : Int32) (t12_1 : Int32) (t13_0 : (Nat → Int32)) (t14_0 : Int32) (t14_1 : Int32) (t15_0 : (Nat → Int32)) (t16_0 : Int64) (t16_1 : Int32) (t16_2 : Int32) (t17_0 : Int64) (t17_1 : Int32) (t17_2 : Int32) (t18_0 : Int32) (t18_1 : Int32) (t19_0 : (Nat → Int32)) (t20_0 : Int32) (t20_1 : Int32) (t21_0 : Int32) (t21_1 : Int32) (t22_0 : (Nat → Int32)) : Int32 × Int32 × Int32 × (Nat → Int64) × Int32 × Int32 × (Nat → Int32) × Int32 × Int32 × (Nat → Int32) × Int32 × Int32 × (Nat → Int32) × Int32 × Int32 × (Nat → Int32) × Int32 × Int32 × (Nat → Int32) × Int32 × Int32 × (Nat → Int32) × Int64 × Int32 × Int32 × Int64 × Int32 × Int32 := F_NH_print_J98 x2 x3 x4 t0_0 t1_0 t2_0 t2_1 t3_0 t4_0 t4_1 t5_0 t6_0 t7_0 t8_0 t8_1 t9_0 t10_0 t10_1 t11_0 t12_0 t12_1 t13_0 t14_0 t14_1 t15_0 t16_0 t16_1 t16_2 t17_0 t17_1 t17_2 t18_0 t18_1 t19_0 t20_0 t20_1 t21_0 t21_1 t22_0 0
def F_NH_print_c78 (x2 : Int32) (x3 : Int32) (x4 : Int32) (t0_0 : Int32) (t1_0 : (Nat → Int64)) (t2_0 : Int32) (t2_1 : Int32) (t3_0 : (Nat → Int32)) (t4_0 : Int32) (t4_1 : Int32) (t5_0 : (Nat → Int32)) (t6_0 : (Nat → Int64)) (t7_0 : (Nat → Int64)) (t8_0 : Int32) (t8_1 : Int32) (t9_0 : (Nat → Int32)) (t10_0 : Int32) (t10_1 : Int32) (t11_0 : (Nat → Int32)) (t12_0 : Int32) (t12_1 : Int32) (t13_0 : (Nat → Int32)) (t14_0 : Int32) (t14_1 : Int32) (t15_0 : (Nat → Int32)) (t16_0 : Int64) (t16_1 : Int32) (t16_2 : Int32) (t17_0 : Int64) (t17_1 : Int32) (t17_2 : Int32) (t18_0 : Int32) (t18_1 : Int32) (t19_0 : (Nat → Int32)) (t20_0 : Int32) (t20_1 : Int32) (t21_0 : Int32) (t21_1 : Int32) (t22_0 : (Nat → Int32)) (lx1121 : Int32) (p1199 : (Int32 × (Nat → Int64) × Int32 × Int32 × (Nat → Int32) × Int32 × Int32 × (Nat → Int32))) : Int32 × Int32 × Int32 × (Nat → Int64) × Int32 × Int32 × (Nat → Int32) × Int32 × Int32 × (Nat → Int32) × Int32 × Int32 × (Nat → Int32) × Int32 × Int32 × (Nat → Int32) × Int32 × Int32 × (Nat → Int32) × Int32 × Int32 × (Nat → Int32) × Int64 × Int32 × Int32 × Int64 × Int32 × Int32 := ((0 : Int32), (p1199.1 : Int32), (p1199.1 : Int32), (p1199.2.1 : (Nat → Int64)), (p1199.2.2.2.2.2.1 : Int32), (p1199.2.2.2.2.2.2.1 : Int32), (p1199.2.2.2.2.2.2.2 : (Nat → Int32)), (p1199.2.2.1 : Int32), (p1199.2.2.2.1 : Int32), (p1199.2.2.2.2.1 : (Nat → Int32)), t8_0, t8_1, t9_0, t10_0, t10_1, t11_0, t12_0, t12_1, t13_0, t14_0, t14_1, t15_0, t16_0, t16_1, t16_2, t17_0, t17_1, t17_2)
def F_NH_print_J64 (x2 : Int32) (x3 : Int32) (x4 : Int32) (t0_0 : Int32) (t1_0 : (Nat → Int64)) (t2_0 : Int32) (t2_1 : Int32) (t3_0 : (Nat → Int32)) (t4_0 : Int32) (t4_1 : Int32) (t5_0 : (Nat → Int32)) (t6_0 : (Nat → Int64)) (t7_0 : (Nat → Int64)) (t8_0 : Int32) (t8_1 : Int32) (t9_0 : (Nat → Int32)) (t10_0 : Int32) (t10_1 : Int32) (t11_0 : (Nat → Int32)) (t12_0 : Int32) (t12_1 : Int32) (t13_0 : (Nat → Int32)) (t14_0 : Int32) (t14_1 : Int32) (t15_0 : (Nat → Int32)) (t16_0 : Int64) (t16_1 : Int32) (t16_2 : Int32) (t17_0 : Int64) (t17_1 : Int32) (t17_2 : Int32) (t18_0 : Int32) (t18_1 : Int32) (t19_0 : (Nat → Int32)) (t20_0 : Int32) (t20_1 : Int32) (t21_0 : Int32) (t21_1 : Int32) (t22_0 : (Nat → Int32)) (lx1121 : Int32) : Int32 × Int32 × Int32 × (Nat → Int64) × Int32 × Int32 × (Nat → Int32) × Int32 × Int32 × (Nat → Int32) × Int32 × Int32 × (Nat → Int32) × Int32 × Int32 × (Nat → Int32) × Int32 × Int32 × (Nat → Int32) × Int32 × Int32 × (Nat → Int32) × Int64 × Int32 × Int32 × Int64 × Int32 × Int32 := if (F_NH_need lx1121) = (0 : Int32) then (F_NH_print_c78 x2 x3 x4 t0_0 t1_0 t2_0 t2_1 t3_0 t4_0 t4_1 t5_0 t6_0 t7_0 t8_0 t8_1 t9_0 t10_0 t10_1 t11_0 t12_0 t12_1 t13_0 t14_0 t14_1 t15_0 t16_0 t16_1 t16_2 t17_0 t17_1 t17_2 t18_0 t18_1 t19_0 t20_0 t20_1 t21_0 t21_1 t22_0 lx1121 ((F_Wri_decimalText (108 : Int32) x4 t0_0 t1_0 t4_0 t4_1 t5_0 t2_0 t2_1 t3_0 t20_0 t20_1 t21_0 t21_1 t22_0) : (Int32 × (Nat → Int64) × Int32 × Int32 × (Nat → Int32) × Int32 × Int32 × (Nat → Int32)))) else (((F_NH_need lx1121), (0 : Int32), t0_0, t1_0, t2_0, t2_1, t3_0, t4_0, t4_1, t5_0, t8_0, t8_1, t9_0, t10_0, t10_1, t11_0, t12_0, t12_1, t13_0, t14_0, t14_1, t15_0, t16_0, t16_1, t16_2, t17_0, t17_1, t17_2))
def F_NH_print_J63 (x2 : Int32) (x3 : Int32) (x4 : Int32) (t0_0 : Int32) (t1_0 : (Nat → Int64)) (t2_0 : Int32) (t2_1 : Int32) (t3_0 : (Nat → Int32)) (t4_0 : Int32) (t4_1 : Int32) (t5_0 : (Nat → Int32)) (t6_0 : (Nat → Int64)) (t7_0 : (Nat → Int64)) (t8_0 : Int32) (t8_1 : Int32) (t9_0 : (Nat → Int32)) (t10_0 : Int32) (t10_1 : Int32) (t11_0 : (Nat → Int32)) (t12_0 : Int32) (t12_1 : Int32) (t13_0 : (Nat → Int32)) (t14_0 : Int32) (t14_1 : Int32) (t15_0 : (Nat → Int32)) (t16_0 : Int64) (t16_1 : Int32) (t16_2 : Int32) (t17_0 : Int64) (t17_1 : Int32) (t17_2 : Int32) (t18_0 : Int32) (t18_1 : Int32) (t19_0 : (Nat → Int32)) (t20_0 : Int32) (t20_1 : Int32) (t21_0 : Int32) (t21_1 : Int32) (t22_0 : (Nat → Int32)) : Int32 × Int32 × Int32 × (Nat → Int64) × Int32 × Int32 × (Nat → Int32) × Int32 × Int32 × (Nat → Int32) × Int32 × Int32 × (Nat → Int32) × Int32 × Int32 × (Nat → Int32) × Int32 × Int32 × (Nat → Int32) × Int32 × Int32 × (Nat → Int32) × Int64 × Int32 × Int32 × Int64 × Int32 × Int32 := F_NH_print_J64 x2 x3 x4 t0_0 t1_0 t2_0 t2_1 t3_0 t4_0 t4_1 t5_0 t6_0 t7_0 t8_0 t8_1 t9_0 t10_0 t10_1 t11_0 t12_0 t12_1 t13_0 t14_0 t14_1 t15_0 t16_0 t16_1 t16_2 t17_0 t17_1 t17_2 t18_0 t18_1 t19_0 t20_0 t20_1 t21_0 t21_1 t22_0 0
def F_NH_print_c39 (x2 : Int32) (x3 : Int32) (x4 : Int32) (t0_0 : Int32) (t1_0 : (Nat → Int64)) (t2_0 : Int32) (t2_1 : Int32) (t3_0 : (Nat → Int32)) (t4_0 : Int32) (t4_1 : Int32) (t5_0 : (Nat → Int32)) (t6_0 : (Nat → Int64)) (t7_0 : (Nat → Int64)) (t8_0 : Int32) (t8_1 : Int32) (t9_0 : (Nat → Int32)) (t10_0 : Int32) (t10_1 : Int32) (t11_0 : (Nat → Int32)) (t12_0 : Int32) (t12_1 : Int32) (t13_0 : (Nat → Int32)) (t14_0 : Int32) (t14_1 : Int32) (t15_0 : (Nat → Int32)) (t16_0 : Int64) (t16_1 : Int32) (t16_2 : Int32) (t17_0 : Int64) (t17_1 : Int32) (t17_2 : Int32) (t18_0 : Int32) (t18_1 : Int32) (t19_0 : (Nat → Int32)) (t20_0 : Int32) (t20_1 : Int32) (t21_0 : Int32) (t21_1 : Int32) (t22_0 : (Nat → Int32)) (lx1250 : Int32) (p1317 : (Int32 × (Nat → Int64) × Int32 × Int32 × (Nat → Int32))) : Int32 × Int32 × Int32 × (Nat → Int64) × Int32 × Int32 × (Nat → Int32) × Int32 × Int32 × (Nat → Int32) × Int32 × Int32 × (Nat → Int32) × Int32 × Int32 × (Nat → Int32) × Int32 × Int32 × (Nat → Int32) × Int32 × Int32 × (Nat → Int32) × Int64 × Int32 × Int32 × Int64 × Int32 × Int32 := ((0 : Int32), (p1317.1 : Int32), (p1317.1 : Int32), (p1317.2.1 : (Nat → Int64)), (p1317.2.2.1 : Int32), (p1317.2.2.2.1 : Int32), (p1317.2.2.2.2 : (Nat → Int32)), t4_0, t4_1, t5_0, t8_0, t8_1, t9_0, t10_0, t10_1, t11_0, t12_0, t12_1, t13_0, t14_0, t14_1, t15_0, t16_0, t16_1, t16_2, t17_0, t17_1, t17_2)
def F_NH_print_J25 (x2 : Int32) (x3 : Int32) (x4 : Int32) (t0_0 : Int32) (t1_0 : (Nat → Int64)) (t2_0 : Int32) (t2_1 : Int32) (t3_0 : (Nat → Int32)) (t4_0 : Int32) (t4_1 : Int32) (t5_0 : (Nat → Int32)) (t6_0 : (Nat → Int64)) (t7_0 : (Nat → Int64)) (t8_0 : Int32) (t8_1 : Int32) (t9_0 : (Nat → Int32)) (t10_0 : Int32) (t10_1 : Int32) (t11_0 : (Nat → Int32)) (t12_0 : Int32) (t12_1 : Int32) (t13_0 : (Nat → Int32)) (t14_0 : Int32) (t14_1 : Int32) (t15_0 : (Nat → Int32)) (t16_0 : Int64) (t16_1 : Int32) (t16_2 : Int32) (t17_0 : Int64) (t17_1 : Int32) (t17_2 : Int32) (t18_0 : Int32) (t18_1 : Int32) (t19_0 : (Nat → Int32)) (t20_0 : Int32) (t20_1 : Int32) (t21_0 : Int32) (t21_1 : Int32) (t22_0 : (Nat → Int32)) (lx1250 : Int32) : Int32 × Int32 × Int32 × (Nat → Int64) × Int32 × Int32 × (Nat → Int32) × Int32 × Int32 × (Nat → Int32) × Int32 × Int32 × (Nat → Int32) × Int32 × Int32 × (Nat → Int32) × Int32 × Int32 × (Nat → Int32) × Int32 × Int32 × (Nat → Int32) × Int64 × Int32 × Int32 × Int64 × Int32 × Int32 := if (F_NH_need lx1250) = (0 : Int32) then (F_NH_print_c39 x2 x3 x4 t0_0 t1_0 t2_0 t2_1 t3_0 t4_0 t4_1 t5_0 t6_0 t7_0 t8_0 t8_1 t9_0 t10_0 t10_1 t11_0 t12_0 t12_1 t13_0 t14_0 t14_1 t15_0 t16_0 t16_1 t16_2 t17_0 t17_1 t17_2 t18_0 t18_1 t19_0 t20_0 t20_1 t21_0 t21_1 t22_0 lx1250 ((F_Wri_wholeText (68 : Int32) x4 t0_0 t1_0 t2_0 t2_1 t3_0 t18_0 t18_1 t19_0) : (Int32 × (Nat → Int64) × Int32 × Int32 × (Nat → Int32)))) else (((F_NH_need lx1250), (0 : Int32), t0_0, t1_0, t2_0, t2_1, t3_0, t4_0, t4_1, t5_0, t8_0, t8_1, t9_0, t10_0, t10_1, t11_0, t12_0, t12_1, t13_0, t14_0, t14_1, t15_0, t16_0, t16_1, t16_2, t17_0, t17_1, t17_2))
def F_NH_print_J24 (x2 : Int32) (x3 : Int32) (x4 : Int32) (t0_0 : Int32) (t1_0 : (Nat → Int64)) (t2_0 : Int32) (t2_1 : Int32) (t3_0 : (Nat → Int32)) (t4_0 : Int32) (t4_1 : Int32) (t5_0 : (Nat → Int32)) (t6_0 : (Nat → Int64)) (t7_0 : (Nat → Int64)) (t8_0 : Int32) (t8_1 : Int32) (t9_0 : (Nat → Int32)) (t10_0 : Int32) (t10_1 : Int32) (t11_0 : (Nat → Int32)) (t12_0 : Int32) (t12_1 : Int32) (t13_0 : (Nat → Int32)) (t14_0 : Int32) (t14_1 : Int32) (t15_0 : (Nat → Int32)) (t16_0 : Int64) (t16_1 : Int32) (t16_2 : Int32) (t17_0 : Int64) (t17_1 : Int32) (t17_2 : Int32) (t18_0 : Int32) (t18_1 : Int32) (t19_0 : (Nat → Int32)) (t20_0 : Int32) (t20_1 : Int32) (t21_0 : Int32) (t21_1 : Int32) (t22_0 : (Nat → Int32)) : Int32 × Int32 × Int32 × (Nat → Int64) × Int32 × Int32 × (Nat → Int32) × Int32 × Int32 × (Nat → Int32) × Int32 × Int32 × (Nat → Int32) × Int32 × Int32 × (Nat → Int32) × Int32 × Int32 × (Nat → Int32) × Int32 × Int32 × (Nat → Int32) × Int64 × Int32 × Int32 × Int64 × Int32 × Int32 := F_NH_print_J25 x2 x3 x4 t0_0 t1_0 t2_0 t2_1 t3_0 t4_0 t4_1 t5_0 t6_0 t7_0 t8_0 t8_1 t9_0 t10_0 t10_1 t11_0 t12_0 t12_1 t13_0 t14_0 t14_1 t15_0 t16_0 t16_1 t16_2 t17_0 t17_1 t17_2 t18_0 t18_1 t19_0 t20_0 t20_1 t21_0 t21_1 t22_0 0
def F_NH_print (x2 : Int32) (x3 : Int32) (x4 : Int32) (t0_0 : Int32) (t1_0 : (Nat → Int64)) (t2_0 : Int32) (t2_1 : Int32) (t3_0 : (Nat → Int32)) (t4_0 : Int32) (t4_1 : Int32) (t5_0 : (Nat → Int32)) (t6_0 : (Nat → Int64)) (t7_0 : (Nat → Int64)) (t8_0 : Int32) (t8_1 : Int32) (t9_0 : (Nat → Int32)) (t10_0 : Int32) (t10_1 : Int32) (t11_0 : (Nat → Int32)) (t12_0 : Int32) (t12_1 : Int32) (t13_0 : (Nat → Int32)) (t14_0 : Int32) (t14_1 : Int32) (t15_0 : (Nat → Int32)) (t16_0 : Int64) (t16_1 : Int32) (t16_2 : Int32) (t17_0 : Int64) (t17_1 : Int32) (t17_2 : Int32) (t18_0 : Int32) (t18_1 : Int32) (t19_0 : (Nat → Int32)) (t20_0 : Int32) (t20_1 : Int32) (t21_0 : Int32) (t21_1 : Int32) (t22_0 : (Nat → Int32)) : Int32 × Int32 × Int32 × (Nat → Int64) × Int32 × Int32 × (Nat → Int32) × Int32 × Int32 × (Nat → Int32) × Int32 × Int32 × (Nat → Int32) × Int32 × Int32 × (Nat → Int32) × Int32 × Int32 × (Nat → Int32) × Int32 × Int32 × (Nat → Int32) × Int64 × Int32 × Int32 × Int64 × Int32 × Int32 := if (F_NH_needRegister x2 x3) = (0 : Int32) then (if x2 = (0 : Int32) then (if x4 < (2 : Int32) then (F_NH_print_J24 x2 x3 x4 t0_0 t1_0 t2_0 t2_1 t3_0 t4_0 t4_1 t5_0 t6_0 t7_0 t8_0 t8_1 t9_0 t10_0 t10_1 t11_0 t12_0 t12_1 t13_0 t14_0 t14_1 t15_0 t16_0 t16_1 t16_2 t17_0 t17_1 t17_2 t18_0 t18_1 t19_0 t20_0 t20_1 t21_0 t21_1 t22_0) else (if (36 : Int32) < x4 then (F_NH_print_J24 x2 x3 x4 t0_0 t1_0 t2_0 t2_1 t3_0 t4_0 t4_1 t5_0 t6_0 t7_0 t8_0 t8_1 t9_0 t10_0 t10_1 t11_0 t12_0 t12_1 t13_0 t14_0 t14_1 t15_0 t16_0 t16_1 t16_2 t17_0 t17_1 t17_2 t18_0 t18_1 t19_0 t20_0 t20_1 t21_0 t21_1 t22_0) else (F_NH_print_J25 x2 x3 x4 t0_0 t1_0 t2_0 t2_1 t3_0 t4_0 t4_1 t5_0 t6_0 t7_0 t8_0 t8_1 t9_0 t10_0 t10_1 t11_0 t12_0 t12_1 t13_0 t14_0 t14_1 t15_0 t16_0 t16_1 t16_2 t17_0 t17_1 t17_2 t18_0 t18_1 t19_0 t20_0 t20_1 t21_0 t21_1 t22_0 1))) else (if x2 = (1 : Int32) then (if x4 < (0 : Int32) then (F_NH_print_J63 x2 x3 x4 t0_0 t1_0 t2_0 t2_1 t3_0 t4_0 t4_1 t5_0 t6_0 t7_0 t8_0 t8_1 t9_0 t10_0 t10_1 t11_0 t12_0 t12_1 t13_0 t14_0 t14_1 t15_0 t16_0 t16_1 t16_2 t17_0 t17_1 t17_2 t18_0 t18_1 t19_0 t20_0 t20_1 t21_0 t21_1 t22_0) else (if (2 : Int32) < x4 then (F_NH_print_J63 x2 x3 x4 t0_0 t1_0 t2_0 t2_1 t3_0 t4_0 t4_1 t5_0 t6_0 t7_0 t8_0 t8_1 t9_0 t10_0 t10_1 t11_0 t12_0 t12_1 t13_0 t14_0 t14_1 t15_0 t16_0 t16_1 t16_2 t17_0 t17_1 t17_2 t18_0 t18_1 t19_0 t20_0 t20_1 t21_0 t21_1 t22_0) else (F_NH_print_J64 x2 x3 x4 t0_0 t1_0 t2_0 t2_1 t3_0 t4_0 t4_1 t5_0 t6_0 t7_0 t8_0 t8_1 t9_0 t10_0 t10_1 t11_0 t12_0 t12_1 t13_0 t14_0 t14_1 t15_0 t16_0 t16_1 t16_2 t17_0 t17_1 t17_2 t18_0 t18_1 t19_0 t20_0 t20_1 t21_0 t21_1 t22_0 1))) else (if x4 < (0 : Int32) then (F_NH_print_J97 x2 x3 x4 t0_0 t1_0 t2_0 t2_1 t3_0 t4_0 t4_1 t5_0 t6_0 t7_0 t8_0 t8_1 t9_0 t10_0 t10_1 t11_0 t12_0 t12_1 t13_0 t14_0 t14_1 t15_0 t16_0 t16_1 t16_2 t17_0 t17_1 t17_2 t18_0 t18_1 t19_0 t20_0 t20_1 t21_0 t21_1 t22_0) else (if (1 : Int32) < x4 then (F_NH_print_J97 x2 x3 x4 t0_0 t1_0 t2_0 t2_1 t3_0 t4_0 t4_1 t5_0 t6_0 t7_0 t8_0 t8_1 t9_0 t10_0 t10_1 t11_0 t12_0 t12_1 t13_0 t14_0 t14_1 t15_0 t16_0 t16_1 t16_2 t17_0 t17_1 t17_2 t18_0 t18_1 t19_0 t20_0 t20_1 t21_0 t21_1 t22_0) else (F_NH_print_J98 x2 x3 x4 t0_0 t1_0 t2_0 t2_1 t3_0 t4_0 t4_1 t5_0 t6_0 t7_0 t8_0 t8_1 t9_0 t10_0 t10_1 t11_0 t12_0 t12_1 t13_0 t14_0 t14_1 t15_0 t16_0 t16_1 t16_2 t17_0 t17_1 t17_2 t18_0 t18_1 t19_0 t20_0 t20_1 t21_0 t21_1 t22_0 1))))) else (((F_NH_needRegister x2 x3), (0 : Int32), t0_0, t1_0, t2_0, t2_1, t3_0, t4_0, t4_1, t5_0, t8_0, t8_1, t9_0, t10_0, t10_1, t11_0, t12_0, t12_1, t13_0, t14_0, t14_1, t15_0, t16_0, t16_1, t16_2, t17_0, t17_1, t17_2))
def S_NH_print_c127 (x2 : Int32) (x3 : Int32) (x4 : Int32) (t0_0 : Int32) (t1_0 : (Nat → Int64)) (t2_0 : Int32) (t2_1 : Int32) (t3_0 : (Nat → Int32)) (t4_0 : Int32) (t4_1 : Int32) (t5_0 : (Nat → Int32)) (t6_0 : (Nat → Int64)) (t7_0 : (Nat → Int64)) (t8_0 : Int32) (t8_1 : Int32) (t9_0 : (Nat → Int32)) (t10_0 : Int32) (t10_1 : Int32) (t11_0 : (Nat → Int32)) (t12_0 : Int32) (t12_1 : Int32) (t13_0 : (Nat → Int32)) (t14_0 : Int32) (t14_1 : Int32) (t15_0 : (Nat → Int32)) (t16_0 : Int64) (t16_1 : Int32) (t16_2 : Int32) (t17_0 : Int64) (t17_1 : Int32) (t17_2 : Int32) (t18_0 : Int32) (t18_1 : Int32) (t19_0 : (Nat → Int32)) (t20_0 : Int32) (t20_1 : Int32) (t21_0 : Int32) (t21_1 : Int32) (t22_0 : (Nat → Int32)) (lx100 : Int32) (p243 : (Int32 × (Nat → Int64) × Int32 × Int32 × (Nat → Int32) × Int32 × Int32 × (Nat → Int32) × Int32 × Int32 × (Nat → Int32) × Int32 × Int32 × (Nat → Int32) × Int32 × Int32 × (Nat → Int32) × Int32 × Int32 × (Nat → Int32) × Int64 × Int32 × Int32)) : Prop := True
def S_NH_print_c127_3 (x2 : Int32) (x3 : Int32) (x4 : Int32) (t0_0 : Int32) (t1_0 : (Nat → Int64)) (t2_0 : Int32) (t2_1 : Int32) (t3_0 : (Nat → Int32)) (t4_0 : Int32) (t4_1 : Int32) (t5_0 : (Nat → Int32)) (t6_0 : (Nat → Int64)) (t7_0 : (Nat → Int64)) (t8_0 : Int32) (t8_1 : Int32) (t9_0 : (Nat → Int32)) (t10_0 : Int32) (t10_1 : Int32) (t11_0 : (Nat → Int32)) (t12_0 : Int32) (t12_1 : Int32) (t13_0 : (Nat → Int32)) (t14_0 : Int32) (t14_1 : Int32) (t15_0 : (Nat → Int32)) (t16_0 : Int64) (t16_1 : Int32) (t16_2 : Int32) (t17_0 : Int64) (t17_1 : Int32) (t17_2 : Int32) (t18_0 : Int32) (t18_1 : Int32) (t19_0 : (Nat → Int32)) (t20_0 : Int32) (t20_1 : Int32) (t21_0 : Int32) (t21_1 : Int32) (t22_0 : (Nat → Int32)) (lx100 : Int32) (p355 : (Int32 × (Nat → Int64) × Int32 × Int32 × (Nat → Int32) × Int32 × Int32 × (Nat → Int32) × Int32 × Int32 × (Nat → Int32) × Int32 × Int32 × (Nat → Int32) × Int32 × Int32 × (Nat → Int32) × Int32 × Int32 × (Nat → Int32) × Int64 × Int32 × Int32)) : Prop := True
def S_NH_print_c127_4 (x2 : Int32) (x3 : Int32) (x4 : Int32) (t0_0 : Int32) (t1_0 : (Nat → Int64)) (t2_0 : Int32) (t2_1 : Int32) (t3_0 : (Nat → Int32)) (t4_0 : Int32) (t4_1 : Int32) (t5_0 : (Nat → Int32)) (t6_0 : (Nat → Int64)) (t7_0 : (Nat → Int64)) (t8_0 : Int32) (t8_1 : Int32) (t9_0 : (Nat → Int32)) (t10_0 : Int32) (t10_1 : Int32) (t11_0 : (Nat → Int32)) (t12_0 : Int32) (t12_1 : Int32) (t13_0 : (Nat → Int32)) (t14_0 : Int32) (t14_1 : Int32) (t15_0 : (Nat → Int32)) (t16_0 : Int64) (t16_1 : Int32) (t16_2 : Int32) (t17_0 : Int64) (t17_1 : Int32) (t17_2 : Int32) (t18_0 : Int32) (t18_1 : Int32) (t19_0 : (Nat → Int32)) (t20_0 : Int32) (t20_1 : Int32) (t21_0 : Int32) (t21_1 : Int32) (t22_0 : (Nat → Int32)) (lx100 : Int32) (p474 : (Int32 × (Nat → Int64) × Int32 × Int32 × (Nat → Int32) × Int32 × Int32 × (Nat → Int32) × Int32 × Int32 × (Nat → Int32) × Int32 × Int32 × (Nat → Int32) × Int32 × Int32 × (Nat → Int32) × Int32 × Int32 × (Nat → Int32) × Int64 × Int32 × Int32)) : Prop := True
def S_NH_print_c127_5 (x2 : Int32) (x3 : Int32) (x4 : Int32) (t0_0 : Int32) (t1_0 : (Nat → Int64)) (t2_0 : Int32) (t2_1 : Int32) (t3_0 : (Nat → Int32)) (t4_0 : Int32) (t4_1 : Int32) (t5_0 : (Nat → Int32)) (t6_0 : (Nat → Int64)) (t7_0 : (Nat → Int64)) (t8_0 : Int32) (t8_1 : Int32) (t9_0 : (Nat → Int32)) (t10_0 : Int32) (t10_1 : Int32) (t11_0 : (Nat → Int32)) (t12_0 : Int32) (t12_1 : Int32) (t13_0 : (Nat → Int32)) (t14_0 : Int32) (t14_1 : Int32) (t15_0 : (Nat → Int32)) (t16_0 : Int64) (t16_1 : Int32) (t16_2 : Int32) (t17_0 : Int64) (t17_1 : Int32) (t17_2 : Int32) (t18_0 : Int32) (t18_1 : Int32) (t19_0 : (Nat → Int32)) (t20_0 : Int32) (t20_1 : Int32) (t21_0 : Int32) (t21_1 : Int32) (t22_0 : (Nat → Int32)) (lx100 : Int32) (p586 : (Int32 × (Nat → Int64) × Int32 × Int32 × (Nat → Int32) × Int32 × Int32 × (Nat → Int32) × Int32 × Int32 × (Nat → Int32) × Int32 × Int32 × (Nat → Int32) × Int32 × Int32 × (Nat → Int32) × Int32 × Int32 × (Nat → Int32) × Int64 × Int32 × Int32)) : Prop := True
def S_NH_print_c127_6 (x2 : Int32) (x3 : Int32) (x4 : Int32) (t0_0 : Int32) (t1_0 : (Nat → Int64)) (t2_0 : Int32) (t2_1 : Int32) (t3_0 : (Nat → Int32)) (t4_0 : Int32) (t4_1 : Int32) (t5_0 : (Nat → Int32)) (t6_0 : (Nat → Int64)) (t7_0 : (Nat → Int64)) (t8_0 : Int32) (t8_1 : Int32) (t9_0 : (Nat → Int32)) (t10_0 : Int32) (t10_1 : Int32) (t11_0 : (Nat → Int32)) (t12_0 : Int32) (t12_1 : Int32) (t13_0 : (Nat → Int32)) (t14_0 : Int32) (t14_1 : Int32) (t15_0 : (Nat → Int32)) (t16_0 : Int64) (t16_1 : Int32) (t16_2 : Int32) (t17_0 : Int64) (t17_1 : Int32) (t17_2 : Int32) (t18_0 : Int32) (t18_1 : Int32) (t19_0 : (Nat → Int32)) (t20_0 : Int32) (t20_1 : Int32) (t21_0 : Int32) (t21_1 : Int32) (t22_0 : (Nat → Int32)) (lx100 : Int32) (p712 : (Int32 × (Nat → Int64) × Int32 × Int32 × (Nat → Int32) × Int32 × Int32 × (Nat → Int32) × Int32 × Int32 × (Nat → Int32) × Int32 × Int32 × (Nat → Int32) × Int32 × Int32 × (Nat → Int32) × Int32 × Int32 × (Nat → Int32) × Int64 × Int32 × Int32)) : Prop := True
def S_NH_print_c127_7 (x2 : Int32) (x3 : Int32) (x4 : Int32) (t0_0 : Int32) (t1_0 : (Nat → Int64)) (t2_0 : Int32) (t2_1 : Int32) (t3_0 : (Nat → Int32)) (t4_0 : Int32) (t4_1 : Int32) (t5_0 : (Nat → Int32)) (t6_0 : (Nat → Int64)) (t7_0 : (Nat → Int64)) (t8_0 : Int32) (t8_1 : Int32) (t9_0 : (Nat → Int32)) (t10_0 : Int32) (t10_1 : Int32) (t11_0 : (Nat → Int32)) (t12_0 : Int32) (t12_1 : Int32) (t13_0 : (Nat → Int32)) (t14_0 : Int32) (t14_1 : Int32) (t15_0 : (Nat → Int32)) (t16_0 : Int64) (t16_1 : Int32) (t16_2 : Int32) (t17_0 : Int64) (t17_1 : Int32) (t17_2 : Int32) (t18_0 : Int32) (t18_1 : Int32) (t19_0 : (Nat → Int32)) (t20_0 : Int32) (t20_1 : Int32) (t21_0 : Int32) (t21_1 : Int32) (t22_0 : (Nat → Int32)) (lx100 : Int32) (p824 : (Int32 × (Nat → Int64) × Int32 × Int32 × (Nat → Int32) × Int32 × Int32 × (Nat → Int32) × Int32 × Int32 × (Nat → Int32) × Int32 × Int32 × (Nat → Int32) × Int32 × Int32 × (Nat → Int32) × Int32 × Int32 × (Nat → Int32) × Int64 × Int32 × Int32)) : Prop := True
def S_NH_print_c127_8 (x2 : Int32) (x3 : Int32) (x4 : Int32) (t0_0 : Int32) (t1_0 : (Nat → Int64)) (t2_0 : Int32) (t2_1 : Int32) (t3_0 : (Nat → Int32)) (t4_0 : Int32) (t4_1 : Int32) (t5_0 : (Nat → Int32)) (t6_0 : (Nat → Int64)) (t7_0 : (Nat → Int64)) (t8_0 : Int32) (t8_1 : Int32) (t9_0 : (Nat → Int32)) (t10_0 : Int32) (t10_1 : Int32) (t11_0 : (Nat → Int32)) (t12_0 : Int32) (t12_1 : Int32) (t13_0 : (Nat → Int32)) (t14_0 : Int32) (t14_1 : Int32) (t15_0 : (Nat → Int32)) (t16_0 : Int64) (t16_1 : Int32) (t16_2 : Int32) (t17_0 : Int64) (t17_1 : Int32) (t17_2 : Int32) (t18_0 : Int32) (t18_1 : Int32) (t19_0 : (Nat → Int32)) (t20_0 : Int32) (t20_1 : Int32) (t21_0 : Int32) (t21_1 : Int32) (t22_0 : (Nat → Int32)) (lx100 : Int32) (p943 : (Int32 × (Nat → Int64) × Int32 × Int32 × (Nat → Int32) × Int32 × Int32 × (Nat → Int32) × Int32 × Int32 × (Nat → Int32) × Int32 × Int32 × (Nat → Int32) × Int32 × Int32 × (Nat → Int32) × Int32 × Int32 × (Nat → Int32) × Int64 × Int32 × Int32)) : Prop := True
def S_NH_print_c127_9 (x2 : Int32) (x3 : Int32) (x4 : Int32) (t0_0 : Int32) (t1_0 : (Nat → Int64)) (t2_0 : Int32) (t2_1 : Int32) (t3_0 : (Nat → Int32)) (t4_0 : Int32) (t4_1 : Int32) (t5_0 : (Nat → Int32)) (t6_0 : (Nat → Int64)) (t7_0 : (Nat → Int64)) (t8_0 : Int32) (t8_1 : Int32) (t9_0 : (Nat → Int32)) (t10_0 : Int32) (t10_1 : Int32) (t11_0 : (Nat → Int32)) (t12_0 : Int32) (t12_1 : Int32) (t13_0 : (Nat → Int32)) (t14_0 : Int32) (t14_1 : Int32) (t15_0 : (Nat → Int32)) (t16_0 : Int64) (t16_1 : Int32) (t16_2 : Int32) (t17_0 : Int64) (t17_1 : Int32) (t17_2 : Int32) (t18_0 : Int32) (t18_1 : Int32) (t19_0 : (Nat → Int32)) (t20_0 : Int32) (t20_1 : Int32) (t21_0 : Int32) (t21_1 : Int32) (t22_0 : (Nat → Int32)) (lx100 : Int32) (p1055 : (Int32 × (Nat → Int64) × Int32 × Int32 × (Nat → Int32) × Int32 × Int32 × (Nat → Int32) × Int32 × Int32 × (Nat → Int32) × Int32 × Int32 × (Nat → Int32) × Int32 × Int32 × (Nat → Int32) × Int32 × Int32 × (Nat → Int32) × Int64 × Int32 × Int32)) : Prop := True
def S_NH_print_J98 (x2 : Int32) (x3 : Int32) (x4 : Int32) (t0_0 : Int32) (t1_0 : (Nat → Int64)) (t2_0 : Int32) (t2_1 : Int32) (t3_0 : (Nat → Int32)) (t4_0 : Int32) (t4_1 : Int32) (t5_0 : (Nat → Int32)) (t6_0 : (Nat → Int64)) (t7_0 : (Nat → Int64)) (t8_0 : Int32) (t8_1 : Int32) (t9_0 : (Nat → Int32)) (t10_0 : Int32) (t10_1 : Int32) (t11_0 : (Nat → Int32)) (t12_0 : Int32) (t12_1 : Int32) (t13_0 : (Nat → Int32)) (t14_0 : Int32) (t14_1 : Int32) (t15_0 : (Nat → Int32)) (t16_0 : Int64) (t16_1 : Int32) (t16_2 : Int32) (t17_0 : Int64) (t17_1 : Int32) (t17_2 : Int32) (t18_0 : Int32) (t18_1 : Int32) (t19_0 : (Nat → Int32)) (t20_0 : Int32) (t20_1 : Int32) (t21_0 : Int32) (t21_1 : Int32) (t22_0 : (Nat → Int32)) (lx100 : Int32) : Prop := if (F_NH_need lx100) = (0 : Int32) then (if x2 = (2 : Int32) then (if x2 = (2 : Int32) then ((0 ≤ x3.toInt) ∧ ((x3.toInt ≤ 9) ∧ (if x4 = (1 : Int32) then ((True ∧ S_Wri_floatText (52 : Int32) (1075 : Int32) (2047 : Int32) (t6_0 x3.toNatClampNeg : Int64) (1 : Int32) t0_0 t1_0 t4_0 t4_1 t5_0 t2_0 t2_1 t3_0 t8_0 t8_1 t9_0 t10_0 t10_1 t11_0 t12_0 t12_1 t13_0 t14_0 t14_1 t15_0 t16_0 t16_1 t16_2) ∧ (S_NH_print_c127_3 x2 x3 x4 t0_0 t1_0 t2_0 t2_1 t3_0 t4_0 t4_1 t5_0 t6_0 t7_0 t8_0 t8_1 t9_0 t10_0 t10_1 t11_0 t12_0 t12_1 t13_0 t14_0 t14_1 t15_0 t16_0 t16_1 t16_2 t17_0 t17_1 t17_2 t18_0 t18_1 t19_0 t20_0 t20_1 t21_0 t21_1 t22_0 lx100 ((F_Wri_floatText (52 : Int32) (1075 : Int32) (2047 : Int32) (t6_0 x3.toNatClampNeg : Int64) (1 : Int32) t0_0 t1_0 t4_0 t4_1 t5_0 t2_0 t2_1 t3_0 t8_0 t8_1 t9_0 t10_0 t10_1 t11_0 t12_0 t12_1 t13_0 t14_0 t14_1 t15_0 t16_0 t16_1 t16_2) : (Int32 × (Nat → Int64) × Int32 × Int32 × (Nat → Int32) × Int32 × Int32 × (Nat → Int32) × Int32 × Int32 × (Nat → Int32) × Int32 × Int32 × (Nat → Int32) × Int32 × Int32 × (Nat → Int32) × Int32 × Int32 × (Nat → Int32) × Int64 × Int32 × Int32)))) else ((True ∧ S_Wri_floatText (52 : Int32) (1075 : Int32) (2047 : Int32) (t6_0 x3.toNatClampNeg : Int64) (0 : Int32) t0_0 t1_0 t4_0 t4_1 t5_0 t2_0 t2_1 t3_0 t8_0 t8_1 t9_0 t10_0 t10_1 t11_0 t12_0 t12_1 t13_0 t14_0 t14_1 t15_0 t16_0 t16_1 t16_2) ∧ (S_NH_print_c127 x2 x3 x4 t0_0 t1_0 t2_0 t2_1 t3_0 t4_0 t4_1 t5_0 t6_0 t7_0 t8_0 t8_1 t9_0 t10_0 t10_1 t11_0 t12_0 t12_1 t13_0 t14_0 t14_1 t15_0 t16_0 t16_1 t16_2 t17_0 t17_1 t17_2 t18_0 t18_1 t19_0 t20_0 t20_1 t21_0 t21_1 t22_0 lx100 ((F_Wri_floatText (52 : Int32) (1075 : Int32) (2047 : Int32) (t6_0 x3.toNatClampNeg : Int64) (0 : Int32) t0_0 t1_0 t4_0 t4_1 t5_0 t2_0 t2_1 t3_0 t8_0 t8_1 t9_0 t10_0 t10_1 t11_0 t12_0 t12_1 t13_0 t14_0 t14_1 t15_0 t16_0 t16_1 t16_2) : (Int32 × (Nat → Int64) × Int32 × Int32 × (Nat → Int32) × Int32 × Int32 × (Nat → Int32) × Int32 × Int32 × (Nat → Int32) × Int32 × Int32 × (Nat → Int32) × Int32 × Int32 × (Nat → Int32) × Int32 × Int32 × (Nat → Int32) × Int64 × Int32 × Int32))))))) else ((0 ≤ x3.toInt) ∧ ((x3.toInt ≤ 9) ∧ (if x4 = (1 : Int32) then ((True ∧ S_Wri_floatText (52 : Int32) (1075 : Int32) (2047 : Int32) (t7_0 x3.toNatClampNeg : Int64) (1 : Int32) t0_0 t1_0 t4_0 t4_1 t5_0 t2_0 t2_1 t3_0 t8_0 t8_1 t9_0 t10_0 t10_1 t11_0 t12_0 t12_1 t13_0 t14_0 t14_1 t15_0 t16_0 t16_1 t16_2) ∧ (S_NH_print_c127_5 x2 x3 x4 t0_0 t1_0 t2_0 t2_1 t3_0 t4_0 t4_1 t5_0 t6_0 t7_0 t8_0 t8_1 t9_0 t10_0 t10_1 t11_0 t12_0 t12_1 t13_0 t14_0 t14_1 t15_0 t16_0 t16_1 t16_2 t17_0 t17_1 t17_2 t18_0 t18_1 t19_0 t20_0 t20_1 t21_0 t21_1 t22_0 lx100 ((F_Wri_floatText (52 : Int32) (1075 : Int32) (2047 : Int32) (t7_0 x3.toNatClampNeg : Int64) (1 : Int32) t0_0 t1_0 t4_0 t4_1 t5_0 t2_0 t2_1 t3_0 t8_0 t8_1 t9_0 t10_0 t10_1 t11_0 t12_0 t12_1 t13_0 t14_0 t14_1 t15_0 t16_0 t16_1 t16_2) : (Int32 × (Nat → Int64) × Int32 × Int32 × (Nat → Int32) × Int32 × Int32 × (Nat → Int32) × Int32 × Int32 × (Nat → Int32) × Int32 × Int32 × (Nat → Int32) × Int32 × Int32 × (Nat → Int32) × Int32 × Int32 × (Nat → Int32) × Int64 × Int32 × Int32)))) else ((True ∧ S_Wri_floatText (52 : Int32) (1075 : Int32) (2047 : Int32) (t7_0 x3.toNatClampNeg : Int64) (0 : Int32) t0_0 t1_0 t4_0 t4_1 t5_0 t2_0 t2_1 t3_0 t8_0 t8_1 t9_0 t10_0 t10_1 t11_0 t12_0 t12_1 t13_0 t14_0 t14_1 t15_0 t16_0 t16_1 t16_2) ∧ (S_NH_print_c127_4 x2 x3 x4 t0_0 t1_0 t2_0 t2_1 t3_0 t4_0 t4_1 t5_0 t6_0 t7_0 t8_0 t8_1 t9_0 t10_0 t10_1 t11_0 t12_0 t12_1 t13_0 t14_0 t14_1 t15_0 t16_0 t16_1 t16_2 t17_0 t17_1 t17_2 t18_0 t18_1 t19_0 t20_0 t20_1 t21_0 t21_1 t22_0 lx100 ((F_Wri_floatText (52 : Int32) (1075 : Int32) (2047 : Int32) (t7_0 x3.toNatClampNeg : Int64) (0 : Int32) t0_0 t1_0 t4_0 t4_1 t5_0 t2_0 t2_1 t3_0 t8_0 t8_1 t9_0 t10_0 t10_1 t11_0 t12_0 t12_1 t13_0 t14_0 t14_1 t15_0 t16_0 t16_1 t16_2) : (Int32 × (Nat → Int64) × Int32 × Int32 × (Nat → Int32) × Int32 × Int32 × (Nat → Int32) × Int32 × Int32 × (Nat → Int32) × Int32 × Int32 × (Nat → Int32) × Int32 × Int32 × (Nat → Int32) × Int32 × Int32 × (Nat → Int32) × Int64 × Int32 × Int32)))))))) else (if x2 = (2 : Int32) then ((0 ≤ x3.toInt) ∧ ((x3.toInt ≤ 9) ∧ (if x4 = (1 : Int32) then ((True ∧ S_Wri_floatText (23 : Int32) (150 : Int32) (255 : Int32) (t6_0 x3.toNatClampNeg : Int64) (1 : Int32) t0_0 t1_0 t4_0 t4_1 t5_0 t2_0 t2_1 t3_0 t8_0 t8_1 t9_0 t10_0 t10_1 t11_0 t12_0 t12_1 t13_0 t14_0 t14_1 t15_0 t17_0 t17_1 t17_2) ∧ (S_NH_print_c127_7 x2 x3 x4 t0_0 t1_0 t2_0 t2_1 t3_0 t4_0 t4_1 t5_0 t6_0 t7_0 t8_0 t8_1 t9_0 t10_0 t10_1 t11_0 t12_0 t12_1 t13_0 t14_0 t14_1 t15_0 t16_0 t16_1 t16_2 t17_0 t17_1 t17_2 t18_0 t18_1 t19_0 t20_0 t20_1 t21_0 t21_1 t22_0 lx100 ((F_Wri_floatText (23 : Int32) (150 : Int32) (255 : Int32) (t6_0 x3.toNatClampNeg : Int64) (1 : Int32) t0_0 t1_0 t4_0 t4_1 t5_0 t2_0 t2_1 t3_0 t8_0 t8_1 t9_0 t10_0 t10_1 t11_0 t12_0 t12_1 t13_0 t14_0 t14_1 t15_0 t17_0 t17_1 t17_2) : (Int32 × (Nat → Int64) × Int32 × Int32 × (Nat → Int32) × Int32 × Int32 × (Nat → Int32) × Int32 × Int32 × (Nat → Int32) × Int32 × Int32 × (Nat → Int32) × Int32 × Int32 × (Nat → Int32) × Int32 × Int32 × (Nat → Int32) × Int64 × Int32 × Int32)))) else ((True ∧ S_Wri_floatText (23 : Int32) (150 : Int32) (255 : Int32) (t6_0 x3.toNatClampNeg : Int64) (0 : Int32) t0_0 t1_0 t4_0 t4_1 t5_0 t2_0 t2_1 t3_0 t8_0 t8_1 t9_0 t10_0 t10_1 t11_0 t12_0 t12_1 t13_0 t14_0 t14_1 t15_0 t17_0 t17_1 t17_2) ∧ (S_NH_print_c127_6 x2 x3 x4 t0_0 t1_0 t2_0 t2_1 t3_0 t4_0 t4_1 t5_0 t6_0 t7_0 t8_0 t8_1 t9_0 t10_0 t10_1 t11_0 t12_0 t12_1 t13_0 t14_0 t14_1 t15_0 t16_0 t16_1 t16_2 t17_0 t17_1 t17_2 t18_0 t18_1 t19_0 t20_0 t20_1 t21_0 t21_1 t22_0 lx100 ((F_Wri_floatText (23 : Int32) (150 : Int32) (255 : Int32) (t6_0 x3.toNatClampNeg : Int64) (0 : Int32) t0_0 t1_0 t4_0 t4_1 t5_0 t2_0 t2_1 t3_0 t8_0 t8_1 t9_0 t10_0 t10_1 t11_0 t12_0 t12_1 t13_0 t14_0 t14_1 t15_0 t17_0 t17_1 t17_2) : (Int32 × (Nat → Int64) × Int32 × Int32 × (Nat → Int32) × Int32 × Int32 × (Nat → Int32) × Int32 × Int32 × (Nat → Int32) × Int32 × Int32 × (Nat → Int32) × Int32 × Int32 × (Nat → Int32) × Int32 × Int32 × (Nat → Int32) × Int64 × Int32 × Int32))))))) else ((0 ≤ x3.toInt) ∧ ((x3.toInt ≤ 9) ∧ (if x4 = (1 : Int32) then ((True ∧ S_Wri_floatText (23 : Int32) (150 : Int32) (255 : Int32) (t7_0 x3.toNatClampNeg : Int64) (1 : Int32) t0_0 t1_0 t4_0 t4_1 t5_0 t2_0 t2_1 t3_0 t8_0 t8_1 t9_0 t10_0 t10_1 t11_0 t12_0 t12_1 t13_0 t14_0 t14_1 t15_0 t17_0 t17_1 t17_2) ∧ (S_NH_print_c127_9 x2 x3 x4 t0_0 t1_0 t2_0 t2_1 t3_0 t4_0 t4_1 t5_0 t6_0 t7_0 t8_0 t8_1 t9_0 t10_0 t10_1 t11_0 t12_0 t12_1 t13_0 t14_0 t14_1 t15_0 t16_0 t16_1 t16_2 t17_0 t17_1 t17_2 t18_0 t18_1 t19_0 t20_0 t20_1 t21_0 t21_1 t22_0 lx100 ((F_Wri_floatText (23 : Int32) (150 : Int32) (255 : Int32) (t7_0 x3.toNatClampNeg : Int64) (1 : Int32) t0_0 t1_0 t4_0 t4_1 t5_0 t2_0 t2_1 t3_0 t8_0 t8_1 t9_0 t10_0 t10_1 t11_0 t12_0 t12_1 t13_0 t14_0 t14_1 t15_0 t17_0 t17_1 t17_2) : (Int32 × (Nat → Int64) × Int32 × Int32 × (Nat → Int32) × Int32 × Int32 × (Nat → Int32) × Int32 × Int32 × (Nat → Int32) × Int32 × Int32 × (Nat → Int32) × Int32 × Int32 × (Nat → Int32) × Int32 × Int32 × (Nat → Int32) × Int64 × Int32 × Int32)))) else ((True ∧ S_Wri_floatText (23 : Int32) (150 : Int32) (255 : Int32) (t7_0 x3.toNatClampNeg : Int64) (0 : Int32) t0_0 t1_0 t4_0 t4_1 t5_0 t2_0 t2_1 t3_0 t8_0 t8_1 t9_0 t10_0 t10_1 t11_0 t12_0 t12_1 t13_0 t14_0 t14_1 t15_0 t17_0 t17_1 t17_2) ∧ (S_NH_print_c127_8 x2 x3 x4 t0_0 t1_0 t2_0 t2_1 t3_0 t4_0 t4_1 t5_0 t6_0 t7_0 t8_0 t8_1 t9_0 t10_0 t10_1 t11_0 t12_0 t12_1 t13_0 t14_0 t14_1 t15_0 t16_0 t16_1 t16_2 t17_0 t17_1 t17_2 t18_0 t18_1 t19_0 t20_0 t20_1 t21_0 t21_1 t22_0 lx100 ((F_Wri_floatText (23 : Int32) (150 : Int32) (255 : Int32) (t7_0 x3.toNatClampNeg : Int64) (0 : Int32) t0_0 t1_0 t4_0 t4_1 t5_0 t2_0 t2_1 t3_0 t8_0 t8_1 t9_0 t10_0 t10_1 t11_0 t12_0 t12_1 t13_0 t14_0 t14_1 t15_0 t17_0 t17_1 t17_2) : (Int32 × (Nat → Int64) × Int32 × Int32 × (Nat → Int32) × Int32 × Int32 × (Nat → Int32) × Int32 × Int32 × (Nat → Int32) × Int32 × Int32 × (Nat → Int32) × Int32 × Int32 × (Nat → Int32) × Int32 × Int32 × (Nat → Int32) × Int64 × Int32 × Int32))))))))) else (True)
def S_NH_print_J97 (x2 : Int32) (x3 : Int32) (x4 : Int32) (t0_0 : Int32) (t1_0 : (Nat → Int64)) (t2_0 : Int32) (t2_1 : Int32) (t3_0 : (Nat → Int32)) (t4_0 : Int32) (t4_1 : Int32) (t5_0 : (Nat → Int32)) (t6_0 : (Nat → Int64)) (t7_0 : (Nat → Int64)) (t8_0 : Int32) (t8_1 : Int32) (t9_0 : (Nat → Int32)) (t10_0 : Int32) (t10_1 : Int32) (t11_0 : (Nat → Int32)) (t12_0 : Int32) (t12_1 : Int32) (t13_0 : (Nat → Int32)) (t14_0 : Int32) (t14_1 : Int32) (t15_0 : (Nat → Int32)) (t16_0 : Int64) (t16_1 : Int32) (t16_2 : Int32) (t17_0 : Int64) (t17_1 : Int32) (t17_2 : Int32) (t18_0 : Int32) (t18_1 : Int32) (t19_0 : (Nat → Int32)) (t20_0 : Int32) (t20_1 : Int32) (t21_0 : Int32) (t21_1 : Int32) (t22_0 : (Nat → Int32)) : Prop := S_NH_print_J98 x2 x3 x4 t0_0 t1_0 t2_0 t2_1 t3_0 t4_0 t4_1 t5_0 t6_0 t7_0 t8_0 t8_1 t9_0 t10_0 t10_1 t11_0 t12_0 t12_1 t13_0 t14_0 t14_1 t15_0 t16_0 t16_1 t16_2 t17_0 t17_1 t17_2 t18_0 t18_1 t19_0 t20_0 t20_1 t21_0 t21_1 t22_0 0
def S_NH_print_c78 (x2 : Int32) (x3 : Int32) (x4 : Int32) (t0_0 : Int32) (t1_0 : (Nat → Int64)) (t2_0 : Int32) (t2_1 : Int32) (t3_0 : (Nat → Int32)) (t4_0 : Int32) (t4_1 : Int32) (t5_0 : (Nat → Int32)) (t6_0 : (Nat → Int64)) (t7_0 : (Nat → Int64)) (t8_0 : Int32) (t8_1 : Int32) (t9_0 : (Nat → Int32)) (t10_0 : Int32) (t10_1 : Int32) (t11_0 : (Nat → Int32)) (t12_0 : Int32) (t12_1 : Int32) (t13_0 : (Nat → Int32)) (t14_0 : Int32) (t14_1 : Int32) (t15_0 : (Nat → Int32)) (t16_0 : Int64) (t16_1 : Int32) (t16_2 : Int32) (t17_0 : Int64) (t17_1 : Int32) (t17_2 : Int32) (t18_0 : Int32) (t18_1 : Int32) (t19_0 : (Nat → Int32)) (t20_0 : Int32) (t20_1 : Int32) (t21_0 : Int32) (t21_1 : Int32) (t22_0 : (Nat → Int32)) (lx1121 : Int32) (p1199 : (Int32 × (Nat → Int64) × Int32 × Int32 × (Nat → Int32) × Int32 × Int32 × (Nat → Int32))) : Prop := True
def S_NH_print_J64 (x2 : Int32) (x3 : Int32) (x4 : Int32) (t0_0 : Int32) (t1_0 : (Nat → Int64)) (t2_0 : Int32) (t2_1 : Int32) (t3_0 : (Nat → Int32)) (t4_0 : Int32) (t4_1 : Int32) (t5_0 : (Nat → Int32)) (t6_0 : (Nat → Int64)) (t7_0 : (Nat → Int64)) (t8_0 : Int32) (t8_1 : Int32) (t9_0 : (Nat → Int32)) (t10_0 : Int32) (t10_1 : Int32) (t11_0 : (Nat → Int32)) (t12_0 : Int32) (t12_1 : Int32) (t13_0 : (Nat → Int32)) (t14_0 : Int32) (t14_1 : Int32) (t15_0 : (Nat → Int32)) (t16_0 : Int64) (t16_1 : Int32) (t16_2 : Int32) (t17_0 : Int64) (t17_1 : Int32) (t17_2 : Int32) (t18_0 : Int32) (t18_1 : Int32) (t19_0 : (Nat → Int32)) (t20_0 : Int32) (t20_1 : Int32) (t21_0 : Int32) (t21_1 : Int32) (t22_0 : (Nat → Int32)) (lx1121 : Int32) : Prop := if (F_NH_need lx1121) = (0 : Int32) then ((0 ≤ x3.toInt) ∧ ((x3.toInt ≤ 9) ∧ ((True ∧ S_Wri_decimalText (108 : Int32) x4 t0_0 t1_0 t4_0 t4_1 t5_0 t2_0 t2_1 t3_0 t20_0 t20_1 t21_0 t21_1 t22_0) ∧ (S_NH_print_c78 x2 x3 x4 t0_0 t1_0 t2_0 t2_1 t3_0 t4_0 t4_1 t5_0 t6_0 t7_0 t8_0 t8_1 t9_0 t10_0 t10_1 t11_0 t12_0 t12_1 t13_0 t14_0 t14_1 t15_0 t16_0 t16_1 t16_2 t17_0 t17_1 t17_2 t18_0 t18_1 t19_0 t20_0 t20_1 t21_0 t21_1 t22_0 lx1121 ((F_Wri_decimalText (108 : Int32) x4 t0_0 t1_0 t4_0 t4_1 t5_0 t2_0 t2_1 t3_0 t20_0 t20_1 t21_0 t21_1 t22_0) : (Int32 × (Nat → Int64) × Int32 × Int32 × (Nat → Int32) × Int32 × Int32 × (Nat → Int32))))))) else (True)
def S_NH_print_J63 (x2 : Int32) (x3 : Int32) (x4 : Int32) (t0_0 : Int32) (t1_0 : (Nat → Int64)) (t2_0 : Int32) (t2_1 : Int32) (t3_0 : (Nat → Int32)) (t4_0 : Int32) (t4_1 : Int32) (t5_0 : (Nat → Int32)) (t6_0 : (Nat → Int64)) (t7_0 : (Nat → Int64)) (t8_0 : Int32) (t8_1 : Int32) (t9_0 : (Nat → Int32)) (t10_0 : Int32) (t10_1 : Int32) (t11_0 : (Nat → Int32)) (t12_0 : Int32) (t12_1 : Int32) (t13_0 : (Nat → Int32)) (t14_0 : Int32) (t14_1 : Int32) (t15_0 : (Nat → Int32)) (t16_0 : Int64) (t16_1 : Int32) (t16_2 : Int32) (t17_0 : Int64) (t17_1 : Int32) (t17_2 : Int32) (t18_0 : Int32) (t18_1 : Int32) (t19_0 : (Nat → Int32)) (t20_0 : Int32) (t20_1 : Int32) (t21_0 : Int32) (t21_1 : Int32) (t22_0 : (Nat → Int32)) : Prop := S_NH_print_J64 x2 x3 x4 t0_0 t1_0 t2_0 t2_1 t3_0 t4_0 t4_1 t5_0 t6_0 t7_0 t8_0 t8_1 t9_0 t10_0 t10_1 t11_0 t12_0 t12_1 t13_0 t14_0 t14_1 t15_0 t16_0 t16_1 t16_2 t17_0 t17_1 t17_2 t18_0 t18_1 t19_0 t20_0 t20_1 t21_0 t21_1 t22_0 0
def S_NH_print_c39 (x2 : Int32) (x3 : Int32) (x4 : Int32) (t0_0 : Int32) (t1_0 : (Nat → Int64)) (t2_0 : Int32) (t2_1 : Int32) (t3_0 : (Nat → Int32)) (t4_0 : Int32) (t4_1 : Int32) (t5_0 : (Nat → Int32)) (t6_0 : (Nat → Int64)) (t7_0 : (Nat → Int64)) (t8_0 : Int32) (t8_1 : Int32) (t9_0 : (Nat → Int32)) (t10_0 : Int32) (t10_1 : Int32) (t11_0 : (Nat → Int32)) (t12_0 : Int32) (t12_1 : Int32) (t13_0 : (Nat → Int32)) (t14_0 : Int32) (t14_1 : Int32) (t15_0 : (Nat → Int32)) (t16_0 : Int64) (t16_1 : Int32) (t16_2 : Int32) (t17_0 : Int64) (t17_1 : Int32) (t17_2 : Int32) (t18_0 : Int32) (t18_1 : Int32) (t19_0 : (Nat → Int32)) (t20_0 : Int32) (t20_1 : Int32) (t21_0 : Int32) (t21_1 : Int32) (t22_0 : (Nat → Int32)) (lx1250 : Int32) (p1317 : (Int32 × (Nat → Int64) × Int32 × Int32 × (Nat → Int32))) : Prop := True
def S_NH_print_J25 (x2 : Int32) (x3 : Int32) (x4 : Int32) (t0_0 : Int32) (t1_0 : (Nat → Int64)) (t2_0 : Int32) (t2_1 : Int32) (t3_0 : (Nat → Int32)) (t4_0 : Int32) (t4_1 : Int32) (t5_0 : (Nat → Int32)) (t6_0 : (Nat → Int64)) (t7_0 : (Nat → Int64)) (t8_0 : Int32) (t8_1 : Int32) (t9_0 : (Nat → Int32)) (t10_0 : Int32) (t10_1 : Int32) (t11_0 : (Nat → Int32)) (t12_0 : Int32) (t12_1 : Int32) (t13_0 : (Nat → Int32)) (t14_0 : Int32) (t14_1 : Int32) (t15_0 : (Nat → Int32)) (t16_0 : Int64) (t16_1 : Int32) (t16_2 : Int32) (t17_0 : Int64) (t17_1 : Int32) (t17_2 : Int32) (t18_0 : Int32) (t18_1 : Int32) (t19_0 : (Nat → Int32)) (t20_0 : Int32) (t20_1 : Int32) (t21_0 : Int32) (t21_1 : Int32) (t22_0 : (Nat → Int32)) (lx1250 : Int32) : Prop := if (F_NH_need lx1250) = (0 : Int32) then ((0 ≤ x3.toInt) ∧ ((x3.toInt ≤ 9) ∧ ((True ∧ S_Wri_wholeText (68 : Int32) x4 t0_0 t1_0 t2_0 t2_1 t3_0 t18_0 t18_1 t19_0) ∧ (S_NH_print_c39 x2 x3 x4 t0_0 t1_0 t2_0 t2_1 t3_0 t4_0 t4_1 t5_0 t6_0 t7_0 t8_0 t8_1 t9_0 t10_0 t10_1 t11_0 t12_0 t12_1 t13_0 t14_0 t14_1 t15_0 t16_0 t16_1 t16_2 t17_0 t17_1 t17_2 t18_0 t18_1 t19_0 t20_0 t20_1 t21_0 t21_1 t22_0 lx1250 ((F_Wri_wholeText (68 : Int32) x4 t0_0 t1_0 t2_0 t2_1 t3_0 t18_0 t18_1 t19_0) : (Int32 × (Nat → Int64) × Int32 × Int32 × (Nat → Int32))))))) else (True)
def S_NH_print_J24 (x2 : Int32) (x3 : Int32) (x4 : Int32) (t0_0 : Int32) (t1_0 : (Nat → Int64)) (t2_0 : Int32) (t2_1 : Int32) (t3_0 : (Nat → Int32)) (t4_0 : Int32) (t4_1 : Int32) (t5_0 : (Nat → Int32)) (t6_0 : (Nat → Int64)) (t7_0 : (Nat → Int64)) (t8_0 : Int32) (t8_1 : Int32) (t9_0 : (Nat → Int32)) (t10_0 : Int32) (t10_1 : Int32) (t11_0 : (Nat → Int32)) (t12_0 : Int32) (t12_1 : Int32) (t13_0 : (Nat → Int32)) (t14_0 : Int32) (t14_1 : Int32) (t15_0 : (Nat → Int32)) (t16_0 : Int64) (t16_1 : Int32) (t16_2 : Int32) (t17_0 : Int64) (t17_1 : Int32) (t17_2 : Int32) (t18_0 : Int32) (t18_1 : Int32) (t19_0 : (Nat → Int32)) (t20_0 : Int32) (t20_1 : Int32) (t21_0 : Int32) (t21_1 : Int32) (t22_0 : (Nat → Int32)) : Prop := S_NH_print_J25 x2 x3 x4 t0_0 t1_0 t2_0 t2_1 t3_0 t4_0 t4_1 t5_0 t6_0 t7_0 t8_0 t8_1 t9_0 t10_0 t10_1 t11_0 t12_0 t12_1 t13_0 t14_0 t14_1 t15_0 t16_0 t16_1 t16_2 t17_0 t17_1 t17_2 t18_0 t18_1 t19_0 t20_0 t20_1 t21_0 t21_1 t22_0 0
def S_NH_print (x2 : Int32) (x3 : Int32) (x4 : Int32) (t0_0 : Int32) (t1_0 : (Nat → Int64)) (t2_0 : Int32) (t2_1 : Int32) (t3_0 : (Nat → Int32)) (t4_0 : Int32) (t4_1 : Int32) (t5_0 : (Nat → Int32)) (t6_0 : (Nat → Int64)) (t7_0 : (Nat → Int64)) (t8_0 : Int32) (t8_1 : Int32) (t9_0 : (Nat → Int32)) (t10_0 : Int32) (t10_1 : Int32) (t11_0 : (Nat → Int32)) (t12_0 : Int32) (t12_1 : Int32) (t13_0 : (Nat → Int32)) (t14_0 : Int32) (t14_1 : Int32) (t15_0 : (Nat → Int32)) (t16_0 : Int64) (t16_1 : Int32) (t16_2 : Int32) (t17_0 : Int64) (t17_1 : Int32) (t17_2 : Int32) (t18_0 : Int32) (t18_1 : Int32) (t19_0 : (Nat → Int32)) (t20_0 : Int32) (t20_1 : Int32) (t21_0 : Int32) (t21_1 : Int32) (t22_0 : (Nat → Int32)) : Prop := if (F_NH_needRegister x2 x3) = (0 : Int32) then (if x2 = (0 : Int32) then (if x4 < (2 : Int32) then (S_NH_print_J24 x2 x3 x4 t0_0 t1_0 t2_0 t2_1 t3_0 t4_0 t4_1 t5_0 t6_0 t7_0 t8_0 t8_1 t9_0 t10_0 t10_1 t11_0 t12_0 t12_1 t13_0 t14_0 t14_1 t15_0 t16_0 t16_1 t16_2 t17_0 t17_1 t17_2 t18_0 t18_1 t19_0 t20_0 t20_1 t21_0 t21_1 t22_0) else (if (36 : Int32) < x4 then (S_NH_print_J24 x2 x3 x4 t0_0 t1_0 t2_0 t2_1 t3_0 t4_0 t4_1 t5_0 t6_0 t7_0 t8_0 t8_1 t9_0 t10_0 t10_1 t11_0 t12_0 t12_1 t13_0 t14_0 t14_1 t15_0 t16_0 t16_1 t16_2 t17_0 t17_1 t17_2 t18_0 t18_1 t19_0 t20_0 t20_1 t21_0 t21_1 t22_0) else (S_NH_print_J25 x2 x3 x4 t0_0 t1_0 t2_0 t2_1 t3_0 t4_0 t4_1 t5_0 t6_0 t7_0 t8_0 t8_1 t9_0 t10_0 t10_1 t11_0 t12_0 t12_1 t13_0 t14_0 t14_1 t15_0 t16_0 t16_1 t16_2 t17_0 t17_1 t17_2 t18_0 t18_1 t19_0 t20_0 t20_1 t21_0 t21_1 t22_0 1))) else (if x2 = (1 : Int32) then (if x4 < (0 : Int32) then (S_NH_print_J63 x2 x3 x4 t0_0 t1_0 t2_0 t2_1 t3_0 t4_0 t4_1 t5_0 t6_0 t7_0 t8_0 t8_1 t9_0 t10_0 t10_1 t11_0 t12_0 t12_1 t13_0 t14_0 t14_1 t15_0 t16_0 t16_1 t16_2 t17_0 t17_1 t17_2 t18_0 t18_1 t19_0 t20_0 t20_1 t21_0 t21_1 t22_0) else (if (2 : Int32) < x4 then (S_NH_print_J63 x2 x3 x4 t0_0 t1_0 t2_0 t2_1 t3_0 t4_0 t4_1 t5_0 t6_0 t7_0 t8_0 t8_1 t9_0 t10_0 t10_1 t11_0 t12_0 t12_1 t13_0 t14_0 t14_1 t15_0 t16_0 t16_1 t16_2 t17_0 t17_1 t17_2 t18_0 t18_1 t19_0 t20_0 t20_1 t21_0 t21_1 t22_0) else (S_NH_print_J64 x2 x3 x4 t0_0 t1_0 t2_0 t2_1 t3_0 t4_0 t4_1 t5_0 t6_0 t7_0 t8_0 t8_1 t9_0 t10_0 t10_1 t11_0 t12_0 t12_1 t13_0 t14_0 t14_1 t15_0 t16_0 t16_1 t16_2 t17_0 t17_1 t17_2 t18_0 t18_1 t19_0 t20_0 t20_1 t21_0 t21_1 t22_0 1))) else (if x4 < (0 : Int32) then (S_NH_print_J97 x2 x3 x4 t0_0 t1_0 t2_0 t2_1 t3_0 t4_0 t4_1 t5_0 t6_0 t7_0 t8_0 t8_1 t9_0 t10_0 t10_1 t11_0 t12_0 t12_1 t13_0 t14_0 t14_1 t15_0 t16_0 t16_1 t16_2 t17_0 t17_1 t17_2 t18_0 t18_1 t19_0 t20_0 t20_1 t21_0 t21_1 t22_0) else (if (1 : Int32) < x4 then (S_NH_print_J97 x2 x3 x4 t0_0 t1_0 t2_0 t2_1 t3_0 t4_0 t4_1 t5_0 t6_0 t7_0 t8_0 t8_1 t9_0 t10_0 t10_1 t11_0 t12_0 t12_1 t13_0 t14_0 t14_1 t15_0 t16_0 t16_1 t16_2 t17_0 t17_1 t17_2 t18_0 t18_1 t19_0 t20_0 t20_1 t21_0 t21_1 t22_0) else (S_NH_print_J98 x2 x3 x4 t0_0 t1_0 t2_0 t2_1 t3_0 t4_0 t4_1 t5_0 t6_0 t7_0 t8_0 t8_1 t9_0 t10_0 t10_1 t11_0 t12_0 t12_1 t13_0 t14_0 t14_1 t15_0 t16_0 t16_1 t16_2 t17_0 t17_1 t17_2 t18_0 t18_1 t19_0 t20_0 t20_1 t21_0 t21_1 t22_0 1))))) else (True)
set_option maxRecDepth 100000 in
set_option maxHeartbeats 4000000 in
theorem X_NH_print (l : Launch) (D : va_G) (g : Nat → ClassId) (q : Nat → Nat) (ws : va_W) (x2 : Int32) (x3 : Int32) (x4 : Int32) (k3 : Nat) (hBk3 : q_isBig (nsh g q) g q k3 68) (yk3 : 66 ≤ k3) (gk3x3 : x3.toNatClampNeg < 10 → k3 = 66 + 5 * x3.toNatClampNeg) (d3 : Nat) (hBd3 : q_isDec (nsh g q) g q d3 108) (yd3 : 66 ≤ d3) (gd3x3 : x3.toNatClampNeg < 10 → d3 = 68 + 5 * x3.toNatClampNeg) (ne_k3_d3 : k3 ≠ d3) (ne_k3_d3p1 : k3 ≠ d3 + 1) (ne_k3_d3p2 : k3 ≠ d3 + 2) (ne_d3_k3p1 : d3 ≠ k3 + 1) (hlt : l.stackTraces = false) (hI : q_I (nsh g q) q ws) (t0_0 : Int32) (hT0 : ws[3]? = (some (q 3, .inr (1, [.ref (q 4), .int 11008, .int t0_0])) : Option (Nat × va_E))) (t1_0 : (Nat → Int64)) (hT1 : ws[4]? = (some (q 4, .inl (g 1, (1376 : Int32).toNatClampNeg, .inr (.inl t1_0))) : Option (Nat × va_E))) (t2_0 : Int32) (t2_1 : Int32) (hT2 : ws[10]? = (some (q 10, .inr (2, [.ref (q 11), .int t2_0, .int t2_1])) : Option (Nat × va_E))) (t3_0 : (Nat → Int32)) (hT3 : ws[11]? = (some (q 11, .inl (g 0, (220 : Int32).toNatClampNeg, .inl t3_0)) : Option (Nat × va_E))) (t4_0 : Int32) (t4_1 : Int32) (hT4 : ws[36]? = (some (q 36, .inr (7, [.int t4_0, .int t4_1, .ref (q 37)])) : Option (Nat × va_E))) (t5_0 : (Nat → Int32)) (hT5 : ws[37]? = (some (q 37, .inl (g 2, 1026, .inl t5_0)) : Option (Nat × va_E))) (t6_0 : (Nat → Int64)) (hT6 : ws[7]? = (some (q 7, .inl (g 1, 10, .inr (.inl t6_0))) : Option (Nat × va_E))) (t7_0 : (Nat → Int64)) (hT7 : ws[8]? = (some (q 8, .inl (g 1, 10, .inr (.inl t7_0))) : Option (Nat × va_E))) (t8_0 : Int32) (t8_1 : Int32) (hT8 : ws[22]? = (some (q 22, .inr (2, [.ref (q 23), .int t8_0, .int t8_1])) : Option (Nat × va_E))) (t9_0 : (Nat → Int32)) (hT9 : ws[23]? = (some (q 23, .inl (g 0, (220 : Int32).toNatClampNeg, .inl t9_0)) : Option (Nat × va_E))) (t10_0 : Int32) (t10_1 : Int32) (hT10 : ws[24]? = (some (q 24, .inr (2, [.ref (q 25), .int t10_0, .int t10_1])) : Option (Nat × va_E))) (t11_0 : (Nat → Int32)) (hT11 : ws[25]? = (some (q 25, .inl (g 0, (220 : Int32).toNatClampNeg, .inl t11_0)) : Option (Nat × va_E))) (t12_0 : Int32) (t12_1 : Int32) (hT12 : ws[26]? = (some (q 26, .inr (2, [.ref (q 27), .int t12_0, .int t12_1])) : Option (Nat × va_E))) (t13_0 : (Nat → Int32)) (hT13 : ws[27]? = (some (q 27, .inl (g 0, (220 : Int32).toNatClampNeg, .inl t13_0)) : Option (Nat × va_E))) (t14_0 : Int32) (t14_1 : Int32) (hT14 : ws[28]? = (some (q 28, .inr (2, [.ref (q 29), .int t14_0, .int t14_1])) : Option (Nat × va_E))) (t15_0 : (Nat → Int32)) (hT15 : ws[29]? = (some (q 29, .inl (g 0, (220 : Int32).toNatClampNeg, .inl t15_0)) : Option (Nat × va_E))) (t16_0 : Int64) (t16_1 : Int32) (t16_2 : Int32) (hT16 : ws[34]? = (some (q 34, .inr (6, [.int 52, .int 1075, .int 2047, .long t16_0, .int t16_1, .ref (q 9), .int t16_2])) : Option (Nat × va_E))) (t17_0 : Int64) (t17_1 : Int32) (t17_2 : Int32) (hT17 : ws[35]? = (some (q 35, .inr (6, [.int 23, .int 150, .int 255, .long t17_0, .int t17_1, .ref (q 9), .int t17_2])) : Option (Nat × va_E))) (t18_0 : Int32) (t18_1 : Int32) (hT18 : ws[k3]? = (some (q k3, .inr (2, [.ref (q (k3 + 1)), .int t18_0, .int t18_1])) : Option (Nat × va_E))) (t19_0 : (Nat → Int32)) (hT19 : ws[k3 + 1]? = (some (q (k3 + 1), .inl (g 0, (68 : Int32).toNatClampNeg, .inl t19_0)) : Option (Nat × va_E))) (t20_0 : Int32) (t20_1 : Int32) (hT20 : ws[d3]? = (some (q d3, .inr (3, [.ref (q (d3 + 1)), .int t20_0, .int t20_1])) : Option (Nat × va_E))) (t21_0 : Int32) (t21_1 : Int32) (hT21 : ws[d3 + 1]? = (some (q (d3 + 1), .inr (2, [.ref (q (d3 + 2)), .int t21_0, .int t21_1])) : Option (Nat × va_E))) (t22_0 : (Nat → Int32)) (hT22 : ws[d3 + 2]? = (some (q (d3 + 2), .inl (g 0, (108 : Int32).toNatClampNeg, .inl t22_0)) : Option (Nat × va_E))) (hS : True ∧ S_NH_print x2 x3 x4 t0_0 t1_0 t2_0 t2_1 t3_0 t4_0 t4_1 t5_0 t6_0 t7_0 t8_0 t8_1 t9_0 t10_0 t10_1 t11_0 t12_0 t12_1 t13_0 t14_0 t14_1 t15_0 t16_0 t16_1 t16_2 t17_0 t17_1 t17_2 t18_0 t18_1 t19_0 t20_0 t20_1 t21_0 t21_1 t22_0) : ∀ sz, q_Mx l y_NH_print prog_1_method_17_code 4 (some .int) 9 2 12 D g [.ref (q 0), .int x2, .int x3, .int x4] ws sz (va_Qi (fun r u => q_I (nsh g q) q u ∧ q_un ws u [3, 4, 10, 11, 22, 23, 24, 25, 26, 27, 28, 29, 34, 35, 36, 37] ∧ ∃ (u0_0 : Int32) (u1_0 : (Nat → Int64)) (u2_0 : Int32) (u2_1 : Int32) (u3_0 : (Nat → Int32)) (u4_0 : Int32) (u4_1 : Int32) (u5_0 : (Nat → Int32)) (u8_0 : Int32) (u8_1 : Int32) (u9_0 : (Nat → Int32)) (u10_0 : Int32) (u10_1 : Int32) (u11_0 : (Nat → Int32)) (u12_0 : Int32) (u12_1 : Int32) (u13_0 : (Nat → Int32)) (u14_0 : Int32) (u14_1 : Int32) (u15_0 : (Nat → Int32)) (u16_0 : Int64) (u16_1 : Int32) (u16_2 : Int32) (u17_0 : Int64) (u17_1 : Int32) (u17_2 : Int32), u[3]? = (some (q 3, .inr (1, [.ref (q 4), .int 11008, .int u0_0])) : Option (Nat × va_E)) ∧ u[4]? = (some (q 4, .inl (g 1, (1376 : Int32).toNatClampNeg, .inr (.inl u1_0))) : Option (Nat × va_E)) ∧ u[10]? = (some (q 10, .inr (2, [.ref (q 11), .int u2_0, .int u2_1])) : Option (Nat × va_E)) ∧ u[11]? = (some (q 11, .inl (g 0, (220 : Int32).toNatClampNeg, .inl u3_0)) : Option (Nat × va_E)) ∧ u[36]? = (some (q 36, .inr (7, [.int u4_0, .int u4_1, .ref (q 37)])) : Option (Nat × va_E)) ∧ u[37]? = (some (q 37, .inl (g 2, 1026, .inl u5_0)) : Option (Nat × va_E)) ∧ u[22]? = (some (q 22, .inr (2, [.ref (q 23), .int u8_0, .int u8_1])) : Option (Nat × va_E)) ∧ u[23]? = (some (q 23, .inl (g 0, (220 : Int32).toNatClampNeg, .inl u9_0)) : Option (Nat × va_E)) ∧ u[24]? = (some (q 24, .inr (2, [.ref (q 25), .int u10_0, .int u10_1])) : Option (Nat × va_E)) ∧ u[25]? = (some (q 25, .inl (g 0, (220 : Int32).toNatClampNeg, .inl u11_0)) : Option (Nat × va_E)) ∧ u[26]? = (some (q 26, .inr (2, [.ref (q 27), .int u12_0, .int u12_1])) : Option (Nat × va_E)) ∧ u[27]? = (some (q 27, .inl (g 0, (220 : Int32).toNatClampNeg, .inl u13_0)) : Option (Nat × va_E)) ∧ u[28]? = (some (q 28, .inr (2, [.ref (q 29), .int u14_0, .int u14_1])) : Option (Nat × va_E)) ∧ u[29]? = (some (q 29, .inl (g 0, (220 : Int32).toNatClampNeg, .inl u15_0)) : Option (Nat × va_E)) ∧ u[34]? = (some (q 34, .inr (6, [.int 52, .int 1075, .int 2047, .long u16_0, .int u16_1, .ref (q 9), .int u16_2])) : Option (Nat × va_E)) ∧ u[35]? = (some (q 35, .inr (6, [.int 23, .int 150, .int 255, .long u17_0, .int u17_1, .ref (q 9), .int u17_2])) : Option (Nat × va_E)) ∧ (0 ≤ r.toInt) ∧ (0 ≤ u0_0.toInt) ∧ (0 ≤ u2_0.toInt) ∧ (u2_0.toInt ≤ 220) ∧ (0 ≤ u2_1.toInt) ∧ (u2_1.toInt ≤ 21) ∧ (0 ≤ u4_0.toInt) ∧ (u4_0.toInt ≤ 1026) ∧ (0 ≤ u4_1.toInt + 1000000) ∧ (u4_1.toInt ≤ 1000000) ∧ (0 ≤ u8_0.toInt) ∧ (u8_0.toInt ≤ 220) ∧ (0 ≤ u8_1.toInt) ∧ (u8_1.toInt ≤ 2) ∧ (0 ≤ u10_0.toInt) ∧ (u10_0.toInt ≤ 220) ∧ (0 ≤ u10_1.toInt) ∧ (u10_1.toInt ≤ 1) ∧ (0 ≤ u12_0.toInt) ∧ (u12_0.toInt ≤ 220) ∧ (0 ≤ u12_1.toInt) ∧ (u12_1.toInt ≤ 1) ∧ (0 ≤ u14_0.toInt) ∧ (u14_0.toInt ≤ 220) ∧ (0 ≤ u14_1.toInt) ∧ (x3.toInt ≤ u0_0.toInt + 9) ∧ (t21_1.toInt ≤ u0_0.toInt) ∧ (x3.toInt ≤ u2_0.toInt + 9) ∧ (u2_0.toInt ≤ x3.toInt + 220) ∧ (x3.toInt ≤ u2_1.toInt + 9) ∧ (u2_1.toInt ≤ x3.toInt + 21) ∧ (u2_1.toInt ≤ t2_1.toInt + 20) ∧ (x3.toInt ≤ u4_0.toInt + 9) ∧ (u4_0.toInt ≤ x3.toInt + 1026) ∧ (x3.toInt ≤ u4_1.toInt + 1000009) ∧ (u4_1.toInt ≤ x3.toInt + 1000000) ∧ (x3.toInt ≤ u8_0.toInt + 9) ∧ (u8_0.toInt ≤ x3.toInt + 220) ∧ (x3.toInt ≤ u8_1.toInt + 9) ∧ (u8_1.toInt ≤ x3.toInt + 2) ∧ (u8_1.toInt ≤ t2_1.toInt + 1) ∧ (x3.toInt ≤ u10_0.toInt + 9) ∧ (u10_0.toInt ≤ x3.toInt + 220) ∧ (x3.toInt ≤ u10_1.toInt + 9) ∧ (u10_1.toInt ≤ x3.toInt + 1) ∧ (x3.toInt ≤ u12_0.toInt + 9) ∧ (u12_0.toInt ≤ x3.toInt + 220) ∧ (x3.toInt ≤ u12_1.toInt + 9) ∧ (u12_1.toInt ≤ x3.toInt + 1) ∧ (x3.toInt ≤ u14_0.toInt + 9) ∧ (u14_0.toInt ≤ x3.toInt + 220) ∧ (x3.toInt ≤ u14_1.toInt + 9) ∧ (u0_0.toInt ≤ r.toInt) ∧ (r.toInt ≤ u0_0.toInt) ∧ (u2_0.toInt ≤ u0_0.toInt + 218) ∧ (u2_1.toInt ≤ u0_0.toInt + 19) ∧ (u8_1.toInt ≤ u0_0.toInt + 1) ∧ (u2_1.toInt ≤ u4_1.toInt + 1000001) ∧ (u8_1.toInt ≤ u2_1.toInt + 1) ∧ (u8_1.toInt ≤ u4_1.toInt + 1000001) ∧ ((0 : Int32), r, u0_0, u1_0, u2_0, u2_1, u3_0, u4_0, u4_1, u5_0, u8_0, u8_1, u9_0, u10_0, u10_1, u11_0, u12_0, u12_1, u13_0, u14_0, u14_1, u15_0, u16_0, u16_1, u16_2, u17_0, u17_1, u17_2) = (F_NH_print x2 x3 x4 t0_0 t1_0 t2_0 t2_1 t3_0 t4_0 t4_1 t5_0 t6_0 t7_0 t8_0 t8_1 t9_0 t10_0 t10_1 t11_0 t12_0 t12_1 t13_0 t14_0 t14_1 t15_0 t16_0 t16_1 t16_2 t17_0 t17_1 t17_2 t18_0 t18_1 t19_0 t20_0 t20_1 t21_0 t21_1 t22_0)) (q_B D g (va_A ws sz)) (va_A ws sz)) (fun E u => ∃ c : Int32, E = qE c ∧ c ≠ 0 ∧ q_I (nsh g q) q u ∧ q_un ws u [3, 4, 10, 11, 22, 23, 24, 25, 26, 27, 28, 29, 34, 35, 36, 37] ∧ ∃ (u0_0 : Int32) (u1_0 : (Nat → Int64)) (u2_0 : Int32) (u2_1 : Int32) (u3_0 : (Nat → Int32)) (u4_0 : Int32) (u4_1 : Int32) (u5_0 : (Nat → Int32)) (u8_0 : Int32) (u8_1 : Int32) (u9_0 : (Nat → Int32)) (u10_0 : Int32) (u10_1 : Int32) (u11_0 : (Nat → Int32)) (u12_0 : Int32) (u12_1 : Int32) (u13_0 : (Nat → Int32)) (u14_0 : Int32) (u14_1 : Int32) (u15_0 : (Nat → Int32)) (u16_0 : Int64) (u16_1 : Int32) (u16_2 : Int32) (u17_0 : Int64) (u17_1 : Int32) (u17_2 : Int32), u[3]? = (some (q 3, .inr (1, [.ref (q 4), .int 11008, .int u0_0])) : Option (Nat × va_E)) ∧ u[4]? = (some (q 4, .inl (g 1, (1376 : Int32).toNatClampNeg, .inr (.inl u1_0))) : Option (Nat × va_E)) ∧ u[10]? = (some (q 10, .inr (2, [.ref (q 11), .int u2_0, .int u2_1])) : Option (Nat × va_E)) ∧ u[11]? = (some (q 11, .inl (g 0, (220 : Int32).toNatClampNeg, .inl u3_0)) : Option (Nat × va_E)) ∧ u[36]? = (some (q 36, .inr (7, [.int u4_0, .int u4_1, .ref (q 37)])) : Option (Nat × va_E)) ∧ u[37]? = (some (q 37, .inl (g 2, 1026, .inl u5_0)) : Option (Nat × va_E)) ∧ u[22]? = (some (q 22, .inr (2, [.ref (q 23), .int u8_0, .int u8_1])) : Option (Nat × va_E)) ∧ u[23]? = (some (q 23, .inl (g 0, (220 : Int32).toNatClampNeg, .inl u9_0)) : Option (Nat × va_E)) ∧ u[24]? = (some (q 24, .inr (2, [.ref (q 25), .int u10_0, .int u10_1])) : Option (Nat × va_E)) ∧ u[25]? = (some (q 25, .inl (g 0, (220 : Int32).toNatClampNeg, .inl u11_0)) : Option (Nat × va_E)) ∧ u[26]? = (some (q 26, .inr (2, [.ref (q 27), .int u12_0, .int u12_1])) : Option (Nat × va_E)) ∧ u[27]? = (some (q 27, .inl (g 0, (220 : Int32).toNatClampNeg, .inl u13_0)) : Option (Nat × va_E)) ∧ u[28]? = (some (q 28, .inr (2, [.ref (q 29), .int u14_0, .int u14_1])) : Option (Nat × va_E)) ∧ u[29]? = (some (q 29, .inl (g 0, (220 : Int32).toNatClampNeg, .inl u15_0)) : Option (Nat × va_E)) ∧ u[34]? = (some (q 34, .inr (6, [.int 52, .int 1075, .int 2047, .long u16_0, .int u16_1, .ref (q 9), .int u16_2])) : Option (Nat × va_E)) ∧ u[35]? = (some (q 35, .inr (6, [.int 23, .int 150, .int 255, .long u17_0, .int u17_1, .ref (q 9), .int u17_2])) : Option (Nat × va_E)) ∧ (c, (0 : Int32), u0_0, u1_0, u2_0, u2_1, u3_0, u4_0, u4_1, u5_0, u8_0, u8_1, u9_0, u10_0, u10_1, u11_0, u12_0, u12_1, u13_0, u14_0, u14_1, u15_0, u16_0, u16_1, u16_2, u17_0, u17_1, u17_2) = (F_NH_print x2 x3 x4 t0_0 t1_0 t2_0 t2_1 t3_0 t4_0 t4_1 t5_0 t6_0 t7_0 t8_0 t8_1 t9_0 t10_0 t10_1 t11_0 t12_0 t12_1 t13_0 t14_0 t14_1 t15_0 t16_0 t16_1 t16_2 t17_0 t17_1 t17_2 t18_0 t18_1 t19_0 t20_0 t20_1 t21_0 t21_1 t22_0)) := by
  intro sz
  refine q_intoX (by decide) (Nat.le_of_ble_eq_true rfl) ?_
  intro p e s m below meth c ls hsz C0 V hno hl
  have hx := C0.1
  have hb := C0.2.1
  have btt0_0 := n_shW hI (n_h3 g q) hT0
  clear btt0_0
  have btt2_1 := (q_bigW hI (n_b10 g q) hT2).2
  replace btt2_1 : q_F (0 ≤ t2_1.toInt ∧ t2_1.toInt ≤ 1) := btt2_1
  obtain ⟨btt4_0, btt4_1⟩ := n_w36 hI hT4
  replace btt4_0 : q_F (0 ≤ t4_0.toInt ∧ t4_0.toInt ≤ 1026) := btt4_0
  replace btt4_1 : q_F (-1000000 ≤ t4_1.toInt ∧ t4_1.toInt ≤ 1000000) := btt4_1
  obtain ⟨btt8_0, btt8_1⟩ := q_bigW hI (n_b22 g q) hT8
  replace btt8_0 : q_F (0 ≤ t8_0.toInt ∧ t8_0.toInt ≤ 220) := btt8_0
  replace btt8_1 : q_F (0 ≤ t8_1.toInt ∧ t8_1.toInt ≤ 1) := btt8_1
  obtain ⟨btt10_0, btt10_1⟩ := q_bigW hI (n_b24 g q) hT10
  replace btt10_0 : q_F (0 ≤ t10_0.toInt ∧ t10_0.toInt ≤ 220) := btt10_0
  replace btt10_1 : q_F (0 ≤ t10_1.toInt ∧ t10_1.toInt ≤ 1) := btt10_1
  obtain ⟨btt12_0, btt12_1⟩ := q_bigW hI (n_b26 g q) hT12
  replace btt12_0 : q_F (0 ≤ t12_0.toInt ∧ t12_0.toInt ≤ 220) := btt12_0
  replace btt12_1 : q_F (0 ≤ t12_1.toInt ∧ t12_1.toInt ≤ 1) := btt12_1
  obtain ⟨btt14_0, btt14_1⟩ := q_bigW hI (n_b28 g q) hT14
  replace btt14_0 : q_F (0 ≤ t14_0.toInt ∧ t14_0.toInt ≤ 220) := btt14_0
  replace btt14_1 : q_F (0 ≤ t14_1.toInt ∧ t14_1.toInt ≤ 1) := btt14_1
  obtain ⟨btt18_0, btt18_1⟩ := q_bigW hI hBk3 hT18
  replace btt18_0 : q_F (0 ≤ t18_0.toInt ∧ t18_0.toInt ≤ 68) := btt18_0
  replace btt18_1 : q_F (0 ≤ t18_1.toInt ∧ t18_1.toInt ≤ 1) := btt18_1
  have btt20_1 := (n_deW hI hBd3 hT20).2
  clear btt20_1
  obtain ⟨btt21_0, btt21_1⟩ := q_bigW hI hBd3.2 hT21
  replace btt21_0 : q_F (0 ≤ t21_0.toInt ∧ t21_0.toInt ≤ 108) := btt21_0
  replace btt21_1 : q_F (0 ≤ t21_1.toInt ∧ t21_1.toInt ≤ 1) := btt21_1
  have hF : q_un ws ws [3, 4, 10, 11, 22, 23, 24, 25, 26, 27, 28, 29, 34, 35, 36, 37] := q_u0
  have hl : lv_has ls 4 [(0, .ref (q 0)), (1, .int x2), (2, .int x3), (3, .int x4)] := hl
  refine lv_iload_n hx hb d_1_17_0 rfl (lv_at hl 1 rfl) ?_
  refine lv_iload_n hx hb d_1_17_1 rfl (lv_at hl 2 rfl) ?_
  refine q_goxv V (q_runSX (As := [.int x2, .int x3]) (rest := []) (d := 8) (mc := 1) (ms := 6) C0 V rfl LS_NH_118 (X_NH_needRegister l D g q ws  x2 x3 hlt hI   _) rfl hl.1 rfl (Nat.le_of_ble_eq_true rfl) ⟨by decide, by decide⟩ ⟨Nat.le_of_ble_eq_true rfl, Nat.le_of_ble_eq_true rfl⟩ d_1_17_2) (fun qx Ex ce u87 H locs hp88 V hce hcv hcl => ?_) (fun u87 H locs hp88 V => ?_)
  ·
    obtain ⟨cx90, he91, hc92, rfl, hE89⟩ := hp88
    have c93 : ¬ (F_NH_needRegister x2 x3) = (0 : Int32) := fun z => hc92 (((hE89) : cx90 = _).trans z)
    exact q_outT hno C0 V (⟨(F_NH_needRegister x2 x3), (he91.trans (congrArg qE ((hE89) : cx90 = _))), c93, hI, hF, t0_0, t1_0, t2_0, t2_1, t3_0, t4_0, t4_1, t5_0, t8_0, t8_1, t9_0, t10_0, t10_1, t11_0, t12_0, t12_1, t13_0, t14_0, t14_1, t15_0, t16_0, t16_1, t16_2, t17_0, t17_1, t17_2, hT0, hT1, hT2, hT3, hT4, hT5, hT8, hT9, hT10, hT11, hT12, hT13, hT14, hT15, hT16, hT17, (show ((F_NH_needRegister x2 x3), (0 : Int32), t0_0, t1_0, t2_0, t2_1, t3_0, t4_0, t4_1, t5_0, t8_0, t8_1, t9_0, t10_0, t10_1, t11_0, t12_0, t12_1, t13_0, t14_0, t14_1, t15_0, t16_0, t16_1, t16_2, t17_0, t17_1, t17_2) = (F_NH_print x2 x3 x4 t0_0 t1_0 t2_0 t2_1 t3_0 t4_0 t4_1 t5_0 t6_0 t7_0 t8_0 t8_1 t9_0 t10_0 t10_1 t11_0 t12_0 t12_1 t13_0 t14_0 t14_1 t15_0 t16_0 t16_1 t16_2 t17_0 t17_1 t17_2 t18_0 t18_1 t19_0 t20_0 t20_1 t21_0 t21_1 t22_0) from (by rw [F_NH_print.eq_1, if_neg c93]))⟩) hce hcv hcl (Nat.le_of_ble_eq_true rfl) (Nat.le_of_ble_eq_true rfl)
  ·
    obtain ⟨rfl, hE94⟩ := hp88
    have c93 : (F_NH_needRegister x2 x3) = (0 : Int32) := ((hE94) : (0 : Int32) = _).symm
    refine lv_iload_n hx hb d_1_17_5 rfl (lv_at hl 1 rfl) ?_
    refine lv_if_ne (tgt := 45) hx hb d_1_17_6 (by decide) (fun c96 => ?_) (fun c96 => ?_)
    ·
      refine lv_iload_n hx hb d_1_17_45 rfl (lv_at hl 1 rfl) ?_
      refine lv_iconst (v := 1) hx hb d_1_17_46 (by decide) ?_
      refine lv_icmp_ne (tgt := 84) hx hb d_1_17_47 (by decide) (fun c98 => ?_) (fun c98 => ?_)
      ·
        refine lv_iload_n hx hb d_1_17_84 rfl (lv_at hl 3 rfl) ?_
        refine q_join (X := Int32) (fun z H locs ls _ => q_F (0 ≤ z.toInt) ∧ q_F (z.toInt ≤ 1) ∧ q_Wd D g (va_A ws sz) s ws H locs ∧ lv_has ls 4 [(0, .ref (q 0)), (1, .int x2), (2, .int x3), (3, .int x4)] ∧ F_NH_print_J98 x2 x3 x4 t0_0 t1_0 t2_0 t2_1 t3_0 t4_0 t4_1 t5_0 t6_0 t7_0 t8_0 t8_1 t9_0 t10_0 t10_1 t11_0 t12_0 t12_1 t13_0 t14_0 t14_1 t15_0 t16_0 t16_1 t16_2 t17_0 t17_1 t17_2 t18_0 t18_1 t19_0 t20_0 t20_1 t21_0 t21_1 t22_0 z = (F_NH_print x2 x3 x4 t0_0 t1_0 t2_0 t2_1 t3_0 t4_0 t4_1 t5_0 t6_0 t7_0 t8_0 t8_1 t9_0 t10_0 t10_1 t11_0 t12_0 t12_1 t13_0 t14_0 t14_1 t15_0 t16_0 t16_1 t16_2 t17_0 t17_1 t17_2 t18_0 t18_1 t19_0 t20_0 t20_1 t21_0 t21_1 t22_0) ∧ True ∧ S_NH_print_J98 x2 x3 x4 t0_0 t1_0 t2_0 t2_1 t3_0 t4_0 t4_1 t5_0 t6_0 t7_0 t8_0 t8_1 t9_0 t10_0 t10_1 t11_0 t12_0 t12_1 t13_0 t14_0 t14_1 t15_0 t16_0 t16_1 t16_2 t17_0 t17_1 t17_2 t18_0 t18_1 t19_0 t20_0 t20_1 t21_0 t21_1 t22_0 z) (fun z => [.int z]) 98 1 6 ?_ ?_
        ·
          rintro lx100 H locs ls _ hZ9
          obtain ⟨i125, hZ9⟩ := hZ9
          obtain ⟨i126, hZ9⟩ := hZ9
          obtain ⟨V, hZ9⟩ := hZ9
          obtain ⟨hl, hZ9⟩ := hZ9
          obtain ⟨hR127, hS128⟩ := hZ9
          replace i125 : q_F (0 ≤ lx100.toInt) := i125
          replace i126 : q_F (lx100.toInt ≤ 1) := i126
          replace hl : lv_has ls 4 [(0, .ref (q 0)), (1, .int x2), (2, .int x3), (3, .int x4)] := hl
          refine q_goxv V (q_runSX (As := [.int lx100]) (rest := []) (d := 7) (mc := 1) (ms := 6) C0 V rfl LS_NH_104 (X_NH_need l D g q ws  lx100 hlt hI  ⟨(by first | with_reducible exact q_fe i125 | (have t1 : 0 ≤ lx100.toInt := i125; omega)), (by first | with_reducible exact q_fe i126 | (have t1 : lx100.toInt ≤ 1 := i126; omega))⟩ _) rfl hl.1 rfl (Nat.le_of_ble_eq_true rfl) ⟨by decide, by decide⟩ ⟨Nat.le_of_ble_eq_true rfl, Nat.le_of_ble_eq_true rfl⟩ d_1_17_98) (fun qx Ex ce u132 H locs hp133 V hce hcv hcl => ?_) (fun u132 H locs hp133 V => ?_)
          ·
            obtain ⟨cx135, he136, hc137, rfl, hE134⟩ := hp133
            have c138 : ¬ (F_NH_need lx100) = (0 : Int32) := fun z => hc137 (((hE134) : cx135 = _).trans z)
            exact q_outT hno C0 V (⟨(F_NH_need lx100), (he136.trans (congrArg qE ((hE134) : cx135 = _))), c138, hI, hF, t0_0, t1_0, t2_0, t2_1, t3_0, t4_0, t4_1, t5_0, t8_0, t8_1, t9_0, t10_0, t10_1, t11_0, t12_0, t12_1, t13_0, t14_0, t14_1, t15_0, t16_0, t16_1, t16_2, t17_0, t17_1, t17_2, hT0, hT1, hT2, hT3, hT4, hT5, hT8, hT9, hT10, hT11, hT12, hT13, hT14, hT15, hT16, hT17, (show ((F_NH_need lx100), (0 : Int32), t0_0, t1_0, t2_0, t2_1, t3_0, t4_0, t4_1, t5_0, t8_0, t8_1, t9_0, t10_0, t10_1, t11_0, t12_0, t12_1, t13_0, t14_0, t14_1, t15_0, t16_0, t16_1, t16_2, t17_0, t17_1, t17_2) = (F_NH_print x2 x3 x4 t0_0 t1_0 t2_0 t2_1 t3_0 t4_0 t4_1 t5_0 t6_0 t7_0 t8_0 t8_1 t9_0 t10_0 t10_1 t11_0 t12_0 t12_1 t13_0 t14_0 t14_1 t15_0 t16_0 t16_1 t16_2 t17_0 t17_1 t17_2 t18_0 t18_1 t19_0 t20_0 t20_1 t21_0 t21_1 t22_0) from Eq.trans (by rw [F_NH_print_J98.eq_1, if_neg c138]) hR127)⟩) hce hcv hcl (Nat.le_of_ble_eq_true rfl) (Nat.le_of_ble_eq_true rfl)
          ·
            obtain ⟨rfl, hE139⟩ := hp133
            have c138 : (F_NH_need lx100) = (0 : Int32) := ((hE139) : (0 : Int32) = _).symm
            refine lv_aload_n hx hb d_1_17_101 rfl (lv_at hl 0 rfl) ?_
            have hO141 := n_o0 hI
            refine q_get (ci := 0) (j := 12) (v := .ref (q 39)) C0 V i_NH rfl rfl hO141 (by decide) w_436 rfl d_1_17_102 ?_
            refine lv_aload_n hx hb d_1_17_105 rfl (lv_at hl 0 rfl) ?_
            refine lv_iload_n hx hb d_1_17_106 rfl (lv_at hl 1 rfl) ?_
            refine q_gor (post := fun r u => ws = u ∧ r = q (F_NH_floatsOf x2)) V (q_runV (As := [.int x2]) (rest := [.ref (q 39)]) (d := 1) (mc := 0) (ms := 0) (ci := 0) C0 V rfl LV_NH_130 (X_NH_floatsOf l D g q ws  x2 hI   _) rfl rfl hO141 rfl hl.1 rfl (Nat.le_of_ble_eq_true rfl) ⟨by decide, by decide⟩ ⟨Nat.le_of_ble_eq_true rfl, Nat.le_of_ble_eq_true rfl⟩ d_1_17_107) (fun a144 u142 H locs hp143 V => ?_)
            obtain ⟨rfl, hr145⟩ := hp143
            by_cases c146 : x2 = (2 : Int32)
            ·
              have hr147 : a144 = q 34 := hr145.trans (congrArg q (by unfold F_NH_floatsOf; rw [if_pos c146]))
              subst hr147
              refine lv_aload_n hx hb d_1_17_110 rfl (lv_at hl 0 rfl) ?_
              refine lv_iload_n hx hb d_1_17_111 rfl (lv_at hl 1 rfl) ?_
              refine q_gor (post := fun r u => ws = u ∧ r = q (F_NH_floatRow x2)) V (q_runV (As := [.int x2]) (rest := [.ref (q 34), .ref (q 39)]) (d := 1) (mc := 0) (ms := 0) (ci := 0) C0 V rfl LV_NH_157 (X_NH_floatRow l D g q ws  x2 hI   _) rfl rfl hO141 rfl hl.1 rfl (Nat.le_of_ble_eq_true rfl) ⟨by decide, by decide⟩ ⟨Nat.le_of_ble_eq_true rfl, Nat.le_of_ble_eq_true rfl⟩ d_1_17_112) (fun a151 u149 H locs hp150 V => ?_)
              obtain ⟨rfl, hr152⟩ := hp150
              by_cases c153 : x2 = (2 : Int32)
              ·
                have hr154 : a151 = q 7 := hr152.trans (congrArg q (by unfold F_NH_floatRow; rw [if_pos c153]))
                subst hr154
                refine lv_iload_n hx hb d_1_17_115 rfl (lv_at hl 2 rfl) ?_
                have ob156 : q_F (0 ≤ x3.toInt) := (by have h := hS128; rw [S_NH_print_J98.eq_1] at h; rw [if_pos c138] at h; rw [if_pos c146] at h; rw [if_pos c153] at h; exact h.2.1)
                have ob157 : q_F (x3.toInt ≤ 9) := (by have h := hS128; rw [S_NH_print_J98.eq_1] at h; rw [if_pos c138] at h; rw [if_pos c146] at h; rw [if_pos c153] at h; replace h := q_s2 h; exact h.2.1)
                refine q_lald C0 V hT6 (q_ix (x := x3.toInt) rfl (by first | with_reducible exact q_fe ob156 | (have t1 : 0 ≤ x3.toInt := ob156; omega)) (by have t1 : 0 ≤ x3.toInt := ob156; have t2 : x3.toInt ≤ 9 := ob157; omega)) d_1_17_116 ?_
                obtain ⟨j158, e159⟩ := q_nm (t6_0 x3.toNatClampNeg : Int64)
                refine q_tl (v := j158) e159 ?_
                refine lv_iload_n hx hb d_1_17_117 rfl (lv_at hl 3 rfl) ?_
                refine lv_iconst (v := 1) hx hb d_1_17_118 (by decide) ?_
                refine lv_icmp_ne (tgt := 126) hx hb d_1_17_119 (by decide) (fun c160 => ?_) (fun c160 => ?_)
                ·
                  refine lv_iconst (v := 0) hx hb d_1_17_126 (by decide) ?_
                  have ob162 : True ∧ S_Wri_floatText (52 : Int32) (1075 : Int32) (2047 : Int32) j158 (0 : Int32) t0_0 t1_0 t4_0 t4_1 t5_0 t2_0 t2_1 t3_0 t8_0 t8_1 t9_0 t10_0 t10_1 t11_0 t12_0 t12_1 t13_0 t14_0 t14_1 t15_0 t16_0 t16_1 t16_2 := (by rw [← e159]; have h := hS128; rw [S_NH_print_J98.eq_1] at h; rw [if_pos c138] at h; rw [if_pos c146] at h; rw [if_pos c153] at h; replace h := q_s2 h; replace h := q_s2 h; rw [if_neg c160] at h; with_reducible exact h.2.1)
                  have hO163 := n_o39 hI
                  refine q_gov V (q_runV (As := [.ref (q 34), .long j158, .int 0]) (rest := []) (d := 7) (mc := 0) (ms := 0) (ci := 9) C0 V rfl LV_NH_332 (X_Wri_floatText l D g q ws 34 52 1075 2047 (n_f34 g q) j158 0 hI t0_0 hT0 t1_0 hT1 t4_0 t4_1 hT4 t5_0 hT5 t2_0 t2_1 hT2 t3_0 hT3 t8_0 t8_1 hT8 t9_0 hT9 t10_0 t10_1 hT10 t11_0 hT11 t12_0 t12_1 hT12 t13_0 hT13 t14_0 t14_1 hT14 t15_0 hT15 t16_0 t16_1 t16_2 hT16 ⟨(by have y0 : (52 : Int32).toInt = 52 := rfl; have y1 : (1075 : Int32).toInt = 1075 := rfl; have y2 : (2047 : Int32).toInt = 2047 := rfl; have y3 : (0 : Int32).toInt = 0 := rfl; omega), (by have y0 : (52 : Int32).toInt = 52 := rfl; have y1 : (1075 : Int32).toInt = 1075 := rfl; have y2 : (2047 : Int32).toInt = 2047 := rfl; have y3 : (0 : Int32).toInt = 0 := rfl; omega)⟩ ob162 _) rfl rfl hO163 rfl hl.1 rfl (Nat.le_of_ble_eq_true rfl) ⟨by decide, by decide⟩ ⟨Nat.le_of_ble_eq_true rfl, Nat.le_of_ble_eq_true rfl⟩ d_1_17_127) (fun u164 H locs hp165 V => ?_)
                  obtain ⟨hI, hZ9⟩ := hp165
                  obtain ⟨hu242, hZ9⟩ := hZ9
                  obtain ⟨y167, hZ9⟩ := hZ9
                  obtain ⟨f168, hZ9⟩ := hZ9
                  obtain ⟨y171, hZ9⟩ := hZ9
                  obtain ⟨y172, hZ9⟩ := hZ9
                  obtain ⟨f173, hZ9⟩ := hZ9
                  obtain ⟨y176, hZ9⟩ := hZ9
                  obtain ⟨y177, hZ9⟩ := hZ9
                  obtain ⟨f178, hZ9⟩ := hZ9
                  obtain ⟨y181, hZ9⟩ := hZ9
                  obtain ⟨y182, hZ9⟩ := hZ9
                  obtain ⟨f183, hZ9⟩ := hZ9
                  obtain ⟨y186, hZ9⟩ := hZ9
                  obtain ⟨y187, hZ9⟩ := hZ9
                  obtain ⟨f188, hZ9⟩ := hZ9
                  obtain ⟨y191, hZ9⟩ := hZ9
                  obtain ⟨y192, hZ9⟩ := hZ9
                  obtain ⟨f193, hZ9⟩ := hZ9
                  obtain ⟨y196, hZ9⟩ := hZ9
                  obtain ⟨y197, hZ9⟩ := hZ9
                  obtain ⟨f198, hZ9⟩ := hZ9
                  obtain ⟨y201, hZ9⟩ := hZ9
                  obtain ⟨y202, hZ9⟩ := hZ9
                  obtain ⟨y203, hZ9⟩ := hZ9
                  obtain ⟨hO166, hZ9⟩ := hZ9
                  obtain ⟨hA169, hZ9⟩ := hZ9
                  obtain ⟨hO170, hZ9⟩ := hZ9
                  obtain ⟨hA174, hZ9⟩ := hZ9
                  obtain ⟨hO175, hZ9⟩ := hZ9
                  obtain ⟨hA179, hZ9⟩ := hZ9
                  obtain ⟨hO180, hZ9⟩ := hZ9
                  obtain ⟨hA184, hZ9⟩ := hZ9
                  obtain ⟨hO185, hZ9⟩ := hZ9
                  obtain ⟨hA189, hZ9⟩ := hZ9
                  obtain ⟨hO190, hZ9⟩ := hZ9
                  obtain ⟨hA194, hZ9⟩ := hZ9
                  obtain ⟨hO195, hZ9⟩ := hZ9
                  obtain ⟨hA199, hZ9⟩ := hZ9
                  obtain ⟨hO200, hZ9⟩ := hZ9
                  obtain ⟨b204, hZ9⟩ := hZ9
                  replace hZ9 := hZ9.2
                  obtain ⟨b206, hZ9⟩ := hZ9
                  obtain ⟨b207, hZ9⟩ := hZ9
                  obtain ⟨b208, hZ9⟩ := hZ9
                  obtain ⟨b209, hZ9⟩ := hZ9
                  obtain ⟨b210, hZ9⟩ := hZ9
                  obtain ⟨b211, hZ9⟩ := hZ9
                  obtain ⟨b212, hZ9⟩ := hZ9
                  obtain ⟨b213, hZ9⟩ := hZ9
                  obtain ⟨b214, hZ9⟩ := hZ9
                  obtain ⟨b215, hZ9⟩ := hZ9
                  obtain ⟨b216, hZ9⟩ := hZ9
                  obtain ⟨b217, hZ9⟩ := hZ9
                  obtain ⟨b218, hZ9⟩ := hZ9
                  obtain ⟨b219, hZ9⟩ := hZ9
                  obtain ⟨b220, hZ9⟩ := hZ9
                  obtain ⟨b221, hZ9⟩ := hZ9
                  obtain ⟨b222, hZ9⟩ := hZ9
                  obtain ⟨b223, hZ9⟩ := hZ9
                  obtain ⟨b224, hZ9⟩ := hZ9
                  obtain ⟨b225, hZ9⟩ := hZ9
                  obtain ⟨b226, hZ9⟩ := hZ9
                  obtain ⟨b227, hZ9⟩ := hZ9
                  obtain ⟨b228, hZ9⟩ := hZ9
                  replace hZ9 := hZ9.2.2.2.2
                  obtain ⟨b233, hZ9⟩ := hZ9
                  obtain ⟨b234, hZ9⟩ := hZ9
                  replace hZ9 := hZ9.2.2.2
                  obtain ⟨b238, hZ9⟩ := hZ9
                  obtain ⟨b239, hZ9⟩ := hZ9
                  obtain ⟨b240, hE241⟩ := hZ9
                  replace hO166 : u164[3]? = (some (q 3, .inr (1, [.ref (q 4), .int 11008, .int y167])) : Option (Nat × va_E)) := hO166
                  replace hA169 : u164[4]? = (some (q 4, .inl (g 1, (1376 : Int32).toNatClampNeg, .inr (.inl f168))) : Option (Nat × va_E)) := hA169
                  replace hO170 : u164[36]? = (some (q 36, .inr (7, [.int y171, .int y172, .ref (q 37)])) : Option (Nat × va_E)) := hO170
                  replace hA174 : u164[37]? = (some (q 37, .inl (g 2, 1026, .inl f173)) : Option (Nat × va_E)) := hA174
                  replace hO175 : u164[10]? = (some (q 10, .inr (2, [.ref (q 11), .int y176, .int y177])) : Option (Nat × va_E)) := hO175
                  replace hA179 : u164[11]? = (some (q 11, .inl (g 0, (220 : Int32).toNatClampNeg, .inl f178)) : Option (Nat × va_E)) := hA179
                  replace hO180 : u164[22]? = (some (q 22, .inr (2, [.ref (q 23), .int y181, .int y182])) : Option (Nat × va_E)) := hO180
                  replace hA184 : u164[23]? = (some (q 23, .inl (g 0, (220 : Int32).toNatClampNeg, .inl f183)) : Option (Nat × va_E)) := hA184
                  replace hO185 : u164[24]? = (some (q 24, .inr (2, [.ref (q 25), .int y186, .int y187])) : Option (Nat × va_E)) := hO185
                  replace hA189 : u164[25]? = (some (q 25, .inl (g 0, (220 : Int32).toNatClampNeg, .inl f188)) : Option (Nat × va_E)) := hA189
                  replace hO190 : u164[26]? = (some (q 26, .inr (2, [.ref (q 27), .int y191, .int y192])) : Option (Nat × va_E)) := hO190
                  replace hA194 : u164[27]? = (some (q 27, .inl (g 0, (220 : Int32).toNatClampNeg, .inl f193)) : Option (Nat × va_E)) := hA194
                  replace hO195 : u164[28]? = (some (q 28, .inr (2, [.ref (q 29), .int y196, .int y197])) : Option (Nat × va_E)) := hO195
                  replace hA199 : u164[29]? = (some (q 29, .inl (g 0, (220 : Int32).toNatClampNeg, .inl f198)) : Option (Nat × va_E)) := hA199
                  replace hO200 : u164[34]? = (some (q 34, .inr (6, [.int 52, .int 1075, .int 2047, .long y201, .int y202, .ref (q 9), .int y203])) : Option (Nat × va_E)) := hO200
                  obtain ⟨p243, e244⟩ : ∃ z, z = (F_Wri_floatText (52 : Int32) (1075 : Int32) (2047 : Int32) j158 (0 : Int32) t0_0 t1_0 t4_0 t4_1 t5_0 t2_0 t2_1 t3_0 t8_0 t8_1 t9_0 t10_0 t10_1 t11_0 t12_0 t12_1 t13_0 t14_0 t14_1 t15_0 t16_0 t16_1 t16_2) := ⟨_, rfl⟩
                  have e245 : y167 = p243.1 := congrArg (fun z => z.1) (hE241.trans e244.symm)
                  have e246 : f168 = p243.2.1 := congrArg (fun z => z.2.1) (hE241.trans e244.symm)
                  have e247 : y171 = p243.2.2.1 := congrArg (fun z => z.2.2.1) (hE241.trans e244.symm)
                  have e248 : y172 = p243.2.2.2.1 := congrArg (fun z => z.2.2.2.1) (hE241.trans e244.symm)
                  have e249 : f173 = p243.2.2.2.2.1 := congrArg (fun z => z.2.2.2.2.1) (hE241.trans e244.symm)
                  have e250 : y176 = p243.2.2.2.2.2.1 := congrArg (fun z => z.2.2.2.2.2.1) (hE241.trans e244.symm)
                  have e251 : y177 = p243.2.2.2.2.2.2.1 := congrArg (fun z => z.2.2.2.2.2.2.1) (hE241.trans e244.symm)
                  have e252 : f178 = p243.2.2.2.2.2.2.2.1 := congrArg (fun z => z.2.2.2.2.2.2.2.1) (hE241.trans e244.symm)
                  have e253 : y181 = p243.2.2.2.2.2.2.2.2.1 := congrArg (fun z => z.2.2.2.2.2.2.2.2.1) (hE241.trans e244.symm)
                  have e254 : y182 = p243.2.2.2.2.2.2.2.2.2.1 := congrArg (fun z => z.2.2.2.2.2.2.2.2.2.1) (hE241.trans e244.symm)
                  have e255 : f183 = p243.2.2.2.2.2.2.2.2.2.2.1 := congrArg (fun z => z.2.2.2.2.2.2.2.2.2.2.1) (hE241.trans e244.symm)
                  have e256 : y186 = p243.2.2.2.2.2.2.2.2.2.2.2.1 := congrArg (fun z => z.2.2.2.2.2.2.2.2.2.2.2.1) (hE241.trans e244.symm)
                  have e257 : y187 = p243.2.2.2.2.2.2.2.2.2.2.2.2.1 := congrArg (fun z => z.2.2.2.2.2.2.2.2.2.2.2.2.1) (hE241.trans e244.symm)
                  have e258 : f188 = p243.2.2.2.2.2.2.2.2.2.2.2.2.2.1 := congrArg (fun z => z.2.2.2.2.2.2.2.2.2.2.2.2.2.1) (hE241.trans e244.symm)
                  have e259 : y191 = p243.2.2.2.2.2.2.2.2.2.2.2.2.2.2.1 := congrArg (fun z => z.2.2.2.2.2.2.2.2.2.2.2.2.2.2.1) (hE241.trans e244.symm)
                  have e260 : y192 = p243.2.2.2.2.2.2.2.2.2.2.2.2.2.2.2.1 := congrArg (fun z => z.2.2.2.2.2.2.2.2.2.2.2.2.2.2.2.1) (hE241.trans e244.symm)
                  have e261 : f193 = p243.2.2.2.2.2.2.2.2.2.2.2.2.2.2.2.2.1 := congrArg (fun z => z.2.2.2.2.2.2.2.2.2.2.2.2.2.2.2.2.1) (hE241.trans e244.symm)
                  have e262 : y196 = p243.2.2.2.2.2.2.2.2.2.2.2.2.2.2.2.2.2.1 := congrArg (fun z => z.2.2.2.2.2.2.2.2.2.2.2.2.2.2.2.2.2.1) (hE241.trans e244.symm)
                  have e263 : y197 = p243.2.2.2.2.2.2.2.2.2.2.2.2.2.2.2.2.2.2.1 := congrArg (fun z => z.2.2.2.2.2.2.2.2.2.2.2.2.2.2.2.2.2.2.1) (hE241.trans e244.symm)
                  have e264 : f198 = p243.2.2.2.2.2.2.2.2.2.2.2.2.2.2.2.2.2.2.2.1 := congrArg (fun z => z.2.2.2.2.2.2.2.2.2.2.2.2.2.2.2.2.2.2.2.1) (hE241.trans e244.symm)
                  have e265 : y201 = p243.2.2.2.2.2.2.2.2.2.2.2.2.2.2.2.2.2.2.2.2.1 := congrArg (fun z => z.2.2.2.2.2.2.2.2.2.2.2.2.2.2.2.2.2.2.2.2.1) (hE241.trans e244.symm)
                  have e266 : y202 = p243.2.2.2.2.2.2.2.2.2.2.2.2.2.2.2.2.2.2.2.2.2.1 := congrArg (fun z => z.2.2.2.2.2.2.2.2.2.2.2.2.2.2.2.2.2.2.2.2.2.1) (hE241.trans e244.symm)
                  have e267 : y203 = p243.2.2.2.2.2.2.2.2.2.2.2.2.2.2.2.2.2.2.2.2.2.2 := congrArg (fun z => z.2.2.2.2.2.2.2.2.2.2.2.2.2.2.2.2.2.2.2.2.2.2) (hE241.trans e244.symm)
                  replace b204 : q_F (2 ≤ y167.toInt) := b204
                  replace b206 : q_F (0 ≤ y171.toInt) := b206
                  replace b207 : q_F (y171.toInt ≤ 1026) := b207
                  replace b208 : q_F (0 ≤ y172.toInt + 1000000) := b208
                  replace b209 : q_F (y172.toInt ≤ 1000000) := b209
                  replace b210 : q_F (0 ≤ y176.toInt) := b210
                  replace b211 : q_F (y176.toInt ≤ 220) := b211
                  replace b212 : q_F (0 ≤ y177.toInt) := b212
                  replace b213 : q_F (y177.toInt ≤ 21) := b213
                  replace b214 : q_F (0 ≤ y181.toInt) := b214
                  replace b215 : q_F (y181.toInt ≤ 220) := b215
                  replace b216 : q_F (0 ≤ y182.toInt) := b216
                  replace b217 : q_F (y182.toInt ≤ 2) := b217
                  replace b218 : q_F (0 ≤ y186.toInt) := b218
                  replace b219 : q_F (y186.toInt ≤ 220) := b219
                  replace b220 : q_F (0 ≤ y187.toInt) := b220
                  replace b221 : q_F (y187.toInt ≤ 1) := b221
                  replace b222 : q_F (0 ≤ y191.toInt) := b222
                  replace b223 : q_F (y191.toInt ≤ 220) := b223
                  replace b224 : q_F (0 ≤ y192.toInt) := b224
                  replace b225 : q_F (y192.toInt ≤ 1) := b225
                  replace b226 : q_F (0 ≤ y196.toInt) := b226
                  replace b227 : q_F (y196.toInt ≤ 220) := b227
                  replace b228 : q_F (0 ≤ y197.toInt) := b228
                  replace b233 : q_F (y177.toInt ≤ t2_1.toInt + 20) := b233
                  replace b234 : q_F (y182.toInt ≤ t2_1.toInt + 1) := b234
                  replace b238 : q_F (y177.toInt ≤ y172.toInt + 1000001) := b238
                  replace b239 : q_F (y182.toInt ≤ y172.toInt + 1000001) := b239
                  replace b240 : q_F (y182.toInt ≤ y177.toInt + 1) := b240
                  replace hT17 := (hu242 _ (by decide)).trans hT17
                  replace hO141 := (hu242 _ (by decide)).trans hO141
                  replace hF := q_uc hF hu242 (by simp)
                  have hR268 := (show F_NH_print_c127 x2 x3 x4 t0_0 t1_0 t2_0 t2_1 t3_0 t4_0 t4_1 t5_0 t6_0 t7_0 t8_0 t8_1 t9_0 t10_0 t10_1 t11_0 t12_0 t12_1 t13_0 t14_0 t14_1 t15_0 t16_0 t16_1 t16_2 t17_0 t17_1 t17_2 t18_0 t18_1 t19_0 t20_0 t20_1 t21_0 t21_1 t22_0 lx100 p243 = (F_NH_print x2 x3 x4 t0_0 t1_0 t2_0 t2_1 t3_0 t4_0 t4_1 t5_0 t6_0 t7_0 t8_0 t8_1 t9_0 t10_0 t10_1 t11_0 t12_0 t12_1 t13_0 t14_0 t14_1 t15_0 t16_0 t16_1 t16_2 t17_0 t17_1 t17_2 t18_0 t18_1 t19_0 t20_0 t20_1 t21_0 t21_1 t22_0) from Eq.trans (by rw [e244, ← e159, F_NH_print_J98.eq_1, if_pos c138, if_pos c146, if_pos c153, if_neg c160]) hR127)
                  have hS269 := (show True ∧ S_NH_print_c127 x2 x3 x4 t0_0 t1_0 t2_0 t2_1 t3_0 t4_0 t4_1 t5_0 t6_0 t7_0 t8_0 t8_1 t9_0 t10_0 t10_1 t11_0 t12_0 t12_1 t13_0 t14_0 t14_1 t15_0 t16_0 t16_1 t16_2 t17_0 t17_1 t17_2 t18_0 t18_1 t19_0 t20_0 t20_1 t21_0 t21_1 t22_0 lx100 p243 from (by rw [e244, ← e159]; have h := hS128; rw [S_NH_print_J98.eq_1] at h; rw [if_pos c138] at h; rw [if_pos c146] at h; rw [if_pos c153] at h; replace h := q_s2 h; replace h := q_s2 h; rw [if_neg c160] at h; replace h := q_s2 h; with_reducible exact h))
                  refine lv_aload_n hx hb d_1_17_130 rfl (lv_at hl 0 rfl) ?_
                  refine q_get (ci := 0) (j := 1) (v := .ref (q 3)) C0 V i_NH rfl rfl hO141 (by decide) w_425 rfl d_1_17_131 ?_
                  refine q_get (ci := 1) (j := 2) (v := .int y167) C0 V i_She rfl rfl hO166 (by decide) w_56 rfl d_1_17_134 ?_
                  exact q_retX (q_reti C0 V (⟨hI, hF, y167, f168, y176, y177, f178, y171, y172, f173, y181, y182, f183, y186, y187, f188, y191, y192, f193, y196, y197, f198, y201, y202, y203, t17_0, t17_1, t17_2, hO166, hA169, hO175, hA179, hO170, hA174, hO180, hA184, hO185, hA189, hO190, hA194, hO195, hA199, hO200, hT17, (show 0 ≤ y167.toInt from (by first | with_reducible exact q_fe b204 | (have t1 : 2 ≤ y167.toInt := b204; omega))), (show 0 ≤ y167.toInt from (by first | with_reducible exact q_fe b204 | (have t1 : 2 ≤ y167.toInt := b204; omega))), (show 0 ≤ y176.toInt from (by first | with_reducible exact q_fe b210 | (have t1 : 0 ≤ y176.toInt := b210; omega))), (show y176.toInt ≤ 220 from (by first | with_reducible exact q_fe b211 | (have t1 : y176.toInt ≤ 220 := b211; omega))), (show 0 ≤ y177.toInt from (by first | with_reducible exact q_fe b212 | (have t1 : 0 ≤ y177.toInt := b212; omega))), (show y177.toInt ≤ 21 from (by first | with_reducible exact q_fe b213 | (have t1 : y177.toInt ≤ 21 := b213; omega))), (show 0 ≤ y171.toInt from (by first | with_reducible exact q_fe b206 | (have t1 : 0 ≤ y171.toInt := b206; omega))), (show y171.toInt ≤ 1026 from (by first | with_reducible exact q_fe b207 | (have t1 : y171.toInt ≤ 1026 := b207; omega))), (show 0 ≤ y172.toInt + 1000000 from (by first | with_reducible exact q_fe b208 | (have t1 : 0 ≤ y172.toInt + 1000000 := b208; omega))), (show y172.toInt ≤ 1000000 from (by first | with_reducible exact q_fe b209 | (have t1 : y172.toInt ≤ 1000000 := b209; omega))), (show 0 ≤ y181.toInt from (by first | with_reducible exact q_fe b214 | (have t1 : 0 ≤ y181.toInt := b214; omega))), (show y181.toInt ≤ 220 from (by first | with_reducible exact q_fe b215 | (have t1 : y181.toInt ≤ 220 := b215; omega))), (show 0 ≤ y182.toInt from (by first | with_reducible exact q_fe b216 | (have t1 : 0 ≤ y182.toInt := b216; omega))), (show y182.toInt ≤ 2 from (by first | with_reducible exact q_fe b217 | (have t1 : y182.toInt ≤ 2 := b217; omega))), (show 0 ≤ y186.toInt from (by first | with_reducible exact q_fe b218 | (have t1 : 0 ≤ y186.toInt := b218; omega))), (show y186.toInt ≤ 220 from (by first | with_reducible exact q_fe b219 | (have t1 : y186.toInt ≤ 220 := b219; omega))), (show 0 ≤ y187.toInt from (by first | with_reducible exact q_fe b220 | (have t1 : 0 ≤ y187.toInt := b220; omega))), (show y187.toInt ≤ 1 from (by first | with_reducible exact q_fe b221 | (have t1 : y187.toInt ≤ 1 := b221; omega))), (show 0 ≤ y191.toInt from (by first | with_reducible exact q_fe b222 | (have t1 : 0 ≤ y191.toInt := b222; omega))), (show y191.toInt ≤ 220 from (by first | with_reducible exact q_fe b223 | (have t1 : y191.toInt ≤ 220 := b223; omega))), (show 0 ≤ y192.toInt from (by first | with_reducible exact q_fe b224 | (have t1 : 0 ≤ y192.toInt := b224; omega))), (show y192.toInt ≤ 1 from (by first | with_reducible exact q_fe b225 | (have t1 : y192.toInt ≤ 1 := b225; omega))), (show 0 ≤ y196.toInt from (by first | with_reducible exact q_fe b226 | (have t1 : 0 ≤ y196.toInt := b226; omega))), (show y196.toInt ≤ 220 from (by first | with_reducible exact q_fe b227 | (have t1 : y196.toInt ≤ 220 := b227; omega))), (show 0 ≤ y197.toInt from (by first | with_reducible exact q_fe b228 | (have t1 : 0 ≤ y197.toInt := b228; omega))), (show x3.toInt ≤ y167.toInt + 9 from (by have t1 : x3.toInt ≤ 9 := ob157; have t2 : 2 ≤ y167.toInt := b204; omega)), (show t21_1.toInt ≤ y167.toInt from (by have t1 : 0 ≤ t21_1.toInt ∧ t21_1.toInt ≤ 1 := btt21_1; have t2 : 2 ≤ y167.toInt := b204; omega)), (show x3.toInt ≤ y176.toInt + 9 from (by have t1 : x3.toInt ≤ 9 := ob157; have t2 : 0 ≤ y176.toInt := b210; omega)), (show y176.toInt ≤ x3.toInt + 220 from (by have t1 : 0 ≤ x3.toInt := ob156; have t2 : y176.toInt ≤ 220 := b211; omega)), (show x3.toInt ≤ y177.toInt + 9 from (by have t1 : x3.toInt ≤ 9 := ob157; have t2 : 0 ≤ y177.toInt := b212; omega)), (show y177.toInt ≤ x3.toInt + 21 from (by have t1 : 0 ≤ x3.toInt := ob156; have t2 : y177.toInt ≤ 21 := b213; omega)), (show y177.toInt ≤ t2_1.toInt + 20 from (by first | with_reducible exact q_fe b233 | (have t1 : y177.toInt ≤ t2_1.toInt + 20 := b233; omega))), (show x3.toInt ≤ y171.toInt + 9 from (by have t1 : x3.toInt ≤ 9 := ob157; have t2 : 0 ≤ y171.toInt := b206; omega)), (show y171.toInt ≤ x3.toInt + 1026 from (by have t1 : 0 ≤ x3.toInt := ob156; have t2 : y171.toInt ≤ 1026 := b207; omega)), (show x3.toInt ≤ y172.toInt + 1000009 from (by have t1 : x3.toInt ≤ 9 := ob157; have t2 : 0 ≤ y172.toInt + 1000000 := b208; omega)), (show y172.toInt ≤ x3.toInt + 1000000 from (by have t1 : 0 ≤ x3.toInt := ob156; have t2 : y172.toInt ≤ 1000000 := b209; omega)), (show x3.toInt ≤ y181.toInt + 9 from (by have t1 : x3.toInt ≤ 9 := ob157; have t2 : 0 ≤ y181.toInt := b214; omega)), (show y181.toInt ≤ x3.toInt + 220 from (by have t1 : 0 ≤ x3.toInt := ob156; have t2 : y181.toInt ≤ 220 := b215; omega)), (show x3.toInt ≤ y182.toInt + 9 from (by have t1 : x3.toInt ≤ 9 := ob157; have t2 : 0 ≤ y182.toInt := b216; omega)), (show y182.toInt ≤ x3.toInt + 2 from (by have t1 : 0 ≤ x3.toInt := ob156; have t2 : y182.toInt ≤ 2 := b217; omega)), (show y182.toInt ≤ t2_1.toInt + 1 from (by first | with_reducible exact q_fe b234 | (have t1 : y182.toInt ≤ t2_1.toInt + 1 := b234; omega))), (show x3.toInt ≤ y186.toInt + 9 from (by have t1 : x3.toInt ≤ 9 := ob157; have t2 : 0 ≤ y186.toInt := b218; omega)), (show y186.toInt ≤ x3.toInt + 220 from (by have t1 : 0 ≤ x3.toInt := ob156; have t2 : y186.toInt ≤ 220 := b219; omega)), (show x3.toInt ≤ y187.toInt + 9 from (by have t1 : x3.toInt ≤ 9 := ob157; have t2 : 0 ≤ y187.toInt := b220; omega)), (show y187.toInt ≤ x3.toInt + 1 from (by have t1 : 0 ≤ x3.toInt := ob156; have t2 : y187.toInt ≤ 1 := b221; omega)), (show x3.toInt ≤ y191.toInt + 9 from (by have t1 : x3.toInt ≤ 9 := ob157; have t2 : 0 ≤ y191.toInt := b222; omega)), (show y191.toInt ≤ x3.toInt + 220 from (by have t1 : 0 ≤ x3.toInt := ob156; have t2 : y191.toInt ≤ 220 := b223; omega)), (show x3.toInt ≤ y192.toInt + 9 from (by have t1 : x3.toInt ≤ 9 := ob157; have t2 : 0 ≤ y192.toInt := b224; omega)), (show y192.toInt ≤ x3.toInt + 1 from (by have t1 : 0 ≤ x3.toInt := ob156; have t2 : y192.toInt ≤ 1 := b225; omega)), (show x3.toInt ≤ y196.toInt + 9 from (by have t1 : x3.toInt ≤ 9 := ob157; have t2 : 0 ≤ y196.toInt := b226; omega)), (show y196.toInt ≤ x3.toInt + 220 from (by have t1 : 0 ≤ x3.toInt := ob156; have t2 : y196.toInt ≤ 220 := b227; omega)), (show x3.toInt ≤ y197.toInt + 9 from (by have t1 : x3.toInt ≤ 9 := ob157; have t2 : 0 ≤ y197.toInt := b228; omega)), (show y167.toInt ≤ y167.toInt from (by omega)), (show y167.toInt ≤ y167.toInt from (by omega)), (show y176.toInt ≤ y167.toInt + 218 from (by have t1 : 2 ≤ y167.toInt := b204; have t2 : y176.toInt ≤ 220 := b211; omega)), (show y177.toInt ≤ y167.toInt + 19 from (by have t1 : 2 ≤ y167.toInt := b204; have t2 : y177.toInt ≤ 21 := b213; omega)), (show y182.toInt ≤ y167.toInt + 1 from (by have t1 : 2 ≤ y167.toInt := b204; have t2 : y182.toInt ≤ 2 := b217; omega)), (show y177.toInt ≤ y172.toInt + 1000001 from (by first | with_reducible exact q_fe b238 | (have t1 : y177.toInt ≤ y172.toInt + 1000001 := b238; omega))), (show y182.toInt ≤ y177.toInt + 1 from (by first | with_reducible exact q_fe b240 | (have t1 : y182.toInt ≤ y177.toInt + 1 := b240; omega))), (show y182.toInt ≤ y172.toInt + 1000001 from (by first | with_reducible exact q_fe b239 | (have t1 : y182.toInt ≤ y172.toInt + 1000001 := b239; omega))), (show ((0 : Int32), y167, y167, f168, y176, y177, f178, y171, y172, f173, y181, y182, f183, y186, y187, f188, y191, y192, f193, y196, y197, f198, y201, y202, y203, t17_0, t17_1, t17_2) = (F_NH_print x2 x3 x4 t0_0 t1_0 t2_0 t2_1 t3_0 t4_0 t4_1 t5_0 t6_0 t7_0 t8_0 t8_1 t9_0 t10_0 t10_1 t11_0 t12_0 t12_1 t13_0 t14_0 t14_1 t15_0 t16_0 t16_1 t16_2 t17_0 t17_1 t17_2 t18_0 t18_1 t19_0 t20_0 t20_1 t21_0 t21_1 t22_0) from Eq.trans (by rw [e267, e266, e265, e264, e263, e262, e261, e260, e259, e258, e257, e256, e255, e254, e253, e252, e251, e250, e249, e248, e247, e246, e245, F_NH_print_c127.eq_1]) hR268)⟩) d_1_17_137)
                ·
                  refine lv_iconst (v := 1) hx hb d_1_17_122 (by decide) ?_
                  refine lv_goto (tgt := 127) hx hb d_1_17_123 (by decide) ?_
                  have ob274 : True ∧ S_Wri_floatText (52 : Int32) (1075 : Int32) (2047 : Int32) j158 (1 : Int32) t0_0 t1_0 t4_0 t4_1 t5_0 t2_0 t2_1 t3_0 t8_0 t8_1 t9_0 t10_0 t10_1 t11_0 t12_0 t12_1 t13_0 t14_0 t14_1 t15_0 t16_0 t16_1 t16_2 := (by rw [← e159]; have h := hS128; rw [S_NH_print_J98.eq_1] at h; rw [if_pos c138] at h; rw [if_pos c146] at h; rw [if_pos c153] at h; replace h := q_s2 h; replace h := q_s2 h; rw [if_pos c160] at h; with_reducible exact h.2.1)
                  have hO275 := n_o39 hI
                  refine q_gov V (q_runV (As := [.ref (q 34), .long j158, .int 1]) (rest := []) (d := 7) (mc := 0) (ms := 0) (ci := 9) C0 V rfl LV_NH_332 (X_Wri_floatText l D g q ws 34 52 1075 2047 (n_f34 g q) j158 1 hI t0_0 hT0 t1_0 hT1 t4_0 t4_1 hT4 t5_0 hT5 t2_0 t2_1 hT2 t3_0 hT3 t8_0 t8_1 hT8 t9_0 hT9 t10_0 t10_1 hT10 t11_0 hT11 t12_0 t12_1 hT12 t13_0 hT13 t14_0 t14_1 hT14 t15_0 hT15 t16_0 t16_1 t16_2 hT16 ⟨(by have y0 : (52 : Int32).toInt = 52 := rfl; have y1 : (1075 : Int32).toInt = 1075 := rfl; have y2 : (2047 : Int32).toInt = 2047 := rfl; have y3 : (1 : Int32).toInt = 1 := rfl; omega), (by have y0 : (52 : Int32).toInt = 52 := rfl; have y1 : (1075 : Int32).toInt = 1075 := rfl; have y2 : (2047 : Int32).toInt = 2047 := rfl; have y3 : (1 : Int32).toInt = 1 := rfl; omega)⟩ ob274 _) rfl rfl hO275 rfl hl.1 rfl (Nat.le_of_ble_eq_true rfl) ⟨by decide, by decide⟩ ⟨Nat.le_of_ble_eq_true rfl, Nat.le_of_ble_eq_true rfl⟩ d_1_17_127) (fun u276 H locs hp277 V => ?_)
                  obtain ⟨hI, hZ9⟩ := hp277
                  obtain ⟨hu354, hZ9⟩ := hZ9
                  obtain ⟨y279, hZ9⟩ := hZ9
                  obtain ⟨f280, hZ9⟩ := hZ9
                  obtain ⟨y283, hZ9⟩ := hZ9
                  obtain ⟨y284, hZ9⟩ := hZ9
                  obtain ⟨f285, hZ9⟩ := hZ9
                  obtain ⟨y288, hZ9⟩ := hZ9
                  obtain ⟨y289, hZ9⟩ := hZ9
                  obtain ⟨f290, hZ9⟩ := hZ9
                  obtain ⟨y293, hZ9⟩ := hZ9
                  obtain ⟨y294, hZ9⟩ := hZ9
                  obtain ⟨f295, hZ9⟩ := hZ9
                  obtain ⟨y298, hZ9⟩ := hZ9
                  obtain ⟨y299, hZ9⟩ := hZ9
                  obtain ⟨f300, hZ9⟩ := hZ9
                  obtain ⟨y303, hZ9⟩ := hZ9
                  obtain ⟨y304, hZ9⟩ := hZ9
                  obtain ⟨f305, hZ9⟩ := hZ9
                  obtain ⟨y308, hZ9⟩ := hZ9
                  obtain ⟨y309, hZ9⟩ := hZ9
                  obtain ⟨f310, hZ9⟩ := hZ9
                  obtain ⟨y313, hZ9⟩ := hZ9
                  obtain ⟨y314, hZ9⟩ := hZ9
                  obtain ⟨y315, hZ9⟩ := hZ9
                  obtain ⟨hO278, hZ9⟩ := hZ9
                  obtain ⟨hA281, hZ9⟩ := hZ9
                  obtain ⟨hO282, hZ9⟩ := hZ9
                  obtain ⟨hA286, hZ9⟩ := hZ9
                  obtain ⟨hO287, hZ9⟩ := hZ9
                  obtain ⟨hA291, hZ9⟩ := hZ9
                  obtain ⟨hO292, hZ9⟩ := hZ9
                  obtain ⟨hA296, hZ9⟩ := hZ9
                  obtain ⟨hO297, hZ9⟩ := hZ9
                  obtain ⟨hA301, hZ9⟩ := hZ9
                  obtain ⟨hO302, hZ9⟩ := hZ9
                  obtain ⟨hA306, hZ9⟩ := hZ9
                  obtain ⟨hO307, hZ9⟩ := hZ9
                  obtain ⟨hA311, hZ9⟩ := hZ9
                  obtain ⟨hO312, hZ9⟩ := hZ9
                  obtain ⟨b316, hZ9⟩ := hZ9
                  replace hZ9 := hZ9.2
                  obtain ⟨b318, hZ9⟩ := hZ9
                  obtain ⟨b319, hZ9⟩ := hZ9
                  obtain ⟨b320, hZ9⟩ := hZ9
                  obtain ⟨b321, hZ9⟩ := hZ9
                  obtain ⟨b322, hZ9⟩ := hZ9
                  obtain ⟨b323, hZ9⟩ := hZ9
                  obtain ⟨b324, hZ9⟩ := hZ9
                  obtain ⟨b325, hZ9⟩ := hZ9
                  obtain ⟨b326, hZ9⟩ := hZ9
                  obtain ⟨b327, hZ9⟩ := hZ9
                  obtain ⟨b328, hZ9⟩ := hZ9
                  obtain ⟨b329, hZ9⟩ := hZ9
                  obtain ⟨b330, hZ9⟩ := hZ9
                  obtain ⟨b331, hZ9⟩ := hZ9
                  obtain ⟨b332, hZ9⟩ := hZ9
                  obtain ⟨b333, hZ9⟩ := hZ9
                  obtain ⟨b334, hZ9⟩ := hZ9
                  obtain ⟨b335, hZ9⟩ := hZ9
                  obtain ⟨b336, hZ9⟩ := hZ9
                  obtain ⟨b337, hZ9⟩ := hZ9
                  obtain ⟨b338, hZ9⟩ := hZ9
                  obtain ⟨b339, hZ9⟩ := hZ9
                  obtain ⟨b340, hZ9⟩ := hZ9
                  replace hZ9 := hZ9.2.2.2.2
                  obtain ⟨b345, hZ9⟩ := hZ9
                  obtain ⟨b346, hZ9⟩ := hZ9
                  replace hZ9 := hZ9.2.2.2
                  obtain ⟨b350, hZ9⟩ := hZ9
                  obtain ⟨b351, hZ9⟩ := hZ9
                  obtain ⟨b352, hE353⟩ := hZ9
                  replace hO278 : u276[3]? = (some (q 3, .inr (1, [.ref (q 4), .int 11008, .int y279])) : Option (Nat × va_E)) := hO278
                  replace hA281 : u276[4]? = (some (q 4, .inl (g 1, (1376 : Int32).toNatClampNeg, .inr (.inl f280))) : Option (Nat × va_E)) := hA281
                  replace hO282 : u276[36]? = (some (q 36, .inr (7, [.int y283, .int y284, .ref (q 37)])) : Option (Nat × va_E)) := hO282
                  replace hA286 : u276[37]? = (some (q 37, .inl (g 2, 1026, .inl f285)) : Option (Nat × va_E)) := hA286
                  replace hO287 : u276[10]? = (some (q 10, .inr (2, [.ref (q 11), .int y288, .int y289])) : Option (Nat × va_E)) := hO287
                  replace hA291 : u276[11]? = (some (q 11, .inl (g 0, (220 : Int32).toNatClampNeg, .inl f290)) : Option (Nat × va_E)) := hA291
                  replace hO292 : u276[22]? = (some (q 22, .inr (2, [.ref (q 23), .int y293, .int y294])) : Option (Nat × va_E)) := hO292
                  replace hA296 : u276[23]? = (some (q 23, .inl (g 0, (220 : Int32).toNatClampNeg, .inl f295)) : Option (Nat × va_E)) := hA296
                  replace hO297 : u276[24]? = (some (q 24, .inr (2, [.ref (q 25), .int y298, .int y299])) : Option (Nat × va_E)) := hO297
                  replace hA301 : u276[25]? = (some (q 25, .inl (g 0, (220 : Int32).toNatClampNeg, .inl f300)) : Option (Nat × va_E)) := hA301
                  replace hO302 : u276[26]? = (some (q 26, .inr (2, [.ref (q 27), .int y303, .int y304])) : Option (Nat × va_E)) := hO302
                  replace hA306 : u276[27]? = (some (q 27, .inl (g 0, (220 : Int32).toNatClampNeg, .inl f305)) : Option (Nat × va_E)) := hA306
                  replace hO307 : u276[28]? = (some (q 28, .inr (2, [.ref (q 29), .int y308, .int y309])) : Option (Nat × va_E)) := hO307
                  replace hA311 : u276[29]? = (some (q 29, .inl (g 0, (220 : Int32).toNatClampNeg, .inl f310)) : Option (Nat × va_E)) := hA311
                  replace hO312 : u276[34]? = (some (q 34, .inr (6, [.int 52, .int 1075, .int 2047, .long y313, .int y314, .ref (q 9), .int y315])) : Option (Nat × va_E)) := hO312
                  obtain ⟨p355, e356⟩ : ∃ z, z = (F_Wri_floatText (52 : Int32) (1075 : Int32) (2047 : Int32) j158 (1 : Int32) t0_0 t1_0 t4_0 t4_1 t5_0 t2_0 t2_1 t3_0 t8_0 t8_1 t9_0 t10_0 t10_1 t11_0 t12_0 t12_1 t13_0 t14_0 t14_1 t15_0 t16_0 t16_1 t16_2) := ⟨_, rfl⟩
                  have e357 : y279 = p355.1 := congrArg (fun z => z.1) (hE353.trans e356.symm)
                  have e358 : f280 = p355.2.1 := congrArg (fun z => z.2.1) (hE353.trans e356.symm)
                  have e359 : y283 = p355.2.2.1 := congrArg (fun z => z.2.2.1) (hE353.trans e356.symm)
                  have e360 : y284 = p355.2.2.2.1 := congrArg (fun z => z.2.2.2.1) (hE353.trans e356.symm)
                  have e361 : f285 = p355.2.2.2.2.1 := congrArg (fun z => z.2.2.2.2.1) (hE353.trans e356.symm)
                  have e362 : y288 = p355.2.2.2.2.2.1 := congrArg (fun z => z.2.2.2.2.2.1) (hE353.trans e356.symm)
                  have e363 : y289 = p355.2.2.2.2.2.2.1 := congrArg (fun z => z.2.2.2.2.2.2.1) (hE353.trans e356.symm)
                  have e364 : f290 = p355.2.2.2.2.2.2.2.1 := congrArg (fun z => z.2.2.2.2.2.2.2.1) (hE353.trans e356.symm)
                  have e365 : y293 = p355.2.2.2.2.2.2.2.2.1 := congrArg (fun z => z.2.2.2.2.2.2.2.2.1) (hE353.trans e356.symm)
                  have e366 : y294 = p355.2.2.2.2.2.2.2.2.2.1 := congrArg (fun z => z.2.2.2.2.2.2.2.2.2.1) (hE353.trans e356.symm)
                  have e367 : f295 = p355.2.2.2.2.2.2.2.2.2.2.1 := congrArg (fun z => z.2.2.2.2.2.2.2.2.2.2.1) (hE353.trans e356.symm)
                  have e368 : y298 = p355.2.2.2.2.2.2.2.2.2.2.2.1 := congrArg (fun z => z.2.2.2.2.2.2.2.2.2.2.2.1) (hE353.trans e356.symm)
                  have e369 : y299 = p355.2.2.2.2.2.2.2.2.2.2.2.2.1 := congrArg (fun z => z.2.2.2.2.2.2.2.2.2.2.2.2.1) (hE353.trans e356.symm)
                  have e370 : f300 = p355.2.2.2.2.2.2.2.2.2.2.2.2.2.1 := congrArg (fun z => z.2.2.2.2.2.2.2.2.2.2.2.2.2.1) (hE353.trans e356.symm)
                  have e371 : y303 = p355.2.2.2.2.2.2.2.2.2.2.2.2.2.2.1 := congrArg (fun z => z.2.2.2.2.2.2.2.2.2.2.2.2.2.2.1) (hE353.trans e356.symm)
                  have e372 : y304 = p355.2.2.2.2.2.2.2.2.2.2.2.2.2.2.2.1 := congrArg (fun z => z.2.2.2.2.2.2.2.2.2.2.2.2.2.2.2.1) (hE353.trans e356.symm)
                  have e373 : f305 = p355.2.2.2.2.2.2.2.2.2.2.2.2.2.2.2.2.1 := congrArg (fun z => z.2.2.2.2.2.2.2.2.2.2.2.2.2.2.2.2.1) (hE353.trans e356.symm)
                  have e374 : y308 = p355.2.2.2.2.2.2.2.2.2.2.2.2.2.2.2.2.2.1 := congrArg (fun z => z.2.2.2.2.2.2.2.2.2.2.2.2.2.2.2.2.2.1) (hE353.trans e356.symm)
                  have e375 : y309 = p355.2.2.2.2.2.2.2.2.2.2.2.2.2.2.2.2.2.2.1 := congrArg (fun z => z.2.2.2.2.2.2.2.2.2.2.2.2.2.2.2.2.2.2.1) (hE353.trans e356.symm)
                  have e376 : f310 = p355.2.2.2.2.2.2.2.2.2.2.2.2.2.2.2.2.2.2.2.1 := congrArg (fun z => z.2.2.2.2.2.2.2.2.2.2.2.2.2.2.2.2.2.2.2.1) (hE353.trans e356.symm)
                  have e377 : y313 = p355.2.2.2.2.2.2.2.2.2.2.2.2.2.2.2.2.2.2.2.2.1 := congrArg (fun z => z.2.2.2.2.2.2.2.2.2.2.2.2.2.2.2.2.2.2.2.2.1) (hE353.trans e356.symm)
                  have e378 : y314 = p355.2.2.2.2.2.2.2.2.2.2.2.2.2.2.2.2.2.2.2.2.2.1 := congrArg (fun z => z.2.2.2.2.2.2.2.2.2.2.2.2.2.2.2.2.2.2.2.2.2.1) (hE353.trans e356.symm)
                  have e379 : y315 = p355.2.2.2.2.2.2.2.2.2.2.2.2.2.2.2.2.2.2.2.2.2.2 := congrArg (fun z => z.2.2.2.2.2.2.2.2.2.2.2.2.2.2.2.2.2.2.2.2.2.2) (hE353.trans e356.symm)
                  replace b316 : q_F (2 ≤ y279.toInt) := b316
                  replace b318 : q_F (0 ≤ y283.toInt) := b318
                  replace b319 : q_F (y283.toInt ≤ 1026) := b319
                  replace b320 : q_F (0 ≤ y284.toInt + 1000000) := b320
                  replace b321 : q_F (y284.toInt ≤ 1000000) := b321
                  replace b322 : q_F (0 ≤ y288.toInt) := b322
                  replace b323 : q_F (y288.toInt ≤ 220) := b323
                  replace b324 : q_F (0 ≤ y289.toInt) := b324
                  replace b325 : q_F (y289.toInt ≤ 21) := b325
                  replace b326 : q_F (0 ≤ y293.toInt) := b326
                  replace b327 : q_F (y293.toInt ≤ 220) := b327
                  replace b328 : q_F (0 ≤ y294.toInt) := b328
                  replace b329 : q_F (y294.toInt ≤ 2) := b329
                  replace b330 : q_F (0 ≤ y298.toInt) := b330
                  replace b331 : q_F (y298.toInt ≤ 220) := b331
                  replace b332 : q_F (0 ≤ y299.toInt) := b332
                  replace b333 : q_F (y299.toInt ≤ 1) := b333
                  replace b334 : q_F (0 ≤ y303.toInt) := b334
                  replace b335 : q_F (y303.toInt ≤ 220) := b335
                  replace b336 : q_F (0 ≤ y304.toInt) := b336
                  replace b337 : q_F (y304.toInt ≤ 1) := b337
                  replace b338 : q_F (0 ≤ y308.toInt) := b338
                  replace b339 : q_F (y308.toInt ≤ 220) := b339
                  replace b340 : q_F (0 ≤ y309.toInt) := b340
                  replace b345 : q_F (y289.toInt ≤ t2_1.toInt + 20) := b345
                  replace b346 : q_F (y294.toInt ≤ t2_1.toInt + 1) := b346
                  replace b350 : q_F (y289.toInt ≤ y284.toInt + 1000001) := b350
                  replace b351 : q_F (y294.toInt ≤ y284.toInt + 1000001) := b351
                  replace b352 : q_F (y294.toInt ≤ y289.toInt + 1) := b352
                  replace hT17 := (hu354 _ (by decide)).trans hT17
                  replace hO141 := (hu354 _ (by decide)).trans hO141
                  replace hF := q_uc hF hu354 (by simp)
                  have hR380 := (show F_NH_print_c127_3 x2 x3 x4 t0_0 t1_0 t2_0 t2_1 t3_0 t4_0 t4_1 t5_0 t6_0 t7_0 t8_0 t8_1 t9_0 t10_0 t10_1 t11_0 t12_0 t12_1 t13_0 t14_0 t14_1 t15_0 t16_0 t16_1 t16_2 t17_0 t17_1 t17_2 t18_0 t18_1 t19_0 t20_0 t20_1 t21_0 t21_1 t22_0 lx100 p355 = (F_NH_print x2 x3 x4 t0_0 t1_0 t2_0 t2_1 t3_0 t4_0 t4_1 t5_0 t6_0 t7_0 t8_0 t8_1 t9_0 t10_0 t10_1 t11_0 t12_0 t12_1 t13_0 t14_0 t14_1 t15_0 t16_0 t16_1 t16_2 t17_0 t17_1 t17_2 t18_0 t18_1 t19_0 t20_0 t20_1 t21_0 t21_1 t22_0) from Eq.trans (by rw [e356, ← e159, F_NH_print_J98.eq_1, if_pos c138, if_pos c146, if_pos c153, if_pos c160]) hR127)
                  have hS381 := (show True ∧ S_NH_print_c127_3 x2 x3 x4 t0_0 t1_0 t2_0 t2_1 t3_0 t4_0 t4_1 t5_0 t6_0 t7_0 t8_0 t8_1 t9_0 t10_0 t10_1 t11_0 t12_0 t12_1 t13_0 t14_0 t14_1 t15_0 t16_0 t16_1 t16_2 t17_0 t17_1 t17_2 t18_0 t18_1 t19_0 t20_0 t20_1 t21_0 t21_1 t22_0 lx100 p355 from (by rw [e356, ← e159]; have h := hS128; rw [S_NH_print_J98.eq_1] at h; rw [if_pos c138] at h; rw [if_pos c146] at h; rw [if_pos c153] at h; replace h := q_s2 h; replace h := q_s2 h; rw [if_pos c160] at h; replace h := q_s2 h; with_reducible exact h))
                  refine lv_aload_n hx hb d_1_17_130 rfl (lv_at hl 0 rfl) ?_
                  refine q_get (ci := 0) (j := 1) (v := .ref (q 3)) C0 V i_NH rfl rfl hO141 (by decide) w_425 rfl d_1_17_131 ?_
                  refine q_get (ci := 1) (j := 2) (v := .int y279) C0 V i_She rfl rfl hO278 (by decide) w_56 rfl d_1_17_134 ?_
                  exact q_retX (q_reti C0 V (⟨hI, hF, y279, f280, y288, y289, f290, y283, y284, f285, y293, y294, f295, y298, y299, f300, y303, y304, f305, y308, y309, f310, y313, y314, y315, t17_0, t17_1, t17_2, hO278, hA281, hO287, hA291, hO282, hA286, hO292, hA296, hO297, hA301, hO302, hA306, hO307, hA311, hO312, hT17, (show 0 ≤ y279.toInt from (by first | with_reducible exact q_fe b316 | (have t1 : 2 ≤ y279.toInt := b316; omega))), (show 0 ≤ y279.toInt from (by first | with_reducible exact q_fe b316 | (have t1 : 2 ≤ y279.toInt := b316; omega))), (show 0 ≤ y288.toInt from (by first | with_reducible exact q_fe b322 | (have t1 : 0 ≤ y288.toInt := b322; omega))), (show y288.toInt ≤ 220 from (by first | with_reducible exact q_fe b323 | (have t1 : y288.toInt ≤ 220 := b323; omega))), (show 0 ≤ y289.toInt from (by first | with_reducible exact q_fe b324 | (have t1 : 0 ≤ y289.toInt := b324; omega))), (show y289.toInt ≤ 21 from (by first | with_reducible exact q_fe b325 | (have t1 : y289.toInt ≤ 21 := b325; omega))), (show 0 ≤ y283.toInt from (by first | with_reducible exact q_fe b318 | (have t1 : 0 ≤ y283.toInt := b318; omega))), (show y283.toInt ≤ 1026 from (by first | with_reducible exact q_fe b319 | (have t1 : y283.toInt ≤ 1026 := b319; omega))), (show 0 ≤ y284.toInt + 1000000 from (by first | with_reducible exact q_fe b320 | (have t1 : 0 ≤ y284.toInt + 1000000 := b320; omega))), (show y284.toInt ≤ 1000000 from (by first | with_reducible exact q_fe b321 | (have t1 : y284.toInt ≤ 1000000 := b321; omega))), (show 0 ≤ y293.toInt from (by first | with_reducible exact q_fe b326 | (have t1 : 0 ≤ y293.toInt := b326; omega))), (show y293.toInt ≤ 220 from (by first | with_reducible exact q_fe b327 | (have t1 : y293.toInt ≤ 220 := b327; omega))), (show 0 ≤ y294.toInt from (by first | with_reducible exact q_fe b328 | (have t1 : 0 ≤ y294.toInt := b328; omega))), (show y294.toInt ≤ 2 from (by first | with_reducible exact q_fe b329 | (have t1 : y294.toInt ≤ 2 := b329; omega))), (show 0 ≤ y298.toInt from (by first | with_reducible exact q_fe b330 | (have t1 : 0 ≤ y298.toInt := b330; omega))), (show y298.toInt ≤ 220 from (by first | with_reducible exact q_fe b331 | (have t1 : y298.toInt ≤ 220 := b331; omega))), (show 0 ≤ y299.toInt from (by first | with_reducible exact q_fe b332 | (have t1 : 0 ≤ y299.toInt := b332; omega))), (show y299.toInt ≤ 1 from (by first | with_reducible exact q_fe b333 | (have t1 : y299.toInt ≤ 1 := b333; omega))), (show 0 ≤ y303.toInt from (by first | with_reducible exact q_fe b334 | (have t1 : 0 ≤ y303.toInt := b334; omega))), (show y303.toInt ≤ 220 from (by first | with_reducible exact q_fe b335 | (have t1 : y303.toInt ≤ 220 := b335; omega))), (show 0 ≤ y304.toInt from (by first | with_reducible exact q_fe b336 | (have t1 : 0 ≤ y304.toInt := b336; omega))), (show y304.toInt ≤ 1 from (by first | with_reducible exact q_fe b337 | (have t1 : y304.toInt ≤ 1 := b337; omega))), (show 0 ≤ y308.toInt from (by first | with_reducible exact q_fe b338 | (have t1 : 0 ≤ y308.toInt := b338; omega))), (show y308.toInt ≤ 220 from (by first | with_reducible exact q_fe b339 | (have t1 : y308.toInt ≤ 220 := b339; omega))), (show 0 ≤ y309.toInt from (by first | with_reducible exact q_fe b340 | (have t1 : 0 ≤ y309.toInt := b340; omega))), (show x3.toInt ≤ y279.toInt + 9 from (by have t1 : x3.toInt ≤ 9 := ob157; have t2 : 2 ≤ y279.toInt := b316; omega)), (show t21_1.toInt ≤ y279.toInt from (by have t1 : 0 ≤ t21_1.toInt ∧ t21_1.toInt ≤ 1 := btt21_1; have t2 : 2 ≤ y279.toInt := b316; omega)), (show x3.toInt ≤ y288.toInt + 9 from (by have t1 : x3.toInt ≤ 9 := ob157; have t2 : 0 ≤ y288.toInt := b322; omega)), (show y288.toInt ≤ x3.toInt + 220 from (by have t1 : 0 ≤ x3.toInt := ob156; have t2 : y288.toInt ≤ 220 := b323; omega)), (show x3.toInt ≤ y289.toInt + 9 from (by have t1 : x3.toInt ≤ 9 := ob157; have t2 : 0 ≤ y289.toInt := b324; omega)), (show y289.toInt ≤ x3.toInt + 21 from (by have t1 : 0 ≤ x3.toInt := ob156; have t2 : y289.toInt ≤ 21 := b325; omega)), (show y289.toInt ≤ t2_1.toInt + 20 from (by first | with_reducible exact q_fe b345 | (have t1 : y289.toInt ≤ t2_1.toInt + 20 := b345; omega))), (show x3.toInt ≤ y283.toInt + 9 from (by have t1 : x3.toInt ≤ 9 := ob157; have t2 : 0 ≤ y283.toInt := b318; omega)), (show y283.toInt ≤ x3.toInt + 1026 from (by have t1 : 0 ≤ x3.toInt := ob156; have t2 : y283.toInt ≤ 1026 := b319; omega)), (show x3.toInt ≤ y284.toInt + 1000009 from (by have t1 : x3.toInt ≤ 9 := ob157; have t2 : 0 ≤ y284.toInt + 1000000 := b320; omega)), (show y284.toInt ≤ x3.toInt + 1000000 from (by have t1 : 0 ≤ x3.toInt := ob156; have t2 : y284.toInt ≤ 1000000 := b321; omega)), (show x3.toInt ≤ y293.toInt + 9 from (by have t1 : x3.toInt ≤ 9 := ob157; have t2 : 0 ≤ y293.toInt := b326; omega)), (show y293.toInt ≤ x3.toInt + 220 from (by have t1 : 0 ≤ x3.toInt := ob156; have t2 : y293.toInt ≤ 220 := b327; omega)), (show x3.toInt ≤ y294.toInt + 9 from (by have t1 : x3.toInt ≤ 9 := ob157; have t2 : 0 ≤ y294.toInt := b328; omega)), (show y294.toInt ≤ x3.toInt + 2 from (by have t1 : 0 ≤ x3.toInt := ob156; have t2 : y294.toInt ≤ 2 := b329; omega)), (show y294.toInt ≤ t2_1.toInt + 1 from (by first | with_reducible exact q_fe b346 | (have t1 : y294.toInt ≤ t2_1.toInt + 1 := b346; omega))), (show x3.toInt ≤ y298.toInt + 9 from (by have t1 : x3.toInt ≤ 9 := ob157; have t2 : 0 ≤ y298.toInt := b330; omega)), (show y298.toInt ≤ x3.toInt + 220 from (by have t1 : 0 ≤ x3.toInt := ob156; have t2 : y298.toInt ≤ 220 := b331; omega)), (show x3.toInt ≤ y299.toInt + 9 from (by have t1 : x3.toInt ≤ 9 := ob157; have t2 : 0 ≤ y299.toInt := b332; omega)), (show y299.toInt ≤ x3.toInt + 1 from (by have t1 : 0 ≤ x3.toInt := ob156; have t2 : y299.toInt ≤ 1 := b333; omega)), (show x3.toInt ≤ y303.toInt + 9 from (by have t1 : x3.toInt ≤ 9 := ob157; have t2 : 0 ≤ y303.toInt := b334; omega)), (show y303.toInt ≤ x3.toInt + 220 from (by have t1 : 0 ≤ x3.toInt := ob156; have t2 : y303.toInt ≤ 220 := b335; omega)), (show x3.toInt ≤ y304.toInt + 9 from (by have t1 : x3.toInt ≤ 9 := ob157; have t2 : 0 ≤ y304.toInt := b336; omega)), (show y304.toInt ≤ x3.toInt + 1 from (by have t1 : 0 ≤ x3.toInt := ob156; have t2 : y304.toInt ≤ 1 := b337; omega)), (show x3.toInt ≤ y308.toInt + 9 from (by have t1 : x3.toInt ≤ 9 := ob157; have t2 : 0 ≤ y308.toInt := b338; omega)), (show y308.toInt ≤ x3.toInt + 220 from (by have t1 : 0 ≤ x3.toInt := ob156; have t2 : y308.toInt ≤ 220 := b339; omega)), (show x3.toInt ≤ y309.toInt + 9 from (by have t1 : x3.toInt ≤ 9 := ob157; have t2 : 0 ≤ y309.toInt := b340; omega)), (show y279.toInt ≤ y279.toInt from (by omega)), (show y279.toInt ≤ y279.toInt from (by omega)), (show y288.toInt ≤ y279.toInt + 218 from (by have t1 : 2 ≤ y279.toInt := b316; have t2 : y288.toInt ≤ 220 := b323; omega)), (show y289.toInt ≤ y279.toInt + 19 from (by have t1 : 2 ≤ y279.toInt := b316; have t2 : y289.toInt ≤ 21 := b325; omega)), (show y294.toInt ≤ y279.toInt + 1 from (by have t1 : 2 ≤ y279.toInt := b316; have t2 : y294.toInt ≤ 2 := b329; omega)), (show y289.toInt ≤ y284.toInt + 1000001 from (by first | with_reducible exact q_fe b350 | (have t1 : y289.toInt ≤ y284.toInt + 1000001 := b350; omega))), (show y294.toInt ≤ y289.toInt + 1 from (by first | with_reducible exact q_fe b352 | (have t1 : y294.toInt ≤ y289.toInt + 1 := b352; omega))), (show y294.toInt ≤ y284.toInt + 1000001 from (by first | with_reducible exact q_fe b351 | (have t1 : y294.toInt ≤ y284.toInt + 1000001 := b351; omega))), (show ((0 : Int32), y279, y279, f280, y288, y289, f290, y283, y284, f285, y293, y294, f295, y298, y299, f300, y303, y304, f305, y308, y309, f310, y313, y314, y315, t17_0, t17_1, t17_2) = (F_NH_print x2 x3 x4 t0_0 t1_0 t2_0 t2_1 t3_0 t4_0 t4_1 t5_0 t6_0 t7_0 t8_0 t8_1 t9_0 t10_0 t10_1 t11_0 t12_0 t12_1 t13_0 t14_0 t14_1 t15_0 t16_0 t16_1 t16_2 t17_0 t17_1 t17_2 t18_0 t18_1 t19_0 t20_0 t20_1 t21_0 t21_1 t22_0) from Eq.trans (by rw [e379, e378, e377, e376, e375, e374, e373, e372, e371, e370, e369, e368, e367, e366, e365, e364, e363, e362, e361, e360, e359, e358, e357, F_NH_print_c127_3.eq_1]) hR380)⟩) d_1_17_137)
              ·
                have hr385 : a151 = q 8 := hr152.trans (congrArg q (by unfold F_NH_floatRow; rw [if_neg c153]))
                subst hr385
                refine lv_iload_n hx hb d_1_17_115 rfl (lv_at hl 2 rfl) ?_
                have ob387 : q_F (0 ≤ x3.toInt) := (by have h := hS128; rw [S_NH_print_J98.eq_1] at h; rw [if_pos c138] at h; rw [if_pos c146] at h; rw [if_neg c153] at h; exact h.2.1)
                have ob388 : q_F (x3.toInt ≤ 9) := (by have h := hS128; rw [S_NH_print_J98.eq_1] at h; rw [if_pos c138] at h; rw [if_pos c146] at h; rw [if_neg c153] at h; replace h := q_s2 h; exact h.2.1)
                refine q_lald C0 V hT7 (q_ix (x := x3.toInt) rfl (by first | with_reducible exact q_fe ob387 | (have t1 : 0 ≤ x3.toInt := ob387; omega)) (by have t1 : 0 ≤ x3.toInt := ob387; have t2 : x3.toInt ≤ 9 := ob388; omega)) d_1_17_116 ?_
                obtain ⟨j389, e390⟩ := q_nm (t7_0 x3.toNatClampNeg : Int64)
                refine q_tl (v := j389) e390 ?_
                refine lv_iload_n hx hb d_1_17_117 rfl (lv_at hl 3 rfl) ?_
                refine lv_iconst (v := 1) hx hb d_1_17_118 (by decide) ?_
                refine lv_icmp_ne (tgt := 126) hx hb d_1_17_119 (by decide) (fun c391 => ?_) (fun c391 => ?_)
                ·
                  refine lv_iconst (v := 0) hx hb d_1_17_126 (by decide) ?_
                  have ob393 : True ∧ S_Wri_floatText (52 : Int32) (1075 : Int32) (2047 : Int32) j389 (0 : Int32) t0_0 t1_0 t4_0 t4_1 t5_0 t2_0 t2_1 t3_0 t8_0 t8_1 t9_0 t10_0 t10_1 t11_0 t12_0 t12_1 t13_0 t14_0 t14_1 t15_0 t16_0 t16_1 t16_2 := (by rw [← e390]; have h := hS128; rw [S_NH_print_J98.eq_1] at h; rw [if_pos c138] at h; rw [if_pos c146] at h; rw [if_neg c153] at h; replace h := q_s2 h; replace h := q_s2 h; rw [if_neg c391] at h; with_reducible exact h.2.1)
                  have hO394 := n_o39 hI
                  refine q_gov V (q_runV (As := [.ref (q 34), .long j389, .int 0]) (rest := []) (d := 7) (mc := 0) (ms := 0) (ci := 9) C0 V rfl LV_NH_332 (X_Wri_floatText l D g q ws 34 52 1075 2047 (n_f34 g q) j389 0 hI t0_0 hT0 t1_0 hT1 t4_0 t4_1 hT4 t5_0 hT5 t2_0 t2_1 hT2 t3_0 hT3 t8_0 t8_1 hT8 t9_0 hT9 t10_0 t10_1 hT10 t11_0 hT11 t12_0 t12_1 hT12 t13_0 hT13 t14_0 t14_1 hT14 t15_0 hT15 t16_0 t16_1 t16_2 hT16 ⟨(by have y0 : (52 : Int32).toInt = 52 := rfl; have y1 : (1075 : Int32).toInt = 1075 := rfl; have y2 : (2047 : Int32).toInt = 2047 := rfl; have y3 : (0 : Int32).toInt = 0 := rfl; omega), (by have y0 : (52 : Int32).toInt = 52 := rfl; have y1 : (1075 : Int32).toInt = 1075 := rfl; have y2 : (2047 : Int32).toInt = 2047 := rfl; have y3 : (0 : Int32).toInt = 0 := rfl; omega)⟩ ob393 _) rfl rfl hO394 rfl hl.1 rfl (Nat.le_of_ble_eq_true rfl) ⟨by decide, by decide⟩ ⟨Nat.le_of_ble_eq_true rfl, Nat.le_of_ble_eq_true rfl⟩ d_1_17_127) (fun u395 H locs hp396 V => ?_)
                  obtain ⟨hI, hZ9⟩ := hp396
                  obtain ⟨hu473, hZ9⟩ := hZ9
                  obtain ⟨y398, hZ9⟩ := hZ9
                  obtain ⟨f399, hZ9⟩ := hZ9
                  obtain ⟨y402, hZ9⟩ := hZ9
                  obtain ⟨y403, hZ9⟩ := hZ9
                  obtain ⟨f404, hZ9⟩ := hZ9
                  obtain ⟨y407, hZ9⟩ := hZ9
                  obtain ⟨y408, hZ9⟩ := hZ9
                  obtain ⟨f409, hZ9⟩ := hZ9
                  obtain ⟨y412, hZ9⟩ := hZ9
                  obtain ⟨y413, hZ9⟩ := hZ9
                  obtain ⟨f414, hZ9⟩ := hZ9
                  obtain ⟨y417, hZ9⟩ := hZ9
                  obtain ⟨y418, hZ9⟩ := hZ9
                  obtain ⟨f419, hZ9⟩ := hZ9
                  obtain ⟨y422, hZ9⟩ := hZ9
                  obtain ⟨y423, hZ9⟩ := hZ9
                  obtain ⟨f424, hZ9⟩ := hZ9
                  obtain ⟨y427, hZ9⟩ := hZ9
                  obtain ⟨y428, hZ9⟩ := hZ9
                  obtain ⟨f429, hZ9⟩ := hZ9
                  obtain ⟨y432, hZ9⟩ := hZ9
                  obtain ⟨y433, hZ9⟩ := hZ9
                  obtain ⟨y434, hZ9⟩ := hZ9
                  obtain ⟨hO397, hZ9⟩ := hZ9
                  obtain ⟨hA400, hZ9⟩ := hZ9
                  obtain ⟨hO401, hZ9⟩ := hZ9
                  obtain ⟨hA405, hZ9⟩ := hZ9
                  obtain ⟨hO406, hZ9⟩ := hZ9
                  obtain ⟨hA410, hZ9⟩ := hZ9
                  obtain ⟨hO411, hZ9⟩ := hZ9
                  obtain ⟨hA415, hZ9⟩ := hZ9
                  obtain ⟨hO416, hZ9⟩ := hZ9
                  obtain ⟨hA420, hZ9⟩ := hZ9
                  obtain ⟨hO421, hZ9⟩ := hZ9
                  obtain ⟨hA425, hZ9⟩ := hZ9
                  obtain ⟨hO426, hZ9⟩ := hZ9
                  obtain ⟨hA430, hZ9⟩ := hZ9
                  obtain ⟨hO431, hZ9⟩ := hZ9
                  obtain ⟨b435, hZ9⟩ := hZ9
                  replace hZ9 := hZ9.2
                  obtain ⟨b437, hZ9⟩ := hZ9
                  obtain ⟨b438, hZ9⟩ := hZ9
                  obtain ⟨b439, hZ9⟩ := hZ9
                  obtain ⟨b440, hZ9⟩ := hZ9
                  obtain ⟨b441, hZ9⟩ := hZ9
                  obtain ⟨b442, hZ9⟩ := hZ9
                  obtain ⟨b443, hZ9⟩ := hZ9
                  obtain ⟨b444, hZ9⟩ := hZ9
                  obtain ⟨b445, hZ9⟩ := hZ9
                  obtain ⟨b446, hZ9⟩ := hZ9
                  obtain ⟨b447, hZ9⟩ := hZ9
                  obtain ⟨b448, hZ9⟩ := hZ9
                  obtain ⟨b449, hZ9⟩ := hZ9
                  obtain ⟨b450, hZ9⟩ := hZ9
                  obtain ⟨b451, hZ9⟩ := hZ9
                  obtain ⟨b452, hZ9⟩ := hZ9
                  obtain ⟨b453, hZ9⟩ := hZ9
                  obtain ⟨b454, hZ9⟩ := hZ9
                  obtain ⟨b455, hZ9⟩ := hZ9
                  obtain ⟨b456, hZ9⟩ := hZ9
                  obtain ⟨b457, hZ9⟩ := hZ9
                  obtain ⟨b458, hZ9⟩ := hZ9
                  obtain ⟨b459, hZ9⟩ := hZ9
                  replace hZ9 := hZ9.2.2.2.2
                  obtain ⟨b464, hZ9⟩ := hZ9
                  obtain ⟨b465, hZ9⟩ := hZ9
                  replace hZ9 := hZ9.2.2.2
                  obtain ⟨b469, hZ9⟩ := hZ9
                  obtain ⟨b470, hZ9⟩ := hZ9
                  obtain ⟨b471, hE472⟩ := hZ9
                  replace hO397 : u395[3]? = (some (q 3, .inr (1, [.ref (q 4), .int 11008, .int y398])) : Option (Nat × va_E)) := hO397
                  replace hA400 : u395[4]? = (some (q 4, .inl (g 1, (1376 : Int32).toNatClampNeg, .inr (.inl f399))) : Option (Nat × va_E)) := hA400
                  replace hO401 : u395[36]? = (some (q 36, .inr (7, [.int y402, .int y403, .ref (q 37)])) : Option (Nat × va_E)) := hO401
                  replace hA405 : u395[37]? = (some (q 37, .inl (g 2, 1026, .inl f404)) : Option (Nat × va_E)) := hA405
                  replace hO406 : u395[10]? = (some (q 10, .inr (2, [.ref (q 11), .int y407, .int y408])) : Option (Nat × va_E)) := hO406
                  replace hA410 : u395[11]? = (some (q 11, .inl (g 0, (220 : Int32).toNatClampNeg, .inl f409)) : Option (Nat × va_E)) := hA410
                  replace hO411 : u395[22]? = (some (q 22, .inr (2, [.ref (q 23), .int y412, .int y413])) : Option (Nat × va_E)) := hO411
                  replace hA415 : u395[23]? = (some (q 23, .inl (g 0, (220 : Int32).toNatClampNeg, .inl f414)) : Option (Nat × va_E)) := hA415
                  replace hO416 : u395[24]? = (some (q 24, .inr (2, [.ref (q 25), .int y417, .int y418])) : Option (Nat × va_E)) := hO416
                  replace hA420 : u395[25]? = (some (q 25, .inl (g 0, (220 : Int32).toNatClampNeg, .inl f419)) : Option (Nat × va_E)) := hA420
                  replace hO421 : u395[26]? = (some (q 26, .inr (2, [.ref (q 27), .int y422, .int y423])) : Option (Nat × va_E)) := hO421
                  replace hA425 : u395[27]? = (some (q 27, .inl (g 0, (220 : Int32).toNatClampNeg, .inl f424)) : Option (Nat × va_E)) := hA425
                  replace hO426 : u395[28]? = (some (q 28, .inr (2, [.ref (q 29), .int y427, .int y428])) : Option (Nat × va_E)) := hO426
                  replace hA430 : u395[29]? = (some (q 29, .inl (g 0, (220 : Int32).toNatClampNeg, .inl f429)) : Option (Nat × va_E)) := hA430
                  replace hO431 : u395[34]? = (some (q 34, .inr (6, [.int 52, .int 1075, .int 2047, .long y432, .int y433, .ref (q 9), .int y434])) : Option (Nat × va_E)) := hO431
                  obtain ⟨p474, e475⟩ : ∃ z, z = (F_Wri_floatText (52 : Int32) (1075 : Int32) (2047 : Int32) j389 (0 : Int32) t0_0 t1_0 t4_0 t4_1 t5_0 t2_0 t2_1 t3_0 t8_0 t8_1 t9_0 t10_0 t10_1 t11_0 t12_0 t12_1 t13_0 t14_0 t14_1 t15_0 t16_0 t16_1 t16_2) := ⟨_, rfl⟩
                  have e476 : y398 = p474.1 := congrArg (fun z => z.1) (hE472.trans e475.symm)
                  have e477 : f399 = p474.2.1 := congrArg (fun z => z.2.1) (hE472.trans e475.symm)
                  have e478 : y402 = p474.2.2.1 := congrArg (fun z => z.2.2.1) (hE472.trans e475.symm)
                  have e479 : y403 = p474.2.2.2.1 := congrArg (fun z => z.2.2.2.1) (hE472.trans e475.symm)
                  have e480 : f404 = p474.2.2.2.2.1 := congrArg (fun z => z.2.2.2.2.1) (hE472.trans e475.symm)
                  have e481 : y407 = p474.2.2.2.2.2.1 := congrArg (fun z => z.2.2.2.2.2.1) (hE472.trans e475.symm)
                  have e482 : y408 = p474.2.2.2.2.2.2.1 := congrArg (fun z => z.2.2.2.2.2.2.1) (hE472.trans e475.symm)
                  have e483 : f409 = p474.2.2.2.2.2.2.2.1 := congrArg (fun z => z.2.2.2.2.2.2.2.1) (hE472.trans e475.symm)
                  have e484 : y412 = p474.2.2.2.2.2.2.2.2.1 := congrArg (fun z => z.2.2.2.2.2.2.2.2.1) (hE472.trans e475.symm)
                  have e485 : y413 = p474.2.2.2.2.2.2.2.2.2.1 := congrArg (fun z => z.2.2.2.2.2.2.2.2.2.1) (hE472.trans e475.symm)
                  have e486 : f414 = p474.2.2.2.2.2.2.2.2.2.2.1 := congrArg (fun z => z.2.2.2.2.2.2.2.2.2.2.1) (hE472.trans e475.symm)
                  have e487 : y417 = p474.2.2.2.2.2.2.2.2.2.2.2.1 := congrArg (fun z => z.2.2.2.2.2.2.2.2.2.2.2.1) (hE472.trans e475.symm)
                  have e488 : y418 = p474.2.2.2.2.2.2.2.2.2.2.2.2.1 := congrArg (fun z => z.2.2.2.2.2.2.2.2.2.2.2.2.1) (hE472.trans e475.symm)
                  have e489 : f419 = p474.2.2.2.2.2.2.2.2.2.2.2.2.2.1 := congrArg (fun z => z.2.2.2.2.2.2.2.2.2.2.2.2.2.1) (hE472.trans e475.symm)
                  have e490 : y422 = p474.2.2.2.2.2.2.2.2.2.2.2.2.2.2.1 := congrArg (fun z => z.2.2.2.2.2.2.2.2.2.2.2.2.2.2.1) (hE472.trans e475.symm)
                  have e491 : y423 = p474.2.2.2.2.2.2.2.2.2.2.2.2.2.2.2.1 := congrArg (fun z => z.2.2.2.2.2.2.2.2.2.2.2.2.2.2.2.1) (hE472.trans e475.symm)
                  have e492 : f424 = p474.2.2.2.2.2.2.2.2.2.2.2.2.2.2.2.2.1 := congrArg (fun z => z.2.2.2.2.2.2.2.2.2.2.2.2.2.2.2.2.1) (hE472.trans e475.symm)
                  have e493 : y427 = p474.2.2.2.2.2.2.2.2.2.2.2.2.2.2.2.2.2.1 := congrArg (fun z => z.2.2.2.2.2.2.2.2.2.2.2.2.2.2.2.2.2.1) (hE472.trans e475.symm)
                  have e494 : y428 = p474.2.2.2.2.2.2.2.2.2.2.2.2.2.2.2.2.2.2.1 := congrArg (fun z => z.2.2.2.2.2.2.2.2.2.2.2.2.2.2.2.2.2.2.1) (hE472.trans e475.symm)
                  have e495 : f429 = p474.2.2.2.2.2.2.2.2.2.2.2.2.2.2.2.2.2.2.2.1 := congrArg (fun z => z.2.2.2.2.2.2.2.2.2.2.2.2.2.2.2.2.2.2.2.1) (hE472.trans e475.symm)
                  have e496 : y432 = p474.2.2.2.2.2.2.2.2.2.2.2.2.2.2.2.2.2.2.2.2.1 := congrArg (fun z => z.2.2.2.2.2.2.2.2.2.2.2.2.2.2.2.2.2.2.2.2.1) (hE472.trans e475.symm)
                  have e497 : y433 = p474.2.2.2.2.2.2.2.2.2.2.2.2.2.2.2.2.2.2.2.2.2.1 := congrArg (fun z => z.2.2.2.2.2.2.2.2.2.2.2.2.2.2.2.2.2.2.2.2.2.1) (hE472.trans e475.symm)
                  have e498 : y434 = p474.2.2.2.2.2.2.2.2.2.2.2.2.2.2.2.2.2.2.2.2.2.2 := congrArg (fun z => z.2.2.2.2.2.2.2.2.2.2.2.2.2.2.2.2.2.2.2.2.2.2) (hE472.trans e475.symm)
                  replace b435 : q_F (2 ≤ y398.toInt) := b435
                  replace b437 : q_F (0 ≤ y402.toInt) := b437
                  replace b438 : q_F (y402.toInt ≤ 1026) := b438
                  replace b439 : q_F (0 ≤ y403.toInt + 1000000) := b439
                  replace b440 : q_F (y403.toInt ≤ 1000000) := b440
                  replace b441 : q_F (0 ≤ y407.toInt) := b441
                  replace b442 : q_F (y407.toInt ≤ 220) := b442
                  replace b443 : q_F (0 ≤ y408.toInt) := b443
                  replace b444 : q_F (y408.toInt ≤ 21) := b444
                  replace b445 : q_F (0 ≤ y412.toInt) := b445
                  replace b446 : q_F (y412.toInt ≤ 220) := b446
                  replace b447 : q_F (0 ≤ y413.toInt) := b447
                  replace b448 : q_F (y413.toInt ≤ 2) := b448
                  replace b449 : q_F (0 ≤ y417.toInt) := b449
                  replace b450 : q_F (y417.toInt ≤ 220) := b450
                  replace b451 : q_F (0 ≤ y418.toInt) := b451
                  replace b452 : q_F (y418.toInt ≤ 1) := b452
                  replace b453 : q_F (0 ≤ y422.toInt) := b453
                  replace b454 : q_F (y422.toInt ≤ 220) := b454
                  replace b455 : q_F (0 ≤ y423.toInt) := b455
                  replace b456 : q_F (y423.toInt ≤ 1) := b456
                  replace b457 : q_F (0 ≤ y427.toInt) := b457
                  replace b458 : q_F (y427.toInt ≤ 220) := b458
                  replace b459 : q_F (0 ≤ y428.toInt) := b459
                  replace b464 : q_F (y408.toInt ≤ t2_1.toInt + 20) := b464
                  replace b465 : q_F (y413.toInt ≤ t2_1.toInt + 1) := b465
                  replace b469 : q_F (y408.toInt ≤ y403.toInt + 1000001) := b469
                  replace b470 : q_F (y413.toInt ≤ y403.toInt + 1000001) := b470
                  replace b471 : q_F (y413.toInt ≤ y408.toInt + 1) := b471
                  replace hT17 := (hu473 _ (by decide)).trans hT17
                  replace hO141 := (hu473 _ (by decide)).trans hO141
                  replace hF := q_uc hF hu473 (by simp)
                  have hR499 := (show F_NH_print_c127_4 x2 x3 x4 t0_0 t1_0 t2_0 t2_1 t3_0 t4_0 t4_1 t5_0 t6_0 t7_0 t8_0 t8_1 t9_0 t10_0 t10_1 t11_0 t12_0 t12_1 t13_0 t14_0 t14_1 t15_0 t16_0 t16_1 t16_2 t17_0 t17_1 t17_2 t18_0 t18_1 t19_0 t20_0 t20_1 t21_0 t21_1 t22_0 lx100 p474 = (F_NH_print x2 x3 x4 t0_0 t1_0 t2_0 t2_1 t3_0 t4_0 t4_1 t5_0 t6_0 t7_0 t8_0 t8_1 t9_0 t10_0 t10_1 t11_0 t12_0 t12_1 t13_0 t14_0 t14_1 t15_0 t16_0 t16_1 t16_2 t17_0 t17_1 t17_2 t18_0 t18_1 t19_0 t20_0 t20_1 t21_0 t21_1 t22_0) from Eq.trans (by rw [e475, ← e390, F_NH_print_J98.eq_1, if_pos c138, if_pos c146, if_neg c153, if_neg c391]) hR127)
                  have hS500 := (show True ∧ S_NH_print_c127_4 x2 x3 x4 t0_0 t1_0 t2_0 t2_1 t3_0 t4_0 t4_1 t5_0 t6_0 t7_0 t8_0 t8_1 t9_0 t10_0 t10_1 t11_0 t12_0 t12_1 t13_0 t14_0 t14_1 t15_0 t16_0 t16_1 t16_2 t17_0 t17_1 t17_2 t18_0 t18_1 t19_0 t20_0 t20_1 t21_0 t21_1 t22_0 lx100 p474 from (by rw [e475, ← e390]; have h := hS128; rw [S_NH_print_J98.eq_1] at h; rw [if_pos c138] at h; rw [if_pos c146] at h; rw [if_neg c153] at h; replace h := q_s2 h; replace h := q_s2 h; rw [if_neg c391] at h; replace h := q_s2 h; with_reducible exact h))
                  refine lv_aload_n hx hb d_1_17_130 rfl (lv_at hl 0 rfl) ?_
                  refine q_get (ci := 0) (j := 1) (v := .ref (q 3)) C0 V i_NH rfl rfl hO141 (by decide) w_425 rfl d_1_17_131 ?_
                  refine q_get (ci := 1) (j := 2) (v := .int y398) C0 V i_She rfl rfl hO397 (by decide) w_56 rfl d_1_17_134 ?_
                  exact q_retX (q_reti C0 V (⟨hI, hF, y398, f399, y407, y408, f409, y402, y403, f404, y412, y413, f414, y417, y418, f419, y422, y423, f424, y427, y428, f429, y432, y433, y434, t17_0, t17_1, t17_2, hO397, hA400, hO406, hA410, hO401, hA405, hO411, hA415, hO416, hA420, hO421, hA425, hO426, hA430, hO431, hT17, (show 0 ≤ y398.toInt from (by first | with_reducible exact q_fe b435 | (have t1 : 2 ≤ y398.toInt := b435; omega))), (show 0 ≤ y398.toInt from (by first | with_reducible exact q_fe b435 | (have t1 : 2 ≤ y398.toInt := b435; omega))), (show 0 ≤ y407.toInt from (by first | with_reducible exact q_fe b441 | (have t1 : 0 ≤ y407.toInt := b441; omega))), (show y407.toInt ≤ 220 from (by first | with_reducible exact q_fe b442 | (have t1 : y407.toInt ≤ 220 := b442; omega))), (show 0 ≤ y408.toInt from (by first | with_reducible exact q_fe b443 | (have t1 : 0 ≤ y408.toInt := b443; omega))), (show y408.toInt ≤ 21 from (by first | with_reducible exact q_fe b444 | (have t1 : y408.toInt ≤ 21 := b444; omega))), (show 0 ≤ y402.toInt from (by first | with_reducible exact q_fe b437 | (have t1 : 0 ≤ y402.toInt := b437; omega))), (show y402.toInt ≤ 1026 from (by first | with_reducible exact q_fe b438 | (have t1 : y402.toInt ≤ 1026 := b438; omega))), (show 0 ≤ y403.toInt + 1000000 from (by first | with_reducible exact q_fe b439 | (have t1 : 0 ≤ y403.toInt + 1000000 := b439; omega))), (show y403.toInt ≤ 1000000 from (by first | with_reducible exact q_fe b440 | (have t1 : y403.toInt ≤ 1000000 := b440; omega))), (show 0 ≤ y412.toInt from (by first | with_reducible exact q_fe b445 | (have t1 : 0 ≤ y412.toInt := b445; omega))), (show y412.toInt ≤ 220 from (by first | with_reducible exact q_fe b446 | (have t1 : y412.toInt ≤ 220 := b446; omega))), (show 0 ≤ y413.toInt from (by first | with_reducible exact q_fe b447 | (have t1 : 0 ≤ y413.toInt := b447; omega))), (show y413.toInt ≤ 2 from (by first | with_reducible exact q_fe b448 | (have t1 : y413.toInt ≤ 2 := b448; omega))), (show 0 ≤ y417.toInt from (by first | with_reducible exact q_fe b449 | (have t1 : 0 ≤ y417.toInt := b449; omega))), (show y417.toInt ≤ 220 from (by first | with_reducible exact q_fe b450 | (have t1 : y417.toInt ≤ 220 := b450; omega))), (show 0 ≤ y418.toInt from (by first | with_reducible exact q_fe b451 | (have t1 : 0 ≤ y418.toInt := b451; omega))), (show y418.toInt ≤ 1 from (by first | with_reducible exact q_fe b452 | (have t1 : y418.toInt ≤ 1 := b452; omega))), (show 0 ≤ y422.toInt from (by first | with_reducible exact q_fe b453 | (have t1 : 0 ≤ y422.toInt := b453; omega))), (show y422.toInt ≤ 220 from (by first | with_reducible exact q_fe b454 | (have t1 : y422.toInt ≤ 220 := b454; omega))), (show 0 ≤ y423.toInt from (by first | with_reducible exact q_fe b455 | (have t1 : 0 ≤ y423.toInt := b455; omega))), (show y423.toInt ≤ 1 from (by first | with_reducible exact q_fe b456 | (have t1 : y423.toInt ≤ 1 := b456; omega))), (show 0 ≤ y427.toInt from (by first | with_reducible exact q_fe b457 | (have t1 : 0 ≤ y427.toInt := b457; omega))), (show y427.toInt ≤ 220 from (by first | with_reducible exact q_fe b458 | (have t1 : y427.toInt ≤ 220 := b458; omega))), (show 0 ≤ y428.toInt from (by first | with_reducible exact q_fe b459 | (have t1 : 0 ≤ y428.toInt := b459; omega))), (show x3.toInt ≤ y398.toInt + 9 from (by have t1 : x3.toInt ≤ 9 := ob388; have t2 : 2 ≤ y398.toInt := b435; omega)), (show t21_1.toInt ≤ y398.toInt from (by have t1 : 0 ≤ t21_1.toInt ∧ t21_1.toInt ≤ 1 := btt21_1; have t2 : 2 ≤ y398.toInt := b435; omega)), (show x3.toInt ≤ y407.toInt + 9 from (by have t1 : x3.toInt ≤ 9 := ob388; have t2 : 0 ≤ y407.toInt := b441; omega)), (show y407.toInt ≤ x3.toInt + 220 from (by have t1 : 0 ≤ x3.toInt := ob387; have t2 : y407.toInt ≤ 220 := b442; omega)), (show x3.toInt ≤ y408.toInt + 9 from (by have t1 : x3.toInt ≤ 9 := ob388; have t2 : 0 ≤ y408.toInt := b443; omega)), (show y408.toInt ≤ x3.toInt + 21 from (by have t1 : 0 ≤ x3.toInt := ob387; have t2 : y408.toInt ≤ 21 := b444; omega)), (show y408.toInt ≤ t2_1.toInt + 20 from (by first | with_reducible exact q_fe b464 | (have t1 : y408.toInt ≤ t2_1.toInt + 20 := b464; omega))), (show x3.toInt ≤ y402.toInt + 9 from (by have t1 : x3.toInt ≤ 9 := ob388; have t2 : 0 ≤ y402.toInt := b437; omega)), (show y402.toInt ≤ x3.toInt + 1026 from (by have t1 : 0 ≤ x3.toInt := ob387; have t2 : y402.toInt ≤ 1026 := b438; omega)), (show x3.toInt ≤ y403.toInt + 1000009 from (by have t1 : x3.toInt ≤ 9 := ob388; have t2 : 0 ≤ y403.toInt + 1000000 := b439; omega)), (show y403.toInt ≤ x3.toInt + 1000000 from (by have t1 : 0 ≤ x3.toInt := ob387; have t2 : y403.toInt ≤ 1000000 := b440; omega)), (show x3.toInt ≤ y412.toInt + 9 from (by have t1 : x3.toInt ≤ 9 := ob388; have t2 : 0 ≤ y412.toInt := b445; omega)), (show y412.toInt ≤ x3.toInt + 220 from (by have t1 : 0 ≤ x3.toInt := ob387; have t2 : y412.toInt ≤ 220 := b446; omega)), (show x3.toInt ≤ y413.toInt + 9 from (by have t1 : x3.toInt ≤ 9 := ob388; have t2 : 0 ≤ y413.toInt := b447; omega)), (show y413.toInt ≤ x3.toInt + 2 from (by have t1 : 0 ≤ x3.toInt := ob387; have t2 : y413.toInt ≤ 2 := b448; omega)), (show y413.toInt ≤ t2_1.toInt + 1 from (by first | with_reducible exact q_fe b465 | (have t1 : y413.toInt ≤ t2_1.toInt + 1 := b465; omega))), (show x3.toInt ≤ y417.toInt + 9 from (by have t1 : x3.toInt ≤ 9 := ob388; have t2 : 0 ≤ y417.toInt := b449; omega)), (show y417.toInt ≤ x3.toInt + 220 from (by have t1 : 0 ≤ x3.toInt := ob387; have t2 : y417.toInt ≤ 220 := b450; omega)), (show x3.toInt ≤ y418.toInt + 9 from (by have t1 : x3.toInt ≤ 9 := ob388; have t2 : 0 ≤ y418.toInt := b451; omega)), (show y418.toInt ≤ x3.toInt + 1 from (by have t1 : 0 ≤ x3.toInt := ob387; have t2 : y418.toInt ≤ 1 := b452; omega)), (show x3.toInt ≤ y422.toInt + 9 from (by have t1 : x3.toInt ≤ 9 := ob388; have t2 : 0 ≤ y422.toInt := b453; omega)), (show y422.toInt ≤ x3.toInt + 220 from (by have t1 : 0 ≤ x3.toInt := ob387; have t2 : y422.toInt ≤ 220 := b454; omega)), (show x3.toInt ≤ y423.toInt + 9 from (by have t1 : x3.toInt ≤ 9 := ob388; have t2 : 0 ≤ y423.toInt := b455; omega)), (show y423.toInt ≤ x3.toInt + 1 from (by have t1 : 0 ≤ x3.toInt := ob387; have t2 : y423.toInt ≤ 1 := b456; omega)), (show x3.toInt ≤ y427.toInt + 9 from (by have t1 : x3.toInt ≤ 9 := ob388; have t2 : 0 ≤ y427.toInt := b457; omega)), (show y427.toInt ≤ x3.toInt + 220 from (by have t1 : 0 ≤ x3.toInt := ob387; have t2 : y427.toInt ≤ 220 := b458; omega)), (show x3.toInt ≤ y428.toInt + 9 from (by have t1 : x3.toInt ≤ 9 := ob388; have t2 : 0 ≤ y428.toInt := b459; omega)), (show y398.toInt ≤ y398.toInt from (by omega)), (show y398.toInt ≤ y398.toInt from (by omega)), (show y407.toInt ≤ y398.toInt + 218 from (by have t1 : 2 ≤ y398.toInt := b435; have t2 : y407.toInt ≤ 220 := b442; omega)), (show y408.toInt ≤ y398.toInt + 19 from (by have t1 : 2 ≤ y398.toInt := b435; have t2 : y408.toInt ≤ 21 := b444; omega)), (show y413.toInt ≤ y398.toInt + 1 from (by have t1 : 2 ≤ y398.toInt := b435; have t2 : y413.toInt ≤ 2 := b448; omega)), (show y408.toInt ≤ y403.toInt + 1000001 from (by first | with_reducible exact q_fe b469 | (have t1 : y408.toInt ≤ y403.toInt + 1000001 := b469; omega))), (show y413.toInt ≤ y408.toInt + 1 from (by first | with_reducible exact q_fe b471 | (have t1 : y413.toInt ≤ y408.toInt + 1 := b471; omega))), (show y413.toInt ≤ y403.toInt + 1000001 from (by first | with_reducible exact q_fe b470 | (have t1 : y413.toInt ≤ y403.toInt + 1000001 := b470; omega))), (show ((0 : Int32), y398, y398, f399, y407, y408, f409, y402, y403, f404, y412, y413, f414, y417, y418, f419, y422, y423, f424, y427, y428, f429, y432, y433, y434, t17_0, t17_1, t17_2) = (F_NH_print x2 x3 x4 t0_0 t1_0 t2_0 t2_1 t3_0 t4_0 t4_1 t5_0 t6_0 t7_0 t8_0 t8_1 t9_0 t10_0 t10_1 t11_0 t12_0 t12_1 t13_0 t14_0 t14_1 t15_0 t16_0 t16_1 t16_2 t17_0 t17_1 t17_2 t18_0 t18_1 t19_0 t20_0 t20_1 t21_0 t21_1 t22_0) from Eq.trans (by rw [e498, e497, e496, e495, e494, e493, e492, e491, e490, e489, e488, e487, e486, e485, e484, e483, e482, e481, e480, e479, e478, e477, e476, F_NH_print_c127_4.eq_1]) hR499)⟩) d_1_17_137)
                ·
                  refine lv_iconst (v := 1) hx hb d_1_17_122 (by decide) ?_
                  refine lv_goto (tgt := 127) hx hb d_1_17_123 (by decide) ?_
                  have ob505 : True ∧ S_Wri_floatText (52 : Int32) (1075 : Int32) (2047 : Int32) j389 (1 : Int32) t0_0 t1_0 t4_0 t4_1 t5_0 t2_0 t2_1 t3_0 t8_0 t8_1 t9_0 t10_0 t10_1 t11_0 t12_0 t12_1 t13_0 t14_0 t14_1 t15_0 t16_0 t16_1 t16_2 := (by rw [← e390]; have h := hS128; rw [S_NH_print_J98.eq_1] at h; rw [if_pos c138] at h; rw [if_pos c146] at h; rw [if_neg c153] at h; replace h := q_s2 h; replace h := q_s2 h; rw [if_pos c391] at h; with_reducible exact h.2.1)
                  have hO506 := n_o39 hI
                  refine q_gov V (q_runV (As := [.ref (q 34), .long j389, .int 1]) (rest := []) (d := 7) (mc := 0) (ms := 0) (ci := 9) C0 V rfl LV_NH_332 (X_Wri_floatText l D g q ws 34 52 1075 2047 (n_f34 g q) j389 1 hI t0_0 hT0 t1_0 hT1 t4_0 t4_1 hT4 t5_0 hT5 t2_0 t2_1 hT2 t3_0 hT3 t8_0 t8_1 hT8 t9_0 hT9 t10_0 t10_1 hT10 t11_0 hT11 t12_0 t12_1 hT12 t13_0 hT13 t14_0 t14_1 hT14 t15_0 hT15 t16_0 t16_1 t16_2 hT16 ⟨(by have y0 : (52 : Int32).toInt = 52 := rfl; have y1 : (1075 : Int32).toInt = 1075 := rfl; have y2 : (2047 : Int32).toInt = 2047 := rfl; have y3 : (1 : Int32).toInt = 1 := rfl; omega), (by have y0 : (52 : Int32).toInt = 52 := rfl; have y1 : (1075 : Int32).toInt = 1075 := rfl; have y2 : (2047 : Int32).toInt = 2047 := rfl; have y3 : (1 : Int32).toInt = 1 := rfl; omega)⟩ ob505 _) rfl rfl hO506 rfl hl.1 rfl (Nat.le_of_ble_eq_true rfl) ⟨by decide, by decide⟩ ⟨Nat.le_of_ble_eq_true rfl, Nat.le_of_ble_eq_true rfl⟩ d_1_17_127) (fun u507 H locs hp508 V => ?_)
                  obtain ⟨hI, hZ9⟩ := hp508
                  obtain ⟨hu585, hZ9⟩ := hZ9
                  obtain ⟨y510, hZ9⟩ := hZ9
                  obtain ⟨f511, hZ9⟩ := hZ9
                  obtain ⟨y514, hZ9⟩ := hZ9
                  obtain ⟨y515, hZ9⟩ := hZ9
                  obtain ⟨f516, hZ9⟩ := hZ9
                  obtain ⟨y519, hZ9⟩ := hZ9
                  obtain ⟨y520, hZ9⟩ := hZ9
                  obtain ⟨f521, hZ9⟩ := hZ9
                  obtain ⟨y524, hZ9⟩ := hZ9
                  obtain ⟨y525, hZ9⟩ := hZ9
                  obtain ⟨f526, hZ9⟩ := hZ9
                  obtain ⟨y529, hZ9⟩ := hZ9
                  obtain ⟨y530, hZ9⟩ := hZ9
                  obtain ⟨f531, hZ9⟩ := hZ9
                  obtain ⟨y534, hZ9⟩ := hZ9
                  obtain ⟨y535, hZ9⟩ := hZ9
                  obtain ⟨f536, hZ9⟩ := hZ9
                  obtain ⟨y539, hZ9⟩ := hZ9
                  obtain ⟨y540, hZ9⟩ := hZ9
                  obtain ⟨f541, hZ9⟩ := hZ9
                  obtain ⟨y544, hZ9⟩ := hZ9
                  obtain ⟨y545, hZ9⟩ := hZ9
                  obtain ⟨y546, hZ9⟩ := hZ9
                  obtain ⟨hO509, hZ9⟩ := hZ9
                  obtain ⟨hA512, hZ9⟩ := hZ9
                  obtain ⟨hO513, hZ9⟩ := hZ9
                  obtain ⟨hA517, hZ9⟩ := hZ9
                  obtain ⟨hO518, hZ9⟩ := hZ9
                  obtain ⟨hA522, hZ9⟩ := hZ9
                  obtain ⟨hO523, hZ9⟩ := hZ9
                  obtain ⟨hA527, hZ9⟩ := hZ9
                  obtain ⟨hO528, hZ9⟩ := hZ9
                  obtain ⟨hA532, hZ9⟩ := hZ9
                  obtain ⟨hO533, hZ9⟩ := hZ9
                  obtain ⟨hA537, hZ9⟩ := hZ9
                  obtain ⟨hO538, hZ9⟩ := hZ9
                  obtain ⟨hA542, hZ9⟩ := hZ9
                  obtain ⟨hO543, hZ9⟩ := hZ9
                  obtain ⟨b547, hZ9⟩ := hZ9
                  replace hZ9 := hZ9.2
                  obtain ⟨b549, hZ9⟩ := hZ9
                  obtain ⟨b550, hZ9⟩ := hZ9
                  obtain ⟨b551, hZ9⟩ := hZ9
                  obtain ⟨b552, hZ9⟩ := hZ9
                  obtain ⟨b553, hZ9⟩ := hZ9
                  obtain ⟨b554, hZ9⟩ := hZ9
                  obtain ⟨b555, hZ9⟩ := hZ9
                  obtain ⟨b556, hZ9⟩ := hZ9
                  obtain ⟨b557, hZ9⟩ := hZ9
                  obtain ⟨b558, hZ9⟩ := hZ9
                  obtain ⟨b559, hZ9⟩ := hZ9
                  obtain ⟨b560, hZ9⟩ := hZ9
                  obtain ⟨b561, hZ9⟩ := hZ9
                  obtain ⟨b562, hZ9⟩ := hZ9
                  obtain ⟨b563, hZ9⟩ := hZ9
                  obtain ⟨b564, hZ9⟩ := hZ9
                  obtain ⟨b565, hZ9⟩ := hZ9
                  obtain ⟨b566, hZ9⟩ := hZ9
                  obtain ⟨b567, hZ9⟩ := hZ9
                  obtain ⟨b568, hZ9⟩ := hZ9
                  obtain ⟨b569, hZ9⟩ := hZ9
                  obtain ⟨b570, hZ9⟩ := hZ9
                  obtain ⟨b571, hZ9⟩ := hZ9
                  replace hZ9 := hZ9.2.2.2.2
                  obtain ⟨b576, hZ9⟩ := hZ9
                  obtain ⟨b577, hZ9⟩ := hZ9
                  replace hZ9 := hZ9.2.2.2
                  obtain ⟨b581, hZ9⟩ := hZ9
                  obtain ⟨b582, hZ9⟩ := hZ9
                  obtain ⟨b583, hE584⟩ := hZ9
                  replace hO509 : u507[3]? = (some (q 3, .inr (1, [.ref (q 4), .int 11008, .int y510])) : Option (Nat × va_E)) := hO509
                  replace hA512 : u507[4]? = (some (q 4, .inl (g 1, (1376 : Int32).toNatClampNeg, .inr (.inl f511))) : Option (Nat × va_E)) := hA512
                  replace hO513 : u507[36]? = (some (q 36, .inr (7, [.int y514, .int y515, .ref (q 37)])) : Option (Nat × va_E)) := hO513
                  replace hA517 : u507[37]? = (some (q 37, .inl (g 2, 1026, .inl f516)) : Option (Nat × va_E)) := hA517
                  replace hO518 : u507[10]? = (some (q 10, .inr (2, [.ref (q 11), .int y519, .int y520])) : Option (Nat × va_E)) := hO518
                  replace hA522 : u507[11]? = (some (q 11, .inl (g 0, (220 : Int32).toNatClampNeg, .inl f521)) : Option (Nat × va_E)) := hA522
                  replace hO523 : u507[22]? = (some (q 22, .inr (2, [.ref (q 23), .int y524, .int y525])) : Option (Nat × va_E)) := hO523
                  replace hA527 : u507[23]? = (some (q 23, .inl (g 0, (220 : Int32).toNatClampNeg, .inl f526)) : Option (Nat × va_E)) := hA527
                  replace hO528 : u507[24]? = (some (q 24, .inr (2, [.ref (q 25), .int y529, .int y530])) : Option (Nat × va_E)) := hO528
                  replace hA532 : u507[25]? = (some (q 25, .inl (g 0, (220 : Int32).toNatClampNeg, .inl f531)) : Option (Nat × va_E)) := hA532
                  replace hO533 : u507[26]? = (some (q 26, .inr (2, [.ref (q 27), .int y534, .int y535])) : Option (Nat × va_E)) := hO533
                  replace hA537 : u507[27]? = (some (q 27, .inl (g 0, (220 : Int32).toNatClampNeg, .inl f536)) : Option (Nat × va_E)) := hA537
                  replace hO538 : u507[28]? = (some (q 28, .inr (2, [.ref (q 29), .int y539, .int y540])) : Option (Nat × va_E)) := hO538
                  replace hA542 : u507[29]? = (some (q 29, .inl (g 0, (220 : Int32).toNatClampNeg, .inl f541)) : Option (Nat × va_E)) := hA542
                  replace hO543 : u507[34]? = (some (q 34, .inr (6, [.int 52, .int 1075, .int 2047, .long y544, .int y545, .ref (q 9), .int y546])) : Option (Nat × va_E)) := hO543
                  obtain ⟨p586, e587⟩ : ∃ z, z = (F_Wri_floatText (52 : Int32) (1075 : Int32) (2047 : Int32) j389 (1 : Int32) t0_0 t1_0 t4_0 t4_1 t5_0 t2_0 t2_1 t3_0 t8_0 t8_1 t9_0 t10_0 t10_1 t11_0 t12_0 t12_1 t13_0 t14_0 t14_1 t15_0 t16_0 t16_1 t16_2) := ⟨_, rfl⟩
                  have e588 : y510 = p586.1 := congrArg (fun z => z.1) (hE584.trans e587.symm)
                  have e589 : f511 = p586.2.1 := congrArg (fun z => z.2.1) (hE584.trans e587.symm)
                  have e590 : y514 = p586.2.2.1 := congrArg (fun z => z.2.2.1) (hE584.trans e587.symm)
                  have e591 : y515 = p586.2.2.2.1 := congrArg (fun z => z.2.2.2.1) (hE584.trans e587.symm)
                  have e592 : f516 = p586.2.2.2.2.1 := congrArg (fun z => z.2.2.2.2.1) (hE584.trans e587.symm)
                  have e593 : y519 = p586.2.2.2.2.2.1 := congrArg (fun z => z.2.2.2.2.2.1) (hE584.trans e587.symm)
                  have e594 : y520 = p586.2.2.2.2.2.2.1 := congrArg (fun z => z.2.2.2.2.2.2.1) (hE584.trans e587.symm)
                  have e595 : f521 = p586.2.2.2.2.2.2.2.1 := congrArg (fun z => z.2.2.2.2.2.2.2.1) (hE584.trans e587.symm)
                  have e596 : y524 = p586.2.2.2.2.2.2.2.2.1 := congrArg (fun z => z.2.2.2.2.2.2.2.2.1) (hE584.trans e587.symm)
                  have e597 : y525 = p586.2.2.2.2.2.2.2.2.2.1 := congrArg (fun z => z.2.2.2.2.2.2.2.2.2.1) (hE584.trans e587.symm)
                  have e598 : f526 = p586.2.2.2.2.2.2.2.2.2.2.1 := congrArg (fun z => z.2.2.2.2.2.2.2.2.2.2.1) (hE584.trans e587.symm)
                  have e599 : y529 = p586.2.2.2.2.2.2.2.2.2.2.2.1 := congrArg (fun z => z.2.2.2.2.2.2.2.2.2.2.2.1) (hE584.trans e587.symm)
                  have e600 : y530 = p586.2.2.2.2.2.2.2.2.2.2.2.2.1 := congrArg (fun z => z.2.2.2.2.2.2.2.2.2.2.2.2.1) (hE584.trans e587.symm)
                  have e601 : f531 = p586.2.2.2.2.2.2.2.2.2.2.2.2.2.1 := congrArg (fun z => z.2.2.2.2.2.2.2.2.2.2.2.2.2.1) (hE584.trans e587.symm)
                  have e602 : y534 = p586.2.2.2.2.2.2.2.2.2.2.2.2.2.2.1 := congrArg (fun z => z.2.2.2.2.2.2.2.2.2.2.2.2.2.2.1) (hE584.trans e587.symm)
                  have e603 : y535 = p586.2.2.2.2.2.2.2.2.2.2.2.2.2.2.2.1 := congrArg (fun z => z.2.2.2.2.2.2.2.2.2.2.2.2.2.2.2.1) (hE584.trans e587.symm)
                  have e604 : f536 = p586.2.2.2.2.2.2.2.2.2.2.2.2.2.2.2.2.1 := congrArg (fun z => z.2.2.2.2.2.2.2.2.2.2.2.2.2.2.2.2.1) (hE584.trans e587.symm)
                  have e605 : y539 = p586.2.2.2.2.2.2.2.2.2.2.2.2.2.2.2.2.2.1 := congrArg (fun z => z.2.2.2.2.2.2.2.2.2.2.2.2.2.2.2.2.2.1) (hE584.trans e587.symm)
                  have e606 : y540 = p586.2.2.2.2.2.2.2.2.2.2.2.2.2.2.2.2.2.2.1 := congrArg (fun z => z.2.2.2.2.2.2.2.2.2.2.2.2.2.2.2.2.2.2.1) (hE584.trans e587.symm)
                  have e607 : f541 = p586.2.2.2.2.2.2.2.2.2.2.2.2.2.2.2.2.2.2.2.1 := congrArg (fun z => z.2.2.2.2.2.2.2.2.2.2.2.2.2.2.2.2.2.2.2.1) (hE584.trans e587.symm)
                  have e608 : y544 = p586.2.2.2.2.2.2.2.2.2.2.2.2.2.2.2.2.2.2.2.2.1 := congrArg (fun z => z.2.2.2.2.2.2.2.2.2.2.2.2.2.2.2.2.2.2.2.2.1) (hE584.trans e587.symm)
                  have e609 : y545 = p586.2.2.2.2.2.2.2.2.2.2.2.2.2.2.2.2.2.2.2.2.2.1 := congrArg (fun z => z.2.2.2.2.2.2.2.2.2.2.2.2.2.2.2.2.2.2.2.2.2.1) (hE584.trans e587.symm)
                  have e610 : y546 = p586.2.2.2.2.2.2.2.2.2.2.2.2.2.2.2.2.2.2.2.2.2.2 := congrArg (fun z => z.2.2.2.2.2.2.2.2.2.2.2.2.2.2.2.2.2.2.2.2.2.2) (hE584.trans e587.symm)
                  replace b547 : q_F (2 ≤ y510.toInt) := b547
                  replace b549 : q_F (0 ≤ y514.toInt) := b549
                  replace b550 : q_F (y514.toInt ≤ 1026) := b550
                  replace b551 : q_F (0 ≤ y515.toInt + 1000000) := b551
                  replace b552 : q_F (y515.toInt ≤ 1000000) := b552
                  replace b553 : q_F (0 ≤ y519.toInt) := b553
                  replace b554 : q_F (y519.toInt ≤ 220) := b554
                  replace b555 : q_F (0 ≤ y520.toInt) := b555
                  replace b556 : q_F (y520.toInt ≤ 21) := b556
                  replace b557 : q_F (0 ≤ y524.toInt) := b557
                  replace b558 : q_F (y524.toInt ≤ 220) := b558
                  replace b559 : q_F (0 ≤ y525.toInt) := b559
                  replace b560 : q_F (y525.toInt ≤ 2) := b560
                  replace b561 : q_F (0 ≤ y529.toInt) := b561
                  replace b562 : q_F (y529.toInt ≤ 220) := b562
                  replace b563 : q_F (0 ≤ y530.toInt) := b563
                  replace b564 : q_F (y530.toInt ≤ 1) := b564
                  replace b565 : q_F (0 ≤ y534.toInt) := b565
                  replace b566 : q_F (y534.toInt ≤ 220) := b566
                  replace b567 : q_F (0 ≤ y535.toInt) := b567
                  replace b568 : q_F (y535.toInt ≤ 1) := b568
                  replace b569 : q_F (0 ≤ y539.toInt) := b569
                  replace b570 : q_F (y539.toInt ≤ 220) := b570
                  replace b571 : q_F (0 ≤ y540.toInt) := b571
                  replace b576 : q_F (y520.toInt ≤ t2_1.toInt + 20) := b576
                  replace b577 : q_F (y525.toInt ≤ t2_1.toInt + 1) := b577
                  replace b581 : q_F (y520.toInt ≤ y515.toInt + 1000001) := b581
                  replace b582 : q_F (y525.toInt ≤ y515.toInt + 1000001) := b582
                  replace b583 : q_F (y525.toInt ≤ y520.toInt + 1) := b583
                  replace hT17 := (hu585 _ (by decide)).trans hT17
                  replace hO141 := (hu585 _ (by decide)).trans hO141
                  replace hF := q_uc hF hu585 (by simp)
                  have hR611 := (show F_NH_print_c127_5 x2 x3 x4 t0_0 t1_0 t2_0 t2_1 t3_0 t4_0 t4_1 t5_0 t6_0 t7_0 t8_0 t8_1 t9_0 t10_0 t10_1 t11_0 t12_0 t12_1 t13_0 t14_0 t14_1 t15_0 t16_0 t16_1 t16_2 t17_0 t17_1 t17_2 t18_0 t18_1 t19_0 t20_0 t20_1 t21_0 t21_1 t22_0 lx100 p586 = (F_NH_print x2 x3 x4 t0_0 t1_0 t2_0 t2_1 t3_0 t4_0 t4_1 t5_0 t6_0 t7_0 t8_0 t8_1 t9_0 t10_0 t10_1 t11_0 t12_0 t12_1 t13_0 t14_0 t14_1 t15_0 t16_0 t16_1 t16_2 t17_0 t17_1 t17_2 t18_0 t18_1 t19_0 t20_0 t20_1 t21_0 t21_1 t22_0) from Eq.trans (by rw [e587, ← e390, F_NH_print_J98.eq_1, if_pos c138, if_pos c146, if_neg c153, if_pos c391]) hR127)
                  have hS612 := (show True ∧ S_NH_print_c127_5 x2 x3 x4 t0_0 t1_0 t2_0 t2_1 t3_0 t4_0 t4_1 t5_0 t6_0 t7_0 t8_0 t8_1 t9_0 t10_0 t10_1 t11_0 t12_0 t12_1 t13_0 t14_0 t14_1 t15_0 t16_0 t16_1 t16_2 t17_0 t17_1 t17_2 t18_0 t18_1 t19_0 t20_0 t20_1 t21_0 t21_1 t22_0 lx100 p586 from (by rw [e587, ← e390]; have h := hS128; rw [S_NH_print_J98.eq_1] at h; rw [if_pos c138] at h; rw [if_pos c146] at h; rw [if_neg c153] at h; replace h := q_s2 h; replace h := q_s2 h; rw [if_pos c391] at h; replace h := q_s2 h; with_reducible exact h))
                  refine lv_aload_n hx hb d_1_17_130 rfl (lv_at hl 0 rfl) ?_
                  refine q_get (ci := 0) (j := 1) (v := .ref (q 3)) C0 V i_NH rfl rfl hO141 (by decide) w_425 rfl d_1_17_131 ?_
                  refine q_get (ci := 1) (j := 2) (v := .int y510) C0 V i_She rfl rfl hO509 (by decide) w_56 rfl d_1_17_134 ?_
                  exact q_retX (q_reti C0 V (⟨hI, hF, y510, f511, y519, y520, f521, y514, y515, f516, y524, y525, f526, y529, y530, f531, y534, y535, f536, y539, y540, f541, y544, y545, y546, t17_0, t17_1, t17_2, hO509, hA512, hO518, hA522, hO513, hA517, hO523, hA527, hO528, hA532, hO533, hA537, hO538, hA542, hO543, hT17, (show 0 ≤ y510.toInt from (by first | with_reducible exact q_fe b547 | (have t1 : 2 ≤ y510.toInt := b547; omega))), (show 0 ≤ y510.toInt from (by first | with_reducible exact q_fe b547 | (have t1 : 2 ≤ y510.toInt := b547; omega))), (show 0 ≤ y519.toInt from (by first | with_reducible exact q_fe b553 | (have t1 : 0 ≤ y519.toInt := b553; omega))), (show y519.toInt ≤ 220 from (by first | with_reducible exact q_fe b554 | (have t1 : y519.toInt ≤ 220 := b554; omega))), (show 0 ≤ y520.toInt from (by first | with_reducible exact q_fe b555 | (have t1 : 0 ≤ y520.toInt := b555; omega))), (show y520.toInt ≤ 21 from (by first | with_reducible exact q_fe b556 | (have t1 : y520.toInt ≤ 21 := b556; omega))), (show 0 ≤ y514.toInt from (by first | with_reducible exact q_fe b549 | (have t1 : 0 ≤ y514.toInt := b549; omega))), (show y514.toInt ≤ 1026 from (by first | with_reducible exact q_fe b550 | (have t1 : y514.toInt ≤ 1026 := b550; omega))), (show 0 ≤ y515.toInt + 1000000 from (by first | with_reducible exact q_fe b551 | (have t1 : 0 ≤ y515.toInt + 1000000 := b551; omega))), (show y515.toInt ≤ 1000000 from (by first | with_reducible exact q_fe b552 | (have t1 : y515.toInt ≤ 1000000 := b552; omega))), (show 0 ≤ y524.toInt from (by first | with_reducible exact q_fe b557 | (have t1 : 0 ≤ y524.toInt := b557; omega))), (show y524.toInt ≤ 220 from (by first | with_reducible exact q_fe b558 | (have t1 : y524.toInt ≤ 220 := b558; omega))), (show 0 ≤ y525.toInt from (by first | with_reducible exact q_fe b559 | (have t1 : 0 ≤ y525.toInt := b559; omega))), (show y525.toInt ≤ 2 from (by first | with_reducible exact q_fe b560 | (have t1 : y525.toInt ≤ 2 := b560; omega))), (show 0 ≤ y529.toInt from (by first | with_reducible exact q_fe b561 | (have t1 : 0 ≤ y529.toInt := b561; omega))), (show y529.toInt ≤ 220 from (by first | with_reducible exact q_fe b562 | (have t1 : y529.toInt ≤ 220 := b562; omega))), (show 0 ≤ y530.toInt from (by first | with_reducible exact q_fe b563 | (have t1 : 0 ≤ y530.toInt := b563; omega))), (show y530.toInt ≤ 1 from (by first | with_reducible exact q_fe b564 | (have t1 : y530.toInt ≤ 1 := b564; omega))), (show 0 ≤ y534.toInt from (by first | with_reducible exact q_fe b565 | (have t1 : 0 ≤ y534.toInt := b565; omega))), (show y534.toInt ≤ 220 from (by first | with_reducible exact q_fe b566 | (have t1 : y534.toInt ≤ 220 := b566; omega))), (show 0 ≤ y535.toInt from (by first | with_reducible exact q_fe b567 | (have t1 : 0 ≤ y535.toInt := b567; omega))), (show y535.toInt ≤ 1 from (by first | with_reducible exact q_fe b568 | (have t1 : y535.toInt ≤ 1 := b568; omega))), (show 0 ≤ y539.toInt from (by first | with_reducible exact q_fe b569 | (have t1 : 0 ≤ y539.toInt := b569; omega))), (show y539.toInt ≤ 220 from (by first | with_reducible exact q_fe b570 | (have t1 : y539.toInt ≤ 220 := b570; omega))), (show 0 ≤ y540.toInt from (by first | with_reducible exact q_fe b571 | (have t1 : 0 ≤ y540.toInt := b571; omega))), (show x3.toInt ≤ y510.toInt + 9 from (by have t1 : x3.toInt ≤ 9 := ob388; have t2 : 2 ≤ y510.toInt := b547; omega)), (show t21_1.toInt ≤ y510.toInt from (by have t1 : 0 ≤ t21_1.toInt ∧ t21_1.toInt ≤ 1 := btt21_1; have t2 : 2 ≤ y510.toInt := b547; omega)), (show x3.toInt ≤ y519.toInt + 9 from (by have t1 : x3.toInt ≤ 9 := ob388; have t2 : 0 ≤ y519.toInt := b553; omega)), (show y519.toInt ≤ x3.toInt + 220 from (by have t1 : 0 ≤ x3.toInt := ob387; have t2 : y519.toInt ≤ 220 := b554; omega)), (show x3.toInt ≤ y520.toInt + 9 from (by have t1 : x3.toInt ≤ 9 := ob388; have t2 : 0 ≤ y520.toInt := b555; omega)), (show y520.toInt ≤ x3.toInt + 21 from (by have t1 : 0 ≤ x3.toInt := ob387; have t2 : y520.toInt ≤ 21 := b556; omega)), (show y520.toInt ≤ t2_1.toInt + 20 from (by first | with_reducible exact q_fe b576 | (have t1 : y520.toInt ≤ t2_1.toInt + 20 := b576; omega))), (show x3.toInt ≤ y514.toInt + 9 from (by have t1 : x3.toInt ≤ 9 := ob388; have t2 : 0 ≤ y514.toInt := b549; omega)), (show y514.toInt ≤ x3.toInt + 1026 from (by have t1 : 0 ≤ x3.toInt := ob387; have t2 : y514.toInt ≤ 1026 := b550; omega)), (show x3.toInt ≤ y515.toInt + 1000009 from (by have t1 : x3.toInt ≤ 9 := ob388; have t2 : 0 ≤ y515.toInt + 1000000 := b551; omega)), (show y515.toInt ≤ x3.toInt + 1000000 from (by have t1 : 0 ≤ x3.toInt := ob387; have t2 : y515.toInt ≤ 1000000 := b552; omega)), (show x3.toInt ≤ y524.toInt + 9 from (by have t1 : x3.toInt ≤ 9 := ob388; have t2 : 0 ≤ y524.toInt := b557; omega)), (show y524.toInt ≤ x3.toInt + 220 from (by have t1 : 0 ≤ x3.toInt := ob387; have t2 : y524.toInt ≤ 220 := b558; omega)), (show x3.toInt ≤ y525.toInt + 9 from (by have t1 : x3.toInt ≤ 9 := ob388; have t2 : 0 ≤ y525.toInt := b559; omega)), (show y525.toInt ≤ x3.toInt + 2 from (by have t1 : 0 ≤ x3.toInt := ob387; have t2 : y525.toInt ≤ 2 := b560; omega)), (show y525.toInt ≤ t2_1.toInt + 1 from (by first | with_reducible exact q_fe b577 | (have t1 : y525.toInt ≤ t2_1.toInt + 1 := b577; omega))), (show x3.toInt ≤ y529.toInt + 9 from (by have t1 : x3.toInt ≤ 9 := ob388; have t2 : 0 ≤ y529.toInt := b561; omega)), (show y529.toInt ≤ x3.toInt + 220 from (by have t1 : 0 ≤ x3.toInt := ob387; have t2 : y529.toInt ≤ 220 := b562; omega)), (show x3.toInt ≤ y530.toInt + 9 from (by have t1 : x3.toInt ≤ 9 := ob388; have t2 : 0 ≤ y530.toInt := b563; omega)), (show y530.toInt ≤ x3.toInt + 1 from (by have t1 : 0 ≤ x3.toInt := ob387; have t2 : y530.toInt ≤ 1 := b564; omega)), (show x3.toInt ≤ y534.toInt + 9 from (by have t1 : x3.toInt ≤ 9 := ob388; have t2 : 0 ≤ y534.toInt := b565; omega)), (show y534.toInt ≤ x3.toInt + 220 from (by have t1 : 0 ≤ x3.toInt := ob387; have t2 : y534.toInt ≤ 220 := b566; omega)), (show x3.toInt ≤ y535.toInt + 9 from (by have t1 : x3.toInt ≤ 9 := ob388; have t2 : 0 ≤ y535.toInt := b567; omega)), (show y535.toInt ≤ x3.toInt + 1 from (by have t1 : 0 ≤ x3.toInt := ob387; have t2 : y535.toInt ≤ 1 := b568; omega)), (show x3.toInt ≤ y539.toInt + 9 from (by have t1 : x3.toInt ≤ 9 := ob388; have t2 : 0 ≤ y539.toInt := b569; omega)), (show y539.toInt ≤ x3.toInt + 220 from (by have t1 : 0 ≤ x3.toInt := ob387; have t2 : y539.toInt ≤ 220 := b570; omega)), (show x3.toInt ≤ y540.toInt + 9 from (by have t1 : x3.toInt ≤ 9 := ob388; have t2 : 0 ≤ y540.toInt := b571; omega)), (show y510.toInt ≤ y510.toInt from (by omega)), (show y510.toInt ≤ y510.toInt from (by omega)), (show y519.toInt ≤ y510.toInt + 218 from (by have t1 : 2 ≤ y510.toInt := b547; have t2 : y519.toInt ≤ 220 := b554; omega)), (show y520.toInt ≤ y510.toInt + 19 from (by have t1 : 2 ≤ y510.toInt := b547; have t2 : y520.toInt ≤ 21 := b556; omega)), (show y525.toInt ≤ y510.toInt + 1 from (by have t1 : 2 ≤ y510.toInt := b547; have t2 : y525.toInt ≤ 2 := b560; omega)), (show y520.toInt ≤ y515.toInt + 1000001 from (by first | with_reducible exact q_fe b581 | (have t1 : y520.toInt ≤ y515.toInt + 1000001 := b581; omega))), (show y525.toInt ≤ y520.toInt + 1 from (by first | with_reducible exact q_fe b583 | (have t1 : y525.toInt ≤ y520.toInt + 1 := b583; omega))), (show y525.toInt ≤ y515.toInt + 1000001 from (by first | with_reducible exact q_fe b582 | (have t1 : y525.toInt ≤ y515.toInt + 1000001 := b582; omega))), (show ((0 : Int32), y510, y510, f511, y519, y520, f521, y514, y515, f516, y524, y525, f526, y529, y530, f531, y534, y535, f536, y539, y540, f541, y544, y545, y546, t17_0, t17_1, t17_2) = (F_NH_print x2 x3 x4 t0_0 t1_0 t2_0 t2_1 t3_0 t4_0 t4_1 t5_0 t6_0 t7_0 t8_0 t8_1 t9_0 t10_0 t10_1 t11_0 t12_0 t12_1 t13_0 t14_0 t14_1 t15_0 t16_0 t16_1 t16_2 t17_0 t17_1 t17_2 t18_0 t18_1 t19_0 t20_0 t20_1 t21_0 t21_1 t22_0) from Eq.trans (by rw [e610, e609, e608, e607, e606, e605, e604, e603, e602, e601, e600, e599, e598, e597, e596, e595, e594, e593, e592, e591, e590, e589, e588, F_NH_print_c127_5.eq_1]) hR611)⟩) d_1_17_137)
            ·
              have hr616 : a144 = q 35 := hr145.trans (congrArg q (by unfold F_NH_floatsOf; rw [if_neg c146]))
              subst hr616
              refine lv_aload_n hx hb d_1_17_110 rfl (lv_at hl 0 rfl) ?_
              refine lv_iload_n hx hb d_1_17_111 rfl (lv_at hl 1 rfl) ?_
              refine q_gor (post := fun r u => ws = u ∧ r = q (F_NH_floatRow x2)) V (q_runV (As := [.int x2]) (rest := [.ref (q 35), .ref (q 39)]) (d := 1) (mc := 0) (ms := 0) (ci := 0) C0 V rfl LV_NH_157 (X_NH_floatRow l D g q ws  x2 hI   _) rfl rfl hO141 rfl hl.1 rfl (Nat.le_of_ble_eq_true rfl) ⟨by decide, by decide⟩ ⟨Nat.le_of_ble_eq_true rfl, Nat.le_of_ble_eq_true rfl⟩ d_1_17_112) (fun a620 u618 H locs hp619 V => ?_)
              obtain ⟨rfl, hr621⟩ := hp619
              by_cases c622 : x2 = (2 : Int32)
              ·
                have hr623 : a620 = q 7 := hr621.trans (congrArg q (by unfold F_NH_floatRow; rw [if_pos c622]))
                subst hr623
                refine lv_iload_n hx hb d_1_17_115 rfl (lv_at hl 2 rfl) ?_
                have ob625 : q_F (0 ≤ x3.toInt) := (by have h := hS128; rw [S_NH_print_J98.eq_1] at h; rw [if_pos c138] at h; rw [if_neg c146] at h; rw [if_pos c622] at h; exact h.2.1)
                have ob626 : q_F (x3.toInt ≤ 9) := (by have h := hS128; rw [S_NH_print_J98.eq_1] at h; rw [if_pos c138] at h; rw [if_neg c146] at h; rw [if_pos c622] at h; replace h := q_s2 h; exact h.2.1)
                refine q_lald C0 V hT6 (q_ix (x := x3.toInt) rfl (by first | with_reducible exact q_fe ob625 | (have t1 : 0 ≤ x3.toInt := ob625; omega)) (by have t1 : 0 ≤ x3.toInt := ob625; have t2 : x3.toInt ≤ 9 := ob626; omega)) d_1_17_116 ?_
                obtain ⟨j627, e628⟩ := q_nm (t6_0 x3.toNatClampNeg : Int64)
                refine q_tl (v := j627) e628 ?_
                refine lv_iload_n hx hb d_1_17_117 rfl (lv_at hl 3 rfl) ?_
                refine lv_iconst (v := 1) hx hb d_1_17_118 (by decide) ?_
                refine lv_icmp_ne (tgt := 126) hx hb d_1_17_119 (by decide) (fun c629 => ?_) (fun c629 => ?_)
                ·
                  refine lv_iconst (v := 0) hx hb d_1_17_126 (by decide) ?_
                  have ob631 : True ∧ S_Wri_floatText (23 : Int32) (150 : Int32) (255 : Int32) j627 (0 : Int32) t0_0 t1_0 t4_0 t4_1 t5_0 t2_0 t2_1 t3_0 t8_0 t8_1 t9_0 t10_0 t10_1 t11_0 t12_0 t12_1 t13_0 t14_0 t14_1 t15_0 t17_0 t17_1 t17_2 := (by rw [← e628]; have h := hS128; rw [S_NH_print_J98.eq_1] at h; rw [if_pos c138] at h; rw [if_neg c146] at h; rw [if_pos c622] at h; replace h := q_s2 h; replace h := q_s2 h; rw [if_neg c629] at h; with_reducible exact h.2.1)
                  have hO632 := n_o39 hI
                  refine q_gov V (q_runV (As := [.ref (q 35), .long j627, .int 0]) (rest := []) (d := 7) (mc := 0) (ms := 0) (ci := 9) C0 V rfl LV_NH_332 (X_Wri_floatText l D g q ws 35 23 150 255 (n_f35 g q) j627 0 hI t0_0 hT0 t1_0 hT1 t4_0 t4_1 hT4 t5_0 hT5 t2_0 t2_1 hT2 t3_0 hT3 t8_0 t8_1 hT8 t9_0 hT9 t10_0 t10_1 hT10 t11_0 hT11 t12_0 t12_1 hT12 t13_0 hT13 t14_0 t14_1 hT14 t15_0 hT15 t17_0 t17_1 t17_2 hT17 ⟨(by have y0 : (23 : Int32).toInt = 23 := rfl; have y1 : (150 : Int32).toInt = 150 := rfl; have y2 : (255 : Int32).toInt = 255 := rfl; have y3 : (0 : Int32).toInt = 0 := rfl; omega), (by have y0 : (23 : Int32).toInt = 23 := rfl; have y1 : (150 : Int32).toInt = 150 := rfl; have y2 : (255 : Int32).toInt = 255 := rfl; have y3 : (0 : Int32).toInt = 0 := rfl; omega)⟩ ob631 _) rfl rfl hO632 rfl hl.1 rfl (Nat.le_of_ble_eq_true rfl) ⟨by decide, by decide⟩ ⟨Nat.le_of_ble_eq_true rfl, Nat.le_of_ble_eq_true rfl⟩ d_1_17_127) (fun u633 H locs hp634 V => ?_)
                  obtain ⟨hI, hZ9⟩ := hp634
                  obtain ⟨hu711, hZ9⟩ := hZ9
                  obtain ⟨y636, hZ9⟩ := hZ9
                  obtain ⟨f637, hZ9⟩ := hZ9
                  obtain ⟨y640, hZ9⟩ := hZ9
                  obtain ⟨y641, hZ9⟩ := hZ9
                  obtain ⟨f642, hZ9⟩ := hZ9
                  obtain ⟨y645, hZ9⟩ := hZ9
                  obtain ⟨y646, hZ9⟩ := hZ9
                  obtain ⟨f647, hZ9⟩ := hZ9
                  obtain ⟨y650, hZ9⟩ := hZ9
                  obtain ⟨y651, hZ9⟩ := hZ9
                  obtain ⟨f652, hZ9⟩ := hZ9
                  obtain ⟨y655, hZ9⟩ := hZ9
                  obtain ⟨y656, hZ9⟩ := hZ9
                  obtain ⟨f657, hZ9⟩ := hZ9
                  obtain ⟨y660, hZ9⟩ := hZ9
                  obtain ⟨y661, hZ9⟩ := hZ9
                  obtain ⟨f662, hZ9⟩ := hZ9
                  obtain ⟨y665, hZ9⟩ := hZ9
                  obtain ⟨y666, hZ9⟩ := hZ9
                  obtain ⟨f667, hZ9⟩ := hZ9
                  obtain ⟨y670, hZ9⟩ := hZ9
                  obtain ⟨y671, hZ9⟩ := hZ9
                  obtain ⟨y672, hZ9⟩ := hZ9
                  obtain ⟨hO635, hZ9⟩ := hZ9
                  obtain ⟨hA638, hZ9⟩ := hZ9
                  obtain ⟨hO639, hZ9⟩ := hZ9
                  obtain ⟨hA643, hZ9⟩ := hZ9
                  obtain ⟨hO644, hZ9⟩ := hZ9
                  obtain ⟨hA648, hZ9⟩ := hZ9
                  obtain ⟨hO649, hZ9⟩ := hZ9
                  obtain ⟨hA653, hZ9⟩ := hZ9
                  obtain ⟨hO654, hZ9⟩ := hZ9
                  obtain ⟨hA658, hZ9⟩ := hZ9
                  obtain ⟨hO659, hZ9⟩ := hZ9
                  obtain ⟨hA663, hZ9⟩ := hZ9
                  obtain ⟨hO664, hZ9⟩ := hZ9
                  obtain ⟨hA668, hZ9⟩ := hZ9
                  obtain ⟨hO669, hZ9⟩ := hZ9
                  obtain ⟨b673, hZ9⟩ := hZ9
                  replace hZ9 := hZ9.2
                  obtain ⟨b675, hZ9⟩ := hZ9
                  obtain ⟨b676, hZ9⟩ := hZ9
                  obtain ⟨b677, hZ9⟩ := hZ9
                  obtain ⟨b678, hZ9⟩ := hZ9
                  obtain ⟨b679, hZ9⟩ := hZ9
                  obtain ⟨b680, hZ9⟩ := hZ9
                  obtain ⟨b681, hZ9⟩ := hZ9
                  obtain ⟨b682, hZ9⟩ := hZ9
                  obtain ⟨b683, hZ9⟩ := hZ9
                  obtain ⟨b684, hZ9⟩ := hZ9
                  obtain ⟨b685, hZ9⟩ := hZ9
                  obtain ⟨b686, hZ9⟩ := hZ9
                  obtain ⟨b687, hZ9⟩ := hZ9
                  obtain ⟨b688, hZ9⟩ := hZ9
                  obtain ⟨b689, hZ9⟩ := hZ9
                  obtain ⟨b690, hZ9⟩ := hZ9
                  obtain ⟨b691, hZ9⟩ := hZ9
                  obtain ⟨b692, hZ9⟩ := hZ9
                  obtain ⟨b693, hZ9⟩ := hZ9
                  obtain ⟨b694, hZ9⟩ := hZ9
                  obtain ⟨b695, hZ9⟩ := hZ9
                  obtain ⟨b696, hZ9⟩ := hZ9
                  obtain ⟨b697, hZ9⟩ := hZ9
                  replace hZ9 := hZ9.2.2.2.2
                  obtain ⟨b702, hZ9⟩ := hZ9
                  obtain ⟨b703, hZ9⟩ := hZ9
                  replace hZ9 := hZ9.2.2.2
                  obtain ⟨b707, hZ9⟩ := hZ9
                  obtain ⟨b708, hZ9⟩ := hZ9
                  obtain ⟨b709, hE710⟩ := hZ9
                  replace hO635 : u633[3]? = (some (q 3, .inr (1, [.ref (q 4), .int 11008, .int y636])) : Option (Nat × va_E)) := hO635
                  replace hA638 : u633[4]? = (some (q 4, .inl (g 1, (1376 : Int32).toNatClampNeg, .inr (.inl f637))) : Option (Nat × va_E)) := hA638
                  replace hO639 : u633[36]? = (some (q 36, .inr (7, [.int y640, .int y641, .ref (q 37)])) : Option (Nat × va_E)) := hO639
                  replace hA643 : u633[37]? = (some (q 37, .inl (g 2, 1026, .inl f642)) : Option (Nat × va_E)) := hA643
                  replace hO644 : u633[10]? = (some (q 10, .inr (2, [.ref (q 11), .int y645, .int y646])) : Option (Nat × va_E)) := hO644
                  replace hA648 : u633[11]? = (some (q 11, .inl (g 0, (220 : Int32).toNatClampNeg, .inl f647)) : Option (Nat × va_E)) := hA648
                  replace hO649 : u633[22]? = (some (q 22, .inr (2, [.ref (q 23), .int y650, .int y651])) : Option (Nat × va_E)) := hO649
                  replace hA653 : u633[23]? = (some (q 23, .inl (g 0, (220 : Int32).toNatClampNeg, .inl f652)) : Option (Nat × va_E)) := hA653
                  replace hO654 : u633[24]? = (some (q 24, .inr (2, [.ref (q 25), .int y655, .int y656])) : Option (Nat × va_E)) := hO654
                  replace hA658 : u633[25]? = (some (q 25, .inl (g 0, (220 : Int32).toNatClampNeg, .inl f657)) : Option (Nat × va_E)) := hA658
                  replace hO659 : u633[26]? = (some (q 26, .inr (2, [.ref (q 27), .int y660, .int y661])) : Option (Nat × va_E)) := hO659
                  replace hA663 : u633[27]? = (some (q 27, .inl (g 0, (220 : Int32).toNatClampNeg, .inl f662)) : Option (Nat × va_E)) := hA663
                  replace hO664 : u633[28]? = (some (q 28, .inr (2, [.ref (q 29), .int y665, .int y666])) : Option (Nat × va_E)) := hO664
                  replace hA668 : u633[29]? = (some (q 29, .inl (g 0, (220 : Int32).toNatClampNeg, .inl f667)) : Option (Nat × va_E)) := hA668
                  replace hO669 : u633[35]? = (some (q 35, .inr (6, [.int 23, .int 150, .int 255, .long y670, .int y671, .ref (q 9), .int y672])) : Option (Nat × va_E)) := hO669
                  obtain ⟨p712, e713⟩ : ∃ z, z = (F_Wri_floatText (23 : Int32) (150 : Int32) (255 : Int32) j627 (0 : Int32) t0_0 t1_0 t4_0 t4_1 t5_0 t2_0 t2_1 t3_0 t8_0 t8_1 t9_0 t10_0 t10_1 t11_0 t12_0 t12_1 t13_0 t14_0 t14_1 t15_0 t17_0 t17_1 t17_2) := ⟨_, rfl⟩
                  have e714 : y636 = p712.1 := congrArg (fun z => z.1) (hE710.trans e713.symm)
                  have e715 : f637 = p712.2.1 := congrArg (fun z => z.2.1) (hE710.trans e713.symm)
                  have e716 : y640 = p712.2.2.1 := congrArg (fun z => z.2.2.1) (hE710.trans e713.symm)
                  have e717 : y641 = p712.2.2.2.1 := congrArg (fun z => z.2.2.2.1) (hE710.trans e713.symm)
                  have e718 : f642 = p712.2.2.2.2.1 := congrArg (fun z => z.2.2.2.2.1) (hE710.trans e713.symm)
                  have e719 : y645 = p712.2.2.2.2.2.1 := congrArg (fun z => z.2.2.2.2.2.1) (hE710.trans e713.symm)
                  have e720 : y646 = p712.2.2.2.2.2.2.1 := congrArg (fun z => z.2.2.2.2.2.2.1) (hE710.trans e713.symm)
                  have e721 : f647 = p712.2.2.2.2.2.2.2.1 := congrArg (fun z => z.2.2.2.2.2.2.2.1) (hE710.trans e713.symm)
                  have e722 : y650 = p712.2.2.2.2.2.2.2.2.1 := congrArg (fun z => z.2.2.2.2.2.2.2.2.1) (hE710.trans e713.symm)
                  have e723 : y651 = p712.2.2.2.2.2.2.2.2.2.1 := congrArg (fun z => z.2.2.2.2.2.2.2.2.2.1) (hE710.trans e713.symm)
                  have e724 : f652 = p712.2.2.2.2.2.2.2.2.2.2.1 := congrArg (fun z => z.2.2.2.2.2.2.2.2.2.2.1) (hE710.trans e713.symm)
                  have e725 : y655 = p712.2.2.2.2.2.2.2.2.2.2.2.1 := congrArg (fun z => z.2.2.2.2.2.2.2.2.2.2.2.1) (hE710.trans e713.symm)
                  have e726 : y656 = p712.2.2.2.2.2.2.2.2.2.2.2.2.1 := congrArg (fun z => z.2.2.2.2.2.2.2.2.2.2.2.2.1) (hE710.trans e713.symm)
                  have e727 : f657 = p712.2.2.2.2.2.2.2.2.2.2.2.2.2.1 := congrArg (fun z => z.2.2.2.2.2.2.2.2.2.2.2.2.2.1) (hE710.trans e713.symm)
                  have e728 : y660 = p712.2.2.2.2.2.2.2.2.2.2.2.2.2.2.1 := congrArg (fun z => z.2.2.2.2.2.2.2.2.2.2.2.2.2.2.1) (hE710.trans e713.symm)
                  have e729 : y661 = p712.2.2.2.2.2.2.2.2.2.2.2.2.2.2.2.1 := congrArg (fun z => z.2.2.2.2.2.2.2.2.2.2.2.2.2.2.2.1) (hE710.trans e713.symm)
                  have e730 : f662 = p712.2.2.2.2.2.2.2.2.2.2.2.2.2.2.2.2.1 := congrArg (fun z => z.2.2.2.2.2.2.2.2.2.2.2.2.2.2.2.2.1) (hE710.trans e713.symm)
                  have e731 : y665 = p712.2.2.2.2.2.2.2.2.2.2.2.2.2.2.2.2.2.1 := congrArg (fun z => z.2.2.2.2.2.2.2.2.2.2.2.2.2.2.2.2.2.1) (hE710.trans e713.symm)
                  have e732 : y666 = p712.2.2.2.2.2.2.2.2.2.2.2.2.2.2.2.2.2.2.1 := congrArg (fun z => z.2.2.2.2.2.2.2.2.2.2.2.2.2.2.2.2.2.2.1) (hE710.trans e713.symm)
                  have e733 : f667 = p712.2.2.2.2.2.2.2.2.2.2.2.2.2.2.2.2.2.2.2.1 := congrArg (fun z => z.2.2.2.2.2.2.2.2.2.2.2.2.2.2.2.2.2.2.2.1) (hE710.trans e713.symm)
                  have e734 : y670 = p712.2.2.2.2.2.2.2.2.2.2.2.2.2.2.2.2.2.2.2.2.1 := congrArg (fun z => z.2.2.2.2.2.2.2.2.2.2.2.2.2.2.2.2.2.2.2.2.1) (hE710.trans e713.symm)
                  have e735 : y671 = p712.2.2.2.2.2.2.2.2.2.2.2.2.2.2.2.2.2.2.2.2.2.1 := congrArg (fun z => z.2.2.2.2.2.2.2.2.2.2.2.2.2.2.2.2.2.2.2.2.2.1) (hE710.trans e713.symm)
                  have e736 : y672 = p712.2.2.2.2.2.2.2.2.2.2.2.2.2.2.2.2.2.2.2.2.2.2 := congrArg (fun z => z.2.2.2.2.2.2.2.2.2.2.2.2.2.2.2.2.2.2.2.2.2.2) (hE710.trans e713.symm)
                  replace b673 : q_F (2 ≤ y636.toInt) := b673
                  replace b675 : q_F (0 ≤ y640.toInt) := b675
                  replace b676 : q_F (y640.toInt ≤ 1026) := b676
                  replace b677 : q_F (0 ≤ y641.toInt + 1000000) := b677
                  replace b678 : q_F (y641.toInt ≤ 1000000) := b678
                  replace b679 : q_F (0 ≤ y645.toInt) := b679
                  replace b680 : q_F (y645.toInt ≤ 220) := b680
                  replace b681 : q_F (0 ≤ y646.toInt) := b681
                  replace b682 : q_F (y646.toInt ≤ 21) := b682
                  replace b683 : q_F (0 ≤ y650.toInt) := b683
                  replace b684 : q_F (y650.toInt ≤ 220) := b684
                  replace b685 : q_F (0 ≤ y651.toInt) := b685
                  replace b686 : q_F (y651.toInt ≤ 2) := b686
                  replace b687 : q_F (0 ≤ y655.toInt) := b687
                  replace b688 : q_F (y655.toInt ≤ 220) := b688
                  replace b689 : q_F (0 ≤ y656.toInt) := b689
                  replace b690 : q_F (y656.toInt ≤ 1) := b690
                  replace b691 : q_F (0 ≤ y660.toInt) := b691
                  replace b692 : q_F (y660.toInt ≤ 220) := b692
                  replace b693 : q_F (0 ≤ y661.toInt) := b693
                  replace b694 : q_F (y661.toInt ≤ 1) := b694
                  replace b695 : q_F (0 ≤ y665.toInt) := b695
                  replace b696 : q_F (y665.toInt ≤ 220) := b696
                  replace b697 : q_F (0 ≤ y666.toInt) := b697
                  replace b702 : q_F (y646.toInt ≤ t2_1.toInt + 20) := b702
                  replace b703 : q_F (y651.toInt ≤ t2_1.toInt + 1) := b703
                  replace b707 : q_F (y646.toInt ≤ y641.toInt + 1000001) := b707
                  replace b708 : q_F (y651.toInt ≤ y641.toInt + 1000001) := b708
                  replace b709 : q_F (y651.toInt ≤ y646.toInt + 1) := b709
                  replace hT16 := (hu711 _ (by decide)).trans hT16
                  replace hO141 := (hu711 _ (by decide)).trans hO141
                  replace hF := q_uc hF hu711 (by simp)
                  have hR737 := (show F_NH_print_c127_6 x2 x3 x4 t0_0 t1_0 t2_0 t2_1 t3_0 t4_0 t4_1 t5_0 t6_0 t7_0 t8_0 t8_1 t9_0 t10_0 t10_1 t11_0 t12_0 t12_1 t13_0 t14_0 t14_1 t15_0 t16_0 t16_1 t16_2 t17_0 t17_1 t17_2 t18_0 t18_1 t19_0 t20_0 t20_1 t21_0 t21_1 t22_0 lx100 p712 = (F_NH_print x2 x3 x4 t0_0 t1_0 t2_0 t2_1 t3_0 t4_0 t4_1 t5_0 t6_0 t7_0 t8_0 t8_1 t9_0 t10_0 t10_1 t11_0 t12_0 t12_1 t13_0 t14_0 t14_1 t15_0 t16_0 t16_1 t16_2 t17_0 t17_1 t17_2 t18_0 t18_1 t19_0 t20_0 t20_1 t21_0 t21_1 t22_0) from Eq.trans (by rw [e713, ← e628, F_NH_print_J98.eq_1, if_pos c138, if_neg c146, if_pos c622, if_neg c629]) hR127)
                  have hS738 := (show True ∧ S_NH_print_c127_6 x2 x3 x4 t0_0 t1_0 t2_0 t2_1 t3_0 t4_0 t4_1 t5_0 t6_0 t7_0 t8_0 t8_1 t9_0 t10_0 t10_1 t11_0 t12_0 t12_1 t13_0 t14_0 t14_1 t15_0 t16_0 t16_1 t16_2 t17_0 t17_1 t17_2 t18_0 t18_1 t19_0 t20_0 t20_1 t21_0 t21_1 t22_0 lx100 p712 from (by rw [e713, ← e628]; have h := hS128; rw [S_NH_print_J98.eq_1] at h; rw [if_pos c138] at h; rw [if_neg c146] at h; rw [if_pos c622] at h; replace h := q_s2 h; replace h := q_s2 h; rw [if_neg c629] at h; replace h := q_s2 h; with_reducible exact h))
                  refine lv_aload_n hx hb d_1_17_130 rfl (lv_at hl 0 rfl) ?_
                  refine q_get (ci := 0) (j := 1) (v := .ref (q 3)) C0 V i_NH rfl rfl hO141 (by decide) w_425 rfl d_1_17_131 ?_
                  refine q_get (ci := 1) (j := 2) (v := .int y636) C0 V i_She rfl rfl hO635 (by decide) w_56 rfl d_1_17_134 ?_
                  exact q_retX (q_reti C0 V (⟨hI, hF, y636, f637, y645, y646, f647, y640, y641, f642, y650, y651, f652, y655, y656, f657, y660, y661, f662, y665, y666, f667, t16_0, t16_1, t16_2, y670, y671, y672, hO635, hA638, hO644, hA648, hO639, hA643, hO649, hA653, hO654, hA658, hO659, hA663, hO664, hA668, hT16, hO669, (show 0 ≤ y636.toInt from (by first | with_reducible exact q_fe b673 | (have t1 : 2 ≤ y636.toInt := b673; omega))), (show 0 ≤ y636.toInt from (by first | with_reducible exact q_fe b673 | (have t1 : 2 ≤ y636.toInt := b673; omega))), (show 0 ≤ y645.toInt from (by first | with_reducible exact q_fe b679 | (have t1 : 0 ≤ y645.toInt := b679; omega))), (show y645.toInt ≤ 220 from (by first | with_reducible exact q_fe b680 | (have t1 : y645.toInt ≤ 220 := b680; omega))), (show 0 ≤ y646.toInt from (by first | with_reducible exact q_fe b681 | (have t1 : 0 ≤ y646.toInt := b681; omega))), (show y646.toInt ≤ 21 from (by first | with_reducible exact q_fe b682 | (have t1 : y646.toInt ≤ 21 := b682; omega))), (show 0 ≤ y640.toInt from (by first | with_reducible exact q_fe b675 | (have t1 : 0 ≤ y640.toInt := b675; omega))), (show y640.toInt ≤ 1026 from (by first | with_reducible exact q_fe b676 | (have t1 : y640.toInt ≤ 1026 := b676; omega))), (show 0 ≤ y641.toInt + 1000000 from (by first | with_reducible exact q_fe b677 | (have t1 : 0 ≤ y641.toInt + 1000000 := b677; omega))), (show y641.toInt ≤ 1000000 from (by first | with_reducible exact q_fe b678 | (have t1 : y641.toInt ≤ 1000000 := b678; omega))), (show 0 ≤ y650.toInt from (by first | with_reducible exact q_fe b683 | (have t1 : 0 ≤ y650.toInt := b683; omega))), (show y650.toInt ≤ 220 from (by first | with_reducible exact q_fe b684 | (have t1 : y650.toInt ≤ 220 := b684; omega))), (show 0 ≤ y651.toInt from (by first | with_reducible exact q_fe b685 | (have t1 : 0 ≤ y651.toInt := b685; omega))), (show y651.toInt ≤ 2 from (by first | with_reducible exact q_fe b686 | (have t1 : y651.toInt ≤ 2 := b686; omega))), (show 0 ≤ y655.toInt from (by first | with_reducible exact q_fe b687 | (have t1 : 0 ≤ y655.toInt := b687; omega))), (show y655.toInt ≤ 220 from (by first | with_reducible exact q_fe b688 | (have t1 : y655.toInt ≤ 220 := b688; omega))), (show 0 ≤ y656.toInt from (by first | with_reducible exact q_fe b689 | (have t1 : 0 ≤ y656.toInt := b689; omega))), (show y656.toInt ≤ 1 from (by first | with_reducible exact q_fe b690 | (have t1 : y656.toInt ≤ 1 := b690; omega))), (show 0 ≤ y660.toInt from (by first | with_reducible exact q_fe b691 | (have t1 : 0 ≤ y660.toInt := b691; omega))), (show y660.toInt ≤ 220 from (by first | with_reducible exact q_fe b692 | (have t1 : y660.toInt ≤ 220 := b692; omega))), (show 0 ≤ y661.toInt from (by first | with_reducible exact q_fe b693 | (have t1 : 0 ≤ y661.toInt := b693; omega))), (show y661.toInt ≤ 1 from (by first | with_reducible exact q_fe b694 | (have t1 : y661.toInt ≤ 1 := b694; omega))), (show 0 ≤ y665.toInt from (by first | with_reducible exact q_fe b695 | (have t1 : 0 ≤ y665.toInt := b695; omega))), (show y665.toInt ≤ 220 from (by first | with_reducible exact q_fe b696 | (have t1 : y665.toInt ≤ 220 := b696; omega))), (show 0 ≤ y666.toInt from (by first | with_reducible exact q_fe b697 | (have t1 : 0 ≤ y666.toInt := b697; omega))), (show x3.toInt ≤ y636.toInt + 9 from (by have t1 : x3.toInt ≤ 9 := ob626; have t2 : 2 ≤ y636.toInt := b673; omega)), (show t21_1.toInt ≤ y636.toInt from (by have t1 : 0 ≤ t21_1.toInt ∧ t21_1.toInt ≤ 1 := btt21_1; have t2 : 2 ≤ y636.toInt := b673; omega)), (show x3.toInt ≤ y645.toInt + 9 from (by have t1 : x3.toInt ≤ 9 := ob626; have t2 : 0 ≤ y645.toInt := b679; omega)), (show y645.toInt ≤ x3.toInt + 220 from (by have t1 : 0 ≤ x3.toInt := ob625; have t2 : y645.toInt ≤ 220 := b680; omega)), (show x3.toInt ≤ y646.toInt + 9 from (by have t1 : x3.toInt ≤ 9 := ob626; have t2 : 0 ≤ y646.toInt := b681; omega)), (show y646.toInt ≤ x3.toInt + 21 from (by have t1 : 0 ≤ x3.toInt := ob625; have t2 : y646.toInt ≤ 21 := b682; omega)), (show y646.toInt ≤ t2_1.toInt + 20 from (by first | with_reducible exact q_fe b702 | (have t1 : y646.toInt ≤ t2_1.toInt + 20 := b702; omega))), (show x3.toInt ≤ y640.toInt + 9 from (by have t1 : x3.toInt ≤ 9 := ob626; have t2 : 0 ≤ y640.toInt := b675; omega)), (show y640.toInt ≤ x3.toInt + 1026 from (by have t1 : 0 ≤ x3.toInt := ob625; have t2 : y640.toInt ≤ 1026 := b676; omega)), (show x3.toInt ≤ y641.toInt + 1000009 from (by have t1 : x3.toInt ≤ 9 := ob626; have t2 : 0 ≤ y641.toInt + 1000000 := b677; omega)), (show y641.toInt ≤ x3.toInt + 1000000 from (by have t1 : 0 ≤ x3.toInt := ob625; have t2 : y641.toInt ≤ 1000000 := b678; omega)), (show x3.toInt ≤ y650.toInt + 9 from (by have t1 : x3.toInt ≤ 9 := ob626; have t2 : 0 ≤ y650.toInt := b683; omega)), (show y650.toInt ≤ x3.toInt + 220 from (by have t1 : 0 ≤ x3.toInt := ob625; have t2 : y650.toInt ≤ 220 := b684; omega)), (show x3.toInt ≤ y651.toInt + 9 from (by have t1 : x3.toInt ≤ 9 := ob626; have t2 : 0 ≤ y651.toInt := b685; omega)), (show y651.toInt ≤ x3.toInt + 2 from (by have t1 : 0 ≤ x3.toInt := ob625; have t2 : y651.toInt ≤ 2 := b686; omega)), (show y651.toInt ≤ t2_1.toInt + 1 from (by first | with_reducible exact q_fe b703 | (have t1 : y651.toInt ≤ t2_1.toInt + 1 := b703; omega))), (show x3.toInt ≤ y655.toInt + 9 from (by have t1 : x3.toInt ≤ 9 := ob626; have t2 : 0 ≤ y655.toInt := b687; omega)), (show y655.toInt ≤ x3.toInt + 220 from (by have t1 : 0 ≤ x3.toInt := ob625; have t2 : y655.toInt ≤ 220 := b688; omega)), (show x3.toInt ≤ y656.toInt + 9 from (by have t1 : x3.toInt ≤ 9 := ob626; have t2 : 0 ≤ y656.toInt := b689; omega)), (show y656.toInt ≤ x3.toInt + 1 from (by have t1 : 0 ≤ x3.toInt := ob625; have t2 : y656.toInt ≤ 1 := b690; omega)), (show x3.toInt ≤ y660.toInt + 9 from (by have t1 : x3.toInt ≤ 9 := ob626; have t2 : 0 ≤ y660.toInt := b691; omega)), (show y660.toInt ≤ x3.toInt + 220 from (by have t1 : 0 ≤ x3.toInt := ob625; have t2 : y660.toInt ≤ 220 := b692; omega)), (show x3.toInt ≤ y661.toInt + 9 from (by have t1 : x3.toInt ≤ 9 := ob626; have t2 : 0 ≤ y661.toInt := b693; omega)), (show y661.toInt ≤ x3.toInt + 1 from (by have t1 : 0 ≤ x3.toInt := ob625; have t2 : y661.toInt ≤ 1 := b694; omega)), (show x3.toInt ≤ y665.toInt + 9 from (by have t1 : x3.toInt ≤ 9 := ob626; have t2 : 0 ≤ y665.toInt := b695; omega)), (show y665.toInt ≤ x3.toInt + 220 from (by have t1 : 0 ≤ x3.toInt := ob625; have t2 : y665.toInt ≤ 220 := b696; omega)), (show x3.toInt ≤ y666.toInt + 9 from (by have t1 : x3.toInt ≤ 9 := ob626; have t2 : 0 ≤ y666.toInt := b697; omega)), (show y636.toInt ≤ y636.toInt from (by omega)), (show y636.toInt ≤ y636.toInt from (by omega)), (show y645.toInt ≤ y636.toInt + 218 from (by have t1 : 2 ≤ y636.toInt := b673; have t2 : y645.toInt ≤ 220 := b680; omega)), (show y646.toInt ≤ y636.toInt + 19 from (by have t1 : 2 ≤ y636.toInt := b673; have t2 : y646.toInt ≤ 21 := b682; omega)), (show y651.toInt ≤ y636.toInt + 1 from (by have t1 : 2 ≤ y636.toInt := b673; have t2 : y651.toInt ≤ 2 := b686; omega)), (show y646.toInt ≤ y641.toInt + 1000001 from (by first | with_reducible exact q_fe b707 | (have t1 : y646.toInt ≤ y641.toInt + 1000001 := b707; omega))), (show y651.toInt ≤ y646.toInt + 1 from (by first | with_reducible exact q_fe b709 | (have t1 : y651.toInt ≤ y646.toInt + 1 := b709; omega))), (show y651.toInt ≤ y641.toInt + 1000001 from (by first | with_reducible exact q_fe b708 | (have t1 : y651.toInt ≤ y641.toInt + 1000001 := b708; omega))), (show ((0 : Int32), y636, y636, f637, y645, y646, f647, y640, y641, f642, y650, y651, f652, y655, y656, f657, y660, y661, f662, y665, y666, f667, t16_0, t16_1, t16_2, y670, y671, y672) = (F_NH_print x2 x3 x4 t0_0 t1_0 t2_0 t2_1 t3_0 t4_0 t4_1 t5_0 t6_0 t7_0 t8_0 t8_1 t9_0 t10_0 t10_1 t11_0 t12_0 t12_1 t13_0 t14_0 t14_1 t15_0 t16_0 t16_1 t16_2 t17_0 t17_1 t17_2 t18_0 t18_1 t19_0 t20_0 t20_1 t21_0 t21_1 t22_0) from Eq.trans (by rw [e736, e735, e734, e733, e732, e731, e730, e729, e728, e727, e726, e725, e724, e723, e722, e721, e720, e719, e718, e717, e716, e715, e714, F_NH_print_c127_6.eq_1]) hR737)⟩) d_1_17_137)
                ·
                  refine lv_iconst (v := 1) hx hb d_1_17_122 (by decide) ?_
                  refine lv_goto (tgt := 127) hx hb d_1_17_123 (by decide) ?_
                  have ob743 : True ∧ S_Wri_floatText (23 : Int32) (150 : Int32) (255 : Int32) j627 (1 : Int32) t0_0 t1_0 t4_0 t4_1 t5_0 t2_0 t2_1 t3_0 t8_0 t8_1 t9_0 t10_0 t10_1 t11_0 t12_0 t12_1 t13_0 t14_0 t14_1 t15_0 t17_0 t17_1 t17_2 := (by rw [← e628]; have h := hS128; rw [S_NH_print_J98.eq_1] at h; rw [if_pos c138] at h; rw [if_neg c146] at h; rw [if_pos c622] at h; replace h := q_s2 h; replace h := q_s2 h; rw [if_pos c629] at h; with_reducible exact h.2.1)
                  have hO744 := n_o39 hI
                  refine q_gov V (q_runV (As := [.ref (q 35), .long j627, .int 1]) (rest := []) (d := 7) (mc := 0) (ms := 0) (ci := 9) C0 V rfl LV_NH_332 (X_Wri_floatText l D g q ws 35 23 150 255 (n_f35 g q) j627 1 hI t0_0 hT0 t1_0 hT1 t4_0 t4_1 hT4 t5_0 hT5 t2_0 t2_1 hT2 t3_0 hT3 t8_0 t8_1 hT8 t9_0 hT9 t10_0 t10_1 hT10 t11_0 hT11 t12_0 t12_1 hT12 t13_0 hT13 t14_0 t14_1 hT14 t15_0 hT15 t17_0 t17_1 t17_2 hT17 ⟨(by have y0 : (23 : Int32).toInt = 23 := rfl; have y1 : (150 : Int32).toInt = 150 := rfl; have y2 : (255 : Int32).toInt = 255 := rfl; have y3 : (1 : Int32).toInt = 1 := rfl; omega), (by have y0 : (23 : Int32).toInt = 23 := rfl; have y1 : (150 : Int32).toInt = 150 := rfl; have y2 : (255 : Int32).toInt = 255 := rfl; have y3 : (1 : Int32).toInt = 1 := rfl; omega)⟩ ob743 _) rfl rfl hO744 rfl hl.1 rfl (Nat.le_of_ble_eq_true rfl) ⟨by decide, by decide⟩ ⟨Nat.le_of_ble_eq_true rfl, Nat.le_of_ble_eq_true rfl⟩ d_1_17_127) (fun u745 H locs hp746 V => ?_)
                  obtain ⟨hI, hZ9⟩ := hp746
                  obtain ⟨hu823, hZ9⟩ := hZ9
                  obtain ⟨y748, hZ9⟩ := hZ9
                  obtain ⟨f749, hZ9⟩ := hZ9
                  obtain ⟨y752, hZ9⟩ := hZ9
                  obtain ⟨y753, hZ9⟩ := hZ9
                  obtain ⟨f754, hZ9⟩ := hZ9
                  obtain ⟨y757, hZ9⟩ := hZ9
                  obtain ⟨y758, hZ9⟩ := hZ9
                  obtain ⟨f759, hZ9⟩ := hZ9
                  obtain ⟨y762, hZ9⟩ := hZ9
                  obtain ⟨y763, hZ9⟩ := hZ9
                  obtain ⟨f764, hZ9⟩ := hZ9
                  obtain ⟨y767, hZ9⟩ := hZ9
                  obtain ⟨y768, hZ9⟩ := hZ9
                  obtain ⟨f769, hZ9⟩ := hZ9
                  obtain ⟨y772, hZ9⟩ := hZ9
                  obtain ⟨y773, hZ9⟩ := hZ9
                  obtain ⟨f774, hZ9⟩ := hZ9
                  obtain ⟨y777, hZ9⟩ := hZ9
                  obtain ⟨y778, hZ9⟩ := hZ9
                  obtain ⟨f779, hZ9⟩ := hZ9
                  obtain ⟨y782, hZ9⟩ := hZ9
                  obtain ⟨y783, hZ9⟩ := hZ9
                  obtain ⟨y784, hZ9⟩ := hZ9
                  obtain ⟨hO747, hZ9⟩ := hZ9
                  obtain ⟨hA750, hZ9⟩ := hZ9
                  obtain ⟨hO751, hZ9⟩ := hZ9
                  obtain ⟨hA755, hZ9⟩ := hZ9
                  obtain ⟨hO756, hZ9⟩ := hZ9
                  obtain ⟨hA760, hZ9⟩ := hZ9
                  obtain ⟨hO761, hZ9⟩ := hZ9
                  obtain ⟨hA765, hZ9⟩ := hZ9
                  obtain ⟨hO766, hZ9⟩ := hZ9
                  obtain ⟨hA770, hZ9⟩ := hZ9
                  obtain ⟨hO771, hZ9⟩ := hZ9
                  obtain ⟨hA775, hZ9⟩ := hZ9
                  obtain ⟨hO776, hZ9⟩ := hZ9
                  obtain ⟨hA780, hZ9⟩ := hZ9
                  obtain ⟨hO781, hZ9⟩ := hZ9
                  obtain ⟨b785, hZ9⟩ := hZ9
                  replace hZ9 := hZ9.2
                  obtain ⟨b787, hZ9⟩ := hZ9
                  obtain ⟨b788, hZ9⟩ := hZ9
                  obtain ⟨b789, hZ9⟩ := hZ9
                  obtain ⟨b790, hZ9⟩ := hZ9
                  obtain ⟨b791, hZ9⟩ := hZ9
                  obtain ⟨b792, hZ9⟩ := hZ9
                  obtain ⟨b793, hZ9⟩ := hZ9
                  obtain ⟨b794, hZ9⟩ := hZ9
                  obtain ⟨b795, hZ9⟩ := hZ9
                  obtain ⟨b796, hZ9⟩ := hZ9
                  obtain ⟨b797, hZ9⟩ := hZ9
                  obtain ⟨b798, hZ9⟩ := hZ9
                  obtain ⟨b799, hZ9⟩ := hZ9
                  obtain ⟨b800, hZ9⟩ := hZ9
                  obtain ⟨b801, hZ9⟩ := hZ9
                  obtain ⟨b802, hZ9⟩ := hZ9
                  obtain ⟨b803, hZ9⟩ := hZ9
                  obtain ⟨b804, hZ9⟩ := hZ9
                  obtain ⟨b805, hZ9⟩ := hZ9
                  obtain ⟨b806, hZ9⟩ := hZ9
                  obtain ⟨b807, hZ9⟩ := hZ9
                  obtain ⟨b808, hZ9⟩ := hZ9
                  obtain ⟨b809, hZ9⟩ := hZ9
                  replace hZ9 := hZ9.2.2.2.2
                  obtain ⟨b814, hZ9⟩ := hZ9
                  obtain ⟨b815, hZ9⟩ := hZ9
                  replace hZ9 := hZ9.2.2.2
                  obtain ⟨b819, hZ9⟩ := hZ9
                  obtain ⟨b820, hZ9⟩ := hZ9
                  obtain ⟨b821, hE822⟩ := hZ9
                  replace hO747 : u745[3]? = (some (q 3, .inr (1, [.ref (q 4), .int 11008, .int y748])) : Option (Nat × va_E)) := hO747
                  replace hA750 : u745[4]? = (some (q 4, .inl (g 1, (1376 : Int32).toNatClampNeg, .inr (.inl f749))) : Option (Nat × va_E)) := hA750
                  replace hO751 : u745[36]? = (some (q 36, .inr (7, [.int y752, .int y753, .ref (q 37)])) : Option (Nat × va_E)) := hO751
                  replace hA755 : u745[37]? = (some (q 37, .inl (g 2, 1026, .inl f754)) : Option (Nat × va_E)) := hA755
                  replace hO756 : u745[10]? = (some (q 10, .inr (2, [.ref (q 11), .int y757, .int y758])) : Option (Nat × va_E)) := hO756
                  replace hA760 : u745[11]? = (some (q 11, .inl (g 0, (220 : Int32).toNatClampNeg, .inl f759)) : Option (Nat × va_E)) := hA760
                  replace hO761 : u745[22]? = (some (q 22, .inr (2, [.ref (q 23), .int y762, .int y763])) : Option (Nat × va_E)) := hO761
                  replace hA765 : u745[23]? = (some (q 23, .inl (g 0, (220 : Int32).toNatClampNeg, .inl f764)) : Option (Nat × va_E)) := hA765
                  replace hO766 : u745[24]? = (some (q 24, .inr (2, [.ref (q 25), .int y767, .int y768])) : Option (Nat × va_E)) := hO766
                  replace hA770 : u745[25]? = (some (q 25, .inl (g 0, (220 : Int32).toNatClampNeg, .inl f769)) : Option (Nat × va_E)) := hA770
                  replace hO771 : u745[26]? = (some (q 26, .inr (2, [.ref (q 27), .int y772, .int y773])) : Option (Nat × va_E)) := hO771
                  replace hA775 : u745[27]? = (some (q 27, .inl (g 0, (220 : Int32).toNatClampNeg, .inl f774)) : Option (Nat × va_E)) := hA775
                  replace hO776 : u745[28]? = (some (q 28, .inr (2, [.ref (q 29), .int y777, .int y778])) : Option (Nat × va_E)) := hO776
                  replace hA780 : u745[29]? = (some (q 29, .inl (g 0, (220 : Int32).toNatClampNeg, .inl f779)) : Option (Nat × va_E)) := hA780
                  replace hO781 : u745[35]? = (some (q 35, .inr (6, [.int 23, .int 150, .int 255, .long y782, .int y783, .ref (q 9), .int y784])) : Option (Nat × va_E)) := hO781
                  obtain ⟨p824, e825⟩ : ∃ z, z = (F_Wri_floatText (23 : Int32) (150 : Int32) (255 : Int32) j627 (1 : Int32) t0_0 t1_0 t4_0 t4_1 t5_0 t2_0 t2_1 t3_0 t8_0 t8_1 t9_0 t10_0 t10_1 t11_0 t12_0 t12_1 t13_0 t14_0 t14_1 t15_0 t17_0 t17_1 t17_2) := ⟨_, rfl⟩
                  have e826 : y748 = p824.1 := congrArg (fun z => z.1) (hE822.trans e825.symm)
                  have e827 : f749 = p824.2.1 := congrArg (fun z => z.2.1) (hE822.trans e825.symm)
                  have e828 : y752 = p824.2.2.1 := congrArg (fun z => z.2.2.1) (hE822.trans e825.symm)
                  have e829 : y753 = p824.2.2.2.1 := congrArg (fun z => z.2.2.2.1) (hE822.trans e825.symm)
                  have e830 : f754 = p824.2.2.2.2.1 := congrArg (fun z => z.2.2.2.2.1) (hE822.trans e825.symm)
                  have e831 : y757 = p824.2.2.2.2.2.1 := congrArg (fun z => z.2.2.2.2.2.1) (hE822.trans e825.symm)
                  have e832 : y758 = p824.2.2.2.2.2.2.1 := congrArg (fun z => z.2.2.2.2.2.2.1) (hE822.trans e825.symm)
                  have e833 : f759 = p824.2.2.2.2.2.2.2.1 := congrArg (fun z => z.2.2.2.2.2.2.2.1) (hE822.trans e825.symm)
                  have e834 : y762 = p824.2.2.2.2.2.2.2.2.1 := congrArg (fun z => z.2.2.2.2.2.2.2.2.1) (hE822.trans e825.symm)
                  have e835 : y763 = p824.2.2.2.2.2.2.2.2.2.1 := congrArg (fun z => z.2.2.2.2.2.2.2.2.2.1) (hE822.trans e825.symm)
                  have e836 : f764 = p824.2.2.2.2.2.2.2.2.2.2.1 := congrArg (fun z => z.2.2.2.2.2.2.2.2.2.2.1) (hE822.trans e825.symm)
                  have e837 : y767 = p824.2.2.2.2.2.2.2.2.2.2.2.1 := congrArg (fun z => z.2.2.2.2.2.2.2.2.2.2.2.1) (hE822.trans e825.symm)
                  have e838 : y768 = p824.2.2.2.2.2.2.2.2.2.2.2.2.1 := congrArg (fun z => z.2.2.2.2.2.2.2.2.2.2.2.2.1) (hE822.trans e825.symm)
                  have e839 : f769 = p824.2.2.2.2.2.2.2.2.2.2.2.2.2.1 := congrArg (fun z => z.2.2.2.2.2.2.2.2.2.2.2.2.2.1) (hE822.trans e825.symm)
                  have e840 : y772 = p824.2.2.2.2.2.2.2.2.2.2.2.2.2.2.1 := congrArg (fun z => z.2.2.2.2.2.2.2.2.2.2.2.2.2.2.1) (hE822.trans e825.symm)
                  have e841 : y773 = p824.2.2.2.2.2.2.2.2.2.2.2.2.2.2.2.1 := congrArg (fun z => z.2.2.2.2.2.2.2.2.2.2.2.2.2.2.2.1) (hE822.trans e825.symm)
                  have e842 : f774 = p824.2.2.2.2.2.2.2.2.2.2.2.2.2.2.2.2.1 := congrArg (fun z => z.2.2.2.2.2.2.2.2.2.2.2.2.2.2.2.2.1) (hE822.trans e825.symm)
                  have e843 : y777 = p824.2.2.2.2.2.2.2.2.2.2.2.2.2.2.2.2.2.1 := congrArg (fun z => z.2.2.2.2.2.2.2.2.2.2.2.2.2.2.2.2.2.1) (hE822.trans e825.symm)
                  have e844 : y778 = p824.2.2.2.2.2.2.2.2.2.2.2.2.2.2.2.2.2.2.1 := congrArg (fun z => z.2.2.2.2.2.2.2.2.2.2.2.2.2.2.2.2.2.2.1) (hE822.trans e825.symm)
                  have e845 : f779 = p824.2.2.2.2.2.2.2.2.2.2.2.2.2.2.2.2.2.2.2.1 := congrArg (fun z => z.2.2.2.2.2.2.2.2.2.2.2.2.2.2.2.2.2.2.2.1) (hE822.trans e825.symm)
                  have e846 : y782 = p824.2.2.2.2.2.2.2.2.2.2.2.2.2.2.2.2.2.2.2.2.1 := congrArg (fun z => z.2.2.2.2.2.2.2.2.2.2.2.2.2.2.2.2.2.2.2.2.1) (hE822.trans e825.symm)
                  have e847 : y783 = p824.2.2.2.2.2.2.2.2.2.2.2.2.2.2.2.2.2.2.2.2.2.1 := congrArg (fun z => z.2.2.2.2.2.2.2.2.2.2.2.2.2.2.2.2.2.2.2.2.2.1) (hE822.trans e825.symm)
                  have e848 : y784 = p824.2.2.2.2.2.2.2.2.2.2.2.2.2.2.2.2.2.2.2.2.2.2 := congrArg (fun z => z.2.2.2.2.2.2.2.2.2.2.2.2.2.2.2.2.2.2.2.2.2.2) (hE822.trans e825.symm)
                  replace b785 : q_F (2 ≤ y748.toInt) := b785
                  replace b787 : q_F (0 ≤ y752.toInt) := b787
                  replace b788 : q_F (y752.toInt ≤ 1026) := b788
                  replace b789 : q_F (0 ≤ y753.toInt + 1000000) := b789
                  replace b790 : q_F (y753.toInt ≤ 1000000) := b790
                  replace b791 : q_F (0 ≤ y757.toInt) := b791
                  replace b792 : q_F (y757.toInt ≤ 220) := b792
                  replace b793 : q_F (0 ≤ y758.toInt) := b793
                  replace b794 : q_F (y758.toInt ≤ 21) := b794
                  replace b795 : q_F (0 ≤ y762.toInt) := b795
                  replace b796 : q_F (y762.toInt ≤ 220) := b796
                  replace b797 : q_F (0 ≤ y763.toInt) := b797
                  replace b798 : q_F (y763.toInt ≤ 2) := b798
                  replace b799 : q_F (0 ≤ y767.toInt) := b799
                  replace b800 : q_F (y767.toInt ≤ 220) := b800
                  replace b801 : q_F (0 ≤ y768.toInt) := b801
                  replace b802 : q_F (y768.toInt ≤ 1) := b802
                  replace b803 : q_F (0 ≤ y772.toInt) := b803
                  replace b804 : q_F (y772.toInt ≤ 220) := b804
                  replace b805 : q_F (0 ≤ y773.toInt) := b805
                  replace b806 : q_F (y773.toInt ≤ 1) := b806
                  replace b807 : q_F (0 ≤ y777.toInt) := b807
                  replace b808 : q_F (y777.toInt ≤ 220) := b808
                  replace b809 : q_F (0 ≤ y778.toInt) := b809
                  replace b814 : q_F (y758.toInt ≤ t2_1.toInt + 20) := b814
                  replace b815 : q_F (y763.toInt ≤ t2_1.toInt + 1) := b815
                  replace b819 : q_F (y758.toInt ≤ y753.toInt + 1000001) := b819
                  replace b820 : q_F (y763.toInt ≤ y753.toInt + 1000001) := b820
                  replace b821 : q_F (y763.toInt ≤ y758.toInt + 1) := b821
                  replace hT16 := (hu823 _ (by decide)).trans hT16
                  replace hO141 := (hu823 _ (by decide)).trans hO141
                  replace hF := q_uc hF hu823 (by simp)
                  have hR849 := (show F_NH_print_c127_7 x2 x3 x4 t0_0 t1_0 t2_0 t2_1 t3_0 t4_0 t4_1 t5_0 t6_0 t7_0 t8_0 t8_1 t9_0 t10_0 t10_1 t11_0 t12_0 t12_1 t13_0 t14_0 t14_1 t15_0 t16_0 t16_1 t16_2 t17_0 t17_1 t17_2 t18_0 t18_1 t19_0 t20_0 t20_1 t21_0 t21_1 t22_0 lx100 p824 = (F_NH_print x2 x3 x4 t0_0 t1_0 t2_0 t2_1 t3_0 t4_0 t4_1 t5_0 t6_0 t7_0 t8_0 t8_1 t9_0 t10_0 t10_1 t11_0 t12_0 t12_1 t13_0 t14_0 t14_1 t15_0 t16_0 t16_1 t16_2 t17_0 t17_1 t17_2 t18_0 t18_1 t19_0 t20_0 t20_1 t21_0 t21_1 t22_0) from Eq.trans (by rw [e825, ← e628, F_NH_print_J98.eq_1, if_pos c138, if_neg c146, if_pos c622, if_pos c629]) hR127)
                  have hS850 := (show True ∧ S_NH_print_c127_7 x2 x3 x4 t0_0 t1_0 t2_0 t2_1 t3_0 t4_0 t4_1 t5_0 t6_0 t7_0 t8_0 t8_1 t9_0 t10_0 t10_1 t11_0 t12_0 t12_1 t13_0 t14_0 t14_1 t15_0 t16_0 t16_1 t16_2 t17_0 t17_1 t17_2 t18_0 t18_1 t19_0 t20_0 t20_1 t21_0 t21_1 t22_0 lx100 p824 from (by rw [e825, ← e628]; have h := hS128; rw [S_NH_print_J98.eq_1] at h; rw [if_pos c138] at h; rw [if_neg c146] at h; rw [if_pos c622] at h; replace h := q_s2 h; replace h := q_s2 h; rw [if_pos c629] at h; replace h := q_s2 h; with_reducible exact h))
                  refine lv_aload_n hx hb d_1_17_130 rfl (lv_at hl 0 rfl) ?_
                  refine q_get (ci := 0) (j := 1) (v := .ref (q 3)) C0 V i_NH rfl rfl hO141 (by decide) w_425 rfl d_1_17_131 ?_
                  refine q_get (ci := 1) (j := 2) (v := .int y748) C0 V i_She rfl rfl hO747 (by decide) w_56 rfl d_1_17_134 ?_
                  exact q_retX (q_reti C0 V (⟨hI, hF, y748, f749, y757, y758, f759, y752, y753, f754, y762, y763, f764, y767, y768, f769, y772, y773, f774, y777, y778, f779, t16_0, t16_1, t16_2, y782, y783, y784, hO747, hA750, hO756, hA760, hO751, hA755, hO761, hA765, hO766, hA770, hO771, hA775, hO776, hA780, hT16, hO781, (show 0 ≤ y748.toInt from (by first | with_reducible exact q_fe b785 | (have t1 : 2 ≤ y748.toInt := b785; omega))), (show 0 ≤ y748.toInt from (by first | with_reducible exact q_fe b785 | (have t1 : 2 ≤ y748.toInt := b785; omega))), (show 0 ≤ y757.toInt from (by first | with_reducible exact q_fe b791 | (have t1 : 0 ≤ y757.toInt := b791; omega))), (show y757.toInt ≤ 220 from (by first | with_reducible exact q_fe b792 | (have t1 : y757.toInt ≤ 220 := b792; omega))), (show 0 ≤ y758.toInt from (by first | with_reducible exact q_fe b793 | (have t1 : 0 ≤ y758.toInt := b793; omega))), (show y758.toInt ≤ 21 from (by first | with_reducible exact q_fe b794 | (have t1 : y758.toInt ≤ 21 := b794; omega))), (show 0 ≤ y752.toInt from (by first | with_reducible exact q_fe b787 | (have t1 : 0 ≤ y752.toInt := b787; omega))), (show y752.toInt ≤ 1026 from (by first | with_reducible exact q_fe b788 | (have t1 : y752.toInt ≤ 1026 := b788; omega))), (show 0 ≤ y753.toInt + 1000000 from (by first | with_reducible exact q_fe b789 | (have t1 : 0 ≤ y753.toInt + 1000000 := b789; omega))), (show y753.toInt ≤ 1000000 from (by first | with_reducible exact q_fe b790 | (have t1 : y753.toInt ≤ 1000000 := b790; omega))), (show 0 ≤ y762.toInt from (by first | with_reducible exact q_fe b795 | (have t1 : 0 ≤ y762.toInt := b795; omega))), (show y762.toInt ≤ 220 from (by first | with_reducible exact q_fe b796 | (have t1 : y762.toInt ≤ 220 := b796; omega))), (show 0 ≤ y763.toInt from (by first | with_reducible exact q_fe b797 | (have t1 : 0 ≤ y763.toInt := b797; omega))), (show y763.toInt ≤ 2 from (by first | with_reducible exact q_fe b798 | (have t1 : y763.toInt ≤ 2 := b798; omega))), (show 0 ≤ y767.toInt from (by first | with_reducible exact q_fe b799 | (have t1 : 0 ≤ y767.toInt := b799; omega))), (show y767.toInt ≤ 220 from (by first | with_reducible exact q_fe b800 | (have t1 : y767.toInt ≤ 220 := b800; omega))), (show 0 ≤ y768.toInt from (by first | with_reducible exact q_fe b801 | (have t1 : 0 ≤ y768.toInt := b801; omega))), (show y768.toInt ≤ 1 from (by first | with_reducible exact q_fe b802 | (have t1 : y768.toInt ≤ 1 := b802; omega))), (show 0 ≤ y772.toInt from (by first | with_reducible exact q_fe b803 | (have t1 : 0 ≤ y772.toInt := b803; omega))), (show y772.toInt ≤ 220 from (by first | with_reducible exact q_fe b804 | (have t1 : y772.toInt ≤ 220 := b804; omega))), (show 0 ≤ y773.toInt from (by first | with_reducible exact q_fe b805 | (have t1 : 0 ≤ y773.toInt := b805; omega))), (show y773.toInt ≤ 1 from (by first | with_reducible exact q_fe b806 | (have t1 : y773.toInt ≤ 1 := b806; omega))), (show 0 ≤ y777.toInt from (by first | with_reducible exact q_fe b807 | (have t1 : 0 ≤ y777.toInt := b807; omega))), (show y777.toInt ≤ 220 from (by first | with_reducible exact q_fe b808 | (have t1 : y777.toInt ≤ 220 := b808; omega))), (show 0 ≤ y778.toInt from (by first | with_reducible exact q_fe b809 | (have t1 : 0 ≤ y778.toInt := b809; omega))), (show x3.toInt ≤ y748.toInt + 9 from (by have t1 : x3.toInt ≤ 9 := ob626; have t2 : 2 ≤ y748.toInt := b785; omega)), (show t21_1.toInt ≤ y748.toInt from (by have t1 : 0 ≤ t21_1.toInt ∧ t21_1.toInt ≤ 1 := btt21_1; have t2 : 2 ≤ y748.toInt := b785; omega)), (show x3.toInt ≤ y757.toInt + 9 from (by have t1 : x3.toInt ≤ 9 := ob626; have t2 : 0 ≤ y757.toInt := b791; omega)), (show y757.toInt ≤ x3.toInt + 220 from (by have t1 : 0 ≤ x3.toInt := ob625; have t2 : y757.toInt ≤ 220 := b792; omega)), (show x3.toInt ≤ y758.toInt + 9 from (by have t1 : x3.toInt ≤ 9 := ob626; have t2 : 0 ≤ y758.toInt := b793; omega)), (show y758.toInt ≤ x3.toInt + 21 from (by have t1 : 0 ≤ x3.toInt := ob625; have t2 : y758.toInt ≤ 21 := b794; omega)), (show y758.toInt ≤ t2_1.toInt + 20 from (by first | with_reducible exact q_fe b814 | (have t1 : y758.toInt ≤ t2_1.toInt + 20 := b814; omega))), (show x3.toInt ≤ y752.toInt + 9 from (by have t1 : x3.toInt ≤ 9 := ob626; have t2 : 0 ≤ y752.toInt := b787; omega)), (show y752.toInt ≤ x3.toInt + 1026 from (by have t1 : 0 ≤ x3.toInt := ob625; have t2 : y752.toInt ≤ 1026 := b788; omega)), (show x3.toInt ≤ y753.toInt + 1000009 from (by have t1 : x3.toInt ≤ 9 := ob626; have t2 : 0 ≤ y753.toInt + 1000000 := b789; omega)), (show y753.toInt ≤ x3.toInt + 1000000 from (by have t1 : 0 ≤ x3.toInt := ob625; have t2 : y753.toInt ≤ 1000000 := b790; omega)), (show x3.toInt ≤ y762.toInt + 9 from (by have t1 : x3.toInt ≤ 9 := ob626; have t2 : 0 ≤ y762.toInt := b795; omega)), (show y762.toInt ≤ x3.toInt + 220 from (by have t1 : 0 ≤ x3.toInt := ob625; have t2 : y762.toInt ≤ 220 := b796; omega)), (show x3.toInt ≤ y763.toInt + 9 from (by have t1 : x3.toInt ≤ 9 := ob626; have t2 : 0 ≤ y763.toInt := b797; omega)), (show y763.toInt ≤ x3.toInt + 2 from (by have t1 : 0 ≤ x3.toInt := ob625; have t2 : y763.toInt ≤ 2 := b798; omega)), (show y763.toInt ≤ t2_1.toInt + 1 from (by first | with_reducible exact q_fe b815 | (have t1 : y763.toInt ≤ t2_1.toInt + 1 := b815; omega))), (show x3.toInt ≤ y767.toInt + 9 from (by have t1 : x3.toInt ≤ 9 := ob626; have t2 : 0 ≤ y767.toInt := b799; omega)), (show y767.toInt ≤ x3.toInt + 220 from (by have t1 : 0 ≤ x3.toInt := ob625; have t2 : y767.toInt ≤ 220 := b800; omega)), (show x3.toInt ≤ y768.toInt + 9 from (by have t1 : x3.toInt ≤ 9 := ob626; have t2 : 0 ≤ y768.toInt := b801; omega)), (show y768.toInt ≤ x3.toInt + 1 from (by have t1 : 0 ≤ x3.toInt := ob625; have t2 : y768.toInt ≤ 1 := b802; omega)), (show x3.toInt ≤ y772.toInt + 9 from (by have t1 : x3.toInt ≤ 9 := ob626; have t2 : 0 ≤ y772.toInt := b803; omega)), (show y772.toInt ≤ x3.toInt + 220 from (by have t1 : 0 ≤ x3.toInt := ob625; have t2 : y772.toInt ≤ 220 := b804; omega)), (show x3.toInt ≤ y773.toInt + 9 from (by have t1 : x3.toInt ≤ 9 := ob626; have t2 : 0 ≤ y773.toInt := b805; omega)), (show y773.toInt ≤ x3.toInt + 1 from (by have t1 : 0 ≤ x3.toInt := ob625; have t2 : y773.toInt ≤ 1 := b806; omega)), (show x3.toInt ≤ y777.toInt + 9 from (by have t1 : x3.toInt ≤ 9 := ob626; have t2 : 0 ≤ y777.toInt := b807; omega)), (show y777.toInt ≤ x3.toInt + 220 from (by have t1 : 0 ≤ x3.toInt := ob625; have t2 : y777.toInt ≤ 220 := b808; omega)), (show x3.toInt ≤ y778.toInt + 9 from (by have t1 : x3.toInt ≤ 9 := ob626; have t2 : 0 ≤ y778.toInt := b809; omega)), (show y748.toInt ≤ y748.toInt from (by omega)), (show y748.toInt ≤ y748.toInt from (by omega)), (show y757.toInt ≤ y748.toInt + 218 from (by have t1 : 2 ≤ y748.toInt := b785; have t2 : y757.toInt ≤ 220 := b792; omega)), (show y758.toInt ≤ y748.toInt + 19 from (by have t1 : 2 ≤ y748.toInt := b785; have t2 : y758.toInt ≤ 21 := b794; omega)), (show y763.toInt ≤ y748.toInt + 1 from (by have t1 : 2 ≤ y748.toInt := b785; have t2 : y763.toInt ≤ 2 := b798; omega)), (show y758.toInt ≤ y753.toInt + 1000001 from (by first | with_reducible exact q_fe b819 | (have t1 : y758.toInt ≤ y753.toInt + 1000001 := b819; omega))), (show y763.toInt ≤ y758.toInt + 1 from (by first | with_reducible exact q_fe b821 | (have t1 : y763.toInt ≤ y758.toInt + 1 := b821; omega))), (show y763.toInt ≤ y753.toInt + 1000001 from (by first | with_reducible exact q_fe b820 | (have t1 : y763.toInt ≤ y753.toInt + 1000001 := b820; omega))), (show ((0 : Int32), y748, y748, f749, y757, y758, f759, y752, y753, f754, y762, y763, f764, y767, y768, f769, y772, y773, f774, y777, y778, f779, t16_0, t16_1, t16_2, y782, y783, y784) = (F_NH_print x2 x3 x4 t0_0 t1_0 t2_0 t2_1 t3_0 t4_0 t4_1 t5_0 t6_0 t7_0 t8_0 t8_1 t9_0 t10_0 t10_1 t11_0 t12_0 t12_1 t13_0 t14_0 t14_1 t15_0 t16_0 t16_1 t16_2 t17_0 t17_1 t17_2 t18_0 t18_1 t19_0 t20_0 t20_1 t21_0 t21_1 t22_0) from Eq.trans (by rw [e848, e847, e846, e845, e844, e843, e842, e841, e840, e839, e838, e837, e836, e835, e834, e833, e832, e831, e830, e829, e828, e827, e826, F_NH_print_c127_7.eq_1]) hR849)⟩) d_1_17_137)
              ·
                have hr854 : a620 = q 8 := hr621.trans (congrArg q (by unfold F_NH_floatRow; rw [if_neg c622]))
                subst hr854
                refine lv_iload_n hx hb d_1_17_115 rfl (lv_at hl 2 rfl) ?_
                have ob856 : q_F (0 ≤ x3.toInt) := (by have h := hS128; rw [S_NH_print_J98.eq_1] at h; rw [if_pos c138] at h; rw [if_neg c146] at h; rw [if_neg c622] at h; exact h.2.1)
                have ob857 : q_F (x3.toInt ≤ 9) := (by have h := hS128; rw [S_NH_print_J98.eq_1] at h; rw [if_pos c138] at h; rw [if_neg c146] at h; rw [if_neg c622] at h; replace h := q_s2 h; exact h.2.1)
                refine q_lald C0 V hT7 (q_ix (x := x3.toInt) rfl (by first | with_reducible exact q_fe ob856 | (have t1 : 0 ≤ x3.toInt := ob856; omega)) (by have t1 : 0 ≤ x3.toInt := ob856; have t2 : x3.toInt ≤ 9 := ob857; omega)) d_1_17_116 ?_
                obtain ⟨j858, e859⟩ := q_nm (t7_0 x3.toNatClampNeg : Int64)
                refine q_tl (v := j858) e859 ?_
                refine lv_iload_n hx hb d_1_17_117 rfl (lv_at hl 3 rfl) ?_
                refine lv_iconst (v := 1) hx hb d_1_17_118 (by decide) ?_
                refine lv_icmp_ne (tgt := 126) hx hb d_1_17_119 (by decide) (fun c860 => ?_) (fun c860 => ?_)
                ·
                  refine lv_iconst (v := 0) hx hb d_1_17_126 (by decide) ?_
                  have ob862 : True ∧ S_Wri_floatText (23 : Int32) (150 : Int32) (255 : Int32) j858 (0 : Int32) t0_0 t1_0 t4_0 t4_1 t5_0 t2_0 t2_1 t3_0 t8_0 t8_1 t9_0 t10_0 t10_1 t11_0 t12_0 t12_1 t13_0 t14_0 t14_1 t15_0 t17_0 t17_1 t17_2 := (by rw [← e859]; have h := hS128; rw [S_NH_print_J98.eq_1] at h; rw [if_pos c138] at h; rw [if_neg c146] at h; rw [if_neg c622] at h; replace h := q_s2 h; replace h := q_s2 h; rw [if_neg c860] at h; with_reducible exact h.2.1)
                  have hO863 := n_o39 hI
                  refine q_gov V (q_runV (As := [.ref (q 35), .long j858, .int 0]) (rest := []) (d := 7) (mc := 0) (ms := 0) (ci := 9) C0 V rfl LV_NH_332 (X_Wri_floatText l D g q ws 35 23 150 255 (n_f35 g q) j858 0 hI t0_0 hT0 t1_0 hT1 t4_0 t4_1 hT4 t5_0 hT5 t2_0 t2_1 hT2 t3_0 hT3 t8_0 t8_1 hT8 t9_0 hT9 t10_0 t10_1 hT10 t11_0 hT11 t12_0 t12_1 hT12 t13_0 hT13 t14_0 t14_1 hT14 t15_0 hT15 t17_0 t17_1 t17_2 hT17 ⟨(by have y0 : (23 : Int32).toInt = 23 := rfl; have y1 : (150 : Int32).toInt = 150 := rfl; have y2 : (255 : Int32).toInt = 255 := rfl; have y3 : (0 : Int32).toInt = 0 := rfl; omega), (by have y0 : (23 : Int32).toInt = 23 := rfl; have y1 : (150 : Int32).toInt = 150 := rfl; have y2 : (255 : Int32).toInt = 255 := rfl; have y3 : (0 : Int32).toInt = 0 := rfl; omega)⟩ ob862 _) rfl rfl hO863 rfl hl.1 rfl (Nat.le_of_ble_eq_true rfl) ⟨by decide, by decide⟩ ⟨Nat.le_of_ble_eq_true rfl, Nat.le_of_ble_eq_true rfl⟩ d_1_17_127) (fun u864 H locs hp865 V => ?_)
                  obtain ⟨hI, hZ9⟩ := hp865
                  obtain ⟨hu942, hZ9⟩ := hZ9
                  obtain ⟨y867, hZ9⟩ := hZ9
                  obtain ⟨f868, hZ9⟩ := hZ9
                  obtain ⟨y871, hZ9⟩ := hZ9
                  obtain ⟨y872, hZ9⟩ := hZ9
                  obtain ⟨f873, hZ9⟩ := hZ9
                  obtain ⟨y876, hZ9⟩ := hZ9
                  obtain ⟨y877, hZ9⟩ := hZ9
                  obtain ⟨f878, hZ9⟩ := hZ9
                  obtain ⟨y881, hZ9⟩ := hZ9
                  obtain ⟨y882, hZ9⟩ := hZ9
                  obtain ⟨f883, hZ9⟩ := hZ9
                  obtain ⟨y886, hZ9⟩ := hZ9
                  obtain ⟨y887, hZ9⟩ := hZ9
                  obtain ⟨f888, hZ9⟩ := hZ9
                  obtain ⟨y891, hZ9⟩ := hZ9
                  obtain ⟨y892, hZ9⟩ := hZ9
                  obtain ⟨f893, hZ9⟩ := hZ9
                  obtain ⟨y896, hZ9⟩ := hZ9
                  obtain ⟨y897, hZ9⟩ := hZ9
                  obtain ⟨f898, hZ9⟩ := hZ9
                  obtain ⟨y901, hZ9⟩ := hZ9
                  obtain ⟨y902, hZ9⟩ := hZ9
                  obtain ⟨y903, hZ9⟩ := hZ9
                  obtain ⟨hO866, hZ9⟩ := hZ9
                  obtain ⟨hA869, hZ9⟩ := hZ9
                  obtain ⟨hO870, hZ9⟩ := hZ9
                  obtain ⟨hA874, hZ9⟩ := hZ9
                  obtain ⟨hO875, hZ9⟩ := hZ9
                  obtain ⟨hA879, hZ9⟩ := hZ9
                  obtain ⟨hO880, hZ9⟩ := hZ9
                  obtain ⟨hA884, hZ9⟩ := hZ9
                  obtain ⟨hO885, hZ9⟩ := hZ9
                  obtain ⟨hA889, hZ9⟩ := hZ9
                  obtain ⟨hO890, hZ9⟩ := hZ9
                  obtain ⟨hA894, hZ9⟩ := hZ9
                  obtain ⟨hO895, hZ9⟩ := hZ9
                  obtain ⟨hA899, hZ9⟩ := hZ9
                  obtain ⟨hO900, hZ9⟩ := hZ9
                  obtain ⟨b904, hZ9⟩ := hZ9
                  replace hZ9 := hZ9.2
                  obtain ⟨b906, hZ9⟩ := hZ9
                  obtain ⟨b907, hZ9⟩ := hZ9
                  obtain ⟨b908, hZ9⟩ := hZ9
                  obtain ⟨b909, hZ9⟩ := hZ9
                  obtain ⟨b910, hZ9⟩ := hZ9
                  obtain ⟨b911, hZ9⟩ := hZ9
                  obtain ⟨b912, hZ9⟩ := hZ9
                  obtain ⟨b913, hZ9⟩ := hZ9
                  obtain ⟨b914, hZ9⟩ := hZ9
                  obtain ⟨b915, hZ9⟩ := hZ9
                  obtain ⟨b916, hZ9⟩ := hZ9
                  obtain ⟨b917, hZ9⟩ := hZ9
                  obtain ⟨b918, hZ9⟩ := hZ9
                  obtain ⟨b919, hZ9⟩ := hZ9
                  obtain ⟨b920, hZ9⟩ := hZ9
                  obtain ⟨b921, hZ9⟩ := hZ9
                  obtain ⟨b922, hZ9⟩ := hZ9
                  obtain ⟨b923, hZ9⟩ := hZ9
                  obtain ⟨b924, hZ9⟩ := hZ9
                  obtain ⟨b925, hZ9⟩ := hZ9
                  obtain ⟨b926, hZ9⟩ := hZ9
                  obtain ⟨b927, hZ9⟩ := hZ9
                  obtain ⟨b928, hZ9⟩ := hZ9
                  replace hZ9 := hZ9.2.2.2.2
                  obtain ⟨b933, hZ9⟩ := hZ9
                  obtain ⟨b934, hZ9⟩ := hZ9
                  replace hZ9 := hZ9.2.2.2
                  obtain ⟨b938, hZ9⟩ := hZ9
                  obtain ⟨b939, hZ9⟩ := hZ9
                  obtain ⟨b940, hE941⟩ := hZ9
                  replace hO866 : u864[3]? = (some (q 3, .inr (1, [.ref (q 4), .int 11008, .int y867])) : Option (Nat × va_E)) := hO866
                  replace hA869 : u864[4]? = (some (q 4, .inl (g 1, (1376 : Int32).toNatClampNeg, .inr (.inl f868))) : Option (Nat × va_E)) := hA869
                  replace hO870 : u864[36]? = (some (q 36, .inr (7, [.int y871, .int y872, .ref (q 37)])) : Option (Nat × va_E)) := hO870
                  replace hA874 : u864[37]? = (some (q 37, .inl (g 2, 1026, .inl f873)) : Option (Nat × va_E)) := hA874
                  replace hO875 : u864[10]? = (some (q 10, .inr (2, [.ref (q 11), .int y876, .int y877])) : Option (Nat × va_E)) := hO875
                  replace hA879 : u864[11]? = (some (q 11, .inl (g 0, (220 : Int32).toNatClampNeg, .inl f878)) : Option (Nat × va_E)) := hA879
                  replace hO880 : u864[22]? = (some (q 22, .inr (2, [.ref (q 23), .int y881, .int y882])) : Option (Nat × va_E)) := hO880
                  replace hA884 : u864[23]? = (some (q 23, .inl (g 0, (220 : Int32).toNatClampNeg, .inl f883)) : Option (Nat × va_E)) := hA884
                  replace hO885 : u864[24]? = (some (q 24, .inr (2, [.ref (q 25), .int y886, .int y887])) : Option (Nat × va_E)) := hO885
                  replace hA889 : u864[25]? = (some (q 25, .inl (g 0, (220 : Int32).toNatClampNeg, .inl f888)) : Option (Nat × va_E)) := hA889
                  replace hO890 : u864[26]? = (some (q 26, .inr (2, [.ref (q 27), .int y891, .int y892])) : Option (Nat × va_E)) := hO890
                  replace hA894 : u864[27]? = (some (q 27, .inl (g 0, (220 : Int32).toNatClampNeg, .inl f893)) : Option (Nat × va_E)) := hA894
                  replace hO895 : u864[28]? = (some (q 28, .inr (2, [.ref (q 29), .int y896, .int y897])) : Option (Nat × va_E)) := hO895
                  replace hA899 : u864[29]? = (some (q 29, .inl (g 0, (220 : Int32).toNatClampNeg, .inl f898)) : Option (Nat × va_E)) := hA899
                  replace hO900 : u864[35]? = (some (q 35, .inr (6, [.int 23, .int 150, .int 255, .long y901, .int y902, .ref (q 9), .int y903])) : Option (Nat × va_E)) := hO900
                  obtain ⟨p943, e944⟩ : ∃ z, z = (F_Wri_floatText (23 : Int32) (150 : Int32) (255 : Int32) j858 (0 : Int32) t0_0 t1_0 t4_0 t4_1 t5_0 t2_0 t2_1 t3_0 t8_0 t8_1 t9_0 t10_0 t10_1 t11_0 t12_0 t12_1 t13_0 t14_0 t14_1 t15_0 t17_0 t17_1 t17_2) := ⟨_, rfl⟩
                  have e945 : y867 = p943.1 := congrArg (fun z => z.1) (hE941.trans e944.symm)
                  have e946 : f868 = p943.2.1 := congrArg (fun z => z.2.1) (hE941.trans e944.symm)
                  have e947 : y871 = p943.2.2.1 := congrArg (fun z => z.2.2.1) (hE941.trans e944.symm)
                  have e948 : y872 = p943.2.2.2.1 := congrArg (fun z => z.2.2.2.1) (hE941.trans e944.symm)
                  have e949 : f873 = p943.2.2.2.2.1 := congrArg (fun z => z.2.2.2.2.1) (hE941.trans e944.symm)
                  have e950 : y876 = p943.2.2.2.2.2.1 := congrArg (fun z => z.2.2.2.2.2.1) (hE941.trans e944.symm)
                  have e951 : y877 = p943.2.2.2.2.2.2.1 := congrArg (fun z => z.2.2.2.2.2.2.1) (hE941.trans e944.symm)
                  have e952 : f878 = p943.2.2.2.2.2.2.2.1 := congrArg (fun z => z.2.2.2.2.2.2.2.1) (hE941.trans e944.symm)
                  have e953 : y881 = p943.2.2.2.2.2.2.2.2.1 := congrArg (fun z => z.2.2.2.2.2.2.2.2.1) (hE941.trans e944.symm)
                  have e954 : y882 = p943.2.2.2.2.2.2.2.2.2.1 := congrArg (fun z => z.2.2.2.2.2.2.2.2.2.1) (hE941.trans e944.symm)
                  have e955 : f883 = p943.2.2.2.2.2.2.2.2.2.2.1 := congrArg (fun z => z.2.2.2.2.2.2.2.2.2.2.1) (hE941.trans e944.symm)
                  have e956 : y886 = p943.2.2.2.2.2.2.2.2.2.2.2.1 := congrArg (fun z => z.2.2.2.2.2.2.2.2.2.2.2.1) (hE941.trans e944.symm)
                  have e957 : y887 = p943.2.2.2.2.2.2.2.2.2.2.2.2.1 := congrArg (fun z => z.2.2.2.2.2.2.2.2.2.2.2.2.1) (hE941.trans e944.symm)
                  have e958 : f888 = p943.2.2.2.2.2.2.2.2.2.2.2.2.2.1 := congrArg (fun z => z.2.2.2.2.2.2.2.2.2.2.2.2.2.1) (hE941.trans e944.symm)
                  have e959 : y891 = p943.2.2.2.2.2.2.2.2.2.2.2.2.2.2.1 := congrArg (fun z => z.2.2.2.2.2.2.2.2.2.2.2.2.2.2.1) (hE941.trans e944.symm)
                  have e960 : y892 = p943.2.2.2.2.2.2.2.2.2.2.2.2.2.2.2.1 := congrArg (fun z => z.2.2.2.2.2.2.2.2.2.2.2.2.2.2.2.1) (hE941.trans e944.symm)
                  have e961 : f893 = p943.2.2.2.2.2.2.2.2.2.2.2.2.2.2.2.2.1 := congrArg (fun z => z.2.2.2.2.2.2.2.2.2.2.2.2.2.2.2.2.1) (hE941.trans e944.symm)
                  have e962 : y896 = p943.2.2.2.2.2.2.2.2.2.2.2.2.2.2.2.2.2.1 := congrArg (fun z => z.2.2.2.2.2.2.2.2.2.2.2.2.2.2.2.2.2.1) (hE941.trans e944.symm)
                  have e963 : y897 = p943.2.2.2.2.2.2.2.2.2.2.2.2.2.2.2.2.2.2.1 := congrArg (fun z => z.2.2.2.2.2.2.2.2.2.2.2.2.2.2.2.2.2.2.1) (hE941.trans e944.symm)
                  have e964 : f898 = p943.2.2.2.2.2.2.2.2.2.2.2.2.2.2.2.2.2.2.2.1 := congrArg (fun z => z.2.2.2.2.2.2.2.2.2.2.2.2.2.2.2.2.2.2.2.1) (hE941.trans e944.symm)
                  have e965 : y901 = p943.2.2.2.2.2.2.2.2.2.2.2.2.2.2.2.2.2.2.2.2.1 := congrArg (fun z => z.2.2.2.2.2.2.2.2.2.2.2.2.2.2.2.2.2.2.2.2.1) (hE941.trans e944.symm)
                  have e966 : y902 = p943.2.2.2.2.2.2.2.2.2.2.2.2.2.2.2.2.2.2.2.2.2.1 := congrArg (fun z => z.2.2.2.2.2.2.2.2.2.2.2.2.2.2.2.2.2.2.2.2.2.1) (hE941.trans e944.symm)
                  have e967 : y903 = p943.2.2.2.2.2.2.2.2.2.2.2.2.2.2.2.2.2.2.2.2.2.2 := congrArg (fun z => z.2.2.2.2.2.2.2.2.2.2.2.2.2.2.2.2.2.2.2.2.2.2) (hE941.trans e944.symm)
                  replace b904 : q_F (2 ≤ y867.toInt) := b904
                  replace b906 : q_F (0 ≤ y871.toInt) := b906
                  replace b907 : q_F (y871.toInt ≤ 1026) := b907
                  replace b908 : q_F (0 ≤ y872.toInt + 1000000) := b908
                  replace b909 : q_F (y872.toInt ≤ 1000000) := b909
                  replace b910 : q_F (0 ≤ y876.toInt) := b910
                  replace b911 : q_F (y876.toInt ≤ 220) := b911
                  replace b912 : q_F (0 ≤ y877.toInt) := b912
                  replace b913 : q_F (y877.toInt ≤ 21) := b913
                  replace b914 : q_F (0 ≤ y881.toInt) := b914
                  replace b915 : q_F (y881.toInt ≤ 220) := b915
                  replace b916 : q_F (0 ≤ y882.toInt) := b916
                  replace b917 : q_F (y882.toInt ≤ 2) := b917
                  replace b918 : q_F (0 ≤ y886.toInt) := b918
                  replace b919 : q_F (y886.toInt ≤ 220) := b919
                  replace b920 : q_F (0 ≤ y887.toInt) := b920
                  replace b921 : q_F (y887.toInt ≤ 1) := b921
                  replace b922 : q_F (0 ≤ y891.toInt) := b922
                  replace b923 : q_F (y891.toInt ≤ 220) := b923
                  replace b924 : q_F (0 ≤ y892.toInt) := b924
                  replace b925 : q_F (y892.toInt ≤ 1) := b925
                  replace b926 : q_F (0 ≤ y896.toInt) := b926
                  replace b927 : q_F (y896.toInt ≤ 220) := b927
                  replace b928 : q_F (0 ≤ y897.toInt) := b928
                  replace b933 : q_F (y877.toInt ≤ t2_1.toInt + 20) := b933
                  replace b934 : q_F (y882.toInt ≤ t2_1.toInt + 1) := b934
                  replace b938 : q_F (y877.toInt ≤ y872.toInt + 1000001) := b938
                  replace b939 : q_F (y882.toInt ≤ y872.toInt + 1000001) := b939
                  replace b940 : q_F (y882.toInt ≤ y877.toInt + 1) := b940
                  replace hT16 := (hu942 _ (by decide)).trans hT16
                  replace hO141 := (hu942 _ (by decide)).trans hO141
                  replace hF := q_uc hF hu942 (by simp)
                  have hR968 := (show F_NH_print_c127_8 x2 x3 x4 t0_0 t1_0 t2_0 t2_1 t3_0 t4_0 t4_1 t5_0 t6_0 t7_0 t8_0 t8_1 t9_0 t10_0 t10_1 t11_0 t12_0 t12_1 t13_0 t14_0 t14_1 t15_0 t16_0 t16_1 t16_2 t17_0 t17_1 t17_2 t18_0 t18_1 t19_0 t20_0 t20_1 t21_0 t21_1 t22_0 lx100 p943 = (F_NH_print x2 x3 x4 t0_0 t1_0 t2_0 t2_1 t3_0 t4_0 t4_1 t5_0 t6_0 t7_0 t8_0 t8_1 t9_0 t10_0 t10_1 t11_0 t12_0 t12_1 t13_0 t14_0 t14_1 t15_0 t16_0 t16_1 t16_2 t17_0 t17_1 t17_2 t18_0 t18_1 t19_0 t20_0 t20_1 t21_0 t21_1 t22_0) from Eq.trans (by rw [e944, ← e859, F_NH_print_J98.eq_1, if_pos c138, if_neg c146, if_neg c622, if_neg c860]) hR127)
                  have hS969 := (show True ∧ S_NH_print_c127_8 x2 x3 x4 t0_0 t1_0 t2_0 t2_1 t3_0 t4_0 t4_1 t5_0 t6_0 t7_0 t8_0 t8_1 t9_0 t10_0 t10_1 t11_0 t12_0 t12_1 t13_0 t14_0 t14_1 t15_0 t16_0 t16_1 t16_2 t17_0 t17_1 t17_2 t18_0 t18_1 t19_0 t20_0 t20_1 t21_0 t21_1 t22_0 lx100 p943 from (by rw [e944, ← e859]; have h := hS128; rw [S_NH_print_J98.eq_1] at h; rw [if_pos c138] at h; rw [if_neg c146] at h; rw [if_neg c622] at h; replace h := q_s2 h; replace h := q_s2 h; rw [if_neg c860] at h; replace h := q_s2 h; with_reducible exact h))
                  refine lv_aload_n hx hb d_1_17_130 rfl (lv_at hl 0 rfl) ?_
                  refine q_get (ci := 0) (j := 1) (v := .ref (q 3)) C0 V i_NH rfl rfl hO141 (by decide) w_425 rfl d_1_17_131 ?_
                  refine q_get (ci := 1) (j := 2) (v := .int y867) C0 V i_She rfl rfl hO866 (by decide) w_56 rfl d_1_17_134 ?_
                  exact q_retX (q_reti C0 V (⟨hI, hF, y867, f868, y876, y877, f878, y871, y872, f873, y881, y882, f883, y886, y887, f888, y891, y892, f893, y896, y897, f898, t16_0, t16_1, t16_2, y901, y902, y903, hO866, hA869, hO875, hA879, hO870, hA874, hO880, hA884, hO885, hA889, hO890, hA894, hO895, hA899, hT16, hO900, (show 0 ≤ y867.toInt from (by first | with_reducible exact q_fe b904 | (have t1 : 2 ≤ y867.toInt := b904; omega))), (show 0 ≤ y867.toInt from (by first | with_reducible exact q_fe b904 | (have t1 : 2 ≤ y867.toInt := b904; omega))), (show 0 ≤ y876.toInt from (by first | with_reducible exact q_fe b910 | (have t1 : 0 ≤ y876.toInt := b910; omega))), (show y876.toInt ≤ 220 from (by first | with_reducible exact q_fe b911 | (have t1 : y876.toInt ≤ 220 := b911; omega))), (show 0 ≤ y877.toInt from (by first | with_reducible exact q_fe b912 | (have t1 : 0 ≤ y877.toInt := b912; omega))), (show y877.toInt ≤ 21 from (by first | with_reducible exact q_fe b913 | (have t1 : y877.toInt ≤ 21 := b913; omega))), (show 0 ≤ y871.toInt from (by first | with_reducible exact q_fe b906 | (have t1 : 0 ≤ y871.toInt := b906; omega))), (show y871.toInt ≤ 1026 from (by first | with_reducible exact q_fe b907 | (have t1 : y871.toInt ≤ 1026 := b907; omega))), (show 0 ≤ y872.toInt + 1000000 from (by first | with_reducible exact q_fe b908 | (have t1 : 0 ≤ y872.toInt + 1000000 := b908; omega))), (show y872.toInt ≤ 1000000 from (by first | with_reducible exact q_fe b909 | (have t1 : y872.toInt ≤ 1000000 := b909; omega))), (show 0 ≤ y881.toInt from (by first | with_reducible exact q_fe b914 | (have t1 : 0 ≤ y881.toInt := b914; omega))), (show y881.toInt ≤ 220 from (by first | with_reducible exact q_fe b915 | (have t1 : y881.toInt ≤ 220 := b915; omega))), (show 0 ≤ y882.toInt from (by first | with_reducible exact q_fe b916 | (have t1 : 0 ≤ y882.toInt := b916; omega))), (show y882.toInt ≤ 2 from (by first | with_reducible exact q_fe b917 | (have t1 : y882.toInt ≤ 2 := b917; omega))), (show 0 ≤ y886.toInt from (by first | with_reducible exact q_fe b918 | (have t1 : 0 ≤ y886.toInt := b918; omega))), (show y886.toInt ≤ 220 from (by first | with_reducible exact q_fe b919 | (have t1 : y886.toInt ≤ 220 := b919; omega))), (show 0 ≤ y887.toInt from (by first | with_reducible exact q_fe b920 | (have t1 : 0 ≤ y887.toInt := b920; omega))), (show y887.toInt ≤ 1 from (by first | with_reducible exact q_fe b921 | (have t1 : y887.toInt ≤ 1 := b921; omega))), (show 0 ≤ y891.toInt from (by first | with_reducible exact q_fe b922 | (have t1 : 0 ≤ y891.toInt := b922; omega))), (show y891.toInt ≤ 220 from (by first | with_reducible exact q_fe b923 | (have t1 : y891.toInt ≤ 220 := b923; omega))), (show 0 ≤ y892.toInt from (by first | with_reducible exact q_fe b924 | (have t1 : 0 ≤ y892.toInt := b924; omega))), (show y892.toInt ≤ 1 from (by first | with_reducible exact q_fe b925 | (have t1 : y892.toInt ≤ 1 := b925; omega))), (show 0 ≤ y896.toInt from (by first | with_reducible exact q_fe b926 | (have t1 : 0 ≤ y896.toInt := b926; omega))), (show y896.toInt ≤ 220 from (by first | with_reducible exact q_fe b927 | (have t1 : y896.toInt ≤ 220 := b927; omega))), (show 0 ≤ y897.toInt from (by first | with_reducible exact q_fe b928 | (have t1 : 0 ≤ y897.toInt := b928; omega))), (show x3.toInt ≤ y867.toInt + 9 from (by have t1 : x3.toInt ≤ 9 := ob857; have t2 : 2 ≤ y867.toInt := b904; omega)), (show t21_1.toInt ≤ y867.toInt from (by have t1 : 0 ≤ t21_1.toInt ∧ t21_1.toInt ≤ 1 := btt21_1; have t2 : 2 ≤ y867.toInt := b904; omega)), (show x3.toInt ≤ y876.toInt + 9 from (by have t1 : x3.toInt ≤ 9 := ob857; have t2 : 0 ≤ y876.toInt := b910; omega)), (show y876.toInt ≤ x3.toInt + 220 from (by have t1 : 0 ≤ x3.toInt := ob856; have t2 : y876.toInt ≤ 220 := b911; omega)), (show x3.toInt ≤ y877.toInt + 9 from (by have t1 : x3.toInt ≤ 9 := ob857; have t2 : 0 ≤ y877.toInt := b912; omega)), (show y877.toInt ≤ x3.toInt + 21 from (by have t1 : 0 ≤ x3.toInt := ob856; have t2 : y877.toInt ≤ 21 := b913; omega)), (show y877.toInt ≤ t2_1.toInt + 20 from (by first | with_reducible exact q_fe b933 | (have t1 : y877.toInt ≤ t2_1.toInt + 20 := b933; omega))), (show x3.toInt ≤ y871.toInt + 9 from (by have t1 : x3.toInt ≤ 9 := ob857; have t2 : 0 ≤ y871.toInt := b906; omega)), (show y871.toInt ≤ x3.toInt + 1026 from (by have t1 : 0 ≤ x3.toInt := ob856; have t2 : y871.toInt ≤ 1026 := b907; omega)), (show x3.toInt ≤ y872.toInt + 1000009 from (by have t1 : x3.toInt ≤ 9 := ob857; have t2 : 0 ≤ y872.toInt + 1000000 := b908; omega)), (show y872.toInt ≤ x3.toInt + 1000000 from (by have t1 : 0 ≤ x3.toInt := ob856; have t2 : y872.toInt ≤ 1000000 := b909; omega)), (show x3.toInt ≤ y881.toInt + 9 from (by have t1 : x3.toInt ≤ 9 := ob857; have t2 : 0 ≤ y881.toInt := b914; omega)), (show y881.toInt ≤ x3.toInt + 220 from (by have t1 : 0 ≤ x3.toInt := ob856; have t2 : y881.toInt ≤ 220 := b915; omega)), (show x3.toInt ≤ y882.toInt + 9 from (by have t1 : x3.toInt ≤ 9 := ob857; have t2 : 0 ≤ y882.toInt := b916; omega)), (show y882.toInt ≤ x3.toInt + 2 from (by have t1 : 0 ≤ x3.toInt := ob856; have t2 : y882.toInt ≤ 2 := b917; omega)), (show y882.toInt ≤ t2_1.toInt + 1 from (by first | with_reducible exact q_fe b934 | (have t1 : y882.toInt ≤ t2_1.toInt + 1 := b934; omega))), (show x3.toInt ≤ y886.toInt + 9 from (by have t1 : x3.toInt ≤ 9 := ob857; have t2 : 0 ≤ y886.toInt := b918; omega)), (show y886.toInt ≤ x3.toInt + 220 from (by have t1 : 0 ≤ x3.toInt := ob856; have t2 : y886.toInt ≤ 220 := b919; omega)), (show x3.toInt ≤ y887.toInt + 9 from (by have t1 : x3.toInt ≤ 9 := ob857; have t2 : 0 ≤ y887.toInt := b920; omega)), (show y887.toInt ≤ x3.toInt + 1 from (by have t1 : 0 ≤ x3.toInt := ob856; have t2 : y887.toInt ≤ 1 := b921; omega)), (show x3.toInt ≤ y891.toInt + 9 from (by have t1 : x3.toInt ≤ 9 := ob857; have t2 : 0 ≤ y891.toInt := b922; omega)), (show y891.toInt ≤ x3.toInt + 220 from (by have t1 : 0 ≤ x3.toInt := ob856; have t2 : y891.toInt ≤ 220 := b923; omega)), (show x3.toInt ≤ y892.toInt + 9 from (by have t1 : x3.toInt ≤ 9 := ob857; have t2 : 0 ≤ y892.toInt := b924; omega)), (show y892.toInt ≤ x3.toInt + 1 from (by have t1 : 0 ≤ x3.toInt := ob856; have t2 : y892.toInt ≤ 1 := b925; omega)), (show x3.toInt ≤ y896.toInt + 9 from (by have t1 : x3.toInt ≤ 9 := ob857; have t2 : 0 ≤ y896.toInt := b926; omega)), (show y896.toInt ≤ x3.toInt + 220 from (by have t1 : 0 ≤ x3.toInt := ob856; have t2 : y896.toInt ≤ 220 := b927; omega)), (show x3.toInt ≤ y897.toInt + 9 from (by have t1 : x3.toInt ≤ 9 := ob857; have t2 : 0 ≤ y897.toInt := b928; omega)), (show y867.toInt ≤ y867.toInt from (by omega)), (show y867.toInt ≤ y867.toInt from (by omega)), (show y876.toInt ≤ y867.toInt + 218 from (by have t1 : 2 ≤ y867.toInt := b904; have t2 : y876.toInt ≤ 220 := b911; omega)), (show y877.toInt ≤ y867.toInt + 19 from (by have t1 : 2 ≤ y867.toInt := b904; have t2 : y877.toInt ≤ 21 := b913; omega)), (show y882.toInt ≤ y867.toInt + 1 from (by have t1 : 2 ≤ y867.toInt := b904; have t2 : y882.toInt ≤ 2 := b917; omega)), (show y877.toInt ≤ y872.toInt + 1000001 from (by first | with_reducible exact q_fe b938 | (have t1 : y877.toInt ≤ y872.toInt + 1000001 := b938; omega))), (show y882.toInt ≤ y877.toInt + 1 from (by first | with_reducible exact q_fe b940 | (have t1 : y882.toInt ≤ y877.toInt + 1 := b940; omega))), (show y882.toInt ≤ y872.toInt + 1000001 from (by first | with_reducible exact q_fe b939 | (have t1 : y882.toInt ≤ y872.toInt + 1000001 := b939; omega))), (show ((0 : Int32), y867, y867, f868, y876, y877, f878, y871, y872, f873, y881, y882, f883, y886, y887, f888, y891, y892, f893, y896, y897, f898, t16_0, t16_1, t16_2, y901, y902, y903) = (F_NH_print x2 x3 x4 t0_0 t1_0 t2_0 t2_1 t3_0 t4_0 t4_1 t5_0 t6_0 t7_0 t8_0 t8_1 t9_0 t10_0 t10_1 t11_0 t12_0 t12_1 t13_0 t14_0 t14_1 t15_0 t16_0 t16_1 t16_2 t17_0 t17_1 t17_2 t18_0 t18_1 t19_0 t20_0 t20_1 t21_0 t21_1 t22_0) from Eq.trans (by rw [e967, e966, e965, e964, e963, e962, e961, e960, e959, e958, e957, e956, e955, e954, e953, e952, e951, e950, e949, e948, e947, e946, e945, F_NH_print_c127_8.eq_1]) hR968)⟩) d_1_17_137)
                ·
                  refine lv_iconst (v := 1) hx hb d_1_17_122 (by decide) ?_
                  refine lv_goto (tgt := 127) hx hb d_1_17_123 (by decide) ?_
                  have ob974 : True ∧ S_Wri_floatText (23 : Int32) (150 : Int32) (255 : Int32) j858 (1 : Int32) t0_0 t1_0 t4_0 t4_1 t5_0 t2_0 t2_1 t3_0 t8_0 t8_1 t9_0 t10_0 t10_1 t11_0 t12_0 t12_1 t13_0 t14_0 t14_1 t15_0 t17_0 t17_1 t17_2 := (by rw [← e859]; have h := hS128; rw [S_NH_print_J98.eq_1] at h; rw [if_pos c138] at h; rw [if_neg c146] at h; rw [if_neg c622] at h; replace h := q_s2 h; replace h := q_s2 h; rw [if_pos c860] at h; with_reducible exact h.2.1)
                  have hO975 := n_o39 hI
                  refine q_gov V (q_runV (As := [.ref (q 35), .long j858, .int 1]) (rest := []) (d := 7) (mc := 0) (ms := 0) (ci := 9) C0 V rfl LV_NH_332 (X_Wri_floatText l D g q ws 35 23 150 255 (n_f35 g q) j858 1 hI t0_0 hT0 t1_0 hT1 t4_0 t4_1 hT4 t5_0 hT5 t2_0 t2_1 hT2 t3_0 hT3 t8_0 t8_1 hT8 t9_0 hT9 t10_0 t10_1 hT10 t11_0 hT11 t12_0 t12_1 hT12 t13_0 hT13 t14_0 t14_1 hT14 t15_0 hT15 t17_0 t17_1 t17_2 hT17 ⟨(by have y0 : (23 : Int32).toInt = 23 := rfl; have y1 : (150 : Int32).toInt = 150 := rfl; have y2 : (255 : Int32).toInt = 255 := rfl; have y3 : (1 : Int32).toInt = 1 := rfl; omega), (by have y0 : (23 : Int32).toInt = 23 := rfl; have y1 : (150 : Int32).toInt = 150 := rfl; have y2 : (255 : Int32).toInt = 255 := rfl; have y3 : (1 : Int32).toInt = 1 := rfl; omega)⟩ ob974 _) rfl rfl hO975 rfl hl.1 rfl (Nat.le_of_ble_eq_true rfl) ⟨by decide, by decide⟩ ⟨Nat.le_of_ble_eq_true rfl, Nat.le_of_ble_eq_true rfl⟩ d_1_17_127) (fun u976 H locs hp977 V => ?_)
                  obtain ⟨hI, hZ9⟩ := hp977
                  obtain ⟨hu1054, hZ9⟩ := hZ9
                  obtain ⟨y979, hZ9⟩ := hZ9
                  obtain ⟨f980, hZ9⟩ := hZ9
                  obtain ⟨y983, hZ9⟩ := hZ9
                  obtain ⟨y984, hZ9⟩ := hZ9
                  obtain ⟨f985, hZ9⟩ := hZ9
                  obtain ⟨y988, hZ9⟩ := hZ9
                  obtain ⟨y989, hZ9⟩ := hZ9
                  obtain ⟨f990, hZ9⟩ := hZ9
                  obtain ⟨y993, hZ9⟩ := hZ9
                  obtain ⟨y994, hZ9⟩ := hZ9
                  obtain ⟨f995, hZ9⟩ := hZ9
                  obtain ⟨y998, hZ9⟩ := hZ9
                  obtain ⟨y999, hZ9⟩ := hZ9
                  obtain ⟨f1000, hZ9⟩ := hZ9
                  obtain ⟨y1003, hZ9⟩ := hZ9
                  obtain ⟨y1004, hZ9⟩ := hZ9
                  obtain ⟨f1005, hZ9⟩ := hZ9
                  obtain ⟨y1008, hZ9⟩ := hZ9
                  obtain ⟨y1009, hZ9⟩ := hZ9
                  obtain ⟨f1010, hZ9⟩ := hZ9
                  obtain ⟨y1013, hZ9⟩ := hZ9
                  obtain ⟨y1014, hZ9⟩ := hZ9
                  obtain ⟨y1015, hZ9⟩ := hZ9
                  obtain ⟨hO978, hZ9⟩ := hZ9
                  obtain ⟨hA981, hZ9⟩ := hZ9
                  obtain ⟨hO982, hZ9⟩ := hZ9
                  obtain ⟨hA986, hZ9⟩ := hZ9
                  obtain ⟨hO987, hZ9⟩ := hZ9
                  obtain ⟨hA991, hZ9⟩ := hZ9
                  obtain ⟨hO992, hZ9⟩ := hZ9
                  obtain ⟨hA996, hZ9⟩ := hZ9
                  obtain ⟨hO997, hZ9⟩ := hZ9
                  obtain ⟨hA1001, hZ9⟩ := hZ9
                  obtain ⟨hO1002, hZ9⟩ := hZ9
                  obtain ⟨hA1006, hZ9⟩ := hZ9
                  obtain ⟨hO1007, hZ9⟩ := hZ9
                  obtain ⟨hA1011, hZ9⟩ := hZ9
                  obtain ⟨hO1012, hZ9⟩ := hZ9
                  obtain ⟨b1016, hZ9⟩ := hZ9
                  replace hZ9 := hZ9.2
                  obtain ⟨b1018, hZ9⟩ := hZ9
                  obtain ⟨b1019, hZ9⟩ := hZ9
                  obtain ⟨b1020, hZ9⟩ := hZ9
                  obtain ⟨b1021, hZ9⟩ := hZ9
                  obtain ⟨b1022, hZ9⟩ := hZ9
                  obtain ⟨b1023, hZ9⟩ := hZ9
                  obtain ⟨b1024, hZ9⟩ := hZ9
                  obtain ⟨b1025, hZ9⟩ := hZ9
                  obtain ⟨b1026, hZ9⟩ := hZ9
                  obtain ⟨b1027, hZ9⟩ := hZ9
                  obtain ⟨b1028, hZ9⟩ := hZ9
                  obtain ⟨b1029, hZ9⟩ := hZ9
                  obtain ⟨b1030, hZ9⟩ := hZ9
                  obtain ⟨b1031, hZ9⟩ := hZ9
                  obtain ⟨b1032, hZ9⟩ := hZ9
                  obtain ⟨b1033, hZ9⟩ := hZ9
                  obtain ⟨b1034, hZ9⟩ := hZ9
                  obtain ⟨b1035, hZ9⟩ := hZ9
                  obtain ⟨b1036, hZ9⟩ := hZ9
                  obtain ⟨b1037, hZ9⟩ := hZ9
                  obtain ⟨b1038, hZ9⟩ := hZ9
                  obtain ⟨b1039, hZ9⟩ := hZ9
                  obtain ⟨b1040, hZ9⟩ := hZ9
                  replace hZ9 := hZ9.2.2.2.2
                  obtain ⟨b1045, hZ9⟩ := hZ9
                  obtain ⟨b1046, hZ9⟩ := hZ9
                  replace hZ9 := hZ9.2.2.2
                  obtain ⟨b1050, hZ9⟩ := hZ9
                  obtain ⟨b1051, hZ9⟩ := hZ9
                  obtain ⟨b1052, hE1053⟩ := hZ9
                  replace hO978 : u976[3]? = (some (q 3, .inr (1, [.ref (q 4), .int 11008, .int y979])) : Option (Nat × va_E)) := hO978
                  replace hA981 : u976[4]? = (some (q 4, .inl (g 1, (1376 : Int32).toNatClampNeg, .inr (.inl f980))) : Option (Nat × va_E)) := hA981
                  replace hO982 : u976[36]? = (some (q 36, .inr (7, [.int y983, .int y984, .ref (q 37)])) : Option (Nat × va_E)) := hO982
                  replace hA986 : u976[37]? = (some (q 37, .inl (g 2, 1026, .inl f985)) : Option (Nat × va_E)) := hA986
                  replace hO987 : u976[10]? = (some (q 10, .inr (2, [.ref (q 11), .int y988, .int y989])) : Option (Nat × va_E)) := hO987
                  replace hA991 : u976[11]? = (some (q 11, .inl (g 0, (220 : Int32).toNatClampNeg, .inl f990)) : Option (Nat × va_E)) := hA991
                  replace hO992 : u976[22]? = (some (q 22, .inr (2, [.ref (q 23), .int y993, .int y994])) : Option (Nat × va_E)) := hO992
                  replace hA996 : u976[23]? = (some (q 23, .inl (g 0, (220 : Int32).toNatClampNeg, .inl f995)) : Option (Nat × va_E)) := hA996
                  replace hO997 : u976[24]? = (some (q 24, .inr (2, [.ref (q 25), .int y998, .int y999])) : Option (Nat × va_E)) := hO997
                  replace hA1001 : u976[25]? = (some (q 25, .inl (g 0, (220 : Int32).toNatClampNeg, .inl f1000)) : Option (Nat × va_E)) := hA1001
                  replace hO1002 : u976[26]? = (some (q 26, .inr (2, [.ref (q 27), .int y1003, .int y1004])) : Option (Nat × va_E)) := hO1002
                  replace hA1006 : u976[27]? = (some (q 27, .inl (g 0, (220 : Int32).toNatClampNeg, .inl f1005)) : Option (Nat × va_E)) := hA1006
                  replace hO1007 : u976[28]? = (some (q 28, .inr (2, [.ref (q 29), .int y1008, .int y1009])) : Option (Nat × va_E)) := hO1007
                  replace hA1011 : u976[29]? = (some (q 29, .inl (g 0, (220 : Int32).toNatClampNeg, .inl f1010)) : Option (Nat × va_E)) := hA1011
                  replace hO1012 : u976[35]? = (some (q 35, .inr (6, [.int 23, .int 150, .int 255, .long y1013, .int y1014, .ref (q 9), .int y1015])) : Option (Nat × va_E)) := hO1012
                  obtain ⟨p1055, e1056⟩ : ∃ z, z = (F_Wri_floatText (23 : Int32) (150 : Int32) (255 : Int32) j858 (1 : Int32) t0_0 t1_0 t4_0 t4_1 t5_0 t2_0 t2_1 t3_0 t8_0 t8_1 t9_0 t10_0 t10_1 t11_0 t12_0 t12_1 t13_0 t14_0 t14_1 t15_0 t17_0 t17_1 t17_2) := ⟨_, rfl⟩
                  have e1057 : y979 = p1055.1 := congrArg (fun z => z.1) (hE1053.trans e1056.symm)
                  have e1058 : f980 = p1055.2.1 := congrArg (fun z => z.2.1) (hE1053.trans e1056.symm)
                  have e1059 : y983 = p1055.2.2.1 := congrArg (fun z => z.2.2.1) (hE1053.trans e1056.symm)
                  have e1060 : y984 = p1055.2.2.2.1 := congrArg (fun z => z.2.2.2.1) (hE1053.trans e1056.symm)
                  have e1061 : f985 = p1055.2.2.2.2.1 := congrArg (fun z => z.2.2.2.2.1) (hE1053.trans e1056.symm)
                  have e1062 : y988 = p1055.2.2.2.2.2.1 := congrArg (fun z => z.2.2.2.2.2.1) (hE1053.trans e1056.symm)
                  have e1063 : y989 = p1055.2.2.2.2.2.2.1 := congrArg (fun z => z.2.2.2.2.2.2.1) (hE1053.trans e1056.symm)
                  have e1064 : f990 = p1055.2.2.2.2.2.2.2.1 := congrArg (fun z => z.2.2.2.2.2.2.2.1) (hE1053.trans e1056.symm)
                  have e1065 : y993 = p1055.2.2.2.2.2.2.2.2.1 := congrArg (fun z => z.2.2.2.2.2.2.2.2.1) (hE1053.trans e1056.symm)
                  have e1066 : y994 = p1055.2.2.2.2.2.2.2.2.2.1 := congrArg (fun z => z.2.2.2.2.2.2.2.2.2.1) (hE1053.trans e1056.symm)
                  have e1067 : f995 = p1055.2.2.2.2.2.2.2.2.2.2.1 := congrArg (fun z => z.2.2.2.2.2.2.2.2.2.2.1) (hE1053.trans e1056.symm)
                  have e1068 : y998 = p1055.2.2.2.2.2.2.2.2.2.2.2.1 := congrArg (fun z => z.2.2.2.2.2.2.2.2.2.2.2.1) (hE1053.trans e1056.symm)
                  have e1069 : y999 = p1055.2.2.2.2.2.2.2.2.2.2.2.2.1 := congrArg (fun z => z.2.2.2.2.2.2.2.2.2.2.2.2.1) (hE1053.trans e1056.symm)
                  have e1070 : f1000 = p1055.2.2.2.2.2.2.2.2.2.2.2.2.2.1 := congrArg (fun z => z.2.2.2.2.2.2.2.2.2.2.2.2.2.1) (hE1053.trans e1056.symm)
                  have e1071 : y1003 = p1055.2.2.2.2.2.2.2.2.2.2.2.2.2.2.1 := congrArg (fun z => z.2.2.2.2.2.2.2.2.2.2.2.2.2.2.1) (hE1053.trans e1056.symm)
                  have e1072 : y1004 = p1055.2.2.2.2.2.2.2.2.2.2.2.2.2.2.2.1 := congrArg (fun z => z.2.2.2.2.2.2.2.2.2.2.2.2.2.2.2.1) (hE1053.trans e1056.symm)
                  have e1073 : f1005 = p1055.2.2.2.2.2.2.2.2.2.2.2.2.2.2.2.2.1 := congrArg (fun z => z.2.2.2.2.2.2.2.2.2.2.2.2.2.2.2.2.1) (hE1053.trans e1056.symm)
                  have e1074 : y1008 = p1055.2.2.2.2.2.2.2.2.2.2.2.2.2.2.2.2.2.1 := congrArg (fun z => z.2.2.2.2.2.2.2.2.2.2.2.2.2.2.2.2.2.1) (hE1053.trans e1056.symm)
                  have e1075 : y1009 = p1055.2.2.2.2.2.2.2.2.2.2.2.2.2.2.2.2.2.2.1 := congrArg (fun z => z.2.2.2.2.2.2.2.2.2.2.2.2.2.2.2.2.2.2.1) (hE1053.trans e1056.symm)
                  have e1076 : f1010 = p1055.2.2.2.2.2.2.2.2.2.2.2.2.2.2.2.2.2.2.2.1 := congrArg (fun z => z.2.2.2.2.2.2.2.2.2.2.2.2.2.2.2.2.2.2.2.1) (hE1053.trans e1056.symm)
                  have e1077 : y1013 = p1055.2.2.2.2.2.2.2.2.2.2.2.2.2.2.2.2.2.2.2.2.1 := congrArg (fun z => z.2.2.2.2.2.2.2.2.2.2.2.2.2.2.2.2.2.2.2.2.1) (hE1053.trans e1056.symm)
                  have e1078 : y1014 = p1055.2.2.2.2.2.2.2.2.2.2.2.2.2.2.2.2.2.2.2.2.2.1 := congrArg (fun z => z.2.2.2.2.2.2.2.2.2.2.2.2.2.2.2.2.2.2.2.2.2.1) (hE1053.trans e1056.symm)
                  have e1079 : y1015 = p1055.2.2.2.2.2.2.2.2.2.2.2.2.2.2.2.2.2.2.2.2.2.2 := congrArg (fun z => z.2.2.2.2.2.2.2.2.2.2.2.2.2.2.2.2.2.2.2.2.2.2) (hE1053.trans e1056.symm)
                  replace b1016 : q_F (2 ≤ y979.toInt) := b1016
                  replace b1018 : q_F (0 ≤ y983.toInt) := b1018
                  replace b1019 : q_F (y983.toInt ≤ 1026) := b1019
                  replace b1020 : q_F (0 ≤ y984.toInt + 1000000) := b1020
                  replace b1021 : q_F (y984.toInt ≤ 1000000) := b1021
                  replace b1022 : q_F (0 ≤ y988.toInt) := b1022
                  replace b1023 : q_F (y988.toInt ≤ 220) := b1023
                  replace b1024 : q_F (0 ≤ y989.toInt) := b1024
                  replace b1025 : q_F (y989.toInt ≤ 21) := b1025
                  replace b1026 : q_F (0 ≤ y993.toInt) := b1026
                  replace b1027 : q_F (y993.toInt ≤ 220) := b1027
                  replace b1028 : q_F (0 ≤ y994.toInt) := b1028
                  replace b1029 : q_F (y994.toInt ≤ 2) := b1029
                  replace b1030 : q_F (0 ≤ y998.toInt) := b1030
                  replace b1031 : q_F (y998.toInt ≤ 220) := b1031
                  replace b1032 : q_F (0 ≤ y999.toInt) := b1032
                  replace b1033 : q_F (y999.toInt ≤ 1) := b1033
                  replace b1034 : q_F (0 ≤ y1003.toInt) := b1034
                  replace b1035 : q_F (y1003.toInt ≤ 220) := b1035
                  replace b1036 : q_F (0 ≤ y1004.toInt) := b1036
                  replace b1037 : q_F (y1004.toInt ≤ 1) := b1037
                  replace b1038 : q_F (0 ≤ y1008.toInt) := b1038
                  replace b1039 : q_F (y1008.toInt ≤ 220) := b1039
                  replace b1040 : q_F (0 ≤ y1009.toInt) := b1040
                  replace b1045 : q_F (y989.toInt ≤ t2_1.toInt + 20) := b1045
                  replace b1046 : q_F (y994.toInt ≤ t2_1.toInt + 1) := b1046
                  replace b1050 : q_F (y989.toInt ≤ y984.toInt + 1000001) := b1050
                  replace b1051 : q_F (y994.toInt ≤ y984.toInt + 1000001) := b1051
                  replace b1052 : q_F (y994.toInt ≤ y989.toInt + 1) := b1052
                  replace hT16 := (hu1054 _ (by decide)).trans hT16
                  replace hO141 := (hu1054 _ (by decide)).trans hO141
                  replace hF := q_uc hF hu1054 (by simp)
                  have hR1080 := (show F_NH_print_c127_9 x2 x3 x4 t0_0 t1_0 t2_0 t2_1 t3_0 t4_0 t4_1 t5_0 t6_0 t7_0 t8_0 t8_1 t9_0 t10_0 t10_1 t11_0 t12_0 t12_1 t13_0 t14_0 t14_1 t15_0 t16_0 t16_1 t16_2 t17_0 t17_1 t17_2 t18_0 t18_1 t19_0 t20_0 t20_1 t21_0 t21_1 t22_0 lx100 p1055 = (F_NH_print x2 x3 x4 t0_0 t1_0 t2_0 t2_1 t3_0 t4_0 t4_1 t5_0 t6_0 t7_0 t8_0 t8_1 t9_0 t10_0 t10_1 t11_0 t12_0 t12_1 t13_0 t14_0 t14_1 t15_0 t16_0 t16_1 t16_2 t17_0 t17_1 t17_2 t18_0 t18_1 t19_0 t20_0 t20_1 t21_0 t21_1 t22_0) from Eq.trans (by rw [e1056, ← e859, F_NH_print_J98.eq_1, if_pos c138, if_neg c146, if_neg c622, if_pos c860]) hR127)
                  have hS1081 := (show True ∧ S_NH_print_c127_9 x2 x3 x4 t0_0 t1_0 t2_0 t2_1 t3_0 t4_0 t4_1 t5_0 t6_0 t7_0 t8_0 t8_1 t9_0 t10_0 t10_1 t11_0 t12_0 t12_1 t13_0 t14_0 t14_1 t15_0 t16_0 t16_1 t16_2 t17_0 t17_1 t17_2 t18_0 t18_1 t19_0 t20_0 t20_1 t21_0 t21_1 t22_0 lx100 p1055 from (by rw [e1056, ← e859]; have h := hS128; rw [S_NH_print_J98.eq_1] at h; rw [if_pos c138] at h; rw [if_neg c146] at h; rw [if_neg c622] at h; replace h := q_s2 h; replace h := q_s2 h; rw [if_pos c860] at h; replace h := q_s2 h; with_reducible exact h))
                  refine lv_aload_n hx hb d_1_17_130 rfl (lv_at hl 0 rfl) ?_
                  refine q_get (ci := 0) (j := 1) (v := .ref (q 3)) C0 V i_NH rfl rfl hO141 (by decide) w_425 rfl d_1_17_131 ?_
                  refine q_get (ci := 1) (j := 2) (v := .int y979) C0 V i_She rfl rfl hO978 (by decide) w_56 rfl d_1_17_134 ?_
                  exact q_retX (q_reti C0 V (⟨hI, hF, y979, f980, y988, y989, f990, y983, y984, f985, y993, y994, f995, y998, y999, f1000, y1003, y1004, f1005, y1008, y1009, f1010, t16_0, t16_1, t16_2, y1013, y1014, y1015, hO978, hA981, hO987, hA991, hO982, hA986, hO992, hA996, hO997, hA1001, hO1002, hA1006, hO1007, hA1011, hT16, hO1012, (show 0 ≤ y979.toInt from (by first | with_reducible exact q_fe b1016 | (have t1 : 2 ≤ y979.toInt := b1016; omega))), (show 0 ≤ y979.toInt from (by first | with_reducible exact q_fe b1016 | (have t1 : 2 ≤ y979.toInt := b1016; omega))), (show 0 ≤ y988.toInt from (by first | with_reducible exact q_fe b1022 | (have t1 : 0 ≤ y988.toInt := b1022; omega))), (show y988.toInt ≤ 220 from (by first | with_reducible exact q_fe b1023 | (have t1 : y988.toInt ≤ 220 := b1023; omega))), (show 0 ≤ y989.toInt from (by first | with_reducible exact q_fe b1024 | (have t1 : 0 ≤ y989.toInt := b1024; omega))), (show y989.toInt ≤ 21 from (by first | with_reducible exact q_fe b1025 | (have t1 : y989.toInt ≤ 21 := b1025; omega))), (show 0 ≤ y983.toInt from (by first | with_reducible exact q_fe b1018 | (have t1 : 0 ≤ y983.toInt := b1018; omega))), (show y983.toInt ≤ 1026 from (by first | with_reducible exact q_fe b1019 | (have t1 : y983.toInt ≤ 1026 := b1019; omega))), (show 0 ≤ y984.toInt + 1000000 from (by first | with_reducible exact q_fe b1020 | (have t1 : 0 ≤ y984.toInt + 1000000 := b1020; omega))), (show y984.toInt ≤ 1000000 from (by first | with_reducible exact q_fe b1021 | (have t1 : y984.toInt ≤ 1000000 := b1021; omega))), (show 0 ≤ y993.toInt from (by first | with_reducible exact q_fe b1026 | (have t1 : 0 ≤ y993.toInt := b1026; omega))), (show y993.toInt ≤ 220 from (by first | with_reducible exact q_fe b1027 | (have t1 : y993.toInt ≤ 220 := b1027; omega))), (show 0 ≤ y994.toInt from (by first | with_reducible exact q_fe b1028 | (have t1 : 0 ≤ y994.toInt := b1028; omega))), (show y994.toInt ≤ 2 from (by first | with_reducible exact q_fe b1029 | (have t1 : y994.toInt ≤ 2 := b1029; omega))), (show 0 ≤ y998.toInt from (by first | with_reducible exact q_fe b1030 | (have t1 : 0 ≤ y998.toInt := b1030; omega))), (show y998.toInt ≤ 220 from (by first | with_reducible exact q_fe b1031 | (have t1 : y998.toInt ≤ 220 := b1031; omega))), (show 0 ≤ y999.toInt from (by first | with_reducible exact q_fe b1032 | (have t1 : 0 ≤ y999.toInt := b1032; omega))), (show y999.toInt ≤ 1 from (by first | with_reducible exact q_fe b1033 | (have t1 : y999.toInt ≤ 1 := b1033; omega))), (show 0 ≤ y1003.toInt from (by first | with_reducible exact q_fe b1034 | (have t1 : 0 ≤ y1003.toInt := b1034; omega))), (show y1003.toInt ≤ 220 from (by first | with_reducible exact q_fe b1035 | (have t1 : y1003.toInt ≤ 220 := b1035; omega))), (show 0 ≤ y1004.toInt from (by first | with_reducible exact q_fe b1036 | (have t1 : 0 ≤ y1004.toInt := b1036; omega))), (show y1004.toInt ≤ 1 from (by first | with_reducible exact q_fe b1037 | (have t1 : y1004.toInt ≤ 1 := b1037; omega))), (show 0 ≤ y1008.toInt from (by first | with_reducible exact q_fe b1038 | (have t1 : 0 ≤ y1008.toInt := b1038; omega))), (show y1008.toInt ≤ 220 from (by first | with_reducible exact q_fe b1039 | (have t1 : y1008.toInt ≤ 220 := b1039; omega))), (show 0 ≤ y1009.toInt from (by first | with_reducible exact q_fe b1040 | (have t1 : 0 ≤ y1009.toInt := b1040; omega))), (show x3.toInt ≤ y979.toInt + 9 from (by have t1 : x3.toInt ≤ 9 := ob857; have t2 : 2 ≤ y979.toInt := b1016; omega)), (show t21_1.toInt ≤ y979.toInt from (by have t1 : 0 ≤ t21_1.toInt ∧ t21_1.toInt ≤ 1 := btt21_1; have t2 : 2 ≤ y979.toInt := b1016; omega)), (show x3.toInt ≤ y988.toInt + 9 from (by have t1 : x3.toInt ≤ 9 := ob857; have t2 : 0 ≤ y988.toInt := b1022; omega)), (show y988.toInt ≤ x3.toInt + 220 from (by have t1 : 0 ≤ x3.toInt := ob856; have t2 : y988.toInt ≤ 220 := b1023; omega)), (show x3.toInt ≤ y989.toInt + 9 from (by have t1 : x3.toInt ≤ 9 := ob857; have t2 : 0 ≤ y989.toInt := b1024; omega)), (show y989.toInt ≤ x3.toInt + 21 from (by have t1 : 0 ≤ x3.toInt := ob856; have t2 : y989.toInt ≤ 21 := b1025; omega)), (show y989.toInt ≤ t2_1.toInt + 20 from (by first | with_reducible exact q_fe b1045 | (have t1 : y989.toInt ≤ t2_1.toInt + 20 := b1045; omega))), (show x3.toInt ≤ y983.toInt + 9 from (by have t1 : x3.toInt ≤ 9 := ob857; have t2 : 0 ≤ y983.toInt := b1018; omega)), (show y983.toInt ≤ x3.toInt + 1026 from (by have t1 : 0 ≤ x3.toInt := ob856; have t2 : y983.toInt ≤ 1026 := b1019; omega)), (show x3.toInt ≤ y984.toInt + 1000009 from (by have t1 : x3.toInt ≤ 9 := ob857; have t2 : 0 ≤ y984.toInt + 1000000 := b1020; omega)), (show y984.toInt ≤ x3.toInt + 1000000 from (by have t1 : 0 ≤ x3.toInt := ob856; have t2 : y984.toInt ≤ 1000000 := b1021; omega)), (show x3.toInt ≤ y993.toInt + 9 from (by have t1 : x3.toInt ≤ 9 := ob857; have t2 : 0 ≤ y993.toInt := b1026; omega)), (show y993.toInt ≤ x3.toInt + 220 from (by have t1 : 0 ≤ x3.toInt := ob856; have t2 : y993.toInt ≤ 220 := b1027; omega)), (show x3.toInt ≤ y994.toInt + 9 from (by have t1 : x3.toInt ≤ 9 := ob857; have t2 : 0 ≤ y994.toInt := b1028; omega)), (show y994.toInt ≤ x3.toInt + 2 from (by have t1 : 0 ≤ x3.toInt := ob856; have t2 : y994.toInt ≤ 2 := b1029; omega)), (show y994.toInt ≤ t2_1.toInt + 1 from (by first | with_reducible exact q_fe b1046 | (have t1 : y994.toInt ≤ t2_1.toInt + 1 := b1046; omega))), (show x3.toInt ≤ y998.toInt + 9 from (by have t1 : x3.toInt ≤ 9 := ob857; have t2 : 0 ≤ y998.toInt := b1030; omega)), (show y998.toInt ≤ x3.toInt + 220 from (by have t1 : 0 ≤ x3.toInt := ob856; have t2 : y998.toInt ≤ 220 := b1031; omega)), (show x3.toInt ≤ y999.toInt + 9 from (by have t1 : x3.toInt ≤ 9 := ob857; have t2 : 0 ≤ y999.toInt := b1032; omega)), (show y999.toInt ≤ x3.toInt + 1 from (by have t1 : 0 ≤ x3.toInt := ob856; have t2 : y999.toInt ≤ 1 := b1033; omega)), (show x3.toInt ≤ y1003.toInt + 9 from (by have t1 : x3.toInt ≤ 9 := ob857; have t2 : 0 ≤ y1003.toInt := b1034; omega)), (show y1003.toInt ≤ x3.toInt + 220 from (by have t1 : 0 ≤ x3.toInt := ob856; have t2 : y1003.toInt ≤ 220 := b1035; omega)), (show x3.toInt ≤ y1004.toInt + 9 from (by have t1 : x3.toInt ≤ 9 := ob857; have t2 : 0 ≤ y1004.toInt := b1036; omega)), (show y1004.toInt ≤ x3.toInt + 1 from (by have t1 : 0 ≤ x3.toInt := ob856; have t2 : y1004.toInt ≤ 1 := b1037; omega)), (show x3.toInt ≤ y1008.toInt + 9 from (by have t1 : x3.toInt ≤ 9 := ob857; have t2 : 0 ≤ y1008.toInt := b1038; omega)), (show y1008.toInt ≤ x3.toInt + 220 from (by have t1 : 0 ≤ x3.toInt := ob856; have t2 : y1008.toInt ≤ 220 := b1039; omega)), (show x3.toInt ≤ y1009.toInt + 9 from (by have t1 : x3.toInt ≤ 9 := ob857; have t2 : 0 ≤ y1009.toInt := b1040; omega)), (show y979.toInt ≤ y979.toInt from (by omega)), (show y979.toInt ≤ y979.toInt from (by omega)), (show y988.toInt ≤ y979.toInt + 218 from (by have t1 : 2 ≤ y979.toInt := b1016; have t2 : y988.toInt ≤ 220 := b1023; omega)), (show y989.toInt ≤ y979.toInt + 19 from (by have t1 : 2 ≤ y979.toInt := b1016; have t2 : y989.toInt ≤ 21 := b1025; omega)), (show y994.toInt ≤ y979.toInt + 1 from (by have t1 : 2 ≤ y979.toInt := b1016; have t2 : y994.toInt ≤ 2 := b1029; omega)), (show y989.toInt ≤ y984.toInt + 1000001 from (by first | with_reducible exact q_fe b1050 | (have t1 : y989.toInt ≤ y984.toInt + 1000001 := b1050; omega))), (show y994.toInt ≤ y989.toInt + 1 from (by first | with_reducible exact q_fe b1052 | (have t1 : y994.toInt ≤ y989.toInt + 1 := b1052; omega))), (show y994.toInt ≤ y984.toInt + 1000001 from (by first | with_reducible exact q_fe b1051 | (have t1 : y994.toInt ≤ y984.toInt + 1000001 := b1051; omega))), (show ((0 : Int32), y979, y979, f980, y988, y989, f990, y983, y984, f985, y993, y994, f995, y998, y999, f1000, y1003, y1004, f1005, y1008, y1009, f1010, t16_0, t16_1, t16_2, y1013, y1014, y1015) = (F_NH_print x2 x3 x4 t0_0 t1_0 t2_0 t2_1 t3_0 t4_0 t4_1 t5_0 t6_0 t7_0 t8_0 t8_1 t9_0 t10_0 t10_1 t11_0 t12_0 t12_1 t13_0 t14_0 t14_1 t15_0 t16_0 t16_1 t16_2 t17_0 t17_1 t17_2 t18_0 t18_1 t19_0 t20_0 t20_1 t21_0 t21_1 t22_0) from Eq.trans (by rw [e1079, e1078, e1077, e1076, e1075, e1074, e1073, e1072, e1071, e1070, e1069, e1068, e1067, e1066, e1065, e1064, e1063, e1062, e1061, e1060, e1059, e1058, e1057, F_NH_print_c127_9.eq_1]) hR1080)⟩) d_1_17_137)
        ·
          intro J124
          refine q_join (X := Unit) (fun z H locs ls _ => q_Wd D g (va_A ws sz) s ws H locs ∧ lv_has ls 4 [(0, .ref (q 0)), (1, .int x2), (2, .int x3), (3, .int x4)] ∧ F_NH_print_J97 x2 x3 x4 t0_0 t1_0 t2_0 t2_1 t3_0 t4_0 t4_1 t5_0 t6_0 t7_0 t8_0 t8_1 t9_0 t10_0 t10_1 t11_0 t12_0 t12_1 t13_0 t14_0 t14_1 t15_0 t16_0 t16_1 t16_2 t17_0 t17_1 t17_2 t18_0 t18_1 t19_0 t20_0 t20_1 t21_0 t21_1 t22_0 = (F_NH_print x2 x3 x4 t0_0 t1_0 t2_0 t2_1 t3_0 t4_0 t4_1 t5_0 t6_0 t7_0 t8_0 t8_1 t9_0 t10_0 t10_1 t11_0 t12_0 t12_1 t13_0 t14_0 t14_1 t15_0 t16_0 t16_1 t16_2 t17_0 t17_1 t17_2 t18_0 t18_1 t19_0 t20_0 t20_1 t21_0 t21_1 t22_0) ∧ True ∧ S_NH_print_J97 x2 x3 x4 t0_0 t1_0 t2_0 t2_1 t3_0 t4_0 t4_1 t5_0 t6_0 t7_0 t8_0 t8_1 t9_0 t10_0 t10_1 t11_0 t12_0 t12_1 t13_0 t14_0 t14_1 t15_0 t16_0 t16_1 t16_2 t17_0 t17_1 t17_2 t18_0 t18_1 t19_0 t20_0 t20_1 t21_0 t21_1 t22_0) (fun z => []) 97 1 6 ?_ ?_
          ·
            rintro _ H locs ls _ ⟨V, hl, hR1109, hS1110⟩
            replace hl : lv_has ls 4 [(0, .ref (q 0)), (1, .int x2), (2, .int x3), (3, .int x4)] := hl
            refine lv_iconst (v := 0) hx hb d_1_17_97 (by decide) ?_
            exact J124 ((0 : Int32)) _ _ _ ws ⟨(show q_F (0 ≤ 0) from (show 0 ≤ 0 from by omega)), (show q_F (0 ≤ 1) from (show 0 ≤ 1 from by omega)), V, q_lw hl (q_lw1 0 rfl (q_lw1 1 rfl (q_lw1 2 rfl (q_lw1 3 rfl q_lw0)))), (show F_NH_print_J98 x2 x3 x4 t0_0 t1_0 t2_0 t2_1 t3_0 t4_0 t4_1 t5_0 t6_0 t7_0 t8_0 t8_1 t9_0 t10_0 t10_1 t11_0 t12_0 t12_1 t13_0 t14_0 t14_1 t15_0 t16_0 t16_1 t16_2 t17_0 t17_1 t17_2 t18_0 t18_1 t19_0 t20_0 t20_1 t21_0 t21_1 t22_0 0 = (F_NH_print x2 x3 x4 t0_0 t1_0 t2_0 t2_1 t3_0 t4_0 t4_1 t5_0 t6_0 t7_0 t8_0 t8_1 t9_0 t10_0 t10_1 t11_0 t12_0 t12_1 t13_0 t14_0 t14_1 t15_0 t16_0 t16_1 t16_2 t17_0 t17_1 t17_2 t18_0 t18_1 t19_0 t20_0 t20_1 t21_0 t21_1 t22_0) from Eq.trans (by rw [F_NH_print_J97.eq_1]) hR1109), (show True ∧ S_NH_print_J98 x2 x3 x4 t0_0 t1_0 t2_0 t2_1 t3_0 t4_0 t4_1 t5_0 t6_0 t7_0 t8_0 t8_1 t9_0 t10_0 t10_1 t11_0 t12_0 t12_1 t13_0 t14_0 t14_1 t15_0 t16_0 t16_1 t16_2 t17_0 t17_1 t17_2 t18_0 t18_1 t19_0 t20_0 t20_1 t21_0 t21_1 t22_0 0 from (by have h := hS1110; rw [S_NH_print_J97.eq_1] at h; with_reducible exact h))⟩
          ·
            intro J1108
            refine lv_if_lt (tgt := 97) hx hb d_1_17_85 (by decide) (fun c1114 => ?_) (fun c1114 => ?_)
            ·
              exact J1108 (()) _ _ _ ws ⟨V, q_lw hl (q_lw1 0 rfl (q_lw1 1 rfl (q_lw1 2 rfl (q_lw1 3 rfl q_lw0)))), (show F_NH_print_J97 x2 x3 x4 t0_0 t1_0 t2_0 t2_1 t3_0 t4_0 t4_1 t5_0 t6_0 t7_0 t8_0 t8_1 t9_0 t10_0 t10_1 t11_0 t12_0 t12_1 t13_0 t14_0 t14_1 t15_0 t16_0 t16_1 t16_2 t17_0 t17_1 t17_2 t18_0 t18_1 t19_0 t20_0 t20_1 t21_0 t21_1 t22_0 = (F_NH_print x2 x3 x4 t0_0 t1_0 t2_0 t2_1 t3_0 t4_0 t4_1 t5_0 t6_0 t7_0 t8_0 t8_1 t9_0 t10_0 t10_1 t11_0 t12_0 t12_1 t13_0 t14_0 t14_1 t15_0 t16_0 t16_1 t16_2 t17_0 t17_1 t17_2 t18_0 t18_1 t19_0 t20_0 t20_1 t21_0 t21_1 t22_0) from (by rw [F_NH_print.eq_1, if_pos c93, if_neg c96, if_neg c98, if_pos c1114])), (show True ∧ S_NH_print_J97 x2 x3 x4 t0_0 t1_0 t2_0 t2_1 t3_0 t4_0 t4_1 t5_0 t6_0 t7_0 t8_0 t8_1 t9_0 t10_0 t10_1 t11_0 t12_0 t12_1 t13_0 t14_0 t14_1 t15_0 t16_0 t16_1 t16_2 t17_0 t17_1 t17_2 t18_0 t18_1 t19_0 t20_0 t20_1 t21_0 t21_1 t22_0 from (by have h := hS; rw [S_NH_print.eq_1] at h; rw [if_pos c93] at h; rw [if_neg c96] at h; rw [if_neg c98] at h; rw [if_pos c1114] at h; with_reducible exact h))⟩
            ·
              refine lv_iload_n hx hb d_1_17_88 rfl (lv_at hl 3 rfl) ?_
              refine lv_iconst (v := 1) hx hb d_1_17_89 (by decide) ?_
              refine lv_icmp_gt (tgt := 97) hx hb d_1_17_90 (by decide) (fun c1117 => ?_) (fun c1117 => ?_)
              ·
                exact J1108 (()) _ _ _ ws ⟨V, q_lw hl (q_lw1 0 rfl (q_lw1 1 rfl (q_lw1 2 rfl (q_lw1 3 rfl q_lw0)))), (show F_NH_print_J97 x2 x3 x4 t0_0 t1_0 t2_0 t2_1 t3_0 t4_0 t4_1 t5_0 t6_0 t7_0 t8_0 t8_1 t9_0 t10_0 t10_1 t11_0 t12_0 t12_1 t13_0 t14_0 t14_1 t15_0 t16_0 t16_1 t16_2 t17_0 t17_1 t17_2 t18_0 t18_1 t19_0 t20_0 t20_1 t21_0 t21_1 t22_0 = (F_NH_print x2 x3 x4 t0_0 t1_0 t2_0 t2_1 t3_0 t4_0 t4_1 t5_0 t6_0 t7_0 t8_0 t8_1 t9_0 t10_0 t10_1 t11_0 t12_0 t12_1 t13_0 t14_0 t14_1 t15_0 t16_0 t16_1 t16_2 t17_0 t17_1 t17_2 t18_0 t18_1 t19_0 t20_0 t20_1 t21_0 t21_1 t22_0) from (by rw [F_NH_print.eq_1, if_pos c93, if_neg c96, if_neg c98, if_neg c1114, if_pos c1117])), (show True ∧ S_NH_print_J97 x2 x3 x4 t0_0 t1_0 t2_0 t2_1 t3_0 t4_0 t4_1 t5_0 t6_0 t7_0 t8_0 t8_1 t9_0 t10_0 t10_1 t11_0 t12_0 t12_1 t13_0 t14_0 t14_1 t15_0 t16_0 t16_1 t16_2 t17_0 t17_1 t17_2 t18_0 t18_1 t19_0 t20_0 t20_1 t21_0 t21_1 t22_0 from (by have h := hS; rw [S_NH_print.eq_1] at h; rw [if_pos c93] at h; rw [if_neg c96] at h; rw [if_neg c98] at h; rw [if_neg c1114] at h; rw [if_pos c1117] at h; with_reducible exact h))⟩
              ·
                refine lv_iconst (v := 1) hx hb d_1_17_93 (by decide) ?_
                refine lv_goto (tgt := 98) hx hb d_1_17_94 (by decide) ?_
                exact J124 ((1 : Int32)) _ _ _ ws ⟨(show q_F (0 ≤ 1) from (show 0 ≤ 1 from by omega)), (show q_F (1 ≤ 1) from (show 1 ≤ 1 from by omega)), V, q_lw hl (q_lw1 0 rfl (q_lw1 1 rfl (q_lw1 2 rfl (q_lw1 3 rfl q_lw0)))), (show F_NH_print_J98 x2 x3 x4 t0_0 t1_0 t2_0 t2_1 t3_0 t4_0 t4_1 t5_0 t6_0 t7_0 t8_0 t8_1 t9_0 t10_0 t10_1 t11_0 t12_0 t12_1 t13_0 t14_0 t14_1 t15_0 t16_0 t16_1 t16_2 t17_0 t17_1 t17_2 t18_0 t18_1 t19_0 t20_0 t20_1 t21_0 t21_1 t22_0 1 = (F_NH_print x2 x3 x4 t0_0 t1_0 t2_0 t2_1 t3_0 t4_0 t4_1 t5_0 t6_0 t7_0 t8_0 t8_1 t9_0 t10_0 t10_1 t11_0 t12_0 t12_1 t13_0 t14_0 t14_1 t15_0 t16_0 t16_1 t16_2 t17_0 t17_1 t17_2 t18_0 t18_1 t19_0 t20_0 t20_1 t21_0 t21_1 t22_0) from (by rw [F_NH_print.eq_1, if_pos c93, if_neg c96, if_neg c98, if_neg c1114, if_neg c1117])), (show True ∧ S_NH_print_J98 x2 x3 x4 t0_0 t1_0 t2_0 t2_1 t3_0 t4_0 t4_1 t5_0 t6_0 t7_0 t8_0 t8_1 t9_0 t10_0 t10_1 t11_0 t12_0 t12_1 t13_0 t14_0 t14_1 t15_0 t16_0 t16_1 t16_2 t17_0 t17_1 t17_2 t18_0 t18_1 t19_0 t20_0 t20_1 t21_0 t21_1 t22_0 1 from (by have h := hS; rw [S_NH_print.eq_1] at h; rw [if_pos c93] at h; rw [if_neg c96] at h; rw [if_neg c98] at h; rw [if_neg c1114] at h; rw [if_neg c1117] at h; with_reducible exact h))⟩
      ·
        have b1120 : q_F (x2.toInt = 1) := (q_eqI c98)
        refine lv_iload_n hx hb d_1_17_50 rfl (lv_at hl 3 rfl) ?_
        refine q_join (X := Int32) (fun z H locs ls _ => q_F (x2.toInt ≤ z.toInt + 1) ∧ q_F (z.toInt ≤ x2.toInt) ∧ q_Wd D g (va_A ws sz) s ws H locs ∧ lv_has ls 4 [(0, .ref (q 0)), (2, .int x3), (3, .int x4)] ∧ F_NH_print_J64 x2 x3 x4 t0_0 t1_0 t2_0 t2_1 t3_0 t4_0 t4_1 t5_0 t6_0 t7_0 t8_0 t8_1 t9_0 t10_0 t10_1 t11_0 t12_0 t12_1 t13_0 t14_0 t14_1 t15_0 t16_0 t16_1 t16_2 t17_0 t17_1 t17_2 t18_0 t18_1 t19_0 t20_0 t20_1 t21_0 t21_1 t22_0 z = (F_NH_print x2 x3 x4 t0_0 t1_0 t2_0 t2_1 t3_0 t4_0 t4_1 t5_0 t6_0 t7_0 t8_0 t8_1 t9_0 t10_0 t10_1 t11_0 t12_0 t12_1 t13_0 t14_0 t14_1 t15_0 t16_0 t16_1 t16_2 t17_0 t17_1 t17_2 t18_0 t18_1 t19_0 t20_0 t20_1 t21_0 t21_1 t22_0) ∧ True ∧ S_NH_print_J64 x2 x3 x4 t0_0 t1_0 t2_0 t2_1 t3_0 t4_0 t4_1 t5_0 t6_0 t7_0 t8_0 t8_1 t9_0 t10_0 t10_1 t11_0 t12_0 t12_1 t13_0 t14_0 t14_1 t15_0 t16_0 t16_1 t16_2 t17_0 t17_1 t17_2 t18_0 t18_1 t19_0 t20_0 t20_1 t21_0 t21_1 t22_0 z) (fun z => [.int z]) 64 1 6 ?_ ?_
        ·
          rintro lx1121 H locs ls _ hZ9
          obtain ⟨i1146, hZ9⟩ := hZ9
          obtain ⟨i1147, hZ9⟩ := hZ9
          obtain ⟨V, hZ9⟩ := hZ9
          obtain ⟨hl, hZ9⟩ := hZ9
          obtain ⟨hR1148, hS1149⟩ := hZ9
          replace i1146 : q_F (x2.toInt ≤ lx1121.toInt + 1) := i1146
          replace i1147 : q_F (lx1121.toInt ≤ x2.toInt) := i1147
          replace hl : lv_has ls 4 [(0, .ref (q 0)), (2, .int x3), (3, .int x4)] := hl
          refine q_goxv V (q_runSX (As := [.int lx1121]) (rest := []) (d := 7) (mc := 1) (ms := 6) C0 V rfl LS_NH_104 (X_NH_need l D g q ws  lx1121 hlt hI  ⟨(by have t1 : x2.toInt = 1 := b1120; have t2 : x2.toInt ≤ lx1121.toInt + 1 := i1146; omega), (by have t1 : x2.toInt = 1 := b1120; have t2 : lx1121.toInt ≤ x2.toInt := i1147; omega)⟩ _) rfl hl.1 rfl (Nat.le_of_ble_eq_true rfl) ⟨by decide, by decide⟩ ⟨Nat.le_of_ble_eq_true rfl, Nat.le_of_ble_eq_true rfl⟩ d_1_17_64) (fun qx Ex ce u1153 H locs hp1154 V hce hcv hcl => ?_) (fun u1153 H locs hp1154 V => ?_)
          ·
            obtain ⟨cx1156, he1157, hc1158, rfl, hE1155⟩ := hp1154
            have c1159 : ¬ (F_NH_need lx1121) = (0 : Int32) := fun z => hc1158 (((hE1155) : cx1156 = _).trans z)
            exact q_outT hno C0 V (⟨(F_NH_need lx1121), (he1157.trans (congrArg qE ((hE1155) : cx1156 = _))), c1159, hI, hF, t0_0, t1_0, t2_0, t2_1, t3_0, t4_0, t4_1, t5_0, t8_0, t8_1, t9_0, t10_0, t10_1, t11_0, t12_0, t12_1, t13_0, t14_0, t14_1, t15_0, t16_0, t16_1, t16_2, t17_0, t17_1, t17_2, hT0, hT1, hT2, hT3, hT4, hT5, hT8, hT9, hT10, hT11, hT12, hT13, hT14, hT15, hT16, hT17, (show ((F_NH_need lx1121), (0 : Int32), t0_0, t1_0, t2_0, t2_1, t3_0, t4_0, t4_1, t5_0, t8_0, t8_1, t9_0, t10_0, t10_1, t11_0, t12_0, t12_1, t13_0, t14_0, t14_1, t15_0, t16_0, t16_1, t16_2, t17_0, t17_1, t17_2) = (F_NH_print x2 x3 x4 t0_0 t1_0 t2_0 t2_1 t3_0 t4_0 t4_1 t5_0 t6_0 t7_0 t8_0 t8_1 t9_0 t10_0 t10_1 t11_0 t12_0 t12_1 t13_0 t14_0 t14_1 t15_0 t16_0 t16_1 t16_2 t17_0 t17_1 t17_2 t18_0 t18_1 t19_0 t20_0 t20_1 t21_0 t21_1 t22_0) from Eq.trans (by rw [F_NH_print_J64.eq_1, if_neg c1159]) hR1148)⟩) hce hcv hcl (Nat.le_of_ble_eq_true rfl) (Nat.le_of_ble_eq_true rfl)
          ·
            obtain ⟨rfl, hE1160⟩ := hp1154
            have c1159 : (F_NH_need lx1121) = (0 : Int32) := ((hE1160) : (0 : Int32) = _).symm
            refine lv_aload_n hx hb d_1_17_67 rfl (lv_at hl 0 rfl) ?_
            have hO1162 := n_o0 hI
            refine q_get (ci := 0) (j := 12) (v := .ref (q 39)) C0 V i_NH rfl rfl hO1162 (by decide) w_436 rfl d_1_17_68 ?_
            refine lv_aload_n hx hb d_1_17_71 rfl (lv_at hl 0 rfl) ?_
            refine q_get (ci := 0) (j := 3) (v := .ref (q 6)) C0 V i_NH rfl rfl hO1162 (by decide) w_427 rfl d_1_17_72 ?_
            refine lv_iload_n hx hb d_1_17_75 rfl (lv_at hl 1 rfl) ?_
            have hX1163 := n_fx hI (n_s6 g q)
            have ob1164 : q_F (0 ≤ x3.toInt) := (by have h := hS1149; rw [S_NH_print_J64.eq_1] at h; rw [if_pos c1159] at h; exact h.2.1)
            have ob1165 : q_F (x3.toInt ≤ 9) := (by have h := hS1149; rw [S_NH_print_J64.eq_1] at h; rw [if_pos c1159] at h; replace h := q_s2 h; exact h.2.1)
            have hj1166 : x3.toNatClampNeg < 10 := by have z := q_clI (i := x3) (x := x3.toInt) rfl (by first | with_reducible exact q_fe ob1164 | (have t1 : 0 ≤ x3.toInt := ob1164; omega)); have t1 : 0 ≤ x3.toInt := ob1164; have t2 : x3.toInt ≤ 9 := ob1165; omega
            have hq1167 := gd3x3 hj1166
            refine q_aald (t := 5) (q := q d3) C0 V hX1163 rfl (q_ix (x := x3.toInt) rfl (by first | with_reducible exact q_fe ob1164 | (have t1 : 0 ≤ x3.toInt := ob1164; omega)) (by have t1 : 0 ≤ x3.toInt := ob1164; have t2 : x3.toInt ≤ 9 := ob1165; omega)) (by rw [hq1167]; exact n_fdv hj1166) d_1_17_76 ?_
            refine lv_iload_n hx hb d_1_17_77 rfl (lv_at hl 2 rfl) ?_
            have ob1168 : True ∧ S_Wri_decimalText (108 : Int32) x4 t0_0 t1_0 t4_0 t4_1 t5_0 t2_0 t2_1 t3_0 t20_0 t20_1 t21_0 t21_1 t22_0 := (by have h := hS1149; rw [S_NH_print_J64.eq_1] at h; rw [if_pos c1159] at h; replace h := q_s2 h; replace h := q_s2 h; with_reducible exact h.2.1)
            have hO1169 := n_o39 hI
            refine q_gov V (q_runV (As := [.ref (q d3), .int x4]) (rest := []) (d := 5) (mc := 0) (ms := 0) (ci := 9) C0 V rfl LV_NH_329 (X_Wri_decimalText l D g q ws d3 108 hBd3 (Or.inr yd3) x4 (by have z0 := yd3; omega) (by have z0 := yd3; omega) (by have z0 := yd3; omega) (by have z0 := yd3; omega) (by have z0 := yd3; omega) (by have z0 := yd3; omega) (by have z0 := yd3; omega) (by have z0 := yd3; omega) (by have z0 := yd3; omega) (by have z0 := yd3; omega) (by have z0 := yd3; omega) (by have z0 := yd3; omega) hI t0_0 hT0 t1_0 hT1 t4_0 t4_1 hT4 t5_0 hT5 t2_0 t2_1 hT2 t3_0 hT3 t20_0 t20_1 hT20 t21_0 t21_1 hT21 t22_0 hT22 ob1168 _) rfl rfl hO1169 rfl hl.1 rfl (Nat.le_of_ble_eq_true rfl) ⟨by decide, by decide⟩ ⟨Nat.le_of_ble_eq_true rfl, Nat.le_of_ble_eq_true rfl⟩ d_1_17_78) (fun u1170 H locs hp1171 V => ?_)
            obtain ⟨hI, hZ9⟩ := hp1171
            obtain ⟨hu1198, hZ9⟩ := hZ9
            obtain ⟨y1173, hZ9⟩ := hZ9
            obtain ⟨f1174, hZ9⟩ := hZ9
            obtain ⟨y1177, hZ9⟩ := hZ9
            obtain ⟨y1178, hZ9⟩ := hZ9
            obtain ⟨f1179, hZ9⟩ := hZ9
            obtain ⟨y1182, hZ9⟩ := hZ9
            obtain ⟨y1183, hZ9⟩ := hZ9
            obtain ⟨f1184, hZ9⟩ := hZ9
            obtain ⟨hO1172, hZ9⟩ := hZ9
            obtain ⟨hA1175, hZ9⟩ := hZ9
            obtain ⟨hO1176, hZ9⟩ := hZ9
            obtain ⟨hA1180, hZ9⟩ := hZ9
            obtain ⟨hO1181, hZ9⟩ := hZ9
            obtain ⟨hA1185, hZ9⟩ := hZ9
            obtain ⟨b1186, hZ9⟩ := hZ9
            obtain ⟨b1187, hZ9⟩ := hZ9
            obtain ⟨b1188, hZ9⟩ := hZ9
            obtain ⟨b1189, hZ9⟩ := hZ9
            obtain ⟨b1190, hZ9⟩ := hZ9
            obtain ⟨b1191, hZ9⟩ := hZ9
            obtain ⟨b1192, hZ9⟩ := hZ9
            replace hZ9 := hZ9.2
            obtain ⟨b1194, hZ9⟩ := hZ9
            obtain ⟨b1195, hZ9⟩ := hZ9
            obtain ⟨-, hE1197⟩ := hZ9
            replace hO1172 : u1170[3]? = (some (q 3, .inr (1, [.ref (q 4), .int 11008, .int y1173])) : Option (Nat × va_E)) := hO1172
            replace hA1175 : u1170[4]? = (some (q 4, .inl (g 1, (1376 : Int32).toNatClampNeg, .inr (.inl f1174))) : Option (Nat × va_E)) := hA1175
            replace hO1176 : u1170[36]? = (some (q 36, .inr (7, [.int y1177, .int y1178, .ref (q 37)])) : Option (Nat × va_E)) := hO1176
            replace hA1180 : u1170[37]? = (some (q 37, .inl (g 2, 1026, .inl f1179)) : Option (Nat × va_E)) := hA1180
            replace hO1181 : u1170[10]? = (some (q 10, .inr (2, [.ref (q 11), .int y1182, .int y1183])) : Option (Nat × va_E)) := hO1181
            replace hA1185 : u1170[11]? = (some (q 11, .inl (g 0, (220 : Int32).toNatClampNeg, .inl f1184)) : Option (Nat × va_E)) := hA1185
            obtain ⟨p1199, e1200⟩ : ∃ z, z = (F_Wri_decimalText (108 : Int32) x4 t0_0 t1_0 t4_0 t4_1 t5_0 t2_0 t2_1 t3_0 t20_0 t20_1 t21_0 t21_1 t22_0) := ⟨_, rfl⟩
            have e1201 : y1173 = p1199.1 := congrArg (fun z => z.1) (hE1197.trans e1200.symm)
            have e1202 : f1174 = p1199.2.1 := congrArg (fun z => z.2.1) (hE1197.trans e1200.symm)
            have e1203 : y1177 = p1199.2.2.1 := congrArg (fun z => z.2.2.1) (hE1197.trans e1200.symm)
            have e1204 : y1178 = p1199.2.2.2.1 := congrArg (fun z => z.2.2.2.1) (hE1197.trans e1200.symm)
            have e1205 : f1179 = p1199.2.2.2.2.1 := congrArg (fun z => z.2.2.2.2.1) (hE1197.trans e1200.symm)
            have e1206 : y1182 = p1199.2.2.2.2.2.1 := congrArg (fun z => z.2.2.2.2.2.1) (hE1197.trans e1200.symm)
            have e1207 : y1183 = p1199.2.2.2.2.2.2.1 := congrArg (fun z => z.2.2.2.2.2.2.1) (hE1197.trans e1200.symm)
            have e1208 : f1184 = p1199.2.2.2.2.2.2.2 := congrArg (fun z => z.2.2.2.2.2.2.2) (hE1197.trans e1200.symm)
            replace b1186 : q_F (0 ≤ y1177.toInt) := b1186
            replace b1187 : q_F (y1177.toInt ≤ 1026) := b1187
            replace b1188 : q_F (0 ≤ y1178.toInt + 1000000) := b1188
            replace b1189 : q_F (y1178.toInt ≤ 1000000) := b1189
            replace b1190 : q_F (0 ≤ y1182.toInt) := b1190
            replace b1191 : q_F (0 ≤ y1183.toInt) := b1191
            replace b1192 : q_F (t21_1.toInt ≤ y1173.toInt) := b1192
            replace b1194 : q_F (y1182.toInt ≤ t21_0.toInt) := b1194
            replace b1195 : q_F (y1183.toInt ≤ t21_1.toInt) := b1195
            replace hT8 := (hu1198 _ (by decide)).trans hT8
            replace hT9 := (hu1198 _ (by decide)).trans hT9
            replace hT10 := (hu1198 _ (by decide)).trans hT10
            replace hT11 := (hu1198 _ (by decide)).trans hT11
            replace hT12 := (hu1198 _ (by decide)).trans hT12
            replace hT13 := (hu1198 _ (by decide)).trans hT13
            replace hT14 := (hu1198 _ (by decide)).trans hT14
            replace hT15 := (hu1198 _ (by decide)).trans hT15
            replace hT16 := (hu1198 _ (by decide)).trans hT16
            replace hT17 := (hu1198 _ (by decide)).trans hT17
            replace hO1162 := (hu1198 _ (by decide)).trans hO1162
            replace hF := q_uc hF hu1198 (by simp)
            have hR1209 := (show F_NH_print_c78 x2 x3 x4 t0_0 t1_0 t2_0 t2_1 t3_0 t4_0 t4_1 t5_0 t6_0 t7_0 t8_0 t8_1 t9_0 t10_0 t10_1 t11_0 t12_0 t12_1 t13_0 t14_0 t14_1 t15_0 t16_0 t16_1 t16_2 t17_0 t17_1 t17_2 t18_0 t18_1 t19_0 t20_0 t20_1 t21_0 t21_1 t22_0 lx1121 p1199 = (F_NH_print x2 x3 x4 t0_0 t1_0 t2_0 t2_1 t3_0 t4_0 t4_1 t5_0 t6_0 t7_0 t8_0 t8_1 t9_0 t10_0 t10_1 t11_0 t12_0 t12_1 t13_0 t14_0 t14_1 t15_0 t16_0 t16_1 t16_2 t17_0 t17_1 t17_2 t18_0 t18_1 t19_0 t20_0 t20_1 t21_0 t21_1 t22_0) from Eq.trans (by rw [e1200, F_NH_print_J64.eq_1, if_pos c1159]) hR1148)
            have hS1210 := (show True ∧ S_NH_print_c78 x2 x3 x4 t0_0 t1_0 t2_0 t2_1 t3_0 t4_0 t4_1 t5_0 t6_0 t7_0 t8_0 t8_1 t9_0 t10_0 t10_1 t11_0 t12_0 t12_1 t13_0 t14_0 t14_1 t15_0 t16_0 t16_1 t16_2 t17_0 t17_1 t17_2 t18_0 t18_1 t19_0 t20_0 t20_1 t21_0 t21_1 t22_0 lx1121 p1199 from (by rw [e1200]; have h := hS1149; rw [S_NH_print_J64.eq_1] at h; rw [if_pos c1159] at h; replace h := q_s2 h; replace h := q_s2 h; replace h := q_s2 h; with_reducible exact h))
            refine lv_goto (tgt := 130) hx hb d_1_17_81 (by decide) ?_
            refine lv_aload_n hx hb d_1_17_130 rfl (lv_at hl 0 rfl) ?_
            refine q_get (ci := 0) (j := 1) (v := .ref (q 3)) C0 V i_NH rfl rfl hO1162 (by decide) w_425 rfl d_1_17_131 ?_
            refine q_get (ci := 1) (j := 2) (v := .int y1173) C0 V i_She rfl rfl hO1172 (by decide) w_56 rfl d_1_17_134 ?_
            exact q_retX (q_reti C0 V (⟨hI, hF, y1173, f1174, y1182, y1183, f1184, y1177, y1178, f1179, t8_0, t8_1, t9_0, t10_0, t10_1, t11_0, t12_0, t12_1, t13_0, t14_0, t14_1, t15_0, t16_0, t16_1, t16_2, t17_0, t17_1, t17_2, hO1172, hA1175, hO1181, hA1185, hO1176, hA1180, hT8, hT9, hT10, hT11, hT12, hT13, hT14, hT15, hT16, hT17, (show 0 ≤ y1173.toInt from (by have t1 : 0 ≤ t21_1.toInt ∧ t21_1.toInt ≤ 1 := btt21_1; have t2 : t21_1.toInt ≤ y1173.toInt := b1192; omega)), (show 0 ≤ y1173.toInt from (by have t1 : 0 ≤ t21_1.toInt ∧ t21_1.toInt ≤ 1 := btt21_1; have t2 : t21_1.toInt ≤ y1173.toInt := b1192; omega)), (show 0 ≤ y1182.toInt from (by first | with_reducible exact q_fe b1190 | (have t1 : 0 ≤ y1182.toInt := b1190; omega))), (show y1182.toInt ≤ 220 from (by have t1 : 0 ≤ t21_0.toInt ∧ t21_0.toInt ≤ 108 := btt21_0; have t2 : y1182.toInt ≤ t21_0.toInt := b1194; omega)), (show 0 ≤ y1183.toInt from (by first | with_reducible exact q_fe b1191 | (have t1 : 0 ≤ y1183.toInt := b1191; omega))), (show y1183.toInt ≤ 21 from (by have t1 : 0 ≤ t21_1.toInt ∧ t21_1.toInt ≤ 1 := btt21_1; have t2 : y1183.toInt ≤ t21_1.toInt := b1195; omega)), (show 0 ≤ y1177.toInt from (by first | with_reducible exact q_fe b1186 | (have t1 : 0 ≤ y1177.toInt := b1186; omega))), (show y1177.toInt ≤ 1026 from (by first | with_reducible exact q_fe b1187 | (have t1 : y1177.toInt ≤ 1026 := b1187; omega))), (show 0 ≤ y1178.toInt + 1000000 from (by first | with_reducible exact q_fe b1188 | (have t1 : 0 ≤ y1178.toInt + 1000000 := b1188; omega))), (show y1178.toInt ≤ 1000000 from (by first | with_reducible exact q_fe b1189 | (have t1 : y1178.toInt ≤ 1000000 := b1189; omega))), (show 0 ≤ t8_0.toInt from (by first | with_reducible exact (q_fe btt8_0).2 | with_reducible exact (q_fe btt8_0).1 | (have t1 : 0 ≤ t8_0.toInt ∧ t8_0.toInt ≤ 220 := btt8_0; omega))), (show t8_0.toInt ≤ 220 from (by first | with_reducible exact (q_fe btt8_0).2 | with_reducible exact (q_fe btt8_0).1 | (have t1 : 0 ≤ t8_0.toInt ∧ t8_0.toInt ≤ 220 := btt8_0; omega))), (show 0 ≤ t8_1.toInt from (by first | with_reducible exact (q_fe btt8_1).2 | with_reducible exact (q_fe btt8_1).1 | (have t1 : 0 ≤ t8_1.toInt ∧ t8_1.toInt ≤ 1 := btt8_1; omega))), (show t8_1.toInt ≤ 2 from (by first | with_reducible exact (q_fe btt8_1).2 | with_reducible exact (q_fe btt8_1).1 | (have t1 : 0 ≤ t8_1.toInt ∧ t8_1.toInt ≤ 1 := btt8_1; omega))), (show 0 ≤ t10_0.toInt from (by first | with_reducible exact (q_fe btt10_0).2 | with_reducible exact (q_fe btt10_0).1 | (have t1 : 0 ≤ t10_0.toInt ∧ t10_0.toInt ≤ 220 := btt10_0; omega))), (show t10_0.toInt ≤ 220 from (by first | with_reducible exact (q_fe btt10_0).2 | with_reducible exact (q_fe btt10_0).1 | (have t1 : 0 ≤ t10_0.toInt ∧ t10_0.toInt ≤ 220 := btt10_0; omega))), (show 0 ≤ t10_1.toInt from (by first | with_reducible exact (q_fe btt10_1).2 | with_reducible exact (q_fe btt10_1).1 | (have t1 : 0 ≤ t10_1.toInt ∧ t10_1.toInt ≤ 1 := btt10_1; omega))), (show t10_1.toInt ≤ 1 from (by first | with_reducible exact (q_fe btt10_1).2 | with_reducible exact (q_fe btt10_1).1 | (have t1 : 0 ≤ t10_1.toInt ∧ t10_1.toInt ≤ 1 := btt10_1; omega))), (show 0 ≤ t12_0.toInt from (by first | with_reducible exact (q_fe btt12_0).2 | with_reducible exact (q_fe btt12_0).1 | (have t1 : 0 ≤ t12_0.toInt ∧ t12_0.toInt ≤ 220 := btt12_0; omega))), (show t12_0.toInt ≤ 220 from (by first | with_reducible exact (q_fe btt12_0).2 | with_reducible exact (q_fe btt12_0).1 | (have t1 : 0 ≤ t12_0.toInt ∧ t12_0.toInt ≤ 220 := btt12_0; omega))), (show 0 ≤ t12_1.toInt from (by first | with_reducible exact (q_fe btt12_1).2 | with_reducible exact (q_fe btt12_1).1 | (have t1 : 0 ≤ t12_1.toInt ∧ t12_1.toInt ≤ 1 := btt12_1; omega))), (show t12_1.toInt ≤ 1 from (by first | with_reducible exact (q_fe btt12_1).2 | with_reducible exact (q_fe btt12_1).1 | (have t1 : 0 ≤ t12_1.toInt ∧ t12_1.toInt ≤ 1 := btt12_1; omega))), (show 0 ≤ t14_0.toInt from (by first | with_reducible exact (q_fe btt14_0).2 | with_reducible exact (q_fe btt14_0).1 | (have t1 : 0 ≤ t14_0.toInt ∧ t14_0.toInt ≤ 220 := btt14_0; omega))), (show t14_0.toInt ≤ 220 from (by first | with_reducible exact (q_fe btt14_0).2 | with_reducible exact (q_fe btt14_0).1 | (have t1 : 0 ≤ t14_0.toInt ∧ t14_0.toInt ≤ 220 := btt14_0; omega))), (show 0 ≤ t14_1.toInt from (by first | with_reducible exact (q_fe btt14_1).2 | with_reducible exact (q_fe btt14_1).1 | (have t1 : 0 ≤ t14_1.toInt ∧ t14_1.toInt ≤ 1 := btt14_1; omega))), (show x3.toInt ≤ y1173.toInt + 9 from (by have t1 : 0 ≤ t21_1.toInt ∧ t21_1.toInt ≤ 1 := btt21_1; have t2 : x3.toInt ≤ 9 := ob1165; have t3 : t21_1.toInt ≤ y1173.toInt := b1192; omega)), (show t21_1.toInt ≤ y1173.toInt from (by first | with_reducible exact q_fe b1192 | (have t1 : t21_1.toInt ≤ y1173.toInt := b1192; omega))), (show x3.toInt ≤ y1182.toInt + 9 from (by have t1 : x3.toInt ≤ 9 := ob1165; have t2 : 0 ≤ y1182.toInt := b1190; omega)), (show y1182.toInt ≤ x3.toInt + 220 from (by have t1 : 0 ≤ t21_0.toInt ∧ t21_0.toInt ≤ 108 := btt21_0; have t2 : 0 ≤ x3.toInt := ob1164; have t3 : y1182.toInt ≤ t21_0.toInt := b1194; omega)), (show x3.toInt ≤ y1183.toInt + 9 from (by have t1 : x3.toInt ≤ 9 := ob1165; have t2 : 0 ≤ y1183.toInt := b1191; omega)), (show y1183.toInt ≤ x3.toInt + 21 from (by have t1 : 0 ≤ t21_1.toInt ∧ t21_1.toInt ≤ 1 := btt21_1; have t2 : 0 ≤ x3.toInt := ob1164; have t3 : y1183.toInt ≤ t21_1.toInt := b1195; omega)), (show y1183.toInt ≤ t2_1.toInt + 20 from (by have t1 : 0 ≤ t2_1.toInt ∧ t2_1.toInt ≤ 1 := btt2_1; have t2 : 0 ≤ t21_1.toInt ∧ t21_1.toInt ≤ 1 := btt21_1; have t3 : y1183.toInt ≤ t21_1.toInt := b1195; omega)), (show x3.toInt ≤ y1177.toInt + 9 from (by have t1 : x3.toInt ≤ 9 := ob1165; have t2 : 0 ≤ y1177.toInt := b1186; omega)), (show y1177.toInt ≤ x3.toInt + 1026 from (by have t1 : 0 ≤ x3.toInt := ob1164; have t2 : y1177.toInt ≤ 1026 := b1187; omega)), (show x3.toInt ≤ y1178.toInt + 1000009 from (by have t1 : x3.toInt ≤ 9 := ob1165; have t2 : 0 ≤ y1178.toInt + 1000000 := b1188; omega)), (show y1178.toInt ≤ x3.toInt + 1000000 from (by have t1 : 0 ≤ x3.toInt := ob1164; have t2 : y1178.toInt ≤ 1000000 := b1189; omega)), (show x3.toInt ≤ t8_0.toInt + 9 from (by have t1 : 0 ≤ t8_0.toInt ∧ t8_0.toInt ≤ 220 := btt8_0; have t2 : x3.toInt ≤ 9 := ob1165; omega)), (show t8_0.toInt ≤ x3.toInt + 220 from (by have t1 : 0 ≤ t8_0.toInt ∧ t8_0.toInt ≤ 220 := btt8_0; have t2 : 0 ≤ x3.toInt := ob1164; omega)), (show x3.toInt ≤ t8_1.toInt + 9 from (by have t1 : 0 ≤ t8_1.toInt ∧ t8_1.toInt ≤ 1 := btt8_1; have t2 : x3.toInt ≤ 9 := ob1165; omega)), (show t8_1.toInt ≤ x3.toInt + 2 from (by have t1 : 0 ≤ t8_1.toInt ∧ t8_1.toInt ≤ 1 := btt8_1; have t2 : 0 ≤ x3.toInt := ob1164; omega)), (show t8_1.toInt ≤ t2_1.toInt + 1 from (by have t1 : 0 ≤ t2_1.toInt ∧ t2_1.toInt ≤ 1 := btt2_1; have t2 : 0 ≤ t8_1.toInt ∧ t8_1.toInt ≤ 1 := btt8_1; omega)), (show x3.toInt ≤ t10_0.toInt + 9 from (by have t1 : 0 ≤ t10_0.toInt ∧ t10_0.toInt ≤ 220 := btt10_0; have t2 : x3.toInt ≤ 9 := ob1165; omega)), (show t10_0.toInt ≤ x3.toInt + 220 from (by have t1 : 0 ≤ t10_0.toInt ∧ t10_0.toInt ≤ 220 := btt10_0; have t2 : 0 ≤ x3.toInt := ob1164; omega)), (show x3.toInt ≤ t10_1.toInt + 9 from (by have t1 : 0 ≤ t10_1.toInt ∧ t10_1.toInt ≤ 1 := btt10_1; have t2 : x3.toInt ≤ 9 := ob1165; omega)), (show t10_1.toInt ≤ x3.toInt + 1 from (by have t1 : 0 ≤ t10_1.toInt ∧ t10_1.toInt ≤ 1 := btt10_1; have t2 : 0 ≤ x3.toInt := ob1164; omega)), (show x3.toInt ≤ t12_0.toInt + 9 from (by have t1 : 0 ≤ t12_0.toInt ∧ t12_0.toInt ≤ 220 := btt12_0; have t2 : x3.toInt ≤ 9 := ob1165; omega)), (show t12_0.toInt ≤ x3.toInt + 220 from (by have t1 : 0 ≤ t12_0.toInt ∧ t12_0.toInt ≤ 220 := btt12_0; have t2 : 0 ≤ x3.toInt := ob1164; omega)), (show x3.toInt ≤ t12_1.toInt + 9 from (by have t1 : 0 ≤ t12_1.toInt ∧ t12_1.toInt ≤ 1 := btt12_1; have t2 : x3.toInt ≤ 9 := ob1165; omega)), (show t12_1.toInt ≤ x3.toInt + 1 from (by have t1 : 0 ≤ t12_1.toInt ∧ t12_1.toInt ≤ 1 := btt12_1; have t2 : 0 ≤ x3.toInt := ob1164; omega)), (show x3.toInt ≤ t14_0.toInt + 9 from (by have t1 : 0 ≤ t14_0.toInt ∧ t14_0.toInt ≤ 220 := btt14_0; have t2 : x3.toInt ≤ 9 := ob1165; omega)), (show t14_0.toInt ≤ x3.toInt + 220 from (by have t1 : 0 ≤ t14_0.toInt ∧ t14_0.toInt ≤ 220 := btt14_0; have t2 : 0 ≤ x3.toInt := ob1164; omega)), (show x3.toInt ≤ t14_1.toInt + 9 from (by have t1 : 0 ≤ t14_1.toInt ∧ t14_1.toInt ≤ 1 := btt14_1; have t2 : x3.toInt ≤ 9 := ob1165; omega)), (show y1173.toInt ≤ y1173.toInt from (by omega)), (show y1173.toInt ≤ y1173.toInt from (by omega)), (show y1182.toInt ≤ y1173.toInt + 218 from (by have t1 : 0 ≤ t21_0.toInt ∧ t21_0.toInt ≤ 108 := btt21_0; have t2 : 0 ≤ t21_1.toInt ∧ t21_1.toInt ≤ 1 := btt21_1; have t3 : t21_1.toInt ≤ y1173.toInt := b1192; have t4 : y1182.toInt ≤ t21_0.toInt := b1194; omega)), (show y1183.toInt ≤ y1173.toInt + 19 from (by have t1 : t21_1.toInt ≤ y1173.toInt := b1192; have t2 : y1183.toInt ≤ t21_1.toInt := b1195; omega)), (show t8_1.toInt ≤ y1173.toInt + 1 from (by have t1 : 0 ≤ t8_1.toInt ∧ t8_1.toInt ≤ 1 := btt8_1; have t2 : 0 ≤ t21_1.toInt ∧ t21_1.toInt ≤ 1 := btt21_1; have t3 : t21_1.toInt ≤ y1173.toInt := b1192; omega)), (show y1183.toInt ≤ y1178.toInt + 1000001 from (by have t1 : 0 ≤ t21_1.toInt ∧ t21_1.toInt ≤ 1 := btt21_1; have t2 : 0 ≤ y1178.toInt + 1000000 := b1188; have t3 : y1183.toInt ≤ t21_1.toInt := b1195; omega)), (show t8_1.toInt ≤ y1183.toInt + 1 from (by have t1 : 0 ≤ t8_1.toInt ∧ t8_1.toInt ≤ 1 := btt8_1; have t2 : 0 ≤ y1183.toInt := b1191; omega)), (show t8_1.toInt ≤ y1178.toInt + 1000001 from (by have t1 : 0 ≤ t8_1.toInt ∧ t8_1.toInt ≤ 1 := btt8_1; have t2 : 0 ≤ y1178.toInt + 1000000 := b1188; omega)), (show ((0 : Int32), y1173, y1173, f1174, y1182, y1183, f1184, y1177, y1178, f1179, t8_0, t8_1, t9_0, t10_0, t10_1, t11_0, t12_0, t12_1, t13_0, t14_0, t14_1, t15_0, t16_0, t16_1, t16_2, t17_0, t17_1, t17_2) = (F_NH_print x2 x3 x4 t0_0 t1_0 t2_0 t2_1 t3_0 t4_0 t4_1 t5_0 t6_0 t7_0 t8_0 t8_1 t9_0 t10_0 t10_1 t11_0 t12_0 t12_1 t13_0 t14_0 t14_1 t15_0 t16_0 t16_1 t16_2 t17_0 t17_1 t17_2 t18_0 t18_1 t19_0 t20_0 t20_1 t21_0 t21_1 t22_0) from Eq.trans (by rw [e1208, e1207, e1206, e1205, e1204, e1203, e1202, e1201, F_NH_print_c78.eq_1]) hR1209)⟩) d_1_17_137)
        ·
          intro J1145
          refine q_join (X := Unit) (fun z H locs ls _ => q_Wd D g (va_A ws sz) s ws H locs ∧ lv_has ls 4 [(0, .ref (q 0)), (2, .int x3), (3, .int x4)] ∧ F_NH_print_J63 x2 x3 x4 t0_0 t1_0 t2_0 t2_1 t3_0 t4_0 t4_1 t5_0 t6_0 t7_0 t8_0 t8_1 t9_0 t10_0 t10_1 t11_0 t12_0 t12_1 t13_0 t14_0 t14_1 t15_0 t16_0 t16_1 t16_2 t17_0 t17_1 t17_2 t18_0 t18_1 t19_0 t20_0 t20_1 t21_0 t21_1 t22_0 = (F_NH_print x2 x3 x4 t0_0 t1_0 t2_0 t2_1 t3_0 t4_0 t4_1 t5_0 t6_0 t7_0 t8_0 t8_1 t9_0 t10_0 t10_1 t11_0 t12_0 t12_1 t13_0 t14_0 t14_1 t15_0 t16_0 t16_1 t16_2 t17_0 t17_1 t17_2 t18_0 t18_1 t19_0 t20_0 t20_1 t21_0 t21_1 t22_0) ∧ True ∧ S_NH_print_J63 x2 x3 x4 t0_0 t1_0 t2_0 t2_1 t3_0 t4_0 t4_1 t5_0 t6_0 t7_0 t8_0 t8_1 t9_0 t10_0 t10_1 t11_0 t12_0 t12_1 t13_0 t14_0 t14_1 t15_0 t16_0 t16_1 t16_2 t17_0 t17_1 t17_2 t18_0 t18_1 t19_0 t20_0 t20_1 t21_0 t21_1 t22_0) (fun z => []) 63 1 6 ?_ ?_
          ·
            rintro _ H locs ls _ ⟨V, hl, hR1238, hS1239⟩
            replace hl : lv_has ls 4 [(0, .ref (q 0)), (2, .int x3), (3, .int x4)] := hl
            refine lv_iconst (v := 0) hx hb d_1_17_63 (by decide) ?_
            exact J1145 ((0 : Int32)) _ _ _ ws ⟨(show q_F (x2.toInt ≤ 0 + 1) from (show x2.toInt ≤ 0 + 1 from by have t1 : x2.toInt = 1 := b1120; omega)), (show q_F (0 ≤ x2.toInt) from (show 0 ≤ x2.toInt from by have t1 : x2.toInt = 1 := b1120; omega)), V, q_lw hl (q_lw1 0 rfl (q_lw1 1 rfl (q_lw1 2 rfl q_lw0))), (show F_NH_print_J64 x2 x3 x4 t0_0 t1_0 t2_0 t2_1 t3_0 t4_0 t4_1 t5_0 t6_0 t7_0 t8_0 t8_1 t9_0 t10_0 t10_1 t11_0 t12_0 t12_1 t13_0 t14_0 t14_1 t15_0 t16_0 t16_1 t16_2 t17_0 t17_1 t17_2 t18_0 t18_1 t19_0 t20_0 t20_1 t21_0 t21_1 t22_0 0 = (F_NH_print x2 x3 x4 t0_0 t1_0 t2_0 t2_1 t3_0 t4_0 t4_1 t5_0 t6_0 t7_0 t8_0 t8_1 t9_0 t10_0 t10_1 t11_0 t12_0 t12_1 t13_0 t14_0 t14_1 t15_0 t16_0 t16_1 t16_2 t17_0 t17_1 t17_2 t18_0 t18_1 t19_0 t20_0 t20_1 t21_0 t21_1 t22_0) from Eq.trans (by rw [F_NH_print_J63.eq_1]) hR1238), (show True ∧ S_NH_print_J64 x2 x3 x4 t0_0 t1_0 t2_0 t2_1 t3_0 t4_0 t4_1 t5_0 t6_0 t7_0 t8_0 t8_1 t9_0 t10_0 t10_1 t11_0 t12_0 t12_1 t13_0 t14_0 t14_1 t15_0 t16_0 t16_1 t16_2 t17_0 t17_1 t17_2 t18_0 t18_1 t19_0 t20_0 t20_1 t21_0 t21_1 t22_0 0 from (by have h := hS1239; rw [S_NH_print_J63.eq_1] at h; with_reducible exact h))⟩
          ·
            intro J1237
            refine lv_if_lt (tgt := 63) hx hb d_1_17_51 (by decide) (fun c1243 => ?_) (fun c1243 => ?_)
            ·
              exact J1237 (()) _ _ _ ws ⟨V, q_lw hl (q_lw1 0 rfl (q_lw1 2 rfl (q_lw1 3 rfl q_lw0))), (show F_NH_print_J63 x2 x3 x4 t0_0 t1_0 t2_0 t2_1 t3_0 t4_0 t4_1 t5_0 t6_0 t7_0 t8_0 t8_1 t9_0 t10_0 t10_1 t11_0 t12_0 t12_1 t13_0 t14_0 t14_1 t15_0 t16_0 t16_1 t16_2 t17_0 t17_1 t17_2 t18_0 t18_1 t19_0 t20_0 t20_1 t21_0 t21_1 t22_0 = (F_NH_print x2 x3 x4 t0_0 t1_0 t2_0 t2_1 t3_0 t4_0 t4_1 t5_0 t6_0 t7_0 t8_0 t8_1 t9_0 t10_0 t10_1 t11_0 t12_0 t12_1 t13_0 t14_0 t14_1 t15_0 t16_0 t16_1 t16_2 t17_0 t17_1 t17_2 t18_0 t18_1 t19_0 t20_0 t20_1 t21_0 t21_1 t22_0) from (by rw [F_NH_print.eq_1, if_pos c93, if_neg c96, if_pos c98, if_pos c1243])), (show True ∧ S_NH_print_J63 x2 x3 x4 t0_0 t1_0 t2_0 t2_1 t3_0 t4_0 t4_1 t5_0 t6_0 t7_0 t8_0 t8_1 t9_0 t10_0 t10_1 t11_0 t12_0 t12_1 t13_0 t14_0 t14_1 t15_0 t16_0 t16_1 t16_2 t17_0 t17_1 t17_2 t18_0 t18_1 t19_0 t20_0 t20_1 t21_0 t21_1 t22_0 from (by have h := hS; rw [S_NH_print.eq_1] at h; rw [if_pos c93] at h; rw [if_neg c96] at h; rw [if_pos c98] at h; rw [if_pos c1243] at h; with_reducible exact h))⟩
            ·
              refine lv_iload_n hx hb d_1_17_54 rfl (lv_at hl 3 rfl) ?_
              refine lv_iconst (v := 2) hx hb d_1_17_55 (by decide) ?_
              refine lv_icmp_gt (tgt := 63) hx hb d_1_17_56 (by decide) (fun c1246 => ?_) (fun c1246 => ?_)
              ·
                exact J1237 (()) _ _ _ ws ⟨V, q_lw hl (q_lw1 0 rfl (q_lw1 2 rfl (q_lw1 3 rfl q_lw0))), (show F_NH_print_J63 x2 x3 x4 t0_0 t1_0 t2_0 t2_1 t3_0 t4_0 t4_1 t5_0 t6_0 t7_0 t8_0 t8_1 t9_0 t10_0 t10_1 t11_0 t12_0 t12_1 t13_0 t14_0 t14_1 t15_0 t16_0 t16_1 t16_2 t17_0 t17_1 t17_2 t18_0 t18_1 t19_0 t20_0 t20_1 t21_0 t21_1 t22_0 = (F_NH_print x2 x3 x4 t0_0 t1_0 t2_0 t2_1 t3_0 t4_0 t4_1 t5_0 t6_0 t7_0 t8_0 t8_1 t9_0 t10_0 t10_1 t11_0 t12_0 t12_1 t13_0 t14_0 t14_1 t15_0 t16_0 t16_1 t16_2 t17_0 t17_1 t17_2 t18_0 t18_1 t19_0 t20_0 t20_1 t21_0 t21_1 t22_0) from (by rw [F_NH_print.eq_1, if_pos c93, if_neg c96, if_pos c98, if_neg c1243, if_pos c1246])), (show True ∧ S_NH_print_J63 x2 x3 x4 t0_0 t1_0 t2_0 t2_1 t3_0 t4_0 t4_1 t5_0 t6_0 t7_0 t8_0 t8_1 t9_0 t10_0 t10_1 t11_0 t12_0 t12_1 t13_0 t14_0 t14_1 t15_0 t16_0 t16_1 t16_2 t17_0 t17_1 t17_2 t18_0 t18_1 t19_0 t20_0 t20_1 t21_0 t21_1 t22_0 from (by have h := hS; rw [S_NH_print.eq_1] at h; rw [if_pos c93] at h; rw [if_neg c96] at h; rw [if_pos c98] at h; rw [if_neg c1243] at h; rw [if_pos c1246] at h; with_reducible exact h))⟩
              ·
                refine lv_iconst (v := 1) hx hb d_1_17_59 (by decide) ?_
                refine lv_goto (tgt := 64) hx hb d_1_17_60 (by decide) ?_
                exact J1145 ((1 : Int32)) _ _ _ ws ⟨(show q_F (x2.toInt ≤ 1 + 1) from (show x2.toInt ≤ 1 + 1 from by have t1 : x2.toInt = 1 := b1120; omega)), (show q_F (1 ≤ x2.toInt) from (show 1 ≤ x2.toInt from by have t1 : x2.toInt = 1 := b1120; omega)), V, q_lw hl (q_lw1 0 rfl (q_lw1 2 rfl (q_lw1 3 rfl q_lw0))), (show F_NH_print_J64 x2 x3 x4 t0_0 t1_0 t2_0 t2_1 t3_0 t4_0 t4_1 t5_0 t6_0 t7_0 t8_0 t8_1 t9_0 t10_0 t10_1 t11_0 t12_0 t12_1 t13_0 t14_0 t14_1 t15_0 t16_0 t16_1 t16_2 t17_0 t17_1 t17_2 t18_0 t18_1 t19_0 t20_0 t20_1 t21_0 t21_1 t22_0 1 = (F_NH_print x2 x3 x4 t0_0 t1_0 t2_0 t2_1 t3_0 t4_0 t4_1 t5_0 t6_0 t7_0 t8_0 t8_1 t9_0 t10_0 t10_1 t11_0 t12_0 t12_1 t13_0 t14_0 t14_1 t15_0 t16_0 t16_1 t16_2 t17_0 t17_1 t17_2 t18_0 t18_1 t19_0 t20_0 t20_1 t21_0 t21_1 t22_0) from (by rw [F_NH_print.eq_1, if_pos c93, if_neg c96, if_pos c98, if_neg c1243, if_neg c1246])), (show True ∧ S_NH_print_J64 x2 x3 x4 t0_0 t1_0 t2_0 t2_1 t3_0 t4_0 t4_1 t5_0 t6_0 t7_0 t8_0 t8_1 t9_0 t10_0 t10_1 t11_0 t12_0 t12_1 t13_0 t14_0 t14_1 t15_0 t16_0 t16_1 t16_2 t17_0 t17_1 t17_2 t18_0 t18_1 t19_0 t20_0 t20_1 t21_0 t21_1 t22_0 1 from (by have h := hS; rw [S_NH_print.eq_1] at h; rw [if_pos c93] at h; rw [if_neg c96] at h; rw [if_pos c98] at h; rw [if_neg c1243] at h; rw [if_neg c1246] at h; with_reducible exact h))⟩
    ·
      have b1249 : q_F (x2.toInt = 0) := (q_eqI c96)
      refine lv_iload_n hx hb d_1_17_9 rfl (lv_at hl 3 rfl) ?_
      refine lv_iconst (v := 2) hx hb d_1_17_10 (by decide) ?_
      refine q_join (X := Int32) (fun z H locs ls _ => q_F (x2.toInt ≤ z.toInt) ∧ q_F (z.toInt ≤ x2.toInt + 1) ∧ q_Wd D g (va_A ws sz) s ws H locs ∧ lv_has ls 4 [(0, .ref (q 0)), (2, .int x3), (3, .int x4)] ∧ F_NH_print_J25 x2 x3 x4 t0_0 t1_0 t2_0 t2_1 t3_0 t4_0 t4_1 t5_0 t6_0 t7_0 t8_0 t8_1 t9_0 t10_0 t10_1 t11_0 t12_0 t12_1 t13_0 t14_0 t14_1 t15_0 t16_0 t16_1 t16_2 t17_0 t17_1 t17_2 t18_0 t18_1 t19_0 t20_0 t20_1 t21_0 t21_1 t22_0 z = (F_NH_print x2 x3 x4 t0_0 t1_0 t2_0 t2_1 t3_0 t4_0 t4_1 t5_0 t6_0 t7_0 t8_0 t8_1 t9_0 t10_0 t10_1 t11_0 t12_0 t12_1 t13_0 t14_0 t14_1 t15_0 t16_0 t16_1 t16_2 t17_0 t17_1 t17_2 t18_0 t18_1 t19_0 t20_0 t20_1 t21_0 t21_1 t22_0) ∧ True ∧ S_NH_print_J25 x2 x3 x4 t0_0 t1_0 t2_0 t2_1 t3_0 t4_0 t4_1 t5_0 t6_0 t7_0 t8_0 t8_1 t9_0 t10_0 t10_1 t11_0 t12_0 t12_1 t13_0 t14_0 t14_1 t15_0 t16_0 t16_1 t16_2 t17_0 t17_1 t17_2 t18_0 t18_1 t19_0 t20_0 t20_1 t21_0 t21_1 t22_0 z) (fun z => [.int z]) 25 1 6 ?_ ?_
      ·
        rintro lx1250 H locs ls _ hZ9
        obtain ⟨i1275, hZ9⟩ := hZ9
        obtain ⟨i1276, hZ9⟩ := hZ9
        obtain ⟨V, hZ9⟩ := hZ9
        obtain ⟨hl, hZ9⟩ := hZ9
        obtain ⟨hR1277, hS1278⟩ := hZ9
        replace i1275 : q_F (x2.toInt ≤ lx1250.toInt) := i1275
        replace i1276 : q_F (lx1250.toInt ≤ x2.toInt + 1) := i1276
        replace hl : lv_has ls 4 [(0, .ref (q 0)), (2, .int x3), (3, .int x4)] := hl
        refine q_goxv V (q_runSX (As := [.int lx1250]) (rest := []) (d := 7) (mc := 1) (ms := 6) C0 V rfl LS_NH_104 (X_NH_need l D g q ws  lx1250 hlt hI  ⟨(by have t1 : x2.toInt = 0 := b1249; have t2 : x2.toInt ≤ lx1250.toInt := i1275; omega), (by have t1 : x2.toInt = 0 := b1249; have t2 : lx1250.toInt ≤ x2.toInt + 1 := i1276; omega)⟩ _) rfl hl.1 rfl (Nat.le_of_ble_eq_true rfl) ⟨by decide, by decide⟩ ⟨Nat.le_of_ble_eq_true rfl, Nat.le_of_ble_eq_true rfl⟩ d_1_17_25) (fun qx Ex ce u1282 H locs hp1283 V hce hcv hcl => ?_) (fun u1282 H locs hp1283 V => ?_)
        ·
          obtain ⟨cx1285, he1286, hc1287, rfl, hE1284⟩ := hp1283
          have c1288 : ¬ (F_NH_need lx1250) = (0 : Int32) := fun z => hc1287 (((hE1284) : cx1285 = _).trans z)
          exact q_outT hno C0 V (⟨(F_NH_need lx1250), (he1286.trans (congrArg qE ((hE1284) : cx1285 = _))), c1288, hI, hF, t0_0, t1_0, t2_0, t2_1, t3_0, t4_0, t4_1, t5_0, t8_0, t8_1, t9_0, t10_0, t10_1, t11_0, t12_0, t12_1, t13_0, t14_0, t14_1, t15_0, t16_0, t16_1, t16_2, t17_0, t17_1, t17_2, hT0, hT1, hT2, hT3, hT4, hT5, hT8, hT9, hT10, hT11, hT12, hT13, hT14, hT15, hT16, hT17, (show ((F_NH_need lx1250), (0 : Int32), t0_0, t1_0, t2_0, t2_1, t3_0, t4_0, t4_1, t5_0, t8_0, t8_1, t9_0, t10_0, t10_1, t11_0, t12_0, t12_1, t13_0, t14_0, t14_1, t15_0, t16_0, t16_1, t16_2, t17_0, t17_1, t17_2) = (F_NH_print x2 x3 x4 t0_0 t1_0 t2_0 t2_1 t3_0 t4_0 t4_1 t5_0 t6_0 t7_0 t8_0 t8_1 t9_0 t10_0 t10_1 t11_0 t12_0 t12_1 t13_0 t14_0 t14_1 t15_0 t16_0 t16_1 t16_2 t17_0 t17_1 t17_2 t18_0 t18_1 t19_0 t20_0 t20_1 t21_0 t21_1 t22_0) from Eq.trans (by rw [F_NH_print_J25.eq_1, if_neg c1288]) hR1277)⟩) hce hcv hcl (Nat.le_of_ble_eq_true rfl) (Nat.le_of_ble_eq_true rfl)
        ·
          obtain ⟨rfl, hE1289⟩ := hp1283
          have c1288 : (F_NH_need lx1250) = (0 : Int32) := ((hE1289) : (0 : Int32) = _).symm
          refine lv_aload_n hx hb d_1_17_28 rfl (lv_at hl 0 rfl) ?_
          have hO1291 := n_o0 hI
          refine q_get (ci := 0) (j := 12) (v := .ref (q 39)) C0 V i_NH rfl rfl hO1291 (by decide) w_436 rfl d_1_17_29 ?_
          refine lv_aload_n hx hb d_1_17_32 rfl (lv_at hl 0 rfl) ?_
          refine q_get (ci := 0) (j := 2) (v := .ref (q 5)) C0 V i_NH rfl rfl hO1291 (by decide) w_426 rfl d_1_17_33 ?_
          refine lv_iload_n hx hb d_1_17_36 rfl (lv_at hl 1 rfl) ?_
          have hX1292 := n_fx hI (n_s5 g q)
          have ob1293 : q_F (0 ≤ x3.toInt) := (by have h := hS1278; rw [S_NH_print_J25.eq_1] at h; rw [if_pos c1288] at h; exact h.2.1)
          have ob1294 : q_F (x3.toInt ≤ 9) := (by have h := hS1278; rw [S_NH_print_J25.eq_1] at h; rw [if_pos c1288] at h; replace h := q_s2 h; exact h.2.1)
          have hj1295 : x3.toNatClampNeg < 10 := by have z := q_clI (i := x3) (x := x3.toInt) rfl (by first | with_reducible exact q_fe ob1293 | (have t1 : 0 ≤ x3.toInt := ob1293; omega)); have t1 : 0 ≤ x3.toInt := ob1293; have t2 : x3.toInt ≤ 9 := ob1294; omega
          have hq1296 := gk3x3 hj1295
          refine q_aald (t := 4) (q := q k3) C0 V hX1292 rfl (q_ix (x := x3.toInt) rfl (by first | with_reducible exact q_fe ob1293 | (have t1 : 0 ≤ x3.toInt := ob1293; omega)) (by have t1 : 0 ≤ x3.toInt := ob1293; have t2 : x3.toInt ≤ 9 := ob1294; omega)) (by rw [hq1296]; exact n_fwv hj1295) d_1_17_37 ?_
          refine lv_iload_n hx hb d_1_17_38 rfl (lv_at hl 2 rfl) ?_
          have ob1297 : True ∧ S_Wri_wholeText (68 : Int32) x4 t0_0 t1_0 t2_0 t2_1 t3_0 t18_0 t18_1 t19_0 := (by have h := hS1278; rw [S_NH_print_J25.eq_1] at h; rw [if_pos c1288] at h; replace h := q_s2 h; replace h := q_s2 h; with_reducible exact h.2.1)
          have hO1298 := n_o39 hI
          refine q_gov V (q_runV (As := [.ref (q k3), .int x4]) (rest := []) (d := 5) (mc := 0) (ms := 0) (ci := 9) C0 V rfl LV_NH_327 (X_Wri_wholeText l D g q ws k3 68 hBk3 (Or.inr yk3) x4 (by have z0 := yk3; omega) (by have z0 := yk3; omega) (by have z0 := yk3; omega) hI t0_0 hT0 t1_0 hT1 t2_0 t2_1 hT2 t3_0 hT3 t18_0 t18_1 hT18 t19_0 hT19 ob1297 _) rfl rfl hO1298 rfl hl.1 rfl (Nat.le_of_ble_eq_true rfl) ⟨by decide, by decide⟩ ⟨Nat.le_of_ble_eq_true rfl, Nat.le_of_ble_eq_true rfl⟩ d_1_17_39) (fun u1299 H locs hp1300 V => ?_)
          obtain ⟨hI, hZ9⟩ := hp1300
          obtain ⟨hu1316, hZ9⟩ := hZ9
          obtain ⟨y1302, hZ9⟩ := hZ9
          obtain ⟨f1303, hZ9⟩ := hZ9
          obtain ⟨y1306, hZ9⟩ := hZ9
          obtain ⟨y1307, hZ9⟩ := hZ9
          obtain ⟨f1308, hZ9⟩ := hZ9
          obtain ⟨hO1301, hZ9⟩ := hZ9
          obtain ⟨hA1304, hZ9⟩ := hZ9
          obtain ⟨hO1305, hZ9⟩ := hZ9
          obtain ⟨hA1309, hZ9⟩ := hZ9
          obtain ⟨b1310, hZ9⟩ := hZ9
          obtain ⟨b1311, hZ9⟩ := hZ9
          obtain ⟨b1312, hZ9⟩ := hZ9
          obtain ⟨b1313, hZ9⟩ := hZ9
          obtain ⟨b1314, hE1315⟩ := hZ9
          replace hO1301 : u1299[3]? = (some (q 3, .inr (1, [.ref (q 4), .int 11008, .int y1302])) : Option (Nat × va_E)) := hO1301
          replace hA1304 : u1299[4]? = (some (q 4, .inl (g 1, (1376 : Int32).toNatClampNeg, .inr (.inl f1303))) : Option (Nat × va_E)) := hA1304
          replace hO1305 : u1299[10]? = (some (q 10, .inr (2, [.ref (q 11), .int y1306, .int y1307])) : Option (Nat × va_E)) := hO1305
          replace hA1309 : u1299[11]? = (some (q 11, .inl (g 0, (220 : Int32).toNatClampNeg, .inl f1308)) : Option (Nat × va_E)) := hA1309
          obtain ⟨p1317, e1318⟩ : ∃ z, z = (F_Wri_wholeText (68 : Int32) x4 t0_0 t1_0 t2_0 t2_1 t3_0 t18_0 t18_1 t19_0) := ⟨_, rfl⟩
          have e1319 : y1302 = p1317.1 := congrArg (fun z => z.1) (hE1315.trans e1318.symm)
          have e1320 : f1303 = p1317.2.1 := congrArg (fun z => z.2.1) (hE1315.trans e1318.symm)
          have e1321 : y1306 = p1317.2.2.1 := congrArg (fun z => z.2.2.1) (hE1315.trans e1318.symm)
          have e1322 : y1307 = p1317.2.2.2.1 := congrArg (fun z => z.2.2.2.1) (hE1315.trans e1318.symm)
          have e1323 : f1308 = p1317.2.2.2.2 := congrArg (fun z => z.2.2.2.2) (hE1315.trans e1318.symm)
          replace b1310 : q_F (0 ≤ y1306.toInt) := b1310
          replace b1311 : q_F (0 ≤ y1307.toInt) := b1311
          replace b1312 : q_F (t18_1.toInt + 1 ≤ y1302.toInt) := b1312
          replace b1313 : q_F (y1306.toInt ≤ t18_0.toInt) := b1313
          replace b1314 : q_F (y1307.toInt ≤ t18_1.toInt) := b1314
          replace hT4 := (hu1316 _ (by decide)).trans hT4
          replace hT5 := (hu1316 _ (by decide)).trans hT5
          replace hT8 := (hu1316 _ (by decide)).trans hT8
          replace hT9 := (hu1316 _ (by decide)).trans hT9
          replace hT10 := (hu1316 _ (by decide)).trans hT10
          replace hT11 := (hu1316 _ (by decide)).trans hT11
          replace hT12 := (hu1316 _ (by decide)).trans hT12
          replace hT13 := (hu1316 _ (by decide)).trans hT13
          replace hT14 := (hu1316 _ (by decide)).trans hT14
          replace hT15 := (hu1316 _ (by decide)).trans hT15
          replace hT16 := (hu1316 _ (by decide)).trans hT16
          replace hT17 := (hu1316 _ (by decide)).trans hT17
          replace hO1291 := (hu1316 _ (by decide)).trans hO1291
          replace hF := q_uc hF hu1316 (by simp)
          have hR1324 := (show F_NH_print_c39 x2 x3 x4 t0_0 t1_0 t2_0 t2_1 t3_0 t4_0 t4_1 t5_0 t6_0 t7_0 t8_0 t8_1 t9_0 t10_0 t10_1 t11_0 t12_0 t12_1 t13_0 t14_0 t14_1 t15_0 t16_0 t16_1 t16_2 t17_0 t17_1 t17_2 t18_0 t18_1 t19_0 t20_0 t20_1 t21_0 t21_1 t22_0 lx1250 p1317 = (F_NH_print x2 x3 x4 t0_0 t1_0 t2_0 t2_1 t3_0 t4_0 t4_1 t5_0 t6_0 t7_0 t8_0 t8_1 t9_0 t10_0 t10_1 t11_0 t12_0 t12_1 t13_0 t14_0 t14_1 t15_0 t16_0 t16_1 t16_2 t17_0 t17_1 t17_2 t18_0 t18_1 t19_0 t20_0 t20_1 t21_0 t21_1 t22_0) from Eq.trans (by rw [e1318, F_NH_print_J25.eq_1, if_pos c1288]) hR1277)
          have hS1325 := (show True ∧ S_NH_print_c39 x2 x3 x4 t0_0 t1_0 t2_0 t2_1 t3_0 t4_0 t4_1 t5_0 t6_0 t7_0 t8_0 t8_1 t9_0 t10_0 t10_1 t11_0 t12_0 t12_1 t13_0 t14_0 t14_1 t15_0 t16_0 t16_1 t16_2 t17_0 t17_1 t17_2 t18_0 t18_1 t19_0 t20_0 t20_1 t21_0 t21_1 t22_0 lx1250 p1317 from (by rw [e1318]; have h := hS1278; rw [S_NH_print_J25.eq_1] at h; rw [if_pos c1288] at h; replace h := q_s2 h; replace h := q_s2 h; replace h := q_s2 h; with_reducible exact h))
          refine lv_goto (tgt := 130) hx hb d_1_17_42 (by decide) ?_
          refine lv_aload_n hx hb d_1_17_130 rfl (lv_at hl 0 rfl) ?_
          refine q_get (ci := 0) (j := 1) (v := .ref (q 3)) C0 V i_NH rfl rfl hO1291 (by decide) w_425 rfl d_1_17_131 ?_
          refine q_get (ci := 1) (j := 2) (v := .int y1302) C0 V i_She rfl rfl hO1301 (by decide) w_56 rfl d_1_17_134 ?_
          exact q_retX (q_reti C0 V (⟨hI, hF, y1302, f1303, y1306, y1307, f1308, t4_0, t4_1, t5_0, t8_0, t8_1, t9_0, t10_0, t10_1, t11_0, t12_0, t12_1, t13_0, t14_0, t14_1, t15_0, t16_0, t16_1, t16_2, t17_0, t17_1, t17_2, hO1301, hA1304, hO1305, hA1309, hT4, hT5, hT8, hT9, hT10, hT11, hT12, hT13, hT14, hT15, hT16, hT17, (show 0 ≤ y1302.toInt from (by have t1 : 0 ≤ t18_1.toInt ∧ t18_1.toInt ≤ 1 := btt18_1; have t2 : t18_1.toInt + 1 ≤ y1302.toInt := b1312; omega)), (show 0 ≤ y1302.toInt from (by have t1 : 0 ≤ t18_1.toInt ∧ t18_1.toInt ≤ 1 := btt18_1; have t2 : t18_1.toInt + 1 ≤ y1302.toInt := b1312; omega)), (show 0 ≤ y1306.toInt from (by first | with_reducible exact q_fe b1310 | (have t1 : 0 ≤ y1306.toInt := b1310; omega))), (show y1306.toInt ≤ 220 from (by have t1 : 0 ≤ t18_0.toInt ∧ t18_0.toInt ≤ 68 := btt18_0; have t2 : y1306.toInt ≤ t18_0.toInt := b1313; omega)), (show 0 ≤ y1307.toInt from (by first | with_reducible exact q_fe b1311 | (have t1 : 0 ≤ y1307.toInt := b1311; omega))), (show y1307.toInt ≤ 21 from (by have t1 : 0 ≤ t18_1.toInt ∧ t18_1.toInt ≤ 1 := btt18_1; have t2 : y1307.toInt ≤ t18_1.toInt := b1314; omega)), (show 0 ≤ t4_0.toInt from (by first | with_reducible exact (q_fe btt4_0).2 | with_reducible exact (q_fe btt4_0).1 | (have t1 : 0 ≤ t4_0.toInt ∧ t4_0.toInt ≤ 1026 := btt4_0; omega))), (show t4_0.toInt ≤ 1026 from (by first | with_reducible exact (q_fe btt4_0).2 | with_reducible exact (q_fe btt4_0).1 | (have t1 : 0 ≤ t4_0.toInt ∧ t4_0.toInt ≤ 1026 := btt4_0; omega))), (show 0 ≤ t4_1.toInt + 1000000 from (by first | with_reducible exact (q_fe btt4_1).2 | with_reducible exact (q_fe btt4_1).1 | (have t1 : -1000000 ≤ t4_1.toInt ∧ t4_1.toInt ≤ 1000000 := btt4_1; omega))), (show t4_1.toInt ≤ 1000000 from (by first | with_reducible exact (q_fe btt4_1).2 | with_reducible exact (q_fe btt4_1).1 | (have t1 : -1000000 ≤ t4_1.toInt ∧ t4_1.toInt ≤ 1000000 := btt4_1; omega))), (show 0 ≤ t8_0.toInt from (by first | with_reducible exact (q_fe btt8_0).2 | with_reducible exact (q_fe btt8_0).1 | (have t1 : 0 ≤ t8_0.toInt ∧ t8_0.toInt ≤ 220 := btt8_0; omega))), (show t8_0.toInt ≤ 220 from (by first | with_reducible exact (q_fe btt8_0).2 | with_reducible exact (q_fe btt8_0).1 | (have t1 : 0 ≤ t8_0.toInt ∧ t8_0.toInt ≤ 220 := btt8_0; omega))), (show 0 ≤ t8_1.toInt from (by first | with_reducible exact (q_fe btt8_1).2 | with_reducible exact (q_fe btt8_1).1 | (have t1 : 0 ≤ t8_1.toInt ∧ t8_1.toInt ≤ 1 := btt8_1; omega))), (show t8_1.toInt ≤ 2 from (by first | with_reducible exact (q_fe btt8_1).2 | with_reducible exact (q_fe btt8_1).1 | (have t1 : 0 ≤ t8_1.toInt ∧ t8_1.toInt ≤ 1 := btt8_1; omega))), (show 0 ≤ t10_0.toInt from (by first | with_reducible exact (q_fe btt10_0).2 | with_reducible exact (q_fe btt10_0).1 | (have t1 : 0 ≤ t10_0.toInt ∧ t10_0.toInt ≤ 220 := btt10_0; omega))), (show t10_0.toInt ≤ 220 from (by first | with_reducible exact (q_fe btt10_0).2 | with_reducible exact (q_fe btt10_0).1 | (have t1 : 0 ≤ t10_0.toInt ∧ t10_0.toInt ≤ 220 := btt10_0; omega))), (show 0 ≤ t10_1.toInt from (by first | with_reducible exact (q_fe btt10_1).2 | with_reducible exact (q_fe btt10_1).1 | (have t1 : 0 ≤ t10_1.toInt ∧ t10_1.toInt ≤ 1 := btt10_1; omega))), (show t10_1.toInt ≤ 1 from (by first | with_reducible exact (q_fe btt10_1).2 | with_reducible exact (q_fe btt10_1).1 | (have t1 : 0 ≤ t10_1.toInt ∧ t10_1.toInt ≤ 1 := btt10_1; omega))), (show 0 ≤ t12_0.toInt from (by first | with_reducible exact (q_fe btt12_0).2 | with_reducible exact (q_fe btt12_0).1 | (have t1 : 0 ≤ t12_0.toInt ∧ t12_0.toInt ≤ 220 := btt12_0; omega))), (show t12_0.toInt ≤ 220 from (by first | with_reducible exact (q_fe btt12_0).2 | with_reducible exact (q_fe btt12_0).1 | (have t1 : 0 ≤ t12_0.toInt ∧ t12_0.toInt ≤ 220 := btt12_0; omega))), (show 0 ≤ t12_1.toInt from (by first | with_reducible exact (q_fe btt12_1).2 | with_reducible exact (q_fe btt12_1).1 | (have t1 : 0 ≤ t12_1.toInt ∧ t12_1.toInt ≤ 1 := btt12_1; omega))), (show t12_1.toInt ≤ 1 from (by first | with_reducible exact (q_fe btt12_1).2 | with_reducible exact (q_fe btt12_1).1 | (have t1 : 0 ≤ t12_1.toInt ∧ t12_1.toInt ≤ 1 := btt12_1; omega))), (show 0 ≤ t14_0.toInt from (by first | with_reducible exact (q_fe btt14_0).2 | with_reducible exact (q_fe btt14_0).1 | (have t1 : 0 ≤ t14_0.toInt ∧ t14_0.toInt ≤ 220 := btt14_0; omega))), (show t14_0.toInt ≤ 220 from (by first | with_reducible exact (q_fe btt14_0).2 | with_reducible exact (q_fe btt14_0).1 | (have t1 : 0 ≤ t14_0.toInt ∧ t14_0.toInt ≤ 220 := btt14_0; omega))), (show 0 ≤ t14_1.toInt from (by first | with_reducible exact (q_fe btt14_1).2 | with_reducible exact (q_fe btt14_1).1 | (have t1 : 0 ≤ t14_1.toInt ∧ t14_1.toInt ≤ 1 := btt14_1; omega))), (show x3.toInt ≤ y1302.toInt + 9 from (by have t1 : 0 ≤ t18_1.toInt ∧ t18_1.toInt ≤ 1 := btt18_1; have t2 : x3.toInt ≤ 9 := ob1294; have t3 : t18_1.toInt + 1 ≤ y1302.toInt := b1312; omega)), (show t21_1.toInt ≤ y1302.toInt from (by have t1 : 0 ≤ t18_1.toInt ∧ t18_1.toInt ≤ 1 := btt18_1; have t2 : 0 ≤ t21_1.toInt ∧ t21_1.toInt ≤ 1 := btt21_1; have t3 : t18_1.toInt + 1 ≤ y1302.toInt := b1312; omega)), (show x3.toInt ≤ y1306.toInt + 9 from (by have t1 : x3.toInt ≤ 9 := ob1294; have t2 : 0 ≤ y1306.toInt := b1310; omega)), (show y1306.toInt ≤ x3.toInt + 220 from (by have t1 : 0 ≤ t18_0.toInt ∧ t18_0.toInt ≤ 68 := btt18_0; have t2 : 0 ≤ x3.toInt := ob1293; have t3 : y1306.toInt ≤ t18_0.toInt := b1313; omega)), (show x3.toInt ≤ y1307.toInt + 9 from (by have t1 : x3.toInt ≤ 9 := ob1294; have t2 : 0 ≤ y1307.toInt := b1311; omega)), (show y1307.toInt ≤ x3.toInt + 21 from (by have t1 : 0 ≤ t18_1.toInt ∧ t18_1.toInt ≤ 1 := btt18_1; have t2 : 0 ≤ x3.toInt := ob1293; have t3 : y1307.toInt ≤ t18_1.toInt := b1314; omega)), (show y1307.toInt ≤ t2_1.toInt + 20 from (by have t1 : 0 ≤ t2_1.toInt ∧ t2_1.toInt ≤ 1 := btt2_1; have t2 : 0 ≤ t18_1.toInt ∧ t18_1.toInt ≤ 1 := btt18_1; have t3 : y1307.toInt ≤ t18_1.toInt := b1314; omega)), (show x3.toInt ≤ t4_0.toInt + 9 from (by have t1 : 0 ≤ t4_0.toInt ∧ t4_0.toInt ≤ 1026 := btt4_0; have t2 : x3.toInt ≤ 9 := ob1294; omega)), (show t4_0.toInt ≤ x3.toInt + 1026 from (by have t1 : 0 ≤ t4_0.toInt ∧ t4_0.toInt ≤ 1026 := btt4_0; have t2 : 0 ≤ x3.toInt := ob1293; omega)), (show x3.toInt ≤ t4_1.toInt + 1000009 from (by have t1 : -1000000 ≤ t4_1.toInt ∧ t4_1.toInt ≤ 1000000 := btt4_1; have t2 : x3.toInt ≤ 9 := ob1294; omega)), (show t4_1.toInt ≤ x3.toInt + 1000000 from (by have t1 : -1000000 ≤ t4_1.toInt ∧ t4_1.toInt ≤ 1000000 := btt4_1; have t2 : 0 ≤ x3.toInt := ob1293; omega)), (show x3.toInt ≤ t8_0.toInt + 9 from (by have t1 : 0 ≤ t8_0.toInt ∧ t8_0.toInt ≤ 220 := btt8_0; have t2 : x3.toInt ≤ 9 := ob1294; omega)), (show t8_0.toInt ≤ x3.toInt + 220 from (by have t1 : 0 ≤ t8_0.toInt ∧ t8_0.toInt ≤ 220 := btt8_0; have t2 : 0 ≤ x3.toInt := ob1293; omega)), (show x3.toInt ≤ t8_1.toInt + 9 from (by have t1 : 0 ≤ t8_1.toInt ∧ t8_1.toInt ≤ 1 := btt8_1; have t2 : x3.toInt ≤ 9 := ob1294; omega)), (show t8_1.toInt ≤ x3.toInt + 2 from (by have t1 : 0 ≤ t8_1.toInt ∧ t8_1.toInt ≤ 1 := btt8_1; have t2 : 0 ≤ x3.toInt := ob1293; omega)), (show t8_1.toInt ≤ t2_1.toInt + 1 from (by have t1 : 0 ≤ t2_1.toInt ∧ t2_1.toInt ≤ 1 := btt2_1; have t2 : 0 ≤ t8_1.toInt ∧ t8_1.toInt ≤ 1 := btt8_1; omega)), (show x3.toInt ≤ t10_0.toInt + 9 from (by have t1 : 0 ≤ t10_0.toInt ∧ t10_0.toInt ≤ 220 := btt10_0; have t2 : x3.toInt ≤ 9 := ob1294; omega)), (show t10_0.toInt ≤ x3.toInt + 220 from (by have t1 : 0 ≤ t10_0.toInt ∧ t10_0.toInt ≤ 220 := btt10_0; have t2 : 0 ≤ x3.toInt := ob1293; omega)), (show x3.toInt ≤ t10_1.toInt + 9 from (by have t1 : 0 ≤ t10_1.toInt ∧ t10_1.toInt ≤ 1 := btt10_1; have t2 : x3.toInt ≤ 9 := ob1294; omega)), (show t10_1.toInt ≤ x3.toInt + 1 from (by have t1 : 0 ≤ t10_1.toInt ∧ t10_1.toInt ≤ 1 := btt10_1; have t2 : 0 ≤ x3.toInt := ob1293; omega)), (show x3.toInt ≤ t12_0.toInt + 9 from (by have t1 : 0 ≤ t12_0.toInt ∧ t12_0.toInt ≤ 220 := btt12_0; have t2 : x3.toInt ≤ 9 := ob1294; omega)), (show t12_0.toInt ≤ x3.toInt + 220 from (by have t1 : 0 ≤ t12_0.toInt ∧ t12_0.toInt ≤ 220 := btt12_0; have t2 : 0 ≤ x3.toInt := ob1293; omega)), (show x3.toInt ≤ t12_1.toInt + 9 from (by have t1 : 0 ≤ t12_1.toInt ∧ t12_1.toInt ≤ 1 := btt12_1; have t2 : x3.toInt ≤ 9 := ob1294; omega)), (show t12_1.toInt ≤ x3.toInt + 1 from (by have t1 : 0 ≤ t12_1.toInt ∧ t12_1.toInt ≤ 1 := btt12_1; have t2 : 0 ≤ x3.toInt := ob1293; omega)), (show x3.toInt ≤ t14_0.toInt + 9 from (by have t1 : 0 ≤ t14_0.toInt ∧ t14_0.toInt ≤ 220 := btt14_0; have t2 : x3.toInt ≤ 9 := ob1294; omega)), (show t14_0.toInt ≤ x3.toInt + 220 from (by have t1 : 0 ≤ t14_0.toInt ∧ t14_0.toInt ≤ 220 := btt14_0; have t2 : 0 ≤ x3.toInt := ob1293; omega)), (show x3.toInt ≤ t14_1.toInt + 9 from (by have t1 : 0 ≤ t14_1.toInt ∧ t14_1.toInt ≤ 1 := btt14_1; have t2 : x3.toInt ≤ 9 := ob1294; omega)), (show y1302.toInt ≤ y1302.toInt from (by omega)), (show y1302.toInt ≤ y1302.toInt from (by omega)), (show y1306.toInt ≤ y1302.toInt + 218 from (by have t1 : 0 ≤ t18_0.toInt ∧ t18_0.toInt ≤ 68 := btt18_0; have t2 : 0 ≤ t18_1.toInt ∧ t18_1.toInt ≤ 1 := btt18_1; have t3 : t18_1.toInt + 1 ≤ y1302.toInt := b1312; have t4 : y1306.toInt ≤ t18_0.toInt := b1313; omega)), (show y1307.toInt ≤ y1302.toInt + 19 from (by have t1 : t18_1.toInt + 1 ≤ y1302.toInt := b1312; have t2 : y1307.toInt ≤ t18_1.toInt := b1314; omega)), (show t8_1.toInt ≤ y1302.toInt + 1 from (by have t1 : 0 ≤ t8_1.toInt ∧ t8_1.toInt ≤ 1 := btt8_1; have t2 : 0 ≤ t18_1.toInt ∧ t18_1.toInt ≤ 1 := btt18_1; have t3 : t18_1.toInt + 1 ≤ y1302.toInt := b1312; omega)), (show y1307.toInt ≤ t4_1.toInt + 1000001 from (by have t1 : -1000000 ≤ t4_1.toInt ∧ t4_1.toInt ≤ 1000000 := btt4_1; have t2 : 0 ≤ t18_1.toInt ∧ t18_1.toInt ≤ 1 := btt18_1; have t3 : y1307.toInt ≤ t18_1.toInt := b1314; omega)), (show t8_1.toInt ≤ y1307.toInt + 1 from (by have t1 : 0 ≤ t8_1.toInt ∧ t8_1.toInt ≤ 1 := btt8_1; have t2 : 0 ≤ y1307.toInt := b1311; omega)), (show t8_1.toInt ≤ t4_1.toInt + 1000001 from (by have t1 : -1000000 ≤ t4_1.toInt ∧ t4_1.toInt ≤ 1000000 := btt4_1; have t2 : 0 ≤ t8_1.toInt ∧ t8_1.toInt ≤ 1 := btt8_1; omega)), (show ((0 : Int32), y1302, y1302, f1303, y1306, y1307, f1308, t4_0, t4_1, t5_0, t8_0, t8_1, t9_0, t10_0, t10_1, t11_0, t12_0, t12_1, t13_0, t14_0, t14_1, t15_0, t16_0, t16_1, t16_2, t17_0, t17_1, t17_2) = (F_NH_print x2 x3 x4 t0_0 t1_0 t2_0 t2_1 t3_0 t4_0 t4_1 t5_0 t6_0 t7_0 t8_0 t8_1 t9_0 t10_0 t10_1 t11_0 t12_0 t12_1 t13_0 t14_0 t14_1 t15_0 t16_0 t16_1 t16_2 t17_0 t17_1 t17_2 t18_0 t18_1 t19_0 t20_0 t20_1 t21_0 t21_1 t22_0) from Eq.trans (by rw [e1323, e1322, e1321, e1320, e1319, F_NH_print_c39.eq_1]) hR1324)⟩) d_1_17_137)
      ·
        intro J1274
        refine q_join (X := Unit) (fun z H locs ls _ => q_Wd D g (va_A ws sz) s ws H locs ∧ lv_has ls 4 [(0, .ref (q 0)), (2, .int x3), (3, .int x4)] ∧ F_NH_print_J24 x2 x3 x4 t0_0 t1_0 t2_0 t2_1 t3_0 t4_0 t4_1 t5_0 t6_0 t7_0 t8_0 t8_1 t9_0 t10_0 t10_1 t11_0 t12_0 t12_1 t13_0 t14_0 t14_1 t15_0 t16_0 t16_1 t16_2 t17_0 t17_1 t17_2 t18_0 t18_1 t19_0 t20_0 t20_1 t21_0 t21_1 t22_0 = (F_NH_print x2 x3 x4 t0_0 t1_0 t2_0 t2_1 t3_0 t4_0 t4_1 t5_0 t6_0 t7_0 t8_0 t8_1 t9_0 t10_0 t10_1 t11_0 t12_0 t12_1 t13_0 t14_0 t14_1 t15_0 t16_0 t16_1 t16_2 t17_0 t17_1 t17_2 t18_0 t18_1 t19_0 t20_0 t20_1 t21_0 t21_1 t22_0) ∧ True ∧ S_NH_print_J24 x2 x3 x4 t0_0 t1_0 t2_0 t2_1 t3_0 t4_0 t4_1 t5_0 t6_0 t7_0 t8_0 t8_1 t9_0 t10_0 t10_1 t11_0 t12_0 t12_1 t13_0 t14_0 t14_1 t15_0 t16_0 t16_1 t16_2 t17_0 t17_1 t17_2 t18_0 t18_1 t19_0 t20_0 t20_1 t21_0 t21_1 t22_0) (fun z => []) 24 1 6 ?_ ?_
        ·
          rintro _ H locs ls _ ⟨V, hl, hR1353, hS1354⟩
          replace hl : lv_has ls 4 [(0, .ref (q 0)), (2, .int x3), (3, .int x4)] := hl
          refine lv_iconst (v := 0) hx hb d_1_17_24 (by decide) ?_
          exact J1274 ((0 : Int32)) _ _ _ ws ⟨(show q_F (x2.toInt ≤ 0) from (show x2.toInt ≤ 0 from by have t1 : x2.toInt = 0 := b1249; omega)), (show q_F (0 ≤ x2.toInt + 1) from (show 0 ≤ x2.toInt + 1 from by have t1 : x2.toInt = 0 := b1249; omega)), V, q_lw hl (q_lw1 0 rfl (q_lw1 1 rfl (q_lw1 2 rfl q_lw0))), (show F_NH_print_J25 x2 x3 x4 t0_0 t1_0 t2_0 t2_1 t3_0 t4_0 t4_1 t5_0 t6_0 t7_0 t8_0 t8_1 t9_0 t10_0 t10_1 t11_0 t12_0 t12_1 t13_0 t14_0 t14_1 t15_0 t16_0 t16_1 t16_2 t17_0 t17_1 t17_2 t18_0 t18_1 t19_0 t20_0 t20_1 t21_0 t21_1 t22_0 0 = (F_NH_print x2 x3 x4 t0_0 t1_0 t2_0 t2_1 t3_0 t4_0 t4_1 t5_0 t6_0 t7_0 t8_0 t8_1 t9_0 t10_0 t10_1 t11_0 t12_0 t12_1 t13_0 t14_0 t14_1 t15_0 t16_0 t16_1 t16_2 t17_0 t17_1 t17_2 t18_0 t18_1 t19_0 t20_0 t20_1 t21_0 t21_1 t22_0) from Eq.trans (by rw [F_NH_print_J24.eq_1]) hR1353), (show True ∧ S_NH_print_J25 x2 x3 x4 t0_0 t1_0 t2_0 t2_1 t3_0 t4_0 t4_1 t5_0 t6_0 t7_0 t8_0 t8_1 t9_0 t10_0 t10_1 t11_0 t12_0 t12_1 t13_0 t14_0 t14_1 t15_0 t16_0 t16_1 t16_2 t17_0 t17_1 t17_2 t18_0 t18_1 t19_0 t20_0 t20_1 t21_0 t21_1 t22_0 0 from (by have h := hS1354; rw [S_NH_print_J24.eq_1] at h; with_reducible exact h))⟩
        ·
          intro J1352
          refine lv_icmp_lt (tgt := 24) hx hb d_1_17_11 (by decide) (fun c1358 => ?_) (fun c1358 => ?_)
          ·
            exact J1352 (()) _ _ _ ws ⟨V, q_lw hl (q_lw1 0 rfl (q_lw1 2 rfl (q_lw1 3 rfl q_lw0))), (show F_NH_print_J24 x2 x3 x4 t0_0 t1_0 t2_0 t2_1 t3_0 t4_0 t4_1 t5_0 t6_0 t7_0 t8_0 t8_1 t9_0 t10_0 t10_1 t11_0 t12_0 t12_1 t13_0 t14_0 t14_1 t15_0 t16_0 t16_1 t16_2 t17_0 t17_1 t17_2 t18_0 t18_1 t19_0 t20_0 t20_1 t21_0 t21_1 t22_0 = (F_NH_print x2 x3 x4 t0_0 t1_0 t2_0 t2_1 t3_0 t4_0 t4_1 t5_0 t6_0 t7_0 t8_0 t8_1 t9_0 t10_0 t10_1 t11_0 t12_0 t12_1 t13_0 t14_0 t14_1 t15_0 t16_0 t16_1 t16_2 t17_0 t17_1 t17_2 t18_0 t18_1 t19_0 t20_0 t20_1 t21_0 t21_1 t22_0) from (by rw [F_NH_print.eq_1, if_pos c93, if_pos c96, if_pos c1358])), (show True ∧ S_NH_print_J24 x2 x3 x4 t0_0 t1_0 t2_0 t2_1 t3_0 t4_0 t4_1 t5_0 t6_0 t7_0 t8_0 t8_1 t9_0 t10_0 t10_1 t11_0 t12_0 t12_1 t13_0 t14_0 t14_1 t15_0 t16_0 t16_1 t16_2 t17_0 t17_1 t17_2 t18_0 t18_1 t19_0 t20_0 t20_1 t21_0 t21_1 t22_0 from (by have h := hS; rw [S_NH_print.eq_1] at h; rw [if_pos c93] at h; rw [if_pos c96] at h; rw [if_pos c1358] at h; with_reducible exact h))⟩
          ·
            refine lv_iload_n hx hb d_1_17_14 rfl (lv_at hl 3 rfl) ?_
            refine lv_bipush (v := 36) hx hb d_1_17_15 (by decide) ?_
            refine lv_icmp_gt (tgt := 24) hx hb d_1_17_17 (by decide) (fun c1361 => ?_) (fun c1361 => ?_)
            ·
              exact J1352 (()) _ _ _ ws ⟨V, q_lw hl (q_lw1 0 rfl (q_lw1 2 rfl (q_lw1 3 rfl q_lw0))), (show F_NH_print_J24 x2 x3 x4 t0_0 t1_0 t2_0 t2_1 t3_0 t4_0 t4_1 t5_0 t6_0 t7_0 t8_0 t8_1 t9_0 t10_0 t10_1 t11_0 t12_0 t12_1 t13_0 t14_0 t14_1 t15_0 t16_0 t16_1 t16_2 t17_0 t17_1 t17_2 t18_0 t18_1 t19_0 t20_0 t20_1 t21_0 t21_1 t22_0 = (F_NH_print x2 x3 x4 t0_0 t1_0 t2_0 t2_1 t3_0 t4_0 t4_1 t5_0 t6_0 t7_0 t8_0 t8_1 t9_0 t10_0 t10_1 t11_0 t12_0 t12_1 t13_0 t14_0 t14_1 t15_0 t16_0 t16_1 t16_2 t17_0 t17_1 t17_2 t18_0 t18_1 t19_0 t20_0 t20_1 t21_0 t21_1 t22_0) from (by rw [F_NH_print.eq_1, if_pos c93, if_pos c96, if_neg c1358, if_pos c1361])), (show True ∧ S_NH_print_J24 x2 x3 x4 t0_0 t1_0 t2_0 t2_1 t3_0 t4_0 t4_1 t5_0 t6_0 t7_0 t8_0 t8_1 t9_0 t10_0 t10_1 t11_0 t12_0 t12_1 t13_0 t14_0 t14_1 t15_0 t16_0 t16_1 t16_2 t17_0 t17_1 t17_2 t18_0 t18_1 t19_0 t20_0 t20_1 t21_0 t21_1 t22_0 from (by have h := hS; rw [S_NH_print.eq_1] at h; rw [if_pos c93] at h; rw [if_pos c96] at h; rw [if_neg c1358] at h; rw [if_pos c1361] at h; with_reducible exact h))⟩
            ·
              refine lv_iconst (v := 1) hx hb d_1_17_20 (by decide) ?_
              refine lv_goto (tgt := 25) hx hb d_1_17_21 (by decide) ?_
              exact J1274 ((1 : Int32)) _ _ _ ws ⟨(show q_F (x2.toInt ≤ 1) from (show x2.toInt ≤ 1 from by have t1 : x2.toInt = 0 := b1249; omega)), (show q_F (1 ≤ x2.toInt + 1) from (show 1 ≤ x2.toInt + 1 from by have t1 : x2.toInt = 0 := b1249; omega)), V, q_lw hl (q_lw1 0 rfl (q_lw1 2 rfl (q_lw1 3 rfl q_lw0))), (show F_NH_print_J25 x2 x3 x4 t0_0 t1_0 t2_0 t2_1 t3_0 t4_0 t4_1 t5_0 t6_0 t7_0 t8_0 t8_1 t9_0 t10_0 t10_1 t11_0 t12_0 t12_1 t13_0 t14_0 t14_1 t15_0 t16_0 t16_1 t16_2 t17_0 t17_1 t17_2 t18_0 t18_1 t19_0 t20_0 t20_1 t21_0 t21_1 t22_0 1 = (F_NH_print x2 x3 x4 t0_0 t1_0 t2_0 t2_1 t3_0 t4_0 t4_1 t5_0 t6_0 t7_0 t8_0 t8_1 t9_0 t10_0 t10_1 t11_0 t12_0 t12_1 t13_0 t14_0 t14_1 t15_0 t16_0 t16_1 t16_2 t17_0 t17_1 t17_2 t18_0 t18_1 t19_0 t20_0 t20_1 t21_0 t21_1 t22_0) from (by rw [F_NH_print.eq_1, if_pos c93, if_pos c96, if_neg c1358, if_neg c1361])), (show True ∧ S_NH_print_J25 x2 x3 x4 t0_0 t1_0 t2_0 t2_1 t3_0 t4_0 t4_1 t5_0 t6_0 t7_0 t8_0 t8_1 t9_0 t10_0 t10_1 t11_0 t12_0 t12_1 t13_0 t14_0 t14_1 t15_0 t16_0 t16_1 t16_2 t17_0 t17_1 t17_2 t18_0 t18_1 t19_0 t20_0 t20_1 t21_0 t21_1 t22_0 1 from (by have h := hS; rw [S_NH_print.eq_1] at h; rw [if_pos c93] at h; rw [if_pos c96] at h; rw [if_neg c1358] at h; rw [if_neg c1361] at h; with_reducible exact h))⟩

