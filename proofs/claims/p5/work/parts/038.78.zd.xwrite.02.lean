theorem d_12_6_0 : decode prog_12_method_6_code 0 = .ok (.aload_n 0, 1) := by decide +kernel
theorem d_12_6_1 : decode prog_12_method_6_code 1 = .ok (.aload_n 1, 1) := by decide +kernel
theorem d_12_6_2 : decode prog_12_method_6_code 2 = .ok (.lload_n 2, 1) := by decide +kernel
theorem d_12_6_3 : decode prog_12_method_6_code 3 = .ok (.invokevirtual 118, 3) := by decide +kernel
set_option maxRecDepth 100000 in
theorem w_1602 : (Cond.methodLink "NumberHouse$Writer" (118 : Nat) ({ cls := "NumberHouse$Floats", name := "isNegative", desc := "(J)Z" } : MethodName)) ∈ q_tbl := q_of7 162 rfl (by decide +kernel)
theorem LV_Wri_118 : q_LV "NumberHouse$Writer" 118 y_Flo_isNegative prog_7_method_4_code 3 (some .boolean) 1 := ⟨w_1244, w_8, w_1602, w_1242, w_1243, ⟨by decide, by decide, by decide +kernel⟩⟩
theorem d_12_6_22 : decode prog_12_method_6_code 22 = .ok (.invokevirtual 27, 3) := by decide +kernel
theorem d_12_6_25 : decode prog_12_method_6_code 25 = .ok (.aload_n 1, 1) := by decide +kernel
theorem d_12_6_26 : decode prog_12_method_6_code 26 = .ok (.lload_n 2, 1) := by decide +kernel
theorem d_12_6_27 : decode prog_12_method_6_code 27 = .ok (.invokevirtual 124, 3) := by decide +kernel
set_option maxRecDepth 100000 in
theorem w_1603 : (Cond.methodLink "NumberHouse$Writer" (124 : Nat) ({ cls := "NumberHouse$Floats", name := "isNoNumber", desc := "(J)Z" } : MethodName)) ∈ q_tbl := q_of7 163 rfl (by decide +kernel)
theorem LV_Wri_124 : q_LV "NumberHouse$Writer" 124 y_Flo_isNoNumber prog_7_method_6_code 3 (some .boolean) 1 := ⟨w_1234, w_8, w_1603, w_1232, w_1233, ⟨by decide, by decide, by decide +kernel⟩⟩
theorem d_12_6_30 : decode prog_12_method_6_code 30 = .ok (.ifCond .eq 15, 3) := by decide +kernel
theorem d_12_6_45 : decode prog_12_method_6_code 45 = .ok (.aload_n 1, 1) := by decide +kernel
theorem d_12_6_46 : decode prog_12_method_6_code 46 = .ok (.lload_n 2, 1) := by decide +kernel
theorem d_12_6_47 : decode prog_12_method_6_code 47 = .ok (.invokevirtual 133, 3) := by decide +kernel
set_option maxRecDepth 100000 in
theorem w_1611 : (Cond.methodLink "NumberHouse$Writer" (133 : Nat) ({ cls := "NumberHouse$Floats", name := "isFinite", desc := "(J)Z" } : MethodName)) ∈ q_tbl := q_of7 171 rfl (by decide +kernel)
theorem LV_Wri_133 : q_LV "NumberHouse$Writer" 133 y_Flo_isFinite prog_7_method_5_code 3 (some .boolean) 1 := ⟨w_1155, w_8, w_1611, w_1153, w_1154, ⟨by decide, by decide, by decide +kernel⟩⟩
theorem d_12_6_50 : decode prog_12_method_6_code 50 = .ok (.ifCond .ne 15, 3) := by decide +kernel
theorem d_12_6_65 : decode prog_12_method_6_code 65 = .ok (.aload_n 1, 1) := by decide +kernel
theorem d_12_6_66 : decode prog_12_method_6_code 66 = .ok (.lload_n 2, 1) := by decide +kernel
theorem d_12_6_67 : decode prog_12_method_6_code 67 = .ok (.invokevirtual 138, 3) := by decide +kernel
set_option maxRecDepth 100000 in
theorem w_1613 : (Cond.methodLink "NumberHouse$Writer" (138 : Nat) ({ cls := "NumberHouse$Floats", name := "isZero", desc := "(J)Z" } : MethodName)) ∈ q_tbl := q_of7 173 rfl (by decide +kernel)
theorem LV_Wri_138 : q_LV "NumberHouse$Writer" 138 y_Flo_isZero prog_7_method_7_code 3 (some .boolean) 1 := ⟨w_1167, w_8, w_1613, w_1165, w_1166, ⟨by decide, by decide, by decide +kernel⟩⟩
theorem d_12_6_70 : decode prog_12_method_6_code 70 = .ok (.ifCond .eq 25, 3) := by decide +kernel
theorem d_12_6_95 : decode prog_12_method_6_code 95 = .ok (.iload 4, 2) := by decide +kernel
theorem d_12_6_97 : decode prog_12_method_6_code 97 = .ok (.ifCond .eq 12, 3) := by decide +kernel
theorem d_12_6_109 : decode prog_12_method_6_code 109 = .ok (.aload_n 0, 1) := by decide +kernel
theorem d_12_6_110 : decode prog_12_method_6_code 110 = .ok (.aload_n 1, 1) := by decide +kernel
theorem d_12_6_111 : decode prog_12_method_6_code 111 = .ok (.lload_n 2, 1) := by decide +kernel
theorem d_12_6_112 : decode prog_12_method_6_code 112 = .ok (.invokevirtual 149, 3) := by decide +kernel
set_option maxRecDepth 100000 in
theorem w_1633 : (Cond.code ({ cls := "NumberHouse$Writer", name := "writeShort", desc := "(LNumberHouse$Floats;J)V" } : MethodName) prog_12_method_7_code (4 : Nat) (none : Option ClassFile.FieldType)) ∈ q_tbl := q_of7 193 rfl (by decide +kernel)
set_option maxRecDepth 100000 in
theorem w_1630 : (Cond.methodLink "NumberHouse$Writer" (149 : Nat) ({ cls := "NumberHouse$Writer", name := "writeShort", desc := "(LNumberHouse$Floats;J)V" } : MethodName)) ∈ q_tbl := q_of7 190 rfl (by decide +kernel)
set_option maxRecDepth 100000 in
theorem w_1632 : (Cond.instanceMethod ({ cls := "NumberHouse$Writer", name := "writeShort", desc := "(LNumberHouse$Floats;J)V" } : MethodName)) ∈ q_tbl := q_of7 192 rfl (by decide +kernel)
theorem ws_41 : Cond.selects "NumberHouse$Writer" (⟨"NumberHouse$Writer", "writeShort", "(LNumberHouse$Floats;J)V"⟩ : MethodName) (⟨"NumberHouse$Writer", "writeShort", "(LNumberHouse$Floats;J)V"⟩ : MethodName) ∈ q_tbl := q_ofs 41 (by decide +kernel) (by decide +kernel)
theorem LV_Wri_149 : q_LV "NumberHouse$Writer" 149 y_Wri_writeShort prog_12_method_7_code 4 none 2 := ⟨w_1633, w_11, w_1630, w_1632, ws_41, ⟨by decide, by decide, by decide +kernel⟩⟩
theorem d_12_6_115 : decode prog_12_method_6_code 115 = .ok (.return_, 1) := by decide +kernel
theorem d_12_6_100 : decode prog_12_method_6_code 100 = .ok (.aload_n 0, 1) := by decide +kernel
theorem d_12_6_101 : decode prog_12_method_6_code 101 = .ok (.aload_n 1, 1) := by decide +kernel
theorem d_12_6_102 : decode prog_12_method_6_code 102 = .ok (.lload_n 2, 1) := by decide +kernel
theorem d_12_6_103 : decode prog_12_method_6_code 103 = .ok (.invokevirtual 145, 3) := by decide +kernel
set_option maxRecDepth 100000 in
theorem w_1619 : (Cond.code ({ cls := "NumberHouse$Writer", name := "writeHexadecimal", desc := "(LNumberHouse$Floats;J)V" } : MethodName) prog_12_method_8_code (9 : Nat) (none : Option ClassFile.FieldType)) ∈ q_tbl := q_of7 179 rfl (by decide +kernel)
set_option maxRecDepth 100000 in
theorem w_1616 : (Cond.methodLink "NumberHouse$Writer" (145 : Nat) ({ cls := "NumberHouse$Writer", name := "writeHexadecimal", desc := "(LNumberHouse$Floats;J)V" } : MethodName)) ∈ q_tbl := q_of7 176 rfl (by decide +kernel)
set_option maxRecDepth 100000 in
theorem w_1618 : (Cond.instanceMethod ({ cls := "NumberHouse$Writer", name := "writeHexadecimal", desc := "(LNumberHouse$Floats;J)V" } : MethodName)) ∈ q_tbl := q_of7 178 rfl (by decide +kernel)
theorem ws_39 : Cond.selects "NumberHouse$Writer" (⟨"NumberHouse$Writer", "writeHexadecimal", "(LNumberHouse$Floats;J)V"⟩ : MethodName) (⟨"NumberHouse$Writer", "writeHexadecimal", "(LNumberHouse$Floats;J)V"⟩ : MethodName) ∈ q_tbl := q_ofs 39 (by decide +kernel) (by decide +kernel)
theorem LV_Wri_145 : q_LV "NumberHouse$Writer" 145 y_Wri_writeHexadecimal prog_12_method_8_code 9 none 2 := ⟨w_1619, w_11, w_1616, w_1618, ws_39, ⟨by decide, by decide, by decide +kernel⟩⟩
theorem d_12_6_106 : decode prog_12_method_6_code 106 = .ok (.goto 9, 3) := by decide +kernel
theorem d_12_6_73 : decode prog_12_method_6_code 73 = .ok (.aload_n 0, 1) := by decide +kernel
theorem d_12_6_74 : decode prog_12_method_6_code 74 = .ok (.getfield 7, 3) := by decide +kernel
theorem d_12_6_77 : decode prog_12_method_6_code 77 = .ok (.iload 4, 2) := by decide +kernel
theorem d_12_6_79 : decode prog_12_method_6_code 79 = .ok (.ifCond .eq 8, 3) := by decide +kernel
theorem d_12_6_87 : decode prog_12_method_6_code 87 = .ok (.ldc 143, 2) := by decide +kernel
theorem d_12_6_89 : decode prog_12_method_6_code 89 = .ok (.invokevirtual 129, 3) := by decide +kernel
theorem d_12_6_92 : decode prog_12_method_6_code 92 = .ok (.goto 23, 3) := by decide +kernel
theorem d_12_6_82 : decode prog_12_method_6_code 82 = .ok (.ldc 141, 2) := by decide +kernel
theorem d_12_6_84 : decode prog_12_method_6_code 84 = .ok (.goto 5, 3) := by decide +kernel
theorem d_12_6_53 : decode prog_12_method_6_code 53 = .ok (.aload_n 0, 1) := by decide +kernel
theorem d_12_6_54 : decode prog_12_method_6_code 54 = .ok (.getfield 7, 3) := by decide +kernel
theorem d_12_6_57 : decode prog_12_method_6_code 57 = .ok (.ldc 136, 2) := by decide +kernel
theorem d_12_6_59 : decode prog_12_method_6_code 59 = .ok (.invokevirtual 129, 3) := by decide +kernel
theorem d_12_6_62 : decode prog_12_method_6_code 62 = .ok (.goto 53, 3) := by decide +kernel
theorem d_12_6_33 : decode prog_12_method_6_code 33 = .ok (.aload_n 0, 1) := by decide +kernel
theorem d_12_6_34 : decode prog_12_method_6_code 34 = .ok (.getfield 7, 3) := by decide +kernel
theorem d_12_6_37 : decode prog_12_method_6_code 37 = .ok (.ldc 127, 2) := by decide +kernel
theorem d_12_6_39 : decode prog_12_method_6_code 39 = .ok (.invokevirtual 129, 3) := by decide +kernel
theorem d_12_6_42 : decode prog_12_method_6_code 42 = .ok (.goto 73, 3) := by decide +kernel
theorem d_12_6_21 : decode prog_12_method_6_code 21 = .ok (.iconst 0, 1) := by decide +kernel
theorem d_12_6_6 : decode prog_12_method_6_code 6 = .ok (.ifCond .eq 15, 3) := by decide +kernel
theorem d_12_6_9 : decode prog_12_method_6_code 9 = .ok (.aload_n 1, 1) := by decide +kernel
theorem d_12_6_10 : decode prog_12_method_6_code 10 = .ok (.lload_n 2, 1) := by decide +kernel
theorem d_12_6_11 : decode prog_12_method_6_code 11 = .ok (.invokevirtual 124, 3) := by decide +kernel
theorem d_12_6_14 : decode prog_12_method_6_code 14 = .ok (.ifCond .ne 7, 3) := by decide +kernel
theorem d_12_6_17 : decode prog_12_method_6_code 17 = .ok (.iconst 1, 1) := by decide +kernel
theorem d_12_6_18 : decode prog_12_method_6_code 18 = .ok (.goto 4, 3) := by decide +kernel
def y_Wri_floatText : MethodName := ⟨"NumberHouse$Writer", "floatText", "(LNumberHouse$Floats;JZ)V"⟩
def F_Wri_floatText_c112 (A : Int32) (B : Int32) (C : Int32) (x3 : Int64) (x4 : Int32) (t0_0 : Int32) (t1_0 : (Nat → Int64)) (t2_0 : Int32) (t2_1 : Int32) (t3_0 : (Nat → Int32)) (t4_0 : Int32) (t4_1 : Int32) (t5_0 : (Nat → Int32)) (t6_0 : Int32) (t6_1 : Int32) (t7_0 : (Nat → Int32)) (t8_0 : Int32) (t8_1 : Int32) (t9_0 : (Nat → Int32)) (t10_0 : Int32) (t10_1 : Int32) (t11_0 : (Nat → Int32)) (t12_0 : Int32) (t12_1 : Int32) (t13_0 : (Nat → Int32)) (t14_0 : Int64) (t14_1 : Int32) (t14_2 : Int32) (lx65 : Int32) (p100 : (Int32 × (Nat → Int64))) (p213 : (Int32 × (Nat → Int64) × Int32 × Int32 × (Nat → Int32) × Int32 × Int32 × (Nat → Int32) × Int32 × Int32 × (Nat → Int32) × Int32 × Int32 × (Nat → Int32) × Int32 × Int32 × (Nat → Int32) × Int32 × Int32 × (Nat → Int32) × Int64 × Int32 × Int32)) : Int32 × (Nat → Int64) × Int32 × Int32 × (Nat → Int32) × Int32 × Int32 × (Nat → Int32) × Int32 × Int32 × (Nat → Int32) × Int32 × Int32 × (Nat → Int32) × Int32 × Int32 × (Nat → Int32) × Int32 × Int32 × (Nat → Int32) × Int64 × Int32 × Int32 := ((p213.1 : Int32), (p213.2.1 : (Nat → Int64)), (p213.2.2.1 : Int32), (p213.2.2.2.1 : Int32), (p213.2.2.2.2.1 : (Nat → Int32)), (p213.2.2.2.2.2.1 : Int32), (p213.2.2.2.2.2.2.1 : Int32), (p213.2.2.2.2.2.2.2.1 : (Nat → Int32)), (p213.2.2.2.2.2.2.2.2.1 : Int32), (p213.2.2.2.2.2.2.2.2.2.1 : Int32), (p213.2.2.2.2.2.2.2.2.2.2.1 : (Nat → Int32)), (p213.2.2.2.2.2.2.2.2.2.2.2.1 : Int32), (p213.2.2.2.2.2.2.2.2.2.2.2.2.1 : Int32), (p213.2.2.2.2.2.2.2.2.2.2.2.2.2.1 : (Nat → Int32)), (p213.2.2.2.2.2.2.2.2.2.2.2.2.2.2.1 : Int32), (p213.2.2.2.2.2.2.2.2.2.2.2.2.2.2.2.1 : Int32), (p213.2.2.2.2.2.2.2.2.2.2.2.2.2.2.2.2.1 : (Nat → Int32)), (p213.2.2.2.2.2.2.2.2.2.2.2.2.2.2.2.2.2.1 : Int32), (p213.2.2.2.2.2.2.2.2.2.2.2.2.2.2.2.2.2.2.1 : Int32), (p213.2.2.2.2.2.2.2.2.2.2.2.2.2.2.2.2.2.2.2.1 : (Nat → Int32)), (p213.2.2.2.2.2.2.2.2.2.2.2.2.2.2.2.2.2.2.2.2.1 : Int64), (p213.2.2.2.2.2.2.2.2.2.2.2.2.2.2.2.2.2.2.2.2.2.1 : Int32), (p213.2.2.2.2.2.2.2.2.2.2.2.2.2.2.2.2.2.2.2.2.2.2 : Int32))
def F_Wri_floatText_c103 (A : Int32) (B : Int32) (C : Int32) (x3 : Int64) (x4 : Int32) (t0_0 : Int32) (t1_0 : (Nat → Int64)) (t2_0 : Int32) (t2_1 : Int32) (t3_0 : (Nat → Int32)) (t4_0 : Int32) (t4_1 : Int32) (t5_0 : (Nat → Int32)) (t6_0 : Int32) (t6_1 : Int32) (t7_0 : (Nat → Int32)) (t8_0 : Int32) (t8_1 : Int32) (t9_0 : (Nat → Int32)) (t10_0 : Int32) (t10_1 : Int32) (t11_0 : (Nat → Int32)) (t12_0 : Int32) (t12_1 : Int32) (t13_0 : (Nat → Int32)) (t14_0 : Int64) (t14_1 : Int32) (t14_2 : Int32) (lx65 : Int32) (p100 : (Int32 × (Nat → Int64))) (p255 : (Int32 × (Nat → Int64))) : Int32 × (Nat → Int64) × Int32 × Int32 × (Nat → Int32) × Int32 × Int32 × (Nat → Int32) × Int32 × Int32 × (Nat → Int32) × Int32 × Int32 × (Nat → Int32) × Int32 × Int32 × (Nat → Int32) × Int32 × Int32 × (Nat → Int32) × Int64 × Int32 × Int32 := ((p255.1 : Int32), (p255.2 : (Nat → Int64)), t2_0, t2_1, t3_0, t4_0, t4_1, t5_0, t6_0, t6_1, t7_0, t8_0, t8_1, t9_0, t10_0, t10_1, t11_0, t12_0, t12_1, t13_0, t14_0, t14_1, t14_2)
def F_Wri_floatText_c89 (A : Int32) (B : Int32) (C : Int32) (x3 : Int64) (x4 : Int32) (t0_0 : Int32) (t1_0 : (Nat → Int64)) (t2_0 : Int32) (t2_1 : Int32) (t3_0 : (Nat → Int32)) (t4_0 : Int32) (t4_1 : Int32) (t5_0 : (Nat → Int32)) (t6_0 : Int32) (t6_1 : Int32) (t7_0 : (Nat → Int32)) (t8_0 : Int32) (t8_1 : Int32) (t9_0 : (Nat → Int32)) (t10_0 : Int32) (t10_1 : Int32) (t11_0 : (Nat → Int32)) (t12_0 : Int32) (t12_1 : Int32) (t13_0 : (Nat → Int32)) (t14_0 : Int64) (t14_1 : Int32) (t14_2 : Int32) (lx65 : Int32) (p100 : (Int32 × (Nat → Int64))) (p277 : (Int32 × (Nat → Int64))) : Int32 × (Nat → Int64) × Int32 × Int32 × (Nat → Int32) × Int32 × Int32 × (Nat → Int32) × Int32 × Int32 × (Nat → Int32) × Int32 × Int32 × (Nat → Int32) × Int32 × Int32 × (Nat → Int32) × Int32 × Int32 × (Nat → Int32) × Int64 × Int32 × Int32 := ((p277.1 : Int32), (p277.2 : (Nat → Int64)), t2_0, t2_1, t3_0, t4_0, t4_1, t5_0, t6_0, t6_1, t7_0, t8_0, t8_1, t9_0, t10_0, t10_1, t11_0, t12_0, t12_1, t13_0, t14_0, t14_1, t14_2)
def F_Wri_floatText_c89_6 (A : Int32) (B : Int32) (C : Int32) (x3 : Int64) (x4 : Int32) (t0_0 : Int32) (t1_0 : (Nat → Int64)) (t2_0 : Int32) (t2_1 : Int32) (t3_0 : (Nat → Int32)) (t4_0 : Int32) (t4_1 : Int32) (t5_0 : (Nat → Int32)) (t6_0 : Int32) (t6_1 : Int32) (t7_0 : (Nat → Int32)) (t8_0 : Int32) (t8_1 : Int32) (t9_0 : (Nat → Int32)) (t10_0 : Int32) (t10_1 : Int32) (t11_0 : (Nat → Int32)) (t12_0 : Int32) (t12_1 : Int32) (t13_0 : (Nat → Int32)) (t14_0 : Int64) (t14_1 : Int32) (t14_2 : Int32) (lx65 : Int32) (p100 : (Int32 × (Nat → Int64))) (p297 : (Int32 × (Nat → Int64))) : Int32 × (Nat → Int64) × Int32 × Int32 × (Nat → Int32) × Int32 × Int32 × (Nat → Int32) × Int32 × Int32 × (Nat → Int32) × Int32 × Int32 × (Nat → Int32) × Int32 × Int32 × (Nat → Int32) × Int32 × Int32 × (Nat → Int32) × Int64 × Int32 × Int32 := ((p297.1 : Int32), (p297.2 : (Nat → Int64)), t2_0, t2_1, t3_0, t4_0, t4_1, t5_0, t6_0, t6_1, t7_0, t8_0, t8_1, t9_0, t10_0, t10_1, t11_0, t12_0, t12_1, t13_0, t14_0, t14_1, t14_2)
def F_Wri_floatText_c59 (A : Int32) (B : Int32) (C : Int32) (x3 : Int64) (x4 : Int32) (t0_0 : Int32) (t1_0 : (Nat → Int64)) (t2_0 : Int32) (t2_1 : Int32) (t3_0 : (Nat → Int32)) (t4_0 : Int32) (t4_1 : Int32) (t5_0 : (Nat → Int32)) (t6_0 : Int32) (t6_1 : Int32) (t7_0 : (Nat → Int32)) (t8_0 : Int32) (t8_1 : Int32) (t9_0 : (Nat → Int32)) (t10_0 : Int32) (t10_1 : Int32) (t11_0 : (Nat → Int32)) (t12_0 : Int32) (t12_1 : Int32) (t13_0 : (Nat → Int32)) (t14_0 : Int64) (t14_1 : Int32) (t14_2 : Int32) (lx65 : Int32) (p100 : (Int32 × (Nat → Int64))) (p317 : (Int32 × (Nat → Int64))) : Int32 × (Nat → Int64) × Int32 × Int32 × (Nat → Int32) × Int32 × Int32 × (Nat → Int32) × Int32 × Int32 × (Nat → Int32) × Int32 × Int32 × (Nat → Int32) × Int32 × Int32 × (Nat → Int32) × Int32 × Int32 × (Nat → Int32) × Int64 × Int32 × Int32 := ((p317.1 : Int32), (p317.2 : (Nat → Int64)), t2_0, t2_1, t3_0, t4_0, t4_1, t5_0, t6_0, t6_1, t7_0, t8_0, t8_1, t9_0, t10_0, t10_1, t11_0, t12_0, t12_1, t13_0, t14_0, t14_1, t14_2)
def F_Wri_floatText_c39 (A : Int32) (B : Int32) (C : Int32) (x3 : Int64) (x4 : Int32) (t0_0 : Int32) (t1_0 : (Nat → Int64)) (t2_0 : Int32) (t2_1 : Int32) (t3_0 : (Nat → Int32)) (t4_0 : Int32) (t4_1 : Int32) (t5_0 : (Nat → Int32)) (t6_0 : Int32) (t6_1 : Int32) (t7_0 : (Nat → Int32)) (t8_0 : Int32) (t8_1 : Int32) (t9_0 : (Nat → Int32)) (t10_0 : Int32) (t10_1 : Int32) (t11_0 : (Nat → Int32)) (t12_0 : Int32) (t12_1 : Int32) (t13_0 : (Nat → Int32)) (t14_0 : Int64) (t14_1 : Int32) (t14_2 : Int32) (lx65 : Int32) (p100 : (Int32 × (Nat → Int64))) (p337 : (Int32 × (Nat → Int64))) : Int32 × (Nat → Int64) × Int32 × Int32 × (Nat → Int32) × Int32 × Int32 × (Nat → Int32) × Int32 × Int32 × (Nat → Int32) × Int32 × Int32 × (Nat → Int32) × Int32 × Int32 × (Nat → Int32) × Int32 × Int32 × (Nat → Int32) × Int64 × Int32 × Int32 := ((p337.1 : Int32), (p337.2 : (Nat → Int64)), t2_0, t2_1, t3_0, t4_0, t4_1, t5_0, t6_0, t6_1, t7_0, t8_0, t8_1, t9_0, t10_0, t10_1, t11_0, t12_0, t12_1, t13_0, t14_0, t14_1, t14_2)
def F_Wri_floatText_c22 (A : Int32) (B : Int32) (C : Int32) (x3 : Int64) (x4 : Int32) (t0_0 : Int32) (t1_0 : (Nat → Int64)) (t2_0 : Int32) (t2_1 : Int32) (t3_0 : (Nat → Int32)) (t4_0 : Int32) (t4_1 : Int32) (t5_0 : (Nat → Int32)) (t6_0 : Int32) (t6_1 : Int32) (t7_0 : (Nat → Int32)) (t8_0 : Int32) (t8_1 : Int32) (t9_0 : (Nat → Int32)) (t10_0 : Int32) (t10_1 : Int32) (t11_0 : (Nat → Int32)) (t12_0 : Int32) (t12_1 : Int32) (t13_0 : (Nat → Int32)) (t14_0 : Int64) (t14_1 : Int32) (t14_2 : Int32) (lx65 : Int32) (p100 : (Int32 × (Nat → Int64))) : Int32 × (Nat → Int64) × Int32 × Int32 × (Nat → Int32) × Int32 × Int32 × (Nat → Int32) × Int32 × Int32 × (Nat → Int32) × Int32 × Int32 × (Nat → Int32) × Int32 × Int32 × (Nat → Int32) × Int32 × Int32 × (Nat → Int32) × Int64 × Int32 × Int32 := if ((F_Flo_isNoNumber A B C x3) : Int32) = (0 : Int32) then (if ((F_Flo_isFinite A B C x3) : Int32) = (0 : Int32) then (F_Wri_floatText_c59 A B C x3 x4 t0_0 t1_0 t2_0 t2_1 t3_0 t4_0 t4_1 t5_0 t6_0 t6_1 t7_0 t8_0 t8_1 t9_0 t10_0 t10_1 t11_0 t12_0 t12_1 t13_0 t14_0 t14_1 t14_2 lx65 p100 ((F_She_addText_24 (11008 : Int32) (1376 : Int32) (1000000 : Int32) (p100.1 : Int32) (p100.2 : (Nat → Int64))) : (Int32 × (Nat → Int64)))) else (if ((F_Flo_isZero A B C x3) : Int32) = (0 : Int32) then (if x4 = (0 : Int32) then (F_Wri_floatText_c112 A B C x3 x4 t0_0 t1_0 t2_0 t2_1 t3_0 t4_0 t4_1 t5_0 t6_0 t6_1 t7_0 t8_0 t8_1 t9_0 t10_0 t10_1 t11_0 t12_0 t12_1 t13_0 t14_0 t14_1 t14_2 lx65 p100 ((F_Wri_writeShort A B C x3 (p100.1 : Int32) (p100.2 : (Nat → Int64)) t2_0 t2_1 t3_0 t4_0 t4_1 t5_0 t6_0 t6_1 t7_0 t8_0 t8_1 t9_0 t10_0 t10_1 t11_0 t12_0 t12_1 t13_0 t14_0 t14_1 t14_2) : (Int32 × (Nat → Int64) × Int32 × Int32 × (Nat → Int32) × Int32 × Int32 × (Nat → Int32) × Int32 × Int32 × (Nat → Int32) × Int32 × Int32 × (Nat → Int32) × Int32 × Int32 × (Nat → Int32) × Int32 × Int32 × (Nat → Int32) × Int64 × Int32 × Int32))) else (F_Wri_floatText_c103 A B C x3 x4 t0_0 t1_0 t2_0 t2_1 t3_0 t4_0 t4_1 t5_0 t6_0 t6_1 t7_0 t8_0 t8_1 t9_0 t10_0 t10_1 t11_0 t12_0 t12_1 t13_0 t14_0 t14_1 t14_2 lx65 p100 ((F_Wri_writeHexadecimal A B C x3 (p100.1 : Int32) (p100.2 : (Nat → Int64)) t14_0 t14_1 t14_2) : (Int32 × (Nat → Int64))))) else (if x4 = (0 : Int32) then (F_Wri_floatText_c89 A B C x3 x4 t0_0 t1_0 t2_0 t2_1 t3_0 t4_0 t4_1 t5_0 t6_0 t6_1 t7_0 t8_0 t8_1 t9_0 t10_0 t10_1 t11_0 t12_0 t12_1 t13_0 t14_0 t14_1 t14_2 lx65 p100 ((F_She_addText_26 (11008 : Int32) (1376 : Int32) (1000000 : Int32) (p100.1 : Int32) (p100.2 : (Nat → Int64))) : (Int32 × (Nat → Int64)))) else (F_Wri_floatText_c89_6 A B C x3 x4 t0_0 t1_0 t2_0 t2_1 t3_0 t4_0 t4_1 t5_0 t6_0 t6_1 t7_0 t8_0 t8_1 t9_0 t10_0 t10_1 t11_0 t12_0 t12_1 t13_0 t14_0 t14_1 t14_2 lx65 p100 ((F_She_addText_25 (11008 : Int32) (1376 : Int32) (1000000 : Int32) (p100.1 : Int32) (p100.2 : (Nat → Int64))) : (Int32 × (Nat → Int64))))))) else (F_Wri_floatText_c39 A B C x3 x4 t0_0 t1_0 t2_0 t2_1 t3_0 t4_0 t4_1 t5_0 t6_0 t6_1 t7_0 t8_0 t8_1 t9_0 t10_0 t10_1 t11_0 t12_0 t12_1 t13_0 t14_0 t14_1 t14_2 lx65 p100 ((F_She_addText_23 (11008 : Int32) (1376 : Int32) (1000000 : Int32) (p100.1 : Int32) (p100.2 : (Nat → Int64))) : (Int32 × (Nat → Int64))))
def F_Wri_floatText_J22 (A : Int32) (B : Int32) (C : Int32) (x3 : Int64) (x4 : Int32) (t0_0 : Int32) (t1_0 : (Nat → Int64)) (t2_0 : Int32) (t2_1 : Int32) (t3_0 : (Nat → Int32)) (t4_0 : Int32) (t4_1 : Int32) (t5_0 : (Nat → Int32)) (t6_0 : Int32) (t6_1 : Int32) (t7_0 : (Nat → Int32)) (t8_0 : Int32) (t8_1 : Int32) (t9_0 : (Nat → Int32)) (t10_0 : Int32) (t10_1 : Int32) (t11_0 : (Nat → Int32)) (t12_0 : Int32) (t12_1 : Int32) (t13_0 : (Nat → Int32)) (t14_0 : Int64) (t14_1 : Int32) (t14_2 : Int32) (lx65 : Int32) : Int32 × (Nat → Int64) × Int32 × Int32 × (Nat → Int32) × Int32 × Int32 × (Nat → Int32) × Int32 × Int32 × (Nat → Int32) × Int32 × Int32 × (Nat → Int32) × Int32 × Int32 × (Nat → Int32) × Int32 × Int32 × (Nat → Int32) × Int64 × Int32 × Int32 := F_Wri_floatText_c22 A B C x3 x4 t0_0 t1_0 t2_0 t2_1 t3_0 t4_0 t4_1 t5_0 t6_0 t6_1 t7_0 t8_0 t8_1 t9_0 t10_0 t10_1 t11_0 t12_0 t12_1 t13_0 t14_0 t14_1 t14_2 lx65 ((F_Wri_begin_p lx65 t0_0 t1_0) : (Int32 × (Nat → Int64)))
def F_Wri_floatText_J21 (A : Int32) (B : Int32) (C : Int32) (x3 : Int64) (x4 : Int32) (t0_0 : Int32) (t1_0 : (Nat → Int64)) (t2_0 : Int32) (t2_1 : Int32) (t3_0 : (Nat → Int32)) (t4_0 : Int32) (t4_1 : Int32) (t5_0 : (Nat → Int32)) (t6_0 : Int32) (t6_1 : Int32) (t7_0 : (Nat → Int32)) (t8_0 : Int32) (t8_1 : Int32) (t9_0 : (Nat → Int32)) (t10_0 : Int32) (t10_1 : Int32) (t11_0 : (Nat → Int32)) (t12_0 : Int32) (t12_1 : Int32) (t13_0 : (Nat → Int32)) (t14_0 : Int64) (t14_1 : Int32) (t14_2 : Int32) : Int32 × (Nat → Int64) × Int32 × Int32 × (Nat → Int32) × Int32 × Int32 × (Nat → Int32) × Int32 × Int32 × (Nat → Int32) × Int32 × Int32 × (Nat → Int32) × Int32 × Int32 × (Nat → Int32) × Int32 × Int32 × (Nat → Int32) × Int64 × Int32 × Int32 := F_Wri_floatText_J22 A B C x3 x4 t0_0 t1_0 t2_0 t2_1 t3_0 t4_0 t4_1 t5_0 t6_0 t6_1 t7_0 t8_0 t8_1 t9_0 t10_0 t10_1 t11_0 t12_0 t12_1 t13_0 t14_0 t14_1 t14_2 0
def F_Wri_floatText (A : Int32) (B : Int32) (C : Int32) (x3 : Int64) (x4 : Int32) (t0_0 : Int32) (t1_0 : (Nat → Int64)) (t2_0 : Int32) (t2_1 : Int32) (t3_0 : (Nat → Int32)) (t4_0 : Int32) (t4_1 : Int32) (t5_0 : (Nat → Int32)) (t6_0 : Int32) (t6_1 : Int32) (t7_0 : (Nat → Int32)) (t8_0 : Int32) (t8_1 : Int32) (t9_0 : (Nat → Int32)) (t10_0 : Int32) (t10_1 : Int32) (t11_0 : (Nat → Int32)) (t12_0 : Int32) (t12_1 : Int32) (t13_0 : (Nat → Int32)) (t14_0 : Int64) (t14_1 : Int32) (t14_2 : Int32) : Int32 × (Nat → Int64) × Int32 × Int32 × (Nat → Int32) × Int32 × Int32 × (Nat → Int32) × Int32 × Int32 × (Nat → Int32) × Int32 × Int32 × (Nat → Int32) × Int32 × Int32 × (Nat → Int32) × Int32 × Int32 × (Nat → Int32) × Int64 × Int32 × Int32 := if ((F_Flo_isNegative A B C x3) : Int32) = (0 : Int32) then (F_Wri_floatText_J21 A B C x3 x4 t0_0 t1_0 t2_0 t2_1 t3_0 t4_0 t4_1 t5_0 t6_0 t6_1 t7_0 t8_0 t8_1 t9_0 t10_0 t10_1 t11_0 t12_0 t12_1 t13_0 t14_0 t14_1 t14_2) else (if ((F_Flo_isNoNumber A B C x3) : Int32) = (0 : Int32) then (F_Wri_floatText_J22 A B C x3 x4 t0_0 t1_0 t2_0 t2_1 t3_0 t4_0 t4_1 t5_0 t6_0 t6_1 t7_0 t8_0 t8_1 t9_0 t10_0 t10_1 t11_0 t12_0 t12_1 t13_0 t14_0 t14_1 t14_2 1) else (F_Wri_floatText_J21 A B C x3 x4 t0_0 t1_0 t2_0 t2_1 t3_0 t4_0 t4_1 t5_0 t6_0 t6_1 t7_0 t8_0 t8_1 t9_0 t10_0 t10_1 t11_0 t12_0 t12_1 t13_0 t14_0 t14_1 t14_2))
def S_Wri_floatText_c112 (A : Int32) (B : Int32) (C : Int32) (x3 : Int64) (x4 : Int32) (t0_0 : Int32) (t1_0 : (Nat → Int64)) (t2_0 : Int32) (t2_1 : Int32) (t3_0 : (Nat → Int32)) (t4_0 : Int32) (t4_1 : Int32) (t5_0 : (Nat → Int32)) (t6_0 : Int32) (t6_1 : Int32) (t7_0 : (Nat → Int32)) (t8_0 : Int32) (t8_1 : Int32) (t9_0 : (Nat → Int32)) (t10_0 : Int32) (t10_1 : Int32) (t11_0 : (Nat → Int32)) (t12_0 : Int32) (t12_1 : Int32) (t13_0 : (Nat → Int32)) (t14_0 : Int64) (t14_1 : Int32) (t14_2 : Int32) (lx65 : Int32) (p100 : (Int32 × (Nat → Int64))) (p213 : (Int32 × (Nat → Int64) × Int32 × Int32 × (Nat → Int32) × Int32 × Int32 × (Nat → Int32) × Int32 × Int32 × (Nat → Int32) × Int32 × Int32 × (Nat → Int32) × Int32 × Int32 × (Nat → Int32) × Int32 × Int32 × (Nat → Int32) × Int64 × Int32 × Int32)) : Prop := True
def S_Wri_floatText_c103 (A : Int32) (B : Int32) (C : Int32) (x3 : Int64) (x4 : Int32) (t0_0 : Int32) (t1_0 : (Nat → Int64)) (t2_0 : Int32) (t2_1 : Int32) (t3_0 : (Nat → Int32)) (t4_0 : Int32) (t4_1 : Int32) (t5_0 : (Nat → Int32)) (t6_0 : Int32) (t6_1 : Int32) (t7_0 : (Nat → Int32)) (t8_0 : Int32) (t8_1 : Int32) (t9_0 : (Nat → Int32)) (t10_0 : Int32) (t10_1 : Int32) (t11_0 : (Nat → Int32)) (t12_0 : Int32) (t12_1 : Int32) (t13_0 : (Nat → Int32)) (t14_0 : Int64) (t14_1 : Int32) (t14_2 : Int32) (lx65 : Int32) (p100 : (Int32 × (Nat → Int64))) (p255 : (Int32 × (Nat → Int64))) : Prop := True
def S_Wri_floatText_c89 (A : Int32) (B : Int32) (C : Int32) (x3 : Int64) (x4 : Int32) (t0_0 : Int32) (t1_0 : (Nat → Int64)) (t2_0 : Int32) (t2_1 : Int32) (t3_0 : (Nat → Int32)) (t4_0 : Int32) (t4_1 : Int32) (t5_0 : (Nat → Int32)) (t6_0 : Int32) (t6_1 : Int32) (t7_0 : (Nat → Int32)) (t8_0 : Int32) (t8_1 : Int32) (t9_0 : (Nat → Int32)) (t10_0 : Int32) (t10_1 : Int32) (t11_0 : (Nat → Int32)) (t12_0 : Int32) (t12_1 : Int32) (t13_0 : (Nat → Int32)) (t14_0 : Int64) (t14_1 : Int32) (t14_2 : Int32) (lx65 : Int32) (p100 : (Int32 × (Nat → Int64))) (p277 : (Int32 × (Nat → Int64))) : Prop := True
def S_Wri_floatText_c89_6 (A : Int32) (B : Int32) (C : Int32) (x3 : Int64) (x4 : Int32) (t0_0 : Int32) (t1_0 : (Nat → Int64)) (t2_0 : Int32) (t2_1 : Int32) (t3_0 : (Nat → Int32)) (t4_0 : Int32) (t4_1 : Int32) (t5_0 : (Nat → Int32)) (t6_0 : Int32) (t6_1 : Int32) (t7_0 : (Nat → Int32)) (t8_0 : Int32) (t8_1 : Int32) (t9_0 : (Nat → Int32)) (t10_0 : Int32) (t10_1 : Int32) (t11_0 : (Nat → Int32)) (t12_0 : Int32) (t12_1 : Int32) (t13_0 : (Nat → Int32)) (t14_0 : Int64) (t14_1 : Int32) (t14_2 : Int32) (lx65 : Int32) (p100 : (Int32 × (Nat → Int64))) (p297 : (Int32 × (Nat → Int64))) : Prop := True
def S_Wri_floatText_c59 (A : Int32) (B : Int32) (C : Int32) (x3 : Int64) (x4 : Int32) (t0_0 : Int32) (t1_0 : (Nat → Int64)) (t2_0 : Int32) (t2_1 : Int32) (t3_0 : (Nat → Int32)) (t4_0 : Int32) (t4_1 : Int32) (t5_0 : (Nat → Int32)) (t6_0 : Int32) (t6_1 : Int32) (t7_0 : (Nat → Int32)) (t8_0 : Int32) (t8_1 : Int32) (t9_0 : (Nat → Int32)) (t10_0 : Int32) (t10_1 : Int32) (t11_0 : (Nat → Int32)) (t12_0 : Int32) (t12_1 : Int32) (t13_0 : (Nat → Int32)) (t14_0 : Int64) (t14_1 : Int32) (t14_2 : Int32) (lx65 : Int32) (p100 : (Int32 × (Nat → Int64))) (p317 : (Int32 × (Nat → Int64))) : Prop := True
def S_Wri_floatText_c39 (A : Int32) (B : Int32) (C : Int32) (x3 : Int64) (x4 : Int32) (t0_0 : Int32) (t1_0 : (Nat → Int64)) (t2_0 : Int32) (t2_1 : Int32) (t3_0 : (Nat → Int32)) (t4_0 : Int32) (t4_1 : Int32) (t5_0 : (Nat → Int32)) (t6_0 : Int32) (t6_1 : Int32) (t7_0 : (Nat → Int32)) (t8_0 : Int32) (t8_1 : Int32) (t9_0 : (Nat → Int32)) (t10_0 : Int32) (t10_1 : Int32) (t11_0 : (Nat → Int32)) (t12_0 : Int32) (t12_1 : Int32) (t13_0 : (Nat → Int32)) (t14_0 : Int64) (t14_1 : Int32) (t14_2 : Int32) (lx65 : Int32) (p100 : (Int32 × (Nat → Int64))) (p337 : (Int32 × (Nat → Int64))) : Prop := True
def S_Wri_floatText_c22 (A : Int32) (B : Int32) (C : Int32) (x3 : Int64) (x4 : Int32) (t0_0 : Int32) (t1_0 : (Nat → Int64)) (t2_0 : Int32) (t2_1 : Int32) (t3_0 : (Nat → Int32)) (t4_0 : Int32) (t4_1 : Int32) (t5_0 : (Nat → Int32)) (t6_0 : Int32) (t6_1 : Int32) (t7_0 : (Nat → Int32)) (t8_0 : Int32) (t8_1 : Int32) (t9_0 : (Nat → Int32)) (t10_0 : Int32) (t10_1 : Int32) (t11_0 : (Nat → Int32)) (t12_0 : Int32) (t12_1 : Int32) (t13_0 : (Nat → Int32)) (t14_0 : Int64) (t14_1 : Int32) (t14_2 : Int32) (lx65 : Int32) (p100 : (Int32 × (Nat → Int64))) : Prop := if ((F_Flo_isNoNumber A B C x3) : Int32) = (0 : Int32) then (if ((F_Flo_isFinite A B C x3) : Int32) = (0 : Int32) then (S_Wri_floatText_c59 A B C x3 x4 t0_0 t1_0 t2_0 t2_1 t3_0 t4_0 t4_1 t5_0 t6_0 t6_1 t7_0 t8_0 t8_1 t9_0 t10_0 t10_1 t11_0 t12_0 t12_1 t13_0 t14_0 t14_1 t14_2 lx65 p100 ((F_She_addText_24 (11008 : Int32) (1376 : Int32) (1000000 : Int32) (p100.1 : Int32) (p100.2 : (Nat → Int64))) : (Int32 × (Nat → Int64)))) else (if ((F_Flo_isZero A B C x3) : Int32) = (0 : Int32) then (if x4 = (0 : Int32) then ((True ∧ S_Wri_writeShort A B C x3 (p100.1 : Int32) (p100.2 : (Nat → Int64)) t2_0 t2_1 t3_0 t4_0 t4_1 t5_0 t6_0 t6_1 t7_0 t8_0 t8_1 t9_0 t10_0 t10_1 t11_0 t12_0 t12_1 t13_0 t14_0 t14_1 t14_2) ∧ (S_Wri_floatText_c112 A B C x3 x4 t0_0 t1_0 t2_0 t2_1 t3_0 t4_0 t4_1 t5_0 t6_0 t6_1 t7_0 t8_0 t8_1 t9_0 t10_0 t10_1 t11_0 t12_0 t12_1 t13_0 t14_0 t14_1 t14_2 lx65 p100 ((F_Wri_writeShort A B C x3 (p100.1 : Int32) (p100.2 : (Nat → Int64)) t2_0 t2_1 t3_0 t4_0 t4_1 t5_0 t6_0 t6_1 t7_0 t8_0 t8_1 t9_0 t10_0 t10_1 t11_0 t12_0 t12_1 t13_0 t14_0 t14_1 t14_2) : (Int32 × (Nat → Int64) × Int32 × Int32 × (Nat → Int32) × Int32 × Int32 × (Nat → Int32) × Int32 × Int32 × (Nat → Int32) × Int32 × Int32 × (Nat → Int32) × Int32 × Int32 × (Nat → Int32) × Int32 × Int32 × (Nat → Int32) × Int64 × Int32 × Int32)))) else (S_Wri_floatText_c103 A B C x3 x4 t0_0 t1_0 t2_0 t2_1 t3_0 t4_0 t4_1 t5_0 t6_0 t6_1 t7_0 t8_0 t8_1 t9_0 t10_0 t10_1 t11_0 t12_0 t12_1 t13_0 t14_0 t14_1 t14_2 lx65 p100 ((F_Wri_writeHexadecimal A B C x3 (p100.1 : Int32) (p100.2 : (Nat → Int64)) t14_0 t14_1 t14_2) : (Int32 × (Nat → Int64))))) else (if x4 = (0 : Int32) then (S_Wri_floatText_c89 A B C x3 x4 t0_0 t1_0 t2_0 t2_1 t3_0 t4_0 t4_1 t5_0 t6_0 t6_1 t7_0 t8_0 t8_1 t9_0 t10_0 t10_1 t11_0 t12_0 t12_1 t13_0 t14_0 t14_1 t14_2 lx65 p100 ((F_She_addText_26 (11008 : Int32) (1376 : Int32) (1000000 : Int32) (p100.1 : Int32) (p100.2 : (Nat → Int64))) : (Int32 × (Nat → Int64)))) else (S_Wri_floatText_c89_6 A B C x3 x4 t0_0 t1_0 t2_0 t2_1 t3_0 t4_0 t4_1 t5_0 t6_0 t6_1 t7_0 t8_0 t8_1 t9_0 t10_0 t10_1 t11_0 t12_0 t12_1 t13_0 t14_0 t14_1 t14_2 lx65 p100 ((F_She_addText_25 (11008 : Int32) (1376 : Int32) (1000000 : Int32) (p100.1 : Int32) (p100.2 : (Nat → Int64))) : (Int32 × (Nat → Int64))))))) else (S_Wri_floatText_c39 A B C x3 x4 t0_0 t1_0 t2_0 t2_1 t3_0 t4_0 t4_1 t5_0 t6_0 t6_1 t7_0 t8_0 t8_1 t9_0 t10_0 t10_1 t11_0 t12_0 t12_1 t13_0 t14_0 t14_1 t14_2 lx65 p100 ((F_She_addText_23 (11008 : Int32) (1376 : Int32) (1000000 : Int32) (p100.1 : Int32) (p100.2 : (Nat → Int64))) : (Int32 × (Nat → Int64))))
def S_Wri_floatText_J22 (A : Int32) (B : Int32) (C : Int32) (x3 : Int64) (x4 : Int32) (t0_0 : Int32) (t1_0 : (Nat → Int64)) (t2_0 : Int32) (t2_1 : Int32) (t3_0 : (Nat → Int32)) (t4_0 : Int32) (t4_1 : Int32) (t5_0 : (Nat → Int32)) (t6_0 : Int32) (t6_1 : Int32) (t7_0 : (Nat → Int32)) (t8_0 : Int32) (t8_1 : Int32) (t9_0 : (Nat → Int32)) (t10_0 : Int32) (t10_1 : Int32) (t11_0 : (Nat → Int32)) (t12_0 : Int32) (t12_1 : Int32) (t13_0 : (Nat → Int32)) (t14_0 : Int64) (t14_1 : Int32) (t14_2 : Int32) (lx65 : Int32) : Prop := S_Wri_floatText_c22 A B C x3 x4 t0_0 t1_0 t2_0 t2_1 t3_0 t4_0 t4_1 t5_0 t6_0 t6_1 t7_0 t8_0 t8_1 t9_0 t10_0 t10_1 t11_0 t12_0 t12_1 t13_0 t14_0 t14_1 t14_2 lx65 ((F_Wri_begin_p lx65 t0_0 t1_0) : (Int32 × (Nat → Int64)))
def S_Wri_floatText_J21 (A : Int32) (B : Int32) (C : Int32) (x3 : Int64) (x4 : Int32) (t0_0 : Int32) (t1_0 : (Nat → Int64)) (t2_0 : Int32) (t2_1 : Int32) (t3_0 : (Nat → Int32)) (t4_0 : Int32) (t4_1 : Int32) (t5_0 : (Nat → Int32)) (t6_0 : Int32) (t6_1 : Int32) (t7_0 : (Nat → Int32)) (t8_0 : Int32) (t8_1 : Int32) (t9_0 : (Nat → Int32)) (t10_0 : Int32) (t10_1 : Int32) (t11_0 : (Nat → Int32)) (t12_0 : Int32) (t12_1 : Int32) (t13_0 : (Nat → Int32)) (t14_0 : Int64) (t14_1 : Int32) (t14_2 : Int32) : Prop := S_Wri_floatText_J22 A B C x3 x4 t0_0 t1_0 t2_0 t2_1 t3_0 t4_0 t4_1 t5_0 t6_0 t6_1 t7_0 t8_0 t8_1 t9_0 t10_0 t10_1 t11_0 t12_0 t12_1 t13_0 t14_0 t14_1 t14_2 0
def S_Wri_floatText (A : Int32) (B : Int32) (C : Int32) (x3 : Int64) (x4 : Int32) (t0_0 : Int32) (t1_0 : (Nat → Int64)) (t2_0 : Int32) (t2_1 : Int32) (t3_0 : (Nat → Int32)) (t4_0 : Int32) (t4_1 : Int32) (t5_0 : (Nat → Int32)) (t6_0 : Int32) (t6_1 : Int32) (t7_0 : (Nat → Int32)) (t8_0 : Int32) (t8_1 : Int32) (t9_0 : (Nat → Int32)) (t10_0 : Int32) (t10_1 : Int32) (t11_0 : (Nat → Int32)) (t12_0 : Int32) (t12_1 : Int32) (t13_0 : (Nat → Int32)) (t14_0 : Int64) (t14_1 : Int32) (t14_2 : Int32) : Prop := if ((F_Flo_isNegative A B C x3) : Int32) = (0 : Int32) then (S_Wri_floatText_J21 A B C x3 x4 t0_0 t1_0 t2_0 t2_1 t3_0 t4_0 t4_1 t5_0 t6_0 t6_1 t7_0 t8_0 t8_1 t9_0 t10_0 t10_1 t11_0 t12_0 t12_1 t13_0 t14_0 t14_1 t14_2) else (if ((F_Flo_isNoNumber A B C x3) : Int32) = (0 : Int32) then (S_Wri_floatText_J22 A B C x3 x4 t0_0 t1_0 t2_0 t2_1 t3_0 t4_0 t4_1 t5_0 t6_0 t6_1 t7_0 t8_0 t8_1 t9_0 t10_0 t10_1 t11_0 t12_0 t12_1 t13_0 t14_0 t14_1 t14_2 1) else (S_Wri_floatText_J21 A B C x3 x4 t0_0 t1_0 t2_0 t2_1 t3_0 t4_0 t4_1 t5_0 t6_0 t6_1 t7_0 t8_0 t8_1 t9_0 t10_0 t10_1 t11_0 t12_0 t12_1 t13_0 t14_0 t14_1 t14_2))
set_option maxRecDepth 100000 in
set_option maxHeartbeats 4000000 in
theorem X_Wri_floatText (l : Launch) (D : va_G) (g : Nat → ClassId) (q : Nat → Nat) (ws : va_W) (k2 : Nat) (A B C : Int32) (hB2 : q_isFlo (nsh g q) q k2 A B C) (x3 : Int64) (x4 : Int32) (hI : q_I (nsh g q) q ws) (t0_0 : Int32) (hT0 : ws[3]? = (some (q 3, .inr (1, [.ref (q 4), .int 11008, .int t0_0])) : Option (Nat × va_E))) (t1_0 : (Nat → Int64)) (hT1 : ws[4]? = (some (q 4, .inl (g 1, (1376 : Int32).toNatClampNeg, .inr (.inl t1_0))) : Option (Nat × va_E))) (t2_0 : Int32) (t2_1 : Int32) (hT2 : ws[36]? = (some (q 36, .inr (7, [.int t2_0, .int t2_1, .ref (q 37)])) : Option (Nat × va_E))) (t3_0 : (Nat → Int32)) (hT3 : ws[37]? = (some (q 37, .inl (g 2, 1026, .inl t3_0)) : Option (Nat × va_E))) (t4_0 : Int32) (t4_1 : Int32) (hT4 : ws[10]? = (some (q 10, .inr (2, [.ref (q 11), .int t4_0, .int t4_1])) : Option (Nat × va_E))) (t5_0 : (Nat → Int32)) (hT5 : ws[11]? = (some (q 11, .inl (g 0, (220 : Int32).toNatClampNeg, .inl t5_0)) : Option (Nat × va_E))) (t6_0 : Int32) (t6_1 : Int32) (hT6 : ws[22]? = (some (q 22, .inr (2, [.ref (q 23), .int t6_0, .int t6_1])) : Option (Nat × va_E))) (t7_0 : (Nat → Int32)) (hT7 : ws[23]? = (some (q 23, .inl (g 0, (220 : Int32).toNatClampNeg, .inl t7_0)) : Option (Nat × va_E))) (t8_0 : Int32) (t8_1 : Int32) (hT8 : ws[24]? = (some (q 24, .inr (2, [.ref (q 25), .int t8_0, .int t8_1])) : Option (Nat × va_E))) (t9_0 : (Nat → Int32)) (hT9 : ws[25]? = (some (q 25, .inl (g 0, (220 : Int32).toNatClampNeg, .inl t9_0)) : Option (Nat × va_E))) (t10_0 : Int32) (t10_1 : Int32) (hT10 : ws[26]? = (some (q 26, .inr (2, [.ref (q 27), .int t10_0, .int t10_1])) : Option (Nat × va_E))) (t11_0 : (Nat → Int32)) (hT11 : ws[27]? = (some (q 27, .inl (g 0, (220 : Int32).toNatClampNeg, .inl t11_0)) : Option (Nat × va_E))) (t12_0 : Int32) (t12_1 : Int32) (hT12 : ws[28]? = (some (q 28, .inr (2, [.ref (q 29), .int t12_0, .int t12_1])) : Option (Nat × va_E))) (t13_0 : (Nat → Int32)) (hT13 : ws[29]? = (some (q 29, .inl (g 0, (220 : Int32).toNatClampNeg, .inl t13_0)) : Option (Nat × va_E))) (t14_0 : Int64) (t14_1 : Int32) (t14_2 : Int32) (hT14 : ws[k2]? = (some (q k2, .inr (6, [.int A, .int B, .int C, .long t14_0, .int t14_1, .ref (q 9), .int t14_2])) : Option (Nat × va_E))) (hzx4 : 0 ≤ x4.toInt ∧ x4.toInt ≤ 1) (hS : True ∧ S_Wri_floatText A B C x3 x4 t0_0 t1_0 t2_0 t2_1 t3_0 t4_0 t4_1 t5_0 t6_0 t6_1 t7_0 t8_0 t8_1 t9_0 t10_0 t10_1 t11_0 t12_0 t12_1 t13_0 t14_0 t14_1 t14_2) : q_mV l y_Wri_floatText prog_12_method_6_code 5 7 0 0 D g [.ref (q 39), .ref (q k2), .long x3, .int x4] ws (fun u => q_I (nsh g q) q u ∧ q_un ws u [3, 4, 10, 11, 22, 23, 24, 25, 26, 27, 28, 29, 36, 37, k2] ∧ ∃ (u0_0 : Int32) (u1_0 : (Nat → Int64)) (u2_0 : Int32) (u2_1 : Int32) (u3_0 : (Nat → Int32)) (u4_0 : Int32) (u4_1 : Int32) (u5_0 : (Nat → Int32)) (u6_0 : Int32) (u6_1 : Int32) (u7_0 : (Nat → Int32)) (u8_0 : Int32) (u8_1 : Int32) (u9_0 : (Nat → Int32)) (u10_0 : Int32) (u10_1 : Int32) (u11_0 : (Nat → Int32)) (u12_0 : Int32) (u12_1 : Int32) (u13_0 : (Nat → Int32)) (u14_0 : Int64) (u14_1 : Int32) (u14_2 : Int32), u[3]? = (some (q 3, .inr (1, [.ref (q 4), .int 11008, .int u0_0])) : Option (Nat × va_E)) ∧ u[4]? = (some (q 4, .inl (g 1, (1376 : Int32).toNatClampNeg, .inr (.inl u1_0))) : Option (Nat × va_E)) ∧ u[36]? = (some (q 36, .inr (7, [.int u2_0, .int u2_1, .ref (q 37)])) : Option (Nat × va_E)) ∧ u[37]? = (some (q 37, .inl (g 2, 1026, .inl u3_0)) : Option (Nat × va_E)) ∧ u[10]? = (some (q 10, .inr (2, [.ref (q 11), .int u4_0, .int u4_1])) : Option (Nat × va_E)) ∧ u[11]? = (some (q 11, .inl (g 0, (220 : Int32).toNatClampNeg, .inl u5_0)) : Option (Nat × va_E)) ∧ u[22]? = (some (q 22, .inr (2, [.ref (q 23), .int u6_0, .int u6_1])) : Option (Nat × va_E)) ∧ u[23]? = (some (q 23, .inl (g 0, (220 : Int32).toNatClampNeg, .inl u7_0)) : Option (Nat × va_E)) ∧ u[24]? = (some (q 24, .inr (2, [.ref (q 25), .int u8_0, .int u8_1])) : Option (Nat × va_E)) ∧ u[25]? = (some (q 25, .inl (g 0, (220 : Int32).toNatClampNeg, .inl u9_0)) : Option (Nat × va_E)) ∧ u[26]? = (some (q 26, .inr (2, [.ref (q 27), .int u10_0, .int u10_1])) : Option (Nat × va_E)) ∧ u[27]? = (some (q 27, .inl (g 0, (220 : Int32).toNatClampNeg, .inl u11_0)) : Option (Nat × va_E)) ∧ u[28]? = (some (q 28, .inr (2, [.ref (q 29), .int u12_0, .int u12_1])) : Option (Nat × va_E)) ∧ u[29]? = (some (q 29, .inl (g 0, (220 : Int32).toNatClampNeg, .inl u13_0)) : Option (Nat × va_E)) ∧ u[k2]? = (some (q k2, .inr (6, [.int A, .int B, .int C, .long u14_0, .int u14_1, .ref (q 9), .int u14_2])) : Option (Nat × va_E)) ∧ (2 ≤ u0_0.toInt) ∧ (u0_0.toInt ≤ 420004) ∧ (0 ≤ u2_0.toInt) ∧ (u2_0.toInt ≤ 1026) ∧ (0 ≤ u2_1.toInt + 1000000) ∧ (u2_1.toInt ≤ 1000000) ∧ (0 ≤ u4_0.toInt) ∧ (u4_0.toInt ≤ 220) ∧ (0 ≤ u4_1.toInt) ∧ (u4_1.toInt ≤ 21) ∧ (0 ≤ u6_0.toInt) ∧ (u6_0.toInt ≤ 220) ∧ (0 ≤ u6_1.toInt) ∧ (u6_1.toInt ≤ 2) ∧ (0 ≤ u8_0.toInt) ∧ (u8_0.toInt ≤ 220) ∧ (0 ≤ u8_1.toInt) ∧ (u8_1.toInt ≤ 1) ∧ (0 ≤ u10_0.toInt) ∧ (u10_0.toInt ≤ 220) ∧ (0 ≤ u10_1.toInt) ∧ (u10_1.toInt ≤ 1) ∧ (0 ≤ u12_0.toInt) ∧ (u12_0.toInt ≤ 220) ∧ (0 ≤ u12_1.toInt) ∧ (x4.toInt + 2 ≤ u0_0.toInt) ∧ (u2_0.toInt ≤ t2_0.toInt + 20) ∧ (t2_1.toInt ≤ u2_1.toInt + 1020000) ∧ (u2_1.toInt ≤ t2_1.toInt + 1020019) ∧ (u4_1.toInt ≤ t4_1.toInt + 20) ∧ (u6_1.toInt ≤ t4_1.toInt + 1) ∧ (u2_0.toInt ≤ u0_0.toInt + 1023) ∧ (u2_1.toInt ≤ u0_0.toInt + 999997) ∧ (u0_0.toInt ≤ u2_1.toInt + 1000025) ∧ (u4_1.toInt ≤ u2_1.toInt + 1000001) ∧ (u6_1.toInt ≤ u2_1.toInt + 1000001) ∧ (u6_1.toInt ≤ u4_1.toInt + 1) ∧ (u0_0, u1_0, u2_0, u2_1, u3_0, u4_0, u4_1, u5_0, u6_0, u6_1, u7_0, u8_0, u8_1, u9_0, u10_0, u10_1, u11_0, u12_0, u12_1, u13_0, u14_0, u14_1, u14_2) = (F_Wri_floatText A B C x3 x4 t0_0 t1_0 t2_0 t2_1 t3_0 t4_0 t4_1 t5_0 t6_0 t6_1 t7_0 t8_0 t8_1 t9_0 t10_0 t10_1 t11_0 t12_0 t12_1 t13_0 t14_0 t14_1 t14_2)) := by
  intro sz
  refine q_into (by decide) (Nat.le_of_ble_eq_true rfl) ?_
  intro p e s m below meth c ls hsz C0 V hl
  have hx := C0.1
  have hb := C0.2.1
  have hfk20 : q_F (23 ≤ A.toInt ∧ A.toInt ≤ 52) := hB2.2.1
  replace hzx4 : q_F (0 ≤ x4.toInt ∧ x4.toInt ≤ 1) := hzx4
  have btt0_0 := n_shW hI (n_h3 g q) hT0
  clear btt0_0
  obtain ⟨btt2_0, btt2_1⟩ := n_w36 hI hT2
  replace btt2_0 : q_F (0 ≤ t2_0.toInt ∧ t2_0.toInt ≤ 1026) := btt2_0
  replace btt2_1 : q_F (-1000000 ≤ t2_1.toInt ∧ t2_1.toInt ≤ 1000000) := btt2_1
  obtain ⟨btt4_0, btt4_1⟩ := q_bigW hI (n_b10 g q) hT4
  replace btt4_0 : q_F (0 ≤ t4_0.toInt ∧ t4_0.toInt ≤ 220) := btt4_0
  replace btt4_1 : q_F (0 ≤ t4_1.toInt ∧ t4_1.toInt ≤ 1) := btt4_1
  obtain ⟨btt6_0, btt6_1⟩ := q_bigW hI (n_b22 g q) hT6
  replace btt6_0 : q_F (0 ≤ t6_0.toInt ∧ t6_0.toInt ≤ 220) := btt6_0
  replace btt6_1 : q_F (0 ≤ t6_1.toInt ∧ t6_1.toInt ≤ 1) := btt6_1
  obtain ⟨btt8_0, btt8_1⟩ := q_bigW hI (n_b24 g q) hT8
  replace btt8_0 : q_F (0 ≤ t8_0.toInt ∧ t8_0.toInt ≤ 220) := btt8_0
  replace btt8_1 : q_F (0 ≤ t8_1.toInt ∧ t8_1.toInt ≤ 1) := btt8_1
  obtain ⟨btt10_0, btt10_1⟩ := q_bigW hI (n_b26 g q) hT10
  replace btt10_0 : q_F (0 ≤ t10_0.toInt ∧ t10_0.toInt ≤ 220) := btt10_0
  replace btt10_1 : q_F (0 ≤ t10_1.toInt ∧ t10_1.toInt ≤ 1) := btt10_1
  obtain ⟨btt12_0, btt12_1⟩ := q_bigW hI (n_b28 g q) hT12
  replace btt12_0 : q_F (0 ≤ t12_0.toInt ∧ t12_0.toInt ≤ 220) := btt12_0
  replace btt12_1 : q_F (0 ≤ t12_1.toInt ∧ t12_1.toInt ≤ 1) := btt12_1
  have hF : q_un ws ws [3, 4, 10, 11, 22, 23, 24, 25, 26, 27, 28, 29, 36, 37, k2] := q_u0
  have hl : lv_has ls 5 [(0, .ref (q 39)), (1, .ref (q k2)), (2, .long x3), (4, .int x4)] := hl
  refine lv_aload_n hx hb d_12_6_0 rfl (lv_at hl 0 rfl) ?_
  refine lv_aload_n hx hb d_12_6_1 rfl (lv_at hl 1 rfl) ?_
  refine lv_lload_n hx hb d_12_6_2 rfl (lv_at hl 2 rfl) ?_
  refine q_goi V (q_runV (As := [.long x3]) (rest := [.ref (q 39)]) (d := 2) (mc := 0) (ms := 0) (ci := 6) C0 V rfl LV_Wri_118 (X_Flo_isNegative l D g q ws k2 A B C hB2 x3 hI   _) rfl rfl hT14 rfl hl.1 rfl (Nat.le_of_ble_eq_true rfl) ⟨by decide, by decide⟩ ⟨Nat.le_of_ble_eq_true rfl, Nat.le_of_ble_eq_true rfl⟩ d_12_6_3) (fun a60 u58 H locs hp59 V => ?_)
  obtain ⟨rfl, b61, b62, hE63⟩ := hp59
  have e64 : a60 = (F_Flo_isNegative A B C x3) := hE63
  clear b61
  clear b62
  refine q_join (X := Int32) (fun z H locs ls _ => q_F (0 ≤ z.toInt) ∧ q_F (z.toInt ≤ 1) ∧ q_Wd D g (va_A ws sz) s ws H locs ∧ lv_has ls 5 [(0, .ref (q 39)), (1, .ref (q k2)), (2, .long x3), (4, .int x4)] ∧ F_Wri_floatText_J22 A B C x3 x4 t0_0 t1_0 t2_0 t2_1 t3_0 t4_0 t4_1 t5_0 t6_0 t6_1 t7_0 t8_0 t8_1 t9_0 t10_0 t10_1 t11_0 t12_0 t12_1 t13_0 t14_0 t14_1 t14_2 z = (F_Wri_floatText A B C x3 x4 t0_0 t1_0 t2_0 t2_1 t3_0 t4_0 t4_1 t5_0 t6_0 t6_1 t7_0 t8_0 t8_1 t9_0 t10_0 t10_1 t11_0 t12_0 t12_1 t13_0 t14_0 t14_1 t14_2) ∧ True ∧ S_Wri_floatText_J22 A B C x3 x4 t0_0 t1_0 t2_0 t2_1 t3_0 t4_0 t4_1 t5_0 t6_0 t6_1 t7_0 t8_0 t8_1 t9_0 t10_0 t10_1 t11_0 t12_0 t12_1 t13_0 t14_0 t14_1 t14_2 z) (fun z => [.int z, .ref (q 39)]) 22 0 0 ?_ ?_
  ·
    rintro lx65 H locs ls _ hZ9
    obtain ⟨i82, hZ9⟩ := hZ9
    obtain ⟨i83, hZ9⟩ := hZ9
    obtain ⟨V, hZ9⟩ := hZ9
    obtain ⟨hl, hZ9⟩ := hZ9
    obtain ⟨hR84, hS85⟩ := hZ9
    replace i82 : q_F (0 ≤ lx65.toInt) := i82
    replace i83 : q_F (lx65.toInt ≤ 1) := i83
    replace hl : lv_has ls 5 [(0, .ref (q 39)), (1, .ref (q k2)), (2, .long x3), (4, .int x4)] := hl
    have hO89 := n_o39 hI
    refine q_gov V (q_runV (As := [.int lx65]) (rest := []) (d := 2) (mc := 0) (ms := 0) (ci := 9) C0 V rfl LV_Wri_27 (X_Wri_begin_p l D g q ws  lx65 hI t0_0 hT0 t1_0 hT1 ⟨(by first | with_reducible exact q_fe i82 | (have t1 : 0 ≤ lx65.toInt := i82; omega)), (by first | with_reducible exact q_fe i83 | (have t1 : lx65.toInt ≤ 1 := i83; omega))⟩ _) rfl rfl hO89 rfl hl.1 rfl (Nat.le_of_ble_eq_true rfl) ⟨by decide, by decide⟩ ⟨Nat.le_of_ble_eq_true rfl, Nat.le_of_ble_eq_true rfl⟩ d_12_6_22) (fun u90 H locs hp91 V => ?_)
    obtain ⟨hI, hZ9⟩ := hp91
    obtain ⟨hu99, hZ9⟩ := hZ9
    obtain ⟨y93, hZ9⟩ := hZ9
    obtain ⟨f94, hZ9⟩ := hZ9
    obtain ⟨hO92, hZ9⟩ := hZ9
    obtain ⟨hA95, hZ9⟩ := hZ9
    obtain ⟨b96, hZ9⟩ := hZ9
    obtain ⟨b97, hE98⟩ := hZ9
    replace hO92 : u90[3]? = (some (q 3, .inr (1, [.ref (q 4), .int 11008, .int y93])) : Option (Nat × va_E)) := hO92
    replace hA95 : u90[4]? = (some (q 4, .inl (g 1, (1376 : Int32).toNatClampNeg, .inr (.inl f94))) : Option (Nat × va_E)) := hA95
    obtain ⟨p100, e101⟩ : ∃ z, z = (F_Wri_begin_p lx65 t0_0 t1_0) := ⟨_, rfl⟩
    have e102 : y93 = p100.1 := congrArg (fun z => z.1) (hE98.trans e101.symm)
    have e103 : f94 = p100.2 := congrArg (fun z => z.2) (hE98.trans e101.symm)
    replace b96 : q_F (lx65.toInt ≤ y93.toInt) := b96
    replace b97 : q_F (y93.toInt ≤ lx65.toInt) := b97
    replace hT2 := (hu99 _ (by decide)).trans hT2
    replace hT3 := (hu99 _ (by decide)).trans hT3
    replace hT4 := (hu99 _ (by decide)).trans hT4
    replace hT5 := (hu99 _ (by decide)).trans hT5
    replace hT6 := (hu99 _ (by decide)).trans hT6
    replace hT7 := (hu99 _ (by decide)).trans hT7
    replace hT8 := (hu99 _ (by decide)).trans hT8
    replace hT9 := (hu99 _ (by decide)).trans hT9
    replace hT10 := (hu99 _ (by decide)).trans hT10
    replace hT11 := (hu99 _ (by decide)).trans hT11
    replace hT12 := (hu99 _ (by decide)).trans hT12
    replace hT13 := (hu99 _ (by decide)).trans hT13
    replace hT14 := (hu99 _ (by have z0 := hB2.2.2.2.2; simp only [List.mem_cons, List.not_mem_nil, or_false, not_or]; omega)).trans hT14
    replace hO89 := (hu99 _ (by decide)).trans hO89
    replace hF := q_uc hF hu99 (by first | exact (q_sk (q_mi 0 rfl) (q_sk (q_mi 1 rfl) q_s0)) | simp)
    have hR104 := (show F_Wri_floatText_c22 A B C x3 x4 t0_0 t1_0 t2_0 t2_1 t3_0 t4_0 t4_1 t5_0 t6_0 t6_1 t7_0 t8_0 t8_1 t9_0 t10_0 t10_1 t11_0 t12_0 t12_1 t13_0 t14_0 t14_1 t14_2 lx65 p100 = (F_Wri_floatText A B C x3 x4 t0_0 t1_0 t2_0 t2_1 t3_0 t4_0 t4_1 t5_0 t6_0 t6_1 t7_0 t8_0 t8_1 t9_0 t10_0 t10_1 t11_0 t12_0 t12_1 t13_0 t14_0 t14_1 t14_2) from Eq.trans (by rw [e101, F_Wri_floatText_J22.eq_1]) hR84)
    have hS105 := (show True ∧ S_Wri_floatText_c22 A B C x3 x4 t0_0 t1_0 t2_0 t2_1 t3_0 t4_0 t4_1 t5_0 t6_0 t6_1 t7_0 t8_0 t8_1 t9_0 t10_0 t10_1 t11_0 t12_0 t12_1 t13_0 t14_0 t14_1 t14_2 lx65 p100 from (by rw [e101]; have h := hS85; rw [S_Wri_floatText_J22.eq_1] at h; with_reducible exact h))
    refine lv_aload_n hx hb d_12_6_25 rfl (lv_at hl 1 rfl) ?_
    refine lv_lload_n hx hb d_12_6_26 rfl (lv_at hl 2 rfl) ?_
    refine q_goi V (q_runV (As := [.long x3]) (rest := []) (d := 3) (mc := 0) (ms := 0) (ci := 6) C0 V rfl LV_Wri_124 (X_Flo_isNoNumber l D g q u90 k2 A B C hB2 x3 hI   _) rfl rfl hT14 rfl hl.1 rfl (Nat.le_of_ble_eq_true rfl) ⟨by decide, by decide⟩ ⟨Nat.le_of_ble_eq_true rfl, Nat.le_of_ble_eq_true rfl⟩ d_12_6_27) (fun a111 u109 H locs hp110 V => ?_)
    obtain ⟨rfl, b112, b113, hE114⟩ := hp110
    have e115 : a111 = (F_Flo_isNoNumber A B C x3) := hE114
    clear b112
    clear b113
    refine lv_if_eq (tgt := 45) hx hb d_12_6_30 (by decide) (fun c116 => ?_) (fun c116 => ?_)
    ·
      refine lv_aload_n hx hb d_12_6_45 rfl (lv_at hl 1 rfl) ?_
      refine lv_lload_n hx hb d_12_6_46 rfl (lv_at hl 2 rfl) ?_
      refine q_goi V (q_runV (As := [.long x3]) (rest := []) (d := 2) (mc := 0) (ms := 0) (ci := 6) C0 V rfl LV_Wri_133 (X_Flo_isFinite l D g q u90 k2 A B C hB2 x3 hI   _) rfl rfl hT14 rfl hl.1 rfl (Nat.le_of_ble_eq_true rfl) ⟨by decide, by decide⟩ ⟨Nat.le_of_ble_eq_true rfl, Nat.le_of_ble_eq_true rfl⟩ d_12_6_47) (fun a120 u118 H locs hp119 V => ?_)
      obtain ⟨rfl, b121, b122, hE123⟩ := hp119
      have e124 : a120 = (F_Flo_isFinite A B C x3) := hE123
      clear b121
      clear b122
      refine lv_if_ne (tgt := 65) hx hb d_12_6_50 (by decide) (fun c125 => ?_) (fun c125 => ?_)
      ·
        refine lv_aload_n hx hb d_12_6_65 rfl (lv_at hl 1 rfl) ?_
        refine lv_lload_n hx hb d_12_6_66 rfl (lv_at hl 2 rfl) ?_
        refine q_goi V (q_runV (As := [.long x3]) (rest := []) (d := 2) (mc := 0) (ms := 0) (ci := 6) C0 V rfl LV_Wri_138 (X_Flo_isZero l D g q u90 k2 A B C hB2 x3 hI   _) rfl rfl hT14 rfl hl.1 rfl (Nat.le_of_ble_eq_true rfl) ⟨by decide, by decide⟩ ⟨Nat.le_of_ble_eq_true rfl, Nat.le_of_ble_eq_true rfl⟩ d_12_6_67) (fun a129 u127 H locs hp128 V => ?_)
        obtain ⟨rfl, b130, b131, hE132⟩ := hp128
        have e133 : a129 = (F_Flo_isZero A B C x3) := hE132
        clear b130
        clear b131
        refine lv_if_eq (tgt := 95) hx hb d_12_6_70 (by decide) (fun c134 => ?_) (fun c134 => ?_)
        ·
          refine lv_iload hx hb d_12_6_95 (lv_at hl 3 rfl) ?_
          refine lv_if_eq (tgt := 109) hx hb d_12_6_97 (by decide) (fun c136 => ?_) (fun c136 => ?_)
          ·
            have b137 : q_F (x4.toInt = 0) := (q_eqI c136)
            refine lv_aload_n hx hb d_12_6_109 rfl (lv_at hl 0 rfl) ?_
            refine lv_aload_n hx hb d_12_6_110 rfl (lv_at hl 1 rfl) ?_
            refine lv_lload_n hx hb d_12_6_111 rfl (lv_at hl 2 rfl) ?_
            have ob138 : True ∧ S_Wri_writeShort A B C x3 y93 f94 t2_0 t2_1 t3_0 t4_0 t4_1 t5_0 t6_0 t6_1 t7_0 t8_0 t8_1 t9_0 t10_0 t10_1 t11_0 t12_0 t12_1 t13_0 t14_0 t14_1 t14_2 := (by rw [e103, e102]; have h := hS105; rw [S_Wri_floatText_c22.eq_1] at h; have c116x := c116; rw [e115] at c116x; rw [if_pos c116x] at h; have c125x := c125; rw [e124] at c125x; rw [if_neg c125x] at h; have c134x := c134; rw [e133] at c134x; rw [if_pos c134x] at h; rw [if_pos c136] at h; with_reducible exact h.2.1)
            refine q_gov V (q_runV (As := [.ref (q k2), .long x3]) (rest := []) (d := 6) (mc := 0) (ms := 0) (ci := 9) C0 V rfl LV_Wri_149 (X_Wri_writeShort l D g q u90 k2 A B C hB2 x3 hI y93 hO92 f94 hA95 t2_0 t2_1 hT2 t3_0 hT3 t4_0 t4_1 hT4 t5_0 hT5 t6_0 t6_1 hT6 t7_0 hT7 t8_0 t8_1 hT8 t9_0 hT9 t10_0 t10_1 hT10 t11_0 hT11 t12_0 t12_1 hT12 t13_0 hT13 t14_0 t14_1 t14_2 hT14 (by have t1 : lx65.toInt ≤ 1 := i83; have t2 : y93.toInt ≤ lx65.toInt := b97; omega) ob138 _) rfl rfl hO89 rfl hl.1 rfl (Nat.le_of_ble_eq_true rfl) ⟨by decide, by decide⟩ ⟨Nat.le_of_ble_eq_true rfl, Nat.le_of_ble_eq_true rfl⟩ d_12_6_112) (fun u139 H locs hp140 V => ?_)
            obtain ⟨hI, hZ9⟩ := hp140
            obtain ⟨hu212, hZ9⟩ := hZ9
            obtain ⟨y142, hZ9⟩ := hZ9
            obtain ⟨f143, hZ9⟩ := hZ9
            obtain ⟨y146, hZ9⟩ := hZ9
            obtain ⟨y147, hZ9⟩ := hZ9
            obtain ⟨f148, hZ9⟩ := hZ9
            obtain ⟨y151, hZ9⟩ := hZ9
            obtain ⟨y152, hZ9⟩ := hZ9
            obtain ⟨f153, hZ9⟩ := hZ9
            obtain ⟨y156, hZ9⟩ := hZ9
            obtain ⟨y157, hZ9⟩ := hZ9
            obtain ⟨f158, hZ9⟩ := hZ9
            obtain ⟨y161, hZ9⟩ := hZ9
            obtain ⟨y162, hZ9⟩ := hZ9
            obtain ⟨f163, hZ9⟩ := hZ9
            obtain ⟨y166, hZ9⟩ := hZ9
            obtain ⟨y167, hZ9⟩ := hZ9
            obtain ⟨f168, hZ9⟩ := hZ9
            obtain ⟨y171, hZ9⟩ := hZ9
            obtain ⟨y172, hZ9⟩ := hZ9
            obtain ⟨f173, hZ9⟩ := hZ9
            obtain ⟨y176, hZ9⟩ := hZ9
            obtain ⟨y177, hZ9⟩ := hZ9
            obtain ⟨y178, hZ9⟩ := hZ9
            obtain ⟨hO141, hZ9⟩ := hZ9
            obtain ⟨hA144, hZ9⟩ := hZ9
            obtain ⟨hO145, hZ9⟩ := hZ9
            obtain ⟨hA149, hZ9⟩ := hZ9
            obtain ⟨hO150, hZ9⟩ := hZ9
            obtain ⟨hA154, hZ9⟩ := hZ9
            obtain ⟨hO155, hZ9⟩ := hZ9
            obtain ⟨hA159, hZ9⟩ := hZ9
            obtain ⟨hO160, hZ9⟩ := hZ9
            obtain ⟨hA164, hZ9⟩ := hZ9
            obtain ⟨hO165, hZ9⟩ := hZ9
            obtain ⟨hA169, hZ9⟩ := hZ9
            obtain ⟨hO170, hZ9⟩ := hZ9
            obtain ⟨hA174, hZ9⟩ := hZ9
            obtain ⟨hO175, hZ9⟩ := hZ9
            obtain ⟨b179, hZ9⟩ := hZ9
            obtain ⟨b180, hZ9⟩ := hZ9
            obtain ⟨b181, hZ9⟩ := hZ9
            obtain ⟨b182, hZ9⟩ := hZ9
            obtain ⟨b183, hZ9⟩ := hZ9
            obtain ⟨b184, hZ9⟩ := hZ9
            obtain ⟨b185, hZ9⟩ := hZ9
            obtain ⟨b186, hZ9⟩ := hZ9
            obtain ⟨b187, hZ9⟩ := hZ9
            obtain ⟨b188, hZ9⟩ := hZ9
            obtain ⟨b189, hZ9⟩ := hZ9
            obtain ⟨b190, hZ9⟩ := hZ9
            obtain ⟨b191, hZ9⟩ := hZ9
            obtain ⟨b192, hZ9⟩ := hZ9
            obtain ⟨b193, hZ9⟩ := hZ9
            obtain ⟨b194, hZ9⟩ := hZ9
            obtain ⟨b195, hZ9⟩ := hZ9
            obtain ⟨b196, hZ9⟩ := hZ9
            obtain ⟨b197, hZ9⟩ := hZ9
            obtain ⟨b198, hZ9⟩ := hZ9
            obtain ⟨b199, hZ9⟩ := hZ9
            obtain ⟨b200, hZ9⟩ := hZ9
            obtain ⟨b201, hZ9⟩ := hZ9
            obtain ⟨b202, hZ9⟩ := hZ9
            replace hZ9 := hZ9.2
            obtain ⟨b204, hZ9⟩ := hZ9
            obtain ⟨b205, hZ9⟩ := hZ9
            obtain ⟨b206, hZ9⟩ := hZ9
            replace hZ9 := hZ9.2.2.2
            obtain ⟨b210, hE211⟩ := hZ9
            replace hO141 : u139[3]? = (some (q 3, .inr (1, [.ref (q 4), .int 11008, .int y142])) : Option (Nat × va_E)) := hO141
            replace hA144 : u139[4]? = (some (q 4, .inl (g 1, (1376 : Int32).toNatClampNeg, .inr (.inl f143))) : Option (Nat × va_E)) := hA144
            replace hO145 : u139[36]? = (some (q 36, .inr (7, [.int y146, .int y147, .ref (q 37)])) : Option (Nat × va_E)) := hO145
            replace hA149 : u139[37]? = (some (q 37, .inl (g 2, 1026, .inl f148)) : Option (Nat × va_E)) := hA149
            replace hO150 : u139[10]? = (some (q 10, .inr (2, [.ref (q 11), .int y151, .int y152])) : Option (Nat × va_E)) := hO150
            replace hA154 : u139[11]? = (some (q 11, .inl (g 0, (220 : Int32).toNatClampNeg, .inl f153)) : Option (Nat × va_E)) := hA154
            replace hO155 : u139[22]? = (some (q 22, .inr (2, [.ref (q 23), .int y156, .int y157])) : Option (Nat × va_E)) := hO155
            replace hA159 : u139[23]? = (some (q 23, .inl (g 0, (220 : Int32).toNatClampNeg, .inl f158)) : Option (Nat × va_E)) := hA159
            replace hO160 : u139[24]? = (some (q 24, .inr (2, [.ref (q 25), .int y161, .int y162])) : Option (Nat × va_E)) := hO160
            replace hA164 : u139[25]? = (some (q 25, .inl (g 0, (220 : Int32).toNatClampNeg, .inl f163)) : Option (Nat × va_E)) := hA164
            replace hO165 : u139[26]? = (some (q 26, .inr (2, [.ref (q 27), .int y166, .int y167])) : Option (Nat × va_E)) := hO165
            replace hA169 : u139[27]? = (some (q 27, .inl (g 0, (220 : Int32).toNatClampNeg, .inl f168)) : Option (Nat × va_E)) := hA169
            replace hO170 : u139[28]? = (some (q 28, .inr (2, [.ref (q 29), .int y171, .int y172])) : Option (Nat × va_E)) := hO170
            replace hA174 : u139[29]? = (some (q 29, .inl (g 0, (220 : Int32).toNatClampNeg, .inl f173)) : Option (Nat × va_E)) := hA174
            replace hO175 : u139[k2]? = (some (q k2, .inr (6, [.int A, .int B, .int C, .long y176, .int y177, .ref (q 9), .int y178])) : Option (Nat × va_E)) := hO175
            obtain ⟨p213, e214⟩ : ∃ z, z = (F_Wri_writeShort A B C x3 y93 f94 t2_0 t2_1 t3_0 t4_0 t4_1 t5_0 t6_0 t6_1 t7_0 t8_0 t8_1 t9_0 t10_0 t10_1 t11_0 t12_0 t12_1 t13_0 t14_0 t14_1 t14_2) := ⟨_, rfl⟩
            have e215 : y142 = p213.1 := congrArg (fun z => z.1) (hE211.trans e214.symm)
            have e216 : f143 = p213.2.1 := congrArg (fun z => z.2.1) (hE211.trans e214.symm)
            have e217 : y146 = p213.2.2.1 := congrArg (fun z => z.2.2.1) (hE211.trans e214.symm)
            have e218 : y147 = p213.2.2.2.1 := congrArg (fun z => z.2.2.2.1) (hE211.trans e214.symm)
            have e219 : f148 = p213.2.2.2.2.1 := congrArg (fun z => z.2.2.2.2.1) (hE211.trans e214.symm)
            have e220 : y151 = p213.2.2.2.2.2.1 := congrArg (fun z => z.2.2.2.2.2.1) (hE211.trans e214.symm)
            have e221 : y152 = p213.2.2.2.2.2.2.1 := congrArg (fun z => z.2.2.2.2.2.2.1) (hE211.trans e214.symm)
            have e222 : f153 = p213.2.2.2.2.2.2.2.1 := congrArg (fun z => z.2.2.2.2.2.2.2.1) (hE211.trans e214.symm)
            have e223 : y156 = p213.2.2.2.2.2.2.2.2.1 := congrArg (fun z => z.2.2.2.2.2.2.2.2.1) (hE211.trans e214.symm)
            have e224 : y157 = p213.2.2.2.2.2.2.2.2.2.1 := congrArg (fun z => z.2.2.2.2.2.2.2.2.2.1) (hE211.trans e214.symm)
            have e225 : f158 = p213.2.2.2.2.2.2.2.2.2.2.1 := congrArg (fun z => z.2.2.2.2.2.2.2.2.2.2.1) (hE211.trans e214.symm)
            have e226 : y161 = p213.2.2.2.2.2.2.2.2.2.2.2.1 := congrArg (fun z => z.2.2.2.2.2.2.2.2.2.2.2.1) (hE211.trans e214.symm)
            have e227 : y162 = p213.2.2.2.2.2.2.2.2.2.2.2.2.1 := congrArg (fun z => z.2.2.2.2.2.2.2.2.2.2.2.2.1) (hE211.trans e214.symm)
            have e228 : f163 = p213.2.2.2.2.2.2.2.2.2.2.2.2.2.1 := congrArg (fun z => z.2.2.2.2.2.2.2.2.2.2.2.2.2.1) (hE211.trans e214.symm)
            have e229 : y166 = p213.2.2.2.2.2.2.2.2.2.2.2.2.2.2.1 := congrArg (fun z => z.2.2.2.2.2.2.2.2.2.2.2.2.2.2.1) (hE211.trans e214.symm)
            have e230 : y167 = p213.2.2.2.2.2.2.2.2.2.2.2.2.2.2.2.1 := congrArg (fun z => z.2.2.2.2.2.2.2.2.2.2.2.2.2.2.2.1) (hE211.trans e214.symm)
            have e231 : f168 = p213.2.2.2.2.2.2.2.2.2.2.2.2.2.2.2.2.1 := congrArg (fun z => z.2.2.2.2.2.2.2.2.2.2.2.2.2.2.2.2.1) (hE211.trans e214.symm)
            have e232 : y171 = p213.2.2.2.2.2.2.2.2.2.2.2.2.2.2.2.2.2.1 := congrArg (fun z => z.2.2.2.2.2.2.2.2.2.2.2.2.2.2.2.2.2.1) (hE211.trans e214.symm)
            have e233 : y172 = p213.2.2.2.2.2.2.2.2.2.2.2.2.2.2.2.2.2.2.1 := congrArg (fun z => z.2.2.2.2.2.2.2.2.2.2.2.2.2.2.2.2.2.2.1) (hE211.trans e214.symm)
            have e234 : f173 = p213.2.2.2.2.2.2.2.2.2.2.2.2.2.2.2.2.2.2.2.1 := congrArg (fun z => z.2.2.2.2.2.2.2.2.2.2.2.2.2.2.2.2.2.2.2.1) (hE211.trans e214.symm)
            have e235 : y176 = p213.2.2.2.2.2.2.2.2.2.2.2.2.2.2.2.2.2.2.2.2.1 := congrArg (fun z => z.2.2.2.2.2.2.2.2.2.2.2.2.2.2.2.2.2.2.2.2.1) (hE211.trans e214.symm)
            have e236 : y177 = p213.2.2.2.2.2.2.2.2.2.2.2.2.2.2.2.2.2.2.2.2.2.1 := congrArg (fun z => z.2.2.2.2.2.2.2.2.2.2.2.2.2.2.2.2.2.2.2.2.2.1) (hE211.trans e214.symm)
            have e237 : y178 = p213.2.2.2.2.2.2.2.2.2.2.2.2.2.2.2.2.2.2.2.2.2.2 := congrArg (fun z => z.2.2.2.2.2.2.2.2.2.2.2.2.2.2.2.2.2.2.2.2.2.2) (hE211.trans e214.symm)
            replace b179 : q_F (2 ≤ y142.toInt) := b179
            replace b180 : q_F (0 ≤ y146.toInt) := b180
            replace b181 : q_F (y146.toInt ≤ 20) := b181
            replace b182 : q_F (0 ≤ y147.toInt + 20000) := b182
            replace b183 : q_F (y147.toInt ≤ 20019) := b183
            replace b184 : q_F (0 ≤ y151.toInt) := b184
            replace b185 : q_F (y151.toInt ≤ 220) := b185
            replace b186 : q_F (0 ≤ y152.toInt) := b186
            replace b187 : q_F (y152.toInt ≤ 21) := b187
            replace b188 : q_F (0 ≤ y156.toInt) := b188
            replace b189 : q_F (y156.toInt ≤ 220) := b189
            replace b190 : q_F (0 ≤ y157.toInt) := b190
            replace b191 : q_F (y157.toInt ≤ 2) := b191
            replace b192 : q_F (0 ≤ y161.toInt) := b192
            replace b193 : q_F (y161.toInt ≤ 220) := b193
            replace b194 : q_F (0 ≤ y162.toInt) := b194
            replace b195 : q_F (y162.toInt ≤ 1) := b195
            replace b196 : q_F (0 ≤ y166.toInt) := b196
            replace b197 : q_F (y166.toInt ≤ 220) := b197
            replace b198 : q_F (0 ≤ y167.toInt) := b198
            replace b199 : q_F (y167.toInt ≤ 1) := b199
            replace b200 : q_F (0 ≤ y171.toInt) := b200
            replace b201 : q_F (y171.toInt ≤ 220) := b201
            replace b202 : q_F (0 ≤ y172.toInt) := b202
            replace b204 : q_F (y142.toInt ≤ y93.toInt + 420003) := b204
            replace b205 : q_F (y152.toInt ≤ t4_1.toInt + 20) := b205
            replace b206 : q_F (y157.toInt ≤ t4_1.toInt + 1) := b206
            replace b210 : q_F (y157.toInt ≤ y152.toInt + 1) := b210
            replace hF := q_uc hF hu212 (by first | exact (q_sk (q_mi 0 rfl) (q_sk (q_mi 1 rfl) (q_sk (q_mi 2 rfl) (q_sk (q_mi 3 rfl) (q_sk (q_mi 4 rfl) (q_sk (q_mi 5 rfl) (q_sk (q_mi 6 rfl) (q_sk (q_mi 7 rfl) (q_sk (q_mi 8 rfl) (q_sk (q_mi 9 rfl) (q_sk (q_mi 10 rfl) (q_sk (q_mi 11 rfl) (q_sk (q_mi 12 rfl) (q_sk (q_mi 13 rfl) (q_sk (q_mi 14 rfl) q_s0))))))))))))))) | simp)
            have hR238 := (show F_Wri_floatText_c112 A B C x3 x4 t0_0 t1_0 t2_0 t2_1 t3_0 t4_0 t4_1 t5_0 t6_0 t6_1 t7_0 t8_0 t8_1 t9_0 t10_0 t10_1 t11_0 t12_0 t12_1 t13_0 t14_0 t14_1 t14_2 lx65 p100 p213 = (F_Wri_floatText A B C x3 x4 t0_0 t1_0 t2_0 t2_1 t3_0 t4_0 t4_1 t5_0 t6_0 t6_1 t7_0 t8_0 t8_1 t9_0 t10_0 t10_1 t11_0 t12_0 t12_1 t13_0 t14_0 t14_1 t14_2) from Eq.trans (by have c116x := c116; rw [e115] at c116x; have c125x := c125; rw [e124] at c125x; have c134x := c134; rw [e133] at c134x; rw [e214, e103, e102, F_Wri_floatText_c22.eq_1, if_pos c116x, if_neg c125x, if_pos c134x, if_pos c136]) hR104)
            have hS239 := (show True ∧ S_Wri_floatText_c112 A B C x3 x4 t0_0 t1_0 t2_0 t2_1 t3_0 t4_0 t4_1 t5_0 t6_0 t6_1 t7_0 t8_0 t8_1 t9_0 t10_0 t10_1 t11_0 t12_0 t12_1 t13_0 t14_0 t14_1 t14_2 lx65 p100 p213 from (by rw [e214, e103, e102]; have h := hS105; rw [S_Wri_floatText_c22.eq_1] at h; have c116x := c116; rw [e115] at c116x; rw [if_pos c116x] at h; have c125x := c125; rw [e124] at c125x; rw [if_neg c125x] at h; have c134x := c134; rw [e133] at c134x; rw [if_pos c134x] at h; rw [if_pos c136] at h; replace h := q_s2 h; with_reducible exact h))
            exact q_retv C0 V (⟨hI, hF, y142, f143, y146, y147, f148, y151, y152, f153, y156, y157, f158, y161, y162, f163, y166, y167, f168, y171, y172, f173, y176, y177, y178, hO141, hA144, hO145, hA149, hO150, hA154, hO155, hA159, hO160, hA164, hO165, hA169, hO170, hA174, hO175, (show 2 ≤ y142.toInt from (by first | with_reducible exact q_fe b179 | (have t1 : 2 ≤ y142.toInt := b179; omega))), (show y142.toInt ≤ 420004 from (by have t1 : lx65.toInt ≤ 1 := i83; have t2 : y93.toInt ≤ lx65.toInt := b97; have t3 : y142.toInt ≤ y93.toInt + 420003 := b204; omega)), (show 0 ≤ y146.toInt from (by first | with_reducible exact q_fe b180 | (have t1 : 0 ≤ y146.toInt := b180; omega))), (show y146.toInt ≤ 1026 from (by first | with_reducible exact q_fe b181 | (have t1 : y146.toInt ≤ 20 := b181; omega))), (show 0 ≤ y147.toInt + 1000000 from (by first | with_reducible exact q_fe b182 | (have t1 : 0 ≤ y147.toInt + 20000 := b182; omega))), (show y147.toInt ≤ 1000000 from (by first | with_reducible exact q_fe b183 | (have t1 : y147.toInt ≤ 20019 := b183; omega))), (show 0 ≤ y151.toInt from (by first | with_reducible exact q_fe b184 | (have t1 : 0 ≤ y151.toInt := b184; omega))), (show y151.toInt ≤ 220 from (by first | with_reducible exact q_fe b185 | (have t1 : y151.toInt ≤ 220 := b185; omega))), (show 0 ≤ y152.toInt from (by first | with_reducible exact q_fe b186 | (have t1 : 0 ≤ y152.toInt := b186; omega))), (show y152.toInt ≤ 21 from (by first | with_reducible exact q_fe b187 | (have t1 : y152.toInt ≤ 21 := b187; omega))), (show 0 ≤ y156.toInt from (by first | with_reducible exact q_fe b188 | (have t1 : 0 ≤ y156.toInt := b188; omega))), (show y156.toInt ≤ 220 from (by first | with_reducible exact q_fe b189 | (have t1 : y156.toInt ≤ 220 := b189; omega))), (show 0 ≤ y157.toInt from (by first | with_reducible exact q_fe b190 | (have t1 : 0 ≤ y157.toInt := b190; omega))), (show y157.toInt ≤ 2 from (by first | with_reducible exact q_fe b191 | (have t1 : y157.toInt ≤ 2 := b191; omega))), (show 0 ≤ y161.toInt from (by first | with_reducible exact q_fe b192 | (have t1 : 0 ≤ y161.toInt := b192; omega))), (show y161.toInt ≤ 220 from (by first | with_reducible exact q_fe b193 | (have t1 : y161.toInt ≤ 220 := b193; omega))), (show 0 ≤ y162.toInt from (by first | with_reducible exact q_fe b194 | (have t1 : 0 ≤ y162.toInt := b194; omega))), (show y162.toInt ≤ 1 from (by first | with_reducible exact q_fe b195 | (have t1 : y162.toInt ≤ 1 := b195; omega))), (show 0 ≤ y166.toInt from (by first | with_reducible exact q_fe b196 | (have t1 : 0 ≤ y166.toInt := b196; omega))), (show y166.toInt ≤ 220 from (by first | with_reducible exact q_fe b197 | (have t1 : y166.toInt ≤ 220 := b197; omega))), (show 0 ≤ y167.toInt from (by first | with_reducible exact q_fe b198 | (have t1 : 0 ≤ y167.toInt := b198; omega))), (show y167.toInt ≤ 1 from (by first | with_reducible exact q_fe b199 | (have t1 : y167.toInt ≤ 1 := b199; omega))), (show 0 ≤ y171.toInt from (by first | with_reducible exact q_fe b200 | (have t1 : 0 ≤ y171.toInt := b200; omega))), (show y171.toInt ≤ 220 from (by first | with_reducible exact q_fe b201 | (have t1 : y171.toInt ≤ 220 := b201; omega))), (show 0 ≤ y172.toInt from (by first | with_reducible exact q_fe b202 | (have t1 : 0 ≤ y172.toInt := b202; omega))), (show x4.toInt + 2 ≤ y142.toInt from (by have t1 : x4.toInt = 0 := b137; have t2 : 2 ≤ y142.toInt := b179; omega)), (show y146.toInt ≤ t2_0.toInt + 20 from (by have t1 : 0 ≤ t2_0.toInt ∧ t2_0.toInt ≤ 1026 := btt2_0; have t2 : y146.toInt ≤ 20 := b181; omega)), (show t2_1.toInt ≤ y147.toInt + 1020000 from (by have t1 : -1000000 ≤ t2_1.toInt ∧ t2_1.toInt ≤ 1000000 := btt2_1; have t2 : 0 ≤ y147.toInt + 20000 := b182; omega)), (show y147.toInt ≤ t2_1.toInt + 1020019 from (by have t1 : -1000000 ≤ t2_1.toInt ∧ t2_1.toInt ≤ 1000000 := btt2_1; have t2 : y147.toInt ≤ 20019 := b183; omega)), (show y152.toInt ≤ t4_1.toInt + 20 from (by first | with_reducible exact q_fe b205 | (have t1 : y152.toInt ≤ t4_1.toInt + 20 := b205; omega))), (show y157.toInt ≤ t4_1.toInt + 1 from (by first | with_reducible exact q_fe b206 | (have t1 : y157.toInt ≤ t4_1.toInt + 1 := b206; omega))), (show y146.toInt ≤ y142.toInt + 1023 from (by have t1 : 2 ≤ y142.toInt := b179; have t2 : y146.toInt ≤ 20 := b181; omega)), (show y147.toInt ≤ y142.toInt + 999997 from (by have t1 : 2 ≤ y142.toInt := b179; have t2 : y147.toInt ≤ 20019 := b183; omega)), (show y142.toInt ≤ y147.toInt + 1000025 from (by have t1 : lx65.toInt ≤ 1 := i83; have t2 : y93.toInt ≤ lx65.toInt := b97; have t3 : 0 ≤ y147.toInt + 20000 := b182; have t4 : y142.toInt ≤ y93.toInt + 420003 := b204; omega)), (show y152.toInt ≤ y147.toInt + 1000001 from (by have t1 : 0 ≤ y147.toInt + 20000 := b182; have t2 : y152.toInt ≤ 21 := b187; omega)), (show y157.toInt ≤ y147.toInt + 1000001 from (by have t1 : 0 ≤ y147.toInt + 20000 := b182; have t2 : y157.toInt ≤ 2 := b191; omega)), (show y157.toInt ≤ y152.toInt + 1 from (by first | with_reducible exact q_fe b210 | (have t1 : y157.toInt ≤ y152.toInt + 1 := b210; omega))), (show (y142, f143, y146, y147, f148, y151, y152, f153, y156, y157, f158, y161, y162, f163, y166, y167, f168, y171, y172, f173, y176, y177, y178) = (F_Wri_floatText A B C x3 x4 t0_0 t1_0 t2_0 t2_1 t3_0 t4_0 t4_1 t5_0 t6_0 t6_1 t7_0 t8_0 t8_1 t9_0 t10_0 t10_1 t11_0 t12_0 t12_1 t13_0 t14_0 t14_1 t14_2) from Eq.trans (by rw [e237, e236, e235, e234, e233, e232, e231, e230, e229, e228, e227, e226, e225, e224, e223, e222, e221, e220, e219, e218, e217, e216, e215, F_Wri_floatText_c112.eq_1]) hR238)⟩) d_12_6_115
          ·
            refine lv_aload_n hx hb d_12_6_100 rfl (lv_at hl 0 rfl) ?_
            refine lv_aload_n hx hb d_12_6_101 rfl (lv_at hl 1 rfl) ?_
            refine lv_lload_n hx hb d_12_6_102 rfl (lv_at hl 2 rfl) ?_
            refine q_gov V (q_runV (As := [.ref (q k2), .long x3]) (rest := []) (d := 6) (mc := 0) (ms := 0) (ci := 9) C0 V rfl LV_Wri_145 (X_Wri_writeHexadecimal l D g q u90 k2 A B C hB2 x3 hI y93 hO92 f94 hA95 t14_0 t14_1 t14_2 hT14 (by have t1 : lx65.toInt ≤ 1 := i83; have t2 : y93.toInt ≤ lx65.toInt := b97; omega) _) rfl rfl hO89 rfl hl.1 rfl (Nat.le_of_ble_eq_true rfl) ⟨by decide, by decide⟩ ⟨Nat.le_of_ble_eq_true rfl, Nat.le_of_ble_eq_true rfl⟩ d_12_6_103) (fun u244 H locs hp245 V => ?_)
            obtain ⟨hI, hZ9⟩ := hp245
            obtain ⟨hu254, hZ9⟩ := hZ9
            obtain ⟨y247, hZ9⟩ := hZ9
            obtain ⟨f248, hZ9⟩ := hZ9
            obtain ⟨hO246, hZ9⟩ := hZ9
            obtain ⟨hA249, hZ9⟩ := hZ9
            obtain ⟨b250, hZ9⟩ := hZ9
            obtain ⟨b251, hZ9⟩ := hZ9
            obtain ⟨b252, hE253⟩ := hZ9
            replace hO246 : u244[3]? = (some (q 3, .inr (1, [.ref (q 4), .int 11008, .int y247])) : Option (Nat × va_E)) := hO246
            replace hA249 : u244[4]? = (some (q 4, .inl (g 1, (1376 : Int32).toNatClampNeg, .inr (.inl f248))) : Option (Nat × va_E)) := hA249
            obtain ⟨p255, e256⟩ : ∃ z, z = (F_Wri_writeHexadecimal A B C x3 y93 f94 t14_0 t14_1 t14_2) := ⟨_, rfl⟩
            have e257 : y247 = p255.1 := congrArg (fun z => z.1) (hE253.trans e256.symm)
            have e258 : f248 = p255.2 := congrArg (fun z => z.2) (hE253.trans e256.symm)
            replace b250 : q_F (y93.toInt + 5 ≤ y247.toInt) := b250
            replace b251 : q_F (y247.toInt ≤ y93.toInt + 24) := b251
            replace b252 : q_F (y247.toInt ≤ A.toInt + 4) := b252
            replace hT2 := (hu254 _ (by decide)).trans hT2
            replace hT3 := (hu254 _ (by decide)).trans hT3
            replace hT4 := (hu254 _ (by decide)).trans hT4
            replace hT5 := (hu254 _ (by decide)).trans hT5
            replace hT6 := (hu254 _ (by decide)).trans hT6
            replace hT7 := (hu254 _ (by decide)).trans hT7
            replace hT8 := (hu254 _ (by decide)).trans hT8
            replace hT9 := (hu254 _ (by decide)).trans hT9
            replace hT10 := (hu254 _ (by decide)).trans hT10
            replace hT11 := (hu254 _ (by decide)).trans hT11
            replace hT12 := (hu254 _ (by decide)).trans hT12
            replace hT13 := (hu254 _ (by decide)).trans hT13
            replace hT14 := (hu254 _ (by have z0 := hB2.2.2.2.2; simp only [List.mem_cons, List.not_mem_nil, or_false, not_or]; omega)).trans hT14
            replace hF := q_uc hF hu254 (by first | exact (q_sk (q_mi 0 rfl) (q_sk (q_mi 1 rfl) q_s0)) | simp)
            have hR259 := (show F_Wri_floatText_c103 A B C x3 x4 t0_0 t1_0 t2_0 t2_1 t3_0 t4_0 t4_1 t5_0 t6_0 t6_1 t7_0 t8_0 t8_1 t9_0 t10_0 t10_1 t11_0 t12_0 t12_1 t13_0 t14_0 t14_1 t14_2 lx65 p100 p255 = (F_Wri_floatText A B C x3 x4 t0_0 t1_0 t2_0 t2_1 t3_0 t4_0 t4_1 t5_0 t6_0 t6_1 t7_0 t8_0 t8_1 t9_0 t10_0 t10_1 t11_0 t12_0 t12_1 t13_0 t14_0 t14_1 t14_2) from Eq.trans (by have c116x := c116; rw [e115] at c116x; have c125x := c125; rw [e124] at c125x; have c134x := c134; rw [e133] at c134x; rw [e256, e103, e102, F_Wri_floatText_c22.eq_1, if_pos c116x, if_neg c125x, if_pos c134x, if_neg c136]) hR104)
            have hS260 := (show True ∧ S_Wri_floatText_c103 A B C x3 x4 t0_0 t1_0 t2_0 t2_1 t3_0 t4_0 t4_1 t5_0 t6_0 t6_1 t7_0 t8_0 t8_1 t9_0 t10_0 t10_1 t11_0 t12_0 t12_1 t13_0 t14_0 t14_1 t14_2 lx65 p100 p255 from (by rw [e256, e103, e102]; have h := hS105; rw [S_Wri_floatText_c22.eq_1] at h; have c116x := c116; rw [e115] at c116x; rw [if_pos c116x] at h; have c125x := c125; rw [e124] at c125x; rw [if_neg c125x] at h; have c134x := c134; rw [e133] at c134x; rw [if_pos c134x] at h; rw [if_neg c136] at h; with_reducible exact h))
            refine lv_goto (tgt := 115) hx hb d_12_6_106 (by decide) ?_
            exact q_retv C0 V (⟨hI, hF, y247, f248, t2_0, t2_1, t3_0, t4_0, t4_1, t5_0, t6_0, t6_1, t7_0, t8_0, t8_1, t9_0, t10_0, t10_1, t11_0, t12_0, t12_1, t13_0, t14_0, t14_1, t14_2, hO246, hA249, hT2, hT3, hT4, hT5, hT6, hT7, hT8, hT9, hT10, hT11, hT12, hT13, hT14, (show 2 ≤ y247.toInt from (by have t1 : 0 ≤ lx65.toInt := i82; have t2 : lx65.toInt ≤ y93.toInt := b96; have t3 : y93.toInt + 5 ≤ y247.toInt := b250; omega)), (show y247.toInt ≤ 420004 from (by have t1 : 23 ≤ A.toInt ∧ A.toInt ≤ 52 := hfk20; have t2 : y247.toInt ≤ A.toInt + 4 := b252; omega)), (show 0 ≤ t2_0.toInt from (by first | with_reducible exact (q_fe btt2_0).2 | with_reducible exact (q_fe btt2_0).1 | (have t1 : 0 ≤ t2_0.toInt ∧ t2_0.toInt ≤ 1026 := btt2_0; omega))), (show t2_0.toInt ≤ 1026 from (by first | with_reducible exact (q_fe btt2_0).2 | with_reducible exact (q_fe btt2_0).1 | (have t1 : 0 ≤ t2_0.toInt ∧ t2_0.toInt ≤ 1026 := btt2_0; omega))), (show 0 ≤ t2_1.toInt + 1000000 from (by first | with_reducible exact (q_fe btt2_1).2 | with_reducible exact (q_fe btt2_1).1 | (have t1 : -1000000 ≤ t2_1.toInt ∧ t2_1.toInt ≤ 1000000 := btt2_1; omega))), (show t2_1.toInt ≤ 1000000 from (by first | with_reducible exact (q_fe btt2_1).2 | with_reducible exact (q_fe btt2_1).1 | (have t1 : -1000000 ≤ t2_1.toInt ∧ t2_1.toInt ≤ 1000000 := btt2_1; omega))), (show 0 ≤ t4_0.toInt from (by first | with_reducible exact (q_fe btt4_0).2 | with_reducible exact (q_fe btt4_0).1 | (have t1 : 0 ≤ t4_0.toInt ∧ t4_0.toInt ≤ 220 := btt4_0; omega))), (show t4_0.toInt ≤ 220 from (by first | with_reducible exact (q_fe btt4_0).2 | with_reducible exact (q_fe btt4_0).1 | (have t1 : 0 ≤ t4_0.toInt ∧ t4_0.toInt ≤ 220 := btt4_0; omega))), (show 0 ≤ t4_1.toInt from (by first | with_reducible exact (q_fe btt4_1).2 | with_reducible exact (q_fe btt4_1).1 | (have t1 : 0 ≤ t4_1.toInt ∧ t4_1.toInt ≤ 1 := btt4_1; omega))), (show t4_1.toInt ≤ 21 from (by first | with_reducible exact (q_fe btt4_1).2 | with_reducible exact (q_fe btt4_1).1 | (have t1 : 0 ≤ t4_1.toInt ∧ t4_1.toInt ≤ 1 := btt4_1; omega))), (show 0 ≤ t6_0.toInt from (by first | with_reducible exact (q_fe btt6_0).2 | with_reducible exact (q_fe btt6_0).1 | (have t1 : 0 ≤ t6_0.toInt ∧ t6_0.toInt ≤ 220 := btt6_0; omega))), (show t6_0.toInt ≤ 220 from (by first | with_reducible exact (q_fe btt6_0).2 | with_reducible exact (q_fe btt6_0).1 | (have t1 : 0 ≤ t6_0.toInt ∧ t6_0.toInt ≤ 220 := btt6_0; omega))), (show 0 ≤ t6_1.toInt from (by first | with_reducible exact (q_fe btt6_1).2 | with_reducible exact (q_fe btt6_1).1 | (have t1 : 0 ≤ t6_1.toInt ∧ t6_1.toInt ≤ 1 := btt6_1; omega))), (show t6_1.toInt ≤ 2 from (by first | with_reducible exact (q_fe btt6_1).2 | with_reducible exact (q_fe btt6_1).1 | (have t1 : 0 ≤ t6_1.toInt ∧ t6_1.toInt ≤ 1 := btt6_1; omega))), (show 0 ≤ t8_0.toInt from (by first | with_reducible exact (q_fe btt8_0).2 | with_reducible exact (q_fe btt8_0).1 | (have t1 : 0 ≤ t8_0.toInt ∧ t8_0.toInt ≤ 220 := btt8_0; omega))), (show t8_0.toInt ≤ 220 from (by first | with_reducible exact (q_fe btt8_0).2 | with_reducible exact (q_fe btt8_0).1 | (have t1 : 0 ≤ t8_0.toInt ∧ t8_0.toInt ≤ 220 := btt8_0; omega))), (show 0 ≤ t8_1.toInt from (by first | with_reducible exact (q_fe btt8_1).2 | with_reducible exact (q_fe btt8_1).1 | (have t1 : 0 ≤ t8_1.toInt ∧ t8_1.toInt ≤ 1 := btt8_1; omega))), (show t8_1.toInt ≤ 1 from (by first | with_reducible exact (q_fe btt8_1).2 | with_reducible exact (q_fe btt8_1).1 | (have t1 : 0 ≤ t8_1.toInt ∧ t8_1.toInt ≤ 1 := btt8_1; omega))), (show 0 ≤ t10_0.toInt from (by first | with_reducible exact (q_fe btt10_0).2 | with_reducible exact (q_fe btt10_0).1 | (have t1 : 0 ≤ t10_0.toInt ∧ t10_0.toInt ≤ 220 := btt10_0; omega))), (show t10_0.toInt ≤ 220 from (by first | with_reducible exact (q_fe btt10_0).2 | with_reducible exact (q_fe btt10_0).1 | (have t1 : 0 ≤ t10_0.toInt ∧ t10_0.toInt ≤ 220 := btt10_0; omega))), (show 0 ≤ t10_1.toInt from (by first | with_reducible exact (q_fe btt10_1).2 | with_reducible exact (q_fe btt10_1).1 | (have t1 : 0 ≤ t10_1.toInt ∧ t10_1.toInt ≤ 1 := btt10_1; omega))), (show t10_1.toInt ≤ 1 from (by first | with_reducible exact (q_fe btt10_1).2 | with_reducible exact (q_fe btt10_1).1 | (have t1 : 0 ≤ t10_1.toInt ∧ t10_1.toInt ≤ 1 := btt10_1; omega))), (show 0 ≤ t12_0.toInt from (by first | with_reducible exact (q_fe btt12_0).2 | with_reducible exact (q_fe btt12_0).1 | (have t1 : 0 ≤ t12_0.toInt ∧ t12_0.toInt ≤ 220 := btt12_0; omega))), (show t12_0.toInt ≤ 220 from (by first | with_reducible exact (q_fe btt12_0).2 | with_reducible exact (q_fe btt12_0).1 | (have t1 : 0 ≤ t12_0.toInt ∧ t12_0.toInt ≤ 220 := btt12_0; omega))), (show 0 ≤ t12_1.toInt from (by first | with_reducible exact (q_fe btt12_1).2 | with_reducible exact (q_fe btt12_1).1 | (have t1 : 0 ≤ t12_1.toInt ∧ t12_1.toInt ≤ 1 := btt12_1; omega))), (show x4.toInt + 2 ≤ y247.toInt from (by have t1 : 0 ≤ x4.toInt ∧ x4.toInt ≤ 1 := hzx4; have t2 : 0 ≤ lx65.toInt := i82; have t3 : lx65.toInt ≤ y93.toInt := b96; have t4 : y93.toInt + 5 ≤ y247.toInt := b250; omega)), (show t2_0.toInt ≤ t2_0.toInt + 20 from (by omega)), (show t2_1.toInt ≤ t2_1.toInt + 1020000 from (by omega)), (show t2_1.toInt ≤ t2_1.toInt + 1020019 from (by omega)), (show t4_1.toInt ≤ t4_1.toInt + 20 from (by omega)), (show t6_1.toInt ≤ t4_1.toInt + 1 from (by have t1 : 0 ≤ t4_1.toInt ∧ t4_1.toInt ≤ 1 := btt4_1; have t2 : 0 ≤ t6_1.toInt ∧ t6_1.toInt ≤ 1 := btt6_1; omega)), (show t2_0.toInt ≤ y247.toInt + 1023 from (by have t1 : 0 ≤ t2_0.toInt ∧ t2_0.toInt ≤ 1026 := btt2_0; have t2 : 0 ≤ lx65.toInt := i82; have t3 : lx65.toInt ≤ y93.toInt := b96; have t4 : y93.toInt + 5 ≤ y247.toInt := b250; omega)), (show t2_1.toInt ≤ y247.toInt + 999997 from (by have t1 : -1000000 ≤ t2_1.toInt ∧ t2_1.toInt ≤ 1000000 := btt2_1; have t2 : 0 ≤ lx65.toInt := i82; have t3 : lx65.toInt ≤ y93.toInt := b96; have t4 : y93.toInt + 5 ≤ y247.toInt := b250; omega)), (show y247.toInt ≤ t2_1.toInt + 1000025 from (by have t1 : -1000000 ≤ t2_1.toInt ∧ t2_1.toInt ≤ 1000000 := btt2_1; have t2 : lx65.toInt ≤ 1 := i83; have t3 : y93.toInt ≤ lx65.toInt := b97; have t4 : y247.toInt ≤ y93.toInt + 24 := b251; omega)), (show t4_1.toInt ≤ t2_1.toInt + 1000001 from (by have t1 : -1000000 ≤ t2_1.toInt ∧ t2_1.toInt ≤ 1000000 := btt2_1; have t2 : 0 ≤ t4_1.toInt ∧ t4_1.toInt ≤ 1 := btt4_1; omega)), (show t6_1.toInt ≤ t2_1.toInt + 1000001 from (by have t1 : -1000000 ≤ t2_1.toInt ∧ t2_1.toInt ≤ 1000000 := btt2_1; have t2 : 0 ≤ t6_1.toInt ∧ t6_1.toInt ≤ 1 := btt6_1; omega)), (show t6_1.toInt ≤ t4_1.toInt + 1 from (by have t1 : 0 ≤ t4_1.toInt ∧ t4_1.toInt ≤ 1 := btt4_1; have t2 : 0 ≤ t6_1.toInt ∧ t6_1.toInt ≤ 1 := btt6_1; omega)), (show (y247, f248, t2_0, t2_1, t3_0, t4_0, t4_1, t5_0, t6_0, t6_1, t7_0, t8_0, t8_1, t9_0, t10_0, t10_1, t11_0, t12_0, t12_1, t13_0, t14_0, t14_1, t14_2) = (F_Wri_floatText A B C x3 x4 t0_0 t1_0 t2_0 t2_1 t3_0 t4_0 t4_1 t5_0 t6_0 t6_1 t7_0 t8_0 t8_1 t9_0 t10_0 t10_1 t11_0 t12_0 t12_1 t13_0 t14_0 t14_1 t14_2) from Eq.trans (by rw [e258, e257, F_Wri_floatText_c103.eq_1]) hR259)⟩) d_12_6_115
        ·
          refine lv_aload_n hx hb d_12_6_73 rfl (lv_at hl 0 rfl) ?_
          refine q_get (ci := 9) (j := 0) (v := .ref (q 3)) C0 V i_Wri rfl rfl hO89 (by decide) w_329 rfl d_12_6_74 ?_
          refine lv_iload hx hb d_12_6_77 (lv_at hl 3 rfl) ?_
          refine lv_if_eq (tgt := 87) hx hb d_12_6_79 (by decide) (fun c265 => ?_) (fun c265 => ?_)
          ·
            refine q_ldcs (i := 26) C0 V rfl rfl d_12_6_87 ?_
            refine q_gov V (q_runV (As := [.ref (g (8 + 2 * 26))]) (rest := []) (d := 5) (mc := 0) (ms := 0) (ci := 1) C0 V rfl LV_Wri_129 (X_She_addText_26 l D g q u90 3 11008 1376 1000000 (n_h3 g q)  hI y93 hO92 f94 hA95 (by have y0 : (11008 : Int32).toInt = 11008 := rfl; have y1 : (1376 : Int32).toInt = 1376 := rfl; have y2 : (1000000 : Int32).toInt = 1000000 := rfl; have t1 : lx65.toInt ≤ 1 := i83; have t2 : y93.toInt ≤ lx65.toInt := b97; omega) _) rfl rfl hO92 rfl hl.1 rfl (Nat.le_of_ble_eq_true rfl) ⟨by decide, by decide⟩ ⟨Nat.le_of_ble_eq_true rfl, Nat.le_of_ble_eq_true rfl⟩ d_12_6_89) (fun u267 H locs hp268 V => ?_)
            obtain ⟨hI, hZ9⟩ := hp268
            obtain ⟨hu276, hZ9⟩ := hZ9
            obtain ⟨y270, hZ9⟩ := hZ9
            obtain ⟨f271, hZ9⟩ := hZ9
            obtain ⟨hO269, hZ9⟩ := hZ9
            obtain ⟨hA272, hZ9⟩ := hZ9
            obtain ⟨b273, hZ9⟩ := hZ9
            obtain ⟨b274, hE275⟩ := hZ9
            replace hO269 : u267[3]? = (some (q 3, .inr (1, [.ref (q 4), .int 11008, .int y270])) : Option (Nat × va_E)) := hO269
            replace hA272 : u267[4]? = (some (q 4, .inl (g 1, (1376 : Int32).toNatClampNeg, .inr (.inl f271))) : Option (Nat × va_E)) := hA272
            obtain ⟨p277, e278⟩ : ∃ z, z = (F_She_addText_26 (11008 : Int32) (1376 : Int32) (1000000 : Int32) y93 f94) := ⟨_, rfl⟩
            have e279 : y270 = p277.1 := congrArg (fun z => z.1) (hE275.trans e278.symm)
            have e280 : f271 = p277.2 := congrArg (fun z => z.2) (hE275.trans e278.symm)
            replace b273 : q_F (y93.toInt + 3 ≤ y270.toInt) := b273
            replace b274 : q_F (y270.toInt ≤ y93.toInt + 3) := b274
            replace hT2 := (hu276 _ (by decide)).trans hT2
            replace hT3 := (hu276 _ (by decide)).trans hT3
            replace hT4 := (hu276 _ (by decide)).trans hT4
            replace hT5 := (hu276 _ (by decide)).trans hT5
            replace hT6 := (hu276 _ (by decide)).trans hT6
            replace hT7 := (hu276 _ (by decide)).trans hT7
            replace hT8 := (hu276 _ (by decide)).trans hT8
            replace hT9 := (hu276 _ (by decide)).trans hT9
            replace hT10 := (hu276 _ (by decide)).trans hT10
            replace hT11 := (hu276 _ (by decide)).trans hT11
            replace hT12 := (hu276 _ (by decide)).trans hT12
            replace hT13 := (hu276 _ (by decide)).trans hT13
            replace hT14 := (hu276 _ (by have z0 := hB2.2.2.2.2; simp only [List.mem_cons, List.not_mem_nil, or_false, not_or]; omega)).trans hT14
            replace hF := q_uc hF hu276 (by first | exact (q_sk (q_mi 0 rfl) (q_sk (q_mi 1 rfl) q_s0)) | simp)
            have hR281 := (show F_Wri_floatText_c89 A B C x3 x4 t0_0 t1_0 t2_0 t2_1 t3_0 t4_0 t4_1 t5_0 t6_0 t6_1 t7_0 t8_0 t8_1 t9_0 t10_0 t10_1 t11_0 t12_0 t12_1 t13_0 t14_0 t14_1 t14_2 lx65 p100 p277 = (F_Wri_floatText A B C x3 x4 t0_0 t1_0 t2_0 t2_1 t3_0 t4_0 t4_1 t5_0 t6_0 t6_1 t7_0 t8_0 t8_1 t9_0 t10_0 t10_1 t11_0 t12_0 t12_1 t13_0 t14_0 t14_1 t14_2) from Eq.trans (by have c116x := c116; rw [e115] at c116x; have c125x := c125; rw [e124] at c125x; have c134x := c134; rw [e133] at c134x; rw [e278, e103, e102, F_Wri_floatText_c22.eq_1, if_pos c116x, if_neg c125x, if_neg c134x, if_pos c265]) hR104)
            have hS282 := (show True ∧ S_Wri_floatText_c89 A B C x3 x4 t0_0 t1_0 t2_0 t2_1 t3_0 t4_0 t4_1 t5_0 t6_0 t6_1 t7_0 t8_0 t8_1 t9_0 t10_0 t10_1 t11_0 t12_0 t12_1 t13_0 t14_0 t14_1 t14_2 lx65 p100 p277 from (by rw [e278, e103, e102]; have h := hS105; rw [S_Wri_floatText_c22.eq_1] at h; have c116x := c116; rw [e115] at c116x; rw [if_pos c116x] at h; have c125x := c125; rw [e124] at c125x; rw [if_neg c125x] at h; have c134x := c134; rw [e133] at c134x; rw [if_neg c134x] at h; rw [if_pos c265] at h; with_reducible exact h))
            refine lv_goto (tgt := 115) hx hb d_12_6_92 (by decide) ?_
            exact q_retv C0 V (⟨hI, hF, y270, f271, t2_0, t2_1, t3_0, t4_0, t4_1, t5_0, t6_0, t6_1, t7_0, t8_0, t8_1, t9_0, t10_0, t10_1, t11_0, t12_0, t12_1, t13_0, t14_0, t14_1, t14_2, hO269, hA272, hT2, hT3, hT4, hT5, hT6, hT7, hT8, hT9, hT10, hT11, hT12, hT13, hT14, (show 2 ≤ y270.toInt from (by have t1 : 0 ≤ lx65.toInt := i82; have t2 : lx65.toInt ≤ y93.toInt := b96; have t3 : y93.toInt + 3 ≤ y270.toInt := b273; omega)), (show y270.toInt ≤ 420004 from (by have t1 : lx65.toInt ≤ 1 := i83; have t2 : y93.toInt ≤ lx65.toInt := b97; have t3 : y270.toInt ≤ y93.toInt + 3 := b274; omega)), (show 0 ≤ t2_0.toInt from (by first | with_reducible exact (q_fe btt2_0).2 | with_reducible exact (q_fe btt2_0).1 | (have t1 : 0 ≤ t2_0.toInt ∧ t2_0.toInt ≤ 1026 := btt2_0; omega))), (show t2_0.toInt ≤ 1026 from (by first | with_reducible exact (q_fe btt2_0).2 | with_reducible exact (q_fe btt2_0).1 | (have t1 : 0 ≤ t2_0.toInt ∧ t2_0.toInt ≤ 1026 := btt2_0; omega))), (show 0 ≤ t2_1.toInt + 1000000 from (by first | with_reducible exact (q_fe btt2_1).2 | with_reducible exact (q_fe btt2_1).1 | (have t1 : -1000000 ≤ t2_1.toInt ∧ t2_1.toInt ≤ 1000000 := btt2_1; omega))), (show t2_1.toInt ≤ 1000000 from (by first | with_reducible exact (q_fe btt2_1).2 | with_reducible exact (q_fe btt2_1).1 | (have t1 : -1000000 ≤ t2_1.toInt ∧ t2_1.toInt ≤ 1000000 := btt2_1; omega))), (show 0 ≤ t4_0.toInt from (by first | with_reducible exact (q_fe btt4_0).2 | with_reducible exact (q_fe btt4_0).1 | (have t1 : 0 ≤ t4_0.toInt ∧ t4_0.toInt ≤ 220 := btt4_0; omega))), (show t4_0.toInt ≤ 220 from (by first | with_reducible exact (q_fe btt4_0).2 | with_reducible exact (q_fe btt4_0).1 | (have t1 : 0 ≤ t4_0.toInt ∧ t4_0.toInt ≤ 220 := btt4_0; omega))), (show 0 ≤ t4_1.toInt from (by first | with_reducible exact (q_fe btt4_1).2 | with_reducible exact (q_fe btt4_1).1 | (have t1 : 0 ≤ t4_1.toInt ∧ t4_1.toInt ≤ 1 := btt4_1; omega))), (show t4_1.toInt ≤ 21 from (by first | with_reducible exact (q_fe btt4_1).2 | with_reducible exact (q_fe btt4_1).1 | (have t1 : 0 ≤ t4_1.toInt ∧ t4_1.toInt ≤ 1 := btt4_1; omega))), (show 0 ≤ t6_0.toInt from (by first | with_reducible exact (q_fe btt6_0).2 | with_reducible exact (q_fe btt6_0).1 | (have t1 : 0 ≤ t6_0.toInt ∧ t6_0.toInt ≤ 220 := btt6_0; omega))), (show t6_0.toInt ≤ 220 from (by first | with_reducible exact (q_fe btt6_0).2 | with_reducible exact (q_fe btt6_0).1 | (have t1 : 0 ≤ t6_0.toInt ∧ t6_0.toInt ≤ 220 := btt6_0; omega))), (show 0 ≤ t6_1.toInt from (by first | with_reducible exact (q_fe btt6_1).2 | with_reducible exact (q_fe btt6_1).1 | (have t1 : 0 ≤ t6_1.toInt ∧ t6_1.toInt ≤ 1 := btt6_1; omega))), (show t6_1.toInt ≤ 2 from (by first | with_reducible exact (q_fe btt6_1).2 | with_reducible exact (q_fe btt6_1).1 | (have t1 : 0 ≤ t6_1.toInt ∧ t6_1.toInt ≤ 1 := btt6_1; omega))), (show 0 ≤ t8_0.toInt from (by first | with_reducible exact (q_fe btt8_0).2 | with_reducible exact (q_fe btt8_0).1 | (have t1 : 0 ≤ t8_0.toInt ∧ t8_0.toInt ≤ 220 := btt8_0; omega))), (show t8_0.toInt ≤ 220 from (by first | with_reducible exact (q_fe btt8_0).2 | with_reducible exact (q_fe btt8_0).1 | (have t1 : 0 ≤ t8_0.toInt ∧ t8_0.toInt ≤ 220 := btt8_0; omega))), (show 0 ≤ t8_1.toInt from (by first | with_reducible exact (q_fe btt8_1).2 | with_reducible exact (q_fe btt8_1).1 | (have t1 : 0 ≤ t8_1.toInt ∧ t8_1.toInt ≤ 1 := btt8_1; omega))), (show t8_1.toInt ≤ 1 from (by first | with_reducible exact (q_fe btt8_1).2 | with_reducible exact (q_fe btt8_1).1 | (have t1 : 0 ≤ t8_1.toInt ∧ t8_1.toInt ≤ 1 := btt8_1; omega))), (show 0 ≤ t10_0.toInt from (by first | with_reducible exact (q_fe btt10_0).2 | with_reducible exact (q_fe btt10_0).1 | (have t1 : 0 ≤ t10_0.toInt ∧ t10_0.toInt ≤ 220 := btt10_0; omega))), (show t10_0.toInt ≤ 220 from (by first | with_reducible exact (q_fe btt10_0).2 | with_reducible exact (q_fe btt10_0).1 | (have t1 : 0 ≤ t10_0.toInt ∧ t10_0.toInt ≤ 220 := btt10_0; omega))), (show 0 ≤ t10_1.toInt from (by first | with_reducible exact (q_fe btt10_1).2 | with_reducible exact (q_fe btt10_1).1 | (have t1 : 0 ≤ t10_1.toInt ∧ t10_1.toInt ≤ 1 := btt10_1; omega))), (show t10_1.toInt ≤ 1 from (by first | with_reducible exact (q_fe btt10_1).2 | with_reducible exact (q_fe btt10_1).1 | (have t1 : 0 ≤ t10_1.toInt ∧ t10_1.toInt ≤ 1 := btt10_1; omega))), (show 0 ≤ t12_0.toInt from (by first | with_reducible exact (q_fe btt12_0).2 | with_reducible exact (q_fe btt12_0).1 | (have t1 : 0 ≤ t12_0.toInt ∧ t12_0.toInt ≤ 220 := btt12_0; omega))), (show t12_0.toInt ≤ 220 from (by first | with_reducible exact (q_fe btt12_0).2 | with_reducible exact (q_fe btt12_0).1 | (have t1 : 0 ≤ t12_0.toInt ∧ t12_0.toInt ≤ 220 := btt12_0; omega))), (show 0 ≤ t12_1.toInt from (by first | with_reducible exact (q_fe btt12_1).2 | with_reducible exact (q_fe btt12_1).1 | (have t1 : 0 ≤ t12_1.toInt ∧ t12_1.toInt ≤ 1 := btt12_1; omega))), (show x4.toInt + 2 ≤ y270.toInt from (by have t1 : 0 ≤ x4.toInt ∧ x4.toInt ≤ 1 := hzx4; have t2 : 0 ≤ lx65.toInt := i82; have t3 : lx65.toInt ≤ y93.toInt := b96; have t4 : y93.toInt + 3 ≤ y270.toInt := b273; omega)), (show t2_0.toInt ≤ t2_0.toInt + 20 from (by omega)), (show t2_1.toInt ≤ t2_1.toInt + 1020000 from (by omega)), (show t2_1.toInt ≤ t2_1.toInt + 1020019 from (by omega)), (show t4_1.toInt ≤ t4_1.toInt + 20 from (by omega)), (show t6_1.toInt ≤ t4_1.toInt + 1 from (by have t1 : 0 ≤ t4_1.toInt ∧ t4_1.toInt ≤ 1 := btt4_1; have t2 : 0 ≤ t6_1.toInt ∧ t6_1.toInt ≤ 1 := btt6_1; omega)), (show t2_0.toInt ≤ y270.toInt + 1023 from (by have t1 : 0 ≤ t2_0.toInt ∧ t2_0.toInt ≤ 1026 := btt2_0; have t2 : 0 ≤ lx65.toInt := i82; have t3 : lx65.toInt ≤ y93.toInt := b96; have t4 : y93.toInt + 3 ≤ y270.toInt := b273; omega)), (show t2_1.toInt ≤ y270.toInt + 999997 from (by have t1 : -1000000 ≤ t2_1.toInt ∧ t2_1.toInt ≤ 1000000 := btt2_1; have t2 : 0 ≤ lx65.toInt := i82; have t3 : lx65.toInt ≤ y93.toInt := b96; have t4 : y93.toInt + 3 ≤ y270.toInt := b273; omega)), (show y270.toInt ≤ t2_1.toInt + 1000025 from (by have t1 : -1000000 ≤ t2_1.toInt ∧ t2_1.toInt ≤ 1000000 := btt2_1; have t2 : lx65.toInt ≤ 1 := i83; have t3 : y93.toInt ≤ lx65.toInt := b97; have t4 : y270.toInt ≤ y93.toInt + 3 := b274; omega)), (show t4_1.toInt ≤ t2_1.toInt + 1000001 from (by have t1 : -1000000 ≤ t2_1.toInt ∧ t2_1.toInt ≤ 1000000 := btt2_1; have t2 : 0 ≤ t4_1.toInt ∧ t4_1.toInt ≤ 1 := btt4_1; omega)), (show t6_1.toInt ≤ t2_1.toInt + 1000001 from (by have t1 : -1000000 ≤ t2_1.toInt ∧ t2_1.toInt ≤ 1000000 := btt2_1; have t2 : 0 ≤ t6_1.toInt ∧ t6_1.toInt ≤ 1 := btt6_1; omega)), (show t6_1.toInt ≤ t4_1.toInt + 1 from (by have t1 : 0 ≤ t4_1.toInt ∧ t4_1.toInt ≤ 1 := btt4_1; have t2 : 0 ≤ t6_1.toInt ∧ t6_1.toInt ≤ 1 := btt6_1; omega)), (show (y270, f271, t2_0, t2_1, t3_0, t4_0, t4_1, t5_0, t6_0, t6_1, t7_0, t8_0, t8_1, t9_0, t10_0, t10_1, t11_0, t12_0, t12_1, t13_0, t14_0, t14_1, t14_2) = (F_Wri_floatText A B C x3 x4 t0_0 t1_0 t2_0 t2_1 t3_0 t4_0 t4_1 t5_0 t6_0 t6_1 t7_0 t8_0 t8_1 t9_0 t10_0 t10_1 t11_0 t12_0 t12_1 t13_0 t14_0 t14_1 t14_2) from Eq.trans (by rw [e280, e279, F_Wri_floatText_c89.eq_1]) hR281)⟩) d_12_6_115
          ·
            refine q_ldcs (i := 25) C0 V rfl rfl d_12_6_82 ?_
            refine lv_goto (tgt := 89) hx hb d_12_6_84 (by decide) ?_
            refine q_gov V (q_runV (As := [.ref (g (8 + 2 * 25))]) (rest := []) (d := 5) (mc := 0) (ms := 0) (ci := 1) C0 V rfl LV_Wri_129 (X_She_addText_25 l D g q u90 3 11008 1376 1000000 (n_h3 g q)  hI y93 hO92 f94 hA95 (by have y0 : (11008 : Int32).toInt = 11008 := rfl; have y1 : (1376 : Int32).toInt = 1376 := rfl; have y2 : (1000000 : Int32).toInt = 1000000 := rfl; have t1 : lx65.toInt ≤ 1 := i83; have t2 : y93.toInt ≤ lx65.toInt := b97; omega) _) rfl rfl hO92 rfl hl.1 rfl (Nat.le_of_ble_eq_true rfl) ⟨by decide, by decide⟩ ⟨Nat.le_of_ble_eq_true rfl, Nat.le_of_ble_eq_true rfl⟩ d_12_6_89) (fun u287 H locs hp288 V => ?_)
            obtain ⟨hI, hZ9⟩ := hp288
            obtain ⟨hu296, hZ9⟩ := hZ9
            obtain ⟨y290, hZ9⟩ := hZ9
            obtain ⟨f291, hZ9⟩ := hZ9
            obtain ⟨hO289, hZ9⟩ := hZ9
            obtain ⟨hA292, hZ9⟩ := hZ9
            obtain ⟨b293, hZ9⟩ := hZ9
            obtain ⟨b294, hE295⟩ := hZ9
            replace hO289 : u287[3]? = (some (q 3, .inr (1, [.ref (q 4), .int 11008, .int y290])) : Option (Nat × va_E)) := hO289
            replace hA292 : u287[4]? = (some (q 4, .inl (g 1, (1376 : Int32).toNatClampNeg, .inr (.inl f291))) : Option (Nat × va_E)) := hA292
            obtain ⟨p297, e298⟩ : ∃ z, z = (F_She_addText_25 (11008 : Int32) (1376 : Int32) (1000000 : Int32) y93 f94) := ⟨_, rfl⟩
            have e299 : y290 = p297.1 := congrArg (fun z => z.1) (hE295.trans e298.symm)
            have e300 : f291 = p297.2 := congrArg (fun z => z.2) (hE295.trans e298.symm)
            replace b293 : q_F (y93.toInt + 7 ≤ y290.toInt) := b293
            replace b294 : q_F (y290.toInt ≤ y93.toInt + 7) := b294
            replace hT2 := (hu296 _ (by decide)).trans hT2
            replace hT3 := (hu296 _ (by decide)).trans hT3
            replace hT4 := (hu296 _ (by decide)).trans hT4
            replace hT5 := (hu296 _ (by decide)).trans hT5
            replace hT6 := (hu296 _ (by decide)).trans hT6
            replace hT7 := (hu296 _ (by decide)).trans hT7
            replace hT8 := (hu296 _ (by decide)).trans hT8
            replace hT9 := (hu296 _ (by decide)).trans hT9
            replace hT10 := (hu296 _ (by decide)).trans hT10
            replace hT11 := (hu296 _ (by decide)).trans hT11
            replace hT12 := (hu296 _ (by decide)).trans hT12
            replace hT13 := (hu296 _ (by decide)).trans hT13
            replace hT14 := (hu296 _ (by have z0 := hB2.2.2.2.2; simp only [List.mem_cons, List.not_mem_nil, or_false, not_or]; omega)).trans hT14
            replace hF := q_uc hF hu296 (by first | exact (q_sk (q_mi 0 rfl) (q_sk (q_mi 1 rfl) q_s0)) | simp)
            have hR301 := (show F_Wri_floatText_c89_6 A B C x3 x4 t0_0 t1_0 t2_0 t2_1 t3_0 t4_0 t4_1 t5_0 t6_0 t6_1 t7_0 t8_0 t8_1 t9_0 t10_0 t10_1 t11_0 t12_0 t12_1 t13_0 t14_0 t14_1 t14_2 lx65 p100 p297 = (F_Wri_floatText A B C x3 x4 t0_0 t1_0 t2_0 t2_1 t3_0 t4_0 t4_1 t5_0 t6_0 t6_1 t7_0 t8_0 t8_1 t9_0 t10_0 t10_1 t11_0 t12_0 t12_1 t13_0 t14_0 t14_1 t14_2) from Eq.trans (by have c116x := c116; rw [e115] at c116x; have c125x := c125; rw [e124] at c125x; have c134x := c134; rw [e133] at c134x; rw [e298, e103, e102, F_Wri_floatText_c22.eq_1, if_pos c116x, if_neg c125x, if_neg c134x, if_neg c265]) hR104)
            have hS302 := (show True ∧ S_Wri_floatText_c89_6 A B C x3 x4 t0_0 t1_0 t2_0 t2_1 t3_0 t4_0 t4_1 t5_0 t6_0 t6_1 t7_0 t8_0 t8_1 t9_0 t10_0 t10_1 t11_0 t12_0 t12_1 t13_0 t14_0 t14_1 t14_2 lx65 p100 p297 from (by rw [e298, e103, e102]; have h := hS105; rw [S_Wri_floatText_c22.eq_1] at h; have c116x := c116; rw [e115] at c116x; rw [if_pos c116x] at h; have c125x := c125; rw [e124] at c125x; rw [if_neg c125x] at h; have c134x := c134; rw [e133] at c134x; rw [if_neg c134x] at h; rw [if_neg c265] at h; with_reducible exact h))
            refine lv_goto (tgt := 115) hx hb d_12_6_92 (by decide) ?_
            exact q_retv C0 V (⟨hI, hF, y290, f291, t2_0, t2_1, t3_0, t4_0, t4_1, t5_0, t6_0, t6_1, t7_0, t8_0, t8_1, t9_0, t10_0, t10_1, t11_0, t12_0, t12_1, t13_0, t14_0, t14_1, t14_2, hO289, hA292, hT2, hT3, hT4, hT5, hT6, hT7, hT8, hT9, hT10, hT11, hT12, hT13, hT14, (show 2 ≤ y290.toInt from (by have t1 : 0 ≤ lx65.toInt := i82; have t2 : lx65.toInt ≤ y93.toInt := b96; have t3 : y93.toInt + 7 ≤ y290.toInt := b293; omega)), (show y290.toInt ≤ 420004 from (by have t1 : lx65.toInt ≤ 1 := i83; have t2 : y93.toInt ≤ lx65.toInt := b97; have t3 : y290.toInt ≤ y93.toInt + 7 := b294; omega)), (show 0 ≤ t2_0.toInt from (by first | with_reducible exact (q_fe btt2_0).2 | with_reducible exact (q_fe btt2_0).1 | (have t1 : 0 ≤ t2_0.toInt ∧ t2_0.toInt ≤ 1026 := btt2_0; omega))), (show t2_0.toInt ≤ 1026 from (by first | with_reducible exact (q_fe btt2_0).2 | with_reducible exact (q_fe btt2_0).1 | (have t1 : 0 ≤ t2_0.toInt ∧ t2_0.toInt ≤ 1026 := btt2_0; omega))), (show 0 ≤ t2_1.toInt + 1000000 from (by first | with_reducible exact (q_fe btt2_1).2 | with_reducible exact (q_fe btt2_1).1 | (have t1 : -1000000 ≤ t2_1.toInt ∧ t2_1.toInt ≤ 1000000 := btt2_1; omega))), (show t2_1.toInt ≤ 1000000 from (by first | with_reducible exact (q_fe btt2_1).2 | with_reducible exact (q_fe btt2_1).1 | (have t1 : -1000000 ≤ t2_1.toInt ∧ t2_1.toInt ≤ 1000000 := btt2_1; omega))), (show 0 ≤ t4_0.toInt from (by first | with_reducible exact (q_fe btt4_0).2 | with_reducible exact (q_fe btt4_0).1 | (have t1 : 0 ≤ t4_0.toInt ∧ t4_0.toInt ≤ 220 := btt4_0; omega))), (show t4_0.toInt ≤ 220 from (by first | with_reducible exact (q_fe btt4_0).2 | with_reducible exact (q_fe btt4_0).1 | (have t1 : 0 ≤ t4_0.toInt ∧ t4_0.toInt ≤ 220 := btt4_0; omega))), (show 0 ≤ t4_1.toInt from (by first | with_reducible exact (q_fe btt4_1).2 | with_reducible exact (q_fe btt4_1).1 | (have t1 : 0 ≤ t4_1.toInt ∧ t4_1.toInt ≤ 1 := btt4_1; omega))), (show t4_1.toInt ≤ 21 from (by first | with_reducible exact (q_fe btt4_1).2 | with_reducible exact (q_fe btt4_1).1 | (have t1 : 0 ≤ t4_1.toInt ∧ t4_1.toInt ≤ 1 := btt4_1; omega))), (show 0 ≤ t6_0.toInt from (by first | with_reducible exact (q_fe btt6_0).2 | with_reducible exact (q_fe btt6_0).1 | (have t1 : 0 ≤ t6_0.toInt ∧ t6_0.toInt ≤ 220 := btt6_0; omega))), (show t6_0.toInt ≤ 220 from (by first | with_reducible exact (q_fe btt6_0).2 | with_reducible exact (q_fe btt6_0).1 | (have t1 : 0 ≤ t6_0.toInt ∧ t6_0.toInt ≤ 220 := btt6_0; omega))), (show 0 ≤ t6_1.toInt from (by first | with_reducible exact (q_fe btt6_1).2 | with_reducible exact (q_fe btt6_1).1 | (have t1 : 0 ≤ t6_1.toInt ∧ t6_1.toInt ≤ 1 := btt6_1; omega))), (show t6_1.toInt ≤ 2 from (by first | with_reducible exact (q_fe btt6_1).2 | with_reducible exact (q_fe btt6_1).1 | (have t1 : 0 ≤ t6_1.toInt ∧ t6_1.toInt ≤ 1 := btt6_1; omega))), (show 0 ≤ t8_0.toInt from (by first | with_reducible exact (q_fe btt8_0).2 | with_reducible exact (q_fe btt8_0).1 | (have t1 : 0 ≤ t8_0.toInt ∧ t8_0.toInt ≤ 220 := btt8_0; omega))), (show t8_0.toInt ≤ 220 from (by first | with_reducible exact (q_fe btt8_0).2 | with_reducible exact (q_fe btt8_0).1 | (have t1 : 0 ≤ t8_0.toInt ∧ t8_0.toInt ≤ 220 := btt8_0; omega))), (show 0 ≤ t8_1.toInt from (by first | with_reducible exact (q_fe btt8_1).2 | with_reducible exact (q_fe btt8_1).1 | (have t1 : 0 ≤ t8_1.toInt ∧ t8_1.toInt ≤ 1 := btt8_1; omega))), (show t8_1.toInt ≤ 1 from (by first | with_reducible exact (q_fe btt8_1).2 | with_reducible exact (q_fe btt8_1).1 | (have t1 : 0 ≤ t8_1.toInt ∧ t8_1.toInt ≤ 1 := btt8_1; omega))), (show 0 ≤ t10_0.toInt from (by first | with_reducible exact (q_fe btt10_0).2 | with_reducible exact (q_fe btt10_0).1 | (have t1 : 0 ≤ t10_0.toInt ∧ t10_0.toInt ≤ 220 := btt10_0; omega))), (show t10_0.toInt ≤ 220 from (by first | with_reducible exact (q_fe btt10_0).2 | with_reducible exact (q_fe btt10_0).1 | (have t1 : 0 ≤ t10_0.toInt ∧ t10_0.toInt ≤ 220 := btt10_0; omega))), (show 0 ≤ t10_1.toInt from (by first | with_reducible exact (q_fe btt10_1).2 | with_reducible exact (q_fe btt10_1).1 | (have t1 : 0 ≤ t10_1.toInt ∧ t10_1.toInt ≤ 1 := btt10_1; omega))), (show t10_1.toInt ≤ 1 from (by first | with_reducible exact (q_fe btt10_1).2 | with_reducible exact (q_fe btt10_1).1 | (have t1 : 0 ≤ t10_1.toInt ∧ t10_1.toInt ≤ 1 := btt10_1; omega))), (show 0 ≤ t12_0.toInt from (by first | with_reducible exact (q_fe btt12_0).2 | with_reducible exact (q_fe btt12_0).1 | (have t1 : 0 ≤ t12_0.toInt ∧ t12_0.toInt ≤ 220 := btt12_0; omega))), (show t12_0.toInt ≤ 220 from (by first | with_reducible exact (q_fe btt12_0).2 | with_reducible exact (q_fe btt12_0).1 | (have t1 : 0 ≤ t12_0.toInt ∧ t12_0.toInt ≤ 220 := btt12_0; omega))), (show 0 ≤ t12_1.toInt from (by first | with_reducible exact (q_fe btt12_1).2 | with_reducible exact (q_fe btt12_1).1 | (have t1 : 0 ≤ t12_1.toInt ∧ t12_1.toInt ≤ 1 := btt12_1; omega))), (show x4.toInt + 2 ≤ y290.toInt from (by have t1 : 0 ≤ x4.toInt ∧ x4.toInt ≤ 1 := hzx4; have t2 : 0 ≤ lx65.toInt := i82; have t3 : lx65.toInt ≤ y93.toInt := b96; have t4 : y93.toInt + 7 ≤ y290.toInt := b293; omega)), (show t2_0.toInt ≤ t2_0.toInt + 20 from (by omega)), (show t2_1.toInt ≤ t2_1.toInt + 1020000 from (by omega)), (show t2_1.toInt ≤ t2_1.toInt + 1020019 from (by omega)), (show t4_1.toInt ≤ t4_1.toInt + 20 from (by omega)), (show t6_1.toInt ≤ t4_1.toInt + 1 from (by have t1 : 0 ≤ t4_1.toInt ∧ t4_1.toInt ≤ 1 := btt4_1; have t2 : 0 ≤ t6_1.toInt ∧ t6_1.toInt ≤ 1 := btt6_1; omega)), (show t2_0.toInt ≤ y290.toInt + 1023 from (by have t1 : 0 ≤ t2_0.toInt ∧ t2_0.toInt ≤ 1026 := btt2_0; have t2 : 0 ≤ lx65.toInt := i82; have t3 : lx65.toInt ≤ y93.toInt := b96; have t4 : y93.toInt + 7 ≤ y290.toInt := b293; omega)), (show t2_1.toInt ≤ y290.toInt + 999997 from (by have t1 : -1000000 ≤ t2_1.toInt ∧ t2_1.toInt ≤ 1000000 := btt2_1; have t2 : 0 ≤ lx65.toInt := i82; have t3 : lx65.toInt ≤ y93.toInt := b96; have t4 : y93.toInt + 7 ≤ y290.toInt := b293; omega)), (show y290.toInt ≤ t2_1.toInt + 1000025 from (by have t1 : -1000000 ≤ t2_1.toInt ∧ t2_1.toInt ≤ 1000000 := btt2_1; have t2 : lx65.toInt ≤ 1 := i83; have t3 : y93.toInt ≤ lx65.toInt := b97; have t4 : y290.toInt ≤ y93.toInt + 7 := b294; omega)), (show t4_1.toInt ≤ t2_1.toInt + 1000001 from (by have t1 : -1000000 ≤ t2_1.toInt ∧ t2_1.toInt ≤ 1000000 := btt2_1; have t2 : 0 ≤ t4_1.toInt ∧ t4_1.toInt ≤ 1 := btt4_1; omega)), (show t6_1.toInt ≤ t2_1.toInt + 1000001 from (by have t1 : -1000000 ≤ t2_1.toInt ∧ t2_1.toInt ≤ 1000000 := btt2_1; have t2 : 0 ≤ t6_1.toInt ∧ t6_1.toInt ≤ 1 := btt6_1; omega)), (show t6_1.toInt ≤ t4_1.toInt + 1 from (by have t1 : 0 ≤ t4_1.toInt ∧ t4_1.toInt ≤ 1 := btt4_1; have t2 : 0 ≤ t6_1.toInt ∧ t6_1.toInt ≤ 1 := btt6_1; omega)), (show (y290, f291, t2_0, t2_1, t3_0, t4_0, t4_1, t5_0, t6_0, t6_1, t7_0, t8_0, t8_1, t9_0, t10_0, t10_1, t11_0, t12_0, t12_1, t13_0, t14_0, t14_1, t14_2) = (F_Wri_floatText A B C x3 x4 t0_0 t1_0 t2_0 t2_1 t3_0 t4_0 t4_1 t5_0 t6_0 t6_1 t7_0 t8_0 t8_1 t9_0 t10_0 t10_1 t11_0 t12_0 t12_1 t13_0 t14_0 t14_1 t14_2) from Eq.trans (by rw [e300, e299, F_Wri_floatText_c89_6.eq_1]) hR301)⟩) d_12_6_115
      ·
        refine lv_aload_n hx hb d_12_6_53 rfl (lv_at hl 0 rfl) ?_
        refine q_get (ci := 9) (j := 0) (v := .ref (q 3)) C0 V i_Wri rfl rfl hO89 (by decide) w_329 rfl d_12_6_54 ?_
        refine q_ldcs (i := 24) C0 V rfl rfl d_12_6_57 ?_
        refine q_gov V (q_runV (As := [.ref (g (8 + 2 * 24))]) (rest := []) (d := 5) (mc := 0) (ms := 0) (ci := 1) C0 V rfl LV_Wri_129 (X_She_addText_24 l D g q u90 3 11008 1376 1000000 (n_h3 g q)  hI y93 hO92 f94 hA95 (by have y0 : (11008 : Int32).toInt = 11008 := rfl; have y1 : (1376 : Int32).toInt = 1376 := rfl; have y2 : (1000000 : Int32).toInt = 1000000 := rfl; have t1 : lx65.toInt ≤ 1 := i83; have t2 : y93.toInt ≤ lx65.toInt := b97; omega) _) rfl rfl hO92 rfl hl.1 rfl (Nat.le_of_ble_eq_true rfl) ⟨by decide, by decide⟩ ⟨Nat.le_of_ble_eq_true rfl, Nat.le_of_ble_eq_true rfl⟩ d_12_6_59) (fun u307 H locs hp308 V => ?_)
        obtain ⟨hI, hZ9⟩ := hp308
        obtain ⟨hu316, hZ9⟩ := hZ9
        obtain ⟨y310, hZ9⟩ := hZ9
        obtain ⟨f311, hZ9⟩ := hZ9
        obtain ⟨hO309, hZ9⟩ := hZ9
        obtain ⟨hA312, hZ9⟩ := hZ9
        obtain ⟨b313, hZ9⟩ := hZ9
        obtain ⟨b314, hE315⟩ := hZ9
        replace hO309 : u307[3]? = (some (q 3, .inr (1, [.ref (q 4), .int 11008, .int y310])) : Option (Nat × va_E)) := hO309
        replace hA312 : u307[4]? = (some (q 4, .inl (g 1, (1376 : Int32).toNatClampNeg, .inr (.inl f311))) : Option (Nat × va_E)) := hA312
        obtain ⟨p317, e318⟩ : ∃ z, z = (F_She_addText_24 (11008 : Int32) (1376 : Int32) (1000000 : Int32) y93 f94) := ⟨_, rfl⟩
        have e319 : y310 = p317.1 := congrArg (fun z => z.1) (hE315.trans e318.symm)
        have e320 : f311 = p317.2 := congrArg (fun z => z.2) (hE315.trans e318.symm)
        replace b313 : q_F (y93.toInt + 8 ≤ y310.toInt) := b313
        replace b314 : q_F (y310.toInt ≤ y93.toInt + 8) := b314
        replace hT2 := (hu316 _ (by decide)).trans hT2
        replace hT3 := (hu316 _ (by decide)).trans hT3
        replace hT4 := (hu316 _ (by decide)).trans hT4
        replace hT5 := (hu316 _ (by decide)).trans hT5
        replace hT6 := (hu316 _ (by decide)).trans hT6
        replace hT7 := (hu316 _ (by decide)).trans hT7
        replace hT8 := (hu316 _ (by decide)).trans hT8
        replace hT9 := (hu316 _ (by decide)).trans hT9
        replace hT10 := (hu316 _ (by decide)).trans hT10
        replace hT11 := (hu316 _ (by decide)).trans hT11
        replace hT12 := (hu316 _ (by decide)).trans hT12
        replace hT13 := (hu316 _ (by decide)).trans hT13
        replace hT14 := (hu316 _ (by have z0 := hB2.2.2.2.2; simp only [List.mem_cons, List.not_mem_nil, or_false, not_or]; omega)).trans hT14
        replace hF := q_uc hF hu316 (by first | exact (q_sk (q_mi 0 rfl) (q_sk (q_mi 1 rfl) q_s0)) | simp)
        have hR321 := (show F_Wri_floatText_c59 A B C x3 x4 t0_0 t1_0 t2_0 t2_1 t3_0 t4_0 t4_1 t5_0 t6_0 t6_1 t7_0 t8_0 t8_1 t9_0 t10_0 t10_1 t11_0 t12_0 t12_1 t13_0 t14_0 t14_1 t14_2 lx65 p100 p317 = (F_Wri_floatText A B C x3 x4 t0_0 t1_0 t2_0 t2_1 t3_0 t4_0 t4_1 t5_0 t6_0 t6_1 t7_0 t8_0 t8_1 t9_0 t10_0 t10_1 t11_0 t12_0 t12_1 t13_0 t14_0 t14_1 t14_2) from Eq.trans (by have c116x := c116; rw [e115] at c116x; have c125x := c125; rw [e124] at c125x; rw [e318, e103, e102, F_Wri_floatText_c22.eq_1, if_pos c116x, if_pos c125x]) hR104)
        have hS322 := (show True ∧ S_Wri_floatText_c59 A B C x3 x4 t0_0 t1_0 t2_0 t2_1 t3_0 t4_0 t4_1 t5_0 t6_0 t6_1 t7_0 t8_0 t8_1 t9_0 t10_0 t10_1 t11_0 t12_0 t12_1 t13_0 t14_0 t14_1 t14_2 lx65 p100 p317 from (by rw [e318, e103, e102]; have h := hS105; rw [S_Wri_floatText_c22.eq_1] at h; have c116x := c116; rw [e115] at c116x; rw [if_pos c116x] at h; have c125x := c125; rw [e124] at c125x; rw [if_pos c125x] at h; with_reducible exact h))
        refine lv_goto (tgt := 115) hx hb d_12_6_62 (by decide) ?_
        exact q_retv C0 V (⟨hI, hF, y310, f311, t2_0, t2_1, t3_0, t4_0, t4_1, t5_0, t6_0, t6_1, t7_0, t8_0, t8_1, t9_0, t10_0, t10_1, t11_0, t12_0, t12_1, t13_0, t14_0, t14_1, t14_2, hO309, hA312, hT2, hT3, hT4, hT5, hT6, hT7, hT8, hT9, hT10, hT11, hT12, hT13, hT14, (show 2 ≤ y310.toInt from (by have t1 : 0 ≤ lx65.toInt := i82; have t2 : lx65.toInt ≤ y93.toInt := b96; have t3 : y93.toInt + 8 ≤ y310.toInt := b313; omega)), (show y310.toInt ≤ 420004 from (by have t1 : lx65.toInt ≤ 1 := i83; have t2 : y93.toInt ≤ lx65.toInt := b97; have t3 : y310.toInt ≤ y93.toInt + 8 := b314; omega)), (show 0 ≤ t2_0.toInt from (by first | with_reducible exact (q_fe btt2_0).2 | with_reducible exact (q_fe btt2_0).1 | (have t1 : 0 ≤ t2_0.toInt ∧ t2_0.toInt ≤ 1026 := btt2_0; omega))), (show t2_0.toInt ≤ 1026 from (by first | with_reducible exact (q_fe btt2_0).2 | with_reducible exact (q_fe btt2_0).1 | (have t1 : 0 ≤ t2_0.toInt ∧ t2_0.toInt ≤ 1026 := btt2_0; omega))), (show 0 ≤ t2_1.toInt + 1000000 from (by first | with_reducible exact (q_fe btt2_1).2 | with_reducible exact (q_fe btt2_1).1 | (have t1 : -1000000 ≤ t2_1.toInt ∧ t2_1.toInt ≤ 1000000 := btt2_1; omega))), (show t2_1.toInt ≤ 1000000 from (by first | with_reducible exact (q_fe btt2_1).2 | with_reducible exact (q_fe btt2_1).1 | (have t1 : -1000000 ≤ t2_1.toInt ∧ t2_1.toInt ≤ 1000000 := btt2_1; omega))), (show 0 ≤ t4_0.toInt from (by first | with_reducible exact (q_fe btt4_0).2 | with_reducible exact (q_fe btt4_0).1 | (have t1 : 0 ≤ t4_0.toInt ∧ t4_0.toInt ≤ 220 := btt4_0; omega))), (show t4_0.toInt ≤ 220 from (by first | with_reducible exact (q_fe btt4_0).2 | with_reducible exact (q_fe btt4_0).1 | (have t1 : 0 ≤ t4_0.toInt ∧ t4_0.toInt ≤ 220 := btt4_0; omega))), (show 0 ≤ t4_1.toInt from (by first | with_reducible exact (q_fe btt4_1).2 | with_reducible exact (q_fe btt4_1).1 | (have t1 : 0 ≤ t4_1.toInt ∧ t4_1.toInt ≤ 1 := btt4_1; omega))), (show t4_1.toInt ≤ 21 from (by first | with_reducible exact (q_fe btt4_1).2 | with_reducible exact (q_fe btt4_1).1 | (have t1 : 0 ≤ t4_1.toInt ∧ t4_1.toInt ≤ 1 := btt4_1; omega))), (show 0 ≤ t6_0.toInt from (by first | with_reducible exact (q_fe btt6_0).2 | with_reducible exact (q_fe btt6_0).1 | (have t1 : 0 ≤ t6_0.toInt ∧ t6_0.toInt ≤ 220 := btt6_0; omega))), (show t6_0.toInt ≤ 220 from (by first | with_reducible exact (q_fe btt6_0).2 | with_reducible exact (q_fe btt6_0).1 | (have t1 : 0 ≤ t6_0.toInt ∧ t6_0.toInt ≤ 220 := btt6_0; omega))), (show 0 ≤ t6_1.toInt from (by first | with_reducible exact (q_fe btt6_1).2 | with_reducible exact (q_fe btt6_1).1 | (have t1 : 0 ≤ t6_1.toInt ∧ t6_1.toInt ≤ 1 := btt6_1; omega))), (show t6_1.toInt ≤ 2 from (by first | with_reducible exact (q_fe btt6_1).2 | with_reducible exact (q_fe btt6_1).1 | (have t1 : 0 ≤ t6_1.toInt ∧ t6_1.toInt ≤ 1 := btt6_1; omega))), (show 0 ≤ t8_0.toInt from (by first | with_reducible exact (q_fe btt8_0).2 | with_reducible exact (q_fe btt8_0).1 | (have t1 : 0 ≤ t8_0.toInt ∧ t8_0.toInt ≤ 220 := btt8_0; omega))), (show t8_0.toInt ≤ 220 from (by first | with_reducible exact (q_fe btt8_0).2 | with_reducible exact (q_fe btt8_0).1 | (have t1 : 0 ≤ t8_0.toInt ∧ t8_0.toInt ≤ 220 := btt8_0; omega))), (show 0 ≤ t8_1.toInt from (by first | with_reducible exact (q_fe btt8_1).2 | with_reducible exact (q_fe btt8_1).1 | (have t1 : 0 ≤ t8_1.toInt ∧ t8_1.toInt ≤ 1 := btt8_1; omega))), (show t8_1.toInt ≤ 1 from (by first | with_reducible exact (q_fe btt8_1).2 | with_reducible exact (q_fe btt8_1).1 | (have t1 : 0 ≤ t8_1.toInt ∧ t8_1.toInt ≤ 1 := btt8_1; omega))), (show 0 ≤ t10_0.toInt from (by first | with_reducible exact (q_fe btt10_0).2 | with_reducible exact (q_fe btt10_0).1 | (have t1 : 0 ≤ t10_0.toInt ∧ t10_0.toInt ≤ 220 := btt10_0; omega))), (show t10_0.toInt ≤ 220 from (by first | with_reducible exact (q_fe btt10_0).2 | with_reducible exact (q_fe btt10_0).1 | (have t1 : 0 ≤ t10_0.toInt ∧ t10_0.toInt ≤ 220 := btt10_0; omega))), (show 0 ≤ t10_1.toInt from (by first | with_reducible exact (q_fe btt10_1).2 | with_reducible exact (q_fe btt10_1).1 | (have t1 : 0 ≤ t10_1.toInt ∧ t10_1.toInt ≤ 1 := btt10_1; omega))), (show t10_1.toInt ≤ 1 from (by first | with_reducible exact (q_fe btt10_1).2 | with_reducible exact (q_fe btt10_1).1 | (have t1 : 0 ≤ t10_1.toInt ∧ t10_1.toInt ≤ 1 := btt10_1; omega))), (show 0 ≤ t12_0.toInt from (by first | with_reducible exact (q_fe btt12_0).2 | with_reducible exact (q_fe btt12_0).1 | (have t1 : 0 ≤ t12_0.toInt ∧ t12_0.toInt ≤ 220 := btt12_0; omega))), (show t12_0.toInt ≤ 220 from (by first | with_reducible exact (q_fe btt12_0).2 | with_reducible exact (q_fe btt12_0).1 | (have t1 : 0 ≤ t12_0.toInt ∧ t12_0.toInt ≤ 220 := btt12_0; omega))), (show 0 ≤ t12_1.toInt from (by first | with_reducible exact (q_fe btt12_1).2 | with_reducible exact (q_fe btt12_1).1 | (have t1 : 0 ≤ t12_1.toInt ∧ t12_1.toInt ≤ 1 := btt12_1; omega))), (show x4.toInt + 2 ≤ y310.toInt from (by have t1 : 0 ≤ x4.toInt ∧ x4.toInt ≤ 1 := hzx4; have t2 : 0 ≤ lx65.toInt := i82; have t3 : lx65.toInt ≤ y93.toInt := b96; have t4 : y93.toInt + 8 ≤ y310.toInt := b313; omega)), (show t2_0.toInt ≤ t2_0.toInt + 20 from (by omega)), (show t2_1.toInt ≤ t2_1.toInt + 1020000 from (by omega)), (show t2_1.toInt ≤ t2_1.toInt + 1020019 from (by omega)), (show t4_1.toInt ≤ t4_1.toInt + 20 from (by omega)), (show t6_1.toInt ≤ t4_1.toInt + 1 from (by have t1 : 0 ≤ t4_1.toInt ∧ t4_1.toInt ≤ 1 := btt4_1; have t2 : 0 ≤ t6_1.toInt ∧ t6_1.toInt ≤ 1 := btt6_1; omega)), (show t2_0.toInt ≤ y310.toInt + 1023 from (by have t1 : 0 ≤ t2_0.toInt ∧ t2_0.toInt ≤ 1026 := btt2_0; have t2 : 0 ≤ lx65.toInt := i82; have t3 : lx65.toInt ≤ y93.toInt := b96; have t4 : y93.toInt + 8 ≤ y310.toInt := b313; omega)), (show t2_1.toInt ≤ y310.toInt + 999997 from (by have t1 : -1000000 ≤ t2_1.toInt ∧ t2_1.toInt ≤ 1000000 := btt2_1; have t2 : 0 ≤ lx65.toInt := i82; have t3 : lx65.toInt ≤ y93.toInt := b96; have t4 : y93.toInt + 8 ≤ y310.toInt := b313; omega)), (show y310.toInt ≤ t2_1.toInt + 1000025 from (by have t1 : -1000000 ≤ t2_1.toInt ∧ t2_1.toInt ≤ 1000000 := btt2_1; have t2 : lx65.toInt ≤ 1 := i83; have t3 : y93.toInt ≤ lx65.toInt := b97; have t4 : y310.toInt ≤ y93.toInt + 8 := b314; omega)), (show t4_1.toInt ≤ t2_1.toInt + 1000001 from (by have t1 : -1000000 ≤ t2_1.toInt ∧ t2_1.toInt ≤ 1000000 := btt2_1; have t2 : 0 ≤ t4_1.toInt ∧ t4_1.toInt ≤ 1 := btt4_1; omega)), (show t6_1.toInt ≤ t2_1.toInt + 1000001 from (by have t1 : -1000000 ≤ t2_1.toInt ∧ t2_1.toInt ≤ 1000000 := btt2_1; have t2 : 0 ≤ t6_1.toInt ∧ t6_1.toInt ≤ 1 := btt6_1; omega)), (show t6_1.toInt ≤ t4_1.toInt + 1 from (by have t1 : 0 ≤ t4_1.toInt ∧ t4_1.toInt ≤ 1 := btt4_1; have t2 : 0 ≤ t6_1.toInt ∧ t6_1.toInt ≤ 1 := btt6_1; omega)), (show (y310, f311, t2_0, t2_1, t3_0, t4_0, t4_1, t5_0, t6_0, t6_1, t7_0, t8_0, t8_1, t9_0, t10_0, t10_1, t11_0, t12_0, t12_1, t13_0, t14_0, t14_1, t14_2) = (F_Wri_floatText A B C x3 x4 t0_0 t1_0 t2_0 t2_1 t3_0 t4_0 t4_1 t5_0 t6_0 t6_1 t7_0 t8_0 t8_1 t9_0 t10_0 t10_1 t11_0 t12_0 t12_1 t13_0 t14_0 t14_1 t14_2) from Eq.trans (by rw [e320, e319, F_Wri_floatText_c59.eq_1]) hR321)⟩) d_12_6_115
    ·
      refine lv_aload_n hx hb d_12_6_33 rfl (lv_at hl 0 rfl) ?_
      refine q_get (ci := 9) (j := 0) (v := .ref (q 3)) C0 V i_Wri rfl rfl hO89 (by decide) w_329 rfl d_12_6_34 ?_
      refine q_ldcs (i := 23) C0 V rfl rfl d_12_6_37 ?_
      refine q_gov V (q_runV (As := [.ref (g (8 + 2 * 23))]) (rest := []) (d := 5) (mc := 0) (ms := 0) (ci := 1) C0 V rfl LV_Wri_129 (X_She_addText_23 l D g q u90 3 11008 1376 1000000 (n_h3 g q)  hI y93 hO92 f94 hA95 (by have y0 : (11008 : Int32).toInt = 11008 := rfl; have y1 : (1376 : Int32).toInt = 1376 := rfl; have y2 : (1000000 : Int32).toInt = 1000000 := rfl; have t1 : lx65.toInt ≤ 1 := i83; have t2 : y93.toInt ≤ lx65.toInt := b97; omega) _) rfl rfl hO92 rfl hl.1 rfl (Nat.le_of_ble_eq_true rfl) ⟨by decide, by decide⟩ ⟨Nat.le_of_ble_eq_true rfl, Nat.le_of_ble_eq_true rfl⟩ d_12_6_39) (fun u327 H locs hp328 V => ?_)
      obtain ⟨hI, hZ9⟩ := hp328
      obtain ⟨hu336, hZ9⟩ := hZ9
      obtain ⟨y330, hZ9⟩ := hZ9
      obtain ⟨f331, hZ9⟩ := hZ9
      obtain ⟨hO329, hZ9⟩ := hZ9
      obtain ⟨hA332, hZ9⟩ := hZ9
      obtain ⟨b333, hZ9⟩ := hZ9
      obtain ⟨b334, hE335⟩ := hZ9
      replace hO329 : u327[3]? = (some (q 3, .inr (1, [.ref (q 4), .int 11008, .int y330])) : Option (Nat × va_E)) := hO329
      replace hA332 : u327[4]? = (some (q 4, .inl (g 1, (1376 : Int32).toNatClampNeg, .inr (.inl f331))) : Option (Nat × va_E)) := hA332
      obtain ⟨p337, e338⟩ : ∃ z, z = (F_She_addText_23 (11008 : Int32) (1376 : Int32) (1000000 : Int32) y93 f94) := ⟨_, rfl⟩
      have e339 : y330 = p337.1 := congrArg (fun z => z.1) (hE335.trans e338.symm)
      have e340 : f331 = p337.2 := congrArg (fun z => z.2) (hE335.trans e338.symm)
      replace b333 : q_F (y93.toInt + 3 ≤ y330.toInt) := b333
      replace b334 : q_F (y330.toInt ≤ y93.toInt + 3) := b334
      replace hT2 := (hu336 _ (by decide)).trans hT2
      replace hT3 := (hu336 _ (by decide)).trans hT3
      replace hT4 := (hu336 _ (by decide)).trans hT4
      replace hT5 := (hu336 _ (by decide)).trans hT5
      replace hT6 := (hu336 _ (by decide)).trans hT6
      replace hT7 := (hu336 _ (by decide)).trans hT7
      replace hT8 := (hu336 _ (by decide)).trans hT8
      replace hT9 := (hu336 _ (by decide)).trans hT9
      replace hT10 := (hu336 _ (by decide)).trans hT10
      replace hT11 := (hu336 _ (by decide)).trans hT11
      replace hT12 := (hu336 _ (by decide)).trans hT12
      replace hT13 := (hu336 _ (by decide)).trans hT13
      replace hT14 := (hu336 _ (by have z0 := hB2.2.2.2.2; simp only [List.mem_cons, List.not_mem_nil, or_false, not_or]; omega)).trans hT14
      replace hF := q_uc hF hu336 (by first | exact (q_sk (q_mi 0 rfl) (q_sk (q_mi 1 rfl) q_s0)) | simp)
      have hR341 := (show F_Wri_floatText_c39 A B C x3 x4 t0_0 t1_0 t2_0 t2_1 t3_0 t4_0 t4_1 t5_0 t6_0 t6_1 t7_0 t8_0 t8_1 t9_0 t10_0 t10_1 t11_0 t12_0 t12_1 t13_0 t14_0 t14_1 t14_2 lx65 p100 p337 = (F_Wri_floatText A B C x3 x4 t0_0 t1_0 t2_0 t2_1 t3_0 t4_0 t4_1 t5_0 t6_0 t6_1 t7_0 t8_0 t8_1 t9_0 t10_0 t10_1 t11_0 t12_0 t12_1 t13_0 t14_0 t14_1 t14_2) from Eq.trans (by have c116x := c116; rw [e115] at c116x; rw [e338, e103, e102, F_Wri_floatText_c22.eq_1, if_neg c116x]) hR104)
      have hS342 := (show True ∧ S_Wri_floatText_c39 A B C x3 x4 t0_0 t1_0 t2_0 t2_1 t3_0 t4_0 t4_1 t5_0 t6_0 t6_1 t7_0 t8_0 t8_1 t9_0 t10_0 t10_1 t11_0 t12_0 t12_1 t13_0 t14_0 t14_1 t14_2 lx65 p100 p337 from (by rw [e338, e103, e102]; have h := hS105; rw [S_Wri_floatText_c22.eq_1] at h; have c116x := c116; rw [e115] at c116x; rw [if_neg c116x] at h; with_reducible exact h))
      refine lv_goto (tgt := 115) hx hb d_12_6_42 (by decide) ?_
      exact q_retv C0 V (⟨hI, hF, y330, f331, t2_0, t2_1, t3_0, t4_0, t4_1, t5_0, t6_0, t6_1, t7_0, t8_0, t8_1, t9_0, t10_0, t10_1, t11_0, t12_0, t12_1, t13_0, t14_0, t14_1, t14_2, hO329, hA332, hT2, hT3, hT4, hT5, hT6, hT7, hT8, hT9, hT10, hT11, hT12, hT13, hT14, (show 2 ≤ y330.toInt from (by have t1 : 0 ≤ lx65.toInt := i82; have t2 : lx65.toInt ≤ y93.toInt := b96; have t3 : y93.toInt + 3 ≤ y330.toInt := b333; omega)), (show y330.toInt ≤ 420004 from (by have t1 : lx65.toInt ≤ 1 := i83; have t2 : y93.toInt ≤ lx65.toInt := b97; have t3 : y330.toInt ≤ y93.toInt + 3 := b334; omega)), (show 0 ≤ t2_0.toInt from (by first | with_reducible exact (q_fe btt2_0).2 | with_reducible exact (q_fe btt2_0).1 | (have t1 : 0 ≤ t2_0.toInt ∧ t2_0.toInt ≤ 1026 := btt2_0; omega))), (show t2_0.toInt ≤ 1026 from (by first | with_reducible exact (q_fe btt2_0).2 | with_reducible exact (q_fe btt2_0).1 | (have t1 : 0 ≤ t2_0.toInt ∧ t2_0.toInt ≤ 1026 := btt2_0; omega))), (show 0 ≤ t2_1.toInt + 1000000 from (by first | with_reducible exact (q_fe btt2_1).2 | with_reducible exact (q_fe btt2_1).1 | (have t1 : -1000000 ≤ t2_1.toInt ∧ t2_1.toInt ≤ 1000000 := btt2_1; omega))), (show t2_1.toInt ≤ 1000000 from (by first | with_reducible exact (q_fe btt2_1).2 | with_reducible exact (q_fe btt2_1).1 | (have t1 : -1000000 ≤ t2_1.toInt ∧ t2_1.toInt ≤ 1000000 := btt2_1; omega))), (show 0 ≤ t4_0.toInt from (by first | with_reducible exact (q_fe btt4_0).2 | with_reducible exact (q_fe btt4_0).1 | (have t1 : 0 ≤ t4_0.toInt ∧ t4_0.toInt ≤ 220 := btt4_0; omega))), (show t4_0.toInt ≤ 220 from (by first | with_reducible exact (q_fe btt4_0).2 | with_reducible exact (q_fe btt4_0).1 | (have t1 : 0 ≤ t4_0.toInt ∧ t4_0.toInt ≤ 220 := btt4_0; omega))), (show 0 ≤ t4_1.toInt from (by first | with_reducible exact (q_fe btt4_1).2 | with_reducible exact (q_fe btt4_1).1 | (have t1 : 0 ≤ t4_1.toInt ∧ t4_1.toInt ≤ 1 := btt4_1; omega))), (show t4_1.toInt ≤ 21 from (by first | with_reducible exact (q_fe btt4_1).2 | with_reducible exact (q_fe btt4_1).1 | (have t1 : 0 ≤ t4_1.toInt ∧ t4_1.toInt ≤ 1 := btt4_1; omega))), (show 0 ≤ t6_0.toInt from (by first | with_reducible exact (q_fe btt6_0).2 | with_reducible exact (q_fe btt6_0).1 | (have t1 : 0 ≤ t6_0.toInt ∧ t6_0.toInt ≤ 220 := btt6_0; omega))), (show t6_0.toInt ≤ 220 from (by first | with_reducible exact (q_fe btt6_0).2 | with_reducible exact (q_fe btt6_0).1 | (have t1 : 0 ≤ t6_0.toInt ∧ t6_0.toInt ≤ 220 := btt6_0; omega))), (show 0 ≤ t6_1.toInt from (by first | with_reducible exact (q_fe btt6_1).2 | with_reducible exact (q_fe btt6_1).1 | (have t1 : 0 ≤ t6_1.toInt ∧ t6_1.toInt ≤ 1 := btt6_1; omega))), (show t6_1.toInt ≤ 2 from (by first | with_reducible exact (q_fe btt6_1).2 | with_reducible exact (q_fe btt6_1).1 | (have t1 : 0 ≤ t6_1.toInt ∧ t6_1.toInt ≤ 1 := btt6_1; omega))), (show 0 ≤ t8_0.toInt from (by first | with_reducible exact (q_fe btt8_0).2 | with_reducible exact (q_fe btt8_0).1 | (have t1 : 0 ≤ t8_0.toInt ∧ t8_0.toInt ≤ 220 := btt8_0; omega))), (show t8_0.toInt ≤ 220 from (by first | with_reducible exact (q_fe btt8_0).2 | with_reducible exact (q_fe btt8_0).1 | (have t1 : 0 ≤ t8_0.toInt ∧ t8_0.toInt ≤ 220 := btt8_0; omega))), (show 0 ≤ t8_1.toInt from (by first | with_reducible exact (q_fe btt8_1).2 | with_reducible exact (q_fe btt8_1).1 | (have t1 : 0 ≤ t8_1.toInt ∧ t8_1.toInt ≤ 1 := btt8_1; omega))), (show t8_1.toInt ≤ 1 from (by first | with_reducible exact (q_fe btt8_1).2 | with_reducible exact (q_fe btt8_1).1 | (have t1 : 0 ≤ t8_1.toInt ∧ t8_1.toInt ≤ 1 := btt8_1; omega))), (show 0 ≤ t10_0.toInt from (by first | with_reducible exact (q_fe btt10_0).2 | with_reducible exact (q_fe btt10_0).1 | (have t1 : 0 ≤ t10_0.toInt ∧ t10_0.toInt ≤ 220 := btt10_0; omega))), (show t10_0.toInt ≤ 220 from (by first | with_reducible exact (q_fe btt10_0).2 | with_reducible exact (q_fe btt10_0).1 | (have t1 : 0 ≤ t10_0.toInt ∧ t10_0.toInt ≤ 220 := btt10_0; omega))), (show 0 ≤ t10_1.toInt from (by first | with_reducible exact (q_fe btt10_1).2 | with_reducible exact (q_fe btt10_1).1 | (have t1 : 0 ≤ t10_1.toInt ∧ t10_1.toInt ≤ 1 := btt10_1; omega))), (show t10_1.toInt ≤ 1 from (by first | with_reducible exact (q_fe btt10_1).2 | with_reducible exact (q_fe btt10_1).1 | (have t1 : 0 ≤ t10_1.toInt ∧ t10_1.toInt ≤ 1 := btt10_1; omega))), (show 0 ≤ t12_0.toInt from (by first | with_reducible exact (q_fe btt12_0).2 | with_reducible exact (q_fe btt12_0).1 | (have t1 : 0 ≤ t12_0.toInt ∧ t12_0.toInt ≤ 220 := btt12_0; omega))), (show t12_0.toInt ≤ 220 from (by first | with_reducible exact (q_fe btt12_0).2 | with_reducible exact (q_fe btt12_0).1 | (have t1 : 0 ≤ t12_0.toInt ∧ t12_0.toInt ≤ 220 := btt12_0; omega))), (show 0 ≤ t12_1.toInt from (by first | with_reducible exact (q_fe btt12_1).2 | with_reducible exact (q_fe btt12_1).1 | (have t1 : 0 ≤ t12_1.toInt ∧ t12_1.toInt ≤ 1 := btt12_1; omega))), (show x4.toInt + 2 ≤ y330.toInt from (by have t1 : 0 ≤ x4.toInt ∧ x4.toInt ≤ 1 := hzx4; have t2 : 0 ≤ lx65.toInt := i82; have t3 : lx65.toInt ≤ y93.toInt := b96; have t4 : y93.toInt + 3 ≤ y330.toInt := b333; omega)), (show t2_0.toInt ≤ t2_0.toInt + 20 from (by omega)), (show t2_1.toInt ≤ t2_1.toInt + 1020000 from (by omega)), (show t2_1.toInt ≤ t2_1.toInt + 1020019 from (by omega)), (show t4_1.toInt ≤ t4_1.toInt + 20 from (by omega)), (show t6_1.toInt ≤ t4_1.toInt + 1 from (by have t1 : 0 ≤ t4_1.toInt ∧ t4_1.toInt ≤ 1 := btt4_1; have t2 : 0 ≤ t6_1.toInt ∧ t6_1.toInt ≤ 1 := btt6_1; omega)), (show t2_0.toInt ≤ y330.toInt + 1023 from (by have t1 : 0 ≤ t2_0.toInt ∧ t2_0.toInt ≤ 1026 := btt2_0; have t2 : 0 ≤ lx65.toInt := i82; have t3 : lx65.toInt ≤ y93.toInt := b96; have t4 : y93.toInt + 3 ≤ y330.toInt := b333; omega)), (show t2_1.toInt ≤ y330.toInt + 999997 from (by have t1 : -1000000 ≤ t2_1.toInt ∧ t2_1.toInt ≤ 1000000 := btt2_1; have t2 : 0 ≤ lx65.toInt := i82; have t3 : lx65.toInt ≤ y93.toInt := b96; have t4 : y93.toInt + 3 ≤ y330.toInt := b333; omega)), (show y330.toInt ≤ t2_1.toInt + 1000025 from (by have t1 : -1000000 ≤ t2_1.toInt ∧ t2_1.toInt ≤ 1000000 := btt2_1; have t2 : lx65.toInt ≤ 1 := i83; have t3 : y93.toInt ≤ lx65.toInt := b97; have t4 : y330.toInt ≤ y93.toInt + 3 := b334; omega)), (show t4_1.toInt ≤ t2_1.toInt + 1000001 from (by have t1 : -1000000 ≤ t2_1.toInt ∧ t2_1.toInt ≤ 1000000 := btt2_1; have t2 : 0 ≤ t4_1.toInt ∧ t4_1.toInt ≤ 1 := btt4_1; omega)), (show t6_1.toInt ≤ t2_1.toInt + 1000001 from (by have t1 : -1000000 ≤ t2_1.toInt ∧ t2_1.toInt ≤ 1000000 := btt2_1; have t2 : 0 ≤ t6_1.toInt ∧ t6_1.toInt ≤ 1 := btt6_1; omega)), (show t6_1.toInt ≤ t4_1.toInt + 1 from (by have t1 : 0 ≤ t4_1.toInt ∧ t4_1.toInt ≤ 1 := btt4_1; have t2 : 0 ≤ t6_1.toInt ∧ t6_1.toInt ≤ 1 := btt6_1; omega)), (show (y330, f331, t2_0, t2_1, t3_0, t4_0, t4_1, t5_0, t6_0, t6_1, t7_0, t8_0, t8_1, t9_0, t10_0, t10_1, t11_0, t12_0, t12_1, t13_0, t14_0, t14_1, t14_2) = (F_Wri_floatText A B C x3 x4 t0_0 t1_0 t2_0 t2_1 t3_0 t4_0 t4_1 t5_0 t6_0 t6_1 t7_0 t8_0 t8_1 t9_0 t10_0 t10_1 t11_0 t12_0 t12_1 t13_0 t14_0 t14_1 t14_2) from Eq.trans (by rw [e340, e339, F_Wri_floatText_c39.eq_1]) hR341)⟩) d_12_6_115
  ·
    intro J81
    refine q_join (X := Unit) (fun z H locs ls _ => q_Wd D g (va_A ws sz) s ws H locs ∧ lv_has ls 5 [(0, .ref (q 39)), (1, .ref (q k2)), (2, .long x3), (4, .int x4)] ∧ F_Wri_floatText_J21 A B C x3 x4 t0_0 t1_0 t2_0 t2_1 t3_0 t4_0 t4_1 t5_0 t6_0 t6_1 t7_0 t8_0 t8_1 t9_0 t10_0 t10_1 t11_0 t12_0 t12_1 t13_0 t14_0 t14_1 t14_2 = (F_Wri_floatText A B C x3 x4 t0_0 t1_0 t2_0 t2_1 t3_0 t4_0 t4_1 t5_0 t6_0 t6_1 t7_0 t8_0 t8_1 t9_0 t10_0 t10_1 t11_0 t12_0 t12_1 t13_0 t14_0 t14_1 t14_2) ∧ True ∧ S_Wri_floatText_J21 A B C x3 x4 t0_0 t1_0 t2_0 t2_1 t3_0 t4_0 t4_1 t5_0 t6_0 t6_1 t7_0 t8_0 t8_1 t9_0 t10_0 t10_1 t11_0 t12_0 t12_1 t13_0 t14_0 t14_1 t14_2) (fun z => [.ref (q 39)]) 21 0 0 ?_ ?_
    ·
      rintro _ H locs ls _ ⟨V, hl, hR362, hS363⟩
      replace hl : lv_has ls 5 [(0, .ref (q 39)), (1, .ref (q k2)), (2, .long x3), (4, .int x4)] := hl
      refine lv_iconst (v := 0) hx hb d_12_6_21 (by decide) ?_
      exact J81 ((0 : Int32)) _ _ _ ws ⟨(show q_F (0 ≤ 0) from (show 0 ≤ 0 from by omega)), (show q_F (0 ≤ 1) from (show 0 ≤ 1 from by omega)), V, q_lw hl (q_lw1 0 rfl (q_lw1 1 rfl (q_lw1 2 rfl (q_lw1 3 rfl q_lw0)))), (show F_Wri_floatText_J22 A B C x3 x4 t0_0 t1_0 t2_0 t2_1 t3_0 t4_0 t4_1 t5_0 t6_0 t6_1 t7_0 t8_0 t8_1 t9_0 t10_0 t10_1 t11_0 t12_0 t12_1 t13_0 t14_0 t14_1 t14_2 0 = (F_Wri_floatText A B C x3 x4 t0_0 t1_0 t2_0 t2_1 t3_0 t4_0 t4_1 t5_0 t6_0 t6_1 t7_0 t8_0 t8_1 t9_0 t10_0 t10_1 t11_0 t12_0 t12_1 t13_0 t14_0 t14_1 t14_2) from Eq.trans (by rw [F_Wri_floatText_J21.eq_1]) hR362), (show True ∧ S_Wri_floatText_J22 A B C x3 x4 t0_0 t1_0 t2_0 t2_1 t3_0 t4_0 t4_1 t5_0 t6_0 t6_1 t7_0 t8_0 t8_1 t9_0 t10_0 t10_1 t11_0 t12_0 t12_1 t13_0 t14_0 t14_1 t14_2 0 from (by have h := hS363; rw [S_Wri_floatText_J21.eq_1] at h; with_reducible exact h))⟩
    ·
      intro J361
      refine lv_if_eq (tgt := 21) hx hb d_12_6_6 (by decide) (fun c367 => ?_) (fun c367 => ?_)
      ·
        exact J361 (()) _ _ _ ws ⟨V, q_lw hl (q_lw1 0 rfl (q_lw1 1 rfl (q_lw1 2 rfl (q_lw1 3 rfl q_lw0)))), (show F_Wri_floatText_J21 A B C x3 x4 t0_0 t1_0 t2_0 t2_1 t3_0 t4_0 t4_1 t5_0 t6_0 t6_1 t7_0 t8_0 t8_1 t9_0 t10_0 t10_1 t11_0 t12_0 t12_1 t13_0 t14_0 t14_1 t14_2 = (F_Wri_floatText A B C x3 x4 t0_0 t1_0 t2_0 t2_1 t3_0 t4_0 t4_1 t5_0 t6_0 t6_1 t7_0 t8_0 t8_1 t9_0 t10_0 t10_1 t11_0 t12_0 t12_1 t13_0 t14_0 t14_1 t14_2) from (by have c367x := c367; rw [e64] at c367x; rw [F_Wri_floatText.eq_1, if_pos c367x])), (show True ∧ S_Wri_floatText_J21 A B C x3 x4 t0_0 t1_0 t2_0 t2_1 t3_0 t4_0 t4_1 t5_0 t6_0 t6_1 t7_0 t8_0 t8_1 t9_0 t10_0 t10_1 t11_0 t12_0 t12_1 t13_0 t14_0 t14_1 t14_2 from (by have h := hS; rw [S_Wri_floatText.eq_1] at h; have c367x := c367; rw [e64] at c367x; rw [if_pos c367x] at h; with_reducible exact h))⟩
      ·
        refine lv_aload_n hx hb d_12_6_9 rfl (lv_at hl 1 rfl) ?_
        refine lv_lload_n hx hb d_12_6_10 rfl (lv_at hl 2 rfl) ?_
        refine q_goi V (q_runV (As := [.long x3]) (rest := [.ref (q 39)]) (d := 3) (mc := 0) (ms := 0) (ci := 6) C0 V rfl LV_Wri_124 (X_Flo_isNoNumber l D g q ws k2 A B C hB2 x3 hI   _) rfl rfl hT14 rfl hl.1 rfl (Nat.le_of_ble_eq_true rfl) ⟨by decide, by decide⟩ ⟨Nat.le_of_ble_eq_true rfl, Nat.le_of_ble_eq_true rfl⟩ d_12_6_11) (fun a372 u370 H locs hp371 V => ?_)
        obtain ⟨rfl, b373, b374, hE375⟩ := hp371
        have e376 : a372 = (F_Flo_isNoNumber A B C x3) := hE375
        clear b373
        clear b374
        refine lv_if_ne (tgt := 21) hx hb d_12_6_14 (by decide) (fun c377 => ?_) (fun c377 => ?_)
        ·
          exact J361 (()) _ _ _ ws ⟨V, q_lw hl (q_lw1 0 rfl (q_lw1 1 rfl (q_lw1 2 rfl (q_lw1 3 rfl q_lw0)))), (show F_Wri_floatText_J21 A B C x3 x4 t0_0 t1_0 t2_0 t2_1 t3_0 t4_0 t4_1 t5_0 t6_0 t6_1 t7_0 t8_0 t8_1 t9_0 t10_0 t10_1 t11_0 t12_0 t12_1 t13_0 t14_0 t14_1 t14_2 = (F_Wri_floatText A B C x3 x4 t0_0 t1_0 t2_0 t2_1 t3_0 t4_0 t4_1 t5_0 t6_0 t6_1 t7_0 t8_0 t8_1 t9_0 t10_0 t10_1 t11_0 t12_0 t12_1 t13_0 t14_0 t14_1 t14_2) from (by have c367x := c367; rw [e64] at c367x; have c377x := c377; rw [e376] at c377x; rw [F_Wri_floatText.eq_1, if_neg c367x, if_neg c377x])), (show True ∧ S_Wri_floatText_J21 A B C x3 x4 t0_0 t1_0 t2_0 t2_1 t3_0 t4_0 t4_1 t5_0 t6_0 t6_1 t7_0 t8_0 t8_1 t9_0 t10_0 t10_1 t11_0 t12_0 t12_1 t13_0 t14_0 t14_1 t14_2 from (by have h := hS; rw [S_Wri_floatText.eq_1] at h; have c367x := c367; rw [e64] at c367x; rw [if_neg c367x] at h; have c377x := c377; rw [e376] at c377x; rw [if_neg c377x] at h; with_reducible exact h))⟩
        ·
          refine lv_iconst (v := 1) hx hb d_12_6_17 (by decide) ?_
          refine lv_goto (tgt := 22) hx hb d_12_6_18 (by decide) ?_
          exact J81 ((1 : Int32)) _ _ _ ws ⟨(show q_F (0 ≤ 1) from (show 0 ≤ 1 from by omega)), (show q_F (1 ≤ 1) from (show 1 ≤ 1 from by omega)), V, q_lw hl (q_lw1 0 rfl (q_lw1 1 rfl (q_lw1 2 rfl (q_lw1 3 rfl q_lw0)))), (show F_Wri_floatText_J22 A B C x3 x4 t0_0 t1_0 t2_0 t2_1 t3_0 t4_0 t4_1 t5_0 t6_0 t6_1 t7_0 t8_0 t8_1 t9_0 t10_0 t10_1 t11_0 t12_0 t12_1 t13_0 t14_0 t14_1 t14_2 1 = (F_Wri_floatText A B C x3 x4 t0_0 t1_0 t2_0 t2_1 t3_0 t4_0 t4_1 t5_0 t6_0 t6_1 t7_0 t8_0 t8_1 t9_0 t10_0 t10_1 t11_0 t12_0 t12_1 t13_0 t14_0 t14_1 t14_2) from (by have c367x := c367; rw [e64] at c367x; have c377x := c377; rw [e376] at c377x; rw [F_Wri_floatText.eq_1, if_neg c367x, if_pos c377x])), (show True ∧ S_Wri_floatText_J22 A B C x3 x4 t0_0 t1_0 t2_0 t2_1 t3_0 t4_0 t4_1 t5_0 t6_0 t6_1 t7_0 t8_0 t8_1 t9_0 t10_0 t10_1 t11_0 t12_0 t12_1 t13_0 t14_0 t14_1 t14_2 1 from (by have h := hS; rw [S_Wri_floatText.eq_1] at h; have c367x := c367; rw [e64] at c367x; rw [if_neg c367x] at h; have c377x := c377; rw [e376] at c377x; rw [if_pos c377x] at h; with_reducible exact h))⟩

theorem d_12_10_0 : decode prog_12_method_10_code 0 = .ok (.aload_n 0, 1) := by decide +kernel
theorem d_12_10_1 : decode prog_12_method_10_code 1 = .ok (.aload_n 1, 1) := by decide +kernel
theorem d_12_10_2 : decode prog_12_method_10_code 2 = .ok (.lload_n 2, 1) := by decide +kernel
theorem d_12_10_3 : decode prog_12_method_10_code 3 = .ok (.invokevirtual 118, 3) := by decide +kernel
theorem d_12_10_6 : decode prog_12_method_10_code 6 = .ok (.invokevirtual 27, 3) := by decide +kernel
theorem d_12_10_9 : decode prog_12_method_10_code 9 = .ok (.aload_n 0, 1) := by decide +kernel
theorem d_12_10_10 : decode prog_12_method_10_code 10 = .ok (.getfield 17, 3) := by decide +kernel
theorem d_12_10_13 : decode prog_12_method_10_code 13 = .ok (.aload_n 0, 1) := by decide +kernel
theorem d_12_10_14 : decode prog_12_method_10_code 14 = .ok (.getfield 13, 3) := by decide +kernel
theorem d_12_10_17 : decode prog_12_method_10_code 17 = .ok (.getfield 39, 3) := by decide +kernel
theorem d_12_10_20 : decode prog_12_method_10_code 20 = .ok (.aload_n 1, 1) := by decide +kernel
theorem d_12_10_21 : decode prog_12_method_10_code 21 = .ok (.lload_n 2, 1) := by decide +kernel
theorem d_12_10_22 : decode prog_12_method_10_code 22 = .ok (.invokevirtual 192, 3) := by decide +kernel
set_option maxRecDepth 100000 in
theorem w_1651 : (Cond.methodLink "NumberHouse$Writer" (192 : Nat) ({ cls := "NumberHouse$Floats", name := "exactly", desc := "(J)I" } : MethodName)) ∈ q_tbl := q_of7 211 rfl (by decide +kernel)
set_option maxRecDepth 100000 in
theorem w_1513 : (Cond.instanceMethod ({ cls := "NumberHouse$Floats", name := "exactly", desc := "(J)I" } : MethodName)) ∈ q_tbl := q_of7 73 rfl (by decide +kernel)
set_option maxRecDepth 100000 in
theorem w_1514 : (Cond.selects "NumberHouse$Floats" ({ cls := "NumberHouse$Floats", name := "exactly", desc := "(J)I" } : MethodName) ({ cls := "NumberHouse$Floats", name := "exactly", desc := "(J)I" } : MethodName)) ∈ q_tbl := q_of7 74 rfl (by decide +kernel)
set_option maxRecDepth 100000 in
theorem w_1515 : (Cond.code ({ cls := "NumberHouse$Floats", name := "exactly", desc := "(J)I" } : MethodName) prog_7_method_15_code (7 : Nat) (some .int)) ∈ q_tbl := q_of7 75 rfl (by decide +kernel)
theorem LV_Wri_192 : q_LV "NumberHouse$Writer" 192 y_Flo_exactly prog_7_method_15_code 7 (some .int) 1 := ⟨w_1515, w_8, w_1651, w_1513, w_1514, ⟨by decide, by decide, by decide +kernel⟩⟩
theorem d_12_10_25 : decode prog_12_method_10_code 25 = .ok (.invokevirtual 75, 3) := by decide +kernel
theorem d_12_10_28 : decode prog_12_method_10_code 28 = .ok (.aload_n 0, 1) := by decide +kernel
theorem d_12_10_29 : decode prog_12_method_10_code 29 = .ok (.getfield 17, 3) := by decide +kernel
theorem d_12_10_32 : decode prog_12_method_10_code 32 = .ok (.iload 4, 2) := by decide +kernel
theorem d_12_10_54 : decode prog_12_method_10_code 54 = .ok (.iload 6, 2) := by decide +kernel
theorem d_12_10_56 : decode prog_12_method_10_code 56 = .ok (.invokevirtual 195, 3) := by decide +kernel
set_option maxRecDepth 100000 in
theorem w_1652 : (Cond.methodLink "NumberHouse$Writer" (195 : Nat) ({ cls := "NumberHouse$Digits", name := "round", desc := "(II)V" } : MethodName)) ∈ q_tbl := q_of7 212 rfl (by decide +kernel)
theorem LV_Wri_195 : q_LV "NumberHouse$Writer" 195 y_Dig_round prog_5_method_6_code 4 none 2 := ⟨w_1655, w_9, w_1652, w_1653, w_1654, ⟨by decide, by decide, by decide +kernel⟩⟩
theorem d_12_10_59 : decode prog_12_method_10_code 59 = .ok (.iload 4, 2) := by decide +kernel
theorem d_12_10_61 : decode prog_12_method_10_code 61 = .ok (.ifCond .eq 20, 3) := by decide +kernel
theorem d_12_10_81 : decode prog_12_method_10_code 81 = .ok (.aload_n 0, 1) := by decide +kernel
theorem d_12_10_82 : decode prog_12_method_10_code 82 = .ok (.getfield 17, 3) := by decide +kernel
theorem d_12_10_85 : decode prog_12_method_10_code 85 = .ok (.aload_n 0, 1) := by decide +kernel
theorem d_12_10_86 : decode prog_12_method_10_code 86 = .ok (.getfield 7, 3) := by decide +kernel
theorem d_12_10_89 : decode prog_12_method_10_code 89 = .ok (.iload 5, 2) := by decide +kernel
theorem d_12_10_91 : decode prog_12_method_10_code 91 = .ok (.iconst 0, 1) := by decide +kernel
theorem d_12_10_92 : decode prog_12_method_10_code 92 = .ok (.iconst 0, 1) := by decide +kernel
theorem d_12_10_93 : decode prog_12_method_10_code 93 = .ok (.invokevirtual 90, 3) := by decide +kernel
theorem d_12_10_96 : decode prog_12_method_10_code 96 = .ok (.return_, 1) := by decide +kernel
theorem d_12_10_64 : decode prog_12_method_10_code 64 = .ok (.aload_n 0, 1) := by decide +kernel
theorem d_12_10_65 : decode prog_12_method_10_code 65 = .ok (.getfield 17, 3) := by decide +kernel
theorem d_12_10_68 : decode prog_12_method_10_code 68 = .ok (.aload_n 0, 1) := by decide +kernel
theorem d_12_10_69 : decode prog_12_method_10_code 69 = .ok (.getfield 7, 3) := by decide +kernel
theorem d_12_10_72 : decode prog_12_method_10_code 72 = .ok (.iload 5, 2) := by decide +kernel
theorem d_12_10_74 : decode prog_12_method_10_code 74 = .ok (.iconst 0, 1) := by decide +kernel
theorem d_12_10_75 : decode prog_12_method_10_code 75 = .ok (.invokevirtual 198, 3) := by decide +kernel
set_option maxRecDepth 100000 in
theorem w_1664 : (Cond.methodLink "NumberHouse$Writer" (198 : Nat) ({ cls := "NumberHouse$Digits", name := "writeScience", desc := "(LNumberHouse$Sheet;IZ)V" } : MethodName)) ∈ q_tbl := q_of7 224 rfl (by decide +kernel)
theorem LV_Wri_198 : q_LV "NumberHouse$Writer" 198 y_Dig_writeScience prog_5_method_10_code 4 none 3 := ⟨w_1667, w_9, w_1664, w_1665, w_1666, ⟨by decide, by decide, by decide +kernel⟩⟩
theorem d_12_10_78 : decode prog_12_method_10_code 78 = .ok (.goto 18, 3) := by decide +kernel
theorem d_12_10_34 : decode prog_12_method_10_code 34 = .ok (.ifCond .eq 8, 3) := by decide +kernel
theorem d_12_10_42 : decode prog_12_method_10_code 42 = .ok (.aload_n 0, 1) := by decide +kernel
theorem d_12_10_43 : decode prog_12_method_10_code 43 = .ok (.getfield 17, 3) := by decide +kernel
theorem d_12_10_46 : decode prog_12_method_10_code 46 = .ok (.getfield 167, 3) := by decide +kernel
theorem d_12_10_49 : decode prog_12_method_10_code 49 = .ok (.iconst 1, 1) := by decide +kernel
theorem d_12_10_50 : decode prog_12_method_10_code 50 = .ok (.iadd, 1) := by decide +kernel
theorem d_12_10_51 : decode prog_12_method_10_code 51 = .ok (.iload 5, 2) := by decide +kernel
theorem d_12_10_53 : decode prog_12_method_10_code 53 = .ok (.iadd, 1) := by decide +kernel
theorem d_12_10_37 : decode prog_12_method_10_code 37 = .ok (.iload 5, 2) := by decide +kernel
theorem d_12_10_39 : decode prog_12_method_10_code 39 = .ok (.goto 15, 3) := by decide +kernel
def y_Wri_exactText : MethodName := ⟨"NumberHouse$Writer", "exactText", "(LNumberHouse$Floats;JZII)V"⟩
def F_Wri_exactText_c93 (A : Int32) (B : Int32) (C : Int32) (x3 : Int64) (x4 : Int32) (x5 : Int32) (x6 : Int32) (t0_0 : Int32) (t1_0 : (Nat → Int64)) (t2_0 : Int32) (t2_1 : Int32) (t3_0 : (Nat → Int32)) (t4_0 : Int32) (t4_1 : Int32) (t5_0 : (Nat → Int32)) (t6_0 : Int64) (t6_1 : Int32) (t6_2 : Int32) (p44 : (Int32 × (Nat → Int64))) (y37 : Int32) (f38 : (Nat → Int64)) (p69 : (Int32 × Int32 × Int32 × (Nat → Int32))) (p104 : (Int32 × Int32 × (Nat → Int32) × Int32 × Int32 × (Nat → Int32))) (y84 : Int32) (y85 : Int32) (f86 : (Nat → Int32)) (y89 : Int32) (y90 : Int32) (f91 : (Nat → Int32)) (lx117 : Int32) (p159 : (Int32 × Int32 × (Nat → Int32))) (y144 : Int32) (y145 : Int32) (f146 : (Nat → Int32)) (p186 : (Int32 × (Nat → Int64))) : Int32 × (Nat → Int64) × Int32 × Int32 × (Nat → Int32) × Int32 × Int32 × (Nat → Int32) := ((p186.1 : Int32), (p186.2 : (Nat → Int64)), y144, y145, f146, y89, y90, f91)
def F_Wri_exactText_c75 (A : Int32) (B : Int32) (C : Int32) (x3 : Int64) (x4 : Int32) (x5 : Int32) (x6 : Int32) (t0_0 : Int32) (t1_0 : (Nat → Int64)) (t2_0 : Int32) (t2_1 : Int32) (t3_0 : (Nat → Int32)) (t4_0 : Int32) (t4_1 : Int32) (t5_0 : (Nat → Int32)) (t6_0 : Int64) (t6_1 : Int32) (t6_2 : Int32) (p44 : (Int32 × (Nat → Int64))) (y37 : Int32) (f38 : (Nat → Int64)) (p69 : (Int32 × Int32 × Int32 × (Nat → Int32))) (p104 : (Int32 × Int32 × (Nat → Int32) × Int32 × Int32 × (Nat → Int32))) (y84 : Int32) (y85 : Int32) (f86 : (Nat → Int32)) (y89 : Int32) (y90 : Int32) (f91 : (Nat → Int32)) (lx117 : Int32) (p159 : (Int32 × Int32 × (Nat → Int32))) (y144 : Int32) (y145 : Int32) (f146 : (Nat → Int32)) (p208 : (Int32 × (Nat → Int64))) : Int32 × (Nat → Int64) × Int32 × Int32 × (Nat → Int32) × Int32 × Int32 × (Nat → Int32) := ((p208.1 : Int32), (p208.2 : (Nat → Int64)), y144, y145, f146, y89, y90, f91)
def F_Wri_exactText_c56 (A : Int32) (B : Int32) (C : Int32) (x3 : Int64) (x4 : Int32) (x5 : Int32) (x6 : Int32) (t0_0 : Int32) (t1_0 : (Nat → Int64)) (t2_0 : Int32) (t2_1 : Int32) (t3_0 : (Nat → Int32)) (t4_0 : Int32) (t4_1 : Int32) (t5_0 : (Nat → Int32)) (t6_0 : Int64) (t6_1 : Int32) (t6_2 : Int32) (p44 : (Int32 × (Nat → Int64))) (y37 : Int32) (f38 : (Nat → Int64)) (p69 : (Int32 × Int32 × Int32 × (Nat → Int32))) (p104 : (Int32 × Int32 × (Nat → Int32) × Int32 × Int32 × (Nat → Int32))) (y84 : Int32) (y85 : Int32) (f86 : (Nat → Int32)) (y89 : Int32) (y90 : Int32) (f91 : (Nat → Int32)) (lx117 : Int32) (p159 : (Int32 × Int32 × (Nat → Int32))) : Int32 × (Nat → Int64) × Int32 × Int32 × (Nat → Int32) × Int32 × Int32 × (Nat → Int32) := if x4 = (0 : Int32) then (F_Wri_exactText_c93 A B C x3 x4 x5 x6 t0_0 t1_0 t2_0 t2_1 t3_0 t4_0 t4_1 t5_0 t6_0 t6_1 t6_2 p44 y37 f38 p69 p104 y84 y85 f86 y89 y90 f91 lx117 p159 (p159.1 : Int32) (p159.2.1 : Int32) (p159.2.2 : (Nat → Int32)) ((F_Dig_writePlain (11008 : Int32) (1376 : Int32) (1000000 : Int32) x5 (0 : Int32) (0 : Int32) (p159.1 : Int32) (p159.2.1 : Int32) (p159.2.2 : (Nat → Int32)) y37 f38) : (Int32 × (Nat → Int64)))) else (F_Wri_exactText_c75 A B C x3 x4 x5 x6 t0_0 t1_0 t2_0 t2_1 t3_0 t4_0 t4_1 t5_0 t6_0 t6_1 t6_2 p44 y37 f38 p69 p104 y84 y85 f86 y89 y90 f91 lx117 p159 (p159.1 : Int32) (p159.2.1 : Int32) (p159.2.2 : (Nat → Int32)) ((F_Dig_writeScience (11008 : Int32) (1376 : Int32) (1000000 : Int32) x5 (0 : Int32) (p159.1 : Int32) (p159.2.1 : Int32) (p159.2.2 : (Nat → Int32)) y37 f38) : (Int32 × (Nat → Int64))))
def F_Wri_exactText_J54 (A : Int32) (B : Int32) (C : Int32) (x3 : Int64) (x4 : Int32) (x5 : Int32) (x6 : Int32) (t0_0 : Int32) (t1_0 : (Nat → Int64)) (t2_0 : Int32) (t2_1 : Int32) (t3_0 : (Nat → Int32)) (t4_0 : Int32) (t4_1 : Int32) (t5_0 : (Nat → Int32)) (t6_0 : Int64) (t6_1 : Int32) (t6_2 : Int32) (p44 : (Int32 × (Nat → Int64))) (y37 : Int32) (f38 : (Nat → Int64)) (p69 : (Int32 × Int32 × Int32 × (Nat → Int32))) (p104 : (Int32 × Int32 × (Nat → Int32) × Int32 × Int32 × (Nat → Int32))) (y84 : Int32) (y85 : Int32) (f86 : (Nat → Int32)) (y89 : Int32) (y90 : Int32) (f91 : (Nat → Int32)) (lx117 : Int32) : Int32 × (Nat → Int64) × Int32 × Int32 × (Nat → Int32) × Int32 × Int32 × (Nat → Int32) := F_Wri_exactText_c56 A B C x3 x4 x5 x6 t0_0 t1_0 t2_0 t2_1 t3_0 t4_0 t4_1 t5_0 t6_0 t6_1 t6_2 p44 y37 f38 p69 p104 y84 y85 f86 y89 y90 f91 lx117 ((F_Dig_round lx117 x6 y84 y85 f86) : (Int32 × Int32 × (Nat → Int32)))
def F_Wri_exactText_c25 (A : Int32) (B : Int32) (C : Int32) (x3 : Int64) (x4 : Int32) (x5 : Int32) (x6 : Int32) (t0_0 : Int32) (t1_0 : (Nat → Int64)) (t2_0 : Int32) (t2_1 : Int32) (t3_0 : (Nat → Int32)) (t4_0 : Int32) (t4_1 : Int32) (t5_0 : (Nat → Int32)) (t6_0 : Int64) (t6_1 : Int32) (t6_2 : Int32) (p44 : (Int32 × (Nat → Int64))) (y37 : Int32) (f38 : (Nat → Int64)) (p69 : (Int32 × Int32 × Int32 × (Nat → Int32))) (p104 : (Int32 × Int32 × (Nat → Int32) × Int32 × Int32 × (Nat → Int32))) : Int32 × (Nat → Int64) × Int32 × Int32 × (Nat → Int32) × Int32 × Int32 × (Nat → Int32) := if x4 = (0 : Int32) then (F_Wri_exactText_J54 A B C x3 x4 x5 x6 t0_0 t1_0 t2_0 t2_1 t3_0 t4_0 t4_1 t5_0 t6_0 t6_1 t6_2 p44 y37 f38 p69 p104 (p104.1 : Int32) (p104.2.1 : Int32) (p104.2.2.1 : (Nat → Int32)) (p104.2.2.2.1 : Int32) (p104.2.2.2.2.1 : Int32) (p104.2.2.2.2.2 : (Nat → Int32)) (((p104.2.1 : Int32) + 1 : Int32) + x5 : Int32)) else (F_Wri_exactText_J54 A B C x3 x4 x5 x6 t0_0 t1_0 t2_0 t2_1 t3_0 t4_0 t4_1 t5_0 t6_0 t6_1 t6_2 p44 y37 f38 p69 p104 (p104.1 : Int32) (p104.2.1 : Int32) (p104.2.2.1 : (Nat → Int32)) (p104.2.2.2.1 : Int32) (p104.2.2.2.2.1 : Int32) (p104.2.2.2.2.2 : (Nat → Int32)) x5)
def F_Wri_exactText_c22 (A : Int32) (B : Int32) (C : Int32) (x3 : Int64) (x4 : Int32) (x5 : Int32) (x6 : Int32) (t0_0 : Int32) (t1_0 : (Nat → Int64)) (t2_0 : Int32) (t2_1 : Int32) (t3_0 : (Nat → Int32)) (t4_0 : Int32) (t4_1 : Int32) (t5_0 : (Nat → Int32)) (t6_0 : Int64) (t6_1 : Int32) (t6_2 : Int32) (p44 : (Int32 × (Nat → Int64))) (y37 : Int32) (f38 : (Nat → Int64)) (p69 : (Int32 × Int32 × Int32 × (Nat → Int32))) : Int32 × (Nat → Int64) × Int32 × Int32 × (Nat → Int32) × Int32 × Int32 × (Nat → Int32) := F_Wri_exactText_c25 A B C x3 x4 x5 x6 t0_0 t1_0 t2_0 t2_1 t3_0 t4_0 t4_1 t5_0 t6_0 t6_1 t6_2 p44 y37 f38 p69 ((F_Dig_fill (220 : Int32) (p69.1 : Int32) t2_0 t2_1 t3_0 (p69.2.1 : Int32) (p69.2.2.1 : Int32) (p69.2.2.2 : (Nat → Int32))) : (Int32 × Int32 × (Nat → Int32) × Int32 × Int32 × (Nat → Int32)))
def F_Wri_exactText_c6 (A : Int32) (B : Int32) (C : Int32) (x3 : Int64) (x4 : Int32) (x5 : Int32) (x6 : Int32) (t0_0 : Int32) (t1_0 : (Nat → Int64)) (t2_0 : Int32) (t2_1 : Int32) (t3_0 : (Nat → Int32)) (t4_0 : Int32) (t4_1 : Int32) (t5_0 : (Nat → Int32)) (t6_0 : Int64) (t6_1 : Int32) (t6_2 : Int32) (p44 : (Int32 × (Nat → Int64))) : Int32 × (Nat → Int64) × Int32 × Int32 × (Nat → Int32) × Int32 × Int32 × (Nat → Int32) := F_Wri_exactText_c22 A B C x3 x4 x5 x6 t0_0 t1_0 t2_0 t2_1 t3_0 t4_0 t4_1 t5_0 t6_0 t6_1 t6_2 p44 (p44.1 : Int32) (p44.2 : (Nat → Int64)) ((F_Flo_exactly A B C x3 t4_0 t4_1 t5_0) : (Int32 × Int32 × Int32 × (Nat → Int32)))
def F_Wri_exactText (A : Int32) (B : Int32) (C : Int32) (x3 : Int64) (x4 : Int32) (x5 : Int32) (x6 : Int32) (t0_0 : Int32) (t1_0 : (Nat → Int64)) (t2_0 : Int32) (t2_1 : Int32) (t3_0 : (Nat → Int32)) (t4_0 : Int32) (t4_1 : Int32) (t5_0 : (Nat → Int32)) (t6_0 : Int64) (t6_1 : Int32) (t6_2 : Int32) : Int32 × (Nat → Int64) × Int32 × Int32 × (Nat → Int32) × Int32 × Int32 × (Nat → Int32) := F_Wri_exactText_c6 A B C x3 x4 x5 x6 t0_0 t1_0 t2_0 t2_1 t3_0 t4_0 t4_1 t5_0 t6_0 t6_1 t6_2 ((F_Wri_begin_p ((F_Flo_isNegative A B C x3) : Int32) t0_0 t1_0) : (Int32 × (Nat → Int64)))
def S_Wri_exactText_c93 (A : Int32) (B : Int32) (C : Int32) (x3 : Int64) (x4 : Int32) (x5 : Int32) (x6 : Int32) (t0_0 : Int32) (t1_0 : (Nat → Int64)) (t2_0 : Int32) (t2_1 : Int32) (t3_0 : (Nat → Int32)) (t4_0 : Int32) (t4_1 : Int32) (t5_0 : (Nat → Int32)) (t6_0 : Int64) (t6_1 : Int32) (t6_2 : Int32) (p44 : (Int32 × (Nat → Int64))) (y37 : Int32) (f38 : (Nat → Int64)) (p69 : (Int32 × Int32 × Int32 × (Nat → Int32))) (p104 : (Int32 × Int32 × (Nat → Int32) × Int32 × Int32 × (Nat → Int32))) (y84 : Int32) (y85 : Int32) (f86 : (Nat → Int32)) (y89 : Int32) (y90 : Int32) (f91 : (Nat → Int32)) (lx117 : Int32) (p159 : (Int32 × Int32 × (Nat → Int32))) (y144 : Int32) (y145 : Int32) (f146 : (Nat → Int32)) (p186 : (Int32 × (Nat → Int64))) : Prop := True
def S_Wri_exactText_c75 (A : Int32) (B : Int32) (C : Int32) (x3 : Int64) (x4 : Int32) (x5 : Int32) (x6 : Int32) (t0_0 : Int32) (t1_0 : (Nat → Int64)) (t2_0 : Int32) (t2_1 : Int32) (t3_0 : (Nat → Int32)) (t4_0 : Int32) (t4_1 : Int32) (t5_0 : (Nat → Int32)) (t6_0 : Int64) (t6_1 : Int32) (t6_2 : Int32) (p44 : (Int32 × (Nat → Int64))) (y37 : Int32) (f38 : (Nat → Int64)) (p69 : (Int32 × Int32 × Int32 × (Nat → Int32))) (p104 : (Int32 × Int32 × (Nat → Int32) × Int32 × Int32 × (Nat → Int32))) (y84 : Int32) (y85 : Int32) (f86 : (Nat → Int32)) (y89 : Int32) (y90 : Int32) (f91 : (Nat → Int32)) (lx117 : Int32) (p159 : (Int32 × Int32 × (Nat → Int32))) (y144 : Int32) (y145 : Int32) (f146 : (Nat → Int32)) (p208 : (Int32 × (Nat → Int64))) : Prop := True
def S_Wri_exactText_c56 (A : Int32) (B : Int32) (C : Int32) (x3 : Int64) (x4 : Int32) (x5 : Int32) (x6 : Int32) (t0_0 : Int32) (t1_0 : (Nat → Int64)) (t2_0 : Int32) (t2_1 : Int32) (t3_0 : (Nat → Int32)) (t4_0 : Int32) (t4_1 : Int32) (t5_0 : (Nat → Int32)) (t6_0 : Int64) (t6_1 : Int32) (t6_2 : Int32) (p44 : (Int32 × (Nat → Int64))) (y37 : Int32) (f38 : (Nat → Int64)) (p69 : (Int32 × Int32 × Int32 × (Nat → Int32))) (p104 : (Int32 × Int32 × (Nat → Int32) × Int32 × Int32 × (Nat → Int32))) (y84 : Int32) (y85 : Int32) (f86 : (Nat → Int32)) (y89 : Int32) (y90 : Int32) (f91 : (Nat → Int32)) (lx117 : Int32) (p159 : (Int32 × Int32 × (Nat → Int32))) : Prop := if x4 = (0 : Int32) then (((p159.2.1 : Int32).toInt ≤ 200000) ∧ (S_Wri_exactText_c93 A B C x3 x4 x5 x6 t0_0 t1_0 t2_0 t2_1 t3_0 t4_0 t4_1 t5_0 t6_0 t6_1 t6_2 p44 y37 f38 p69 p104 y84 y85 f86 y89 y90 f91 lx117 p159 (p159.1 : Int32) (p159.2.1 : Int32) (p159.2.2 : (Nat → Int32)) ((F_Dig_writePlain (11008 : Int32) (1376 : Int32) (1000000 : Int32) x5 (0 : Int32) (0 : Int32) (p159.1 : Int32) (p159.2.1 : Int32) (p159.2.2 : (Nat → Int32)) y37 f38) : (Int32 × (Nat → Int64))))) else (S_Wri_exactText_c75 A B C x3 x4 x5 x6 t0_0 t1_0 t2_0 t2_1 t3_0 t4_0 t4_1 t5_0 t6_0 t6_1 t6_2 p44 y37 f38 p69 p104 y84 y85 f86 y89 y90 f91 lx117 p159 (p159.1 : Int32) (p159.2.1 : Int32) (p159.2.2 : (Nat → Int32)) ((F_Dig_writeScience (11008 : Int32) (1376 : Int32) (1000000 : Int32) x5 (0 : Int32) (p159.1 : Int32) (p159.2.1 : Int32) (p159.2.2 : (Nat → Int32)) y37 f38) : (Int32 × (Nat → Int64))))
def S_Wri_exactText_J54 (A : Int32) (B : Int32) (C : Int32) (x3 : Int64) (x4 : Int32) (x5 : Int32) (x6 : Int32) (t0_0 : Int32) (t1_0 : (Nat → Int64)) (t2_0 : Int32) (t2_1 : Int32) (t3_0 : (Nat → Int32)) (t4_0 : Int32) (t4_1 : Int32) (t5_0 : (Nat → Int32)) (t6_0 : Int64) (t6_1 : Int32) (t6_2 : Int32) (p44 : (Int32 × (Nat → Int64))) (y37 : Int32) (f38 : (Nat → Int64)) (p69 : (Int32 × Int32 × Int32 × (Nat → Int32))) (p104 : (Int32 × Int32 × (Nat → Int32) × Int32 × Int32 × (Nat → Int32))) (y84 : Int32) (y85 : Int32) (f86 : (Nat → Int32)) (y89 : Int32) (y90 : Int32) (f91 : (Nat → Int32)) (lx117 : Int32) : Prop := (0 ≤ lx117.toInt + 100000) ∧ ((lx117.toInt ≤ 100000) ∧ ((0 ≤ y85.toInt + 200000) ∧ ((y85.toInt ≤ 200000) ∧ (S_Wri_exactText_c56 A B C x3 x4 x5 x6 t0_0 t1_0 t2_0 t2_1 t3_0 t4_0 t4_1 t5_0 t6_0 t6_1 t6_2 p44 y37 f38 p69 p104 y84 y85 f86 y89 y90 f91 lx117 ((F_Dig_round lx117 x6 y84 y85 f86) : (Int32 × Int32 × (Nat → Int32)))))))
def S_Wri_exactText_c25 (A : Int32) (B : Int32) (C : Int32) (x3 : Int64) (x4 : Int32) (x5 : Int32) (x6 : Int32) (t0_0 : Int32) (t1_0 : (Nat → Int64)) (t2_0 : Int32) (t2_1 : Int32) (t3_0 : (Nat → Int32)) (t4_0 : Int32) (t4_1 : Int32) (t5_0 : (Nat → Int32)) (t6_0 : Int64) (t6_1 : Int32) (t6_2 : Int32) (p44 : (Int32 × (Nat → Int64))) (y37 : Int32) (f38 : (Nat → Int64)) (p69 : (Int32 × Int32 × Int32 × (Nat → Int32))) (p104 : (Int32 × Int32 × (Nat → Int32) × Int32 × Int32 × (Nat → Int32))) : Prop := if x4 = (0 : Int32) then (S_Wri_exactText_J54 A B C x3 x4 x5 x6 t0_0 t1_0 t2_0 t2_1 t3_0 t4_0 t4_1 t5_0 t6_0 t6_1 t6_2 p44 y37 f38 p69 p104 (p104.1 : Int32) (p104.2.1 : Int32) (p104.2.2.1 : (Nat → Int32)) (p104.2.2.2.1 : Int32) (p104.2.2.2.2.1 : Int32) (p104.2.2.2.2.2 : (Nat → Int32)) (((p104.2.1 : Int32) + 1 : Int32) + x5 : Int32)) else (S_Wri_exactText_J54 A B C x3 x4 x5 x6 t0_0 t1_0 t2_0 t2_1 t3_0 t4_0 t4_1 t5_0 t6_0 t6_1 t6_2 p44 y37 f38 p69 p104 (p104.1 : Int32) (p104.2.1 : Int32) (p104.2.2.1 : (Nat → Int32)) (p104.2.2.2.1 : Int32) (p104.2.2.2.2.1 : Int32) (p104.2.2.2.2.2 : (Nat → Int32)) x5)
def S_Wri_exactText_c22 (A : Int32) (B : Int32) (C : Int32) (x3 : Int64) (x4 : Int32) (x5 : Int32) (x6 : Int32) (t0_0 : Int32) (t1_0 : (Nat → Int64)) (t2_0 : Int32) (t2_1 : Int32) (t3_0 : (Nat → Int32)) (t4_0 : Int32) (t4_1 : Int32) (t5_0 : (Nat → Int32)) (t6_0 : Int64) (t6_1 : Int32) (t6_2 : Int32) (p44 : (Int32 × (Nat → Int64))) (y37 : Int32) (f38 : (Nat → Int64)) (p69 : (Int32 × Int32 × Int32 × (Nat → Int32))) : Prop := (True ∧ S_Dig_fill (220 : Int32) (p69.1 : Int32) t2_0 t2_1 t3_0 (p69.2.1 : Int32) (p69.2.2.1 : Int32) (p69.2.2.2 : (Nat → Int32))) ∧ (S_Wri_exactText_c25 A B C x3 x4 x5 x6 t0_0 t1_0 t2_0 t2_1 t3_0 t4_0 t4_1 t5_0 t6_0 t6_1 t6_2 p44 y37 f38 p69 ((F_Dig_fill (220 : Int32) (p69.1 : Int32) t2_0 t2_1 t3_0 (p69.2.1 : Int32) (p69.2.2.1 : Int32) (p69.2.2.2 : (Nat → Int32))) : (Int32 × Int32 × (Nat → Int32) × Int32 × Int32 × (Nat → Int32))))
def S_Wri_exactText_c6 (A : Int32) (B : Int32) (C : Int32) (x3 : Int64) (x4 : Int32) (x5 : Int32) (x6 : Int32) (t0_0 : Int32) (t1_0 : (Nat → Int64)) (t2_0 : Int32) (t2_1 : Int32) (t3_0 : (Nat → Int32)) (t4_0 : Int32) (t4_1 : Int32) (t5_0 : (Nat → Int32)) (t6_0 : Int64) (t6_1 : Int32) (t6_2 : Int32) (p44 : (Int32 × (Nat → Int64))) : Prop := S_Wri_exactText_c22 A B C x3 x4 x5 x6 t0_0 t1_0 t2_0 t2_1 t3_0 t4_0 t4_1 t5_0 t6_0 t6_1 t6_2 p44 (p44.1 : Int32) (p44.2 : (Nat → Int64)) ((F_Flo_exactly A B C x3 t4_0 t4_1 t5_0) : (Int32 × Int32 × Int32 × (Nat → Int32)))
def S_Wri_exactText (A : Int32) (B : Int32) (C : Int32) (x3 : Int64) (x4 : Int32) (x5 : Int32) (x6 : Int32) (t0_0 : Int32) (t1_0 : (Nat → Int64)) (t2_0 : Int32) (t2_1 : Int32) (t3_0 : (Nat → Int32)) (t4_0 : Int32) (t4_1 : Int32) (t5_0 : (Nat → Int32)) (t6_0 : Int64) (t6_1 : Int32) (t6_2 : Int32) : Prop := S_Wri_exactText_c6 A B C x3 x4 x5 x6 t0_0 t1_0 t2_0 t2_1 t3_0 t4_0 t4_1 t5_0 t6_0 t6_1 t6_2 ((F_Wri_begin_p ((F_Flo_isNegative A B C x3) : Int32) t0_0 t1_0) : (Int32 × (Nat → Int64)))
set_option maxRecDepth 100000 in
set_option maxHeartbeats 4000000 in
theorem X_Wri_exactText (l : Launch) (D : va_G) (g : Nat → ClassId) (q : Nat → Nat) (ws : va_W) (k2 : Nat) (A B C : Int32) (hB2 : q_isFlo (nsh g q) q k2 A B C) (x3 : Int64) (x4 : Int32) (x5 : Int32) (x6 : Int32) (hI : q_I (nsh g q) q ws) (t0_0 : Int32) (hT0 : ws[3]? = (some (q 3, .inr (1, [.ref (q 4), .int 11008, .int t0_0])) : Option (Nat × va_E))) (t1_0 : (Nat → Int64)) (hT1 : ws[4]? = (some (q 4, .inl (g 1, (1376 : Int32).toNatClampNeg, .inr (.inl t1_0))) : Option (Nat × va_E))) (t2_0 : Int32) (t2_1 : Int32) (hT2 : ws[36]? = (some (q 36, .inr (7, [.int t2_0, .int t2_1, .ref (q 37)])) : Option (Nat × va_E))) (t3_0 : (Nat → Int32)) (hT3 : ws[37]? = (some (q 37, .inl (g 2, 1026, .inl t3_0)) : Option (Nat × va_E))) (t4_0 : Int32) (t4_1 : Int32) (hT4 : ws[10]? = (some (q 10, .inr (2, [.ref (q 11), .int t4_0, .int t4_1])) : Option (Nat × va_E))) (t5_0 : (Nat → Int32)) (hT5 : ws[11]? = (some (q 11, .inl (g 0, (220 : Int32).toNatClampNeg, .inl t5_0)) : Option (Nat × va_E))) (t6_0 : Int64) (t6_1 : Int32) (t6_2 : Int32) (hT6 : ws[k2]? = (some (q k2, .inr (6, [.int A, .int B, .int C, .long t6_0, .int t6_1, .ref (q 9), .int t6_2])) : Option (Nat × va_E))) (hzx4 : 0 ≤ x4.toInt ∧ x4.toInt ≤ 1) (pre0 : 0 ≤ x5.toInt) (pre1 : x5.toInt ≤ 1100) (hS : True ∧ S_Wri_exactText A B C x3 x4 x5 x6 t0_0 t1_0 t2_0 t2_1 t3_0 t4_0 t4_1 t5_0 t6_0 t6_1 t6_2) : q_mV l y_Wri_exactText prog_12_method_10_code 7 5 0 0 D g [.ref (q 39), .ref (q k2), .long x3, .int x4, .int x5, .int x6] ws (fun u => q_I (nsh g q) q u ∧ q_un ws u [3, 4, 10, 11, 36, 37] ∧ ∃ (u0_0 : Int32) (u1_0 : (Nat → Int64)) (u2_0 : Int32) (u2_1 : Int32) (u3_0 : (Nat → Int32)) (u4_0 : Int32) (u4_1 : Int32) (u5_0 : (Nat → Int32)), u[3]? = (some (q 3, .inr (1, [.ref (q 4), .int 11008, .int u0_0])) : Option (Nat × va_E)) ∧ u[4]? = (some (q 4, .inl (g 1, (1376 : Int32).toNatClampNeg, .inr (.inl u1_0))) : Option (Nat × va_E)) ∧ u[36]? = (some (q 36, .inr (7, [.int u2_0, .int u2_1, .ref (q 37)])) : Option (Nat × va_E)) ∧ u[37]? = (some (q 37, .inl (g 2, 1026, .inl u3_0)) : Option (Nat × va_E)) ∧ u[10]? = (some (q 10, .inr (2, [.ref (q 11), .int u4_0, .int u4_1])) : Option (Nat × va_E)) ∧ u[11]? = (some (q 11, .inl (g 0, (220 : Int32).toNatClampNeg, .inl u5_0)) : Option (Nat × va_E)) ∧ (u0_0.toInt ≤ 420004) ∧ (0 ≤ u2_0.toInt) ∧ (u2_0.toInt ≤ 1026) ∧ (0 ≤ u2_1.toInt + 200000) ∧ (0 ≤ u4_0.toInt) ∧ (u4_0.toInt ≤ 220) ∧ (0 ≤ u4_1.toInt) ∧ (u4_1.toInt ≤ 1) ∧ (x4.toInt + 1 ≤ u0_0.toInt) ∧ (x5.toInt + 1 ≤ u0_0.toInt) ∧ (u2_1.toInt ≤ x4.toInt + 300000) ∧ (u2_1.toInt ≤ u0_0.toInt + 299998) ∧ (u2_1.toInt ≤ u2_0.toInt + 300000) ∧ (u0_0, u1_0, u2_0, u2_1, u3_0, u4_0, u4_1, u5_0) = (F_Wri_exactText A B C x3 x4 x5 x6 t0_0 t1_0 t2_0 t2_1 t3_0 t4_0 t4_1 t5_0 t6_0 t6_1 t6_2)) := by
  intro sz
  refine q_into (by decide) (Nat.le_of_ble_eq_true rfl) ?_
  intro p e s m below meth c ls hsz C0 V hl
  have hx := C0.1
  have hb := C0.2.1
  replace hzx4 : q_F (0 ≤ x4.toInt ∧ x4.toInt ≤ 1) := hzx4
  have btt0_0 := n_shW hI (n_h3 g q) hT0
  clear btt0_0
  have btt2_1 := (n_w36 hI hT2).2
  clear btt2_1
  have btt4_1 := (q_bigW hI (n_b10 g q) hT4).2
  clear btt4_1
  replace pre0 : q_F (0 ≤ x5.toInt) := pre0
  replace pre1 : q_F (x5.toInt ≤ 1100) := pre1
  have hF : q_un ws ws [3, 4, 10, 11, 36, 37] := q_u0
  have hl : lv_has ls 7 [(0, .ref (q 39)), (1, .ref (q k2)), (2, .long x3), (4, .int x4), (5, .int x5), (6, .int x6)] := hl
  refine lv_aload_n hx hb d_12_10_0 rfl (lv_at hl 0 rfl) ?_
  refine lv_aload_n hx hb d_12_10_1 rfl (lv_at hl 1 rfl) ?_
  refine lv_lload_n hx hb d_12_10_2 rfl (lv_at hl 2 rfl) ?_
  refine q_goi V (q_runV (As := [.long x3]) (rest := [.ref (q 39)]) (d := 2) (mc := 0) (ms := 0) (ci := 6) C0 V rfl LV_Wri_118 (X_Flo_isNegative l D g q ws k2 A B C hB2 x3 hI   _) rfl rfl hT6 rfl hl.1 rfl (Nat.le_of_ble_eq_true rfl) ⟨by decide, by decide⟩ ⟨Nat.le_of_ble_eq_true rfl, Nat.le_of_ble_eq_true rfl⟩ d_12_10_3) (fun a28 u26 H locs hp27 V => ?_)
  obtain ⟨rfl, b29, b30, hE31⟩ := hp27
  have e32 : a28 = (F_Flo_isNegative A B C x3) := hE31
  replace b29 : q_F (0 ≤ a28.toInt) := b29
  replace b30 : q_F (a28.toInt ≤ 1) := b30
  have hO33 := n_o39 hI
  refine q_gov V (q_runV (As := [.int a28]) (rest := []) (d := 2) (mc := 0) (ms := 0) (ci := 9) C0 V rfl LV_Wri_27 (X_Wri_begin_p l D g q ws  a28 hI t0_0 hT0 t1_0 hT1 ⟨(by first | with_reducible exact q_fe b29 | (have t1 : 0 ≤ a28.toInt := b29; omega)), (by first | with_reducible exact q_fe b30 | (have t1 : a28.toInt ≤ 1 := b30; omega))⟩ _) rfl rfl hO33 rfl hl.1 rfl (Nat.le_of_ble_eq_true rfl) ⟨by decide, by decide⟩ ⟨Nat.le_of_ble_eq_true rfl, Nat.le_of_ble_eq_true rfl⟩ d_12_10_6) (fun u34 H locs hp35 V => ?_)
  obtain ⟨hI, hZ9⟩ := hp35
  obtain ⟨hu43, hZ9⟩ := hZ9
  obtain ⟨y37, hZ9⟩ := hZ9
  obtain ⟨f38, hZ9⟩ := hZ9
  obtain ⟨hO36, hZ9⟩ := hZ9
  obtain ⟨hA39, hZ9⟩ := hZ9
  replace hZ9 := hZ9.2
  obtain ⟨b41, hE42⟩ := hZ9
  replace hO36 : u34[3]? = (some (q 3, .inr (1, [.ref (q 4), .int 11008, .int y37])) : Option (Nat × va_E)) := hO36
  replace hA39 : u34[4]? = (some (q 4, .inl (g 1, (1376 : Int32).toNatClampNeg, .inr (.inl f38))) : Option (Nat × va_E)) := hA39
  obtain ⟨p44, e45⟩ : ∃ z, z = (F_Wri_begin_p a28 t0_0 t1_0) := ⟨_, rfl⟩
  have e46 : y37 = p44.1 := congrArg (fun z => z.1) (hE42.trans e45.symm)
  have e47 : f38 = p44.2 := congrArg (fun z => z.2) (hE42.trans e45.symm)
  replace b41 : q_F (y37.toInt ≤ a28.toInt) := b41
  replace hT2 := (hu43 _ (by decide)).trans hT2
  replace hT3 := (hu43 _ (by decide)).trans hT3
  replace hT4 := (hu43 _ (by decide)).trans hT4
  replace hT5 := (hu43 _ (by decide)).trans hT5
  replace hT6 := (hu43 _ (by have z0 := hB2.2.2.2.2; simp only [List.mem_cons, List.not_mem_nil, or_false, not_or]; omega)).trans hT6
  replace hO33 := (hu43 _ (by decide)).trans hO33
  replace hF := q_uc hF hu43 (by first | exact (q_sk (q_mi 0 rfl) (q_sk (q_mi 1 rfl) q_s0)) | simp)
  have hR48 := (show F_Wri_exactText_c6 A B C x3 x4 x5 x6 t0_0 t1_0 t2_0 t2_1 t3_0 t4_0 t4_1 t5_0 t6_0 t6_1 t6_2 p44 = (F_Wri_exactText A B C x3 x4 x5 x6 t0_0 t1_0 t2_0 t2_1 t3_0 t4_0 t4_1 t5_0 t6_0 t6_1 t6_2) from (by rw [e45, e32, F_Wri_exactText.eq_1]))
  have hS49 := (show True ∧ S_Wri_exactText_c6 A B C x3 x4 x5 x6 t0_0 t1_0 t2_0 t2_1 t3_0 t4_0 t4_1 t5_0 t6_0 t6_1 t6_2 p44 from (by rw [e45, e32]; have h := hS; rw [S_Wri_exactText.eq_1] at h; with_reducible exact h))
  refine lv_aload_n hx hb d_12_10_9 rfl (lv_at hl 0 rfl) ?_
  refine q_get (ci := 9) (j := 2) (v := .ref (q 36)) C0 V i_Wri rfl rfl hO33 (by decide) w_331 rfl d_12_10_10 ?_
  refine lv_aload_n hx hb d_12_10_13 rfl (lv_at hl 0 rfl) ?_
  refine q_get (ci := 9) (j := 1) (v := .ref (q 9)) C0 V i_Wri rfl rfl hO33 (by decide) w_330 rfl d_12_10_14 ?_
  have hO53 := n_o9 hI
  refine q_get (ci := 4) (j := 0) (v := .ref (q 10)) C0 V i_Mil rfl rfl hO53 (by decide) w_110 rfl d_12_10_17 ?_
  refine lv_aload_n hx hb d_12_10_20 rfl (lv_at hl 1 rfl) ?_
  refine lv_lload_n hx hb d_12_10_21 rfl (lv_at hl 2 rfl) ?_
  refine q_goi V (q_runV (As := [.long x3]) (rest := [.ref (q 10), .ref (q 36)]) (d := 4) (mc := 0) (ms := 0) (ci := 6) C0 V rfl LV_Wri_192 (X_Flo_exactly l D g q u34 k2 A B C hB2 x3 hI t4_0 t4_1 hT4 t5_0 hT5  _) rfl rfl hT6 rfl hl.1 rfl (Nat.le_of_ble_eq_true rfl) ⟨by decide, by decide⟩ ⟨Nat.le_of_ble_eq_true rfl, Nat.le_of_ble_eq_true rfl⟩ d_12_10_22) (fun a56 u54 H locs hp55 V => ?_)
  obtain ⟨hI, hZ9⟩ := hp55
  obtain ⟨hu68, hZ9⟩ := hZ9
  obtain ⟨y58, hZ9⟩ := hZ9
  obtain ⟨y59, hZ9⟩ := hZ9
  obtain ⟨f60, hZ9⟩ := hZ9
  obtain ⟨hO57, hZ9⟩ := hZ9
  obtain ⟨hA61, hZ9⟩ := hZ9
  replace hZ9 := hZ9.2.2
  obtain ⟨b64, hZ9⟩ := hZ9
  replace hZ9 := hZ9.2
  obtain ⟨b66, hE67⟩ := hZ9
  replace hO57 : u54[10]? = (some (q 10, .inr (2, [.ref (q 11), .int y58, .int y59])) : Option (Nat × va_E)) := hO57
  replace hA61 : u54[11]? = (some (q 11, .inl (g 0, (220 : Int32).toNatClampNeg, .inl f60)) : Option (Nat × va_E)) := hA61
  obtain ⟨p69, e70⟩ : ∃ z, z = (F_Flo_exactly A B C x3 t4_0 t4_1 t5_0) := ⟨_, rfl⟩
  have e71 : a56 = p69.1 := congrArg (fun z => z.1) (hE67.trans e70.symm)
  have e72 : y58 = p69.2.1 := congrArg (fun z => z.2.1) (hE67.trans e70.symm)
  have e73 : y59 = p69.2.2.1 := congrArg (fun z => z.2.2.1) (hE67.trans e70.symm)
  have e74 : f60 = p69.2.2.2 := congrArg (fun z => z.2.2.2) (hE67.trans e70.symm)
  replace b64 : q_F (y58.toInt ≤ 220) := b64
  replace b66 : q_F (y59.toInt ≤ 1) := b66
  replace hO36 := (hu68 _ (by decide)).trans hO36
  replace hA39 := (hu68 _ (by decide)).trans hA39
  replace hT2 := (hu68 _ (by decide)).trans hT2
  replace hT3 := (hu68 _ (by decide)).trans hT3
  replace hO33 := (hu68 _ (by decide)).trans hO33
  replace hF := q_uc hF hu68 (by first | exact (q_sk (q_mi 2 rfl) (q_sk (q_mi 3 rfl) q_s0)) | simp)
  have hR75 := (show F_Wri_exactText_c22 A B C x3 x4 x5 x6 t0_0 t1_0 t2_0 t2_1 t3_0 t4_0 t4_1 t5_0 t6_0 t6_1 t6_2 p44 y37 f38 p69 = (F_Wri_exactText A B C x3 x4 x5 x6 t0_0 t1_0 t2_0 t2_1 t3_0 t4_0 t4_1 t5_0 t6_0 t6_1 t6_2) from Eq.trans (by rw [e70, e47, e46, F_Wri_exactText_c6.eq_1]) hR48)
  have hS76 := (show True ∧ S_Wri_exactText_c22 A B C x3 x4 x5 x6 t0_0 t1_0 t2_0 t2_1 t3_0 t4_0 t4_1 t5_0 t6_0 t6_1 t6_2 p44 y37 f38 p69 from (by rw [e70, e47, e46]; have h := hS49; rw [S_Wri_exactText_c6.eq_1] at h; with_reducible exact h))
  have ob80 : True ∧ S_Dig_fill (220 : Int32) a56 t2_0 t2_1 t3_0 y58 y59 f60 := (by rw [e74, e73, e72, e71]; have h := hS76; rw [S_Wri_exactText_c22.eq_1] at h; with_reducible exact h.2.1)
  refine q_gov V (q_runV (As := [.ref (q 10), .int a56]) (rest := []) (d := 3) (mc := 0) (ms := 0) (ci := 7) C0 V rfl LV_Wri_75 (X_Dig_fill l D g q u54 10 220 (n_b10 g q) (by decide) a56 hI t2_0 t2_1 hT2 t3_0 hT3 y58 y59 hO57 f60 hA61 ob80 _) rfl rfl hT2 rfl hl.1 rfl (Nat.le_of_ble_eq_true rfl) ⟨by decide, by decide⟩ ⟨Nat.le_of_ble_eq_true rfl, Nat.le_of_ble_eq_true rfl⟩ d_12_10_25) (fun u81 H locs hp82 V => ?_)
  obtain ⟨hI, hZ9⟩ := hp82
  obtain ⟨hu103, hZ9⟩ := hZ9
  obtain ⟨y84, hZ9⟩ := hZ9
  obtain ⟨y85, hZ9⟩ := hZ9
  obtain ⟨f86, hZ9⟩ := hZ9
  obtain ⟨y89, hZ9⟩ := hZ9
  obtain ⟨y90, hZ9⟩ := hZ9
  obtain ⟨f91, hZ9⟩ := hZ9
  obtain ⟨hO83, hZ9⟩ := hZ9
  obtain ⟨hA87, hZ9⟩ := hZ9
  obtain ⟨hO88, hZ9⟩ := hZ9
  obtain ⟨hA92, hZ9⟩ := hZ9
  obtain ⟨b93, hZ9⟩ := hZ9
  replace hZ9 := hZ9.2
  obtain ⟨b95, hZ9⟩ := hZ9
  obtain ⟨b96, hZ9⟩ := hZ9
  obtain ⟨b97, hZ9⟩ := hZ9
  obtain ⟨b98, hZ9⟩ := hZ9
  obtain ⟨b99, hZ9⟩ := hZ9
  obtain ⟨b100, hZ9⟩ := hZ9
  obtain ⟨b101, hE102⟩ := hZ9
  replace hO83 : u81[36]? = (some (q 36, .inr (7, [.int y84, .int y85, .ref (q 37)])) : Option (Nat × va_E)) := hO83
  replace hA87 : u81[37]? = (some (q 37, .inl (g 2, 1026, .inl f86)) : Option (Nat × va_E)) := hA87
  replace hO88 : u81[10]? = (some (q 10, .inr (2, [.ref (q 11), .int y89, .int y90])) : Option (Nat × va_E)) := hO88
  replace hA92 : u81[11]? = (some (q 11, .inl (g 0, (220 : Int32).toNatClampNeg, .inl f91)) : Option (Nat × va_E)) := hA92
  obtain ⟨p104, e105⟩ : ∃ z, z = (F_Dig_fill (220 : Int32) a56 t2_0 t2_1 t3_0 y58 y59 f60) := ⟨_, rfl⟩
  have e106 : y84 = p104.1 := congrArg (fun z => z.1) (hE102.trans e105.symm)
  have e107 : y85 = p104.2.1 := congrArg (fun z => z.2.1) (hE102.trans e105.symm)
  have e108 : f86 = p104.2.2.1 := congrArg (fun z => z.2.2.1) (hE102.trans e105.symm)
  have e109 : y89 = p104.2.2.2.1 := congrArg (fun z => z.2.2.2.1) (hE102.trans e105.symm)
  have e110 : y90 = p104.2.2.2.2.1 := congrArg (fun z => z.2.2.2.2.1) (hE102.trans e105.symm)
  have e111 : f91 = p104.2.2.2.2.2 := congrArg (fun z => z.2.2.2.2.2) (hE102.trans e105.symm)
  replace b93 : q_F (0 ≤ y84.toInt) := b93
  replace b95 : q_F (0 ≤ y85.toInt + 1000000) := b95
  replace b96 : q_F (y85.toInt ≤ 1000000) := b96
  replace b97 : q_F (0 ≤ y89.toInt) := b97
  replace b98 : q_F (0 ≤ y90.toInt) := b98
  replace b99 : q_F (y89.toInt ≤ y58.toInt) := b99
  replace b100 : q_F (y90.toInt ≤ y59.toInt) := b100
  replace b101 : q_F (y85.toInt ≤ y84.toInt + 999999) := b101
  replace hO36 := (hu103 _ (by decide)).trans hO36
  replace hA39 := (hu103 _ (by decide)).trans hA39
  replace hO33 := (hu103 _ (by decide)).trans hO33
  replace hF := q_uc hF hu103 (by first | exact (q_sk (q_mi 4 rfl) (q_sk (q_mi 5 rfl) (q_sk (q_mi 2 rfl) (q_sk (q_mi 3 rfl) q_s0)))) | simp)
  have hR112 := (show F_Wri_exactText_c25 A B C x3 x4 x5 x6 t0_0 t1_0 t2_0 t2_1 t3_0 t4_0 t4_1 t5_0 t6_0 t6_1 t6_2 p44 y37 f38 p69 p104 = (F_Wri_exactText A B C x3 x4 x5 x6 t0_0 t1_0 t2_0 t2_1 t3_0 t4_0 t4_1 t5_0 t6_0 t6_1 t6_2) from Eq.trans (by rw [e105, e74, e73, e72, e71, F_Wri_exactText_c22.eq_1]) hR75)
  have hS113 := (show True ∧ S_Wri_exactText_c25 A B C x3 x4 x5 x6 t0_0 t1_0 t2_0 t2_1 t3_0 t4_0 t4_1 t5_0 t6_0 t6_1 t6_2 p44 y37 f38 p69 p104 from (by rw [e105, e74, e73, e72, e71]; have h := hS76; rw [S_Wri_exactText_c22.eq_1] at h; replace h := q_s2 h; with_reducible exact h))
  refine lv_aload_n hx hb d_12_10_28 rfl (lv_at hl 0 rfl) ?_
  refine q_get (ci := 9) (j := 2) (v := .ref (q 36)) C0 V i_Wri rfl rfl hO33 (by decide) w_331 rfl d_12_10_29 ?_
  refine lv_iload hx hb d_12_10_32 (lv_at hl 3 rfl) ?_
  refine q_join (X := Int32) (fun z H locs ls _ => q_F (x4.toInt ≤ z.toInt + 999999) ∧ q_F (x5.toInt ≤ z.toInt + 999999) ∧ q_F (z.toInt ≤ x5.toInt + 1000001) ∧ q_F (z.toInt ≤ y84.toInt + 1001100) ∧ q_F (y85.toInt ≤ z.toInt + 1000000) ∧ q_F (z.toInt ≤ y85.toInt + 1001100) ∧ q_Wd D g (va_A ws sz) s u81 H locs ∧ lv_has ls 7 [(0, .ref (q 39)), (4, .int x4), (5, .int x5), (6, .int x6)] ∧ F_Wri_exactText_J54 A B C x3 x4 x5 x6 t0_0 t1_0 t2_0 t2_1 t3_0 t4_0 t4_1 t5_0 t6_0 t6_1 t6_2 p44 y37 f38 p69 p104 y84 y85 f86 y89 y90 f91 z = (F_Wri_exactText A B C x3 x4 x5 x6 t0_0 t1_0 t2_0 t2_1 t3_0 t4_0 t4_1 t5_0 t6_0 t6_1 t6_2) ∧ True ∧ S_Wri_exactText_J54 A B C x3 x4 x5 x6 t0_0 t1_0 t2_0 t2_1 t3_0 t4_0 t4_1 t5_0 t6_0 t6_1 t6_2 p44 y37 f38 p69 p104 y84 y85 f86 y89 y90 f91 z) (fun z => [.int z, .ref (q 36)]) 54 0 0 ?_ ?_
  ·
    rintro lx117 H locs ls _ hZ9
    replace hZ9 := hZ9.2.2.2.2.2.2
    obtain ⟨V, hZ9⟩ := hZ9
    obtain ⟨hl, hZ9⟩ := hZ9
    obtain ⟨hR132, hS133⟩ := hZ9
    replace hl : lv_has ls 7 [(0, .ref (q 39)), (4, .int x4), (5, .int x5), (6, .int x6)] := hl
    refine lv_iload hx hb d_12_10_54 (lv_at hl 3 rfl) ?_
    have ob137 : q_F (0 ≤ lx117.toInt + 100000) := (by have h := hS133; rw [S_Wri_exactText_J54.eq_1] at h; exact h.2.1)
    have ob138 : q_F (lx117.toInt ≤ 100000) := (by have h := hS133; rw [S_Wri_exactText_J54.eq_1] at h; replace h := q_s2 h; exact h.2.1)
    have ob139 : q_F (0 ≤ y85.toInt + 200000) := (by have h := hS133; rw [S_Wri_exactText_J54.eq_1] at h; replace h := q_s2 h; replace h := q_s2 h; exact h.2.1)
    have ob140 : q_F (y85.toInt ≤ 200000) := (by have h := hS133; rw [S_Wri_exactText_J54.eq_1] at h; replace h := q_s2 h; replace h := q_s2 h; replace h := q_s2 h; exact h.2.1)
    refine q_gov V (q_runV (As := [.int lx117, .int x6]) (rest := []) (d := 3) (mc := 0) (ms := 0) (ci := 7) C0 V rfl LV_Wri_195 (X_Dig_round l D g q u81  lx117 x6 hI y84 y85 hO83 f86 hA87 (by first | with_reducible exact q_fe ob137 | (have t1 : 0 ≤ lx117.toInt + 100000 := ob137; omega)) (by first | with_reducible exact q_fe ob138 | (have t1 : lx117.toInt ≤ 100000 := ob138; omega)) (by first | with_reducible exact q_fe ob139 | (have t1 : 0 ≤ y85.toInt + 200000 := ob139; omega)) (by first | with_reducible exact q_fe ob140 | (have t1 : y85.toInt ≤ 200000 := ob140; omega)) _) rfl rfl hO83 rfl hl.1 rfl (Nat.le_of_ble_eq_true rfl) ⟨by decide, by decide⟩ ⟨Nat.le_of_ble_eq_true rfl, Nat.le_of_ble_eq_true rfl⟩ d_12_10_56) (fun u141 H locs hp142 V => ?_)
    obtain ⟨hI, hZ9⟩ := hp142
    obtain ⟨hu158, hZ9⟩ := hZ9
    obtain ⟨y144, hZ9⟩ := hZ9
    obtain ⟨y145, hZ9⟩ := hZ9
    obtain ⟨f146, hZ9⟩ := hZ9
    obtain ⟨hO143, hZ9⟩ := hZ9
    obtain ⟨hA147, hZ9⟩ := hZ9
    obtain ⟨b148, hZ9⟩ := hZ9
    obtain ⟨b149, hZ9⟩ := hZ9
    obtain ⟨b150, hZ9⟩ := hZ9
    obtain ⟨b151, hZ9⟩ := hZ9
    replace hZ9 := hZ9.2.2.2.2
    obtain ⟨b156, hE157⟩ := hZ9
    replace hO143 : u141[36]? = (some (q 36, .inr (7, [.int y144, .int y145, .ref (q 37)])) : Option (Nat × va_E)) := hO143
    replace hA147 : u141[37]? = (some (q 37, .inl (g 2, 1026, .inl f146)) : Option (Nat × va_E)) := hA147
    obtain ⟨p159, e160⟩ : ∃ z, z = (F_Dig_round lx117 x6 y84 y85 f86) := ⟨_, rfl⟩
    have e161 : y144 = p159.1 := congrArg (fun z => z.1) (hE157.trans e160.symm)
    have e162 : y145 = p159.2.1 := congrArg (fun z => z.2.1) (hE157.trans e160.symm)
    have e163 : f146 = p159.2.2 := congrArg (fun z => z.2.2) (hE157.trans e160.symm)
    replace b148 : q_F (0 ≤ y144.toInt) := b148
    replace b149 : q_F (y144.toInt ≤ 1026) := b149
    replace b150 : q_F (0 ≤ y145.toInt + 200000) := b150
    replace b151 : q_F (y145.toInt ≤ 300001) := b151
    replace b156 : q_F (y145.toInt ≤ y144.toInt + 300000) := b156
    replace hO36 := (hu158 _ (by decide)).trans hO36
    replace hA39 := (hu158 _ (by decide)).trans hA39
    replace hO88 := (hu158 _ (by decide)).trans hO88
    replace hA92 := (hu158 _ (by decide)).trans hA92
    replace hO33 := (hu158 _ (by decide)).trans hO33
    replace hF := q_uc hF hu158 (by first | exact (q_sk (q_mi 4 rfl) (q_sk (q_mi 5 rfl) q_s0)) | simp)
    have hR164 := (show F_Wri_exactText_c56 A B C x3 x4 x5 x6 t0_0 t1_0 t2_0 t2_1 t3_0 t4_0 t4_1 t5_0 t6_0 t6_1 t6_2 p44 y37 f38 p69 p104 y84 y85 f86 y89 y90 f91 lx117 p159 = (F_Wri_exactText A B C x3 x4 x5 x6 t0_0 t1_0 t2_0 t2_1 t3_0 t4_0 t4_1 t5_0 t6_0 t6_1 t6_2) from Eq.trans (by rw [e160, F_Wri_exactText_J54.eq_1]) hR132)
    have hS165 := (show True ∧ S_Wri_exactText_c56 A B C x3 x4 x5 x6 t0_0 t1_0 t2_0 t2_1 t3_0 t4_0 t4_1 t5_0 t6_0 t6_1 t6_2 p44 y37 f38 p69 p104 y84 y85 f86 y89 y90 f91 lx117 p159 from (by rw [e160]; have h := hS133; rw [S_Wri_exactText_J54.eq_1] at h; replace h := q_s2 h; replace h := q_s2 h; replace h := q_s2 h; replace h := q_s2 h; with_reducible exact h))
    refine lv_iload hx hb d_12_10_59 (lv_at hl 1 rfl) ?_
    refine lv_if_eq (tgt := 81) hx hb d_12_10_61 (by decide) (fun c169 => ?_) (fun c169 => ?_)
    ·
      have b170 : q_F (x4.toInt = 0) := (q_eqI c169)
      refine lv_aload_n hx hb d_12_10_81 rfl (lv_at hl 0 rfl) ?_
      refine q_get (ci := 9) (j := 2) (v := .ref (q 36)) C0 V i_Wri rfl rfl hO33 (by decide) w_331 rfl d_12_10_82 ?_
      refine lv_aload_n hx hb d_12_10_85 rfl (lv_at hl 0 rfl) ?_
      refine q_get (ci := 9) (j := 0) (v := .ref (q 3)) C0 V i_Wri rfl rfl hO33 (by decide) w_329 rfl d_12_10_86 ?_
      refine lv_iload hx hb d_12_10_89 (lv_at hl 2 rfl) ?_
      refine lv_iconst (v := 0) hx hb d_12_10_91 (by decide) ?_
      refine lv_iconst (v := 0) hx hb d_12_10_92 (by decide) ?_
      have ob171 : q_F (y145.toInt ≤ 200000) := (by rw [e162]; have h := hS165; rw [S_Wri_exactText_c56.eq_1] at h; rw [if_pos c169] at h; exact h.2.1)
      refine q_gov V (q_runV (As := [.ref (q 3), .int x5, .int 0, .int 0]) (rest := []) (d := 2) (mc := 0) (ms := 0) (ci := 7) C0 V rfl LV_Wri_90 (X_Dig_writePlain l D g q u141 3 11008 1376 1000000 (n_h3 g q) x5 0 0 hI y144 y145 hO143 f146 hA147 y37 hO36 f38 hA39 ⟨(by have y0 : (11008 : Int32).toInt = 11008 := rfl; have y1 : (1376 : Int32).toInt = 1376 := rfl; have y2 : (1000000 : Int32).toInt = 1000000 := rfl; have y3 : (0 : Int32).toInt = 0 := rfl; have y4 : (0 : Int32).toInt = 0 := rfl; omega), (by have y0 : (11008 : Int32).toInt = 11008 := rfl; have y1 : (1376 : Int32).toInt = 1376 := rfl; have y2 : (1000000 : Int32).toInt = 1000000 := rfl; have y3 : (0 : Int32).toInt = 0 := rfl; have y4 : (0 : Int32).toInt = 0 := rfl; omega)⟩ ⟨(by have y0 : (11008 : Int32).toInt = 11008 := rfl; have y1 : (1376 : Int32).toInt = 1376 := rfl; have y2 : (1000000 : Int32).toInt = 1000000 := rfl; have y3 : (0 : Int32).toInt = 0 := rfl; have y4 : (0 : Int32).toInt = 0 := rfl; omega), (by have y0 : (11008 : Int32).toInt = 11008 := rfl; have y1 : (1376 : Int32).toInt = 1376 := rfl; have y2 : (1000000 : Int32).toInt = 1000000 := rfl; have y3 : (0 : Int32).toInt = 0 := rfl; have y4 : (0 : Int32).toInt = 0 := rfl; omega)⟩ (by have y0 : (11008 : Int32).toInt = 11008 := rfl; have y1 : (1376 : Int32).toInt = 1376 := rfl; have y2 : (1000000 : Int32).toInt = 1000000 := rfl; have y3 : (0 : Int32).toInt = 0 := rfl; have y4 : (0 : Int32).toInt = 0 := rfl; have t1 : y145.toInt ≤ 200000 := ob171; omega) (by have y0 : (11008 : Int32).toInt = 11008 := rfl; have y1 : (1376 : Int32).toInt = 1376 := rfl; have y2 : (1000000 : Int32).toInt = 1000000 := rfl; have y3 : (0 : Int32).toInt = 0 := rfl; have y4 : (0 : Int32).toInt = 0 := rfl; have t1 : x5.toInt ≤ 1100 := pre1; omega) (by have y0 : (11008 : Int32).toInt = 11008 := rfl; have y1 : (1376 : Int32).toInt = 1376 := rfl; have y2 : (1000000 : Int32).toInt = 1000000 := rfl; have y3 : (0 : Int32).toInt = 0 := rfl; have y4 : (0 : Int32).toInt = 0 := rfl; have t1 : a28.toInt ≤ 1 := b30; have t2 : y37.toInt ≤ a28.toInt := b41; omega) (by have y0 : (11008 : Int32).toInt = 11008 := rfl; have y1 : (1376 : Int32).toInt = 1376 := rfl; have y2 : (1000000 : Int32).toInt = 1000000 := rfl; have y3 : (0 : Int32).toInt = 0 := rfl; have y4 : (0 : Int32).toInt = 0 := rfl; omega) _) rfl rfl hO143 rfl hl.1 rfl (Nat.le_of_ble_eq_true rfl) ⟨by decide, by decide⟩ ⟨Nat.le_of_ble_eq_true rfl, Nat.le_of_ble_eq_true rfl⟩ d_12_10_93) (fun u172 H locs hp173 V => ?_)
      obtain ⟨hI, hZ9⟩ := hp173
      obtain ⟨hu185, hZ9⟩ := hZ9
      obtain ⟨y175, hZ9⟩ := hZ9
      obtain ⟨f176, hZ9⟩ := hZ9
      obtain ⟨hO174, hZ9⟩ := hZ9
      obtain ⟨hA177, hZ9⟩ := hZ9
      obtain ⟨b178, hZ9⟩ := hZ9
      obtain ⟨b179, hZ9⟩ := hZ9
      replace hZ9 := hZ9.2.2.2
      obtain ⟨b183, hE184⟩ := hZ9
      replace hO174 : u172[3]? = (some (q 3, .inr (1, [.ref (q 4), .int 11008, .int y175])) : Option (Nat × va_E)) := hO174
      replace hA177 : u172[4]? = (some (q 4, .inl (g 1, (1376 : Int32).toNatClampNeg, .inr (.inl f176))) : Option (Nat × va_E)) := hA177
      obtain ⟨p186, e187⟩ : ∃ z, z = (F_Dig_writePlain (11008 : Int32) (1376 : Int32) (1000000 : Int32) x5 (0 : Int32) (0 : Int32) y144 y145 f146 y37 f38) := ⟨_, rfl⟩
      have e188 : y175 = p186.1 := congrArg (fun z => z.1) (hE184.trans e187.symm)
      have e189 : f176 = p186.2 := congrArg (fun z => z.2) (hE184.trans e187.symm)
      replace b178 : q_F (x5.toInt + 1 ≤ y175.toInt) := b178
      replace b179 : q_F (0 + 1 ≤ y175.toInt) := b179
      replace b183 : q_F (y175.toInt ≤ y37.toInt + 420003) := b183
      replace hO143 := (hu185 _ (by decide)).trans hO143
      replace hA147 := (hu185 _ (by decide)).trans hA147
      replace hO88 := (hu185 _ (by decide)).trans hO88
      replace hA92 := (hu185 _ (by decide)).trans hA92
      replace hF := q_uc hF hu185 (by first | exact (q_sk (q_mi 0 rfl) (q_sk (q_mi 1 rfl) q_s0)) | simp)
      have hR190 := (show F_Wri_exactText_c93 A B C x3 x4 x5 x6 t0_0 t1_0 t2_0 t2_1 t3_0 t4_0 t4_1 t5_0 t6_0 t6_1 t6_2 p44 y37 f38 p69 p104 y84 y85 f86 y89 y90 f91 lx117 p159 y144 y145 f146 p186 = (F_Wri_exactText A B C x3 x4 x5 x6 t0_0 t1_0 t2_0 t2_1 t3_0 t4_0 t4_1 t5_0 t6_0 t6_1 t6_2) from Eq.trans (by rw [e187, e163, e162, e161, F_Wri_exactText_c56.eq_1, if_pos c169]) hR164)
      have hS191 := (show True ∧ S_Wri_exactText_c93 A B C x3 x4 x5 x6 t0_0 t1_0 t2_0 t2_1 t3_0 t4_0 t4_1 t5_0 t6_0 t6_1 t6_2 p44 y37 f38 p69 p104 y84 y85 f86 y89 y90 f91 lx117 p159 y144 y145 f146 p186 from (by rw [e187, e163, e162, e161]; have h := hS165; rw [S_Wri_exactText_c56.eq_1] at h; rw [if_pos c169] at h; replace h := q_s2 h; with_reducible exact h))
      exact q_retv C0 V (⟨hI, hF, y175, f176, y144, y145, f146, y89, y90, f91, hO174, hA177, hO143, hA147, hO88, hA92, (show y175.toInt ≤ 420004 from (by have t1 : a28.toInt ≤ 1 := b30; have t2 : y37.toInt ≤ a28.toInt := b41; have t3 : y175.toInt ≤ y37.toInt + 420003 := b183; omega)), (show 0 ≤ y144.toInt from (by first | with_reducible exact q_fe b148 | (have t1 : 0 ≤ y144.toInt := b148; omega))), (show y144.toInt ≤ 1026 from (by first | with_reducible exact q_fe b149 | (have t1 : y144.toInt ≤ 1026 := b149; omega))), (show 0 ≤ y145.toInt + 200000 from (by first | with_reducible exact q_fe b150 | (have t1 : 0 ≤ y145.toInt + 200000 := b150; omega))), (show 0 ≤ y89.toInt from (by first | with_reducible exact q_fe b97 | (have t1 : 0 ≤ y89.toInt := b97; omega))), (show y89.toInt ≤ 220 from (by have t1 : y58.toInt ≤ 220 := b64; have t2 : y89.toInt ≤ y58.toInt := b99; omega)), (show 0 ≤ y90.toInt from (by first | with_reducible exact q_fe b98 | (have t1 : 0 ≤ y90.toInt := b98; omega))), (show y90.toInt ≤ 1 from (by have t1 : y59.toInt ≤ 1 := b66; have t2 : y90.toInt ≤ y59.toInt := b100; omega)), (show x4.toInt + 1 ≤ y175.toInt from (by have t1 : x4.toInt = 0 := b170; have t2 : 0 + 1 ≤ y175.toInt := b179; omega)), (show x5.toInt + 1 ≤ y175.toInt from (by first | with_reducible exact q_fe b178 | (have t1 : x5.toInt + 1 ≤ y175.toInt := b178; omega))), (show y145.toInt ≤ x4.toInt + 300000 from (by have t1 : 0 ≤ x4.toInt ∧ x4.toInt ≤ 1 := hzx4; have t2 : y145.toInt ≤ 200000 := ob171; omega)), (show y145.toInt ≤ y175.toInt + 299998 from (by have t1 : y145.toInt ≤ 200000 := ob171; have t2 : 0 + 1 ≤ y175.toInt := b179; omega)), (show y145.toInt ≤ y144.toInt + 300000 from (by first | with_reducible exact q_fe b156 | (have t1 : y145.toInt ≤ y144.toInt + 300000 := b156; omega))), (show (y175, f176, y144, y145, f146, y89, y90, f91) = (F_Wri_exactText A B C x3 x4 x5 x6 t0_0 t1_0 t2_0 t2_1 t3_0 t4_0 t4_1 t5_0 t6_0 t6_1 t6_2) from Eq.trans (by rw [e189, e188, F_Wri_exactText_c93.eq_1]) hR190)⟩) d_12_10_96
    ·
      have b195 : q_F (x4.toInt ≠ 0) := (q_neI c169)
      refine lv_aload_n hx hb d_12_10_64 rfl (lv_at hl 0 rfl) ?_
      refine q_get (ci := 9) (j := 2) (v := .ref (q 36)) C0 V i_Wri rfl rfl hO33 (by decide) w_331 rfl d_12_10_65 ?_
      refine lv_aload_n hx hb d_12_10_68 rfl (lv_at hl 0 rfl) ?_
      refine q_get (ci := 9) (j := 0) (v := .ref (q 3)) C0 V i_Wri rfl rfl hO33 (by decide) w_329 rfl d_12_10_69 ?_
      refine lv_iload hx hb d_12_10_72 (lv_at hl 2 rfl) ?_
      refine lv_iconst (v := 0) hx hb d_12_10_74 (by decide) ?_
      refine q_gov V (q_runV (As := [.ref (q 3), .int x5, .int 0]) (rest := []) (d := 3) (mc := 0) (ms := 0) (ci := 7) C0 V rfl LV_Wri_198 (X_Dig_writeScience l D g q u141 3 11008 1376 1000000 (n_h3 g q) x5 0 hI y144 y145 hO143 f146 hA147 y37 hO36 f38 hA39 ⟨(by have y0 : (11008 : Int32).toInt = 11008 := rfl; have y1 : (1376 : Int32).toInt = 1376 := rfl; have y2 : (1000000 : Int32).toInt = 1000000 := rfl; have y3 : (0 : Int32).toInt = 0 := rfl; omega), (by have y0 : (11008 : Int32).toInt = 11008 := rfl; have y1 : (1376 : Int32).toInt = 1376 := rfl; have y2 : (1000000 : Int32).toInt = 1000000 := rfl; have y3 : (0 : Int32).toInt = 0 := rfl; omega)⟩ (by have y0 : (11008 : Int32).toInt = 11008 := rfl; have y1 : (1376 : Int32).toInt = 1376 := rfl; have y2 : (1000000 : Int32).toInt = 1000000 := rfl; have y3 : (0 : Int32).toInt = 0 := rfl; have t1 : x5.toInt ≤ 1100 := pre1; omega) (by have y0 : (11008 : Int32).toInt = 11008 := rfl; have y1 : (1376 : Int32).toInt = 1376 := rfl; have y2 : (1000000 : Int32).toInt = 1000000 := rfl; have y3 : (0 : Int32).toInt = 0 := rfl; have t1 : a28.toInt ≤ 1 := b30; have t2 : y37.toInt ≤ a28.toInt := b41; omega) (by have y0 : (11008 : Int32).toInt = 11008 := rfl; have y1 : (1376 : Int32).toInt = 1376 := rfl; have y2 : (1000000 : Int32).toInt = 1000000 := rfl; have y3 : (0 : Int32).toInt = 0 := rfl; omega) _) rfl rfl hO143 rfl hl.1 rfl (Nat.le_of_ble_eq_true rfl) ⟨by decide, by decide⟩ ⟨Nat.le_of_ble_eq_true rfl, Nat.le_of_ble_eq_true rfl⟩ d_12_10_75) (fun u196 H locs hp197 V => ?_)
      obtain ⟨hI, hZ9⟩ := hp197
      obtain ⟨hu207, hZ9⟩ := hZ9
      obtain ⟨y199, hZ9⟩ := hZ9
      obtain ⟨f200, hZ9⟩ := hZ9
      obtain ⟨hO198, hZ9⟩ := hZ9
      obtain ⟨hA201, hZ9⟩ := hZ9
      obtain ⟨b202, hZ9⟩ := hZ9
      obtain ⟨b203, hZ9⟩ := hZ9
      replace hZ9 := hZ9.2
      obtain ⟨b205, hE206⟩ := hZ9
      replace hO198 : u196[3]? = (some (q 3, .inr (1, [.ref (q 4), .int 11008, .int y199])) : Option (Nat × va_E)) := hO198
      replace hA201 : u196[4]? = (some (q 4, .inl (g 1, (1376 : Int32).toNatClampNeg, .inr (.inl f200))) : Option (Nat × va_E)) := hA201
      obtain ⟨p208, e209⟩ : ∃ z, z = (F_Dig_writeScience (11008 : Int32) (1376 : Int32) (1000000 : Int32) x5 (0 : Int32) y144 y145 f146 y37 f38) := ⟨_, rfl⟩
      have e210 : y199 = p208.1 := congrArg (fun z => z.1) (hE206.trans e209.symm)
      have e211 : f200 = p208.2 := congrArg (fun z => z.2) (hE206.trans e209.symm)
      replace b202 : q_F (x5.toInt + 2 ≤ y199.toInt) := b202
      replace b203 : q_F (0 + 3 ≤ y199.toInt) := b203
      replace b205 : q_F (y199.toInt ≤ y37.toInt + 20008) := b205
      replace hO143 := (hu207 _ (by decide)).trans hO143
      replace hA147 := (hu207 _ (by decide)).trans hA147
      replace hO88 := (hu207 _ (by decide)).trans hO88
      replace hA92 := (hu207 _ (by decide)).trans hA92
      replace hF := q_uc hF hu207 (by first | exact (q_sk (q_mi 0 rfl) (q_sk (q_mi 1 rfl) q_s0)) | simp)
      have hR212 := (show F_Wri_exactText_c75 A B C x3 x4 x5 x6 t0_0 t1_0 t2_0 t2_1 t3_0 t4_0 t4_1 t5_0 t6_0 t6_1 t6_2 p44 y37 f38 p69 p104 y84 y85 f86 y89 y90 f91 lx117 p159 y144 y145 f146 p208 = (F_Wri_exactText A B C x3 x4 x5 x6 t0_0 t1_0 t2_0 t2_1 t3_0 t4_0 t4_1 t5_0 t6_0 t6_1 t6_2) from Eq.trans (by rw [e209, e163, e162, e161, F_Wri_exactText_c56.eq_1, if_neg c169]) hR164)
      have hS213 := (show True ∧ S_Wri_exactText_c75 A B C x3 x4 x5 x6 t0_0 t1_0 t2_0 t2_1 t3_0 t4_0 t4_1 t5_0 t6_0 t6_1 t6_2 p44 y37 f38 p69 p104 y84 y85 f86 y89 y90 f91 lx117 p159 y144 y145 f146 p208 from (by rw [e209, e163, e162, e161]; have h := hS165; rw [S_Wri_exactText_c56.eq_1] at h; rw [if_neg c169] at h; with_reducible exact h))
      refine lv_goto (tgt := 96) hx hb d_12_10_78 (by decide) ?_
      exact q_retv C0 V (⟨hI, hF, y199, f200, y144, y145, f146, y89, y90, f91, hO198, hA201, hO143, hA147, hO88, hA92, (show y199.toInt ≤ 420004 from (by have t1 : a28.toInt ≤ 1 := b30; have t2 : y37.toInt ≤ a28.toInt := b41; have t3 : y199.toInt ≤ y37.toInt + 20008 := b205; omega)), (show 0 ≤ y144.toInt from (by first | with_reducible exact q_fe b148 | (have t1 : 0 ≤ y144.toInt := b148; omega))), (show y144.toInt ≤ 1026 from (by first | with_reducible exact q_fe b149 | (have t1 : y144.toInt ≤ 1026 := b149; omega))), (show 0 ≤ y145.toInt + 200000 from (by first | with_reducible exact q_fe b150 | (have t1 : 0 ≤ y145.toInt + 200000 := b150; omega))), (show 0 ≤ y89.toInt from (by first | with_reducible exact q_fe b97 | (have t1 : 0 ≤ y89.toInt := b97; omega))), (show y89.toInt ≤ 220 from (by have t1 : y58.toInt ≤ 220 := b64; have t2 : y89.toInt ≤ y58.toInt := b99; omega)), (show 0 ≤ y90.toInt from (by first | with_reducible exact q_fe b98 | (have t1 : 0 ≤ y90.toInt := b98; omega))), (show y90.toInt ≤ 1 from (by have t1 : y59.toInt ≤ 1 := b66; have t2 : y90.toInt ≤ y59.toInt := b100; omega)), (show x4.toInt + 1 ≤ y199.toInt from (by have t1 : 0 ≤ x4.toInt ∧ x4.toInt ≤ 1 := hzx4; have t2 : 0 + 3 ≤ y199.toInt := b203; omega)), (show x5.toInt + 1 ≤ y199.toInt from (by first | with_reducible exact q_fe b202 | (have t1 : x5.toInt + 2 ≤ y199.toInt := b202; omega))), (show y145.toInt ≤ x4.toInt + 300000 from (by have t1 : 0 ≤ x4.toInt ∧ x4.toInt ≤ 1 := hzx4; have t2 : y145.toInt ≤ 300001 := b151; have t3 : x4.toInt ≠ 0 := b195; omega)), (show y145.toInt ≤ y199.toInt + 299998 from (by have t1 : y145.toInt ≤ 300001 := b151; have t2 : 0 + 3 ≤ y199.toInt := b203; omega)), (show y145.toInt ≤ y144.toInt + 300000 from (by first | with_reducible exact q_fe b156 | (have t1 : y145.toInt ≤ y144.toInt + 300000 := b156; omega))), (show (y199, f200, y144, y145, f146, y89, y90, f91) = (F_Wri_exactText A B C x3 x4 x5 x6 t0_0 t1_0 t2_0 t2_1 t3_0 t4_0 t4_1 t5_0 t6_0 t6_1 t6_2) from Eq.trans (by rw [e211, e210, F_Wri_exactText_c75.eq_1]) hR212)⟩) d_12_10_96
  ·
    intro J125
    refine lv_if_eq (tgt := 42) hx hb d_12_10_34 (by decide) (fun c217 => ?_) (fun c217 => ?_)
    ·
      have b218 : q_F (x4.toInt = 0) := (q_eqI c217)
      refine lv_aload_n hx hb d_12_10_42 rfl (lv_at hl 0 rfl) ?_
      refine q_get (ci := 9) (j := 2) (v := .ref (q 36)) C0 V i_Wri rfl rfl hO33 (by decide) w_331 rfl d_12_10_43 ?_
      refine q_get (ci := 7) (j := 1) (v := .int y85) C0 V i_Dig rfl rfl hO83 (by decide) w_267 rfl d_12_10_46 ?_
      refine lv_iconst (v := 1) hx hb d_12_10_49 (by decide) ?_
      refine lv_iadd hx hb d_12_10_50 ?_
      obtain ⟨a219, e220⟩ := q_nm (y85 + 1 : Int32)
      refine q_ti (v := a219) e220 ?_
      have b221 : q_F (a219.toInt = y85.toInt + 1) := (by rw [← e220]; show (y85 + 1 : Int32).toInt = y85.toInt + 1; exact q_addI (x := y85.toInt) (y := 1) rfl (by decide) (by have t1 : 0 ≤ y85.toInt + 1000000 := b95; have t2 : y85.toInt ≤ 1000000 := b96; omega) (by have t1 : 0 ≤ y85.toInt + 1000000 := b95; have t2 : y85.toInt ≤ 1000000 := b96; omega))
      refine lv_iload hx hb d_12_10_51 (lv_at hl 4 rfl) ?_
      refine lv_iadd hx hb d_12_10_53 ?_
      obtain ⟨a222, e223⟩ := q_nm (a219 + x5 : Int32)
      refine q_ti (v := a222) e223 ?_
      have b224 : q_F (a222.toInt = a219.toInt + x5.toInt) := (by rw [← e223]; show (a219 + x5 : Int32).toInt = a219.toInt + x5.toInt; exact q_addI (x := a219.toInt) (y := x5.toInt) rfl rfl (by have t1 : 0 ≤ x5.toInt := pre0; have _ := q_lo32 (x := a219); have _ := q_hi32 (x := a219); have t2 : x5.toInt ≤ 1100 := pre1; have t3 : y85.toInt ≤ 1000000 := b96; have t4 : a219.toInt = y85.toInt + 1 := b221; omega) (by have t1 : 0 ≤ x5.toInt := pre0; have _ := q_lo32 (x := a219); have _ := q_hi32 (x := a219); have t2 : x5.toInt ≤ 1100 := pre1; have t3 : y85.toInt ≤ 1000000 := b96; have t4 : a219.toInt = y85.toInt + 1 := b221; omega))
      exact J125 ((a222 : Int32)) _ _ _ u81 ⟨(show q_F (x4.toInt ≤ a222.toInt + 999999) from (show x4.toInt ≤ a222.toInt + 999999 from by have t1 : 0 ≤ x5.toInt := pre0; have t2 : 0 ≤ y85.toInt + 1000000 := b95; have t3 : x4.toInt = 0 := b218; have t4 : a219.toInt = y85.toInt + 1 := b221; have t5 : a222.toInt = a219.toInt + x5.toInt := b224; omega)), (show q_F (x5.toInt ≤ a222.toInt + 999999) from (show x5.toInt ≤ a222.toInt + 999999 from by have t1 : 0 ≤ y85.toInt + 1000000 := b95; have t2 : a219.toInt = y85.toInt + 1 := b221; have t3 : a222.toInt = a219.toInt + x5.toInt := b224; omega)), (show q_F (a222.toInt ≤ x5.toInt + 1000001) from (show a222.toInt ≤ x5.toInt + 1000001 from by have t1 : y85.toInt ≤ 1000000 := b96; have t2 : a219.toInt = y85.toInt + 1 := b221; have t3 : a222.toInt = a219.toInt + x5.toInt := b224; omega)), (show q_F (a222.toInt ≤ y84.toInt + 1001100) from (show a222.toInt ≤ y84.toInt + 1001100 from by have t1 : x5.toInt ≤ 1100 := pre1; have t2 : y85.toInt ≤ y84.toInt + 999999 := b101; have t3 : a219.toInt = y85.toInt + 1 := b221; have t4 : a222.toInt = a219.toInt + x5.toInt := b224; omega)), (show q_F (y85.toInt ≤ a222.toInt + 1000000) from (show y85.toInt ≤ a222.toInt + 1000000 from by have t1 : 0 ≤ x5.toInt := pre0; have t2 : a219.toInt = y85.toInt + 1 := b221; have t3 : a222.toInt = a219.toInt + x5.toInt := b224; omega)), (show q_F (a222.toInt ≤ y85.toInt + 1001100) from (show a222.toInt ≤ y85.toInt + 1001100 from by have t1 : x5.toInt ≤ 1100 := pre1; have t2 : a219.toInt = y85.toInt + 1 := b221; have t3 : a222.toInt = a219.toInt + x5.toInt := b224; omega)), V, q_lw hl (q_lw1 0 rfl (q_lw1 3 rfl (q_lw1 4 rfl (q_lw1 5 rfl q_lw0)))), (show F_Wri_exactText_J54 A B C x3 x4 x5 x6 t0_0 t1_0 t2_0 t2_1 t3_0 t4_0 t4_1 t5_0 t6_0 t6_1 t6_2 p44 y37 f38 p69 p104 y84 y85 f86 y89 y90 f91 a222 = (F_Wri_exactText A B C x3 x4 x5 x6 t0_0 t1_0 t2_0 t2_1 t3_0 t4_0 t4_1 t5_0 t6_0 t6_1 t6_2) from Eq.trans (by rw [← e223, ← e220, e111, e110, e109, e108, e107, e106, F_Wri_exactText_c25.eq_1, if_pos c217]) hR112), (show True ∧ S_Wri_exactText_J54 A B C x3 x4 x5 x6 t0_0 t1_0 t2_0 t2_1 t3_0 t4_0 t4_1 t5_0 t6_0 t6_1 t6_2 p44 y37 f38 p69 p104 y84 y85 f86 y89 y90 f91 a222 from (by rw [← e223, ← e220, e111, e110, e109, e108, e107, e106]; have h := hS113; rw [S_Wri_exactText_c25.eq_1] at h; rw [if_pos c217] at h; with_reducible exact h))⟩
    ·
      refine lv_iload hx hb d_12_10_37 (lv_at hl 4 rfl) ?_
      refine lv_goto (tgt := 54) hx hb d_12_10_39 (by decide) ?_
      exact J125 ((x5 : Int32)) _ _ _ u81 ⟨(show q_F (x4.toInt ≤ x5.toInt + 999999) from (show x4.toInt ≤ x5.toInt + 999999 from by have t1 : 0 ≤ x4.toInt ∧ x4.toInt ≤ 1 := hzx4; have t2 : 0 ≤ x5.toInt := pre0; omega)), (show q_F (x5.toInt ≤ x5.toInt + 999999) from (show x5.toInt ≤ x5.toInt + 999999 from by omega)), (show q_F (x5.toInt ≤ x5.toInt + 1000001) from (show x5.toInt ≤ x5.toInt + 1000001 from by omega)), (show q_F (x5.toInt ≤ y84.toInt + 1001100) from (show x5.toInt ≤ y84.toInt + 1001100 from by have t1 : x5.toInt ≤ 1100 := pre1; have t2 : 0 ≤ y84.toInt := b93; omega)), (show q_F (y85.toInt ≤ x5.toInt + 1000000) from (show y85.toInt ≤ x5.toInt + 1000000 from by have t1 : 0 ≤ x5.toInt := pre0; have t2 : y85.toInt ≤ 1000000 := b96; omega)), (show q_F (x5.toInt ≤ y85.toInt + 1001100) from (show x5.toInt ≤ y85.toInt + 1001100 from by have t1 : x5.toInt ≤ 1100 := pre1; have t2 : 0 ≤ y85.toInt + 1000000 := b95; omega)), V, q_lw hl (q_lw1 0 rfl (q_lw1 3 rfl (q_lw1 4 rfl (q_lw1 5 rfl q_lw0)))), (show F_Wri_exactText_J54 A B C x3 x4 x5 x6 t0_0 t1_0 t2_0 t2_1 t3_0 t4_0 t4_1 t5_0 t6_0 t6_1 t6_2 p44 y37 f38 p69 p104 y84 y85 f86 y89 y90 f91 x5 = (F_Wri_exactText A B C x3 x4 x5 x6 t0_0 t1_0 t2_0 t2_1 t3_0 t4_0 t4_1 t5_0 t6_0 t6_1 t6_2) from Eq.trans (by rw [e111, e110, e109, e108, e107, e106, F_Wri_exactText_c25.eq_1, if_neg c217]) hR112), (show True ∧ S_Wri_exactText_J54 A B C x3 x4 x5 x6 t0_0 t1_0 t2_0 t2_1 t3_0 t4_0 t4_1 t5_0 t6_0 t6_1 t6_2 p44 y37 f38 p69 p104 y84 y85 f86 y89 y90 f91 x5 from (by rw [e111, e110, e109, e108, e107, e106]; have h := hS113; rw [S_Wri_exactText_c25.eq_1] at h; rw [if_neg c217] at h; with_reducible exact h))⟩

