/-! NumberHouse, exactly: k.decimalBy -/
theorem d_1_12_0 : decode prog_1_method_12_code 0 = .ok (.iload_n 1, 1) := by decide +kernel
theorem d_1_12_29 : decode prog_1_method_12_code 29 = .ok (.invokestatic 104, 3) := by decide +kernel
theorem d_1_12_32 : decode prog_1_method_12_code 32 = .ok (.iload_n 1, 1) := by decide +kernel
theorem d_1_12_52 : decode prog_1_method_12_code 52 = .ok (.invokestatic 104, 3) := by decide +kernel
theorem d_1_12_55 : decode prog_1_method_12_code 55 = .ok (.iload_n 1, 1) := by decide +kernel
theorem d_1_12_56 : decode prog_1_method_12_code 56 = .ok (.ifCond .ne 23, 3) := by decide +kernel
theorem d_1_12_79 : decode prog_1_method_12_code 79 = .ok (.iload_n 1, 1) := by decide +kernel
theorem d_1_12_80 : decode prog_1_method_12_code 80 = .ok (.iconst 1, 1) := by decide +kernel
theorem d_1_12_81 : decode prog_1_method_12_code 81 = .ok (.if_icmp .ne 33, 3) := by decide +kernel
theorem d_1_12_114 : decode prog_1_method_12_code 114 = .ok (.aload_n 0, 1) := by decide +kernel
theorem d_1_12_115 : decode prog_1_method_12_code 115 = .ok (.getfield 52, 3) := by decide +kernel
theorem d_1_12_118 : decode prog_1_method_12_code 118 = .ok (.aload_n 0, 1) := by decide +kernel
theorem d_1_12_119 : decode prog_1_method_12_code 119 = .ok (.getfield 29, 3) := by decide +kernel
theorem d_1_12_122 : decode prog_1_method_12_code 122 = .ok (.iload_n 2, 1) := by decide +kernel
theorem d_1_12_123 : decode prog_1_method_12_code 123 = .ok (.aaload, 1) := by decide +kernel
theorem d_1_12_124 : decode prog_1_method_12_code 124 = .ok (.invokevirtual 293, 3) := by decide +kernel
set_option maxRecDepth 100000 in
theorem w_1414 : (Cond.code ({ cls := "NumberHouse$DecimalWork", name := "strip", desc := "(LNumberHouse$Dec;)V" } : MethodName) prog_4_method_10_code (2 : Nat) (none : Option ClassFile.FieldType)) ∈ q_tbl := q_of6 214 rfl (by decide +kernel)
set_option maxRecDepth 100000 in
theorem w_1411 : (Cond.methodLink "NumberHouse" (293 : Nat) ({ cls := "NumberHouse$DecimalWork", name := "strip", desc := "(LNumberHouse$Dec;)V" } : MethodName)) ∈ q_tbl := q_of6 211 rfl (by decide +kernel)
set_option maxRecDepth 100000 in
theorem w_1412 : (Cond.instanceMethod ({ cls := "NumberHouse$DecimalWork", name := "strip", desc := "(LNumberHouse$Dec;)V" } : MethodName)) ∈ q_tbl := q_of6 212 rfl (by decide +kernel)
set_option maxRecDepth 100000 in
theorem w_1413 : (Cond.selects "NumberHouse$DecimalWork" ({ cls := "NumberHouse$DecimalWork", name := "strip", desc := "(LNumberHouse$Dec;)V" } : MethodName) ({ cls := "NumberHouse$DecimalWork", name := "strip", desc := "(LNumberHouse$Dec;)V" } : MethodName)) ∈ q_tbl := q_of6 213 rfl (by decide +kernel)
theorem LV_NH_293 : q_LV "NumberHouse" 293 y_DW_strip prog_4_method_10_code 2 none 1 := ⟨w_1414, w_5, w_1411, w_1412, w_1413, ⟨by decide, by decide, by decide +kernel⟩⟩
theorem d_1_12_127 : decode prog_1_method_12_code 127 = .ok (.aload_n 0, 1) := by decide +kernel
theorem d_1_12_128 : decode prog_1_method_12_code 128 = .ok (.iload 4, 2) := by decide +kernel
theorem d_1_12_130 : decode prog_1_method_12_code 130 = .ok (.invokevirtual 281, 3) := by decide +kernel
theorem d_1_12_133 : decode prog_1_method_12_code 133 = .ok (.return_, 1) := by decide +kernel
theorem d_1_12_84 : decode prog_1_method_12_code 84 = .ok (.aload_n 0, 1) := by decide +kernel
theorem d_1_12_85 : decode prog_1_method_12_code 85 = .ok (.getfield 52, 3) := by decide +kernel
theorem d_1_12_88 : decode prog_1_method_12_code 88 = .ok (.aload_n 0, 1) := by decide +kernel
theorem d_1_12_89 : decode prog_1_method_12_code 89 = .ok (.getfield 29, 3) := by decide +kernel
theorem d_1_12_92 : decode prog_1_method_12_code 92 = .ok (.iload_n 2, 1) := by decide +kernel
theorem d_1_12_93 : decode prog_1_method_12_code 93 = .ok (.aaload, 1) := by decide +kernel
theorem d_1_12_94 : decode prog_1_method_12_code 94 = .ok (.invokevirtual 288, 3) := by decide +kernel
set_option maxRecDepth 100000 in
theorem w_1407 : (Cond.methodLink "NumberHouse" (288 : Nat) ({ cls := "NumberHouse$DecimalWork", name := "take", desc := "(LNumberHouse$Dec;)V" } : MethodName)) ∈ q_tbl := q_of6 207 rfl (by decide +kernel)
theorem LV_NH_288 : q_LV "NumberHouse" 288 y_DW_take prog_4_method_3_code 2 none 1 := ⟨w_1410, w_5, w_1407, w_1408, w_1409, ⟨by decide, by decide, by decide +kernel⟩⟩
theorem d_1_12_97 : decode prog_1_method_12_code 97 = .ok (.aload_n 0, 1) := by decide +kernel
theorem d_1_12_98 : decode prog_1_method_12_code 98 = .ok (.getfield 52, 3) := by decide +kernel
theorem d_1_12_101 : decode prog_1_method_12_code 101 = .ok (.dup, 1) := by decide +kernel
theorem d_1_12_102 : decode prog_1_method_12_code 102 = .ok (.getfield 292, 3) := by decide +kernel
theorem d_1_12_105 : decode prog_1_method_12_code 105 = .ok (.iload_n 3, 1) := by decide +kernel
theorem d_1_12_106 : decode prog_1_method_12_code 106 = .ok (.i2l, 1) := by decide +kernel
theorem d_1_12_107 : decode prog_1_method_12_code 107 = .ok (.lsub, 1) := by decide +kernel
theorem d_1_12_108 : decode prog_1_method_12_code 108 = .ok (.putfield 292, 3) := by decide +kernel
theorem d_1_12_111 : decode prog_1_method_12_code 111 = .ok (.goto 16, 3) := by decide +kernel
theorem d_1_12_59 : decode prog_1_method_12_code 59 = .ok (.aload_n 0, 1) := by decide +kernel
theorem d_1_12_60 : decode prog_1_method_12_code 60 = .ok (.getfield 52, 3) := by decide +kernel
theorem d_1_12_63 : decode prog_1_method_12_code 63 = .ok (.aload_n 0, 1) := by decide +kernel
theorem d_1_12_64 : decode prog_1_method_12_code 64 = .ok (.getfield 29, 3) := by decide +kernel
theorem d_1_12_67 : decode prog_1_method_12_code 67 = .ok (.iload_n 2, 1) := by decide +kernel
theorem d_1_12_68 : decode prog_1_method_12_code 68 = .ok (.aaload, 1) := by decide +kernel
theorem d_1_12_69 : decode prog_1_method_12_code 69 = .ok (.iload_n 3, 1) := by decide +kernel
theorem d_1_12_70 : decode prog_1_method_12_code 70 = .ok (.invokevirtual 284, 3) := by decide +kernel
set_option maxRecDepth 100000 in
theorem w_1405 : (Cond.code ({ cls := "NumberHouse$DecimalWork", name := "raise", desc := "(LNumberHouse$Dec;I)Z" } : MethodName) prog_4_method_9_code (4 : Nat) (some .boolean)) ∈ q_tbl := q_of6 205 rfl (by decide +kernel)
set_option maxRecDepth 100000 in
theorem w_1402 : (Cond.methodLink "NumberHouse" (284 : Nat) ({ cls := "NumberHouse$DecimalWork", name := "raise", desc := "(LNumberHouse$Dec;I)Z" } : MethodName)) ∈ q_tbl := q_of6 202 rfl (by decide +kernel)
set_option maxRecDepth 100000 in
theorem w_1403 : (Cond.instanceMethod ({ cls := "NumberHouse$DecimalWork", name := "raise", desc := "(LNumberHouse$Dec;I)Z" } : MethodName)) ∈ q_tbl := q_of6 203 rfl (by decide +kernel)
set_option maxRecDepth 100000 in
theorem w_1404 : (Cond.selects "NumberHouse$DecimalWork" ({ cls := "NumberHouse$DecimalWork", name := "raise", desc := "(LNumberHouse$Dec;I)Z" } : MethodName) ({ cls := "NumberHouse$DecimalWork", name := "raise", desc := "(LNumberHouse$Dec;I)Z" } : MethodName)) ∈ q_tbl := q_of6 204 rfl (by decide +kernel)
theorem LV_NH_284 : q_LV "NumberHouse" 284 y_DW_raise prog_4_method_9_code 4 (some .boolean) 2 := ⟨w_1405, w_5, w_1402, w_1403, w_1404, ⟨by decide, by decide, by decide +kernel⟩⟩
theorem d_1_12_73 : decode prog_1_method_12_code 73 = .ok (.invokestatic 138, 3) := by decide +kernel
theorem d_1_12_76 : decode prog_1_method_12_code 76 = .ok (.goto 51, 3) := by decide +kernel
theorem d_1_12_47 : decode prog_1_method_12_code 47 = .ok (.iconst 1, 1) := by decide +kernel
theorem d_1_12_48 : decode prog_1_method_12_code 48 = .ok (.goto 4, 3) := by decide +kernel
theorem d_1_12_33 : decode prog_1_method_12_code 33 = .ok (.ifCond .ne 14, 3) := by decide +kernel
theorem d_1_12_36 : decode prog_1_method_12_code 36 = .ok (.iload_n 3, 1) := by decide +kernel
theorem d_1_12_51 : decode prog_1_method_12_code 51 = .ok (.iconst 0, 1) := by decide +kernel
theorem d_1_12_37 : decode prog_1_method_12_code 37 = .ok (.ifCond .lt 14, 3) := by decide +kernel
theorem d_1_12_40 : decode prog_1_method_12_code 40 = .ok (.iload_n 3, 1) := by decide +kernel
theorem d_1_12_41 : decode prog_1_method_12_code 41 = .ok (.sipush 999, 3) := by decide +kernel
theorem d_1_12_44 : decode prog_1_method_12_code 44 = .ok (.if_icmp .gt 7, 3) := by decide +kernel
theorem d_1_12_28 : decode prog_1_method_12_code 28 = .ok (.iconst 0, 1) := by decide +kernel
theorem d_1_12_1 : decode prog_1_method_12_code 1 = .ok (.ifCond .lt 27, 3) := by decide +kernel
theorem d_1_12_4 : decode prog_1_method_12_code 4 = .ok (.iload_n 1, 1) := by decide +kernel
theorem d_1_12_5 : decode prog_1_method_12_code 5 = .ok (.iconst 2, 1) := by decide +kernel
theorem d_1_12_6 : decode prog_1_method_12_code 6 = .ok (.if_icmp .gt 22, 3) := by decide +kernel
theorem d_1_12_9 : decode prog_1_method_12_code 9 = .ok (.iload_n 2, 1) := by decide +kernel
theorem d_1_12_10 : decode prog_1_method_12_code 10 = .ok (.invokestatic 212, 3) := by decide +kernel
theorem d_1_12_13 : decode prog_1_method_12_code 13 = .ok (.ifCond .eq 15, 3) := by decide +kernel
theorem d_1_12_16 : decode prog_1_method_12_code 16 = .ok (.iload 4, 2) := by decide +kernel
theorem d_1_12_18 : decode prog_1_method_12_code 18 = .ok (.invokestatic 212, 3) := by decide +kernel
theorem d_1_12_21 : decode prog_1_method_12_code 21 = .ok (.ifCond .eq 7, 3) := by decide +kernel
theorem d_1_12_24 : decode prog_1_method_12_code 24 = .ok (.iconst 1, 1) := by decide +kernel
theorem d_1_12_25 : decode prog_1_method_12_code 25 = .ok (.goto 4, 3) := by decide +kernel
def y_NH_decimalBy : MethodName := ⟨"NumberHouse", "decimalBy", "(IIII)V"⟩
def F_NH_decimalBy_c130 (x2 : Int32) (x3 : Int32) (x4 : Int32) (x5 : Int32) (t0_0 : Int64) (t0_1 : Int32) (t1_0 : Int32) (t1_1 : Int32) (t2_0 : (Nat → Int32)) (t3_0 : Int32) (t3_1 : Int32) (t4_0 : (Nat → Int32)) (t5_0 : Int32) (t5_1 : Int32) (t6_0 : (Nat → Int32)) (t7_0 : Int32) (t7_1 : Int32) (t8_0 : (Nat → Int32)) (t9_0 : Int32) (t9_1 : Int32) (t10_0 : Int32) (t10_1 : Int32) (t11_0 : (Nat → Int32)) (t12_0 : Int32) (t12_1 : Int32) (t13_0 : Int32) (t13_1 : Int32) (t14_0 : (Nat → Int32)) (lx63 : Int32) (lx96 : Int32) (p170 : (Int64 × Int32 × Int32 × Int32 × (Nat → Int32) × Int32 × Int32 × (Nat → Int32))) (y142 : Int64) (y143 : Int32) (y145 : Int32) (y146 : Int32) (f147 : (Nat → Int32)) (p206 : (Int32 × Int32 × Int32 × (Nat → Int32) × Int32 × Int32 × Int32 × Int32 × (Nat → Int32))) : Int32 × Int64 × Int32 × Int32 × Int32 × (Nat → Int32) × Int32 × Int32 × (Nat → Int32) × Int32 × Int32 × (Nat → Int32) × Int32 × Int32 × (Nat → Int32) × Int32 × Int32 × Int32 × Int32 × (Nat → Int32) := if p206.1 = (0 : Int32) then (((0 : Int32), y142, y143, y145, y146, f147, t3_0, t3_1, t4_0, t5_0, t5_1, t6_0, (p206.2.1 : Int32), (p206.2.2.1 : Int32), (p206.2.2.2.1 : (Nat → Int32)), (p206.2.2.2.2.1 : Int32), (p206.2.2.2.2.2.1 : Int32), (p206.2.2.2.2.2.2.1 : Int32), (p206.2.2.2.2.2.2.2.1 : Int32), (p206.2.2.2.2.2.2.2.2 : (Nat → Int32)))) else ((p206.1, y142, y143, y145, y146, f147, t3_0, t3_1, t4_0, t5_0, t5_1, t6_0, (p206.2.1 : Int32), (p206.2.2.1 : Int32), (p206.2.2.2.1 : (Nat → Int32)), (p206.2.2.2.2.1 : Int32), (p206.2.2.2.2.2.1 : Int32), (p206.2.2.2.2.2.2.1 : Int32), (p206.2.2.2.2.2.2.2.1 : Int32), (p206.2.2.2.2.2.2.2.2 : (Nat → Int32))))
def F_NH_decimalBy_c124 (x2 : Int32) (x3 : Int32) (x4 : Int32) (x5 : Int32) (t0_0 : Int64) (t0_1 : Int32) (t1_0 : Int32) (t1_1 : Int32) (t2_0 : (Nat → Int32)) (t3_0 : Int32) (t3_1 : Int32) (t4_0 : (Nat → Int32)) (t5_0 : Int32) (t5_1 : Int32) (t6_0 : (Nat → Int32)) (t7_0 : Int32) (t7_1 : Int32) (t8_0 : (Nat → Int32)) (t9_0 : Int32) (t9_1 : Int32) (t10_0 : Int32) (t10_1 : Int32) (t11_0 : (Nat → Int32)) (t12_0 : Int32) (t12_1 : Int32) (t13_0 : Int32) (t13_1 : Int32) (t14_0 : (Nat → Int32)) (lx63 : Int32) (lx96 : Int32) (p170 : (Int64 × Int32 × Int32 × Int32 × (Nat → Int32) × Int32 × Int32 × (Nat → Int32))) : Int32 × Int64 × Int32 × Int32 × Int32 × (Nat → Int32) × Int32 × Int32 × (Nat → Int32) × Int32 × Int32 × (Nat → Int32) × Int32 × Int32 × (Nat → Int32) × Int32 × Int32 × Int32 × Int32 × (Nat → Int32) := F_NH_decimalBy_c130 x2 x3 x4 x5 t0_0 t0_1 t1_0 t1_1 t2_0 t3_0 t3_1 t4_0 t5_0 t5_1 t6_0 t7_0 t7_1 t8_0 t9_0 t9_1 t10_0 t10_1 t11_0 t12_0 t12_1 t13_0 t13_1 t14_0 lx63 lx96 p170 (p170.1 : Int64) (p170.2.1 : Int32) (p170.2.2.1 : Int32) (p170.2.2.2.1 : Int32) (p170.2.2.2.2.1 : (Nat → Int32)) ((F_NH_keepDecimal x5 (p170.1 : Int64) (p170.2.1 : Int32) (p170.2.2.1 : Int32) (p170.2.2.2.1 : Int32) (p170.2.2.2.2.1 : (Nat → Int32)) (p170.2.2.2.2.2.1 : Int32) (p170.2.2.2.2.2.2.1 : Int32) (p170.2.2.2.2.2.2.2 : (Nat → Int32)) t12_0 t12_1 t13_0 t13_1 t14_0) : (Int32 × Int32 × Int32 × (Nat → Int32) × Int32 × Int32 × Int32 × Int32 × (Nat → Int32)))
def F_NH_decimalBy_c130_6 (x2 : Int32) (x3 : Int32) (x4 : Int32) (x5 : Int32) (t0_0 : Int64) (t0_1 : Int32) (t1_0 : Int32) (t1_1 : Int32) (t2_0 : (Nat → Int32)) (t3_0 : Int32) (t3_1 : Int32) (t4_0 : (Nat → Int32)) (t5_0 : Int32) (t5_1 : Int32) (t6_0 : (Nat → Int32)) (t7_0 : Int32) (t7_1 : Int32) (t8_0 : (Nat → Int32)) (t9_0 : Int32) (t9_1 : Int32) (t10_0 : Int32) (t10_1 : Int32) (t11_0 : (Nat → Int32)) (t12_0 : Int32) (t12_1 : Int32) (t13_0 : Int32) (t13_1 : Int32) (t14_0 : (Nat → Int32)) (lx63 : Int32) (lx96 : Int32) (p297 : (Int64 × Int32 × Int32 × Int32 × (Nat → Int32))) (j312 : Int64) (y281 : Int32) (y283 : Int32) (y284 : Int32) (f285 : (Nat → Int32)) (p338 : (Int32 × Int32 × Int32 × (Nat → Int32) × Int32 × Int32 × Int32 × Int32 × (Nat → Int32))) : Int32 × Int64 × Int32 × Int32 × Int32 × (Nat → Int32) × Int32 × Int32 × (Nat → Int32) × Int32 × Int32 × (Nat → Int32) × Int32 × Int32 × (Nat → Int32) × Int32 × Int32 × Int32 × Int32 × (Nat → Int32) := if p338.1 = (0 : Int32) then (((0 : Int32), j312, y281, y283, y284, f285, t3_0, t3_1, t4_0, t5_0, t5_1, t6_0, (p338.2.1 : Int32), (p338.2.2.1 : Int32), (p338.2.2.2.1 : (Nat → Int32)), (p338.2.2.2.2.1 : Int32), (p338.2.2.2.2.2.1 : Int32), (p338.2.2.2.2.2.2.1 : Int32), (p338.2.2.2.2.2.2.2.1 : Int32), (p338.2.2.2.2.2.2.2.2 : (Nat → Int32)))) else ((p338.1, j312, y281, y283, y284, f285, t3_0, t3_1, t4_0, t5_0, t5_1, t6_0, (p338.2.1 : Int32), (p338.2.2.1 : Int32), (p338.2.2.2.1 : (Nat → Int32)), (p338.2.2.2.2.1 : Int32), (p338.2.2.2.2.2.1 : Int32), (p338.2.2.2.2.2.2.1 : Int32), (p338.2.2.2.2.2.2.2.1 : Int32), (p338.2.2.2.2.2.2.2.2 : (Nat → Int32))))
def F_NH_decimalBy_c94 (x2 : Int32) (x3 : Int32) (x4 : Int32) (x5 : Int32) (t0_0 : Int64) (t0_1 : Int32) (t1_0 : Int32) (t1_1 : Int32) (t2_0 : (Nat → Int32)) (t3_0 : Int32) (t3_1 : Int32) (t4_0 : (Nat → Int32)) (t5_0 : Int32) (t5_1 : Int32) (t6_0 : (Nat → Int32)) (t7_0 : Int32) (t7_1 : Int32) (t8_0 : (Nat → Int32)) (t9_0 : Int32) (t9_1 : Int32) (t10_0 : Int32) (t10_1 : Int32) (t11_0 : (Nat → Int32)) (t12_0 : Int32) (t12_1 : Int32) (t13_0 : Int32) (t13_1 : Int32) (t14_0 : (Nat → Int32)) (lx63 : Int32) (lx96 : Int32) (p297 : (Int64 × Int32 × Int32 × Int32 × (Nat → Int32))) : Int32 × Int64 × Int32 × Int32 × Int32 × (Nat → Int32) × Int32 × Int32 × (Nat → Int32) × Int32 × Int32 × (Nat → Int32) × Int32 × Int32 × (Nat → Int32) × Int32 × Int32 × Int32 × Int32 × (Nat → Int32) := F_NH_decimalBy_c130_6 x2 x3 x4 x5 t0_0 t0_1 t1_0 t1_1 t2_0 t3_0 t3_1 t4_0 t5_0 t5_1 t6_0 t7_0 t7_1 t8_0 t9_0 t9_1 t10_0 t10_1 t11_0 t12_0 t12_1 t13_0 t13_1 t14_0 lx63 lx96 p297 ((p297.1 : Int64) - (x4.toInt64 : Int64) : Int64) (p297.2.1 : Int32) (p297.2.2.1 : Int32) (p297.2.2.2.1 : Int32) (p297.2.2.2.2 : (Nat → Int32)) ((F_NH_keepDecimal x5 ((p297.1 : Int64) - (x4.toInt64 : Int64) : Int64) (p297.2.1 : Int32) (p297.2.2.1 : Int32) (p297.2.2.2.1 : Int32) (p297.2.2.2.2 : (Nat → Int32)) t7_0 t7_1 t8_0 t12_0 t12_1 t13_0 t13_1 t14_0) : (Int32 × Int32 × Int32 × (Nat → Int32) × Int32 × Int32 × Int32 × Int32 × (Nat → Int32)))
def F_NH_decimalBy_c130_8 (x2 : Int32) (x3 : Int32) (x4 : Int32) (x5 : Int32) (t0_0 : Int64) (t0_1 : Int32) (t1_0 : Int32) (t1_1 : Int32) (t2_0 : (Nat → Int32)) (t3_0 : Int32) (t3_1 : Int32) (t4_0 : (Nat → Int32)) (t5_0 : Int32) (t5_1 : Int32) (t6_0 : (Nat → Int32)) (t7_0 : Int32) (t7_1 : Int32) (t8_0 : (Nat → Int32)) (t9_0 : Int32) (t9_1 : Int32) (t10_0 : Int32) (t10_1 : Int32) (t11_0 : (Nat → Int32)) (t12_0 : Int32) (t12_1 : Int32) (t13_0 : Int32) (t13_1 : Int32) (t14_0 : (Nat → Int32)) (lx63 : Int32) (lx96 : Int32) (p447 : (Int32 × Int64 × Int32 × Int32 × Int32 × (Nat → Int32) × Int32 × Int32 × (Nat → Int32) × Int32 × Int32 × (Nat → Int32))) (y413 : Int64) (y414 : Int32) (y416 : Int32) (y417 : Int32) (f418 : (Nat → Int32)) (y421 : Int32) (y422 : Int32) (f423 : (Nat → Int32)) (y426 : Int32) (y427 : Int32) (f428 : (Nat → Int32)) (p496 : (Int32 × Int32 × Int32 × (Nat → Int32) × Int32 × Int32 × Int32 × Int32 × (Nat → Int32))) : Int32 × Int64 × Int32 × Int32 × Int32 × (Nat → Int32) × Int32 × Int32 × (Nat → Int32) × Int32 × Int32 × (Nat → Int32) × Int32 × Int32 × (Nat → Int32) × Int32 × Int32 × Int32 × Int32 × (Nat → Int32) := if p496.1 = (0 : Int32) then (((0 : Int32), y413, y414, y416, y417, f418, y421, y422, f423, y426, y427, f428, (p496.2.1 : Int32), (p496.2.2.1 : Int32), (p496.2.2.2.1 : (Nat → Int32)), (p496.2.2.2.2.1 : Int32), (p496.2.2.2.2.2.1 : Int32), (p496.2.2.2.2.2.2.1 : Int32), (p496.2.2.2.2.2.2.2.1 : Int32), (p496.2.2.2.2.2.2.2.2 : (Nat → Int32)))) else ((p496.1, y413, y414, y416, y417, f418, y421, y422, f423, y426, y427, f428, (p496.2.1 : Int32), (p496.2.2.1 : Int32), (p496.2.2.2.1 : (Nat → Int32)), (p496.2.2.2.2.1 : Int32), (p496.2.2.2.2.2.1 : Int32), (p496.2.2.2.2.2.2.1 : Int32), (p496.2.2.2.2.2.2.2.1 : Int32), (p496.2.2.2.2.2.2.2.2 : (Nat → Int32))))
def F_NH_decimalBy_c70 (x2 : Int32) (x3 : Int32) (x4 : Int32) (x5 : Int32) (t0_0 : Int64) (t0_1 : Int32) (t1_0 : Int32) (t1_1 : Int32) (t2_0 : (Nat → Int32)) (t3_0 : Int32) (t3_1 : Int32) (t4_0 : (Nat → Int32)) (t5_0 : Int32) (t5_1 : Int32) (t6_0 : (Nat → Int32)) (t7_0 : Int32) (t7_1 : Int32) (t8_0 : (Nat → Int32)) (t9_0 : Int32) (t9_1 : Int32) (t10_0 : Int32) (t10_1 : Int32) (t11_0 : (Nat → Int32)) (t12_0 : Int32) (t12_1 : Int32) (t13_0 : Int32) (t13_1 : Int32) (t14_0 : (Nat → Int32)) (lx63 : Int32) (lx96 : Int32) (p447 : (Int32 × Int64 × Int32 × Int32 × Int32 × (Nat → Int32) × Int32 × Int32 × (Nat → Int32) × Int32 × Int32 × (Nat → Int32))) : Int32 × Int64 × Int32 × Int32 × Int32 × (Nat → Int32) × Int32 × Int32 × (Nat → Int32) × Int32 × Int32 × (Nat → Int32) × Int32 × Int32 × (Nat → Int32) × Int32 × Int32 × Int32 × Int32 × (Nat → Int32) := if (F_NH_canHave (p447.1 : Int32)) = (0 : Int32) then (F_NH_decimalBy_c130_8 x2 x3 x4 x5 t0_0 t0_1 t1_0 t1_1 t2_0 t3_0 t3_1 t4_0 t5_0 t5_1 t6_0 t7_0 t7_1 t8_0 t9_0 t9_1 t10_0 t10_1 t11_0 t12_0 t12_1 t13_0 t13_1 t14_0 lx63 lx96 p447 (p447.2.1 : Int64) (p447.2.2.1 : Int32) (p447.2.2.2.1 : Int32) (p447.2.2.2.2.1 : Int32) (p447.2.2.2.2.2.1 : (Nat → Int32)) (p447.2.2.2.2.2.2.1 : Int32) (p447.2.2.2.2.2.2.2.1 : Int32) (p447.2.2.2.2.2.2.2.2.1 : (Nat → Int32)) (p447.2.2.2.2.2.2.2.2.2.1 : Int32) (p447.2.2.2.2.2.2.2.2.2.2.1 : Int32) (p447.2.2.2.2.2.2.2.2.2.2.2 : (Nat → Int32)) ((F_NH_keepDecimal x5 (p447.2.1 : Int64) (p447.2.2.1 : Int32) (p447.2.2.2.1 : Int32) (p447.2.2.2.2.1 : Int32) (p447.2.2.2.2.2.1 : (Nat → Int32)) t7_0 t7_1 t8_0 t12_0 t12_1 t13_0 t13_1 t14_0) : (Int32 × Int32 × Int32 × (Nat → Int32) × Int32 × Int32 × Int32 × Int32 × (Nat → Int32)))) else (((F_NH_canHave (p447.1 : Int32)), (p447.2.1 : Int64), (p447.2.2.1 : Int32), (p447.2.2.2.1 : Int32), (p447.2.2.2.2.1 : Int32), (p447.2.2.2.2.2.1 : (Nat → Int32)), (p447.2.2.2.2.2.2.1 : Int32), (p447.2.2.2.2.2.2.2.1 : Int32), (p447.2.2.2.2.2.2.2.2.1 : (Nat → Int32)), (p447.2.2.2.2.2.2.2.2.2.1 : Int32), (p447.2.2.2.2.2.2.2.2.2.2.1 : Int32), (p447.2.2.2.2.2.2.2.2.2.2.2 : (Nat → Int32)), t7_0, t7_1, t8_0, t12_0, t12_1, t13_0, t13_1, t14_0))
def F_NH_decimalBy_J52 (x2 : Int32) (x3 : Int32) (x4 : Int32) (x5 : Int32) (t0_0 : Int64) (t0_1 : Int32) (t1_0 : Int32) (t1_1 : Int32) (t2_0 : (Nat → Int32)) (t3_0 : Int32) (t3_1 : Int32) (t4_0 : (Nat → Int32)) (t5_0 : Int32) (t5_1 : Int32) (t6_0 : (Nat → Int32)) (t7_0 : Int32) (t7_1 : Int32) (t8_0 : (Nat → Int32)) (t9_0 : Int32) (t9_1 : Int32) (t10_0 : Int32) (t10_1 : Int32) (t11_0 : (Nat → Int32)) (t12_0 : Int32) (t12_1 : Int32) (t13_0 : Int32) (t13_1 : Int32) (t14_0 : (Nat → Int32)) (lx63 : Int32) (lx96 : Int32) : Int32 × Int64 × Int32 × Int32 × Int32 × (Nat → Int32) × Int32 × Int32 × (Nat → Int32) × Int32 × Int32 × (Nat → Int32) × Int32 × Int32 × (Nat → Int32) × Int32 × Int32 × Int32 × Int32 × (Nat → Int32) := if (F_NH_need lx96) = (0 : Int32) then (if x2 = (0 : Int32) then (F_NH_decimalBy_c70 x2 x3 x4 x5 t0_0 t0_1 t1_0 t1_1 t2_0 t3_0 t3_1 t4_0 t5_0 t5_1 t6_0 t7_0 t7_1 t8_0 t9_0 t9_1 t10_0 t10_1 t11_0 t12_0 t12_1 t13_0 t13_1 t14_0 lx63 lx96 ((F_DW_raise (108 : Int32) x4 t0_0 t0_1 t1_0 t1_1 t2_0 t3_0 t3_1 t4_0 t5_0 t5_1 t6_0 t9_0 t9_1 t10_0 t10_1 t11_0) : (Int32 × Int64 × Int32 × Int32 × Int32 × (Nat → Int32) × Int32 × Int32 × (Nat → Int32) × Int32 × Int32 × (Nat → Int32)))) else (if x2 = (1 : Int32) then (F_NH_decimalBy_c94 x2 x3 x4 x5 t0_0 t0_1 t1_0 t1_1 t2_0 t3_0 t3_1 t4_0 t5_0 t5_1 t6_0 t7_0 t7_1 t8_0 t9_0 t9_1 t10_0 t10_1 t11_0 t12_0 t12_1 t13_0 t13_1 t14_0 lx63 lx96 ((F_DW_take (108 : Int32) t0_0 t0_1 t1_0 t1_1 t2_0 t9_0 t9_1 t10_0 t10_1 t11_0) : (Int64 × Int32 × Int32 × Int32 × (Nat → Int32)))) else (F_NH_decimalBy_c124 x2 x3 x4 x5 t0_0 t0_1 t1_0 t1_1 t2_0 t3_0 t3_1 t4_0 t5_0 t5_1 t6_0 t7_0 t7_1 t8_0 t9_0 t9_1 t10_0 t10_1 t11_0 t12_0 t12_1 t13_0 t13_1 t14_0 lx63 lx96 ((F_DW_strip (108 : Int32) t0_0 t0_1 t1_0 t1_1 t2_0 t7_0 t7_1 t8_0 t9_0 t9_1 t10_0 t10_1 t11_0) : (Int64 × Int32 × Int32 × Int32 × (Nat → Int32) × Int32 × Int32 × (Nat → Int32)))))) else (((F_NH_need lx96), t0_0, t0_1, t1_0, t1_1, t2_0, t3_0, t3_1, t4_0, t5_0, t5_1, t6_0, t7_0, t7_1, t8_0, t12_0, t12_1, t13_0, t13_1, t14_0))
def F_NH_decimalBy_J47 (x2 : Int32) (x3 : Int32) (x4 : Int32) (x5 : Int32) (t0_0 : Int64) (t0_1 : Int32) (t1_0 : Int32) (t1_1 : Int32) (t2_0 : (Nat → Int32)) (t3_0 : Int32) (t3_1 : Int32) (t4_0 : (Nat → Int32)) (t5_0 : Int32) (t5_1 : Int32) (t6_0 : (Nat → Int32)) (t7_0 : Int32) (t7_1 : Int32) (t8_0 : (Nat → Int32)) (t9_0 : Int32) (t9_1 : Int32) (t10_0 : Int32) (t10_1 : Int32) (t11_0 : (Nat → Int32)) (t12_0 : Int32) (t12_1 : Int32) (t13_0 : Int32) (t13_1 : Int32) (t14_0 : (Nat → Int32)) (lx63 : Int32) : Int32 × Int64 × Int32 × Int32 × Int32 × (Nat → Int32) × Int32 × Int32 × (Nat → Int32) × Int32 × Int32 × (Nat → Int32) × Int32 × Int32 × (Nat → Int32) × Int32 × Int32 × Int32 × Int32 × (Nat → Int32) := F_NH_decimalBy_J52 x2 x3 x4 x5 t0_0 t0_1 t1_0 t1_1 t2_0 t3_0 t3_1 t4_0 t5_0 t5_1 t6_0 t7_0 t7_1 t8_0 t9_0 t9_1 t10_0 t10_1 t11_0 t12_0 t12_1 t13_0 t13_1 t14_0 lx63 1
def F_NH_decimalBy_J51 (x2 : Int32) (x3 : Int32) (x4 : Int32) (x5 : Int32) (t0_0 : Int64) (t0_1 : Int32) (t1_0 : Int32) (t1_1 : Int32) (t2_0 : (Nat → Int32)) (t3_0 : Int32) (t3_1 : Int32) (t4_0 : (Nat → Int32)) (t5_0 : Int32) (t5_1 : Int32) (t6_0 : (Nat → Int32)) (t7_0 : Int32) (t7_1 : Int32) (t8_0 : (Nat → Int32)) (t9_0 : Int32) (t9_1 : Int32) (t10_0 : Int32) (t10_1 : Int32) (t11_0 : (Nat → Int32)) (t12_0 : Int32) (t12_1 : Int32) (t13_0 : Int32) (t13_1 : Int32) (t14_0 : (Nat → Int32)) (lx63 : Int32) : Int32 × Int64 × Int32 × Int32 × Int32 × (Nat → Int32) × Int32 × Int32 × (Nat → Int32) × Int32 × Int32 × (Nat → Int32) × Int32 × Int32 × (Nat → Int32) × Int32 × Int32 × Int32 × Int32 × (Nat → Int32) := F_NH_decimalBy_J52 x2 x3 x4 x5 t0_0 t0_1 t1_0 t1_1 t2_0 t3_0 t3_1 t4_0 t5_0 t5_1 t6_0 t7_0 t7_1 t8_0 t9_0 t9_1 t10_0 t10_1 t11_0 t12_0 t12_1 t13_0 t13_1 t14_0 lx63 0
def F_NH_decimalBy_J29 (x2 : Int32) (x3 : Int32) (x4 : Int32) (x5 : Int32) (t0_0 : Int64) (t0_1 : Int32) (t1_0 : Int32) (t1_1 : Int32) (t2_0 : (Nat → Int32)) (t3_0 : Int32) (t3_1 : Int32) (t4_0 : (Nat → Int32)) (t5_0 : Int32) (t5_1 : Int32) (t6_0 : (Nat → Int32)) (t7_0 : Int32) (t7_1 : Int32) (t8_0 : (Nat → Int32)) (t9_0 : Int32) (t9_1 : Int32) (t10_0 : Int32) (t10_1 : Int32) (t11_0 : (Nat → Int32)) (t12_0 : Int32) (t12_1 : Int32) (t13_0 : Int32) (t13_1 : Int32) (t14_0 : (Nat → Int32)) (lx63 : Int32) : Int32 × Int64 × Int32 × Int32 × Int32 × (Nat → Int32) × Int32 × Int32 × (Nat → Int32) × Int32 × Int32 × (Nat → Int32) × Int32 × Int32 × (Nat → Int32) × Int32 × Int32 × Int32 × Int32 × (Nat → Int32) := if (F_NH_need lx63) = (0 : Int32) then (if x2 = (0 : Int32) then (if x4 < (0 : Int32) then (F_NH_decimalBy_J51 x2 x3 x4 x5 t0_0 t0_1 t1_0 t1_1 t2_0 t3_0 t3_1 t4_0 t5_0 t5_1 t6_0 t7_0 t7_1 t8_0 t9_0 t9_1 t10_0 t10_1 t11_0 t12_0 t12_1 t13_0 t13_1 t14_0 lx63) else (if (999 : Int32) < x4 then (F_NH_decimalBy_J51 x2 x3 x4 x5 t0_0 t0_1 t1_0 t1_1 t2_0 t3_0 t3_1 t4_0 t5_0 t5_1 t6_0 t7_0 t7_1 t8_0 t9_0 t9_1 t10_0 t10_1 t11_0 t12_0 t12_1 t13_0 t13_1 t14_0 lx63) else (F_NH_decimalBy_J47 x2 x3 x4 x5 t0_0 t0_1 t1_0 t1_1 t2_0 t3_0 t3_1 t4_0 t5_0 t5_1 t6_0 t7_0 t7_1 t8_0 t9_0 t9_1 t10_0 t10_1 t11_0 t12_0 t12_1 t13_0 t13_1 t14_0 lx63))) else (F_NH_decimalBy_J47 x2 x3 x4 x5 t0_0 t0_1 t1_0 t1_1 t2_0 t3_0 t3_1 t4_0 t5_0 t5_1 t6_0 t7_0 t7_1 t8_0 t9_0 t9_1 t10_0 t10_1 t11_0 t12_0 t12_1 t13_0 t13_1 t14_0 lx63)) else (((F_NH_need lx63), t0_0, t0_1, t1_0, t1_1, t2_0, t3_0, t3_1, t4_0, t5_0, t5_1, t6_0, t7_0, t7_1, t8_0, t12_0, t12_1, t13_0, t13_1, t14_0))
def F_NH_decimalBy_J28 (x2 : Int32) (x3 : Int32) (x4 : Int32) (x5 : Int32) (t0_0 : Int64) (t0_1 : Int32) (t1_0 : Int32) (t1_1 : Int32) (t2_0 : (Nat → Int32)) (t3_0 : Int32) (t3_1 : Int32) (t4_0 : (Nat → Int32)) (t5_0 : Int32) (t5_1 : Int32) (t6_0 : (Nat → Int32)) (t7_0 : Int32) (t7_1 : Int32) (t8_0 : (Nat → Int32)) (t9_0 : Int32) (t9_1 : Int32) (t10_0 : Int32) (t10_1 : Int32) (t11_0 : (Nat → Int32)) (t12_0 : Int32) (t12_1 : Int32) (t13_0 : Int32) (t13_1 : Int32) (t14_0 : (Nat → Int32)) : Int32 × Int64 × Int32 × Int32 × Int32 × (Nat → Int32) × Int32 × Int32 × (Nat → Int32) × Int32 × Int32 × (Nat → Int32) × Int32 × Int32 × (Nat → Int32) × Int32 × Int32 × Int32 × Int32 × (Nat → Int32) := F_NH_decimalBy_J29 x2 x3 x4 x5 t0_0 t0_1 t1_0 t1_1 t2_0 t3_0 t3_1 t4_0 t5_0 t5_1 t6_0 t7_0 t7_1 t8_0 t9_0 t9_1 t10_0 t10_1 t11_0 t12_0 t12_1 t13_0 t13_1 t14_0 0
def F_NH_decimalBy (x2 : Int32) (x3 : Int32) (x4 : Int32) (x5 : Int32) (t0_0 : Int64) (t0_1 : Int32) (t1_0 : Int32) (t1_1 : Int32) (t2_0 : (Nat → Int32)) (t3_0 : Int32) (t3_1 : Int32) (t4_0 : (Nat → Int32)) (t5_0 : Int32) (t5_1 : Int32) (t6_0 : (Nat → Int32)) (t7_0 : Int32) (t7_1 : Int32) (t8_0 : (Nat → Int32)) (t9_0 : Int32) (t9_1 : Int32) (t10_0 : Int32) (t10_1 : Int32) (t11_0 : (Nat → Int32)) (t12_0 : Int32) (t12_1 : Int32) (t13_0 : Int32) (t13_1 : Int32) (t14_0 : (Nat → Int32)) : Int32 × Int64 × Int32 × Int32 × Int32 × (Nat → Int32) × Int32 × Int32 × (Nat → Int32) × Int32 × Int32 × (Nat → Int32) × Int32 × Int32 × (Nat → Int32) × Int32 × Int32 × Int32 × Int32 × (Nat → Int32) := if x2 < (0 : Int32) then (F_NH_decimalBy_J28 x2 x3 x4 x5 t0_0 t0_1 t1_0 t1_1 t2_0 t3_0 t3_1 t4_0 t5_0 t5_1 t6_0 t7_0 t7_1 t8_0 t9_0 t9_1 t10_0 t10_1 t11_0 t12_0 t12_1 t13_0 t13_1 t14_0) else (if (2 : Int32) < x2 then (F_NH_decimalBy_J28 x2 x3 x4 x5 t0_0 t0_1 t1_0 t1_1 t2_0 t3_0 t3_1 t4_0 t5_0 t5_1 t6_0 t7_0 t7_1 t8_0 t9_0 t9_1 t10_0 t10_1 t11_0 t12_0 t12_1 t13_0 t13_1 t14_0) else (if ((F_NH_isRegister x3) : Int32) = (0 : Int32) then (F_NH_decimalBy_J28 x2 x3 x4 x5 t0_0 t0_1 t1_0 t1_1 t2_0 t3_0 t3_1 t4_0 t5_0 t5_1 t6_0 t7_0 t7_1 t8_0 t9_0 t9_1 t10_0 t10_1 t11_0 t12_0 t12_1 t13_0 t13_1 t14_0) else (if ((F_NH_isRegister x5) : Int32) = (0 : Int32) then (F_NH_decimalBy_J28 x2 x3 x4 x5 t0_0 t0_1 t1_0 t1_1 t2_0 t3_0 t3_1 t4_0 t5_0 t5_1 t6_0 t7_0 t7_1 t8_0 t9_0 t9_1 t10_0 t10_1 t11_0 t12_0 t12_1 t13_0 t13_1 t14_0) else (F_NH_decimalBy_J29 x2 x3 x4 x5 t0_0 t0_1 t1_0 t1_1 t2_0 t3_0 t3_1 t4_0 t5_0 t5_1 t6_0 t7_0 t7_1 t8_0 t9_0 t9_1 t10_0 t10_1 t11_0 t12_0 t12_1 t13_0 t13_1 t14_0 1))))
def S_NH_decimalBy_c130 (x2 : Int32) (x3 : Int32) (x4 : Int32) (x5 : Int32) (t0_0 : Int64) (t0_1 : Int32) (t1_0 : Int32) (t1_1 : Int32) (t2_0 : (Nat → Int32)) (t3_0 : Int32) (t3_1 : Int32) (t4_0 : (Nat → Int32)) (t5_0 : Int32) (t5_1 : Int32) (t6_0 : (Nat → Int32)) (t7_0 : Int32) (t7_1 : Int32) (t8_0 : (Nat → Int32)) (t9_0 : Int32) (t9_1 : Int32) (t10_0 : Int32) (t10_1 : Int32) (t11_0 : (Nat → Int32)) (t12_0 : Int32) (t12_1 : Int32) (t13_0 : Int32) (t13_1 : Int32) (t14_0 : (Nat → Int32)) (lx63 : Int32) (lx96 : Int32) (p170 : (Int64 × Int32 × Int32 × Int32 × (Nat → Int32) × Int32 × Int32 × (Nat → Int32))) (y142 : Int64) (y143 : Int32) (y145 : Int32) (y146 : Int32) (f147 : (Nat → Int32)) (p206 : (Int32 × Int32 × Int32 × (Nat → Int32) × Int32 × Int32 × Int32 × Int32 × (Nat → Int32))) : Prop := if p206.1 = (0 : Int32) then (True) else (True)
def S_NH_decimalBy_c124 (x2 : Int32) (x3 : Int32) (x4 : Int32) (x5 : Int32) (t0_0 : Int64) (t0_1 : Int32) (t1_0 : Int32) (t1_1 : Int32) (t2_0 : (Nat → Int32)) (t3_0 : Int32) (t3_1 : Int32) (t4_0 : (Nat → Int32)) (t5_0 : Int32) (t5_1 : Int32) (t6_0 : (Nat → Int32)) (t7_0 : Int32) (t7_1 : Int32) (t8_0 : (Nat → Int32)) (t9_0 : Int32) (t9_1 : Int32) (t10_0 : Int32) (t10_1 : Int32) (t11_0 : (Nat → Int32)) (t12_0 : Int32) (t12_1 : Int32) (t13_0 : Int32) (t13_1 : Int32) (t14_0 : (Nat → Int32)) (lx63 : Int32) (lx96 : Int32) (p170 : (Int64 × Int32 × Int32 × Int32 × (Nat → Int32) × Int32 × Int32 × (Nat → Int32))) : Prop := (True ∧ S_NH_keepDecimal x5 (p170.1 : Int64) (p170.2.1 : Int32) (p170.2.2.1 : Int32) (p170.2.2.2.1 : Int32) (p170.2.2.2.2.1 : (Nat → Int32)) (p170.2.2.2.2.2.1 : Int32) (p170.2.2.2.2.2.2.1 : Int32) (p170.2.2.2.2.2.2.2 : (Nat → Int32)) t12_0 t12_1 t13_0 t13_1 t14_0) ∧ (S_NH_decimalBy_c130 x2 x3 x4 x5 t0_0 t0_1 t1_0 t1_1 t2_0 t3_0 t3_1 t4_0 t5_0 t5_1 t6_0 t7_0 t7_1 t8_0 t9_0 t9_1 t10_0 t10_1 t11_0 t12_0 t12_1 t13_0 t13_1 t14_0 lx63 lx96 p170 (p170.1 : Int64) (p170.2.1 : Int32) (p170.2.2.1 : Int32) (p170.2.2.2.1 : Int32) (p170.2.2.2.2.1 : (Nat → Int32)) ((F_NH_keepDecimal x5 (p170.1 : Int64) (p170.2.1 : Int32) (p170.2.2.1 : Int32) (p170.2.2.2.1 : Int32) (p170.2.2.2.2.1 : (Nat → Int32)) (p170.2.2.2.2.2.1 : Int32) (p170.2.2.2.2.2.2.1 : Int32) (p170.2.2.2.2.2.2.2 : (Nat → Int32)) t12_0 t12_1 t13_0 t13_1 t14_0) : (Int32 × Int32 × Int32 × (Nat → Int32) × Int32 × Int32 × Int32 × Int32 × (Nat → Int32))))
def S_NH_decimalBy_c130_6 (x2 : Int32) (x3 : Int32) (x4 : Int32) (x5 : Int32) (t0_0 : Int64) (t0_1 : Int32) (t1_0 : Int32) (t1_1 : Int32) (t2_0 : (Nat → Int32)) (t3_0 : Int32) (t3_1 : Int32) (t4_0 : (Nat → Int32)) (t5_0 : Int32) (t5_1 : Int32) (t6_0 : (Nat → Int32)) (t7_0 : Int32) (t7_1 : Int32) (t8_0 : (Nat → Int32)) (t9_0 : Int32) (t9_1 : Int32) (t10_0 : Int32) (t10_1 : Int32) (t11_0 : (Nat → Int32)) (t12_0 : Int32) (t12_1 : Int32) (t13_0 : Int32) (t13_1 : Int32) (t14_0 : (Nat → Int32)) (lx63 : Int32) (lx96 : Int32) (p297 : (Int64 × Int32 × Int32 × Int32 × (Nat → Int32))) (j312 : Int64) (y281 : Int32) (y283 : Int32) (y284 : Int32) (f285 : (Nat → Int32)) (p338 : (Int32 × Int32 × Int32 × (Nat → Int32) × Int32 × Int32 × Int32 × Int32 × (Nat → Int32))) : Prop := if p338.1 = (0 : Int32) then (True) else (True)
def S_NH_decimalBy_c94 (x2 : Int32) (x3 : Int32) (x4 : Int32) (x5 : Int32) (t0_0 : Int64) (t0_1 : Int32) (t1_0 : Int32) (t1_1 : Int32) (t2_0 : (Nat → Int32)) (t3_0 : Int32) (t3_1 : Int32) (t4_0 : (Nat → Int32)) (t5_0 : Int32) (t5_1 : Int32) (t6_0 : (Nat → Int32)) (t7_0 : Int32) (t7_1 : Int32) (t8_0 : (Nat → Int32)) (t9_0 : Int32) (t9_1 : Int32) (t10_0 : Int32) (t10_1 : Int32) (t11_0 : (Nat → Int32)) (t12_0 : Int32) (t12_1 : Int32) (t13_0 : Int32) (t13_1 : Int32) (t14_0 : (Nat → Int32)) (lx63 : Int32) (lx96 : Int32) (p297 : (Int64 × Int32 × Int32 × Int32 × (Nat → Int32))) : Prop := (True ∧ S_NH_keepDecimal x5 ((p297.1 : Int64) - (x4.toInt64 : Int64) : Int64) (p297.2.1 : Int32) (p297.2.2.1 : Int32) (p297.2.2.2.1 : Int32) (p297.2.2.2.2 : (Nat → Int32)) t7_0 t7_1 t8_0 t12_0 t12_1 t13_0 t13_1 t14_0) ∧ (S_NH_decimalBy_c130_6 x2 x3 x4 x5 t0_0 t0_1 t1_0 t1_1 t2_0 t3_0 t3_1 t4_0 t5_0 t5_1 t6_0 t7_0 t7_1 t8_0 t9_0 t9_1 t10_0 t10_1 t11_0 t12_0 t12_1 t13_0 t13_1 t14_0 lx63 lx96 p297 ((p297.1 : Int64) - (x4.toInt64 : Int64) : Int64) (p297.2.1 : Int32) (p297.2.2.1 : Int32) (p297.2.2.2.1 : Int32) (p297.2.2.2.2 : (Nat → Int32)) ((F_NH_keepDecimal x5 ((p297.1 : Int64) - (x4.toInt64 : Int64) : Int64) (p297.2.1 : Int32) (p297.2.2.1 : Int32) (p297.2.2.2.1 : Int32) (p297.2.2.2.2 : (Nat → Int32)) t7_0 t7_1 t8_0 t12_0 t12_1 t13_0 t13_1 t14_0) : (Int32 × Int32 × Int32 × (Nat → Int32) × Int32 × Int32 × Int32 × Int32 × (Nat → Int32))))
def S_NH_decimalBy_c130_8 (x2 : Int32) (x3 : Int32) (x4 : Int32) (x5 : Int32) (t0_0 : Int64) (t0_1 : Int32) (t1_0 : Int32) (t1_1 : Int32) (t2_0 : (Nat → Int32)) (t3_0 : Int32) (t3_1 : Int32) (t4_0 : (Nat → Int32)) (t5_0 : Int32) (t5_1 : Int32) (t6_0 : (Nat → Int32)) (t7_0 : Int32) (t7_1 : Int32) (t8_0 : (Nat → Int32)) (t9_0 : Int32) (t9_1 : Int32) (t10_0 : Int32) (t10_1 : Int32) (t11_0 : (Nat → Int32)) (t12_0 : Int32) (t12_1 : Int32) (t13_0 : Int32) (t13_1 : Int32) (t14_0 : (Nat → Int32)) (lx63 : Int32) (lx96 : Int32) (p447 : (Int32 × Int64 × Int32 × Int32 × Int32 × (Nat → Int32) × Int32 × Int32 × (Nat → Int32) × Int32 × Int32 × (Nat → Int32))) (y413 : Int64) (y414 : Int32) (y416 : Int32) (y417 : Int32) (f418 : (Nat → Int32)) (y421 : Int32) (y422 : Int32) (f423 : (Nat → Int32)) (y426 : Int32) (y427 : Int32) (f428 : (Nat → Int32)) (p496 : (Int32 × Int32 × Int32 × (Nat → Int32) × Int32 × Int32 × Int32 × Int32 × (Nat → Int32))) : Prop := if p496.1 = (0 : Int32) then (True) else (True)
def S_NH_decimalBy_c70 (x2 : Int32) (x3 : Int32) (x4 : Int32) (x5 : Int32) (t0_0 : Int64) (t0_1 : Int32) (t1_0 : Int32) (t1_1 : Int32) (t2_0 : (Nat → Int32)) (t3_0 : Int32) (t3_1 : Int32) (t4_0 : (Nat → Int32)) (t5_0 : Int32) (t5_1 : Int32) (t6_0 : (Nat → Int32)) (t7_0 : Int32) (t7_1 : Int32) (t8_0 : (Nat → Int32)) (t9_0 : Int32) (t9_1 : Int32) (t10_0 : Int32) (t10_1 : Int32) (t11_0 : (Nat → Int32)) (t12_0 : Int32) (t12_1 : Int32) (t13_0 : Int32) (t13_1 : Int32) (t14_0 : (Nat → Int32)) (lx63 : Int32) (lx96 : Int32) (p447 : (Int32 × Int64 × Int32 × Int32 × Int32 × (Nat → Int32) × Int32 × Int32 × (Nat → Int32) × Int32 × Int32 × (Nat → Int32))) : Prop := if (F_NH_canHave (p447.1 : Int32)) = (0 : Int32) then ((True ∧ S_NH_keepDecimal x5 (p447.2.1 : Int64) (p447.2.2.1 : Int32) (p447.2.2.2.1 : Int32) (p447.2.2.2.2.1 : Int32) (p447.2.2.2.2.2.1 : (Nat → Int32)) t7_0 t7_1 t8_0 t12_0 t12_1 t13_0 t13_1 t14_0) ∧ (S_NH_decimalBy_c130_8 x2 x3 x4 x5 t0_0 t0_1 t1_0 t1_1 t2_0 t3_0 t3_1 t4_0 t5_0 t5_1 t6_0 t7_0 t7_1 t8_0 t9_0 t9_1 t10_0 t10_1 t11_0 t12_0 t12_1 t13_0 t13_1 t14_0 lx63 lx96 p447 (p447.2.1 : Int64) (p447.2.2.1 : Int32) (p447.2.2.2.1 : Int32) (p447.2.2.2.2.1 : Int32) (p447.2.2.2.2.2.1 : (Nat → Int32)) (p447.2.2.2.2.2.2.1 : Int32) (p447.2.2.2.2.2.2.2.1 : Int32) (p447.2.2.2.2.2.2.2.2.1 : (Nat → Int32)) (p447.2.2.2.2.2.2.2.2.2.1 : Int32) (p447.2.2.2.2.2.2.2.2.2.2.1 : Int32) (p447.2.2.2.2.2.2.2.2.2.2.2 : (Nat → Int32)) ((F_NH_keepDecimal x5 (p447.2.1 : Int64) (p447.2.2.1 : Int32) (p447.2.2.2.1 : Int32) (p447.2.2.2.2.1 : Int32) (p447.2.2.2.2.2.1 : (Nat → Int32)) t7_0 t7_1 t8_0 t12_0 t12_1 t13_0 t13_1 t14_0) : (Int32 × Int32 × Int32 × (Nat → Int32) × Int32 × Int32 × Int32 × Int32 × (Nat → Int32))))) else (True)
def S_NH_decimalBy_J52 (x2 : Int32) (x3 : Int32) (x4 : Int32) (x5 : Int32) (t0_0 : Int64) (t0_1 : Int32) (t1_0 : Int32) (t1_1 : Int32) (t2_0 : (Nat → Int32)) (t3_0 : Int32) (t3_1 : Int32) (t4_0 : (Nat → Int32)) (t5_0 : Int32) (t5_1 : Int32) (t6_0 : (Nat → Int32)) (t7_0 : Int32) (t7_1 : Int32) (t8_0 : (Nat → Int32)) (t9_0 : Int32) (t9_1 : Int32) (t10_0 : Int32) (t10_1 : Int32) (t11_0 : (Nat → Int32)) (t12_0 : Int32) (t12_1 : Int32) (t13_0 : Int32) (t13_1 : Int32) (t14_0 : (Nat → Int32)) (lx63 : Int32) (lx96 : Int32) : Prop := if (F_NH_need lx96) = (0 : Int32) then (if x2 = (0 : Int32) then ((0 ≤ x3.toInt) ∧ ((x3.toInt ≤ 9) ∧ (S_NH_decimalBy_c70 x2 x3 x4 x5 t0_0 t0_1 t1_0 t1_1 t2_0 t3_0 t3_1 t4_0 t5_0 t5_1 t6_0 t7_0 t7_1 t8_0 t9_0 t9_1 t10_0 t10_1 t11_0 t12_0 t12_1 t13_0 t13_1 t14_0 lx63 lx96 ((F_DW_raise (108 : Int32) x4 t0_0 t0_1 t1_0 t1_1 t2_0 t3_0 t3_1 t4_0 t5_0 t5_1 t6_0 t9_0 t9_1 t10_0 t10_1 t11_0) : (Int32 × Int64 × Int32 × Int32 × Int32 × (Nat → Int32) × Int32 × Int32 × (Nat → Int32) × Int32 × Int32 × (Nat → Int32)))))) else (if x2 = (1 : Int32) then ((0 ≤ x3.toInt) ∧ ((x3.toInt ≤ 9) ∧ (S_NH_decimalBy_c94 x2 x3 x4 x5 t0_0 t0_1 t1_0 t1_1 t2_0 t3_0 t3_1 t4_0 t5_0 t5_1 t6_0 t7_0 t7_1 t8_0 t9_0 t9_1 t10_0 t10_1 t11_0 t12_0 t12_1 t13_0 t13_1 t14_0 lx63 lx96 ((F_DW_take (108 : Int32) t0_0 t0_1 t1_0 t1_1 t2_0 t9_0 t9_1 t10_0 t10_1 t11_0) : (Int64 × Int32 × Int32 × Int32 × (Nat → Int32)))))) else ((0 ≤ x3.toInt) ∧ ((x3.toInt ≤ 9) ∧ (S_NH_decimalBy_c124 x2 x3 x4 x5 t0_0 t0_1 t1_0 t1_1 t2_0 t3_0 t3_1 t4_0 t5_0 t5_1 t6_0 t7_0 t7_1 t8_0 t9_0 t9_1 t10_0 t10_1 t11_0 t12_0 t12_1 t13_0 t13_1 t14_0 lx63 lx96 ((F_DW_strip (108 : Int32) t0_0 t0_1 t1_0 t1_1 t2_0 t7_0 t7_1 t8_0 t9_0 t9_1 t10_0 t10_1 t11_0) : (Int64 × Int32 × Int32 × Int32 × (Nat → Int32) × Int32 × Int32 × (Nat → Int32)))))))) else (True)
def S_NH_decimalBy_J47 (x2 : Int32) (x3 : Int32) (x4 : Int32) (x5 : Int32) (t0_0 : Int64) (t0_1 : Int32) (t1_0 : Int32) (t1_1 : Int32) (t2_0 : (Nat → Int32)) (t3_0 : Int32) (t3_1 : Int32) (t4_0 : (Nat → Int32)) (t5_0 : Int32) (t5_1 : Int32) (t6_0 : (Nat → Int32)) (t7_0 : Int32) (t7_1 : Int32) (t8_0 : (Nat → Int32)) (t9_0 : Int32) (t9_1 : Int32) (t10_0 : Int32) (t10_1 : Int32) (t11_0 : (Nat → Int32)) (t12_0 : Int32) (t12_1 : Int32) (t13_0 : Int32) (t13_1 : Int32) (t14_0 : (Nat → Int32)) (lx63 : Int32) : Prop := S_NH_decimalBy_J52 x2 x3 x4 x5 t0_0 t0_1 t1_0 t1_1 t2_0 t3_0 t3_1 t4_0 t5_0 t5_1 t6_0 t7_0 t7_1 t8_0 t9_0 t9_1 t10_0 t10_1 t11_0 t12_0 t12_1 t13_0 t13_1 t14_0 lx63 1
def S_NH_decimalBy_J51 (x2 : Int32) (x3 : Int32) (x4 : Int32) (x5 : Int32) (t0_0 : Int64) (t0_1 : Int32) (t1_0 : Int32) (t1_1 : Int32) (t2_0 : (Nat → Int32)) (t3_0 : Int32) (t3_1 : Int32) (t4_0 : (Nat → Int32)) (t5_0 : Int32) (t5_1 : Int32) (t6_0 : (Nat → Int32)) (t7_0 : Int32) (t7_1 : Int32) (t8_0 : (Nat → Int32)) (t9_0 : Int32) (t9_1 : Int32) (t10_0 : Int32) (t10_1 : Int32) (t11_0 : (Nat → Int32)) (t12_0 : Int32) (t12_1 : Int32) (t13_0 : Int32) (t13_1 : Int32) (t14_0 : (Nat → Int32)) (lx63 : Int32) : Prop := S_NH_decimalBy_J52 x2 x3 x4 x5 t0_0 t0_1 t1_0 t1_1 t2_0 t3_0 t3_1 t4_0 t5_0 t5_1 t6_0 t7_0 t7_1 t8_0 t9_0 t9_1 t10_0 t10_1 t11_0 t12_0 t12_1 t13_0 t13_1 t14_0 lx63 0
def S_NH_decimalBy_J29 (x2 : Int32) (x3 : Int32) (x4 : Int32) (x5 : Int32) (t0_0 : Int64) (t0_1 : Int32) (t1_0 : Int32) (t1_1 : Int32) (t2_0 : (Nat → Int32)) (t3_0 : Int32) (t3_1 : Int32) (t4_0 : (Nat → Int32)) (t5_0 : Int32) (t5_1 : Int32) (t6_0 : (Nat → Int32)) (t7_0 : Int32) (t7_1 : Int32) (t8_0 : (Nat → Int32)) (t9_0 : Int32) (t9_1 : Int32) (t10_0 : Int32) (t10_1 : Int32) (t11_0 : (Nat → Int32)) (t12_0 : Int32) (t12_1 : Int32) (t13_0 : Int32) (t13_1 : Int32) (t14_0 : (Nat → Int32)) (lx63 : Int32) : Prop := if (F_NH_need lx63) = (0 : Int32) then (if x2 = (0 : Int32) then (if x4 < (0 : Int32) then (S_NH_decimalBy_J51 x2 x3 x4 x5 t0_0 t0_1 t1_0 t1_1 t2_0 t3_0 t3_1 t4_0 t5_0 t5_1 t6_0 t7_0 t7_1 t8_0 t9_0 t9_1 t10_0 t10_1 t11_0 t12_0 t12_1 t13_0 t13_1 t14_0 lx63) else (if (999 : Int32) < x4 then (S_NH_decimalBy_J51 x2 x3 x4 x5 t0_0 t0_1 t1_0 t1_1 t2_0 t3_0 t3_1 t4_0 t5_0 t5_1 t6_0 t7_0 t7_1 t8_0 t9_0 t9_1 t10_0 t10_1 t11_0 t12_0 t12_1 t13_0 t13_1 t14_0 lx63) else (S_NH_decimalBy_J47 x2 x3 x4 x5 t0_0 t0_1 t1_0 t1_1 t2_0 t3_0 t3_1 t4_0 t5_0 t5_1 t6_0 t7_0 t7_1 t8_0 t9_0 t9_1 t10_0 t10_1 t11_0 t12_0 t12_1 t13_0 t13_1 t14_0 lx63))) else (S_NH_decimalBy_J47 x2 x3 x4 x5 t0_0 t0_1 t1_0 t1_1 t2_0 t3_0 t3_1 t4_0 t5_0 t5_1 t6_0 t7_0 t7_1 t8_0 t9_0 t9_1 t10_0 t10_1 t11_0 t12_0 t12_1 t13_0 t13_1 t14_0 lx63)) else (True)
def S_NH_decimalBy_J28 (x2 : Int32) (x3 : Int32) (x4 : Int32) (x5 : Int32) (t0_0 : Int64) (t0_1 : Int32) (t1_0 : Int32) (t1_1 : Int32) (t2_0 : (Nat → Int32)) (t3_0 : Int32) (t3_1 : Int32) (t4_0 : (Nat → Int32)) (t5_0 : Int32) (t5_1 : Int32) (t6_0 : (Nat → Int32)) (t7_0 : Int32) (t7_1 : Int32) (t8_0 : (Nat → Int32)) (t9_0 : Int32) (t9_1 : Int32) (t10_0 : Int32) (t10_1 : Int32) (t11_0 : (Nat → Int32)) (t12_0 : Int32) (t12_1 : Int32) (t13_0 : Int32) (t13_1 : Int32) (t14_0 : (Nat → Int32)) : Prop := S_NH_decimalBy_J29 x2 x3 x4 x5 t0_0 t0_1 t1_0 t1_1 t2_0 t3_0 t3_1 t4_0 t5_0 t5_1 t6_0 t7_0 t7_1 t8_0 t9_0 t9_1 t10_0 t10_1 t11_0 t12_0 t12_1 t13_0 t13_1 t14_0 0
def S_NH_decimalBy (x2 : Int32) (x3 : Int32) (x4 : Int32) (x5 : Int32) (t0_0 : Int64) (t0_1 : Int32) (t1_0 : Int32) (t1_1 : Int32) (t2_0 : (Nat → Int32)) (t3_0 : Int32) (t3_1 : Int32) (t4_0 : (Nat → Int32)) (t5_0 : Int32) (t5_1 : Int32) (t6_0 : (Nat → Int32)) (t7_0 : Int32) (t7_1 : Int32) (t8_0 : (Nat → Int32)) (t9_0 : Int32) (t9_1 : Int32) (t10_0 : Int32) (t10_1 : Int32) (t11_0 : (Nat → Int32)) (t12_0 : Int32) (t12_1 : Int32) (t13_0 : Int32) (t13_1 : Int32) (t14_0 : (Nat → Int32)) : Prop := if x2 < (0 : Int32) then (S_NH_decimalBy_J28 x2 x3 x4 x5 t0_0 t0_1 t1_0 t1_1 t2_0 t3_0 t3_1 t4_0 t5_0 t5_1 t6_0 t7_0 t7_1 t8_0 t9_0 t9_1 t10_0 t10_1 t11_0 t12_0 t12_1 t13_0 t13_1 t14_0) else (if (2 : Int32) < x2 then (S_NH_decimalBy_J28 x2 x3 x4 x5 t0_0 t0_1 t1_0 t1_1 t2_0 t3_0 t3_1 t4_0 t5_0 t5_1 t6_0 t7_0 t7_1 t8_0 t9_0 t9_1 t10_0 t10_1 t11_0 t12_0 t12_1 t13_0 t13_1 t14_0) else (if ((F_NH_isRegister x3) : Int32) = (0 : Int32) then (S_NH_decimalBy_J28 x2 x3 x4 x5 t0_0 t0_1 t1_0 t1_1 t2_0 t3_0 t3_1 t4_0 t5_0 t5_1 t6_0 t7_0 t7_1 t8_0 t9_0 t9_1 t10_0 t10_1 t11_0 t12_0 t12_1 t13_0 t13_1 t14_0) else (if ((F_NH_isRegister x5) : Int32) = (0 : Int32) then (S_NH_decimalBy_J28 x2 x3 x4 x5 t0_0 t0_1 t1_0 t1_1 t2_0 t3_0 t3_1 t4_0 t5_0 t5_1 t6_0 t7_0 t7_1 t8_0 t9_0 t9_1 t10_0 t10_1 t11_0 t12_0 t12_1 t13_0 t13_1 t14_0) else (S_NH_decimalBy_J29 x2 x3 x4 x5 t0_0 t0_1 t1_0 t1_1 t2_0 t3_0 t3_1 t4_0 t5_0 t5_1 t6_0 t7_0 t7_1 t8_0 t9_0 t9_1 t10_0 t10_1 t11_0 t12_0 t12_1 t13_0 t13_1 t14_0 1))))
set_option maxRecDepth 100000 in
set_option maxHeartbeats 4000000 in
theorem X_NH_decimalBy (l : Launch) (D : va_G) (g : Nat → ClassId) (q : Nat → Nat) (ws : va_W) (x2 : Int32) (x3 : Int32) (x4 : Int32) (x5 : Int32) (d3 : Nat) (hBd3 : q_isDec (nsh g q) g q d3 108) (yd3 : 66 ≤ d3) (gd3x3 : x3.toNatClampNeg < 10 → d3 = 68 + 5 * x3.toNatClampNeg) (d5 : Nat) (hBd5 : q_isDec (nsh g q) g q d5 108) (yd5 : 66 ≤ d5) (gd5x5 : x5.toNatClampNeg < 10 → d5 = 68 + 5 * x5.toNatClampNeg) (hlt : l.stackTraces = false) (hI : q_I (nsh g q) q ws) (t0_0 : Int64) (t0_1 : Int32) (hT0 : ws[30]? = (some (q 30, .inr (5, [.ref (q 31), .long t0_0, .ref (q 9), .int t0_1])) : Option (Nat × va_E))) (t1_0 : Int32) (t1_1 : Int32) (hT1 : ws[10]? = (some (q 10, .inr (2, [.ref (q 11), .int t1_0, .int t1_1])) : Option (Nat × va_E))) (t2_0 : (Nat → Int32)) (hT2 : ws[11]? = (some (q 11, .inl (g 0, (220 : Int32).toNatClampNeg, .inl t2_0)) : Option (Nat × va_E))) (t3_0 : Int32) (t3_1 : Int32) (hT3 : ws[14]? = (some (q 14, .inr (2, [.ref (q 15), .int t3_0, .int t3_1])) : Option (Nat × va_E))) (t4_0 : (Nat → Int32)) (hT4 : ws[15]? = (some (q 15, .inl (g 0, (220 : Int32).toNatClampNeg, .inl t4_0)) : Option (Nat × va_E))) (t5_0 : Int32) (t5_1 : Int32) (hT5 : ws[18]? = (some (q 18, .inr (2, [.ref (q 19), .int t5_0, .int t5_1])) : Option (Nat × va_E))) (t6_0 : (Nat → Int32)) (hT6 : ws[19]? = (some (q 19, .inl (g 0, (220 : Int32).toNatClampNeg, .inl t6_0)) : Option (Nat × va_E))) (t7_0 : Int32) (t7_1 : Int32) (hT7 : ws[20]? = (some (q 20, .inr (2, [.ref (q 21), .int t7_0, .int t7_1])) : Option (Nat × va_E))) (t8_0 : (Nat → Int32)) (hT8 : ws[21]? = (some (q 21, .inl (g 0, (220 : Int32).toNatClampNeg, .inl t8_0)) : Option (Nat × va_E))) (t9_0 : Int32) (t9_1 : Int32) (hT9 : ws[d3]? = (some (q d3, .inr (3, [.ref (q (d3 + 1)), .int t9_0, .int t9_1])) : Option (Nat × va_E))) (t10_0 : Int32) (t10_1 : Int32) (hT10 : ws[d3 + 1]? = (some (q (d3 + 1), .inr (2, [.ref (q (d3 + 2)), .int t10_0, .int t10_1])) : Option (Nat × va_E))) (t11_0 : (Nat → Int32)) (hT11 : ws[d3 + 2]? = (some (q (d3 + 2), .inl (g 0, (108 : Int32).toNatClampNeg, .inl t11_0)) : Option (Nat × va_E))) (t12_0 : Int32) (t12_1 : Int32) (hT12 : ws[d5]? = (some (q d5, .inr (3, [.ref (q (d5 + 1)), .int t12_0, .int t12_1])) : Option (Nat × va_E))) (t13_0 : Int32) (t13_1 : Int32) (hT13 : ws[d5 + 1]? = (some (q (d5 + 1), .inr (2, [.ref (q (d5 + 2)), .int t13_0, .int t13_1])) : Option (Nat × va_E))) (t14_0 : (Nat → Int32)) (hT14 : ws[d5 + 2]? = (some (q (d5 + 2), .inl (g 0, (108 : Int32).toNatClampNeg, .inl t14_0)) : Option (Nat × va_E))) (hS : True ∧ S_NH_decimalBy x2 x3 x4 x5 t0_0 t0_1 t1_0 t1_1 t2_0 t3_0 t3_1 t4_0 t5_0 t5_1 t6_0 t7_0 t7_1 t8_0 t9_0 t9_1 t10_0 t10_1 t11_0 t12_0 t12_1 t13_0 t13_1 t14_0) : ∀ sz, q_Mx l y_NH_decimalBy prog_1_method_12_code 5 none 9 4 24 D g [.ref (q 0), .int x2, .int x3, .int x4, .int x5] ws sz (va_Qv (fun u => q_I (nsh g q) q u ∧ q_un ws u [10, 11, 14, 15, 18, 19, 20, 21, 30, d5, d5 + 1, d5 + 2] ∧ ∃ (u0_0 : Int64) (u0_1 : Int32) (u1_0 : Int32) (u1_1 : Int32) (u2_0 : (Nat → Int32)) (u3_0 : Int32) (u3_1 : Int32) (u4_0 : (Nat → Int32)) (u5_0 : Int32) (u5_1 : Int32) (u6_0 : (Nat → Int32)) (u7_0 : Int32) (u7_1 : Int32) (u8_0 : (Nat → Int32)) (u12_0 : Int32) (u12_1 : Int32) (u13_0 : Int32) (u13_1 : Int32) (u14_0 : (Nat → Int32)), u[30]? = (some (q 30, .inr (5, [.ref (q 31), .long u0_0, .ref (q 9), .int u0_1])) : Option (Nat × va_E)) ∧ u[10]? = (some (q 10, .inr (2, [.ref (q 11), .int u1_0, .int u1_1])) : Option (Nat × va_E)) ∧ u[11]? = (some (q 11, .inl (g 0, (220 : Int32).toNatClampNeg, .inl u2_0)) : Option (Nat × va_E)) ∧ u[14]? = (some (q 14, .inr (2, [.ref (q 15), .int u3_0, .int u3_1])) : Option (Nat × va_E)) ∧ u[15]? = (some (q 15, .inl (g 0, (220 : Int32).toNatClampNeg, .inl u4_0)) : Option (Nat × va_E)) ∧ u[18]? = (some (q 18, .inr (2, [.ref (q 19), .int u5_0, .int u5_1])) : Option (Nat × va_E)) ∧ u[19]? = (some (q 19, .inl (g 0, (220 : Int32).toNatClampNeg, .inl u6_0)) : Option (Nat × va_E)) ∧ u[20]? = (some (q 20, .inr (2, [.ref (q 21), .int u7_0, .int u7_1])) : Option (Nat × va_E)) ∧ u[21]? = (some (q 21, .inl (g 0, (220 : Int32).toNatClampNeg, .inl u8_0)) : Option (Nat × va_E)) ∧ u[d5]? = (some (q d5, .inr (3, [.ref (q (d5 + 1)), .int u12_0, .int u12_1])) : Option (Nat × va_E)) ∧ u[d5 + 1]? = (some (q (d5 + 1), .inr (2, [.ref (q (d5 + 2)), .int u13_0, .int u13_1])) : Option (Nat × va_E)) ∧ u[d5 + 2]? = (some (q (d5 + 2), .inl (g 0, (108 : Int32).toNatClampNeg, .inl u14_0)) : Option (Nat × va_E)) ∧ (0 ≤ u0_1.toInt) ∧ (u0_1.toInt ≤ 1) ∧ (0 ≤ u1_0.toInt) ∧ (u1_0.toInt ≤ 220) ∧ (0 ≤ u1_1.toInt) ∧ (u1_1.toInt ≤ 1) ∧ (0 ≤ u3_0.toInt) ∧ (u3_0.toInt ≤ 220) ∧ (0 ≤ u3_1.toInt) ∧ (u3_1.toInt ≤ 1) ∧ (0 ≤ u5_0.toInt) ∧ (u5_0.toInt ≤ 220) ∧ (0 ≤ u5_1.toInt) ∧ (u5_1.toInt ≤ 1) ∧ (0 ≤ u7_0.toInt) ∧ (u7_0.toInt ≤ 220) ∧ (0 ≤ u7_1.toInt) ∧ (u7_1.toInt ≤ 1) ∧ (0 ≤ u12_0.toInt + 10000) ∧ (u12_0.toInt ≤ 10000) ∧ (1 ≤ u12_1.toInt) ∧ (u12_1.toInt ≤ 1000) ∧ (0 ≤ u13_0.toInt) ∧ (u13_0.toInt ≤ 108) ∧ (0 ≤ u13_1.toInt) ∧ (u13_1.toInt ≤ 1) ∧ (x3.toInt ≤ u0_1.toInt + 9) ∧ (u0_1.toInt ≤ x3.toInt + 1) ∧ (t0_1.toInt ≤ u0_1.toInt) ∧ (u0_1.toInt ≤ t0_1.toInt) ∧ (x3.toInt ≤ u1_0.toInt + 9) ∧ (u1_0.toInt ≤ x3.toInt + 220) ∧ (x3.toInt ≤ u1_1.toInt + 9) ∧ (u1_1.toInt ≤ x3.toInt + 1) ∧ (x3.toInt ≤ u3_0.toInt + 9) ∧ (u3_0.toInt ≤ x3.toInt + 220) ∧ (x3.toInt ≤ u3_1.toInt + 9) ∧ (u3_1.toInt ≤ x3.toInt + 1) ∧ (x3.toInt ≤ u5_0.toInt + 9) ∧ (u5_0.toInt ≤ x3.toInt + 220) ∧ (x3.toInt ≤ u5_1.toInt + 9) ∧ (u5_1.toInt ≤ x3.toInt + 1) ∧ (x3.toInt ≤ u7_0.toInt + 9) ∧ (u7_0.toInt ≤ x3.toInt + 220) ∧ (x5.toInt ≤ u7_0.toInt + 9) ∧ (u7_0.toInt ≤ x5.toInt + 220) ∧ (x3.toInt ≤ u7_1.toInt + 9) ∧ (u7_1.toInt ≤ x3.toInt + 1) ∧ (x5.toInt ≤ u7_1.toInt + 9) ∧ (u7_1.toInt ≤ x5.toInt + 1) ∧ (x3.toInt ≤ u12_0.toInt + 10009) ∧ (u12_0.toInt ≤ x3.toInt + 10000) ∧ (x5.toInt ≤ u12_0.toInt + 10009) ∧ (u12_0.toInt ≤ x5.toInt + 10000) ∧ (x3.toInt ≤ u12_1.toInt + 8) ∧ (u12_1.toInt ≤ x3.toInt + 1000) ∧ (x5.toInt ≤ u12_1.toInt + 8) ∧ (u12_1.toInt ≤ x5.toInt + 1000) ∧ (x3.toInt ≤ u13_0.toInt + 9) ∧ (u13_0.toInt ≤ x3.toInt + 108) ∧ (x5.toInt ≤ u13_0.toInt + 9) ∧ (u13_0.toInt ≤ x5.toInt + 108) ∧ (x3.toInt ≤ u13_1.toInt + 9) ∧ (u13_1.toInt ≤ x3.toInt + 1) ∧ (x5.toInt ≤ u13_1.toInt + 9) ∧ (u13_1.toInt ≤ x5.toInt + 1) ∧ (u1_0.toInt ≤ u3_0.toInt + 108) ∧ ((0 : Int32), u0_0, u0_1, u1_0, u1_1, u2_0, u3_0, u3_1, u4_0, u5_0, u5_1, u6_0, u7_0, u7_1, u8_0, u12_0, u12_1, u13_0, u13_1, u14_0) = (F_NH_decimalBy x2 x3 x4 x5 t0_0 t0_1 t1_0 t1_1 t2_0 t3_0 t3_1 t4_0 t5_0 t5_1 t6_0 t7_0 t7_1 t8_0 t9_0 t9_1 t10_0 t10_1 t11_0 t12_0 t12_1 t13_0 t13_1 t14_0)) (q_B D g (va_A ws sz)) (va_A ws sz)) (fun E u => ∃ c : Int32, E = qE c ∧ c ≠ 0 ∧ q_I (nsh g q) q u ∧ q_un ws u [10, 11, 14, 15, 18, 19, 20, 21, 30, d5, d5 + 1, d5 + 2] ∧ ∃ (u0_0 : Int64) (u0_1 : Int32) (u1_0 : Int32) (u1_1 : Int32) (u2_0 : (Nat → Int32)) (u3_0 : Int32) (u3_1 : Int32) (u4_0 : (Nat → Int32)) (u5_0 : Int32) (u5_1 : Int32) (u6_0 : (Nat → Int32)) (u7_0 : Int32) (u7_1 : Int32) (u8_0 : (Nat → Int32)) (u12_0 : Int32) (u12_1 : Int32) (u13_0 : Int32) (u13_1 : Int32) (u14_0 : (Nat → Int32)), u[30]? = (some (q 30, .inr (5, [.ref (q 31), .long u0_0, .ref (q 9), .int u0_1])) : Option (Nat × va_E)) ∧ u[10]? = (some (q 10, .inr (2, [.ref (q 11), .int u1_0, .int u1_1])) : Option (Nat × va_E)) ∧ u[11]? = (some (q 11, .inl (g 0, (220 : Int32).toNatClampNeg, .inl u2_0)) : Option (Nat × va_E)) ∧ u[14]? = (some (q 14, .inr (2, [.ref (q 15), .int u3_0, .int u3_1])) : Option (Nat × va_E)) ∧ u[15]? = (some (q 15, .inl (g 0, (220 : Int32).toNatClampNeg, .inl u4_0)) : Option (Nat × va_E)) ∧ u[18]? = (some (q 18, .inr (2, [.ref (q 19), .int u5_0, .int u5_1])) : Option (Nat × va_E)) ∧ u[19]? = (some (q 19, .inl (g 0, (220 : Int32).toNatClampNeg, .inl u6_0)) : Option (Nat × va_E)) ∧ u[20]? = (some (q 20, .inr (2, [.ref (q 21), .int u7_0, .int u7_1])) : Option (Nat × va_E)) ∧ u[21]? = (some (q 21, .inl (g 0, (220 : Int32).toNatClampNeg, .inl u8_0)) : Option (Nat × va_E)) ∧ u[d5]? = (some (q d5, .inr (3, [.ref (q (d5 + 1)), .int u12_0, .int u12_1])) : Option (Nat × va_E)) ∧ u[d5 + 1]? = (some (q (d5 + 1), .inr (2, [.ref (q (d5 + 2)), .int u13_0, .int u13_1])) : Option (Nat × va_E)) ∧ u[d5 + 2]? = (some (q (d5 + 2), .inl (g 0, (108 : Int32).toNatClampNeg, .inl u14_0)) : Option (Nat × va_E)) ∧ (c, u0_0, u0_1, u1_0, u1_1, u2_0, u3_0, u3_1, u4_0, u5_0, u5_1, u6_0, u7_0, u7_1, u8_0, u12_0, u12_1, u13_0, u13_1, u14_0) = (F_NH_decimalBy x2 x3 x4 x5 t0_0 t0_1 t1_0 t1_1 t2_0 t3_0 t3_1 t4_0 t5_0 t5_1 t6_0 t7_0 t7_1 t8_0 t9_0 t9_1 t10_0 t10_1 t11_0 t12_0 t12_1 t13_0 t13_1 t14_0)) := by
  intro sz
  refine q_intoX (by decide) (Nat.le_of_ble_eq_true rfl) ?_
  intro p e s m below meth c ls hsz C0 V hno hl
  have hx := C0.1
  have hb := C0.2.1
  have btt0_1 := n_w30 hI hT0
  replace btt0_1 : q_F (0 ≤ t0_1.toInt ∧ t0_1.toInt ≤ 1) := btt0_1
  have btt1_1 := (q_bigW hI (n_b10 g q) hT1).2
  clear btt1_1
  obtain ⟨btt3_0, btt3_1⟩ := q_bigW hI (n_b14 g q) hT3
  replace btt3_0 : q_F (0 ≤ t3_0.toInt ∧ t3_0.toInt ≤ 220) := btt3_0
  replace btt3_1 : q_F (0 ≤ t3_1.toInt ∧ t3_1.toInt ≤ 1) := btt3_1
  obtain ⟨btt5_0, btt5_1⟩ := q_bigW hI (n_b18 g q) hT5
  replace btt5_0 : q_F (0 ≤ t5_0.toInt ∧ t5_0.toInt ≤ 220) := btt5_0
  replace btt5_1 : q_F (0 ≤ t5_1.toInt ∧ t5_1.toInt ≤ 1) := btt5_1
  have btt7_1 := (q_bigW hI (n_b20 g q) hT7).2
  clear btt7_1
  have btt9_1 := (n_deW hI hBd3 hT9).2
  clear btt9_1
  obtain ⟨btt10_0, btt10_1⟩ := q_bigW hI hBd3.2 hT10
  replace btt10_0 : q_F (0 ≤ t10_0.toInt ∧ t10_0.toInt ≤ 108) := btt10_0
  replace btt10_1 : q_F (0 ≤ t10_1.toInt ∧ t10_1.toInt ≤ 1) := btt10_1
  have btt12_1 := (n_deW hI hBd5 hT12).2
  clear btt12_1
  have btt13_1 := (q_bigW hI hBd5.2 hT13).2
  clear btt13_1
  have hF : q_un ws ws [10, 11, 14, 15, 18, 19, 20, 21, 30, d5, d5 + 1, d5 + 2] := q_u0
  have hl : lv_has ls 5 [(0, .ref (q 0)), (1, .int x2), (2, .int x3), (3, .int x4), (4, .int x5)] := hl
  refine lv_iload_n hx hb d_1_12_0 rfl (lv_at hl 1 rfl) ?_
  refine q_join (X := Int32) (fun z H locs ls _ => q_F (0 ≤ z.toInt) ∧ q_F (z.toInt ≤ 1) ∧ q_Wd D g (va_A ws sz) s ws H locs ∧ lv_has ls 5 [(0, .ref (q 0)), (1, .int x2), (2, .int x3), (3, .int x4), (4, .int x5)] ∧ F_NH_decimalBy_J29 x2 x3 x4 x5 t0_0 t0_1 t1_0 t1_1 t2_0 t3_0 t3_1 t4_0 t5_0 t5_1 t6_0 t7_0 t7_1 t8_0 t9_0 t9_1 t10_0 t10_1 t11_0 t12_0 t12_1 t13_0 t13_1 t14_0 z = (F_NH_decimalBy x2 x3 x4 x5 t0_0 t0_1 t1_0 t1_1 t2_0 t3_0 t3_1 t4_0 t5_0 t5_1 t6_0 t7_0 t7_1 t8_0 t9_0 t9_1 t10_0 t10_1 t11_0 t12_0 t12_1 t13_0 t13_1 t14_0) ∧ True ∧ S_NH_decimalBy_J29 x2 x3 x4 x5 t0_0 t0_1 t1_0 t1_1 t2_0 t3_0 t3_1 t4_0 t5_0 t5_1 t6_0 t7_0 t7_1 t8_0 t9_0 t9_1 t10_0 t10_1 t11_0 t12_0 t12_1 t13_0 t13_1 t14_0 z) (fun z => [.int z]) 29 0 0 ?_ ?_
  ·
    rintro lx63 H locs ls _ hZ9
    obtain ⟨i80, hZ9⟩ := hZ9
    obtain ⟨i81, hZ9⟩ := hZ9
    obtain ⟨V, hZ9⟩ := hZ9
    obtain ⟨hl, hZ9⟩ := hZ9
    obtain ⟨hR82, hS83⟩ := hZ9
    replace i80 : q_F (0 ≤ lx63.toInt) := i80
    replace i81 : q_F (lx63.toInt ≤ 1) := i81
    replace hl : lv_has ls 5 [(0, .ref (q 0)), (1, .int x2), (2, .int x3), (3, .int x4), (4, .int x5)] := hl
    refine q_goxv V (q_runSX (As := [.int lx63]) (rest := []) (d := 7) (mc := 1) (ms := 6) C0 V rfl LS_NH_104 (X_NH_need l D g q ws  lx63 hlt hI  ⟨(by first | with_reducible exact q_fe i80 | (have t1 : 0 ≤ lx63.toInt := i80; omega)), (by first | with_reducible exact q_fe i81 | (have t1 : lx63.toInt ≤ 1 := i81; omega))⟩ _) rfl hl.1 rfl (Nat.le_of_ble_eq_true rfl) ⟨by decide, by decide⟩ ⟨Nat.le_of_ble_eq_true rfl, Nat.le_of_ble_eq_true rfl⟩ d_1_12_29) (fun qx Ex ce u87 H locs hp88 V hce hcv hcl => ?_) (fun u87 H locs hp88 V => ?_)
    ·
      obtain ⟨cx90, he91, hc92, rfl, hE89⟩ := hp88
      have c93 : ¬ (F_NH_need lx63) = (0 : Int32) := fun z => hc92 (((hE89) : cx90 = _).trans z)
      exact q_outT hno C0 V (⟨(F_NH_need lx63), (he91.trans (congrArg qE ((hE89) : cx90 = _))), c93, hI, hF, t0_0, t0_1, t1_0, t1_1, t2_0, t3_0, t3_1, t4_0, t5_0, t5_1, t6_0, t7_0, t7_1, t8_0, t12_0, t12_1, t13_0, t13_1, t14_0, hT0, hT1, hT2, hT3, hT4, hT5, hT6, hT7, hT8, hT12, hT13, hT14, (show ((F_NH_need lx63), t0_0, t0_1, t1_0, t1_1, t2_0, t3_0, t3_1, t4_0, t5_0, t5_1, t6_0, t7_0, t7_1, t8_0, t12_0, t12_1, t13_0, t13_1, t14_0) = (F_NH_decimalBy x2 x3 x4 x5 t0_0 t0_1 t1_0 t1_1 t2_0 t3_0 t3_1 t4_0 t5_0 t5_1 t6_0 t7_0 t7_1 t8_0 t9_0 t9_1 t10_0 t10_1 t11_0 t12_0 t12_1 t13_0 t13_1 t14_0) from Eq.trans (by rw [F_NH_decimalBy_J29.eq_1, if_neg c93]) hR82)⟩) hce hcv hcl (Nat.le_of_ble_eq_true rfl) (Nat.le_of_ble_eq_true rfl)
    ·
      obtain ⟨rfl, hE94⟩ := hp88
      have c93 : (F_NH_need lx63) = (0 : Int32) := ((hE94) : (0 : Int32) = _).symm
      refine lv_iload_n hx hb d_1_12_32 rfl (lv_at hl 1 rfl) ?_
      refine q_join (X := Int32) (fun z H locs ls _ => q_F (0 ≤ z.toInt) ∧ q_F (z.toInt ≤ 1) ∧ q_Wd D g (va_A ws sz) s ws H locs ∧ lv_has ls 5 [(0, .ref (q 0)), (1, .int x2), (2, .int x3), (3, .int x4), (4, .int x5)] ∧ F_NH_decimalBy_J52 x2 x3 x4 x5 t0_0 t0_1 t1_0 t1_1 t2_0 t3_0 t3_1 t4_0 t5_0 t5_1 t6_0 t7_0 t7_1 t8_0 t9_0 t9_1 t10_0 t10_1 t11_0 t12_0 t12_1 t13_0 t13_1 t14_0 lx63 z = (F_NH_decimalBy x2 x3 x4 x5 t0_0 t0_1 t1_0 t1_1 t2_0 t3_0 t3_1 t4_0 t5_0 t5_1 t6_0 t7_0 t7_1 t8_0 t9_0 t9_1 t10_0 t10_1 t11_0 t12_0 t12_1 t13_0 t13_1 t14_0) ∧ True ∧ S_NH_decimalBy_J52 x2 x3 x4 x5 t0_0 t0_1 t1_0 t1_1 t2_0 t3_0 t3_1 t4_0 t5_0 t5_1 t6_0 t7_0 t7_1 t8_0 t9_0 t9_1 t10_0 t10_1 t11_0 t12_0 t12_1 t13_0 t13_1 t14_0 lx63 z) (fun z => [.int z]) 52 1 6 ?_ ?_
      ·
        rintro lx96 H locs ls _ hZ9
        obtain ⟨i113, hZ9⟩ := hZ9
        obtain ⟨i114, hZ9⟩ := hZ9
        obtain ⟨V, hZ9⟩ := hZ9
        obtain ⟨hl, hZ9⟩ := hZ9
        obtain ⟨hR115, hS116⟩ := hZ9
        replace i113 : q_F (0 ≤ lx96.toInt) := i113
        replace i114 : q_F (lx96.toInt ≤ 1) := i114
        replace hl : lv_has ls 5 [(0, .ref (q 0)), (1, .int x2), (2, .int x3), (3, .int x4), (4, .int x5)] := hl
        refine q_goxv V (q_runSX (As := [.int lx96]) (rest := []) (d := 7) (mc := 1) (ms := 6) C0 V rfl LS_NH_104 (X_NH_need l D g q ws  lx96 hlt hI  ⟨(by first | with_reducible exact q_fe i113 | (have t1 : 0 ≤ lx96.toInt := i113; omega)), (by first | with_reducible exact q_fe i114 | (have t1 : lx96.toInt ≤ 1 := i114; omega))⟩ _) rfl hl.1 rfl (Nat.le_of_ble_eq_true rfl) ⟨by decide, by decide⟩ ⟨Nat.le_of_ble_eq_true rfl, Nat.le_of_ble_eq_true rfl⟩ d_1_12_52) (fun qx Ex ce u120 H locs hp121 V hce hcv hcl => ?_) (fun u120 H locs hp121 V => ?_)
        ·
          obtain ⟨cx123, he124, hc125, rfl, hE122⟩ := hp121
          have c126 : ¬ (F_NH_need lx96) = (0 : Int32) := fun z => hc125 (((hE122) : cx123 = _).trans z)
          exact q_outT hno C0 V (⟨(F_NH_need lx96), (he124.trans (congrArg qE ((hE122) : cx123 = _))), c126, hI, hF, t0_0, t0_1, t1_0, t1_1, t2_0, t3_0, t3_1, t4_0, t5_0, t5_1, t6_0, t7_0, t7_1, t8_0, t12_0, t12_1, t13_0, t13_1, t14_0, hT0, hT1, hT2, hT3, hT4, hT5, hT6, hT7, hT8, hT12, hT13, hT14, (show ((F_NH_need lx96), t0_0, t0_1, t1_0, t1_1, t2_0, t3_0, t3_1, t4_0, t5_0, t5_1, t6_0, t7_0, t7_1, t8_0, t12_0, t12_1, t13_0, t13_1, t14_0) = (F_NH_decimalBy x2 x3 x4 x5 t0_0 t0_1 t1_0 t1_1 t2_0 t3_0 t3_1 t4_0 t5_0 t5_1 t6_0 t7_0 t7_1 t8_0 t9_0 t9_1 t10_0 t10_1 t11_0 t12_0 t12_1 t13_0 t13_1 t14_0) from Eq.trans (by rw [F_NH_decimalBy_J52.eq_1, if_neg c126]) hR115)⟩) hce hcv hcl (Nat.le_of_ble_eq_true rfl) (Nat.le_of_ble_eq_true rfl)
        ·
          obtain ⟨rfl, hE127⟩ := hp121
          have c126 : (F_NH_need lx96) = (0 : Int32) := ((hE127) : (0 : Int32) = _).symm
          refine lv_iload_n hx hb d_1_12_55 rfl (lv_at hl 1 rfl) ?_
          refine lv_if_ne (tgt := 79) hx hb d_1_12_56 (by decide) (fun c129 => ?_) (fun c129 => ?_)
          ·
            refine lv_iload_n hx hb d_1_12_79 rfl (lv_at hl 1 rfl) ?_
            refine lv_iconst (v := 1) hx hb d_1_12_80 (by decide) ?_
            refine lv_icmp_ne (tgt := 114) hx hb d_1_12_81 (by decide) (fun c131 => ?_) (fun c131 => ?_)
            ·
              refine lv_aload_n hx hb d_1_12_114 rfl (lv_at hl 0 rfl) ?_
              have hO133 := n_o0 hI
              refine q_get (ci := 0) (j := 7) (v := .ref (q 30)) C0 V i_NH rfl rfl hO133 (by decide) w_431 rfl d_1_12_115 ?_
              refine lv_aload_n hx hb d_1_12_118 rfl (lv_at hl 0 rfl) ?_
              refine q_get (ci := 0) (j := 3) (v := .ref (q 6)) C0 V i_NH rfl rfl hO133 (by decide) w_427 rfl d_1_12_119 ?_
              refine lv_iload_n hx hb d_1_12_122 rfl (lv_at hl 2 rfl) ?_
              have hX134 := n_fx hI (n_s6 g q)
              have ob135 : q_F (0 ≤ x3.toInt) := (by have h := hS116; rw [S_NH_decimalBy_J52.eq_1] at h; rw [if_pos c126] at h; rw [if_neg c129] at h; rw [if_neg c131] at h; exact h.2.1)
              have ob136 : q_F (x3.toInt ≤ 9) := (by have h := hS116; rw [S_NH_decimalBy_J52.eq_1] at h; rw [if_pos c126] at h; rw [if_neg c129] at h; rw [if_neg c131] at h; replace h := q_s2 h; exact h.2.1)
              have hj137 : x3.toNatClampNeg < 10 := by have z := q_clI (i := x3) (x := x3.toInt) rfl (by first | with_reducible exact q_fe ob135 | (have t1 : 0 ≤ x3.toInt := ob135; omega)); have t1 : 0 ≤ x3.toInt := ob135; have t2 : x3.toInt ≤ 9 := ob136; omega
              have hq138 := gd3x3 hj137
              refine q_aald (t := 5) (q := q d3) C0 V hX134 rfl (q_ix (x := x3.toInt) rfl (by first | with_reducible exact q_fe ob135 | (have t1 : 0 ≤ x3.toInt := ob135; omega)) (by have t1 : 0 ≤ x3.toInt := ob135; have t2 : x3.toInt ≤ 9 := ob136; omega)) (by rw [hq138]; exact n_fdv hj137) d_1_12_123 ?_
              refine q_gov V (q_runV (As := [.ref (q d3)]) (rest := []) (d := 4) (mc := 0) (ms := 0) (ci := 5) C0 V rfl LV_NH_293 (X_DW_strip l D g q ws d3 108 hBd3 (Or.inr yd3)  (by have z0 := yd3; omega) (by have z0 := yd3; omega) (by have z0 := yd3; omega) (by have z0 := yd3; omega) (by have z0 := yd3; omega) (by have z0 := yd3; omega) (by have z0 := yd3; omega) (by have z0 := yd3; omega) (by have z0 := yd3; omega) (by have z0 := yd3; omega) (by have z0 := yd3; omega) (by have z0 := yd3; omega) hI t0_0 t0_1 hT0 t1_0 t1_1 hT1 t2_0 hT2 t7_0 t7_1 hT7 t8_0 hT8 t9_0 t9_1 hT9 t10_0 t10_1 hT10 t11_0 hT11  _) rfl rfl hT0 rfl hl.1 rfl (Nat.le_of_ble_eq_true rfl) ⟨by decide, by decide⟩ ⟨Nat.le_of_ble_eq_true rfl, Nat.le_of_ble_eq_true rfl⟩ d_1_12_124) (fun u139 H locs hp140 V => ?_)
              obtain ⟨hI, hZ9⟩ := hp140
              obtain ⟨hu169, hZ9⟩ := hZ9
              obtain ⟨y142, hZ9⟩ := hZ9
              obtain ⟨y143, hZ9⟩ := hZ9
              obtain ⟨y145, hZ9⟩ := hZ9
              obtain ⟨y146, hZ9⟩ := hZ9
              obtain ⟨f147, hZ9⟩ := hZ9
              obtain ⟨y150, hZ9⟩ := hZ9
              obtain ⟨y151, hZ9⟩ := hZ9
              obtain ⟨f152, hZ9⟩ := hZ9
              obtain ⟨hO141, hZ9⟩ := hZ9
              obtain ⟨hO144, hZ9⟩ := hZ9
              obtain ⟨hA148, hZ9⟩ := hZ9
              obtain ⟨hO149, hZ9⟩ := hZ9
              obtain ⟨hA153, hZ9⟩ := hZ9
              replace hZ9 := hZ9.2
              obtain ⟨b155, hZ9⟩ := hZ9
              obtain ⟨b156, hZ9⟩ := hZ9
              replace hZ9 := hZ9.2.2.2.2.2.2.2
              obtain ⟨b164, hZ9⟩ := hZ9
              obtain ⟨b165, hZ9⟩ := hZ9
              obtain ⟨b166, hZ9⟩ := hZ9
              obtain ⟨b167, hE168⟩ := hZ9
              replace hO141 : u139[30]? = (some (q 30, .inr (5, [.ref (q 31), .long y142, .ref (q 9), .int y143])) : Option (Nat × va_E)) := hO141
              replace hO144 : u139[10]? = (some (q 10, .inr (2, [.ref (q 11), .int y145, .int y146])) : Option (Nat × va_E)) := hO144
              replace hA148 : u139[11]? = (some (q 11, .inl (g 0, (220 : Int32).toNatClampNeg, .inl f147)) : Option (Nat × va_E)) := hA148
              replace hO149 : u139[20]? = (some (q 20, .inr (2, [.ref (q 21), .int y150, .int y151])) : Option (Nat × va_E)) := hO149
              replace hA153 : u139[21]? = (some (q 21, .inl (g 0, (220 : Int32).toNatClampNeg, .inl f152)) : Option (Nat × va_E)) := hA153
              obtain ⟨p170, e171⟩ : ∃ z, z = (F_DW_strip (108 : Int32) t0_0 t0_1 t1_0 t1_1 t2_0 t7_0 t7_1 t8_0 t9_0 t9_1 t10_0 t10_1 t11_0) := ⟨_, rfl⟩
              have e172 : y142 = p170.1 := congrArg (fun z => z.1) (hE168.trans e171.symm)
              have e173 : y143 = p170.2.1 := congrArg (fun z => z.2.1) (hE168.trans e171.symm)
              have e174 : y145 = p170.2.2.1 := congrArg (fun z => z.2.2.1) (hE168.trans e171.symm)
              have e175 : y146 = p170.2.2.2.1 := congrArg (fun z => z.2.2.2.1) (hE168.trans e171.symm)
              have e176 : f147 = p170.2.2.2.2.1 := congrArg (fun z => z.2.2.2.2.1) (hE168.trans e171.symm)
              have e177 : y150 = p170.2.2.2.2.2.1 := congrArg (fun z => z.2.2.2.2.2.1) (hE168.trans e171.symm)
              have e178 : y151 = p170.2.2.2.2.2.2.1 := congrArg (fun z => z.2.2.2.2.2.2.1) (hE168.trans e171.symm)
              have e179 : f152 = p170.2.2.2.2.2.2.2 := congrArg (fun z => z.2.2.2.2.2.2.2) (hE168.trans e171.symm)
              replace b155 : q_F (0 ≤ y145.toInt) := b155
              replace b156 : q_F (0 ≤ y146.toInt) := b156
              replace b164 : q_F (t0_1.toInt ≤ y143.toInt) := b164
              replace b165 : q_F (y143.toInt ≤ t0_1.toInt) := b165
              replace b166 : q_F (y145.toInt ≤ t10_0.toInt) := b166
              replace b167 : q_F (y146.toInt ≤ t10_1.toInt) := b167
              replace hT3 := (hu169 _ (by decide)).trans hT3
              replace hT4 := (hu169 _ (by decide)).trans hT4
              replace hT5 := (hu169 _ (by decide)).trans hT5
              replace hT6 := (hu169 _ (by decide)).trans hT6
              replace hT12 := (hu169 _ (by have z0 := yd5; simp only [List.mem_cons, List.not_mem_nil, or_false, not_or]; omega)).trans hT12
              replace hT13 := (hu169 _ (by have z0 := yd5; simp only [List.mem_cons, List.not_mem_nil, or_false, not_or]; omega)).trans hT13
              replace hT14 := (hu169 _ (by have z0 := yd5; simp only [List.mem_cons, List.not_mem_nil, or_false, not_or]; omega)).trans hT14
              replace hO133 := (hu169 _ (by decide)).trans hO133
              replace hF := q_uc hF hu169 (by simp)
              have hR180 := (show F_NH_decimalBy_c124 x2 x3 x4 x5 t0_0 t0_1 t1_0 t1_1 t2_0 t3_0 t3_1 t4_0 t5_0 t5_1 t6_0 t7_0 t7_1 t8_0 t9_0 t9_1 t10_0 t10_1 t11_0 t12_0 t12_1 t13_0 t13_1 t14_0 lx63 lx96 p170 = (F_NH_decimalBy x2 x3 x4 x5 t0_0 t0_1 t1_0 t1_1 t2_0 t3_0 t3_1 t4_0 t5_0 t5_1 t6_0 t7_0 t7_1 t8_0 t9_0 t9_1 t10_0 t10_1 t11_0 t12_0 t12_1 t13_0 t13_1 t14_0) from Eq.trans (by rw [e171, F_NH_decimalBy_J52.eq_1, if_pos c126, if_neg c129, if_neg c131]) hR115)
              have hS181 := (show True ∧ S_NH_decimalBy_c124 x2 x3 x4 x5 t0_0 t0_1 t1_0 t1_1 t2_0 t3_0 t3_1 t4_0 t5_0 t5_1 t6_0 t7_0 t7_1 t8_0 t9_0 t9_1 t10_0 t10_1 t11_0 t12_0 t12_1 t13_0 t13_1 t14_0 lx63 lx96 p170 from (by rw [e171]; have h := hS116; rw [S_NH_decimalBy_J52.eq_1] at h; rw [if_pos c126] at h; rw [if_neg c129] at h; rw [if_neg c131] at h; replace h := q_s2 h; replace h := q_s2 h; with_reducible exact h))
              refine lv_aload_n hx hb d_1_12_127 rfl (lv_at hl 0 rfl) ?_
              refine lv_iload hx hb d_1_12_128 (lv_at hl 4 rfl) ?_
              have ob185 : True ∧ S_NH_keepDecimal x5 y142 y143 y145 y146 f147 y150 y151 f152 t12_0 t12_1 t13_0 t13_1 t14_0 := (by rw [e179, e178, e177, e176, e175, e174, e173, e172]; have h := hS181; rw [S_NH_decimalBy_c124.eq_1] at h; with_reducible exact h.2.1)
              refine q_goxv V (q_runVX (As := [.int x5]) (rest := []) (d := 8) (mc := 1) (ms := 6) (ci := 0) C0 V rfl LV_NH_281 (X_NH_keepDecimal l D g q u139  x5 d5 hBd5 yd5 gd5x5 hlt hI y142 y143 hO141 y145 y146 hO144 f147 hA148 y150 y151 hO149 f152 hA153 t12_0 t12_1 hT12 t13_0 t13_1 hT13 t14_0 hT14 ob185 _) rfl rfl hO133 rfl hl.1 rfl (Nat.le_of_ble_eq_true rfl) ⟨by decide, by decide⟩ ⟨Nat.le_of_ble_eq_true rfl, Nat.le_of_ble_eq_true rfl⟩ d_1_12_130) (fun qx Ex ce u186 H locs hp187 V hce hcv hcl => ?_) (fun u186 H locs hp187 V => ?_)
              ·
                obtain ⟨cx202, hZ9⟩ := hp187
                obtain ⟨he203, hZ9⟩ := hZ9
                obtain ⟨hc204, hZ9⟩ := hZ9
                obtain ⟨hI, hZ9⟩ := hZ9
                obtain ⟨hu205, hZ9⟩ := hZ9
                obtain ⟨y189, hZ9⟩ := hZ9
                obtain ⟨y190, hZ9⟩ := hZ9
                obtain ⟨f191, hZ9⟩ := hZ9
                obtain ⟨y194, hZ9⟩ := hZ9
                obtain ⟨y195, hZ9⟩ := hZ9
                obtain ⟨y197, hZ9⟩ := hZ9
                obtain ⟨y198, hZ9⟩ := hZ9
                obtain ⟨f199, hZ9⟩ := hZ9
                obtain ⟨hO188, hZ9⟩ := hZ9
                obtain ⟨hA192, hZ9⟩ := hZ9
                obtain ⟨hO193, hZ9⟩ := hZ9
                obtain ⟨hO196, hZ9⟩ := hZ9
                obtain ⟨hA200, hE201⟩ := hZ9
                replace hO188 : u186[20]? = (some (q 20, .inr (2, [.ref (q 21), .int y189, .int y190])) : Option (Nat × va_E)) := hO188
                replace hA192 : u186[21]? = (some (q 21, .inl (g 0, (220 : Int32).toNatClampNeg, .inl f191)) : Option (Nat × va_E)) := hA192
                replace hO193 : u186[d5]? = (some (q d5, .inr (3, [.ref (q (d5 + 1)), .int y194, .int y195])) : Option (Nat × va_E)) := hO193
                replace hO196 : u186[d5 + 1]? = (some (q (d5 + 1), .inr (2, [.ref (q (d5 + 2)), .int y197, .int y198])) : Option (Nat × va_E)) := hO196
                replace hA200 : u186[d5 + 2]? = (some (q (d5 + 2), .inl (g 0, (108 : Int32).toNatClampNeg, .inl f199)) : Option (Nat × va_E)) := hA200
                obtain ⟨p206, e207⟩ : ∃ z, z = (F_NH_keepDecimal x5 y142 y143 y145 y146 f147 y150 y151 f152 t12_0 t12_1 t13_0 t13_1 t14_0) := ⟨_, rfl⟩
                have c208 : ¬ p206.1 = (0 : Int32) := fun z => hc204 (((congrArg (fun z => z.1) (hE201.trans e207.symm)) : cx202 = _).trans z)
                have e209 : y189 = p206.2.1 := congrArg (fun z => z.2.1) (hE201.trans e207.symm)
                have e210 : y190 = p206.2.2.1 := congrArg (fun z => z.2.2.1) (hE201.trans e207.symm)
                have e211 : f191 = p206.2.2.2.1 := congrArg (fun z => z.2.2.2.1) (hE201.trans e207.symm)
                have e212 : y194 = p206.2.2.2.2.1 := congrArg (fun z => z.2.2.2.2.1) (hE201.trans e207.symm)
                have e213 : y195 = p206.2.2.2.2.2.1 := congrArg (fun z => z.2.2.2.2.2.1) (hE201.trans e207.symm)
                have e214 : y197 = p206.2.2.2.2.2.2.1 := congrArg (fun z => z.2.2.2.2.2.2.1) (hE201.trans e207.symm)
                have e215 : y198 = p206.2.2.2.2.2.2.2.1 := congrArg (fun z => z.2.2.2.2.2.2.2.1) (hE201.trans e207.symm)
                have e216 : f199 = p206.2.2.2.2.2.2.2.2 := congrArg (fun z => z.2.2.2.2.2.2.2.2) (hE201.trans e207.symm)
                replace hO141 := (hu205 _ (by have z0 := yd5; simp only [List.mem_cons, List.not_mem_nil, or_false, not_or]; omega)).trans hO141
                replace hO144 := (hu205 _ (by have z0 := yd5; simp only [List.mem_cons, List.not_mem_nil, or_false, not_or]; omega)).trans hO144
                replace hA148 := (hu205 _ (by have z0 := yd5; simp only [List.mem_cons, List.not_mem_nil, or_false, not_or]; omega)).trans hA148
                replace hT3 := (hu205 _ (by have z0 := yd5; simp only [List.mem_cons, List.not_mem_nil, or_false, not_or]; omega)).trans hT3
                replace hT4 := (hu205 _ (by have z0 := yd5; simp only [List.mem_cons, List.not_mem_nil, or_false, not_or]; omega)).trans hT4
                replace hT5 := (hu205 _ (by have z0 := yd5; simp only [List.mem_cons, List.not_mem_nil, or_false, not_or]; omega)).trans hT5
                replace hT6 := (hu205 _ (by have z0 := yd5; simp only [List.mem_cons, List.not_mem_nil, or_false, not_or]; omega)).trans hT6
                replace hF := q_uc hF hu205 (by simp)
                have hR217 := (show F_NH_decimalBy_c130 x2 x3 x4 x5 t0_0 t0_1 t1_0 t1_1 t2_0 t3_0 t3_1 t4_0 t5_0 t5_1 t6_0 t7_0 t7_1 t8_0 t9_0 t9_1 t10_0 t10_1 t11_0 t12_0 t12_1 t13_0 t13_1 t14_0 lx63 lx96 p170 y142 y143 y145 y146 f147 p206 = (F_NH_decimalBy x2 x3 x4 x5 t0_0 t0_1 t1_0 t1_1 t2_0 t3_0 t3_1 t4_0 t5_0 t5_1 t6_0 t7_0 t7_1 t8_0 t9_0 t9_1 t10_0 t10_1 t11_0 t12_0 t12_1 t13_0 t13_1 t14_0) from Eq.trans (by rw [e207, e179, e178, e177, e176, e175, e174, e173, e172, F_NH_decimalBy_c124.eq_1]) hR180)
                have hS218 := (show True ∧ S_NH_decimalBy_c130 x2 x3 x4 x5 t0_0 t0_1 t1_0 t1_1 t2_0 t3_0 t3_1 t4_0 t5_0 t5_1 t6_0 t7_0 t7_1 t8_0 t9_0 t9_1 t10_0 t10_1 t11_0 t12_0 t12_1 t13_0 t13_1 t14_0 lx63 lx96 p170 y142 y143 y145 y146 f147 p206 from (by rw [e207, e179, e178, e177, e176, e175, e174, e173, e172]; have h := hS181; rw [S_NH_decimalBy_c124.eq_1] at h; replace h := q_s2 h; with_reducible exact h))
                exact q_outT hno C0 V (⟨p206.1, (he203.trans (congrArg qE ((congrArg (fun z => z.1) (hE201.trans e207.symm)) : cx202 = _))), c208, hI, hF, y142, y143, y145, y146, f147, t3_0, t3_1, t4_0, t5_0, t5_1, t6_0, y189, y190, f191, y194, y195, y197, y198, f199, hO141, hO144, hA148, hT3, hT4, hT5, hT6, hO188, hA192, hO193, hO196, hA200, (show (p206.1, y142, y143, y145, y146, f147, t3_0, t3_1, t4_0, t5_0, t5_1, t6_0, y189, y190, f191, y194, y195, y197, y198, f199) = (F_NH_decimalBy x2 x3 x4 x5 t0_0 t0_1 t1_0 t1_1 t2_0 t3_0 t3_1 t4_0 t5_0 t5_1 t6_0 t7_0 t7_1 t8_0 t9_0 t9_1 t10_0 t10_1 t11_0 t12_0 t12_1 t13_0 t13_1 t14_0) from Eq.trans (by rw [e216, e215, e214, e213, e212, e211, e210, e209, F_NH_decimalBy_c130.eq_1, if_neg c208]) hR217)⟩) hce hcv hcl (Nat.le_of_ble_eq_true rfl) (Nat.le_of_ble_eq_true rfl)
              ·
                obtain ⟨hI, hZ9⟩ := hp187
                obtain ⟨hu260, hZ9⟩ := hZ9
                obtain ⟨y223, hZ9⟩ := hZ9
                obtain ⟨y224, hZ9⟩ := hZ9
                obtain ⟨f225, hZ9⟩ := hZ9
                obtain ⟨y228, hZ9⟩ := hZ9
                obtain ⟨y229, hZ9⟩ := hZ9
                obtain ⟨y231, hZ9⟩ := hZ9
                obtain ⟨y232, hZ9⟩ := hZ9
                obtain ⟨f233, hZ9⟩ := hZ9
                obtain ⟨hO222, hZ9⟩ := hZ9
                obtain ⟨hA226, hZ9⟩ := hZ9
                obtain ⟨hO227, hZ9⟩ := hZ9
                obtain ⟨hO230, hZ9⟩ := hZ9
                obtain ⟨hA234, hZ9⟩ := hZ9
                obtain ⟨b235, hZ9⟩ := hZ9
                obtain ⟨b236, hZ9⟩ := hZ9
                obtain ⟨b237, hZ9⟩ := hZ9
                obtain ⟨b238, hZ9⟩ := hZ9
                obtain ⟨b239, hZ9⟩ := hZ9
                obtain ⟨b240, hZ9⟩ := hZ9
                obtain ⟨b241, hZ9⟩ := hZ9
                obtain ⟨b242, hZ9⟩ := hZ9
                obtain ⟨b243, hZ9⟩ := hZ9
                obtain ⟨b244, hZ9⟩ := hZ9
                obtain ⟨b245, hZ9⟩ := hZ9
                obtain ⟨b246, hZ9⟩ := hZ9
                obtain ⟨b247, hZ9⟩ := hZ9
                obtain ⟨b248, hZ9⟩ := hZ9
                obtain ⟨b249, hZ9⟩ := hZ9
                obtain ⟨b250, hZ9⟩ := hZ9
                obtain ⟨b251, hZ9⟩ := hZ9
                obtain ⟨b252, hZ9⟩ := hZ9
                obtain ⟨b253, hZ9⟩ := hZ9
                obtain ⟨b254, hZ9⟩ := hZ9
                obtain ⟨b255, hZ9⟩ := hZ9
                obtain ⟨b256, hZ9⟩ := hZ9
                obtain ⟨b257, hZ9⟩ := hZ9
                obtain ⟨b258, hE259⟩ := hZ9
                replace hO222 : u186[20]? = (some (q 20, .inr (2, [.ref (q 21), .int y223, .int y224])) : Option (Nat × va_E)) := hO222
                replace hA226 : u186[21]? = (some (q 21, .inl (g 0, (220 : Int32).toNatClampNeg, .inl f225)) : Option (Nat × va_E)) := hA226
                replace hO227 : u186[d5]? = (some (q d5, .inr (3, [.ref (q (d5 + 1)), .int y228, .int y229])) : Option (Nat × va_E)) := hO227
                replace hO230 : u186[d5 + 1]? = (some (q (d5 + 1), .inr (2, [.ref (q (d5 + 2)), .int y231, .int y232])) : Option (Nat × va_E)) := hO230
                replace hA234 : u186[d5 + 2]? = (some (q (d5 + 2), .inl (g 0, (108 : Int32).toNatClampNeg, .inl f233)) : Option (Nat × va_E)) := hA234
                obtain ⟨p206, e207⟩ : ∃ z, z = (F_NH_keepDecimal x5 y142 y143 y145 y146 f147 y150 y151 f152 t12_0 t12_1 t13_0 t13_1 t14_0) := ⟨_, rfl⟩
                have c208 : p206.1 = (0 : Int32) := ((congrArg (fun z => z.1) (hE259.trans e207.symm)) : (0 : Int32) = _).symm
                have e262 : y223 = p206.2.1 := congrArg (fun z => z.2.1) (hE259.trans e207.symm)
                have e263 : y224 = p206.2.2.1 := congrArg (fun z => z.2.2.1) (hE259.trans e207.symm)
                have e264 : f225 = p206.2.2.2.1 := congrArg (fun z => z.2.2.2.1) (hE259.trans e207.symm)
                have e265 : y228 = p206.2.2.2.2.1 := congrArg (fun z => z.2.2.2.2.1) (hE259.trans e207.symm)
                have e266 : y229 = p206.2.2.2.2.2.1 := congrArg (fun z => z.2.2.2.2.2.1) (hE259.trans e207.symm)
                have e267 : y231 = p206.2.2.2.2.2.2.1 := congrArg (fun z => z.2.2.2.2.2.2.1) (hE259.trans e207.symm)
                have e268 : y232 = p206.2.2.2.2.2.2.2.1 := congrArg (fun z => z.2.2.2.2.2.2.2.1) (hE259.trans e207.symm)
                have e269 : f233 = p206.2.2.2.2.2.2.2.2 := congrArg (fun z => z.2.2.2.2.2.2.2.2) (hE259.trans e207.symm)
                replace b235 : q_F (0 ≤ y223.toInt) := b235
                replace b236 : q_F (y223.toInt ≤ 220) := b236
                replace b237 : q_F (0 ≤ y224.toInt) := b237
                replace b238 : q_F (y224.toInt ≤ 1) := b238
                replace b239 : q_F (0 ≤ y228.toInt + 10000) := b239
                replace b240 : q_F (y228.toInt ≤ 10000) := b240
                replace b241 : q_F (1 ≤ y229.toInt) := b241
                replace b242 : q_F (y229.toInt ≤ 1000) := b242
                replace b243 : q_F (0 ≤ y231.toInt) := b243
                replace b244 : q_F (y231.toInt ≤ 108) := b244
                replace b245 : q_F (0 ≤ y232.toInt) := b245
                replace b246 : q_F (y232.toInt ≤ 1) := b246
                replace b247 : q_F (x5.toInt ≤ y223.toInt + 9) := b247
                replace b248 : q_F (y223.toInt ≤ x5.toInt + 220) := b248
                replace b249 : q_F (x5.toInt ≤ y224.toInt + 9) := b249
                replace b250 : q_F (y224.toInt ≤ x5.toInt + 1) := b250
                replace b251 : q_F (x5.toInt ≤ y228.toInt + 10009) := b251
                replace b252 : q_F (y228.toInt ≤ x5.toInt + 10000) := b252
                replace b253 : q_F (x5.toInt ≤ y229.toInt + 8) := b253
                replace b254 : q_F (y229.toInt ≤ x5.toInt + 1000) := b254
                replace b255 : q_F (x5.toInt ≤ y231.toInt + 9) := b255
                replace b256 : q_F (y231.toInt ≤ x5.toInt + 108) := b256
                replace b257 : q_F (x5.toInt ≤ y232.toInt + 9) := b257
                replace b258 : q_F (y232.toInt ≤ x5.toInt + 1) := b258
                replace hO141 := (hu260 _ (by have z0 := yd5; simp only [List.mem_cons, List.not_mem_nil, or_false, not_or]; omega)).trans hO141
                replace hO144 := (hu260 _ (by have z0 := yd5; simp only [List.mem_cons, List.not_mem_nil, or_false, not_or]; omega)).trans hO144
                replace hA148 := (hu260 _ (by have z0 := yd5; simp only [List.mem_cons, List.not_mem_nil, or_false, not_or]; omega)).trans hA148
                replace hT3 := (hu260 _ (by have z0 := yd5; simp only [List.mem_cons, List.not_mem_nil, or_false, not_or]; omega)).trans hT3
                replace hT4 := (hu260 _ (by have z0 := yd5; simp only [List.mem_cons, List.not_mem_nil, or_false, not_or]; omega)).trans hT4
                replace hT5 := (hu260 _ (by have z0 := yd5; simp only [List.mem_cons, List.not_mem_nil, or_false, not_or]; omega)).trans hT5
                replace hT6 := (hu260 _ (by have z0 := yd5; simp only [List.mem_cons, List.not_mem_nil, or_false, not_or]; omega)).trans hT6
                replace hF := q_uc hF hu260 (by simp)
                have hR217 := (show F_NH_decimalBy_c130 x2 x3 x4 x5 t0_0 t0_1 t1_0 t1_1 t2_0 t3_0 t3_1 t4_0 t5_0 t5_1 t6_0 t7_0 t7_1 t8_0 t9_0 t9_1 t10_0 t10_1 t11_0 t12_0 t12_1 t13_0 t13_1 t14_0 lx63 lx96 p170 y142 y143 y145 y146 f147 p206 = (F_NH_decimalBy x2 x3 x4 x5 t0_0 t0_1 t1_0 t1_1 t2_0 t3_0 t3_1 t4_0 t5_0 t5_1 t6_0 t7_0 t7_1 t8_0 t9_0 t9_1 t10_0 t10_1 t11_0 t12_0 t12_1 t13_0 t13_1 t14_0) from Eq.trans (by rw [e207, e179, e178, e177, e176, e175, e174, e173, e172, F_NH_decimalBy_c124.eq_1]) hR180)
                have hS218 := (show True ∧ S_NH_decimalBy_c130 x2 x3 x4 x5 t0_0 t0_1 t1_0 t1_1 t2_0 t3_0 t3_1 t4_0 t5_0 t5_1 t6_0 t7_0 t7_1 t8_0 t9_0 t9_1 t10_0 t10_1 t11_0 t12_0 t12_1 t13_0 t13_1 t14_0 lx63 lx96 p170 y142 y143 y145 y146 f147 p206 from (by rw [e207, e179, e178, e177, e176, e175, e174, e173, e172]; have h := hS181; rw [S_NH_decimalBy_c124.eq_1] at h; replace h := q_s2 h; with_reducible exact h))
                refine W.widen (k := 4) (n := 24) (Nat.le_of_ble_eq_true rfl) (Nat.le_of_ble_eq_true rfl) ?_
                exact q_retX (q_retv C0 V (⟨hI, hF, y142, y143, y145, y146, f147, t3_0, t3_1, t4_0, t5_0, t5_1, t6_0, y223, y224, f225, y228, y229, y231, y232, f233, hO141, hO144, hA148, hT3, hT4, hT5, hT6, hO222, hA226, hO227, hO230, hA234, (show 0 ≤ y143.toInt from (by have t1 : 0 ≤ t0_1.toInt ∧ t0_1.toInt ≤ 1 := btt0_1; have t2 : t0_1.toInt ≤ y143.toInt := b164; omega)), (show y143.toInt ≤ 1 from (by have t1 : 0 ≤ t0_1.toInt ∧ t0_1.toInt ≤ 1 := btt0_1; have t2 : y143.toInt ≤ t0_1.toInt := b165; omega)), (show 0 ≤ y145.toInt from (by first | with_reducible exact q_fe b155 | (have t1 : 0 ≤ y145.toInt := b155; omega))), (show y145.toInt ≤ 220 from (by have t1 : 0 ≤ t10_0.toInt ∧ t10_0.toInt ≤ 108 := btt10_0; have t2 : y145.toInt ≤ t10_0.toInt := b166; omega)), (show 0 ≤ y146.toInt from (by first | with_reducible exact q_fe b156 | (have t1 : 0 ≤ y146.toInt := b156; omega))), (show y146.toInt ≤ 1 from (by have t1 : 0 ≤ t10_1.toInt ∧ t10_1.toInt ≤ 1 := btt10_1; have t2 : y146.toInt ≤ t10_1.toInt := b167; omega)), (show 0 ≤ t3_0.toInt from (by first | with_reducible exact (q_fe btt3_0).2 | with_reducible exact (q_fe btt3_0).1 | (have t1 : 0 ≤ t3_0.toInt ∧ t3_0.toInt ≤ 220 := btt3_0; omega))), (show t3_0.toInt ≤ 220 from (by first | with_reducible exact (q_fe btt3_0).2 | with_reducible exact (q_fe btt3_0).1 | (have t1 : 0 ≤ t3_0.toInt ∧ t3_0.toInt ≤ 220 := btt3_0; omega))), (show 0 ≤ t3_1.toInt from (by first | with_reducible exact (q_fe btt3_1).2 | with_reducible exact (q_fe btt3_1).1 | (have t1 : 0 ≤ t3_1.toInt ∧ t3_1.toInt ≤ 1 := btt3_1; omega))), (show t3_1.toInt ≤ 1 from (by first | with_reducible exact (q_fe btt3_1).2 | with_reducible exact (q_fe btt3_1).1 | (have t1 : 0 ≤ t3_1.toInt ∧ t3_1.toInt ≤ 1 := btt3_1; omega))), (show 0 ≤ t5_0.toInt from (by first | with_reducible exact (q_fe btt5_0).2 | with_reducible exact (q_fe btt5_0).1 | (have t1 : 0 ≤ t5_0.toInt ∧ t5_0.toInt ≤ 220 := btt5_0; omega))), (show t5_0.toInt ≤ 220 from (by first | with_reducible exact (q_fe btt5_0).2 | with_reducible exact (q_fe btt5_0).1 | (have t1 : 0 ≤ t5_0.toInt ∧ t5_0.toInt ≤ 220 := btt5_0; omega))), (show 0 ≤ t5_1.toInt from (by first | with_reducible exact (q_fe btt5_1).2 | with_reducible exact (q_fe btt5_1).1 | (have t1 : 0 ≤ t5_1.toInt ∧ t5_1.toInt ≤ 1 := btt5_1; omega))), (show t5_1.toInt ≤ 1 from (by first | with_reducible exact (q_fe btt5_1).2 | with_reducible exact (q_fe btt5_1).1 | (have t1 : 0 ≤ t5_1.toInt ∧ t5_1.toInt ≤ 1 := btt5_1; omega))), (show 0 ≤ y223.toInt from (by first | with_reducible exact q_fe b235 | (have t1 : 0 ≤ y223.toInt := b235; omega))), (show y223.toInt ≤ 220 from (by first | with_reducible exact q_fe b236 | (have t1 : y223.toInt ≤ 220 := b236; omega))), (show 0 ≤ y224.toInt from (by first | with_reducible exact q_fe b237 | (have t1 : 0 ≤ y224.toInt := b237; omega))), (show y224.toInt ≤ 1 from (by first | with_reducible exact q_fe b238 | (have t1 : y224.toInt ≤ 1 := b238; omega))), (show 0 ≤ y228.toInt + 10000 from (by first | with_reducible exact q_fe b239 | (have t1 : 0 ≤ y228.toInt + 10000 := b239; omega))), (show y228.toInt ≤ 10000 from (by first | with_reducible exact q_fe b240 | (have t1 : y228.toInt ≤ 10000 := b240; omega))), (show 1 ≤ y229.toInt from (by first | with_reducible exact q_fe b241 | (have t1 : 1 ≤ y229.toInt := b241; omega))), (show y229.toInt ≤ 1000 from (by first | with_reducible exact q_fe b242 | (have t1 : y229.toInt ≤ 1000 := b242; omega))), (show 0 ≤ y231.toInt from (by first | with_reducible exact q_fe b243 | (have t1 : 0 ≤ y231.toInt := b243; omega))), (show y231.toInt ≤ 108 from (by first | with_reducible exact q_fe b244 | (have t1 : y231.toInt ≤ 108 := b244; omega))), (show 0 ≤ y232.toInt from (by first | with_reducible exact q_fe b245 | (have t1 : 0 ≤ y232.toInt := b245; omega))), (show y232.toInt ≤ 1 from (by first | with_reducible exact q_fe b246 | (have t1 : y232.toInt ≤ 1 := b246; omega))), (show x3.toInt ≤ y143.toInt + 9 from (by have t1 : 0 ≤ t0_1.toInt ∧ t0_1.toInt ≤ 1 := btt0_1; have t2 : x3.toInt ≤ 9 := ob136; have t3 : t0_1.toInt ≤ y143.toInt := b164; omega)), (show y143.toInt ≤ x3.toInt + 1 from (by have t1 : 0 ≤ t0_1.toInt ∧ t0_1.toInt ≤ 1 := btt0_1; have t2 : 0 ≤ x3.toInt := ob135; have t3 : y143.toInt ≤ t0_1.toInt := b165; omega)), (show t0_1.toInt ≤ y143.toInt from (by first | with_reducible exact q_fe b164 | (have t1 : t0_1.toInt ≤ y143.toInt := b164; omega))), (show y143.toInt ≤ t0_1.toInt from (by first | with_reducible exact q_fe b165 | (have t1 : y143.toInt ≤ t0_1.toInt := b165; omega))), (show x3.toInt ≤ y145.toInt + 9 from (by have t1 : x3.toInt ≤ 9 := ob136; have t2 : 0 ≤ y145.toInt := b155; omega)), (show y145.toInt ≤ x3.toInt + 220 from (by have t1 : 0 ≤ t10_0.toInt ∧ t10_0.toInt ≤ 108 := btt10_0; have t2 : 0 ≤ x3.toInt := ob135; have t3 : y145.toInt ≤ t10_0.toInt := b166; omega)), (show x3.toInt ≤ y146.toInt + 9 from (by have t1 : x3.toInt ≤ 9 := ob136; have t2 : 0 ≤ y146.toInt := b156; omega)), (show y146.toInt ≤ x3.toInt + 1 from (by have t1 : 0 ≤ t10_1.toInt ∧ t10_1.toInt ≤ 1 := btt10_1; have t2 : 0 ≤ x3.toInt := ob135; have t3 : y146.toInt ≤ t10_1.toInt := b167; omega)), (show x3.toInt ≤ t3_0.toInt + 9 from (by have t1 : 0 ≤ t3_0.toInt ∧ t3_0.toInt ≤ 220 := btt3_0; have t2 : x3.toInt ≤ 9 := ob136; omega)), (show t3_0.toInt ≤ x3.toInt + 220 from (by have t1 : 0 ≤ t3_0.toInt ∧ t3_0.toInt ≤ 220 := btt3_0; have t2 : 0 ≤ x3.toInt := ob135; omega)), (show x3.toInt ≤ t3_1.toInt + 9 from (by have t1 : 0 ≤ t3_1.toInt ∧ t3_1.toInt ≤ 1 := btt3_1; have t2 : x3.toInt ≤ 9 := ob136; omega)), (show t3_1.toInt ≤ x3.toInt + 1 from (by have t1 : 0 ≤ t3_1.toInt ∧ t3_1.toInt ≤ 1 := btt3_1; have t2 : 0 ≤ x3.toInt := ob135; omega)), (show x3.toInt ≤ t5_0.toInt + 9 from (by have t1 : 0 ≤ t5_0.toInt ∧ t5_0.toInt ≤ 220 := btt5_0; have t2 : x3.toInt ≤ 9 := ob136; omega)), (show t5_0.toInt ≤ x3.toInt + 220 from (by have t1 : 0 ≤ t5_0.toInt ∧ t5_0.toInt ≤ 220 := btt5_0; have t2 : 0 ≤ x3.toInt := ob135; omega)), (show x3.toInt ≤ t5_1.toInt + 9 from (by have t1 : 0 ≤ t5_1.toInt ∧ t5_1.toInt ≤ 1 := btt5_1; have t2 : x3.toInt ≤ 9 := ob136; omega)), (show t5_1.toInt ≤ x3.toInt + 1 from (by have t1 : 0 ≤ t5_1.toInt ∧ t5_1.toInt ≤ 1 := btt5_1; have t2 : 0 ≤ x3.toInt := ob135; omega)), (show x3.toInt ≤ y223.toInt + 9 from (by have t1 : x3.toInt ≤ 9 := ob136; have t2 : 0 ≤ y223.toInt := b235; omega)), (show y223.toInt ≤ x3.toInt + 220 from (by have t1 : 0 ≤ x3.toInt := ob135; have t2 : y223.toInt ≤ 220 := b236; omega)), (show x5.toInt ≤ y223.toInt + 9 from (by first | with_reducible exact q_fe b247 | (have t1 : x5.toInt ≤ y223.toInt + 9 := b247; omega))), (show y223.toInt ≤ x5.toInt + 220 from (by first | with_reducible exact q_fe b248 | (have t1 : y223.toInt ≤ x5.toInt + 220 := b248; omega))), (show x3.toInt ≤ y224.toInt + 9 from (by have t1 : x3.toInt ≤ 9 := ob136; have t2 : 0 ≤ y224.toInt := b237; omega)), (show y224.toInt ≤ x3.toInt + 1 from (by have t1 : 0 ≤ x3.toInt := ob135; have t2 : y224.toInt ≤ 1 := b238; omega)), (show x5.toInt ≤ y224.toInt + 9 from (by first | with_reducible exact q_fe b249 | (have t1 : x5.toInt ≤ y224.toInt + 9 := b249; omega))), (show y224.toInt ≤ x5.toInt + 1 from (by first | with_reducible exact q_fe b250 | (have t1 : y224.toInt ≤ x5.toInt + 1 := b250; omega))), (show x3.toInt ≤ y228.toInt + 10009 from (by have t1 : x3.toInt ≤ 9 := ob136; have t2 : 0 ≤ y228.toInt + 10000 := b239; omega)), (show y228.toInt ≤ x3.toInt + 10000 from (by have t1 : 0 ≤ x3.toInt := ob135; have t2 : y228.toInt ≤ 10000 := b240; omega)), (show x5.toInt ≤ y228.toInt + 10009 from (by first | with_reducible exact q_fe b251 | (have t1 : x5.toInt ≤ y228.toInt + 10009 := b251; omega))), (show y228.toInt ≤ x5.toInt + 10000 from (by first | with_reducible exact q_fe b252 | (have t1 : y228.toInt ≤ x5.toInt + 10000 := b252; omega))), (show x3.toInt ≤ y229.toInt + 8 from (by have t1 : x3.toInt ≤ 9 := ob136; have t2 : 1 ≤ y229.toInt := b241; omega)), (show y229.toInt ≤ x3.toInt + 1000 from (by have t1 : 0 ≤ x3.toInt := ob135; have t2 : y229.toInt ≤ 1000 := b242; omega)), (show x5.toInt ≤ y229.toInt + 8 from (by first | with_reducible exact q_fe b253 | (have t1 : x5.toInt ≤ y229.toInt + 8 := b253; omega))), (show y229.toInt ≤ x5.toInt + 1000 from (by first | with_reducible exact q_fe b254 | (have t1 : y229.toInt ≤ x5.toInt + 1000 := b254; omega))), (show x3.toInt ≤ y231.toInt + 9 from (by have t1 : x3.toInt ≤ 9 := ob136; have t2 : 0 ≤ y231.toInt := b243; omega)), (show y231.toInt ≤ x3.toInt + 108 from (by have t1 : 0 ≤ x3.toInt := ob135; have t2 : y231.toInt ≤ 108 := b244; omega)), (show x5.toInt ≤ y231.toInt + 9 from (by first | with_reducible exact q_fe b255 | (have t1 : x5.toInt ≤ y231.toInt + 9 := b255; omega))), (show y231.toInt ≤ x5.toInt + 108 from (by first | with_reducible exact q_fe b256 | (have t1 : y231.toInt ≤ x5.toInt + 108 := b256; omega))), (show x3.toInt ≤ y232.toInt + 9 from (by have t1 : x3.toInt ≤ 9 := ob136; have t2 : 0 ≤ y232.toInt := b245; omega)), (show y232.toInt ≤ x3.toInt + 1 from (by have t1 : 0 ≤ x3.toInt := ob135; have t2 : y232.toInt ≤ 1 := b246; omega)), (show x5.toInt ≤ y232.toInt + 9 from (by first | with_reducible exact q_fe b257 | (have t1 : x5.toInt ≤ y232.toInt + 9 := b257; omega))), (show y232.toInt ≤ x5.toInt + 1 from (by first | with_reducible exact q_fe b258 | (have t1 : y232.toInt ≤ x5.toInt + 1 := b258; omega))), (show y145.toInt ≤ t3_0.toInt + 108 from (by have t1 : 0 ≤ t3_0.toInt ∧ t3_0.toInt ≤ 220 := btt3_0; have t2 : 0 ≤ t10_0.toInt ∧ t10_0.toInt ≤ 108 := btt10_0; have t3 : y145.toInt ≤ t10_0.toInt := b166; omega)), (show ((0 : Int32), y142, y143, y145, y146, f147, t3_0, t3_1, t4_0, t5_0, t5_1, t6_0, y223, y224, f225, y228, y229, y231, y232, f233) = (F_NH_decimalBy x2 x3 x4 x5 t0_0 t0_1 t1_0 t1_1 t2_0 t3_0 t3_1 t4_0 t5_0 t5_1 t6_0 t7_0 t7_1 t8_0 t9_0 t9_1 t10_0 t10_1 t11_0 t12_0 t12_1 t13_0 t13_1 t14_0) from Eq.trans (by rw [e269, e268, e267, e266, e265, e264, e263, e262, F_NH_decimalBy_c130.eq_1, if_pos c208]) hR217)⟩) d_1_12_133)
            ·
              refine lv_aload_n hx hb d_1_12_84 rfl (lv_at hl 0 rfl) ?_
              have hO271 := n_o0 hI
              refine q_get (ci := 0) (j := 7) (v := .ref (q 30)) C0 V i_NH rfl rfl hO271 (by decide) w_431 rfl d_1_12_85 ?_
              refine lv_aload_n hx hb d_1_12_88 rfl (lv_at hl 0 rfl) ?_
              refine q_get (ci := 0) (j := 3) (v := .ref (q 6)) C0 V i_NH rfl rfl hO271 (by decide) w_427 rfl d_1_12_89 ?_
              refine lv_iload_n hx hb d_1_12_92 rfl (lv_at hl 2 rfl) ?_
              have hX272 := n_fx hI (n_s6 g q)
              have ob273 : q_F (0 ≤ x3.toInt) := (by have h := hS116; rw [S_NH_decimalBy_J52.eq_1] at h; rw [if_pos c126] at h; rw [if_neg c129] at h; rw [if_pos c131] at h; exact h.2.1)
              have ob274 : q_F (x3.toInt ≤ 9) := (by have h := hS116; rw [S_NH_decimalBy_J52.eq_1] at h; rw [if_pos c126] at h; rw [if_neg c129] at h; rw [if_pos c131] at h; replace h := q_s2 h; exact h.2.1)
              have hj275 : x3.toNatClampNeg < 10 := by have z := q_clI (i := x3) (x := x3.toInt) rfl (by first | with_reducible exact q_fe ob273 | (have t1 : 0 ≤ x3.toInt := ob273; omega)); have t1 : 0 ≤ x3.toInt := ob273; have t2 : x3.toInt ≤ 9 := ob274; omega
              have hq276 := gd3x3 hj275
              refine q_aald (t := 5) (q := q d3) C0 V hX272 rfl (q_ix (x := x3.toInt) rfl (by first | with_reducible exact q_fe ob273 | (have t1 : 0 ≤ x3.toInt := ob273; omega)) (by have t1 : 0 ≤ x3.toInt := ob273; have t2 : x3.toInt ≤ 9 := ob274; omega)) (by rw [hq276]; exact n_fdv hj275) d_1_12_93 ?_
              refine q_gov V (q_runV (As := [.ref (q d3)]) (rest := []) (d := 3) (mc := 0) (ms := 0) (ci := 5) C0 V rfl LV_NH_288 (X_DW_take l D g q ws d3 108 hBd3 (Or.inr yd3)  (by have z0 := yd3; omega) (by have z0 := yd3; omega) (by have z0 := yd3; omega) (by have z0 := yd3; omega) (by have z0 := yd3; omega) (by have z0 := yd3; omega) (by have z0 := yd3; omega) (by have z0 := yd3; omega) hI t0_0 t0_1 hT0 t1_0 t1_1 hT1 t2_0 hT2 t9_0 t9_1 hT9 t10_0 t10_1 hT10 t11_0 hT11  _) rfl rfl hT0 rfl hl.1 rfl (Nat.le_of_ble_eq_true rfl) ⟨by decide, by decide⟩ ⟨Nat.le_of_ble_eq_true rfl, Nat.le_of_ble_eq_true rfl⟩ d_1_12_94) (fun u277 H locs hp278 V => ?_)
              obtain ⟨hI, hZ9⟩ := hp278
              obtain ⟨hu296, hZ9⟩ := hZ9
              obtain ⟨y280, hZ9⟩ := hZ9
              obtain ⟨y281, hZ9⟩ := hZ9
              obtain ⟨y283, hZ9⟩ := hZ9
              obtain ⟨y284, hZ9⟩ := hZ9
              obtain ⟨f285, hZ9⟩ := hZ9
              obtain ⟨hO279, hZ9⟩ := hZ9
              obtain ⟨hO282, hZ9⟩ := hZ9
              obtain ⟨hA286, hZ9⟩ := hZ9
              obtain ⟨b287, hZ9⟩ := hZ9
              replace hZ9 := hZ9.2.2
              obtain ⟨b290, hZ9⟩ := hZ9
              obtain ⟨b291, hZ9⟩ := hZ9
              obtain ⟨b292, hZ9⟩ := hZ9
              obtain ⟨b293, hZ9⟩ := hZ9
              obtain ⟨b294, hE295⟩ := hZ9
              replace hO279 : u277[30]? = (some (q 30, .inr (5, [.ref (q 31), .long y280, .ref (q 9), .int y281])) : Option (Nat × va_E)) := hO279
              replace hO282 : u277[10]? = (some (q 10, .inr (2, [.ref (q 11), .int y283, .int y284])) : Option (Nat × va_E)) := hO282
              replace hA286 : u277[11]? = (some (q 11, .inl (g 0, (220 : Int32).toNatClampNeg, .inl f285)) : Option (Nat × va_E)) := hA286
              obtain ⟨p297, e298⟩ : ∃ z, z = (F_DW_take (108 : Int32) t0_0 t0_1 t1_0 t1_1 t2_0 t9_0 t9_1 t10_0 t10_1 t11_0) := ⟨_, rfl⟩
              have e299 : y280 = p297.1 := congrArg (fun z => z.1) (hE295.trans e298.symm)
              have e300 : y281 = p297.2.1 := congrArg (fun z => z.2.1) (hE295.trans e298.symm)
              have e301 : y283 = p297.2.2.1 := congrArg (fun z => z.2.2.1) (hE295.trans e298.symm)
              have e302 : y284 = p297.2.2.2.1 := congrArg (fun z => z.2.2.2.1) (hE295.trans e298.symm)
              have e303 : f285 = p297.2.2.2.2 := congrArg (fun z => z.2.2.2.2) (hE295.trans e298.symm)
              replace b287 : q_F (0 ≤ y283.toInt) := b287
              replace b290 : q_F (t0_1.toInt ≤ y281.toInt) := b290
              replace b291 : q_F (y281.toInt ≤ t0_1.toInt) := b291
              replace b292 : q_F (y283.toInt ≤ t10_0.toInt) := b292
              replace b293 : q_F (t10_1.toInt ≤ y284.toInt) := b293
              replace b294 : q_F (y284.toInt ≤ t10_1.toInt) := b294
              replace hT3 := (hu296 _ (by decide)).trans hT3
              replace hT4 := (hu296 _ (by decide)).trans hT4
              replace hT5 := (hu296 _ (by decide)).trans hT5
              replace hT6 := (hu296 _ (by decide)).trans hT6
              replace hT7 := (hu296 _ (by decide)).trans hT7
              replace hT8 := (hu296 _ (by decide)).trans hT8
              replace hT12 := (hu296 _ (by have z0 := yd5; simp only [List.mem_cons, List.not_mem_nil, or_false, not_or]; omega)).trans hT12
              replace hT13 := (hu296 _ (by have z0 := yd5; simp only [List.mem_cons, List.not_mem_nil, or_false, not_or]; omega)).trans hT13
              replace hT14 := (hu296 _ (by have z0 := yd5; simp only [List.mem_cons, List.not_mem_nil, or_false, not_or]; omega)).trans hT14
              replace hO271 := (hu296 _ (by decide)).trans hO271
              replace hF := q_uc hF hu296 (by simp)
              have hR304 := (show F_NH_decimalBy_c94 x2 x3 x4 x5 t0_0 t0_1 t1_0 t1_1 t2_0 t3_0 t3_1 t4_0 t5_0 t5_1 t6_0 t7_0 t7_1 t8_0 t9_0 t9_1 t10_0 t10_1 t11_0 t12_0 t12_1 t13_0 t13_1 t14_0 lx63 lx96 p297 = (F_NH_decimalBy x2 x3 x4 x5 t0_0 t0_1 t1_0 t1_1 t2_0 t3_0 t3_1 t4_0 t5_0 t5_1 t6_0 t7_0 t7_1 t8_0 t9_0 t9_1 t10_0 t10_1 t11_0 t12_0 t12_1 t13_0 t13_1 t14_0) from Eq.trans (by rw [e298, F_NH_decimalBy_J52.eq_1, if_pos c126, if_neg c129, if_pos c131]) hR115)
              have hS305 := (show True ∧ S_NH_decimalBy_c94 x2 x3 x4 x5 t0_0 t0_1 t1_0 t1_1 t2_0 t3_0 t3_1 t4_0 t5_0 t5_1 t6_0 t7_0 t7_1 t8_0 t9_0 t9_1 t10_0 t10_1 t11_0 t12_0 t12_1 t13_0 t13_1 t14_0 lx63 lx96 p297 from (by rw [e298]; have h := hS116; rw [S_NH_decimalBy_J52.eq_1] at h; rw [if_pos c126] at h; rw [if_neg c129] at h; rw [if_pos c131] at h; replace h := q_s2 h; replace h := q_s2 h; with_reducible exact h))
              refine lv_aload_n hx hb d_1_12_97 rfl (lv_at hl 0 rfl) ?_
              refine q_get (ci := 0) (j := 7) (v := .ref (q 30)) C0 V i_NH rfl rfl hO271 (by decide) w_431 rfl d_1_12_98 ?_
              refine lv_dup hx hb d_1_12_101 rfl ?_
              refine q_get (ci := 5) (j := 1) (v := .long y280) C0 V i_DW rfl rfl hO279 (by decide) w_213 rfl d_1_12_102 ?_
              refine lv_iload_n hx hb d_1_12_105 rfl (lv_at hl 3 rfl) ?_
              refine lv_i2l hx hb d_1_12_106 rfl ?_
              obtain ⟨j309, e310⟩ := q_nm (x4.toInt64 : Int64)
              refine q_tl (v := j309) e310 ?_
              refine lv_lsub hx hb d_1_12_107 ?_
              obtain ⟨j312, e313⟩ := q_nm (y280 - j309 : Int64)
              refine q_tl (v := j312) e313 ?_
              refine q_put (ci := 5) (j := 1) (v := .long j312) (ty := .long) C0 V i_DW o_DW n_DW rfl rfl hO279 (by decide) w_213 rfl rfl rfl rfl (Nat.le_of_ble_eq_true rfl) d_1_12_108 (fun H locs w315 hu316 hO279 V => ?_)
              replace hO279 : w315[30]? = (some (q 30, .inr (5, [.ref (q 31), .long j312, .ref (q 9), .int y281])) : Option (Nat × va_E)) := hO279
              replace hI := n_p30 hI hu316 hO279 ⟨(by have t1 : 0 ≤ t0_1.toInt ∧ t0_1.toInt ≤ 1 := btt0_1; have t2 : t0_1.toInt ≤ y281.toInt := b290; omega), (by have t1 : 0 ≤ t0_1.toInt ∧ t0_1.toInt ≤ 1 := btt0_1; have t2 : y281.toInt ≤ t0_1.toInt := b291; omega)⟩
              replace hO282 := (hu316 _ (by decide)).trans hO282
              replace hA286 := (hu316 _ (by decide)).trans hA286
              replace hT3 := (hu316 _ (by decide)).trans hT3
              replace hT4 := (hu316 _ (by decide)).trans hT4
              replace hT5 := (hu316 _ (by decide)).trans hT5
              replace hT6 := (hu316 _ (by decide)).trans hT6
              replace hT7 := (hu316 _ (by decide)).trans hT7
              replace hT8 := (hu316 _ (by decide)).trans hT8
              replace hT12 := (hu316 _ (by have z0 := yd5; omega)).trans hT12
              replace hT13 := (hu316 _ (by have z0 := yd5; omega)).trans hT13
              replace hT14 := (hu316 _ (by have z0 := yd5; omega)).trans hT14
              replace hO271 := (hu316 _ (by decide)).trans hO271
              replace hF := q_us hF hu316 (by simp)
              refine lv_goto (tgt := 127) hx hb d_1_12_111 (by decide) ?_
              refine lv_aload_n hx hb d_1_12_127 rfl (lv_at hl 0 rfl) ?_
              refine lv_iload hx hb d_1_12_128 (lv_at hl 4 rfl) ?_
              have ob317 : True ∧ S_NH_keepDecimal x5 j312 y281 y283 y284 f285 t7_0 t7_1 t8_0 t12_0 t12_1 t13_0 t13_1 t14_0 := (by rw [← e313, ← e310, e303, e302, e301, e300, e299]; have h := hS305; rw [S_NH_decimalBy_c94.eq_1] at h; with_reducible exact h.2.1)
              refine q_goxv V (q_runVX (As := [.int x5]) (rest := []) (d := 8) (mc := 1) (ms := 6) (ci := 0) C0 V rfl LV_NH_281 (X_NH_keepDecimal l D g q w315  x5 d5 hBd5 yd5 gd5x5 hlt hI j312 y281 hO279 y283 y284 hO282 f285 hA286 t7_0 t7_1 hT7 t8_0 hT8 t12_0 t12_1 hT12 t13_0 t13_1 hT13 t14_0 hT14 ob317 _) rfl rfl hO271 rfl hl.1 rfl (Nat.le_of_ble_eq_true rfl) ⟨by decide, by decide⟩ ⟨Nat.le_of_ble_eq_true rfl, Nat.le_of_ble_eq_true rfl⟩ d_1_12_130) (fun qx Ex ce u318 H locs hp319 V hce hcv hcl => ?_) (fun u318 H locs hp319 V => ?_)
              ·
                obtain ⟨cx334, hZ9⟩ := hp319
                obtain ⟨he335, hZ9⟩ := hZ9
                obtain ⟨hc336, hZ9⟩ := hZ9
                obtain ⟨hI, hZ9⟩ := hZ9
                obtain ⟨hu337, hZ9⟩ := hZ9
                obtain ⟨y321, hZ9⟩ := hZ9
                obtain ⟨y322, hZ9⟩ := hZ9
                obtain ⟨f323, hZ9⟩ := hZ9
                obtain ⟨y326, hZ9⟩ := hZ9
                obtain ⟨y327, hZ9⟩ := hZ9
                obtain ⟨y329, hZ9⟩ := hZ9
                obtain ⟨y330, hZ9⟩ := hZ9
                obtain ⟨f331, hZ9⟩ := hZ9
                obtain ⟨hO320, hZ9⟩ := hZ9
                obtain ⟨hA324, hZ9⟩ := hZ9
                obtain ⟨hO325, hZ9⟩ := hZ9
                obtain ⟨hO328, hZ9⟩ := hZ9
                obtain ⟨hA332, hE333⟩ := hZ9
                replace hO320 : u318[20]? = (some (q 20, .inr (2, [.ref (q 21), .int y321, .int y322])) : Option (Nat × va_E)) := hO320
                replace hA324 : u318[21]? = (some (q 21, .inl (g 0, (220 : Int32).toNatClampNeg, .inl f323)) : Option (Nat × va_E)) := hA324
                replace hO325 : u318[d5]? = (some (q d5, .inr (3, [.ref (q (d5 + 1)), .int y326, .int y327])) : Option (Nat × va_E)) := hO325
                replace hO328 : u318[d5 + 1]? = (some (q (d5 + 1), .inr (2, [.ref (q (d5 + 2)), .int y329, .int y330])) : Option (Nat × va_E)) := hO328
                replace hA332 : u318[d5 + 2]? = (some (q (d5 + 2), .inl (g 0, (108 : Int32).toNatClampNeg, .inl f331)) : Option (Nat × va_E)) := hA332
                obtain ⟨p338, e339⟩ : ∃ z, z = (F_NH_keepDecimal x5 j312 y281 y283 y284 f285 t7_0 t7_1 t8_0 t12_0 t12_1 t13_0 t13_1 t14_0) := ⟨_, rfl⟩
                have c340 : ¬ p338.1 = (0 : Int32) := fun z => hc336 (((congrArg (fun z => z.1) (hE333.trans e339.symm)) : cx334 = _).trans z)
                have e341 : y321 = p338.2.1 := congrArg (fun z => z.2.1) (hE333.trans e339.symm)
                have e342 : y322 = p338.2.2.1 := congrArg (fun z => z.2.2.1) (hE333.trans e339.symm)
                have e343 : f323 = p338.2.2.2.1 := congrArg (fun z => z.2.2.2.1) (hE333.trans e339.symm)
                have e344 : y326 = p338.2.2.2.2.1 := congrArg (fun z => z.2.2.2.2.1) (hE333.trans e339.symm)
                have e345 : y327 = p338.2.2.2.2.2.1 := congrArg (fun z => z.2.2.2.2.2.1) (hE333.trans e339.symm)
                have e346 : y329 = p338.2.2.2.2.2.2.1 := congrArg (fun z => z.2.2.2.2.2.2.1) (hE333.trans e339.symm)
                have e347 : y330 = p338.2.2.2.2.2.2.2.1 := congrArg (fun z => z.2.2.2.2.2.2.2.1) (hE333.trans e339.symm)
                have e348 : f331 = p338.2.2.2.2.2.2.2.2 := congrArg (fun z => z.2.2.2.2.2.2.2.2) (hE333.trans e339.symm)
                replace hO279 := (hu337 _ (by have z0 := yd5; simp only [List.mem_cons, List.not_mem_nil, or_false, not_or]; omega)).trans hO279
                replace hO282 := (hu337 _ (by have z0 := yd5; simp only [List.mem_cons, List.not_mem_nil, or_false, not_or]; omega)).trans hO282
                replace hA286 := (hu337 _ (by have z0 := yd5; simp only [List.mem_cons, List.not_mem_nil, or_false, not_or]; omega)).trans hA286
                replace hT3 := (hu337 _ (by have z0 := yd5; simp only [List.mem_cons, List.not_mem_nil, or_false, not_or]; omega)).trans hT3
                replace hT4 := (hu337 _ (by have z0 := yd5; simp only [List.mem_cons, List.not_mem_nil, or_false, not_or]; omega)).trans hT4
                replace hT5 := (hu337 _ (by have z0 := yd5; simp only [List.mem_cons, List.not_mem_nil, or_false, not_or]; omega)).trans hT5
                replace hT6 := (hu337 _ (by have z0 := yd5; simp only [List.mem_cons, List.not_mem_nil, or_false, not_or]; omega)).trans hT6
                replace hF := q_uc hF hu337 (by simp)
                have hR349 := (show F_NH_decimalBy_c130_6 x2 x3 x4 x5 t0_0 t0_1 t1_0 t1_1 t2_0 t3_0 t3_1 t4_0 t5_0 t5_1 t6_0 t7_0 t7_1 t8_0 t9_0 t9_1 t10_0 t10_1 t11_0 t12_0 t12_1 t13_0 t13_1 t14_0 lx63 lx96 p297 j312 y281 y283 y284 f285 p338 = (F_NH_decimalBy x2 x3 x4 x5 t0_0 t0_1 t1_0 t1_1 t2_0 t3_0 t3_1 t4_0 t5_0 t5_1 t6_0 t7_0 t7_1 t8_0 t9_0 t9_1 t10_0 t10_1 t11_0 t12_0 t12_1 t13_0 t13_1 t14_0) from Eq.trans (by rw [e339, ← e313, ← e310, e303, e302, e301, e300, e299, F_NH_decimalBy_c94.eq_1]) hR304)
                have hS350 := (show True ∧ S_NH_decimalBy_c130_6 x2 x3 x4 x5 t0_0 t0_1 t1_0 t1_1 t2_0 t3_0 t3_1 t4_0 t5_0 t5_1 t6_0 t7_0 t7_1 t8_0 t9_0 t9_1 t10_0 t10_1 t11_0 t12_0 t12_1 t13_0 t13_1 t14_0 lx63 lx96 p297 j312 y281 y283 y284 f285 p338 from (by rw [e339, ← e313, ← e310, e303, e302, e301, e300, e299]; have h := hS305; rw [S_NH_decimalBy_c94.eq_1] at h; replace h := q_s2 h; with_reducible exact h))
                exact q_outT hno C0 V (⟨p338.1, (he335.trans (congrArg qE ((congrArg (fun z => z.1) (hE333.trans e339.symm)) : cx334 = _))), c340, hI, hF, j312, y281, y283, y284, f285, t3_0, t3_1, t4_0, t5_0, t5_1, t6_0, y321, y322, f323, y326, y327, y329, y330, f331, hO279, hO282, hA286, hT3, hT4, hT5, hT6, hO320, hA324, hO325, hO328, hA332, (show (p338.1, j312, y281, y283, y284, f285, t3_0, t3_1, t4_0, t5_0, t5_1, t6_0, y321, y322, f323, y326, y327, y329, y330, f331) = (F_NH_decimalBy x2 x3 x4 x5 t0_0 t0_1 t1_0 t1_1 t2_0 t3_0 t3_1 t4_0 t5_0 t5_1 t6_0 t7_0 t7_1 t8_0 t9_0 t9_1 t10_0 t10_1 t11_0 t12_0 t12_1 t13_0 t13_1 t14_0) from Eq.trans (by rw [e348, e347, e346, e345, e344, e343, e342, e341, F_NH_decimalBy_c130_6.eq_1, if_neg c340]) hR349)⟩) hce hcv hcl (Nat.le_of_ble_eq_true rfl) (Nat.le_of_ble_eq_true rfl)
              ·
                obtain ⟨hI, hZ9⟩ := hp319
                obtain ⟨hu392, hZ9⟩ := hZ9
                obtain ⟨y355, hZ9⟩ := hZ9
                obtain ⟨y356, hZ9⟩ := hZ9
                obtain ⟨f357, hZ9⟩ := hZ9
                obtain ⟨y360, hZ9⟩ := hZ9
                obtain ⟨y361, hZ9⟩ := hZ9
                obtain ⟨y363, hZ9⟩ := hZ9
                obtain ⟨y364, hZ9⟩ := hZ9
                obtain ⟨f365, hZ9⟩ := hZ9
                obtain ⟨hO354, hZ9⟩ := hZ9
                obtain ⟨hA358, hZ9⟩ := hZ9
                obtain ⟨hO359, hZ9⟩ := hZ9
                obtain ⟨hO362, hZ9⟩ := hZ9
                obtain ⟨hA366, hZ9⟩ := hZ9
                obtain ⟨b367, hZ9⟩ := hZ9
                obtain ⟨b368, hZ9⟩ := hZ9
                obtain ⟨b369, hZ9⟩ := hZ9
                obtain ⟨b370, hZ9⟩ := hZ9
                obtain ⟨b371, hZ9⟩ := hZ9
                obtain ⟨b372, hZ9⟩ := hZ9
                obtain ⟨b373, hZ9⟩ := hZ9
                obtain ⟨b374, hZ9⟩ := hZ9
                obtain ⟨b375, hZ9⟩ := hZ9
                obtain ⟨b376, hZ9⟩ := hZ9
                obtain ⟨b377, hZ9⟩ := hZ9
                obtain ⟨b378, hZ9⟩ := hZ9
                obtain ⟨b379, hZ9⟩ := hZ9
                obtain ⟨b380, hZ9⟩ := hZ9
                obtain ⟨b381, hZ9⟩ := hZ9
                obtain ⟨b382, hZ9⟩ := hZ9
                obtain ⟨b383, hZ9⟩ := hZ9
                obtain ⟨b384, hZ9⟩ := hZ9
                obtain ⟨b385, hZ9⟩ := hZ9
                obtain ⟨b386, hZ9⟩ := hZ9
                obtain ⟨b387, hZ9⟩ := hZ9
                obtain ⟨b388, hZ9⟩ := hZ9
                obtain ⟨b389, hZ9⟩ := hZ9
                obtain ⟨b390, hE391⟩ := hZ9
                replace hO354 : u318[20]? = (some (q 20, .inr (2, [.ref (q 21), .int y355, .int y356])) : Option (Nat × va_E)) := hO354
                replace hA358 : u318[21]? = (some (q 21, .inl (g 0, (220 : Int32).toNatClampNeg, .inl f357)) : Option (Nat × va_E)) := hA358
                replace hO359 : u318[d5]? = (some (q d5, .inr (3, [.ref (q (d5 + 1)), .int y360, .int y361])) : Option (Nat × va_E)) := hO359
                replace hO362 : u318[d5 + 1]? = (some (q (d5 + 1), .inr (2, [.ref (q (d5 + 2)), .int y363, .int y364])) : Option (Nat × va_E)) := hO362
                replace hA366 : u318[d5 + 2]? = (some (q (d5 + 2), .inl (g 0, (108 : Int32).toNatClampNeg, .inl f365)) : Option (Nat × va_E)) := hA366
                obtain ⟨p338, e339⟩ : ∃ z, z = (F_NH_keepDecimal x5 j312 y281 y283 y284 f285 t7_0 t7_1 t8_0 t12_0 t12_1 t13_0 t13_1 t14_0) := ⟨_, rfl⟩
                have c340 : p338.1 = (0 : Int32) := ((congrArg (fun z => z.1) (hE391.trans e339.symm)) : (0 : Int32) = _).symm
                have e394 : y355 = p338.2.1 := congrArg (fun z => z.2.1) (hE391.trans e339.symm)
                have e395 : y356 = p338.2.2.1 := congrArg (fun z => z.2.2.1) (hE391.trans e339.symm)
                have e396 : f357 = p338.2.2.2.1 := congrArg (fun z => z.2.2.2.1) (hE391.trans e339.symm)
                have e397 : y360 = p338.2.2.2.2.1 := congrArg (fun z => z.2.2.2.2.1) (hE391.trans e339.symm)
                have e398 : y361 = p338.2.2.2.2.2.1 := congrArg (fun z => z.2.2.2.2.2.1) (hE391.trans e339.symm)
                have e399 : y363 = p338.2.2.2.2.2.2.1 := congrArg (fun z => z.2.2.2.2.2.2.1) (hE391.trans e339.symm)
                have e400 : y364 = p338.2.2.2.2.2.2.2.1 := congrArg (fun z => z.2.2.2.2.2.2.2.1) (hE391.trans e339.symm)
                have e401 : f365 = p338.2.2.2.2.2.2.2.2 := congrArg (fun z => z.2.2.2.2.2.2.2.2) (hE391.trans e339.symm)
                replace b367 : q_F (0 ≤ y355.toInt) := b367
                replace b368 : q_F (y355.toInt ≤ 220) := b368
                replace b369 : q_F (0 ≤ y356.toInt) := b369
                replace b370 : q_F (y356.toInt ≤ 1) := b370
                replace b371 : q_F (0 ≤ y360.toInt + 10000) := b371
                replace b372 : q_F (y360.toInt ≤ 10000) := b372
                replace b373 : q_F (1 ≤ y361.toInt) := b373
                replace b374 : q_F (y361.toInt ≤ 1000) := b374
                replace b375 : q_F (0 ≤ y363.toInt) := b375
                replace b376 : q_F (y363.toInt ≤ 108) := b376
                replace b377 : q_F (0 ≤ y364.toInt) := b377
                replace b378 : q_F (y364.toInt ≤ 1) := b378
                replace b379 : q_F (x5.toInt ≤ y355.toInt + 9) := b379
                replace b380 : q_F (y355.toInt ≤ x5.toInt + 220) := b380
                replace b381 : q_F (x5.toInt ≤ y356.toInt + 9) := b381
                replace b382 : q_F (y356.toInt ≤ x5.toInt + 1) := b382
                replace b383 : q_F (x5.toInt ≤ y360.toInt + 10009) := b383
                replace b384 : q_F (y360.toInt ≤ x5.toInt + 10000) := b384
                replace b385 : q_F (x5.toInt ≤ y361.toInt + 8) := b385
                replace b386 : q_F (y361.toInt ≤ x5.toInt + 1000) := b386
                replace b387 : q_F (x5.toInt ≤ y363.toInt + 9) := b387
                replace b388 : q_F (y363.toInt ≤ x5.toInt + 108) := b388
                replace b389 : q_F (x5.toInt ≤ y364.toInt + 9) := b389
                replace b390 : q_F (y364.toInt ≤ x5.toInt + 1) := b390
                replace hO279 := (hu392 _ (by have z0 := yd5; simp only [List.mem_cons, List.not_mem_nil, or_false, not_or]; omega)).trans hO279
                replace hO282 := (hu392 _ (by have z0 := yd5; simp only [List.mem_cons, List.not_mem_nil, or_false, not_or]; omega)).trans hO282
                replace hA286 := (hu392 _ (by have z0 := yd5; simp only [List.mem_cons, List.not_mem_nil, or_false, not_or]; omega)).trans hA286
                replace hT3 := (hu392 _ (by have z0 := yd5; simp only [List.mem_cons, List.not_mem_nil, or_false, not_or]; omega)).trans hT3
                replace hT4 := (hu392 _ (by have z0 := yd5; simp only [List.mem_cons, List.not_mem_nil, or_false, not_or]; omega)).trans hT4
                replace hT5 := (hu392 _ (by have z0 := yd5; simp only [List.mem_cons, List.not_mem_nil, or_false, not_or]; omega)).trans hT5
                replace hT6 := (hu392 _ (by have z0 := yd5; simp only [List.mem_cons, List.not_mem_nil, or_false, not_or]; omega)).trans hT6
                replace hF := q_uc hF hu392 (by simp)
                have hR349 := (show F_NH_decimalBy_c130_6 x2 x3 x4 x5 t0_0 t0_1 t1_0 t1_1 t2_0 t3_0 t3_1 t4_0 t5_0 t5_1 t6_0 t7_0 t7_1 t8_0 t9_0 t9_1 t10_0 t10_1 t11_0 t12_0 t12_1 t13_0 t13_1 t14_0 lx63 lx96 p297 j312 y281 y283 y284 f285 p338 = (F_NH_decimalBy x2 x3 x4 x5 t0_0 t0_1 t1_0 t1_1 t2_0 t3_0 t3_1 t4_0 t5_0 t5_1 t6_0 t7_0 t7_1 t8_0 t9_0 t9_1 t10_0 t10_1 t11_0 t12_0 t12_1 t13_0 t13_1 t14_0) from Eq.trans (by rw [e339, ← e313, ← e310, e303, e302, e301, e300, e299, F_NH_decimalBy_c94.eq_1]) hR304)
                have hS350 := (show True ∧ S_NH_decimalBy_c130_6 x2 x3 x4 x5 t0_0 t0_1 t1_0 t1_1 t2_0 t3_0 t3_1 t4_0 t5_0 t5_1 t6_0 t7_0 t7_1 t8_0 t9_0 t9_1 t10_0 t10_1 t11_0 t12_0 t12_1 t13_0 t13_1 t14_0 lx63 lx96 p297 j312 y281 y283 y284 f285 p338 from (by rw [e339, ← e313, ← e310, e303, e302, e301, e300, e299]; have h := hS305; rw [S_NH_decimalBy_c94.eq_1] at h; replace h := q_s2 h; with_reducible exact h))
                refine W.widen (k := 4) (n := 24) (Nat.le_of_ble_eq_true rfl) (Nat.le_of_ble_eq_true rfl) ?_
                exact q_retX (q_retv C0 V (⟨hI, hF, j312, y281, y283, y284, f285, t3_0, t3_1, t4_0, t5_0, t5_1, t6_0, y355, y356, f357, y360, y361, y363, y364, f365, hO279, hO282, hA286, hT3, hT4, hT5, hT6, hO354, hA358, hO359, hO362, hA366, (show 0 ≤ y281.toInt from (by have t1 : 0 ≤ t0_1.toInt ∧ t0_1.toInt ≤ 1 := btt0_1; have t2 : t0_1.toInt ≤ y281.toInt := b290; omega)), (show y281.toInt ≤ 1 from (by have t1 : 0 ≤ t0_1.toInt ∧ t0_1.toInt ≤ 1 := btt0_1; have t2 : y281.toInt ≤ t0_1.toInt := b291; omega)), (show 0 ≤ y283.toInt from (by first | with_reducible exact q_fe b287 | (have t1 : 0 ≤ y283.toInt := b287; omega))), (show y283.toInt ≤ 220 from (by have t1 : 0 ≤ t10_0.toInt ∧ t10_0.toInt ≤ 108 := btt10_0; have t2 : y283.toInt ≤ t10_0.toInt := b292; omega)), (show 0 ≤ y284.toInt from (by have t1 : 0 ≤ t10_1.toInt ∧ t10_1.toInt ≤ 1 := btt10_1; have t2 : t10_1.toInt ≤ y284.toInt := b293; omega)), (show y284.toInt ≤ 1 from (by have t1 : 0 ≤ t10_1.toInt ∧ t10_1.toInt ≤ 1 := btt10_1; have t2 : y284.toInt ≤ t10_1.toInt := b294; omega)), (show 0 ≤ t3_0.toInt from (by first | with_reducible exact (q_fe btt3_0).2 | with_reducible exact (q_fe btt3_0).1 | (have t1 : 0 ≤ t3_0.toInt ∧ t3_0.toInt ≤ 220 := btt3_0; omega))), (show t3_0.toInt ≤ 220 from (by first | with_reducible exact (q_fe btt3_0).2 | with_reducible exact (q_fe btt3_0).1 | (have t1 : 0 ≤ t3_0.toInt ∧ t3_0.toInt ≤ 220 := btt3_0; omega))), (show 0 ≤ t3_1.toInt from (by first | with_reducible exact (q_fe btt3_1).2 | with_reducible exact (q_fe btt3_1).1 | (have t1 : 0 ≤ t3_1.toInt ∧ t3_1.toInt ≤ 1 := btt3_1; omega))), (show t3_1.toInt ≤ 1 from (by first | with_reducible exact (q_fe btt3_1).2 | with_reducible exact (q_fe btt3_1).1 | (have t1 : 0 ≤ t3_1.toInt ∧ t3_1.toInt ≤ 1 := btt3_1; omega))), (show 0 ≤ t5_0.toInt from (by first | with_reducible exact (q_fe btt5_0).2 | with_reducible exact (q_fe btt5_0).1 | (have t1 : 0 ≤ t5_0.toInt ∧ t5_0.toInt ≤ 220 := btt5_0; omega))), (show t5_0.toInt ≤ 220 from (by first | with_reducible exact (q_fe btt5_0).2 | with_reducible exact (q_fe btt5_0).1 | (have t1 : 0 ≤ t5_0.toInt ∧ t5_0.toInt ≤ 220 := btt5_0; omega))), (show 0 ≤ t5_1.toInt from (by first | with_reducible exact (q_fe btt5_1).2 | with_reducible exact (q_fe btt5_1).1 | (have t1 : 0 ≤ t5_1.toInt ∧ t5_1.toInt ≤ 1 := btt5_1; omega))), (show t5_1.toInt ≤ 1 from (by first | with_reducible exact (q_fe btt5_1).2 | with_reducible exact (q_fe btt5_1).1 | (have t1 : 0 ≤ t5_1.toInt ∧ t5_1.toInt ≤ 1 := btt5_1; omega))), (show 0 ≤ y355.toInt from (by first | with_reducible exact q_fe b367 | (have t1 : 0 ≤ y355.toInt := b367; omega))), (show y355.toInt ≤ 220 from (by first | with_reducible exact q_fe b368 | (have t1 : y355.toInt ≤ 220 := b368; omega))), (show 0 ≤ y356.toInt from (by first | with_reducible exact q_fe b369 | (have t1 : 0 ≤ y356.toInt := b369; omega))), (show y356.toInt ≤ 1 from (by first | with_reducible exact q_fe b370 | (have t1 : y356.toInt ≤ 1 := b370; omega))), (show 0 ≤ y360.toInt + 10000 from (by first | with_reducible exact q_fe b371 | (have t1 : 0 ≤ y360.toInt + 10000 := b371; omega))), (show y360.toInt ≤ 10000 from (by first | with_reducible exact q_fe b372 | (have t1 : y360.toInt ≤ 10000 := b372; omega))), (show 1 ≤ y361.toInt from (by first | with_reducible exact q_fe b373 | (have t1 : 1 ≤ y361.toInt := b373; omega))), (show y361.toInt ≤ 1000 from (by first | with_reducible exact q_fe b374 | (have t1 : y361.toInt ≤ 1000 := b374; omega))), (show 0 ≤ y363.toInt from (by first | with_reducible exact q_fe b375 | (have t1 : 0 ≤ y363.toInt := b375; omega))), (show y363.toInt ≤ 108 from (by first | with_reducible exact q_fe b376 | (have t1 : y363.toInt ≤ 108 := b376; omega))), (show 0 ≤ y364.toInt from (by first | with_reducible exact q_fe b377 | (have t1 : 0 ≤ y364.toInt := b377; omega))), (show y364.toInt ≤ 1 from (by first | with_reducible exact q_fe b378 | (have t1 : y364.toInt ≤ 1 := b378; omega))), (show x3.toInt ≤ y281.toInt + 9 from (by have t1 : 0 ≤ t0_1.toInt ∧ t0_1.toInt ≤ 1 := btt0_1; have t2 : x3.toInt ≤ 9 := ob274; have t3 : t0_1.toInt ≤ y281.toInt := b290; omega)), (show y281.toInt ≤ x3.toInt + 1 from (by have t1 : 0 ≤ t0_1.toInt ∧ t0_1.toInt ≤ 1 := btt0_1; have t2 : 0 ≤ x3.toInt := ob273; have t3 : y281.toInt ≤ t0_1.toInt := b291; omega)), (show t0_1.toInt ≤ y281.toInt from (by first | with_reducible exact q_fe b290 | (have t1 : t0_1.toInt ≤ y281.toInt := b290; omega))), (show y281.toInt ≤ t0_1.toInt from (by first | with_reducible exact q_fe b291 | (have t1 : y281.toInt ≤ t0_1.toInt := b291; omega))), (show x3.toInt ≤ y283.toInt + 9 from (by have t1 : x3.toInt ≤ 9 := ob274; have t2 : 0 ≤ y283.toInt := b287; omega)), (show y283.toInt ≤ x3.toInt + 220 from (by have t1 : 0 ≤ t10_0.toInt ∧ t10_0.toInt ≤ 108 := btt10_0; have t2 : 0 ≤ x3.toInt := ob273; have t3 : y283.toInt ≤ t10_0.toInt := b292; omega)), (show x3.toInt ≤ y284.toInt + 9 from (by have t1 : 0 ≤ t10_1.toInt ∧ t10_1.toInt ≤ 1 := btt10_1; have t2 : x3.toInt ≤ 9 := ob274; have t3 : t10_1.toInt ≤ y284.toInt := b293; omega)), (show y284.toInt ≤ x3.toInt + 1 from (by have t1 : 0 ≤ t10_1.toInt ∧ t10_1.toInt ≤ 1 := btt10_1; have t2 : 0 ≤ x3.toInt := ob273; have t3 : y284.toInt ≤ t10_1.toInt := b294; omega)), (show x3.toInt ≤ t3_0.toInt + 9 from (by have t1 : 0 ≤ t3_0.toInt ∧ t3_0.toInt ≤ 220 := btt3_0; have t2 : x3.toInt ≤ 9 := ob274; omega)), (show t3_0.toInt ≤ x3.toInt + 220 from (by have t1 : 0 ≤ t3_0.toInt ∧ t3_0.toInt ≤ 220 := btt3_0; have t2 : 0 ≤ x3.toInt := ob273; omega)), (show x3.toInt ≤ t3_1.toInt + 9 from (by have t1 : 0 ≤ t3_1.toInt ∧ t3_1.toInt ≤ 1 := btt3_1; have t2 : x3.toInt ≤ 9 := ob274; omega)), (show t3_1.toInt ≤ x3.toInt + 1 from (by have t1 : 0 ≤ t3_1.toInt ∧ t3_1.toInt ≤ 1 := btt3_1; have t2 : 0 ≤ x3.toInt := ob273; omega)), (show x3.toInt ≤ t5_0.toInt + 9 from (by have t1 : 0 ≤ t5_0.toInt ∧ t5_0.toInt ≤ 220 := btt5_0; have t2 : x3.toInt ≤ 9 := ob274; omega)), (show t5_0.toInt ≤ x3.toInt + 220 from (by have t1 : 0 ≤ t5_0.toInt ∧ t5_0.toInt ≤ 220 := btt5_0; have t2 : 0 ≤ x3.toInt := ob273; omega)), (show x3.toInt ≤ t5_1.toInt + 9 from (by have t1 : 0 ≤ t5_1.toInt ∧ t5_1.toInt ≤ 1 := btt5_1; have t2 : x3.toInt ≤ 9 := ob274; omega)), (show t5_1.toInt ≤ x3.toInt + 1 from (by have t1 : 0 ≤ t5_1.toInt ∧ t5_1.toInt ≤ 1 := btt5_1; have t2 : 0 ≤ x3.toInt := ob273; omega)), (show x3.toInt ≤ y355.toInt + 9 from (by have t1 : x3.toInt ≤ 9 := ob274; have t2 : 0 ≤ y355.toInt := b367; omega)), (show y355.toInt ≤ x3.toInt + 220 from (by have t1 : 0 ≤ x3.toInt := ob273; have t2 : y355.toInt ≤ 220 := b368; omega)), (show x5.toInt ≤ y355.toInt + 9 from (by first | with_reducible exact q_fe b379 | (have t1 : x5.toInt ≤ y355.toInt + 9 := b379; omega))), (show y355.toInt ≤ x5.toInt + 220 from (by first | with_reducible exact q_fe b380 | (have t1 : y355.toInt ≤ x5.toInt + 220 := b380; omega))), (show x3.toInt ≤ y356.toInt + 9 from (by have t1 : x3.toInt ≤ 9 := ob274; have t2 : 0 ≤ y356.toInt := b369; omega)), (show y356.toInt ≤ x3.toInt + 1 from (by have t1 : 0 ≤ x3.toInt := ob273; have t2 : y356.toInt ≤ 1 := b370; omega)), (show x5.toInt ≤ y356.toInt + 9 from (by first | with_reducible exact q_fe b381 | (have t1 : x5.toInt ≤ y356.toInt + 9 := b381; omega))), (show y356.toInt ≤ x5.toInt + 1 from (by first | with_reducible exact q_fe b382 | (have t1 : y356.toInt ≤ x5.toInt + 1 := b382; omega))), (show x3.toInt ≤ y360.toInt + 10009 from (by have t1 : x3.toInt ≤ 9 := ob274; have t2 : 0 ≤ y360.toInt + 10000 := b371; omega)), (show y360.toInt ≤ x3.toInt + 10000 from (by have t1 : 0 ≤ x3.toInt := ob273; have t2 : y360.toInt ≤ 10000 := b372; omega)), (show x5.toInt ≤ y360.toInt + 10009 from (by first | with_reducible exact q_fe b383 | (have t1 : x5.toInt ≤ y360.toInt + 10009 := b383; omega))), (show y360.toInt ≤ x5.toInt + 10000 from (by first | with_reducible exact q_fe b384 | (have t1 : y360.toInt ≤ x5.toInt + 10000 := b384; omega))), (show x3.toInt ≤ y361.toInt + 8 from (by have t1 : x3.toInt ≤ 9 := ob274; have t2 : 1 ≤ y361.toInt := b373; omega)), (show y361.toInt ≤ x3.toInt + 1000 from (by have t1 : 0 ≤ x3.toInt := ob273; have t2 : y361.toInt ≤ 1000 := b374; omega)), (show x5.toInt ≤ y361.toInt + 8 from (by first | with_reducible exact q_fe b385 | (have t1 : x5.toInt ≤ y361.toInt + 8 := b385; omega))), (show y361.toInt ≤ x5.toInt + 1000 from (by first | with_reducible exact q_fe b386 | (have t1 : y361.toInt ≤ x5.toInt + 1000 := b386; omega))), (show x3.toInt ≤ y363.toInt + 9 from (by have t1 : x3.toInt ≤ 9 := ob274; have t2 : 0 ≤ y363.toInt := b375; omega)), (show y363.toInt ≤ x3.toInt + 108 from (by have t1 : 0 ≤ x3.toInt := ob273; have t2 : y363.toInt ≤ 108 := b376; omega)), (show x5.toInt ≤ y363.toInt + 9 from (by first | with_reducible exact q_fe b387 | (have t1 : x5.toInt ≤ y363.toInt + 9 := b387; omega))), (show y363.toInt ≤ x5.toInt + 108 from (by first | with_reducible exact q_fe b388 | (have t1 : y363.toInt ≤ x5.toInt + 108 := b388; omega))), (show x3.toInt ≤ y364.toInt + 9 from (by have t1 : x3.toInt ≤ 9 := ob274; have t2 : 0 ≤ y364.toInt := b377; omega)), (show y364.toInt ≤ x3.toInt + 1 from (by have t1 : 0 ≤ x3.toInt := ob273; have t2 : y364.toInt ≤ 1 := b378; omega)), (show x5.toInt ≤ y364.toInt + 9 from (by first | with_reducible exact q_fe b389 | (have t1 : x5.toInt ≤ y364.toInt + 9 := b389; omega))), (show y364.toInt ≤ x5.toInt + 1 from (by first | with_reducible exact q_fe b390 | (have t1 : y364.toInt ≤ x5.toInt + 1 := b390; omega))), (show y283.toInt ≤ t3_0.toInt + 108 from (by have t1 : 0 ≤ t3_0.toInt ∧ t3_0.toInt ≤ 220 := btt3_0; have t2 : 0 ≤ t10_0.toInt ∧ t10_0.toInt ≤ 108 := btt10_0; have t3 : y283.toInt ≤ t10_0.toInt := b292; omega)), (show ((0 : Int32), j312, y281, y283, y284, f285, t3_0, t3_1, t4_0, t5_0, t5_1, t6_0, y355, y356, f357, y360, y361, y363, y364, f365) = (F_NH_decimalBy x2 x3 x4 x5 t0_0 t0_1 t1_0 t1_1 t2_0 t3_0 t3_1 t4_0 t5_0 t5_1 t6_0 t7_0 t7_1 t8_0 t9_0 t9_1 t10_0 t10_1 t11_0 t12_0 t12_1 t13_0 t13_1 t14_0) from Eq.trans (by rw [e401, e400, e399, e398, e397, e396, e395, e394, F_NH_decimalBy_c130_6.eq_1, if_pos c340]) hR349)⟩) d_1_12_133)
          ·
            refine lv_aload_n hx hb d_1_12_59 rfl (lv_at hl 0 rfl) ?_
            have hO403 := n_o0 hI
            refine q_get (ci := 0) (j := 7) (v := .ref (q 30)) C0 V i_NH rfl rfl hO403 (by decide) w_431 rfl d_1_12_60 ?_
            refine lv_aload_n hx hb d_1_12_63 rfl (lv_at hl 0 rfl) ?_
            refine q_get (ci := 0) (j := 3) (v := .ref (q 6)) C0 V i_NH rfl rfl hO403 (by decide) w_427 rfl d_1_12_64 ?_
            refine lv_iload_n hx hb d_1_12_67 rfl (lv_at hl 2 rfl) ?_
            have hX404 := n_fx hI (n_s6 g q)
            have ob405 : q_F (0 ≤ x3.toInt) := (by have h := hS116; rw [S_NH_decimalBy_J52.eq_1] at h; rw [if_pos c126] at h; rw [if_pos c129] at h; exact h.2.1)
            have ob406 : q_F (x3.toInt ≤ 9) := (by have h := hS116; rw [S_NH_decimalBy_J52.eq_1] at h; rw [if_pos c126] at h; rw [if_pos c129] at h; replace h := q_s2 h; exact h.2.1)
            have hj407 : x3.toNatClampNeg < 10 := by have z := q_clI (i := x3) (x := x3.toInt) rfl (by first | with_reducible exact q_fe ob405 | (have t1 : 0 ≤ x3.toInt := ob405; omega)); have t1 : 0 ≤ x3.toInt := ob405; have t2 : x3.toInt ≤ 9 := ob406; omega
            have hq408 := gd3x3 hj407
            refine q_aald (t := 5) (q := q d3) C0 V hX404 rfl (q_ix (x := x3.toInt) rfl (by first | with_reducible exact q_fe ob405 | (have t1 : 0 ≤ x3.toInt := ob405; omega)) (by have t1 : 0 ≤ x3.toInt := ob405; have t2 : x3.toInt ≤ 9 := ob406; omega)) (by rw [hq408]; exact n_fdv hj407) d_1_12_68 ?_
            refine lv_iload_n hx hb d_1_12_69 rfl (lv_at hl 3 rfl) ?_
            refine q_goi V (q_runV (As := [.ref (q d3), .int x4]) (rest := []) (d := 5) (mc := 0) (ms := 0) (ci := 5) C0 V rfl LV_NH_284 (X_DW_raise l D g q ws d3 108 hBd3 (Or.inr yd3) x4 (by have z0 := yd3; omega) (by have z0 := yd3; omega) (by have z0 := yd3; omega) (by have z0 := yd3; omega) (by have z0 := yd3; omega) (by have z0 := yd3; omega) (by have z0 := yd3; omega) (by have z0 := yd3; omega) (by have z0 := yd3; omega) (by have z0 := yd3; omega) (by have z0 := yd3; omega) (by have z0 := yd3; omega) (by have z0 := yd3; omega) (by have z0 := yd3; omega) (by have z0 := yd3; omega) (by have z0 := yd3; omega) hI t0_0 t0_1 hT0 t1_0 t1_1 hT1 t2_0 hT2 t3_0 t3_1 hT3 t4_0 hT4 t5_0 t5_1 hT5 t6_0 hT6 t9_0 t9_1 hT9 t10_0 t10_1 hT10 t11_0 hT11  _) rfl rfl hT0 rfl hl.1 rfl (Nat.le_of_ble_eq_true rfl) ⟨by decide, by decide⟩ ⟨Nat.le_of_ble_eq_true rfl, Nat.le_of_ble_eq_true rfl⟩ d_1_12_70) (fun a411 u409 H locs hp410 V => ?_)
            obtain ⟨hI, hZ9⟩ := hp410
            obtain ⟨hu446, hZ9⟩ := hZ9
            obtain ⟨y413, hZ9⟩ := hZ9
            obtain ⟨y414, hZ9⟩ := hZ9
            obtain ⟨y416, hZ9⟩ := hZ9
            obtain ⟨y417, hZ9⟩ := hZ9
            obtain ⟨f418, hZ9⟩ := hZ9
            obtain ⟨y421, hZ9⟩ := hZ9
            obtain ⟨y422, hZ9⟩ := hZ9
            obtain ⟨f423, hZ9⟩ := hZ9
            obtain ⟨y426, hZ9⟩ := hZ9
            obtain ⟨y427, hZ9⟩ := hZ9
            obtain ⟨f428, hZ9⟩ := hZ9
            obtain ⟨hO412, hZ9⟩ := hZ9
            obtain ⟨hO415, hZ9⟩ := hZ9
            obtain ⟨hA419, hZ9⟩ := hZ9
            obtain ⟨hO420, hZ9⟩ := hZ9
            obtain ⟨hA424, hZ9⟩ := hZ9
            obtain ⟨hO425, hZ9⟩ := hZ9
            obtain ⟨hA429, hZ9⟩ := hZ9
            obtain ⟨b430, hZ9⟩ := hZ9
            obtain ⟨b431, hZ9⟩ := hZ9
            obtain ⟨b432, hZ9⟩ := hZ9
            obtain ⟨b433, hZ9⟩ := hZ9
            obtain ⟨b434, hZ9⟩ := hZ9
            obtain ⟨b435, hZ9⟩ := hZ9
            obtain ⟨b436, hZ9⟩ := hZ9
            obtain ⟨b437, hZ9⟩ := hZ9
            obtain ⟨b438, hZ9⟩ := hZ9
            obtain ⟨b439, hZ9⟩ := hZ9
            obtain ⟨b440, hZ9⟩ := hZ9
            obtain ⟨b441, hZ9⟩ := hZ9
            obtain ⟨b442, hZ9⟩ := hZ9
            obtain ⟨b443, hZ9⟩ := hZ9
            obtain ⟨b444, hE445⟩ := hZ9
            replace hO412 : u409[30]? = (some (q 30, .inr (5, [.ref (q 31), .long y413, .ref (q 9), .int y414])) : Option (Nat × va_E)) := hO412
            replace hO415 : u409[10]? = (some (q 10, .inr (2, [.ref (q 11), .int y416, .int y417])) : Option (Nat × va_E)) := hO415
            replace hA419 : u409[11]? = (some (q 11, .inl (g 0, (220 : Int32).toNatClampNeg, .inl f418)) : Option (Nat × va_E)) := hA419
            replace hO420 : u409[14]? = (some (q 14, .inr (2, [.ref (q 15), .int y421, .int y422])) : Option (Nat × va_E)) := hO420
            replace hA424 : u409[15]? = (some (q 15, .inl (g 0, (220 : Int32).toNatClampNeg, .inl f423)) : Option (Nat × va_E)) := hA424
            replace hO425 : u409[18]? = (some (q 18, .inr (2, [.ref (q 19), .int y426, .int y427])) : Option (Nat × va_E)) := hO425
            replace hA429 : u409[19]? = (some (q 19, .inl (g 0, (220 : Int32).toNatClampNeg, .inl f428)) : Option (Nat × va_E)) := hA429
            obtain ⟨p447, e448⟩ : ∃ z, z = (F_DW_raise (108 : Int32) x4 t0_0 t0_1 t1_0 t1_1 t2_0 t3_0 t3_1 t4_0 t5_0 t5_1 t6_0 t9_0 t9_1 t10_0 t10_1 t11_0) := ⟨_, rfl⟩
            have e449 : a411 = p447.1 := congrArg (fun z => z.1) (hE445.trans e448.symm)
            have e450 : y413 = p447.2.1 := congrArg (fun z => z.2.1) (hE445.trans e448.symm)
            have e451 : y414 = p447.2.2.1 := congrArg (fun z => z.2.2.1) (hE445.trans e448.symm)
            have e452 : y416 = p447.2.2.2.1 := congrArg (fun z => z.2.2.2.1) (hE445.trans e448.symm)
            have e453 : y417 = p447.2.2.2.2.1 := congrArg (fun z => z.2.2.2.2.1) (hE445.trans e448.symm)
            have e454 : f418 = p447.2.2.2.2.2.1 := congrArg (fun z => z.2.2.2.2.2.1) (hE445.trans e448.symm)
            have e455 : y421 = p447.2.2.2.2.2.2.1 := congrArg (fun z => z.2.2.2.2.2.2.1) (hE445.trans e448.symm)
            have e456 : y422 = p447.2.2.2.2.2.2.2.1 := congrArg (fun z => z.2.2.2.2.2.2.2.1) (hE445.trans e448.symm)
            have e457 : f423 = p447.2.2.2.2.2.2.2.2.1 := congrArg (fun z => z.2.2.2.2.2.2.2.2.1) (hE445.trans e448.symm)
            have e458 : y426 = p447.2.2.2.2.2.2.2.2.2.1 := congrArg (fun z => z.2.2.2.2.2.2.2.2.2.1) (hE445.trans e448.symm)
            have e459 : y427 = p447.2.2.2.2.2.2.2.2.2.2.1 := congrArg (fun z => z.2.2.2.2.2.2.2.2.2.2.1) (hE445.trans e448.symm)
            have e460 : f428 = p447.2.2.2.2.2.2.2.2.2.2.2 := congrArg (fun z => z.2.2.2.2.2.2.2.2.2.2.2) (hE445.trans e448.symm)
            replace b430 : q_F (0 ≤ a411.toInt) := b430
            replace b431 : q_F (a411.toInt ≤ 1) := b431
            replace b432 : q_F (0 ≤ y416.toInt) := b432
            replace b433 : q_F (y421.toInt ≤ 220) := b433
            replace b434 : q_F (0 ≤ y422.toInt) := b434
            replace b435 : q_F (y422.toInt ≤ 1) := b435
            replace b436 : q_F (0 ≤ y426.toInt) := b436
            replace b437 : q_F (y426.toInt ≤ 220) := b437
            replace b438 : q_F (0 ≤ y427.toInt) := b438
            replace b439 : q_F (y427.toInt ≤ 1) := b439
            replace b440 : q_F (t0_1.toInt ≤ y414.toInt) := b440
            replace b441 : q_F (y414.toInt ≤ t0_1.toInt) := b441
            replace b442 : q_F (y416.toInt ≤ y421.toInt) := b442
            replace b443 : q_F (y422.toInt ≤ y417.toInt) := b443
            replace b444 : q_F (y417.toInt ≤ y422.toInt) := b444
            replace hT7 := (hu446 _ (by decide)).trans hT7
            replace hT8 := (hu446 _ (by decide)).trans hT8
            replace hT12 := (hu446 _ (by have z0 := yd5; simp only [List.mem_cons, List.not_mem_nil, or_false, not_or]; omega)).trans hT12
            replace hT13 := (hu446 _ (by have z0 := yd5; simp only [List.mem_cons, List.not_mem_nil, or_false, not_or]; omega)).trans hT13
            replace hT14 := (hu446 _ (by have z0 := yd5; simp only [List.mem_cons, List.not_mem_nil, or_false, not_or]; omega)).trans hT14
            replace hO403 := (hu446 _ (by decide)).trans hO403
            replace hF := q_uc hF hu446 (by simp)
            have hR461 := (show F_NH_decimalBy_c70 x2 x3 x4 x5 t0_0 t0_1 t1_0 t1_1 t2_0 t3_0 t3_1 t4_0 t5_0 t5_1 t6_0 t7_0 t7_1 t8_0 t9_0 t9_1 t10_0 t10_1 t11_0 t12_0 t12_1 t13_0 t13_1 t14_0 lx63 lx96 p447 = (F_NH_decimalBy x2 x3 x4 x5 t0_0 t0_1 t1_0 t1_1 t2_0 t3_0 t3_1 t4_0 t5_0 t5_1 t6_0 t7_0 t7_1 t8_0 t9_0 t9_1 t10_0 t10_1 t11_0 t12_0 t12_1 t13_0 t13_1 t14_0) from Eq.trans (by rw [e448, F_NH_decimalBy_J52.eq_1, if_pos c126, if_pos c129]) hR115)
            have hS462 := (show True ∧ S_NH_decimalBy_c70 x2 x3 x4 x5 t0_0 t0_1 t1_0 t1_1 t2_0 t3_0 t3_1 t4_0 t5_0 t5_1 t6_0 t7_0 t7_1 t8_0 t9_0 t9_1 t10_0 t10_1 t11_0 t12_0 t12_1 t13_0 t13_1 t14_0 lx63 lx96 p447 from (by rw [e448]; have h := hS116; rw [S_NH_decimalBy_J52.eq_1] at h; rw [if_pos c126] at h; rw [if_pos c129] at h; replace h := q_s2 h; replace h := q_s2 h; with_reducible exact h))
            refine q_goxv V (q_runSX (As := [.int a411]) (rest := []) (d := 7) (mc := 1) (ms := 6) C0 V rfl LS_NH_138 (X_NH_canHave l D g q u409  a411 hlt hI  ⟨(by first | with_reducible exact q_fe b430 | (have t1 : 0 ≤ a411.toInt := b430; omega)), (by first | with_reducible exact q_fe b431 | (have t1 : a411.toInt ≤ 1 := b431; omega))⟩ _) rfl hl.1 rfl (Nat.le_of_ble_eq_true rfl) ⟨by decide, by decide⟩ ⟨Nat.le_of_ble_eq_true rfl, Nat.le_of_ble_eq_true rfl⟩ d_1_12_73) (fun qx Ex ce u466 H locs hp467 V hce hcv hcl => ?_) (fun u466 H locs hp467 V => ?_)
            ·
              obtain ⟨cx469, he470, hc471, rfl, hE468⟩ := hp467
              have c472 : ¬ (F_NH_canHave a411) = (0 : Int32) := fun z => hc471 (((hE468) : cx469 = _).trans z)
              exact q_outT hno C0 V (⟨(F_NH_canHave a411), (he470.trans (congrArg qE ((hE468) : cx469 = _))), c472, hI, hF, y413, y414, y416, y417, f418, y421, y422, f423, y426, y427, f428, t7_0, t7_1, t8_0, t12_0, t12_1, t13_0, t13_1, t14_0, hO412, hO415, hA419, hO420, hA424, hO425, hA429, hT7, hT8, hT12, hT13, hT14, (show ((F_NH_canHave a411), y413, y414, y416, y417, f418, y421, y422, f423, y426, y427, f428, t7_0, t7_1, t8_0, t12_0, t12_1, t13_0, t13_1, t14_0) = (F_NH_decimalBy x2 x3 x4 x5 t0_0 t0_1 t1_0 t1_1 t2_0 t3_0 t3_1 t4_0 t5_0 t5_1 t6_0 t7_0 t7_1 t8_0 t9_0 t9_1 t10_0 t10_1 t11_0 t12_0 t12_1 t13_0 t13_1 t14_0) from Eq.trans (by have c472x := c472; rw [e449] at c472x; rw [e460, e459, e458, e457, e456, e455, e454, e453, e452, e451, e450, e449, F_NH_decimalBy_c70.eq_1, if_neg c472x]) hR461)⟩) hce hcv hcl (Nat.le_of_ble_eq_true rfl) (Nat.le_of_ble_eq_true rfl)
            ·
              obtain ⟨rfl, hE473⟩ := hp467
              have c472 : (F_NH_canHave a411) = (0 : Int32) := ((hE473) : (0 : Int32) = _).symm
              refine lv_goto (tgt := 127) hx hb d_1_12_76 (by decide) ?_
              refine lv_aload_n hx hb d_1_12_127 rfl (lv_at hl 0 rfl) ?_
              refine lv_iload hx hb d_1_12_128 (lv_at hl 4 rfl) ?_
              have ob475 : True ∧ S_NH_keepDecimal x5 y413 y414 y416 y417 f418 t7_0 t7_1 t8_0 t12_0 t12_1 t13_0 t13_1 t14_0 := (by rw [e454, e453, e452, e451, e450]; have h := hS462; rw [S_NH_decimalBy_c70.eq_1] at h; have c472x := c472; rw [e449] at c472x; rw [if_pos c472x] at h; with_reducible exact h.2.1)
              refine q_goxv V (q_runVX (As := [.int x5]) (rest := []) (d := 8) (mc := 1) (ms := 6) (ci := 0) C0 V rfl LV_NH_281 (X_NH_keepDecimal l D g q u409  x5 d5 hBd5 yd5 gd5x5 hlt hI y413 y414 hO412 y416 y417 hO415 f418 hA419 t7_0 t7_1 hT7 t8_0 hT8 t12_0 t12_1 hT12 t13_0 t13_1 hT13 t14_0 hT14 ob475 _) rfl rfl hO403 rfl hl.1 rfl (Nat.le_of_ble_eq_true rfl) ⟨by decide, by decide⟩ ⟨Nat.le_of_ble_eq_true rfl, Nat.le_of_ble_eq_true rfl⟩ d_1_12_130) (fun qx Ex ce u476 H locs hp477 V hce hcv hcl => ?_) (fun u476 H locs hp477 V => ?_)
              ·
                obtain ⟨cx492, hZ9⟩ := hp477
                obtain ⟨he493, hZ9⟩ := hZ9
                obtain ⟨hc494, hZ9⟩ := hZ9
                obtain ⟨hI, hZ9⟩ := hZ9
                obtain ⟨hu495, hZ9⟩ := hZ9
                obtain ⟨y479, hZ9⟩ := hZ9
                obtain ⟨y480, hZ9⟩ := hZ9
                obtain ⟨f481, hZ9⟩ := hZ9
                obtain ⟨y484, hZ9⟩ := hZ9
                obtain ⟨y485, hZ9⟩ := hZ9
                obtain ⟨y487, hZ9⟩ := hZ9
                obtain ⟨y488, hZ9⟩ := hZ9
                obtain ⟨f489, hZ9⟩ := hZ9
                obtain ⟨hO478, hZ9⟩ := hZ9
                obtain ⟨hA482, hZ9⟩ := hZ9
                obtain ⟨hO483, hZ9⟩ := hZ9
                obtain ⟨hO486, hZ9⟩ := hZ9
                obtain ⟨hA490, hE491⟩ := hZ9
                replace hO478 : u476[20]? = (some (q 20, .inr (2, [.ref (q 21), .int y479, .int y480])) : Option (Nat × va_E)) := hO478
                replace hA482 : u476[21]? = (some (q 21, .inl (g 0, (220 : Int32).toNatClampNeg, .inl f481)) : Option (Nat × va_E)) := hA482
                replace hO483 : u476[d5]? = (some (q d5, .inr (3, [.ref (q (d5 + 1)), .int y484, .int y485])) : Option (Nat × va_E)) := hO483
                replace hO486 : u476[d5 + 1]? = (some (q (d5 + 1), .inr (2, [.ref (q (d5 + 2)), .int y487, .int y488])) : Option (Nat × va_E)) := hO486
                replace hA490 : u476[d5 + 2]? = (some (q (d5 + 2), .inl (g 0, (108 : Int32).toNatClampNeg, .inl f489)) : Option (Nat × va_E)) := hA490
                obtain ⟨p496, e497⟩ : ∃ z, z = (F_NH_keepDecimal x5 y413 y414 y416 y417 f418 t7_0 t7_1 t8_0 t12_0 t12_1 t13_0 t13_1 t14_0) := ⟨_, rfl⟩
                have c498 : ¬ p496.1 = (0 : Int32) := fun z => hc494 (((congrArg (fun z => z.1) (hE491.trans e497.symm)) : cx492 = _).trans z)
                have e499 : y479 = p496.2.1 := congrArg (fun z => z.2.1) (hE491.trans e497.symm)
                have e500 : y480 = p496.2.2.1 := congrArg (fun z => z.2.2.1) (hE491.trans e497.symm)
                have e501 : f481 = p496.2.2.2.1 := congrArg (fun z => z.2.2.2.1) (hE491.trans e497.symm)
                have e502 : y484 = p496.2.2.2.2.1 := congrArg (fun z => z.2.2.2.2.1) (hE491.trans e497.symm)
                have e503 : y485 = p496.2.2.2.2.2.1 := congrArg (fun z => z.2.2.2.2.2.1) (hE491.trans e497.symm)
                have e504 : y487 = p496.2.2.2.2.2.2.1 := congrArg (fun z => z.2.2.2.2.2.2.1) (hE491.trans e497.symm)
                have e505 : y488 = p496.2.2.2.2.2.2.2.1 := congrArg (fun z => z.2.2.2.2.2.2.2.1) (hE491.trans e497.symm)
                have e506 : f489 = p496.2.2.2.2.2.2.2.2 := congrArg (fun z => z.2.2.2.2.2.2.2.2) (hE491.trans e497.symm)
                replace hO412 := (hu495 _ (by have z0 := yd5; simp only [List.mem_cons, List.not_mem_nil, or_false, not_or]; omega)).trans hO412
                replace hO415 := (hu495 _ (by have z0 := yd5; simp only [List.mem_cons, List.not_mem_nil, or_false, not_or]; omega)).trans hO415
                replace hA419 := (hu495 _ (by have z0 := yd5; simp only [List.mem_cons, List.not_mem_nil, or_false, not_or]; omega)).trans hA419
                replace hO420 := (hu495 _ (by have z0 := yd5; simp only [List.mem_cons, List.not_mem_nil, or_false, not_or]; omega)).trans hO420
                replace hA424 := (hu495 _ (by have z0 := yd5; simp only [List.mem_cons, List.not_mem_nil, or_false, not_or]; omega)).trans hA424
                replace hO425 := (hu495 _ (by have z0 := yd5; simp only [List.mem_cons, List.not_mem_nil, or_false, not_or]; omega)).trans hO425
                replace hA429 := (hu495 _ (by have z0 := yd5; simp only [List.mem_cons, List.not_mem_nil, or_false, not_or]; omega)).trans hA429
                replace hF := q_uc hF hu495 (by simp)
                have hR507 := (show F_NH_decimalBy_c130_8 x2 x3 x4 x5 t0_0 t0_1 t1_0 t1_1 t2_0 t3_0 t3_1 t4_0 t5_0 t5_1 t6_0 t7_0 t7_1 t8_0 t9_0 t9_1 t10_0 t10_1 t11_0 t12_0 t12_1 t13_0 t13_1 t14_0 lx63 lx96 p447 y413 y414 y416 y417 f418 y421 y422 f423 y426 y427 f428 p496 = (F_NH_decimalBy x2 x3 x4 x5 t0_0 t0_1 t1_0 t1_1 t2_0 t3_0 t3_1 t4_0 t5_0 t5_1 t6_0 t7_0 t7_1 t8_0 t9_0 t9_1 t10_0 t10_1 t11_0 t12_0 t12_1 t13_0 t13_1 t14_0) from Eq.trans (by have c472x := c472; rw [e449] at c472x; rw [e497, e460, e459, e458, e457, e456, e455, e454, e453, e452, e451, e450, F_NH_decimalBy_c70.eq_1, if_pos c472x]) hR461)
                have hS508 := (show True ∧ S_NH_decimalBy_c130_8 x2 x3 x4 x5 t0_0 t0_1 t1_0 t1_1 t2_0 t3_0 t3_1 t4_0 t5_0 t5_1 t6_0 t7_0 t7_1 t8_0 t9_0 t9_1 t10_0 t10_1 t11_0 t12_0 t12_1 t13_0 t13_1 t14_0 lx63 lx96 p447 y413 y414 y416 y417 f418 y421 y422 f423 y426 y427 f428 p496 from (by rw [e497, e460, e459, e458, e457, e456, e455, e454, e453, e452, e451, e450]; have h := hS462; rw [S_NH_decimalBy_c70.eq_1] at h; have c472x := c472; rw [e449] at c472x; rw [if_pos c472x] at h; replace h := q_s2 h; with_reducible exact h))
                exact q_outT hno C0 V (⟨p496.1, (he493.trans (congrArg qE ((congrArg (fun z => z.1) (hE491.trans e497.symm)) : cx492 = _))), c498, hI, hF, y413, y414, y416, y417, f418, y421, y422, f423, y426, y427, f428, y479, y480, f481, y484, y485, y487, y488, f489, hO412, hO415, hA419, hO420, hA424, hO425, hA429, hO478, hA482, hO483, hO486, hA490, (show (p496.1, y413, y414, y416, y417, f418, y421, y422, f423, y426, y427, f428, y479, y480, f481, y484, y485, y487, y488, f489) = (F_NH_decimalBy x2 x3 x4 x5 t0_0 t0_1 t1_0 t1_1 t2_0 t3_0 t3_1 t4_0 t5_0 t5_1 t6_0 t7_0 t7_1 t8_0 t9_0 t9_1 t10_0 t10_1 t11_0 t12_0 t12_1 t13_0 t13_1 t14_0) from Eq.trans (by rw [e506, e505, e504, e503, e502, e501, e500, e499, F_NH_decimalBy_c130_8.eq_1, if_neg c498]) hR507)⟩) hce hcv hcl (Nat.le_of_ble_eq_true rfl) (Nat.le_of_ble_eq_true rfl)
              ·
                obtain ⟨hI, hZ9⟩ := hp477
                obtain ⟨hu550, hZ9⟩ := hZ9
                obtain ⟨y513, hZ9⟩ := hZ9
                obtain ⟨y514, hZ9⟩ := hZ9
                obtain ⟨f515, hZ9⟩ := hZ9
                obtain ⟨y518, hZ9⟩ := hZ9
                obtain ⟨y519, hZ9⟩ := hZ9
                obtain ⟨y521, hZ9⟩ := hZ9
                obtain ⟨y522, hZ9⟩ := hZ9
                obtain ⟨f523, hZ9⟩ := hZ9
                obtain ⟨hO512, hZ9⟩ := hZ9
                obtain ⟨hA516, hZ9⟩ := hZ9
                obtain ⟨hO517, hZ9⟩ := hZ9
                obtain ⟨hO520, hZ9⟩ := hZ9
                obtain ⟨hA524, hZ9⟩ := hZ9
                obtain ⟨b525, hZ9⟩ := hZ9
                obtain ⟨b526, hZ9⟩ := hZ9
                obtain ⟨b527, hZ9⟩ := hZ9
                obtain ⟨b528, hZ9⟩ := hZ9
                obtain ⟨b529, hZ9⟩ := hZ9
                obtain ⟨b530, hZ9⟩ := hZ9
                obtain ⟨b531, hZ9⟩ := hZ9
                obtain ⟨b532, hZ9⟩ := hZ9
                obtain ⟨b533, hZ9⟩ := hZ9
                obtain ⟨b534, hZ9⟩ := hZ9
                obtain ⟨b535, hZ9⟩ := hZ9
                obtain ⟨b536, hZ9⟩ := hZ9
                obtain ⟨b537, hZ9⟩ := hZ9
                obtain ⟨b538, hZ9⟩ := hZ9
                obtain ⟨b539, hZ9⟩ := hZ9
                obtain ⟨b540, hZ9⟩ := hZ9
                obtain ⟨b541, hZ9⟩ := hZ9
                obtain ⟨b542, hZ9⟩ := hZ9
                obtain ⟨b543, hZ9⟩ := hZ9
                obtain ⟨b544, hZ9⟩ := hZ9
                obtain ⟨b545, hZ9⟩ := hZ9
                obtain ⟨b546, hZ9⟩ := hZ9
                obtain ⟨b547, hZ9⟩ := hZ9
                obtain ⟨b548, hE549⟩ := hZ9
                replace hO512 : u476[20]? = (some (q 20, .inr (2, [.ref (q 21), .int y513, .int y514])) : Option (Nat × va_E)) := hO512
                replace hA516 : u476[21]? = (some (q 21, .inl (g 0, (220 : Int32).toNatClampNeg, .inl f515)) : Option (Nat × va_E)) := hA516
                replace hO517 : u476[d5]? = (some (q d5, .inr (3, [.ref (q (d5 + 1)), .int y518, .int y519])) : Option (Nat × va_E)) := hO517
                replace hO520 : u476[d5 + 1]? = (some (q (d5 + 1), .inr (2, [.ref (q (d5 + 2)), .int y521, .int y522])) : Option (Nat × va_E)) := hO520
                replace hA524 : u476[d5 + 2]? = (some (q (d5 + 2), .inl (g 0, (108 : Int32).toNatClampNeg, .inl f523)) : Option (Nat × va_E)) := hA524
                obtain ⟨p496, e497⟩ : ∃ z, z = (F_NH_keepDecimal x5 y413 y414 y416 y417 f418 t7_0 t7_1 t8_0 t12_0 t12_1 t13_0 t13_1 t14_0) := ⟨_, rfl⟩
                have c498 : p496.1 = (0 : Int32) := ((congrArg (fun z => z.1) (hE549.trans e497.symm)) : (0 : Int32) = _).symm
                have e552 : y513 = p496.2.1 := congrArg (fun z => z.2.1) (hE549.trans e497.symm)
                have e553 : y514 = p496.2.2.1 := congrArg (fun z => z.2.2.1) (hE549.trans e497.symm)
                have e554 : f515 = p496.2.2.2.1 := congrArg (fun z => z.2.2.2.1) (hE549.trans e497.symm)
                have e555 : y518 = p496.2.2.2.2.1 := congrArg (fun z => z.2.2.2.2.1) (hE549.trans e497.symm)
                have e556 : y519 = p496.2.2.2.2.2.1 := congrArg (fun z => z.2.2.2.2.2.1) (hE549.trans e497.symm)
                have e557 : y521 = p496.2.2.2.2.2.2.1 := congrArg (fun z => z.2.2.2.2.2.2.1) (hE549.trans e497.symm)
                have e558 : y522 = p496.2.2.2.2.2.2.2.1 := congrArg (fun z => z.2.2.2.2.2.2.2.1) (hE549.trans e497.symm)
                have e559 : f523 = p496.2.2.2.2.2.2.2.2 := congrArg (fun z => z.2.2.2.2.2.2.2.2) (hE549.trans e497.symm)
                replace b525 : q_F (0 ≤ y513.toInt) := b525
                replace b526 : q_F (y513.toInt ≤ 220) := b526
                replace b527 : q_F (0 ≤ y514.toInt) := b527
                replace b528 : q_F (y514.toInt ≤ 1) := b528
                replace b529 : q_F (0 ≤ y518.toInt + 10000) := b529
                replace b530 : q_F (y518.toInt ≤ 10000) := b530
                replace b531 : q_F (1 ≤ y519.toInt) := b531
                replace b532 : q_F (y519.toInt ≤ 1000) := b532
                replace b533 : q_F (0 ≤ y521.toInt) := b533
                replace b534 : q_F (y521.toInt ≤ 108) := b534
                replace b535 : q_F (0 ≤ y522.toInt) := b535
                replace b536 : q_F (y522.toInt ≤ 1) := b536
                replace b537 : q_F (x5.toInt ≤ y513.toInt + 9) := b537
                replace b538 : q_F (y513.toInt ≤ x5.toInt + 220) := b538
                replace b539 : q_F (x5.toInt ≤ y514.toInt + 9) := b539
                replace b540 : q_F (y514.toInt ≤ x5.toInt + 1) := b540
                replace b541 : q_F (x5.toInt ≤ y518.toInt + 10009) := b541
                replace b542 : q_F (y518.toInt ≤ x5.toInt + 10000) := b542
                replace b543 : q_F (x5.toInt ≤ y519.toInt + 8) := b543
                replace b544 : q_F (y519.toInt ≤ x5.toInt + 1000) := b544
                replace b545 : q_F (x5.toInt ≤ y521.toInt + 9) := b545
                replace b546 : q_F (y521.toInt ≤ x5.toInt + 108) := b546
                replace b547 : q_F (x5.toInt ≤ y522.toInt + 9) := b547
                replace b548 : q_F (y522.toInt ≤ x5.toInt + 1) := b548
                replace hO412 := (hu550 _ (by have z0 := yd5; simp only [List.mem_cons, List.not_mem_nil, or_false, not_or]; omega)).trans hO412
                replace hO415 := (hu550 _ (by have z0 := yd5; simp only [List.mem_cons, List.not_mem_nil, or_false, not_or]; omega)).trans hO415
                replace hA419 := (hu550 _ (by have z0 := yd5; simp only [List.mem_cons, List.not_mem_nil, or_false, not_or]; omega)).trans hA419
                replace hO420 := (hu550 _ (by have z0 := yd5; simp only [List.mem_cons, List.not_mem_nil, or_false, not_or]; omega)).trans hO420
                replace hA424 := (hu550 _ (by have z0 := yd5; simp only [List.mem_cons, List.not_mem_nil, or_false, not_or]; omega)).trans hA424
                replace hO425 := (hu550 _ (by have z0 := yd5; simp only [List.mem_cons, List.not_mem_nil, or_false, not_or]; omega)).trans hO425
                replace hA429 := (hu550 _ (by have z0 := yd5; simp only [List.mem_cons, List.not_mem_nil, or_false, not_or]; omega)).trans hA429
                replace hF := q_uc hF hu550 (by simp)
                have hR507 := (show F_NH_decimalBy_c130_8 x2 x3 x4 x5 t0_0 t0_1 t1_0 t1_1 t2_0 t3_0 t3_1 t4_0 t5_0 t5_1 t6_0 t7_0 t7_1 t8_0 t9_0 t9_1 t10_0 t10_1 t11_0 t12_0 t12_1 t13_0 t13_1 t14_0 lx63 lx96 p447 y413 y414 y416 y417 f418 y421 y422 f423 y426 y427 f428 p496 = (F_NH_decimalBy x2 x3 x4 x5 t0_0 t0_1 t1_0 t1_1 t2_0 t3_0 t3_1 t4_0 t5_0 t5_1 t6_0 t7_0 t7_1 t8_0 t9_0 t9_1 t10_0 t10_1 t11_0 t12_0 t12_1 t13_0 t13_1 t14_0) from Eq.trans (by have c472x := c472; rw [e449] at c472x; rw [e497, e460, e459, e458, e457, e456, e455, e454, e453, e452, e451, e450, F_NH_decimalBy_c70.eq_1, if_pos c472x]) hR461)
                have hS508 := (show True ∧ S_NH_decimalBy_c130_8 x2 x3 x4 x5 t0_0 t0_1 t1_0 t1_1 t2_0 t3_0 t3_1 t4_0 t5_0 t5_1 t6_0 t7_0 t7_1 t8_0 t9_0 t9_1 t10_0 t10_1 t11_0 t12_0 t12_1 t13_0 t13_1 t14_0 lx63 lx96 p447 y413 y414 y416 y417 f418 y421 y422 f423 y426 y427 f428 p496 from (by rw [e497, e460, e459, e458, e457, e456, e455, e454, e453, e452, e451, e450]; have h := hS462; rw [S_NH_decimalBy_c70.eq_1] at h; have c472x := c472; rw [e449] at c472x; rw [if_pos c472x] at h; replace h := q_s2 h; with_reducible exact h))
                exact q_retX (q_retv C0 V (⟨hI, hF, y413, y414, y416, y417, f418, y421, y422, f423, y426, y427, f428, y513, y514, f515, y518, y519, y521, y522, f523, hO412, hO415, hA419, hO420, hA424, hO425, hA429, hO512, hA516, hO517, hO520, hA524, (show 0 ≤ y414.toInt from (by have t1 : 0 ≤ t0_1.toInt ∧ t0_1.toInt ≤ 1 := btt0_1; have t2 : t0_1.toInt ≤ y414.toInt := b440; omega)), (show y414.toInt ≤ 1 from (by have t1 : 0 ≤ t0_1.toInt ∧ t0_1.toInt ≤ 1 := btt0_1; have t2 : y414.toInt ≤ t0_1.toInt := b441; omega)), (show 0 ≤ y416.toInt from (by first | with_reducible exact q_fe b432 | (have t1 : 0 ≤ y416.toInt := b432; omega))), (show y416.toInt ≤ 220 from (by have t1 : y421.toInt ≤ 220 := b433; have t2 : y416.toInt ≤ y421.toInt := b442; omega)), (show 0 ≤ y417.toInt from (by have t1 : 0 ≤ y422.toInt := b434; have t2 : y422.toInt ≤ y417.toInt := b443; omega)), (show y417.toInt ≤ 1 from (by have t1 : y422.toInt ≤ 1 := b435; have t2 : y417.toInt ≤ y422.toInt := b444; omega)), (show 0 ≤ y421.toInt from (by have t1 : 0 ≤ y416.toInt := b432; have t2 : y416.toInt ≤ y421.toInt := b442; omega)), (show y421.toInt ≤ 220 from (by first | with_reducible exact q_fe b433 | (have t1 : y421.toInt ≤ 220 := b433; omega))), (show 0 ≤ y422.toInt from (by first | with_reducible exact q_fe b434 | (have t1 : 0 ≤ y422.toInt := b434; omega))), (show y422.toInt ≤ 1 from (by first | with_reducible exact q_fe b435 | (have t1 : y422.toInt ≤ 1 := b435; omega))), (show 0 ≤ y426.toInt from (by first | with_reducible exact q_fe b436 | (have t1 : 0 ≤ y426.toInt := b436; omega))), (show y426.toInt ≤ 220 from (by first | with_reducible exact q_fe b437 | (have t1 : y426.toInt ≤ 220 := b437; omega))), (show 0 ≤ y427.toInt from (by first | with_reducible exact q_fe b438 | (have t1 : 0 ≤ y427.toInt := b438; omega))), (show y427.toInt ≤ 1 from (by first | with_reducible exact q_fe b439 | (have t1 : y427.toInt ≤ 1 := b439; omega))), (show 0 ≤ y513.toInt from (by first | with_reducible exact q_fe b525 | (have t1 : 0 ≤ y513.toInt := b525; omega))), (show y513.toInt ≤ 220 from (by first | with_reducible exact q_fe b526 | (have t1 : y513.toInt ≤ 220 := b526; omega))), (show 0 ≤ y514.toInt from (by first | with_reducible exact q_fe b527 | (have t1 : 0 ≤ y514.toInt := b527; omega))), (show y514.toInt ≤ 1 from (by first | with_reducible exact q_fe b528 | (have t1 : y514.toInt ≤ 1 := b528; omega))), (show 0 ≤ y518.toInt + 10000 from (by first | with_reducible exact q_fe b529 | (have t1 : 0 ≤ y518.toInt + 10000 := b529; omega))), (show y518.toInt ≤ 10000 from (by first | with_reducible exact q_fe b530 | (have t1 : y518.toInt ≤ 10000 := b530; omega))), (show 1 ≤ y519.toInt from (by first | with_reducible exact q_fe b531 | (have t1 : 1 ≤ y519.toInt := b531; omega))), (show y519.toInt ≤ 1000 from (by first | with_reducible exact q_fe b532 | (have t1 : y519.toInt ≤ 1000 := b532; omega))), (show 0 ≤ y521.toInt from (by first | with_reducible exact q_fe b533 | (have t1 : 0 ≤ y521.toInt := b533; omega))), (show y521.toInt ≤ 108 from (by first | with_reducible exact q_fe b534 | (have t1 : y521.toInt ≤ 108 := b534; omega))), (show 0 ≤ y522.toInt from (by first | with_reducible exact q_fe b535 | (have t1 : 0 ≤ y522.toInt := b535; omega))), (show y522.toInt ≤ 1 from (by first | with_reducible exact q_fe b536 | (have t1 : y522.toInt ≤ 1 := b536; omega))), (show x3.toInt ≤ y414.toInt + 9 from (by have t1 : 0 ≤ t0_1.toInt ∧ t0_1.toInt ≤ 1 := btt0_1; have t2 : x3.toInt ≤ 9 := ob406; have t3 : t0_1.toInt ≤ y414.toInt := b440; omega)), (show y414.toInt ≤ x3.toInt + 1 from (by have t1 : 0 ≤ t0_1.toInt ∧ t0_1.toInt ≤ 1 := btt0_1; have t2 : 0 ≤ x3.toInt := ob405; have t3 : y414.toInt ≤ t0_1.toInt := b441; omega)), (show t0_1.toInt ≤ y414.toInt from (by first | with_reducible exact q_fe b440 | (have t1 : t0_1.toInt ≤ y414.toInt := b440; omega))), (show y414.toInt ≤ t0_1.toInt from (by first | with_reducible exact q_fe b441 | (have t1 : y414.toInt ≤ t0_1.toInt := b441; omega))), (show x3.toInt ≤ y416.toInt + 9 from (by have t1 : x3.toInt ≤ 9 := ob406; have t2 : 0 ≤ y416.toInt := b432; omega)), (show y416.toInt ≤ x3.toInt + 220 from (by have t1 : 0 ≤ x3.toInt := ob405; have t2 : y421.toInt ≤ 220 := b433; have t3 : y416.toInt ≤ y421.toInt := b442; omega)), (show x3.toInt ≤ y417.toInt + 9 from (by have t1 : x3.toInt ≤ 9 := ob406; have t2 : 0 ≤ y422.toInt := b434; have t3 : y422.toInt ≤ y417.toInt := b443; omega)), (show y417.toInt ≤ x3.toInt + 1 from (by have t1 : 0 ≤ x3.toInt := ob405; have t2 : y422.toInt ≤ 1 := b435; have t3 : y417.toInt ≤ y422.toInt := b444; omega)), (show x3.toInt ≤ y421.toInt + 9 from (by have t1 : x3.toInt ≤ 9 := ob406; have t2 : 0 ≤ y416.toInt := b432; have t3 : y416.toInt ≤ y421.toInt := b442; omega)), (show y421.toInt ≤ x3.toInt + 220 from (by have t1 : 0 ≤ x3.toInt := ob405; have t2 : y421.toInt ≤ 220 := b433; omega)), (show x3.toInt ≤ y422.toInt + 9 from (by have t1 : x3.toInt ≤ 9 := ob406; have t2 : 0 ≤ y422.toInt := b434; omega)), (show y422.toInt ≤ x3.toInt + 1 from (by have t1 : 0 ≤ x3.toInt := ob405; have t2 : y422.toInt ≤ 1 := b435; omega)), (show x3.toInt ≤ y426.toInt + 9 from (by have t1 : x3.toInt ≤ 9 := ob406; have t2 : 0 ≤ y426.toInt := b436; omega)), (show y426.toInt ≤ x3.toInt + 220 from (by have t1 : 0 ≤ x3.toInt := ob405; have t2 : y426.toInt ≤ 220 := b437; omega)), (show x3.toInt ≤ y427.toInt + 9 from (by have t1 : x3.toInt ≤ 9 := ob406; have t2 : 0 ≤ y427.toInt := b438; omega)), (show y427.toInt ≤ x3.toInt + 1 from (by have t1 : 0 ≤ x3.toInt := ob405; have t2 : y427.toInt ≤ 1 := b439; omega)), (show x3.toInt ≤ y513.toInt + 9 from (by have t1 : x3.toInt ≤ 9 := ob406; have t2 : 0 ≤ y513.toInt := b525; omega)), (show y513.toInt ≤ x3.toInt + 220 from (by have t1 : 0 ≤ x3.toInt := ob405; have t2 : y513.toInt ≤ 220 := b526; omega)), (show x5.toInt ≤ y513.toInt + 9 from (by first | with_reducible exact q_fe b537 | (have t1 : x5.toInt ≤ y513.toInt + 9 := b537; omega))), (show y513.toInt ≤ x5.toInt + 220 from (by first | with_reducible exact q_fe b538 | (have t1 : y513.toInt ≤ x5.toInt + 220 := b538; omega))), (show x3.toInt ≤ y514.toInt + 9 from (by have t1 : x3.toInt ≤ 9 := ob406; have t2 : 0 ≤ y514.toInt := b527; omega)), (show y514.toInt ≤ x3.toInt + 1 from (by have t1 : 0 ≤ x3.toInt := ob405; have t2 : y514.toInt ≤ 1 := b528; omega)), (show x5.toInt ≤ y514.toInt + 9 from (by first | with_reducible exact q_fe b539 | (have t1 : x5.toInt ≤ y514.toInt + 9 := b539; omega))), (show y514.toInt ≤ x5.toInt + 1 from (by first | with_reducible exact q_fe b540 | (have t1 : y514.toInt ≤ x5.toInt + 1 := b540; omega))), (show x3.toInt ≤ y518.toInt + 10009 from (by have t1 : x3.toInt ≤ 9 := ob406; have t2 : 0 ≤ y518.toInt + 10000 := b529; omega)), (show y518.toInt ≤ x3.toInt + 10000 from (by have t1 : 0 ≤ x3.toInt := ob405; have t2 : y518.toInt ≤ 10000 := b530; omega)), (show x5.toInt ≤ y518.toInt + 10009 from (by first | with_reducible exact q_fe b541 | (have t1 : x5.toInt ≤ y518.toInt + 10009 := b541; omega))), (show y518.toInt ≤ x5.toInt + 10000 from (by first | with_reducible exact q_fe b542 | (have t1 : y518.toInt ≤ x5.toInt + 10000 := b542; omega))), (show x3.toInt ≤ y519.toInt + 8 from (by have t1 : x3.toInt ≤ 9 := ob406; have t2 : 1 ≤ y519.toInt := b531; omega)), (show y519.toInt ≤ x3.toInt + 1000 from (by have t1 : 0 ≤ x3.toInt := ob405; have t2 : y519.toInt ≤ 1000 := b532; omega)), (show x5.toInt ≤ y519.toInt + 8 from (by first | with_reducible exact q_fe b543 | (have t1 : x5.toInt ≤ y519.toInt + 8 := b543; omega))), (show y519.toInt ≤ x5.toInt + 1000 from (by first | with_reducible exact q_fe b544 | (have t1 : y519.toInt ≤ x5.toInt + 1000 := b544; omega))), (show x3.toInt ≤ y521.toInt + 9 from (by have t1 : x3.toInt ≤ 9 := ob406; have t2 : 0 ≤ y521.toInt := b533; omega)), (show y521.toInt ≤ x3.toInt + 108 from (by have t1 : 0 ≤ x3.toInt := ob405; have t2 : y521.toInt ≤ 108 := b534; omega)), (show x5.toInt ≤ y521.toInt + 9 from (by first | with_reducible exact q_fe b545 | (have t1 : x5.toInt ≤ y521.toInt + 9 := b545; omega))), (show y521.toInt ≤ x5.toInt + 108 from (by first | with_reducible exact q_fe b546 | (have t1 : y521.toInt ≤ x5.toInt + 108 := b546; omega))), (show x3.toInt ≤ y522.toInt + 9 from (by have t1 : x3.toInt ≤ 9 := ob406; have t2 : 0 ≤ y522.toInt := b535; omega)), (show y522.toInt ≤ x3.toInt + 1 from (by have t1 : 0 ≤ x3.toInt := ob405; have t2 : y522.toInt ≤ 1 := b536; omega)), (show x5.toInt ≤ y522.toInt + 9 from (by first | with_reducible exact q_fe b547 | (have t1 : x5.toInt ≤ y522.toInt + 9 := b547; omega))), (show y522.toInt ≤ x5.toInt + 1 from (by first | with_reducible exact q_fe b548 | (have t1 : y522.toInt ≤ x5.toInt + 1 := b548; omega))), (show y416.toInt ≤ y421.toInt + 108 from (by first | with_reducible exact q_fe b442 | (have t1 : y416.toInt ≤ y421.toInt := b442; omega))), (show ((0 : Int32), y413, y414, y416, y417, f418, y421, y422, f423, y426, y427, f428, y513, y514, f515, y518, y519, y521, y522, f523) = (F_NH_decimalBy x2 x3 x4 x5 t0_0 t0_1 t1_0 t1_1 t2_0 t3_0 t3_1 t4_0 t5_0 t5_1 t6_0 t7_0 t7_1 t8_0 t9_0 t9_1 t10_0 t10_1 t11_0 t12_0 t12_1 t13_0 t13_1 t14_0) from Eq.trans (by rw [e559, e558, e557, e556, e555, e554, e553, e552, F_NH_decimalBy_c130_8.eq_1, if_pos c498]) hR507)⟩) d_1_12_133)
      ·
        intro J112
        refine q_join (X := Unit) (fun z H locs ls _ => q_Wd D g (va_A ws sz) s ws H locs ∧ lv_has ls 5 [(0, .ref (q 0)), (1, .int x2), (2, .int x3), (3, .int x4), (4, .int x5)] ∧ F_NH_decimalBy_J47 x2 x3 x4 x5 t0_0 t0_1 t1_0 t1_1 t2_0 t3_0 t3_1 t4_0 t5_0 t5_1 t6_0 t7_0 t7_1 t8_0 t9_0 t9_1 t10_0 t10_1 t11_0 t12_0 t12_1 t13_0 t13_1 t14_0 lx63 = (F_NH_decimalBy x2 x3 x4 x5 t0_0 t0_1 t1_0 t1_1 t2_0 t3_0 t3_1 t4_0 t5_0 t5_1 t6_0 t7_0 t7_1 t8_0 t9_0 t9_1 t10_0 t10_1 t11_0 t12_0 t12_1 t13_0 t13_1 t14_0) ∧ True ∧ S_NH_decimalBy_J47 x2 x3 x4 x5 t0_0 t0_1 t1_0 t1_1 t2_0 t3_0 t3_1 t4_0 t5_0 t5_1 t6_0 t7_0 t7_1 t8_0 t9_0 t9_1 t10_0 t10_1 t11_0 t12_0 t12_1 t13_0 t13_1 t14_0 lx63) (fun z => []) 47 1 6 ?_ ?_
        ·
          rintro _ H locs ls _ ⟨V, hl, hR576, hS577⟩
          replace hl : lv_has ls 5 [(0, .ref (q 0)), (1, .int x2), (2, .int x3), (3, .int x4), (4, .int x5)] := hl
          refine lv_iconst (v := 1) hx hb d_1_12_47 (by decide) ?_
          refine lv_goto (tgt := 52) hx hb d_1_12_48 (by decide) ?_
          exact J112 ((1 : Int32)) _ _ _ ws ⟨(show q_F (0 ≤ 1) from (show 0 ≤ 1 from by omega)), (show q_F (1 ≤ 1) from (show 1 ≤ 1 from by omega)), V, q_lw hl (q_lw1 0 rfl (q_lw1 1 rfl (q_lw1 2 rfl (q_lw1 3 rfl (q_lw1 4 rfl q_lw0))))), (show F_NH_decimalBy_J52 x2 x3 x4 x5 t0_0 t0_1 t1_0 t1_1 t2_0 t3_0 t3_1 t4_0 t5_0 t5_1 t6_0 t7_0 t7_1 t8_0 t9_0 t9_1 t10_0 t10_1 t11_0 t12_0 t12_1 t13_0 t13_1 t14_0 lx63 1 = (F_NH_decimalBy x2 x3 x4 x5 t0_0 t0_1 t1_0 t1_1 t2_0 t3_0 t3_1 t4_0 t5_0 t5_1 t6_0 t7_0 t7_1 t8_0 t9_0 t9_1 t10_0 t10_1 t11_0 t12_0 t12_1 t13_0 t13_1 t14_0) from Eq.trans (by rw [F_NH_decimalBy_J47.eq_1]) hR576), (show True ∧ S_NH_decimalBy_J52 x2 x3 x4 x5 t0_0 t0_1 t1_0 t1_1 t2_0 t3_0 t3_1 t4_0 t5_0 t5_1 t6_0 t7_0 t7_1 t8_0 t9_0 t9_1 t10_0 t10_1 t11_0 t12_0 t12_1 t13_0 t13_1 t14_0 lx63 1 from (by have h := hS577; rw [S_NH_decimalBy_J47.eq_1] at h; with_reducible exact h))⟩
        ·
          intro J575
          refine lv_if_ne (tgt := 47) hx hb d_1_12_33 (by decide) (fun c581 => ?_) (fun c581 => ?_)
          ·
            exact J575 (()) _ _ _ ws ⟨V, q_lw hl (q_lw1 0 rfl (q_lw1 1 rfl (q_lw1 2 rfl (q_lw1 3 rfl (q_lw1 4 rfl q_lw0))))), (show F_NH_decimalBy_J47 x2 x3 x4 x5 t0_0 t0_1 t1_0 t1_1 t2_0 t3_0 t3_1 t4_0 t5_0 t5_1 t6_0 t7_0 t7_1 t8_0 t9_0 t9_1 t10_0 t10_1 t11_0 t12_0 t12_1 t13_0 t13_1 t14_0 lx63 = (F_NH_decimalBy x2 x3 x4 x5 t0_0 t0_1 t1_0 t1_1 t2_0 t3_0 t3_1 t4_0 t5_0 t5_1 t6_0 t7_0 t7_1 t8_0 t9_0 t9_1 t10_0 t10_1 t11_0 t12_0 t12_1 t13_0 t13_1 t14_0) from Eq.trans (by rw [F_NH_decimalBy_J29.eq_1, if_pos c93, if_neg c581]) hR82), (show True ∧ S_NH_decimalBy_J47 x2 x3 x4 x5 t0_0 t0_1 t1_0 t1_1 t2_0 t3_0 t3_1 t4_0 t5_0 t5_1 t6_0 t7_0 t7_1 t8_0 t9_0 t9_1 t10_0 t10_1 t11_0 t12_0 t12_1 t13_0 t13_1 t14_0 lx63 from (by have h := hS83; rw [S_NH_decimalBy_J29.eq_1] at h; rw [if_pos c93] at h; rw [if_neg c581] at h; with_reducible exact h))⟩
          ·
            refine lv_iload_n hx hb d_1_12_36 rfl (lv_at hl 3 rfl) ?_
            refine q_join (X := Unit) (fun z H locs ls _ => q_Wd D g (va_A ws sz) s ws H locs ∧ lv_has ls 5 [(0, .ref (q 0)), (1, .int x2), (2, .int x3), (3, .int x4), (4, .int x5)] ∧ F_NH_decimalBy_J51 x2 x3 x4 x5 t0_0 t0_1 t1_0 t1_1 t2_0 t3_0 t3_1 t4_0 t5_0 t5_1 t6_0 t7_0 t7_1 t8_0 t9_0 t9_1 t10_0 t10_1 t11_0 t12_0 t12_1 t13_0 t13_1 t14_0 lx63 = (F_NH_decimalBy x2 x3 x4 x5 t0_0 t0_1 t1_0 t1_1 t2_0 t3_0 t3_1 t4_0 t5_0 t5_1 t6_0 t7_0 t7_1 t8_0 t9_0 t9_1 t10_0 t10_1 t11_0 t12_0 t12_1 t13_0 t13_1 t14_0) ∧ True ∧ S_NH_decimalBy_J51 x2 x3 x4 x5 t0_0 t0_1 t1_0 t1_1 t2_0 t3_0 t3_1 t4_0 t5_0 t5_1 t6_0 t7_0 t7_1 t8_0 t9_0 t9_1 t10_0 t10_1 t11_0 t12_0 t12_1 t13_0 t13_1 t14_0 lx63) (fun z => []) 51 1 6 ?_ ?_
            ·
              rintro _ H locs ls _ ⟨V, hl, hR600, hS601⟩
              replace hl : lv_has ls 5 [(0, .ref (q 0)), (1, .int x2), (2, .int x3), (3, .int x4), (4, .int x5)] := hl
              refine lv_iconst (v := 0) hx hb d_1_12_51 (by decide) ?_
              exact J112 ((0 : Int32)) _ _ _ ws ⟨(show q_F (0 ≤ 0) from (show 0 ≤ 0 from by omega)), (show q_F (0 ≤ 1) from (show 0 ≤ 1 from by omega)), V, q_lw hl (q_lw1 0 rfl (q_lw1 1 rfl (q_lw1 2 rfl (q_lw1 3 rfl (q_lw1 4 rfl q_lw0))))), (show F_NH_decimalBy_J52 x2 x3 x4 x5 t0_0 t0_1 t1_0 t1_1 t2_0 t3_0 t3_1 t4_0 t5_0 t5_1 t6_0 t7_0 t7_1 t8_0 t9_0 t9_1 t10_0 t10_1 t11_0 t12_0 t12_1 t13_0 t13_1 t14_0 lx63 0 = (F_NH_decimalBy x2 x3 x4 x5 t0_0 t0_1 t1_0 t1_1 t2_0 t3_0 t3_1 t4_0 t5_0 t5_1 t6_0 t7_0 t7_1 t8_0 t9_0 t9_1 t10_0 t10_1 t11_0 t12_0 t12_1 t13_0 t13_1 t14_0) from Eq.trans (by rw [F_NH_decimalBy_J51.eq_1]) hR600), (show True ∧ S_NH_decimalBy_J52 x2 x3 x4 x5 t0_0 t0_1 t1_0 t1_1 t2_0 t3_0 t3_1 t4_0 t5_0 t5_1 t6_0 t7_0 t7_1 t8_0 t9_0 t9_1 t10_0 t10_1 t11_0 t12_0 t12_1 t13_0 t13_1 t14_0 lx63 0 from (by have h := hS601; rw [S_NH_decimalBy_J51.eq_1] at h; with_reducible exact h))⟩
            ·
              intro J599
              refine lv_if_lt (tgt := 51) hx hb d_1_12_37 (by decide) (fun c605 => ?_) (fun c605 => ?_)
              ·
                exact J599 (()) _ _ _ ws ⟨V, q_lw hl (q_lw1 0 rfl (q_lw1 1 rfl (q_lw1 2 rfl (q_lw1 3 rfl (q_lw1 4 rfl q_lw0))))), (show F_NH_decimalBy_J51 x2 x3 x4 x5 t0_0 t0_1 t1_0 t1_1 t2_0 t3_0 t3_1 t4_0 t5_0 t5_1 t6_0 t7_0 t7_1 t8_0 t9_0 t9_1 t10_0 t10_1 t11_0 t12_0 t12_1 t13_0 t13_1 t14_0 lx63 = (F_NH_decimalBy x2 x3 x4 x5 t0_0 t0_1 t1_0 t1_1 t2_0 t3_0 t3_1 t4_0 t5_0 t5_1 t6_0 t7_0 t7_1 t8_0 t9_0 t9_1 t10_0 t10_1 t11_0 t12_0 t12_1 t13_0 t13_1 t14_0) from Eq.trans (by rw [F_NH_decimalBy_J29.eq_1, if_pos c93, if_pos c581, if_pos c605]) hR82), (show True ∧ S_NH_decimalBy_J51 x2 x3 x4 x5 t0_0 t0_1 t1_0 t1_1 t2_0 t3_0 t3_1 t4_0 t5_0 t5_1 t6_0 t7_0 t7_1 t8_0 t9_0 t9_1 t10_0 t10_1 t11_0 t12_0 t12_1 t13_0 t13_1 t14_0 lx63 from (by have h := hS83; rw [S_NH_decimalBy_J29.eq_1] at h; rw [if_pos c93] at h; rw [if_pos c581] at h; rw [if_pos c605] at h; with_reducible exact h))⟩
              ·
                refine lv_iload_n hx hb d_1_12_40 rfl (lv_at hl 3 rfl) ?_
                refine lv_sipush (v := 999) hx hb d_1_12_41 (by decide) ?_
                refine lv_icmp_gt (tgt := 51) hx hb d_1_12_44 (by decide) (fun c608 => ?_) (fun c608 => ?_)
                ·
                  exact J599 (()) _ _ _ ws ⟨V, q_lw hl (q_lw1 0 rfl (q_lw1 1 rfl (q_lw1 2 rfl (q_lw1 3 rfl (q_lw1 4 rfl q_lw0))))), (show F_NH_decimalBy_J51 x2 x3 x4 x5 t0_0 t0_1 t1_0 t1_1 t2_0 t3_0 t3_1 t4_0 t5_0 t5_1 t6_0 t7_0 t7_1 t8_0 t9_0 t9_1 t10_0 t10_1 t11_0 t12_0 t12_1 t13_0 t13_1 t14_0 lx63 = (F_NH_decimalBy x2 x3 x4 x5 t0_0 t0_1 t1_0 t1_1 t2_0 t3_0 t3_1 t4_0 t5_0 t5_1 t6_0 t7_0 t7_1 t8_0 t9_0 t9_1 t10_0 t10_1 t11_0 t12_0 t12_1 t13_0 t13_1 t14_0) from Eq.trans (by rw [F_NH_decimalBy_J29.eq_1, if_pos c93, if_pos c581, if_neg c605, if_pos c608]) hR82), (show True ∧ S_NH_decimalBy_J51 x2 x3 x4 x5 t0_0 t0_1 t1_0 t1_1 t2_0 t3_0 t3_1 t4_0 t5_0 t5_1 t6_0 t7_0 t7_1 t8_0 t9_0 t9_1 t10_0 t10_1 t11_0 t12_0 t12_1 t13_0 t13_1 t14_0 lx63 from (by have h := hS83; rw [S_NH_decimalBy_J29.eq_1] at h; rw [if_pos c93] at h; rw [if_pos c581] at h; rw [if_neg c605] at h; rw [if_pos c608] at h; with_reducible exact h))⟩
                ·
                  exact J575 (()) _ _ _ ws ⟨V, q_lw hl (q_lw1 0 rfl (q_lw1 1 rfl (q_lw1 2 rfl (q_lw1 3 rfl (q_lw1 4 rfl q_lw0))))), (show F_NH_decimalBy_J47 x2 x3 x4 x5 t0_0 t0_1 t1_0 t1_1 t2_0 t3_0 t3_1 t4_0 t5_0 t5_1 t6_0 t7_0 t7_1 t8_0 t9_0 t9_1 t10_0 t10_1 t11_0 t12_0 t12_1 t13_0 t13_1 t14_0 lx63 = (F_NH_decimalBy x2 x3 x4 x5 t0_0 t0_1 t1_0 t1_1 t2_0 t3_0 t3_1 t4_0 t5_0 t5_1 t6_0 t7_0 t7_1 t8_0 t9_0 t9_1 t10_0 t10_1 t11_0 t12_0 t12_1 t13_0 t13_1 t14_0) from Eq.trans (by rw [F_NH_decimalBy_J29.eq_1, if_pos c93, if_pos c581, if_neg c605, if_neg c608]) hR82), (show True ∧ S_NH_decimalBy_J47 x2 x3 x4 x5 t0_0 t0_1 t1_0 t1_1 t2_0 t3_0 t3_1 t4_0 t5_0 t5_1 t6_0 t7_0 t7_1 t8_0 t9_0 t9_1 t10_0 t10_1 t11_0 t12_0 t12_1 t13_0 t13_1 t14_0 lx63 from (by have h := hS83; rw [S_NH_decimalBy_J29.eq_1] at h; rw [if_pos c93] at h; rw [if_pos c581] at h; rw [if_neg c605] at h; rw [if_neg c608] at h; with_reducible exact h))⟩
  ·
    intro J79
    refine q_join (X := Unit) (fun z H locs ls _ => q_Wd D g (va_A ws sz) s ws H locs ∧ lv_has ls 5 [(0, .ref (q 0)), (1, .int x2), (2, .int x3), (3, .int x4), (4, .int x5)] ∧ F_NH_decimalBy_J28 x2 x3 x4 x5 t0_0 t0_1 t1_0 t1_1 t2_0 t3_0 t3_1 t4_0 t5_0 t5_1 t6_0 t7_0 t7_1 t8_0 t9_0 t9_1 t10_0 t10_1 t11_0 t12_0 t12_1 t13_0 t13_1 t14_0 = (F_NH_decimalBy x2 x3 x4 x5 t0_0 t0_1 t1_0 t1_1 t2_0 t3_0 t3_1 t4_0 t5_0 t5_1 t6_0 t7_0 t7_1 t8_0 t9_0 t9_1 t10_0 t10_1 t11_0 t12_0 t12_1 t13_0 t13_1 t14_0) ∧ True ∧ S_NH_decimalBy_J28 x2 x3 x4 x5 t0_0 t0_1 t1_0 t1_1 t2_0 t3_0 t3_1 t4_0 t5_0 t5_1 t6_0 t7_0 t7_1 t8_0 t9_0 t9_1 t10_0 t10_1 t11_0 t12_0 t12_1 t13_0 t13_1 t14_0) (fun z => []) 28 0 0 ?_ ?_
    ·
      rintro _ H locs ls _ ⟨V, hl, hR627, hS628⟩
      replace hl : lv_has ls 5 [(0, .ref (q 0)), (1, .int x2), (2, .int x3), (3, .int x4), (4, .int x5)] := hl
      refine lv_iconst (v := 0) hx hb d_1_12_28 (by decide) ?_
      exact J79 ((0 : Int32)) _ _ _ ws ⟨(show q_F (0 ≤ 0) from (show 0 ≤ 0 from by omega)), (show q_F (0 ≤ 1) from (show 0 ≤ 1 from by omega)), V, q_lw hl (q_lw1 0 rfl (q_lw1 1 rfl (q_lw1 2 rfl (q_lw1 3 rfl (q_lw1 4 rfl q_lw0))))), (show F_NH_decimalBy_J29 x2 x3 x4 x5 t0_0 t0_1 t1_0 t1_1 t2_0 t3_0 t3_1 t4_0 t5_0 t5_1 t6_0 t7_0 t7_1 t8_0 t9_0 t9_1 t10_0 t10_1 t11_0 t12_0 t12_1 t13_0 t13_1 t14_0 0 = (F_NH_decimalBy x2 x3 x4 x5 t0_0 t0_1 t1_0 t1_1 t2_0 t3_0 t3_1 t4_0 t5_0 t5_1 t6_0 t7_0 t7_1 t8_0 t9_0 t9_1 t10_0 t10_1 t11_0 t12_0 t12_1 t13_0 t13_1 t14_0) from Eq.trans (by rw [F_NH_decimalBy_J28.eq_1]) hR627), (show True ∧ S_NH_decimalBy_J29 x2 x3 x4 x5 t0_0 t0_1 t1_0 t1_1 t2_0 t3_0 t3_1 t4_0 t5_0 t5_1 t6_0 t7_0 t7_1 t8_0 t9_0 t9_1 t10_0 t10_1 t11_0 t12_0 t12_1 t13_0 t13_1 t14_0 0 from (by have h := hS628; rw [S_NH_decimalBy_J28.eq_1] at h; with_reducible exact h))⟩
    ·
      intro J626
      refine lv_if_lt (tgt := 28) hx hb d_1_12_1 (by decide) (fun c632 => ?_) (fun c632 => ?_)
      ·
        exact J626 (()) _ _ _ ws ⟨V, q_lw hl (q_lw1 0 rfl (q_lw1 1 rfl (q_lw1 2 rfl (q_lw1 3 rfl (q_lw1 4 rfl q_lw0))))), (show F_NH_decimalBy_J28 x2 x3 x4 x5 t0_0 t0_1 t1_0 t1_1 t2_0 t3_0 t3_1 t4_0 t5_0 t5_1 t6_0 t7_0 t7_1 t8_0 t9_0 t9_1 t10_0 t10_1 t11_0 t12_0 t12_1 t13_0 t13_1 t14_0 = (F_NH_decimalBy x2 x3 x4 x5 t0_0 t0_1 t1_0 t1_1 t2_0 t3_0 t3_1 t4_0 t5_0 t5_1 t6_0 t7_0 t7_1 t8_0 t9_0 t9_1 t10_0 t10_1 t11_0 t12_0 t12_1 t13_0 t13_1 t14_0) from (by rw [F_NH_decimalBy.eq_1, if_pos c632])), (show True ∧ S_NH_decimalBy_J28 x2 x3 x4 x5 t0_0 t0_1 t1_0 t1_1 t2_0 t3_0 t3_1 t4_0 t5_0 t5_1 t6_0 t7_0 t7_1 t8_0 t9_0 t9_1 t10_0 t10_1 t11_0 t12_0 t12_1 t13_0 t13_1 t14_0 from (by have h := hS; rw [S_NH_decimalBy.eq_1] at h; rw [if_pos c632] at h; with_reducible exact h))⟩
      ·
        refine lv_iload_n hx hb d_1_12_4 rfl (lv_at hl 1 rfl) ?_
        refine lv_iconst (v := 2) hx hb d_1_12_5 (by decide) ?_
        refine lv_icmp_gt (tgt := 28) hx hb d_1_12_6 (by decide) (fun c635 => ?_) (fun c635 => ?_)
        ·
          exact J626 (()) _ _ _ ws ⟨V, q_lw hl (q_lw1 0 rfl (q_lw1 1 rfl (q_lw1 2 rfl (q_lw1 3 rfl (q_lw1 4 rfl q_lw0))))), (show F_NH_decimalBy_J28 x2 x3 x4 x5 t0_0 t0_1 t1_0 t1_1 t2_0 t3_0 t3_1 t4_0 t5_0 t5_1 t6_0 t7_0 t7_1 t8_0 t9_0 t9_1 t10_0 t10_1 t11_0 t12_0 t12_1 t13_0 t13_1 t14_0 = (F_NH_decimalBy x2 x3 x4 x5 t0_0 t0_1 t1_0 t1_1 t2_0 t3_0 t3_1 t4_0 t5_0 t5_1 t6_0 t7_0 t7_1 t8_0 t9_0 t9_1 t10_0 t10_1 t11_0 t12_0 t12_1 t13_0 t13_1 t14_0) from (by rw [F_NH_decimalBy.eq_1, if_neg c632, if_pos c635])), (show True ∧ S_NH_decimalBy_J28 x2 x3 x4 x5 t0_0 t0_1 t1_0 t1_1 t2_0 t3_0 t3_1 t4_0 t5_0 t5_1 t6_0 t7_0 t7_1 t8_0 t9_0 t9_1 t10_0 t10_1 t11_0 t12_0 t12_1 t13_0 t13_1 t14_0 from (by have h := hS; rw [S_NH_decimalBy.eq_1] at h; rw [if_neg c632] at h; rw [if_pos c635] at h; with_reducible exact h))⟩
        ·
          refine lv_iload_n hx hb d_1_12_9 rfl (lv_at hl 2 rfl) ?_
          refine q_goi V (q_runS (As := [.int x3]) (rest := []) (d := 1) (mc := 0) (ms := 0) C0 V rfl LS_NH_212 (X_NH_isRegister l D g q ws  x3 hI   _) rfl hl.1 rfl (Nat.le_of_ble_eq_true rfl) ⟨by decide, by decide⟩ ⟨Nat.le_of_ble_eq_true rfl, Nat.le_of_ble_eq_true rfl⟩ d_1_12_10) (fun a640 u638 H locs hp639 V => ?_)
          obtain ⟨rfl, b641, b642, hE643⟩ := hp639
          have e644 : a640 = (F_NH_isRegister x3) := hE643
          clear b641
          clear b642
          refine lv_if_eq (tgt := 28) hx hb d_1_12_13 (by decide) (fun c645 => ?_) (fun c645 => ?_)
          ·
            exact J626 (()) _ _ _ ws ⟨V, q_lw hl (q_lw1 0 rfl (q_lw1 1 rfl (q_lw1 2 rfl (q_lw1 3 rfl (q_lw1 4 rfl q_lw0))))), (show F_NH_decimalBy_J28 x2 x3 x4 x5 t0_0 t0_1 t1_0 t1_1 t2_0 t3_0 t3_1 t4_0 t5_0 t5_1 t6_0 t7_0 t7_1 t8_0 t9_0 t9_1 t10_0 t10_1 t11_0 t12_0 t12_1 t13_0 t13_1 t14_0 = (F_NH_decimalBy x2 x3 x4 x5 t0_0 t0_1 t1_0 t1_1 t2_0 t3_0 t3_1 t4_0 t5_0 t5_1 t6_0 t7_0 t7_1 t8_0 t9_0 t9_1 t10_0 t10_1 t11_0 t12_0 t12_1 t13_0 t13_1 t14_0) from (by have c645x := c645; rw [e644] at c645x; rw [F_NH_decimalBy.eq_1, if_neg c632, if_neg c635, if_pos c645x])), (show True ∧ S_NH_decimalBy_J28 x2 x3 x4 x5 t0_0 t0_1 t1_0 t1_1 t2_0 t3_0 t3_1 t4_0 t5_0 t5_1 t6_0 t7_0 t7_1 t8_0 t9_0 t9_1 t10_0 t10_1 t11_0 t12_0 t12_1 t13_0 t13_1 t14_0 from (by have h := hS; rw [S_NH_decimalBy.eq_1] at h; rw [if_neg c632] at h; rw [if_neg c635] at h; have c645x := c645; rw [e644] at c645x; rw [if_pos c645x] at h; with_reducible exact h))⟩
          ·
            refine lv_iload hx hb d_1_12_16 (lv_at hl 4 rfl) ?_
            refine q_goi V (q_runS (As := [.int x5]) (rest := []) (d := 1) (mc := 0) (ms := 0) C0 V rfl LS_NH_212 (X_NH_isRegister l D g q ws  x5 hI   _) rfl hl.1 rfl (Nat.le_of_ble_eq_true rfl) ⟨by decide, by decide⟩ ⟨Nat.le_of_ble_eq_true rfl, Nat.le_of_ble_eq_true rfl⟩ d_1_12_18) (fun a650 u648 H locs hp649 V => ?_)
            obtain ⟨rfl, b651, b652, hE653⟩ := hp649
            have e654 : a650 = (F_NH_isRegister x5) := hE653
            clear b651
            clear b652
            refine lv_if_eq (tgt := 28) hx hb d_1_12_21 (by decide) (fun c655 => ?_) (fun c655 => ?_)
            ·
              exact J626 (()) _ _ _ ws ⟨V, q_lw hl (q_lw1 0 rfl (q_lw1 1 rfl (q_lw1 2 rfl (q_lw1 3 rfl (q_lw1 4 rfl q_lw0))))), (show F_NH_decimalBy_J28 x2 x3 x4 x5 t0_0 t0_1 t1_0 t1_1 t2_0 t3_0 t3_1 t4_0 t5_0 t5_1 t6_0 t7_0 t7_1 t8_0 t9_0 t9_1 t10_0 t10_1 t11_0 t12_0 t12_1 t13_0 t13_1 t14_0 = (F_NH_decimalBy x2 x3 x4 x5 t0_0 t0_1 t1_0 t1_1 t2_0 t3_0 t3_1 t4_0 t5_0 t5_1 t6_0 t7_0 t7_1 t8_0 t9_0 t9_1 t10_0 t10_1 t11_0 t12_0 t12_1 t13_0 t13_1 t14_0) from (by have c645x := c645; rw [e644] at c645x; have c655x := c655; rw [e654] at c655x; rw [F_NH_decimalBy.eq_1, if_neg c632, if_neg c635, if_neg c645x, if_pos c655x])), (show True ∧ S_NH_decimalBy_J28 x2 x3 x4 x5 t0_0 t0_1 t1_0 t1_1 t2_0 t3_0 t3_1 t4_0 t5_0 t5_1 t6_0 t7_0 t7_1 t8_0 t9_0 t9_1 t10_0 t10_1 t11_0 t12_0 t12_1 t13_0 t13_1 t14_0 from (by have h := hS; rw [S_NH_decimalBy.eq_1] at h; rw [if_neg c632] at h; rw [if_neg c635] at h; have c645x := c645; rw [e644] at c645x; rw [if_neg c645x] at h; have c655x := c655; rw [e654] at c655x; rw [if_pos c655x] at h; with_reducible exact h))⟩
            ·
              refine lv_iconst (v := 1) hx hb d_1_12_24 (by decide) ?_
              refine lv_goto (tgt := 29) hx hb d_1_12_25 (by decide) ?_
              exact J79 ((1 : Int32)) _ _ _ ws ⟨(show q_F (0 ≤ 1) from (show 0 ≤ 1 from by omega)), (show q_F (1 ≤ 1) from (show 1 ≤ 1 from by omega)), V, q_lw hl (q_lw1 0 rfl (q_lw1 1 rfl (q_lw1 2 rfl (q_lw1 3 rfl (q_lw1 4 rfl q_lw0))))), (show F_NH_decimalBy_J29 x2 x3 x4 x5 t0_0 t0_1 t1_0 t1_1 t2_0 t3_0 t3_1 t4_0 t5_0 t5_1 t6_0 t7_0 t7_1 t8_0 t9_0 t9_1 t10_0 t10_1 t11_0 t12_0 t12_1 t13_0 t13_1 t14_0 1 = (F_NH_decimalBy x2 x3 x4 x5 t0_0 t0_1 t1_0 t1_1 t2_0 t3_0 t3_1 t4_0 t5_0 t5_1 t6_0 t7_0 t7_1 t8_0 t9_0 t9_1 t10_0 t10_1 t11_0 t12_0 t12_1 t13_0 t13_1 t14_0) from (by have c645x := c645; rw [e644] at c645x; have c655x := c655; rw [e654] at c655x; rw [F_NH_decimalBy.eq_1, if_neg c632, if_neg c635, if_neg c645x, if_neg c655x])), (show True ∧ S_NH_decimalBy_J29 x2 x3 x4 x5 t0_0 t0_1 t1_0 t1_1 t2_0 t3_0 t3_1 t4_0 t5_0 t5_1 t6_0 t7_0 t7_1 t8_0 t9_0 t9_1 t10_0 t10_1 t11_0 t12_0 t12_1 t13_0 t13_1 t14_0 1 from (by have h := hS; rw [S_NH_decimalBy.eq_1] at h; rw [if_neg c632] at h; rw [if_neg c635] at h; have c645x := c645; rw [e644] at c645x; rw [if_neg c645x] at h; have c655x := c655; rw [e654] at c655x; rw [if_neg c655x] at h; with_reducible exact h))⟩

/-! NumberHouse, exactly: la.divide -/
theorem d_1_13_0 : decode prog_1_method_13_code 0 = .ok (.iload_n 1, 1) := by decide +kernel
theorem d_1_13_1 : decode prog_1_method_13_code 1 = .ok (.invokestatic 212, 3) := by decide +kernel
theorem d_1_13_42 : decode prog_1_method_13_code 42 = .ok (.invokestatic 104, 3) := by decide +kernel
theorem d_1_13_45 : decode prog_1_method_13_code 45 = .ok (.aload_n 0, 1) := by decide +kernel
theorem d_1_13_46 : decode prog_1_method_13_code 46 = .ok (.getfield 29, 3) := by decide +kernel
theorem d_1_13_49 : decode prog_1_method_13_code 49 = .ok (.iload_n 2, 1) := by decide +kernel
theorem d_1_13_50 : decode prog_1_method_13_code 50 = .ok (.aaload, 1) := by decide +kernel
theorem d_1_13_51 : decode prog_1_method_13_code 51 = .ok (.getfield 277, 3) := by decide +kernel
theorem d_1_13_54 : decode prog_1_method_13_code 54 = .ok (.getfield 220, 3) := by decide +kernel
theorem d_1_13_65 : decode prog_1_method_13_code 65 = .ok (.invokestatic 138, 3) := by decide +kernel
theorem d_1_13_68 : decode prog_1_method_13_code 68 = .ok (.aload_n 0, 1) := by decide +kernel
theorem d_1_13_69 : decode prog_1_method_13_code 69 = .ok (.getfield 52, 3) := by decide +kernel
theorem d_1_13_72 : decode prog_1_method_13_code 72 = .ok (.aload_n 0, 1) := by decide +kernel
theorem d_1_13_73 : decode prog_1_method_13_code 73 = .ok (.getfield 29, 3) := by decide +kernel
theorem d_1_13_76 : decode prog_1_method_13_code 76 = .ok (.iload_n 1, 1) := by decide +kernel
theorem d_1_13_77 : decode prog_1_method_13_code 77 = .ok (.aaload, 1) := by decide +kernel
theorem d_1_13_78 : decode prog_1_method_13_code 78 = .ok (.aload_n 0, 1) := by decide +kernel
theorem d_1_13_79 : decode prog_1_method_13_code 79 = .ok (.getfield 29, 3) := by decide +kernel
theorem d_1_13_82 : decode prog_1_method_13_code 82 = .ok (.iload_n 2, 1) := by decide +kernel
theorem d_1_13_83 : decode prog_1_method_13_code 83 = .ok (.aaload, 1) := by decide +kernel
theorem d_1_13_84 : decode prog_1_method_13_code 84 = .ok (.iload 4, 2) := by decide +kernel
theorem d_1_13_86 : decode prog_1_method_13_code 86 = .ok (.iload 5, 2) := by decide +kernel
theorem d_1_13_88 : decode prog_1_method_13_code 88 = .ok (.invokevirtual 302, 3) := by decide +kernel
set_option maxRecDepth 100000 in
theorem w_1437 : (Cond.code ({ cls := "NumberHouse$DecimalWork", name := "divideToScale", desc := "(LNumberHouse$Dec;LNumberHouse$Dec;II)Z" } : MethodName) prog_4_method_11_code (6 : Nat) (some .boolean)) ∈ q_tbl := q_of6 237 rfl (by decide +kernel)
set_option maxRecDepth 100000 in
theorem w_1434 : (Cond.methodLink "NumberHouse" (302 : Nat) ({ cls := "NumberHouse$DecimalWork", name := "divideToScale", desc := "(LNumberHouse$Dec;LNumberHouse$Dec;II)Z" } : MethodName)) ∈ q_tbl := q_of6 234 rfl (by decide +kernel)
set_option maxRecDepth 100000 in
theorem w_1435 : (Cond.instanceMethod ({ cls := "NumberHouse$DecimalWork", name := "divideToScale", desc := "(LNumberHouse$Dec;LNumberHouse$Dec;II)Z" } : MethodName)) ∈ q_tbl := q_of6 235 rfl (by decide +kernel)
set_option maxRecDepth 100000 in
theorem w_1436 : (Cond.selects "NumberHouse$DecimalWork" ({ cls := "NumberHouse$DecimalWork", name := "divideToScale", desc := "(LNumberHouse$Dec;LNumberHouse$Dec;II)Z" } : MethodName) ({ cls := "NumberHouse$DecimalWork", name := "divideToScale", desc := "(LNumberHouse$Dec;LNumberHouse$Dec;II)Z" } : MethodName)) ∈ q_tbl := q_of6 236 rfl (by decide +kernel)
theorem LV_NH_302 : q_LV "NumberHouse" 302 y_DW_divideToScale prog_4_method_11_code 6 (some .boolean) 4 := ⟨w_1437, w_5, w_1434, w_1435, w_1436, ⟨by decide, by decide, by decide +kernel⟩⟩
theorem d_1_13_91 : decode prog_1_method_13_code 91 = .ok (.invokestatic 138, 3) := by decide +kernel
theorem d_1_13_94 : decode prog_1_method_13_code 94 = .ok (.aload_n 0, 1) := by decide +kernel
theorem d_1_13_95 : decode prog_1_method_13_code 95 = .ok (.iload_n 3, 1) := by decide +kernel
theorem d_1_13_96 : decode prog_1_method_13_code 96 = .ok (.invokevirtual 281, 3) := by decide +kernel
theorem d_1_13_99 : decode prog_1_method_13_code 99 = .ok (.return_, 1) := by decide +kernel
theorem d_1_13_57 : decode prog_1_method_13_code 57 = .ok (.ifCond .le 7, 3) := by decide +kernel
theorem d_1_13_64 : decode prog_1_method_13_code 64 = .ok (.iconst 0, 1) := by decide +kernel
theorem d_1_13_60 : decode prog_1_method_13_code 60 = .ok (.iconst 1, 1) := by decide +kernel
theorem d_1_13_61 : decode prog_1_method_13_code 61 = .ok (.goto 4, 3) := by decide +kernel
theorem d_1_13_41 : decode prog_1_method_13_code 41 = .ok (.iconst 0, 1) := by decide +kernel
theorem d_1_13_4 : decode prog_1_method_13_code 4 = .ok (.ifCond .eq 37, 3) := by decide +kernel
theorem d_1_13_7 : decode prog_1_method_13_code 7 = .ok (.iload_n 2, 1) := by decide +kernel
theorem d_1_13_8 : decode prog_1_method_13_code 8 = .ok (.invokestatic 212, 3) := by decide +kernel
theorem d_1_13_11 : decode prog_1_method_13_code 11 = .ok (.ifCond .eq 30, 3) := by decide +kernel
theorem d_1_13_14 : decode prog_1_method_13_code 14 = .ok (.iload_n 3, 1) := by decide +kernel
theorem d_1_13_15 : decode prog_1_method_13_code 15 = .ok (.invokestatic 212, 3) := by decide +kernel
theorem d_1_13_18 : decode prog_1_method_13_code 18 = .ok (.ifCond .eq 23, 3) := by decide +kernel
theorem d_1_13_21 : decode prog_1_method_13_code 21 = .ok (.iload 5, 2) := by decide +kernel
theorem d_1_13_23 : decode prog_1_method_13_code 23 = .ok (.invokestatic 296, 3) := by decide +kernel
set_option maxRecDepth 100000 in
theorem w_1430 : (Cond.code ({ cls := "NumberHouse", name := "isMode", desc := "(I)Z" } : MethodName) prog_1_method_33_code (1 : Nat) (some .boolean)) ∈ q_tbl := q_of6 230 rfl (by decide +kernel)
set_option maxRecDepth 100000 in
theorem w_1428 : (Cond.methodLink "NumberHouse" (296 : Nat) ({ cls := "NumberHouse", name := "isMode", desc := "(I)Z" } : MethodName)) ∈ q_tbl := q_of6 228 rfl (by decide +kernel)
set_option maxRecDepth 100000 in
theorem w_1429 : (Cond.static ({ cls := "NumberHouse", name := "isMode", desc := "(I)Z" } : MethodName)) ∈ q_tbl := q_of6 229 rfl (by decide +kernel)
theorem LS_NH_296 : q_LS "NumberHouse" 296 y_NH_isMode prog_1_method_33_code 1 (some .boolean) 1 := ⟨w_1430, w_1, w_1428, w_1429, ⟨by decide, by decide, by decide +kernel⟩⟩
theorem d_1_13_26 : decode prog_1_method_13_code 26 = .ok (.ifCond .eq 15, 3) := by decide +kernel
theorem d_1_13_29 : decode prog_1_method_13_code 29 = .ok (.iload 4, 2) := by decide +kernel
theorem d_1_13_31 : decode prog_1_method_13_code 31 = .ok (.invokestatic 299, 3) := by decide +kernel
set_option maxRecDepth 100000 in
theorem w_1433 : (Cond.code ({ cls := "NumberHouse", name := "isScale", desc := "(I)Z" } : MethodName) prog_1_method_34_code (1 : Nat) (some .boolean)) ∈ q_tbl := q_of6 233 rfl (by decide +kernel)
set_option maxRecDepth 100000 in
theorem w_1431 : (Cond.methodLink "NumberHouse" (299 : Nat) ({ cls := "NumberHouse", name := "isScale", desc := "(I)Z" } : MethodName)) ∈ q_tbl := q_of6 231 rfl (by decide +kernel)
set_option maxRecDepth 100000 in
theorem w_1432 : (Cond.static ({ cls := "NumberHouse", name := "isScale", desc := "(I)Z" } : MethodName)) ∈ q_tbl := q_of6 232 rfl (by decide +kernel)
theorem LS_NH_299 : q_LS "NumberHouse" 299 y_NH_isScale prog_1_method_34_code 1 (some .boolean) 1 := ⟨w_1433, w_1, w_1431, w_1432, ⟨by decide, by decide, by decide +kernel⟩⟩
theorem d_1_13_34 : decode prog_1_method_13_code 34 = .ok (.ifCond .eq 7, 3) := by decide +kernel
theorem d_1_13_37 : decode prog_1_method_13_code 37 = .ok (.iconst 1, 1) := by decide +kernel
theorem d_1_13_38 : decode prog_1_method_13_code 38 = .ok (.goto 4, 3) := by decide +kernel
def y_NH_divide : MethodName := ⟨"NumberHouse", "divide", "(IIIII)V"⟩
def F_NH_divide_c96 (x2 : Int32) (x3 : Int32) (x4 : Int32) (x5 : Int32) (x6 : Int32) (t0_0 : Int64) (t0_1 : Int32) (t1_0 : Int32) (t1_1 : Int32) (t2_0 : (Nat → Int32)) (t3_0 : Int32) (t3_1 : Int32) (t4_0 : (Nat → Int32)) (t5_0 : Int32) (t5_1 : Int32) (t6_0 : (Nat → Int32)) (t7_0 : Int32) (t7_1 : Int32) (t8_0 : (Nat → Int32)) (t9_0 : Int32) (t9_1 : Int32) (t10_0 : Int32) (t10_1 : Int32) (t11_0 : (Nat → Int32)) (t12_0 : Int32) (t12_1 : Int32) (t13_0 : Int32) (t13_1 : Int32) (t14_0 : (Nat → Int32)) (t15_0 : Int32) (t15_1 : Int32) (t16_0 : Int32) (t16_1 : Int32) (t17_0 : (Nat → Int32)) (lx83 : Int32) (lx125 : Int32) (p226 : (Int32 × Int64 × Int32 × Int32 × Int32 × (Nat → Int32) × Int32 × Int32 × (Nat → Int32) × Int32 × Int32 × (Nat → Int32) × Int32 × Int32 × (Nat → Int32))) (y174 : Int64) (y175 : Int32) (y177 : Int32) (y178 : Int32) (f179 : (Nat → Int32)) (y182 : Int32) (y183 : Int32) (f184 : (Nat → Int32)) (y187 : Int32) (y188 : Int32) (f189 : (Nat → Int32)) (y192 : Int32) (y193 : Int32) (f194 : (Nat → Int32)) (p278 : (Int32 × Int32 × Int32 × (Nat → Int32) × Int32 × Int32 × Int32 × Int32 × (Nat → Int32))) : Int32 × Int64 × Int32 × Int32 × Int32 × (Nat → Int32) × Int32 × Int32 × (Nat → Int32) × Int32 × Int32 × (Nat → Int32) × Int32 × Int32 × (Nat → Int32) × Int32 × Int32 × (Nat → Int32) × Int32 × Int32 × Int32 × Int32 × (Nat → Int32) := if p278.1 = (0 : Int32) then (((0 : Int32), y174, y175, y177, y178, f179, y182, y183, f184, y187, y188, f189, (p278.2.1 : Int32), (p278.2.2.1 : Int32), (p278.2.2.2.1 : (Nat → Int32)), y192, y193, f194, (p278.2.2.2.2.1 : Int32), (p278.2.2.2.2.2.1 : Int32), (p278.2.2.2.2.2.2.1 : Int32), (p278.2.2.2.2.2.2.2.1 : Int32), (p278.2.2.2.2.2.2.2.2 : (Nat → Int32)))) else ((p278.1, y174, y175, y177, y178, f179, y182, y183, f184, y187, y188, f189, (p278.2.1 : Int32), (p278.2.2.1 : Int32), (p278.2.2.2.1 : (Nat → Int32)), y192, y193, f194, (p278.2.2.2.2.1 : Int32), (p278.2.2.2.2.2.1 : Int32), (p278.2.2.2.2.2.2.1 : Int32), (p278.2.2.2.2.2.2.2.1 : Int32), (p278.2.2.2.2.2.2.2.2 : (Nat → Int32))))
def F_NH_divide_c88 (x2 : Int32) (x3 : Int32) (x4 : Int32) (x5 : Int32) (x6 : Int32) (t0_0 : Int64) (t0_1 : Int32) (t1_0 : Int32) (t1_1 : Int32) (t2_0 : (Nat → Int32)) (t3_0 : Int32) (t3_1 : Int32) (t4_0 : (Nat → Int32)) (t5_0 : Int32) (t5_1 : Int32) (t6_0 : (Nat → Int32)) (t7_0 : Int32) (t7_1 : Int32) (t8_0 : (Nat → Int32)) (t9_0 : Int32) (t9_1 : Int32) (t10_0 : Int32) (t10_1 : Int32) (t11_0 : (Nat → Int32)) (t12_0 : Int32) (t12_1 : Int32) (t13_0 : Int32) (t13_1 : Int32) (t14_0 : (Nat → Int32)) (t15_0 : Int32) (t15_1 : Int32) (t16_0 : Int32) (t16_1 : Int32) (t17_0 : (Nat → Int32)) (lx83 : Int32) (lx125 : Int32) (p226 : (Int32 × Int64 × Int32 × Int32 × Int32 × (Nat → Int32) × Int32 × Int32 × (Nat → Int32) × Int32 × Int32 × (Nat → Int32) × Int32 × Int32 × (Nat → Int32))) : Int32 × Int64 × Int32 × Int32 × Int32 × (Nat → Int32) × Int32 × Int32 × (Nat → Int32) × Int32 × Int32 × (Nat → Int32) × Int32 × Int32 × (Nat → Int32) × Int32 × Int32 × (Nat → Int32) × Int32 × Int32 × Int32 × Int32 × (Nat → Int32) := if (F_NH_canHave (p226.1 : Int32)) = (0 : Int32) then (F_NH_divide_c96 x2 x3 x4 x5 x6 t0_0 t0_1 t1_0 t1_1 t2_0 t3_0 t3_1 t4_0 t5_0 t5_1 t6_0 t7_0 t7_1 t8_0 t9_0 t9_1 t10_0 t10_1 t11_0 t12_0 t12_1 t13_0 t13_1 t14_0 t15_0 t15_1 t16_0 t16_1 t17_0 lx83 lx125 p226 (p226.2.1 : Int64) (p226.2.2.1 : Int32) (p226.2.2.2.1 : Int32) (p226.2.2.2.2.1 : Int32) (p226.2.2.2.2.2.1 : (Nat → Int32)) (p226.2.2.2.2.2.2.1 : Int32) (p226.2.2.2.2.2.2.2.1 : Int32) (p226.2.2.2.2.2.2.2.2.1 : (Nat → Int32)) (p226.2.2.2.2.2.2.2.2.2.1 : Int32) (p226.2.2.2.2.2.2.2.2.2.2.1 : Int32) (p226.2.2.2.2.2.2.2.2.2.2.2.1 : (Nat → Int32)) (p226.2.2.2.2.2.2.2.2.2.2.2.2.1 : Int32) (p226.2.2.2.2.2.2.2.2.2.2.2.2.2.1 : Int32) (p226.2.2.2.2.2.2.2.2.2.2.2.2.2.2 : (Nat → Int32)) ((F_NH_keepDecimal x4 (p226.2.1 : Int64) (p226.2.2.1 : Int32) (p226.2.2.2.1 : Int32) (p226.2.2.2.2.1 : Int32) (p226.2.2.2.2.2.1 : (Nat → Int32)) t7_0 t7_1 t8_0 t15_0 t15_1 t16_0 t16_1 t17_0) : (Int32 × Int32 × Int32 × (Nat → Int32) × Int32 × Int32 × Int32 × Int32 × (Nat → Int32)))) else (((F_NH_canHave (p226.1 : Int32)), (p226.2.1 : Int64), (p226.2.2.1 : Int32), (p226.2.2.2.1 : Int32), (p226.2.2.2.2.1 : Int32), (p226.2.2.2.2.2.1 : (Nat → Int32)), (p226.2.2.2.2.2.2.1 : Int32), (p226.2.2.2.2.2.2.2.1 : Int32), (p226.2.2.2.2.2.2.2.2.1 : (Nat → Int32)), (p226.2.2.2.2.2.2.2.2.2.1 : Int32), (p226.2.2.2.2.2.2.2.2.2.2.1 : Int32), (p226.2.2.2.2.2.2.2.2.2.2.2.1 : (Nat → Int32)), t7_0, t7_1, t8_0, (p226.2.2.2.2.2.2.2.2.2.2.2.2.1 : Int32), (p226.2.2.2.2.2.2.2.2.2.2.2.2.2.1 : Int32), (p226.2.2.2.2.2.2.2.2.2.2.2.2.2.2 : (Nat → Int32)), t15_0, t15_1, t16_0, t16_1, t17_0))
def F_NH_divide_J65 (x2 : Int32) (x3 : Int32) (x4 : Int32) (x5 : Int32) (x6 : Int32) (t0_0 : Int64) (t0_1 : Int32) (t1_0 : Int32) (t1_1 : Int32) (t2_0 : (Nat → Int32)) (t3_0 : Int32) (t3_1 : Int32) (t4_0 : (Nat → Int32)) (t5_0 : Int32) (t5_1 : Int32) (t6_0 : (Nat → Int32)) (t7_0 : Int32) (t7_1 : Int32) (t8_0 : (Nat → Int32)) (t9_0 : Int32) (t9_1 : Int32) (t10_0 : Int32) (t10_1 : Int32) (t11_0 : (Nat → Int32)) (t12_0 : Int32) (t12_1 : Int32) (t13_0 : Int32) (t13_1 : Int32) (t14_0 : (Nat → Int32)) (t15_0 : Int32) (t15_1 : Int32) (t16_0 : Int32) (t16_1 : Int32) (t17_0 : (Nat → Int32)) (lx83 : Int32) (lx125 : Int32) : Int32 × Int64 × Int32 × Int32 × Int32 × (Nat → Int32) × Int32 × Int32 × (Nat → Int32) × Int32 × Int32 × (Nat → Int32) × Int32 × Int32 × (Nat → Int32) × Int32 × Int32 × (Nat → Int32) × Int32 × Int32 × Int32 × Int32 × (Nat → Int32) := if (F_NH_canHave lx125) = (0 : Int32) then (F_NH_divide_c88 x2 x3 x4 x5 x6 t0_0 t0_1 t1_0 t1_1 t2_0 t3_0 t3_1 t4_0 t5_0 t5_1 t6_0 t7_0 t7_1 t8_0 t9_0 t9_1 t10_0 t10_1 t11_0 t12_0 t12_1 t13_0 t13_1 t14_0 t15_0 t15_1 t16_0 t16_1 t17_0 lx83 lx125 ((F_DW_divideToScale (108 : Int32) (108 : Int32) x5 x6 t0_0 t0_1 t1_0 t1_1 t2_0 t3_0 t3_1 t4_0 t5_0 t5_1 t6_0 t9_0 t9_1 t10_0 t10_1 t11_0 t12_0 t12_1 t13_0 t13_1 t14_0) : (Int32 × Int64 × Int32 × Int32 × Int32 × (Nat → Int32) × Int32 × Int32 × (Nat → Int32) × Int32 × Int32 × (Nat → Int32) × Int32 × Int32 × (Nat → Int32)))) else (((F_NH_canHave lx125), t0_0, t0_1, t1_0, t1_1, t2_0, t3_0, t3_1, t4_0, t5_0, t5_1, t6_0, t7_0, t7_1, t8_0, t13_0, t13_1, t14_0, t15_0, t15_1, t16_0, t16_1, t17_0))
def F_NH_divide_J42 (x2 : Int32) (x3 : Int32) (x4 : Int32) (x5 : Int32) (x6 : Int32) (t0_0 : Int64) (t0_1 : Int32) (t1_0 : Int32) (t1_1 : Int32) (t2_0 : (Nat → Int32)) (t3_0 : Int32) (t3_1 : Int32) (t4_0 : (Nat → Int32)) (t5_0 : Int32) (t5_1 : Int32) (t6_0 : (Nat → Int32)) (t7_0 : Int32) (t7_1 : Int32) (t8_0 : (Nat → Int32)) (t9_0 : Int32) (t9_1 : Int32) (t10_0 : Int32) (t10_1 : Int32) (t11_0 : (Nat → Int32)) (t12_0 : Int32) (t12_1 : Int32) (t13_0 : Int32) (t13_1 : Int32) (t14_0 : (Nat → Int32)) (t15_0 : Int32) (t15_1 : Int32) (t16_0 : Int32) (t16_1 : Int32) (t17_0 : (Nat → Int32)) (lx83 : Int32) : Int32 × Int64 × Int32 × Int32 × Int32 × (Nat → Int32) × Int32 × Int32 × (Nat → Int32) × Int32 × Int32 × (Nat → Int32) × Int32 × Int32 × (Nat → Int32) × Int32 × Int32 × (Nat → Int32) × Int32 × Int32 × Int32 × Int32 × (Nat → Int32) := if (F_NH_need lx83) = (0 : Int32) then (if t13_0 ≤ (0 : Int32) then (F_NH_divide_J65 x2 x3 x4 x5 x6 t0_0 t0_1 t1_0 t1_1 t2_0 t3_0 t3_1 t4_0 t5_0 t5_1 t6_0 t7_0 t7_1 t8_0 t9_0 t9_1 t10_0 t10_1 t11_0 t12_0 t12_1 t13_0 t13_1 t14_0 t15_0 t15_1 t16_0 t16_1 t17_0 lx83 0) else (F_NH_divide_J65 x2 x3 x4 x5 x6 t0_0 t0_1 t1_0 t1_1 t2_0 t3_0 t3_1 t4_0 t5_0 t5_1 t6_0 t7_0 t7_1 t8_0 t9_0 t9_1 t10_0 t10_1 t11_0 t12_0 t12_1 t13_0 t13_1 t14_0 t15_0 t15_1 t16_0 t16_1 t17_0 lx83 1)) else (((F_NH_need lx83), t0_0, t0_1, t1_0, t1_1, t2_0, t3_0, t3_1, t4_0, t5_0, t5_1, t6_0, t7_0, t7_1, t8_0, t13_0, t13_1, t14_0, t15_0, t15_1, t16_0, t16_1, t17_0))
def F_NH_divide_J41 (x2 : Int32) (x3 : Int32) (x4 : Int32) (x5 : Int32) (x6 : Int32) (t0_0 : Int64) (t0_1 : Int32) (t1_0 : Int32) (t1_1 : Int32) (t2_0 : (Nat → Int32)) (t3_0 : Int32) (t3_1 : Int32) (t4_0 : (Nat → Int32)) (t5_0 : Int32) (t5_1 : Int32) (t6_0 : (Nat → Int32)) (t7_0 : Int32) (t7_1 : Int32) (t8_0 : (Nat → Int32)) (t9_0 : Int32) (t9_1 : Int32) (t10_0 : Int32) (t10_1 : Int32) (t11_0 : (Nat → Int32)) (t12_0 : Int32) (t12_1 : Int32) (t13_0 : Int32) (t13_1 : Int32) (t14_0 : (Nat → Int32)) (t15_0 : Int32) (t15_1 : Int32) (t16_0 : Int32) (t16_1 : Int32) (t17_0 : (Nat → Int32)) : Int32 × Int64 × Int32 × Int32 × Int32 × (Nat → Int32) × Int32 × Int32 × (Nat → Int32) × Int32 × Int32 × (Nat → Int32) × Int32 × Int32 × (Nat → Int32) × Int32 × Int32 × (Nat → Int32) × Int32 × Int32 × Int32 × Int32 × (Nat → Int32) := F_NH_divide_J42 x2 x3 x4 x5 x6 t0_0 t0_1 t1_0 t1_1 t2_0 t3_0 t3_1 t4_0 t5_0 t5_1 t6_0 t7_0 t7_1 t8_0 t9_0 t9_1 t10_0 t10_1 t11_0 t12_0 t12_1 t13_0 t13_1 t14_0 t15_0 t15_1 t16_0 t16_1 t17_0 0
def F_NH_divide (x2 : Int32) (x3 : Int32) (x4 : Int32) (x5 : Int32) (x6 : Int32) (t0_0 : Int64) (t0_1 : Int32) (t1_0 : Int32) (t1_1 : Int32) (t2_0 : (Nat → Int32)) (t3_0 : Int32) (t3_1 : Int32) (t4_0 : (Nat → Int32)) (t5_0 : Int32) (t5_1 : Int32) (t6_0 : (Nat → Int32)) (t7_0 : Int32) (t7_1 : Int32) (t8_0 : (Nat → Int32)) (t9_0 : Int32) (t9_1 : Int32) (t10_0 : Int32) (t10_1 : Int32) (t11_0 : (Nat → Int32)) (t12_0 : Int32) (t12_1 : Int32) (t13_0 : Int32) (t13_1 : Int32) (t14_0 : (Nat → Int32)) (t15_0 : Int32) (t15_1 : Int32) (t16_0 : Int32) (t16_1 : Int32) (t17_0 : (Nat → Int32)) : Int32 × Int64 × Int32 × Int32 × Int32 × (Nat → Int32) × Int32 × Int32 × (Nat → Int32) × Int32 × Int32 × (Nat → Int32) × Int32 × Int32 × (Nat → Int32) × Int32 × Int32 × (Nat → Int32) × Int32 × Int32 × Int32 × Int32 × (Nat → Int32) := if ((F_NH_isRegister x2) : Int32) = (0 : Int32) then (F_NH_divide_J41 x2 x3 x4 x5 x6 t0_0 t0_1 t1_0 t1_1 t2_0 t3_0 t3_1 t4_0 t5_0 t5_1 t6_0 t7_0 t7_1 t8_0 t9_0 t9_1 t10_0 t10_1 t11_0 t12_0 t12_1 t13_0 t13_1 t14_0 t15_0 t15_1 t16_0 t16_1 t17_0) else (if ((F_NH_isRegister x3) : Int32) = (0 : Int32) then (F_NH_divide_J41 x2 x3 x4 x5 x6 t0_0 t0_1 t1_0 t1_1 t2_0 t3_0 t3_1 t4_0 t5_0 t5_1 t6_0 t7_0 t7_1 t8_0 t9_0 t9_1 t10_0 t10_1 t11_0 t12_0 t12_1 t13_0 t13_1 t14_0 t15_0 t15_1 t16_0 t16_1 t17_0) else (if ((F_NH_isRegister x4) : Int32) = (0 : Int32) then (F_NH_divide_J41 x2 x3 x4 x5 x6 t0_0 t0_1 t1_0 t1_1 t2_0 t3_0 t3_1 t4_0 t5_0 t5_1 t6_0 t7_0 t7_1 t8_0 t9_0 t9_1 t10_0 t10_1 t11_0 t12_0 t12_1 t13_0 t13_1 t14_0 t15_0 t15_1 t16_0 t16_1 t17_0) else (if ((F_NH_isMode x6) : Int32) = (0 : Int32) then (F_NH_divide_J41 x2 x3 x4 x5 x6 t0_0 t0_1 t1_0 t1_1 t2_0 t3_0 t3_1 t4_0 t5_0 t5_1 t6_0 t7_0 t7_1 t8_0 t9_0 t9_1 t10_0 t10_1 t11_0 t12_0 t12_1 t13_0 t13_1 t14_0 t15_0 t15_1 t16_0 t16_1 t17_0) else (if ((F_NH_isScale x5) : Int32) = (0 : Int32) then (F_NH_divide_J41 x2 x3 x4 x5 x6 t0_0 t0_1 t1_0 t1_1 t2_0 t3_0 t3_1 t4_0 t5_0 t5_1 t6_0 t7_0 t7_1 t8_0 t9_0 t9_1 t10_0 t10_1 t11_0 t12_0 t12_1 t13_0 t13_1 t14_0 t15_0 t15_1 t16_0 t16_1 t17_0) else (F_NH_divide_J42 x2 x3 x4 x5 x6 t0_0 t0_1 t1_0 t1_1 t2_0 t3_0 t3_1 t4_0 t5_0 t5_1 t6_0 t7_0 t7_1 t8_0 t9_0 t9_1 t10_0 t10_1 t11_0 t12_0 t12_1 t13_0 t13_1 t14_0 t15_0 t15_1 t16_0 t16_1 t17_0 1)))))
def S_NH_divide_c96 (x2 : Int32) (x3 : Int32) (x4 : Int32) (x5 : Int32) (x6 : Int32) (t0_0 : Int64) (t0_1 : Int32) (t1_0 : Int32) (t1_1 : Int32) (t2_0 : (Nat → Int32)) (t3_0 : Int32) (t3_1 : Int32) (t4_0 : (Nat → Int32)) (t5_0 : Int32) (t5_1 : Int32) (t6_0 : (Nat → Int32)) (t7_0 : Int32) (t7_1 : Int32) (t8_0 : (Nat → Int32)) (t9_0 : Int32) (t9_1 : Int32) (t10_0 : Int32) (t10_1 : Int32) (t11_0 : (Nat → Int32)) (t12_0 : Int32) (t12_1 : Int32) (t13_0 : Int32) (t13_1 : Int32) (t14_0 : (Nat → Int32)) (t15_0 : Int32) (t15_1 : Int32) (t16_0 : Int32) (t16_1 : Int32) (t17_0 : (Nat → Int32)) (lx83 : Int32) (lx125 : Int32) (p226 : (Int32 × Int64 × Int32 × Int32 × Int32 × (Nat → Int32) × Int32 × Int32 × (Nat → Int32) × Int32 × Int32 × (Nat → Int32) × Int32 × Int32 × (Nat → Int32))) (y174 : Int64) (y175 : Int32) (y177 : Int32) (y178 : Int32) (f179 : (Nat → Int32)) (y182 : Int32) (y183 : Int32) (f184 : (Nat → Int32)) (y187 : Int32) (y188 : Int32) (f189 : (Nat → Int32)) (y192 : Int32) (y193 : Int32) (f194 : (Nat → Int32)) (p278 : (Int32 × Int32 × Int32 × (Nat → Int32) × Int32 × Int32 × Int32 × Int32 × (Nat → Int32))) : Prop := if p278.1 = (0 : Int32) then (True) else (True)
def S_NH_divide_c88 (x2 : Int32) (x3 : Int32) (x4 : Int32) (x5 : Int32) (x6 : Int32) (t0_0 : Int64) (t0_1 : Int32) (t1_0 : Int32) (t1_1 : Int32) (t2_0 : (Nat → Int32)) (t3_0 : Int32) (t3_1 : Int32) (t4_0 : (Nat → Int32)) (t5_0 : Int32) (t5_1 : Int32) (t6_0 : (Nat → Int32)) (t7_0 : Int32) (t7_1 : Int32) (t8_0 : (Nat → Int32)) (t9_0 : Int32) (t9_1 : Int32) (t10_0 : Int32) (t10_1 : Int32) (t11_0 : (Nat → Int32)) (t12_0 : Int32) (t12_1 : Int32) (t13_0 : Int32) (t13_1 : Int32) (t14_0 : (Nat → Int32)) (t15_0 : Int32) (t15_1 : Int32) (t16_0 : Int32) (t16_1 : Int32) (t17_0 : (Nat → Int32)) (lx83 : Int32) (lx125 : Int32) (p226 : (Int32 × Int64 × Int32 × Int32 × Int32 × (Nat → Int32) × Int32 × Int32 × (Nat → Int32) × Int32 × Int32 × (Nat → Int32) × Int32 × Int32 × (Nat → Int32))) : Prop := if (F_NH_canHave (p226.1 : Int32)) = (0 : Int32) then ((True ∧ S_NH_keepDecimal x4 (p226.2.1 : Int64) (p226.2.2.1 : Int32) (p226.2.2.2.1 : Int32) (p226.2.2.2.2.1 : Int32) (p226.2.2.2.2.2.1 : (Nat → Int32)) t7_0 t7_1 t8_0 t15_0 t15_1 t16_0 t16_1 t17_0) ∧ (S_NH_divide_c96 x2 x3 x4 x5 x6 t0_0 t0_1 t1_0 t1_1 t2_0 t3_0 t3_1 t4_0 t5_0 t5_1 t6_0 t7_0 t7_1 t8_0 t9_0 t9_1 t10_0 t10_1 t11_0 t12_0 t12_1 t13_0 t13_1 t14_0 t15_0 t15_1 t16_0 t16_1 t17_0 lx83 lx125 p226 (p226.2.1 : Int64) (p226.2.2.1 : Int32) (p226.2.2.2.1 : Int32) (p226.2.2.2.2.1 : Int32) (p226.2.2.2.2.2.1 : (Nat → Int32)) (p226.2.2.2.2.2.2.1 : Int32) (p226.2.2.2.2.2.2.2.1 : Int32) (p226.2.2.2.2.2.2.2.2.1 : (Nat → Int32)) (p226.2.2.2.2.2.2.2.2.2.1 : Int32) (p226.2.2.2.2.2.2.2.2.2.2.1 : Int32) (p226.2.2.2.2.2.2.2.2.2.2.2.1 : (Nat → Int32)) (p226.2.2.2.2.2.2.2.2.2.2.2.2.1 : Int32) (p226.2.2.2.2.2.2.2.2.2.2.2.2.2.1 : Int32) (p226.2.2.2.2.2.2.2.2.2.2.2.2.2.2 : (Nat → Int32)) ((F_NH_keepDecimal x4 (p226.2.1 : Int64) (p226.2.2.1 : Int32) (p226.2.2.2.1 : Int32) (p226.2.2.2.2.1 : Int32) (p226.2.2.2.2.2.1 : (Nat → Int32)) t7_0 t7_1 t8_0 t15_0 t15_1 t16_0 t16_1 t17_0) : (Int32 × Int32 × Int32 × (Nat → Int32) × Int32 × Int32 × Int32 × Int32 × (Nat → Int32))))) else (True)
def S_NH_divide_J65 (x2 : Int32) (x3 : Int32) (x4 : Int32) (x5 : Int32) (x6 : Int32) (t0_0 : Int64) (t0_1 : Int32) (t1_0 : Int32) (t1_1 : Int32) (t2_0 : (Nat → Int32)) (t3_0 : Int32) (t3_1 : Int32) (t4_0 : (Nat → Int32)) (t5_0 : Int32) (t5_1 : Int32) (t6_0 : (Nat → Int32)) (t7_0 : Int32) (t7_1 : Int32) (t8_0 : (Nat → Int32)) (t9_0 : Int32) (t9_1 : Int32) (t10_0 : Int32) (t10_1 : Int32) (t11_0 : (Nat → Int32)) (t12_0 : Int32) (t12_1 : Int32) (t13_0 : Int32) (t13_1 : Int32) (t14_0 : (Nat → Int32)) (t15_0 : Int32) (t15_1 : Int32) (t16_0 : Int32) (t16_1 : Int32) (t17_0 : (Nat → Int32)) (lx83 : Int32) (lx125 : Int32) : Prop := if (F_NH_canHave lx125) = (0 : Int32) then ((0 ≤ x2.toInt) ∧ ((x2.toInt ≤ 9) ∧ ((True ∧ S_DW_divideToScale (108 : Int32) (108 : Int32) x5 x6 t0_0 t0_1 t1_0 t1_1 t2_0 t3_0 t3_1 t4_0 t5_0 t5_1 t6_0 t9_0 t9_1 t10_0 t10_1 t11_0 t12_0 t12_1 t13_0 t13_1 t14_0) ∧ (S_NH_divide_c88 x2 x3 x4 x5 x6 t0_0 t0_1 t1_0 t1_1 t2_0 t3_0 t3_1 t4_0 t5_0 t5_1 t6_0 t7_0 t7_1 t8_0 t9_0 t9_1 t10_0 t10_1 t11_0 t12_0 t12_1 t13_0 t13_1 t14_0 t15_0 t15_1 t16_0 t16_1 t17_0 lx83 lx125 ((F_DW_divideToScale (108 : Int32) (108 : Int32) x5 x6 t0_0 t0_1 t1_0 t1_1 t2_0 t3_0 t3_1 t4_0 t5_0 t5_1 t6_0 t9_0 t9_1 t10_0 t10_1 t11_0 t12_0 t12_1 t13_0 t13_1 t14_0) : (Int32 × Int64 × Int32 × Int32 × Int32 × (Nat → Int32) × Int32 × Int32 × (Nat → Int32) × Int32 × Int32 × (Nat → Int32) × Int32 × Int32 × (Nat → Int32))))))) else (True)
def S_NH_divide_J42 (x2 : Int32) (x3 : Int32) (x4 : Int32) (x5 : Int32) (x6 : Int32) (t0_0 : Int64) (t0_1 : Int32) (t1_0 : Int32) (t1_1 : Int32) (t2_0 : (Nat → Int32)) (t3_0 : Int32) (t3_1 : Int32) (t4_0 : (Nat → Int32)) (t5_0 : Int32) (t5_1 : Int32) (t6_0 : (Nat → Int32)) (t7_0 : Int32) (t7_1 : Int32) (t8_0 : (Nat → Int32)) (t9_0 : Int32) (t9_1 : Int32) (t10_0 : Int32) (t10_1 : Int32) (t11_0 : (Nat → Int32)) (t12_0 : Int32) (t12_1 : Int32) (t13_0 : Int32) (t13_1 : Int32) (t14_0 : (Nat → Int32)) (t15_0 : Int32) (t15_1 : Int32) (t16_0 : Int32) (t16_1 : Int32) (t17_0 : (Nat → Int32)) (lx83 : Int32) : Prop := if (F_NH_need lx83) = (0 : Int32) then ((0 ≤ x3.toInt) ∧ ((x3.toInt ≤ 9) ∧ (if t13_0 ≤ (0 : Int32) then (S_NH_divide_J65 x2 x3 x4 x5 x6 t0_0 t0_1 t1_0 t1_1 t2_0 t3_0 t3_1 t4_0 t5_0 t5_1 t6_0 t7_0 t7_1 t8_0 t9_0 t9_1 t10_0 t10_1 t11_0 t12_0 t12_1 t13_0 t13_1 t14_0 t15_0 t15_1 t16_0 t16_1 t17_0 lx83 0) else (S_NH_divide_J65 x2 x3 x4 x5 x6 t0_0 t0_1 t1_0 t1_1 t2_0 t3_0 t3_1 t4_0 t5_0 t5_1 t6_0 t7_0 t7_1 t8_0 t9_0 t9_1 t10_0 t10_1 t11_0 t12_0 t12_1 t13_0 t13_1 t14_0 t15_0 t15_1 t16_0 t16_1 t17_0 lx83 1)))) else (True)
def S_NH_divide_J41 (x2 : Int32) (x3 : Int32) (x4 : Int32) (x5 : Int32) (x6 : Int32) (t0_0 : Int64) (t0_1 : Int32) (t1_0 : Int32) (t1_1 : Int32) (t2_0 : (Nat → Int32)) (t3_0 : Int32) (t3_1 : Int32) (t4_0 : (Nat → Int32)) (t5_0 : Int32) (t5_1 : Int32) (t6_0 : (Nat → Int32)) (t7_0 : Int32) (t7_1 : Int32) (t8_0 : (Nat → Int32)) (t9_0 : Int32) (t9_1 : Int32) (t10_0 : Int32) (t10_1 : Int32) (t11_0 : (Nat → Int32)) (t12_0 : Int32) (t12_1 : Int32) (t13_0 : Int32) (t13_1 : Int32) (t14_0 : (Nat → Int32)) (t15_0 : Int32) (t15_1 : Int32) (t16_0 : Int32) (t16_1 : Int32) (t17_0 : (Nat → Int32)) : Prop := S_NH_divide_J42 x2 x3 x4 x5 x6 t0_0 t0_1 t1_0 t1_1 t2_0 t3_0 t3_1 t4_0 t5_0 t5_1 t6_0 t7_0 t7_1 t8_0 t9_0 t9_1 t10_0 t10_1 t11_0 t12_0 t12_1 t13_0 t13_1 t14_0 t15_0 t15_1 t16_0 t16_1 t17_0 0
def S_NH_divide (x2 : Int32) (x3 : Int32) (x4 : Int32) (x5 : Int32) (x6 : Int32) (t0_0 : Int64) (t0_1 : Int32) (t1_0 : Int32) (t1_1 : Int32) (t2_0 : (Nat → Int32)) (t3_0 : Int32) (t3_1 : Int32) (t4_0 : (Nat → Int32)) (t5_0 : Int32) (t5_1 : Int32) (t6_0 : (Nat → Int32)) (t7_0 : Int32) (t7_1 : Int32) (t8_0 : (Nat → Int32)) (t9_0 : Int32) (t9_1 : Int32) (t10_0 : Int32) (t10_1 : Int32) (t11_0 : (Nat → Int32)) (t12_0 : Int32) (t12_1 : Int32) (t13_0 : Int32) (t13_1 : Int32) (t14_0 : (Nat → Int32)) (t15_0 : Int32) (t15_1 : Int32) (t16_0 : Int32) (t16_1 : Int32) (t17_0 : (Nat → Int32)) : Prop := if ((F_NH_isRegister x2) : Int32) = (0 : Int32) then (S_NH_divide_J41 x2 x3 x4 x5 x6 t0_0 t0_1 t1_0 t1_1 t2_0 t3_0 t3_1 t4_0 t5_0 t5_1 t6_0 t7_0 t7_1 t8_0 t9_0 t9_1 t10_0 t10_1 t11_0 t12_0 t12_1 t13_0 t13_1 t14_0 t15_0 t15_1 t16_0 t16_1 t17_0) else (if ((F_NH_isRegister x3) : Int32) = (0 : Int32) then (S_NH_divide_J41 x2 x3 x4 x5 x6 t0_0 t0_1 t1_0 t1_1 t2_0 t3_0 t3_1 t4_0 t5_0 t5_1 t6_0 t7_0 t7_1 t8_0 t9_0 t9_1 t10_0 t10_1 t11_0 t12_0 t12_1 t13_0 t13_1 t14_0 t15_0 t15_1 t16_0 t16_1 t17_0) else (if ((F_NH_isRegister x4) : Int32) = (0 : Int32) then (S_NH_divide_J41 x2 x3 x4 x5 x6 t0_0 t0_1 t1_0 t1_1 t2_0 t3_0 t3_1 t4_0 t5_0 t5_1 t6_0 t7_0 t7_1 t8_0 t9_0 t9_1 t10_0 t10_1 t11_0 t12_0 t12_1 t13_0 t13_1 t14_0 t15_0 t15_1 t16_0 t16_1 t17_0) else (if ((F_NH_isMode x6) : Int32) = (0 : Int32) then (S_NH_divide_J41 x2 x3 x4 x5 x6 t0_0 t0_1 t1_0 t1_1 t2_0 t3_0 t3_1 t4_0 t5_0 t5_1 t6_0 t7_0 t7_1 t8_0 t9_0 t9_1 t10_0 t10_1 t11_0 t12_0 t12_1 t13_0 t13_1 t14_0 t15_0 t15_1 t16_0 t16_1 t17_0) else (if ((F_NH_isScale x5) : Int32) = (0 : Int32) then (S_NH_divide_J41 x2 x3 x4 x5 x6 t0_0 t0_1 t1_0 t1_1 t2_0 t3_0 t3_1 t4_0 t5_0 t5_1 t6_0 t7_0 t7_1 t8_0 t9_0 t9_1 t10_0 t10_1 t11_0 t12_0 t12_1 t13_0 t13_1 t14_0 t15_0 t15_1 t16_0 t16_1 t17_0) else (S_NH_divide_J42 x2 x3 x4 x5 x6 t0_0 t0_1 t1_0 t1_1 t2_0 t3_0 t3_1 t4_0 t5_0 t5_1 t6_0 t7_0 t7_1 t8_0 t9_0 t9_1 t10_0 t10_1 t11_0 t12_0 t12_1 t13_0 t13_1 t14_0 t15_0 t15_1 t16_0 t16_1 t17_0 1)))))
set_option maxRecDepth 100000 in
set_option maxHeartbeats 4000000 in
theorem X_NH_divide (l : Launch) (D : va_G) (g : Nat → ClassId) (q : Nat → Nat) (ws : va_W) (x2 : Int32) (x3 : Int32) (x4 : Int32) (x5 : Int32) (x6 : Int32) (d2 : Nat) (hBd2 : q_isDec (nsh g q) g q d2 108) (yd2 : 66 ≤ d2) (gd2x2 : x2.toNatClampNeg < 10 → d2 = 68 + 5 * x2.toNatClampNeg) (d3 : Nat) (hBd3 : q_isDec (nsh g q) g q d3 108) (yd3 : 66 ≤ d3) (gd3x3 : x3.toNatClampNeg < 10 → d3 = 68 + 5 * x3.toNatClampNeg) (d4 : Nat) (hBd4 : q_isDec (nsh g q) g q d4 108) (yd4 : 66 ≤ d4) (gd4x4 : x4.toNatClampNeg < 10 → d4 = 68 + 5 * x4.toNatClampNeg) (ne_d2_d3 : d2 ≠ d3) (ne_d2_d3p1 : d2 ≠ d3 + 1) (ne_d3_d2p1 : d3 ≠ d2 + 1) (ne_d2_d3p2 : d2 ≠ d3 + 2) (ne_d3_d2p2 : d3 ≠ d2 + 2) (ne_d3_d4 : d3 ≠ d4) (ne_d3_d4p1 : d3 ≠ d4 + 1) (ne_d4_d3p1 : d4 ≠ d3 + 1) (ne_d3_d4p2 : d3 ≠ d4 + 2) (ne_d4_d3p2 : d4 ≠ d3 + 2) (hlt : l.stackTraces = false) (hI : q_I (nsh g q) q ws) (t0_0 : Int64) (t0_1 : Int32) (hT0 : ws[30]? = (some (q 30, .inr (5, [.ref (q 31), .long t0_0, .ref (q 9), .int t0_1])) : Option (Nat × va_E))) (t1_0 : Int32) (t1_1 : Int32) (hT1 : ws[10]? = (some (q 10, .inr (2, [.ref (q 11), .int t1_0, .int t1_1])) : Option (Nat × va_E))) (t2_0 : (Nat → Int32)) (hT2 : ws[11]? = (some (q 11, .inl (g 0, (220 : Int32).toNatClampNeg, .inl t2_0)) : Option (Nat × va_E))) (t3_0 : Int32) (t3_1 : Int32) (hT3 : ws[12]? = (some (q 12, .inr (2, [.ref (q 13), .int t3_0, .int t3_1])) : Option (Nat × va_E))) (t4_0 : (Nat → Int32)) (hT4 : ws[13]? = (some (q 13, .inl (g 0, (220 : Int32).toNatClampNeg, .inl t4_0)) : Option (Nat × va_E))) (t5_0 : Int32) (t5_1 : Int32) (hT5 : ws[22]? = (some (q 22, .inr (2, [.ref (q 23), .int t5_0, .int t5_1])) : Option (Nat × va_E))) (t6_0 : (Nat → Int32)) (hT6 : ws[23]? = (some (q 23, .inl (g 0, (220 : Int32).toNatClampNeg, .inl t6_0)) : Option (Nat × va_E))) (t7_0 : Int32) (t7_1 : Int32) (hT7 : ws[20]? = (some (q 20, .inr (2, [.ref (q 21), .int t7_0, .int t7_1])) : Option (Nat × va_E))) (t8_0 : (Nat → Int32)) (hT8 : ws[21]? = (some (q 21, .inl (g 0, (220 : Int32).toNatClampNeg, .inl t8_0)) : Option (Nat × va_E))) (t9_0 : Int32) (t9_1 : Int32) (hT9 : ws[d2]? = (some (q d2, .inr (3, [.ref (q (d2 + 1)), .int t9_0, .int t9_1])) : Option (Nat × va_E))) (t10_0 : Int32) (t10_1 : Int32) (hT10 : ws[d2 + 1]? = (some (q (d2 + 1), .inr (2, [.ref (q (d2 + 2)), .int t10_0, .int t10_1])) : Option (Nat × va_E))) (t11_0 : (Nat → Int32)) (hT11 : ws[d2 + 2]? = (some (q (d2 + 2), .inl (g 0, (108 : Int32).toNatClampNeg, .inl t11_0)) : Option (Nat × va_E))) (t12_0 : Int32) (t12_1 : Int32) (hT12 : ws[d3]? = (some (q d3, .inr (3, [.ref (q (d3 + 1)), .int t12_0, .int t12_1])) : Option (Nat × va_E))) (t13_0 : Int32) (t13_1 : Int32) (hT13 : ws[d3 + 1]? = (some (q (d3 + 1), .inr (2, [.ref (q (d3 + 2)), .int t13_0, .int t13_1])) : Option (Nat × va_E))) (t14_0 : (Nat → Int32)) (hT14 : ws[d3 + 2]? = (some (q (d3 + 2), .inl (g 0, (108 : Int32).toNatClampNeg, .inl t14_0)) : Option (Nat × va_E))) (t15_0 : Int32) (t15_1 : Int32) (hT15 : ws[d4]? = (some (q d4, .inr (3, [.ref (q (d4 + 1)), .int t15_0, .int t15_1])) : Option (Nat × va_E))) (t16_0 : Int32) (t16_1 : Int32) (hT16 : ws[d4 + 1]? = (some (q (d4 + 1), .inr (2, [.ref (q (d4 + 2)), .int t16_0, .int t16_1])) : Option (Nat × va_E))) (t17_0 : (Nat → Int32)) (hT17 : ws[d4 + 2]? = (some (q (d4 + 2), .inl (g 0, (108 : Int32).toNatClampNeg, .inl t17_0)) : Option (Nat × va_E))) (hS : True ∧ S_NH_divide x2 x3 x4 x5 x6 t0_0 t0_1 t1_0 t1_1 t2_0 t3_0 t3_1 t4_0 t5_0 t5_1 t6_0 t7_0 t7_1 t8_0 t9_0 t9_1 t10_0 t10_1 t11_0 t12_0 t12_1 t13_0 t13_1 t14_0 t15_0 t15_1 t16_0 t16_1 t17_0) : ∀ sz, q_Mx l y_NH_divide prog_1_method_13_code 6 none 9 4 24 D g [.ref (q 0), .int x2, .int x3, .int x4, .int x5, .int x6] ws sz (va_Qv (fun u => q_I (nsh g q) q u ∧ q_un ws u [10, 11, 12, 13, 20, 21, 22, 23, 30, d3 + 1, d3 + 2, d4, d4 + 1, d4 + 2] ∧ ∃ (u0_0 : Int64) (u0_1 : Int32) (u1_0 : Int32) (u1_1 : Int32) (u2_0 : (Nat → Int32)) (u3_0 : Int32) (u3_1 : Int32) (u4_0 : (Nat → Int32)) (u5_0 : Int32) (u5_1 : Int32) (u6_0 : (Nat → Int32)) (u7_0 : Int32) (u7_1 : Int32) (u8_0 : (Nat → Int32)) (u13_0 : Int32) (u13_1 : Int32) (u14_0 : (Nat → Int32)) (u15_0 : Int32) (u15_1 : Int32) (u16_0 : Int32) (u16_1 : Int32) (u17_0 : (Nat → Int32)), u[30]? = (some (q 30, .inr (5, [.ref (q 31), .long u0_0, .ref (q 9), .int u0_1])) : Option (Nat × va_E)) ∧ u[10]? = (some (q 10, .inr (2, [.ref (q 11), .int u1_0, .int u1_1])) : Option (Nat × va_E)) ∧ u[11]? = (some (q 11, .inl (g 0, (220 : Int32).toNatClampNeg, .inl u2_0)) : Option (Nat × va_E)) ∧ u[12]? = (some (q 12, .inr (2, [.ref (q 13), .int u3_0, .int u3_1])) : Option (Nat × va_E)) ∧ u[13]? = (some (q 13, .inl (g 0, (220 : Int32).toNatClampNeg, .inl u4_0)) : Option (Nat × va_E)) ∧ u[22]? = (some (q 22, .inr (2, [.ref (q 23), .int u5_0, .int u5_1])) : Option (Nat × va_E)) ∧ u[23]? = (some (q 23, .inl (g 0, (220 : Int32).toNatClampNeg, .inl u6_0)) : Option (Nat × va_E)) ∧ u[20]? = (some (q 20, .inr (2, [.ref (q 21), .int u7_0, .int u7_1])) : Option (Nat × va_E)) ∧ u[21]? = (some (q 21, .inl (g 0, (220 : Int32).toNatClampNeg, .inl u8_0)) : Option (Nat × va_E)) ∧ u[d3 + 1]? = (some (q (d3 + 1), .inr (2, [.ref (q (d3 + 2)), .int u13_0, .int u13_1])) : Option (Nat × va_E)) ∧ u[d3 + 2]? = (some (q (d3 + 2), .inl (g 0, (108 : Int32).toNatClampNeg, .inl u14_0)) : Option (Nat × va_E)) ∧ u[d4]? = (some (q d4, .inr (3, [.ref (q (d4 + 1)), .int u15_0, .int u15_1])) : Option (Nat × va_E)) ∧ u[d4 + 1]? = (some (q (d4 + 1), .inr (2, [.ref (q (d4 + 2)), .int u16_0, .int u16_1])) : Option (Nat × va_E)) ∧ u[d4 + 2]? = (some (q (d4 + 2), .inl (g 0, (108 : Int32).toNatClampNeg, .inl u17_0)) : Option (Nat × va_E)) ∧ (0 ≤ u0_1.toInt) ∧ (u0_1.toInt ≤ 1) ∧ (0 ≤ u1_0.toInt) ∧ (u1_0.toInt ≤ 220) ∧ (0 ≤ u1_1.toInt) ∧ (u1_1.toInt ≤ 1) ∧ (0 ≤ u3_0.toInt) ∧ (u3_0.toInt ≤ 220) ∧ (0 ≤ u3_1.toInt) ∧ (u3_1.toInt ≤ 1) ∧ (0 ≤ u5_0.toInt) ∧ (u5_0.toInt ≤ 220) ∧ (0 ≤ u5_1.toInt) ∧ (u5_1.toInt ≤ 1) ∧ (0 ≤ u7_0.toInt) ∧ (u7_0.toInt ≤ 220) ∧ (0 ≤ u7_1.toInt) ∧ (u7_1.toInt ≤ 1) ∧ (0 ≤ u13_0.toInt) ∧ (u13_0.toInt ≤ 108) ∧ (0 ≤ u13_1.toInt) ∧ (u13_1.toInt ≤ 1) ∧ (0 ≤ u15_0.toInt + 10000) ∧ (u15_0.toInt ≤ 10000) ∧ (1 ≤ u15_1.toInt) ∧ (u15_1.toInt ≤ 1000) ∧ (0 ≤ u16_0.toInt) ∧ (u16_0.toInt ≤ 108) ∧ (0 ≤ u16_1.toInt) ∧ (u16_1.toInt ≤ 1) ∧ (x5.toInt ≤ u0_0.toInt) ∧ (u0_0.toInt ≤ x5.toInt) ∧ (x2.toInt ≤ u0_1.toInt + 9) ∧ (u0_1.toInt ≤ x2.toInt + 1) ∧ (x3.toInt ≤ u0_1.toInt + 9) ∧ (u0_1.toInt ≤ x3.toInt + 1) ∧ (x2.toInt ≤ u1_0.toInt + 9) ∧ (u1_0.toInt ≤ x2.toInt + 220) ∧ (x3.toInt ≤ u1_0.toInt + 9) ∧ (u1_0.toInt ≤ x3.toInt + 220) ∧ (u1_0.toInt ≤ t10_0.toInt + 219) ∧ (x2.toInt ≤ u1_1.toInt + 9) ∧ (u1_1.toInt ≤ x2.toInt + 1) ∧ (x3.toInt ≤ u1_1.toInt + 9) ∧ (u1_1.toInt ≤ x3.toInt + 1) ∧ (u1_1.toInt ≤ t10_0.toInt) ∧ (x2.toInt ≤ u3_0.toInt + 9) ∧ (u3_0.toInt ≤ x2.toInt + 220) ∧ (x3.toInt ≤ u3_0.toInt + 9) ∧ (u3_0.toInt ≤ x3.toInt + 220) ∧ (x2.toInt ≤ u3_1.toInt + 9) ∧ (u3_1.toInt ≤ x2.toInt + 1) ∧ (x3.toInt ≤ u3_1.toInt + 9) ∧ (u3_1.toInt ≤ x3.toInt + 1) ∧ (u3_1.toInt ≤ t3_1.toInt) ∧ (x2.toInt ≤ u5_0.toInt + 9) ∧ (u5_0.toInt ≤ x2.toInt + 220) ∧ (x3.toInt ≤ u5_0.toInt + 9) ∧ (u5_0.toInt ≤ x3.toInt + 220) ∧ (x2.toInt ≤ u5_1.toInt + 9) ∧ (u5_1.toInt ≤ x2.toInt + 1) ∧ (x3.toInt ≤ u5_1.toInt + 9) ∧ (u5_1.toInt ≤ x3.toInt + 1) ∧ (x2.toInt ≤ u7_0.toInt + 9) ∧ (u7_0.toInt ≤ x2.toInt + 220) ∧ (x3.toInt ≤ u7_0.toInt + 9) ∧ (u7_0.toInt ≤ x3.toInt + 220) ∧ (x4.toInt ≤ u7_0.toInt + 9) ∧ (u7_0.toInt ≤ x4.toInt + 220) ∧ (x2.toInt ≤ u7_1.toInt + 9) ∧ (u7_1.toInt ≤ x2.toInt + 1) ∧ (x3.toInt ≤ u7_1.toInt + 9) ∧ (u7_1.toInt ≤ x3.toInt + 1) ∧ (x4.toInt ≤ u7_1.toInt + 9) ∧ (u7_1.toInt ≤ x4.toInt + 1) ∧ (x2.toInt ≤ u13_0.toInt + 9) ∧ (u13_0.toInt ≤ x2.toInt + 108) ∧ (x3.toInt ≤ u13_0.toInt + 9) ∧ (u13_0.toInt ≤ x3.toInt + 108) ∧ (x2.toInt ≤ u13_1.toInt + 9) ∧ (u13_1.toInt ≤ x2.toInt + 1) ∧ (x3.toInt ≤ u13_1.toInt + 9) ∧ (u13_1.toInt ≤ x3.toInt + 1) ∧ (u13_1.toInt ≤ t13_1.toInt) ∧ (x2.toInt ≤ u15_0.toInt + 10009) ∧ (u15_0.toInt ≤ x2.toInt + 10000) ∧ (x3.toInt ≤ u15_0.toInt + 10009) ∧ (u15_0.toInt ≤ x3.toInt + 10000) ∧ (x4.toInt ≤ u15_0.toInt + 10009) ∧ (u15_0.toInt ≤ x4.toInt + 10000) ∧ (x2.toInt ≤ u15_1.toInt + 8) ∧ (u15_1.toInt ≤ x2.toInt + 1000) ∧ (x3.toInt ≤ u15_1.toInt + 8) ∧ (u15_1.toInt ≤ x3.toInt + 1000) ∧ (x4.toInt ≤ u15_1.toInt + 8) ∧ (u15_1.toInt ≤ x4.toInt + 1000) ∧ (x2.toInt ≤ u16_0.toInt + 9) ∧ (u16_0.toInt ≤ x2.toInt + 108) ∧ (x3.toInt ≤ u16_0.toInt + 9) ∧ (u16_0.toInt ≤ x3.toInt + 108) ∧ (x4.toInt ≤ u16_0.toInt + 9) ∧ (u16_0.toInt ≤ x4.toInt + 108) ∧ (x2.toInt ≤ u16_1.toInt + 9) ∧ (u16_1.toInt ≤ x2.toInt + 1) ∧ (x3.toInt ≤ u16_1.toInt + 9) ∧ (u16_1.toInt ≤ x3.toInt + 1) ∧ (x4.toInt ≤ u16_1.toInt + 9) ∧ (u16_1.toInt ≤ x4.toInt + 1) ∧ ((0 : Int32), u0_0, u0_1, u1_0, u1_1, u2_0, u3_0, u3_1, u4_0, u5_0, u5_1, u6_0, u7_0, u7_1, u8_0, u13_0, u13_1, u14_0, u15_0, u15_1, u16_0, u16_1, u17_0) = (F_NH_divide x2 x3 x4 x5 x6 t0_0 t0_1 t1_0 t1_1 t2_0 t3_0 t3_1 t4_0 t5_0 t5_1 t6_0 t7_0 t7_1 t8_0 t9_0 t9_1 t10_0 t10_1 t11_0 t12_0 t12_1 t13_0 t13_1 t14_0 t15_0 t15_1 t16_0 t16_1 t17_0)) (q_B D g (va_A ws sz)) (va_A ws sz)) (fun E u => ∃ c : Int32, E = qE c ∧ c ≠ 0 ∧ q_I (nsh g q) q u ∧ q_un ws u [10, 11, 12, 13, 20, 21, 22, 23, 30, d3 + 1, d3 + 2, d4, d4 + 1, d4 + 2] ∧ ∃ (u0_0 : Int64) (u0_1 : Int32) (u1_0 : Int32) (u1_1 : Int32) (u2_0 : (Nat → Int32)) (u3_0 : Int32) (u3_1 : Int32) (u4_0 : (Nat → Int32)) (u5_0 : Int32) (u5_1 : Int32) (u6_0 : (Nat → Int32)) (u7_0 : Int32) (u7_1 : Int32) (u8_0 : (Nat → Int32)) (u13_0 : Int32) (u13_1 : Int32) (u14_0 : (Nat → Int32)) (u15_0 : Int32) (u15_1 : Int32) (u16_0 : Int32) (u16_1 : Int32) (u17_0 : (Nat → Int32)), u[30]? = (some (q 30, .inr (5, [.ref (q 31), .long u0_0, .ref (q 9), .int u0_1])) : Option (Nat × va_E)) ∧ u[10]? = (some (q 10, .inr (2, [.ref (q 11), .int u1_0, .int u1_1])) : Option (Nat × va_E)) ∧ u[11]? = (some (q 11, .inl (g 0, (220 : Int32).toNatClampNeg, .inl u2_0)) : Option (Nat × va_E)) ∧ u[12]? = (some (q 12, .inr (2, [.ref (q 13), .int u3_0, .int u3_1])) : Option (Nat × va_E)) ∧ u[13]? = (some (q 13, .inl (g 0, (220 : Int32).toNatClampNeg, .inl u4_0)) : Option (Nat × va_E)) ∧ u[22]? = (some (q 22, .inr (2, [.ref (q 23), .int u5_0, .int u5_1])) : Option (Nat × va_E)) ∧ u[23]? = (some (q 23, .inl (g 0, (220 : Int32).toNatClampNeg, .inl u6_0)) : Option (Nat × va_E)) ∧ u[20]? = (some (q 20, .inr (2, [.ref (q 21), .int u7_0, .int u7_1])) : Option (Nat × va_E)) ∧ u[21]? = (some (q 21, .inl (g 0, (220 : Int32).toNatClampNeg, .inl u8_0)) : Option (Nat × va_E)) ∧ u[d3 + 1]? = (some (q (d3 + 1), .inr (2, [.ref (q (d3 + 2)), .int u13_0, .int u13_1])) : Option (Nat × va_E)) ∧ u[d3 + 2]? = (some (q (d3 + 2), .inl (g 0, (108 : Int32).toNatClampNeg, .inl u14_0)) : Option (Nat × va_E)) ∧ u[d4]? = (some (q d4, .inr (3, [.ref (q (d4 + 1)), .int u15_0, .int u15_1])) : Option (Nat × va_E)) ∧ u[d4 + 1]? = (some (q (d4 + 1), .inr (2, [.ref (q (d4 + 2)), .int u16_0, .int u16_1])) : Option (Nat × va_E)) ∧ u[d4 + 2]? = (some (q (d4 + 2), .inl (g 0, (108 : Int32).toNatClampNeg, .inl u17_0)) : Option (Nat × va_E)) ∧ (c, u0_0, u0_1, u1_0, u1_1, u2_0, u3_0, u3_1, u4_0, u5_0, u5_1, u6_0, u7_0, u7_1, u8_0, u13_0, u13_1, u14_0, u15_0, u15_1, u16_0, u16_1, u17_0) = (F_NH_divide x2 x3 x4 x5 x6 t0_0 t0_1 t1_0 t1_1 t2_0 t3_0 t3_1 t4_0 t5_0 t5_1 t6_0 t7_0 t7_1 t8_0 t9_0 t9_1 t10_0 t10_1 t11_0 t12_0 t12_1 t13_0 t13_1 t14_0 t15_0 t15_1 t16_0 t16_1 t17_0)) := by
  intro sz
  refine q_intoX (by decide) (Nat.le_of_ble_eq_true rfl) ?_
  intro p e s m below meth c ls hsz C0 V hno hl
  have hx := C0.1
  have hb := C0.2.1
  have btt0_1 := n_w30 hI hT0
  clear btt0_1
  have btt1_1 := (q_bigW hI (n_b10 g q) hT1).2
  clear btt1_1
  have btt3_1 := (q_bigW hI (n_b12 g q) hT3).2
  clear btt3_1
  have btt5_1 := (q_bigW hI (n_b22 g q) hT5).2
  clear btt5_1
  have btt7_1 := (q_bigW hI (n_b20 g q) hT7).2
  clear btt7_1
  have btt9_1 := (n_deW hI hBd2 hT9).2
  clear btt9_1
  have btt10_1 := (q_bigW hI hBd2.2 hT10).2
  clear btt10_1
  have btt12_1 := (n_deW hI hBd3 hT12).2
  clear btt12_1
  have btt13_1 := (q_bigW hI hBd3.2 hT13).2
  clear btt13_1
  have btt15_1 := (n_deW hI hBd4 hT15).2
  clear btt15_1
  have btt16_1 := (q_bigW hI hBd4.2 hT16).2
  clear btt16_1
  have hF : q_un ws ws [10, 11, 12, 13, 20, 21, 22, 23, 30, d3 + 1, d3 + 2, d4, d4 + 1, d4 + 2] := q_u0
  have hl : lv_has ls 6 [(0, .ref (q 0)), (1, .int x2), (2, .int x3), (3, .int x4), (4, .int x5), (5, .int x6)] := hl
  refine lv_iload_n hx hb d_1_13_0 rfl (lv_at hl 1 rfl) ?_
  refine q_goi V (q_runS (As := [.int x2]) (rest := []) (d := 1) (mc := 0) (ms := 0) C0 V rfl LS_NH_212 (X_NH_isRegister l D g q ws  x2 hI   _) rfl hl.1 rfl (Nat.le_of_ble_eq_true rfl) ⟨by decide, by decide⟩ ⟨Nat.le_of_ble_eq_true rfl, Nat.le_of_ble_eq_true rfl⟩ d_1_13_1) (fun a78 u76 H locs hp77 V => ?_)
  obtain ⟨rfl, b79, b80, hE81⟩ := hp77
  have e82 : a78 = (F_NH_isRegister x2) := hE81
  clear b79
  clear b80
  refine q_join (X := Int32) (fun z H locs ls _ => q_F (0 ≤ z.toInt) ∧ q_F (z.toInt ≤ 1) ∧ q_Wd D g (va_A ws sz) s ws H locs ∧ lv_has ls 6 [(0, .ref (q 0)), (1, .int x2), (2, .int x3), (3, .int x4), (4, .int x5), (5, .int x6)] ∧ F_NH_divide_J42 x2 x3 x4 x5 x6 t0_0 t0_1 t1_0 t1_1 t2_0 t3_0 t3_1 t4_0 t5_0 t5_1 t6_0 t7_0 t7_1 t8_0 t9_0 t9_1 t10_0 t10_1 t11_0 t12_0 t12_1 t13_0 t13_1 t14_0 t15_0 t15_1 t16_0 t16_1 t17_0 z = (F_NH_divide x2 x3 x4 x5 x6 t0_0 t0_1 t1_0 t1_1 t2_0 t3_0 t3_1 t4_0 t5_0 t5_1 t6_0 t7_0 t7_1 t8_0 t9_0 t9_1 t10_0 t10_1 t11_0 t12_0 t12_1 t13_0 t13_1 t14_0 t15_0 t15_1 t16_0 t16_1 t17_0) ∧ True ∧ S_NH_divide_J42 x2 x3 x4 x5 x6 t0_0 t0_1 t1_0 t1_1 t2_0 t3_0 t3_1 t4_0 t5_0 t5_1 t6_0 t7_0 t7_1 t8_0 t9_0 t9_1 t10_0 t10_1 t11_0 t12_0 t12_1 t13_0 t13_1 t14_0 t15_0 t15_1 t16_0 t16_1 t17_0 z) (fun z => [.int z]) 42 0 0 ?_ ?_
  ·
    rintro lx83 H locs ls _ hZ9
    obtain ⟨i103, hZ9⟩ := hZ9
    obtain ⟨i104, hZ9⟩ := hZ9
    obtain ⟨V, hZ9⟩ := hZ9
    obtain ⟨hl, hZ9⟩ := hZ9
    obtain ⟨hR105, hS106⟩ := hZ9
    replace i103 : q_F (0 ≤ lx83.toInt) := i103
    replace i104 : q_F (lx83.toInt ≤ 1) := i104
    replace hl : lv_has ls 6 [(0, .ref (q 0)), (1, .int x2), (2, .int x3), (3, .int x4), (4, .int x5), (5, .int x6)] := hl
    refine q_goxv V (q_runSX (As := [.int lx83]) (rest := []) (d := 7) (mc := 1) (ms := 6) C0 V rfl LS_NH_104 (X_NH_need l D g q ws  lx83 hlt hI  ⟨(by first | with_reducible exact q_fe i103 | (have t1 : 0 ≤ lx83.toInt := i103; omega)), (by first | with_reducible exact q_fe i104 | (have t1 : lx83.toInt ≤ 1 := i104; omega))⟩ _) rfl hl.1 rfl (Nat.le_of_ble_eq_true rfl) ⟨by decide, by decide⟩ ⟨Nat.le_of_ble_eq_true rfl, Nat.le_of_ble_eq_true rfl⟩ d_1_13_42) (fun qx Ex ce u110 H locs hp111 V hce hcv hcl => ?_) (fun u110 H locs hp111 V => ?_)
    ·
      obtain ⟨cx113, he114, hc115, rfl, hE112⟩ := hp111
      have c116 : ¬ (F_NH_need lx83) = (0 : Int32) := fun z => hc115 (((hE112) : cx113 = _).trans z)
      exact q_outT hno C0 V (⟨(F_NH_need lx83), (he114.trans (congrArg qE ((hE112) : cx113 = _))), c116, hI, hF, t0_0, t0_1, t1_0, t1_1, t2_0, t3_0, t3_1, t4_0, t5_0, t5_1, t6_0, t7_0, t7_1, t8_0, t13_0, t13_1, t14_0, t15_0, t15_1, t16_0, t16_1, t17_0, hT0, hT1, hT2, hT3, hT4, hT5, hT6, hT7, hT8, hT13, hT14, hT15, hT16, hT17, (show ((F_NH_need lx83), t0_0, t0_1, t1_0, t1_1, t2_0, t3_0, t3_1, t4_0, t5_0, t5_1, t6_0, t7_0, t7_1, t8_0, t13_0, t13_1, t14_0, t15_0, t15_1, t16_0, t16_1, t17_0) = (F_NH_divide x2 x3 x4 x5 x6 t0_0 t0_1 t1_0 t1_1 t2_0 t3_0 t3_1 t4_0 t5_0 t5_1 t6_0 t7_0 t7_1 t8_0 t9_0 t9_1 t10_0 t10_1 t11_0 t12_0 t12_1 t13_0 t13_1 t14_0 t15_0 t15_1 t16_0 t16_1 t17_0) from Eq.trans (by rw [F_NH_divide_J42.eq_1, if_neg c116]) hR105)⟩) hce hcv hcl (Nat.le_of_ble_eq_true rfl) (Nat.le_of_ble_eq_true rfl)
    ·
      obtain ⟨rfl, hE117⟩ := hp111
      have c116 : (F_NH_need lx83) = (0 : Int32) := ((hE117) : (0 : Int32) = _).symm
      refine lv_aload_n hx hb d_1_13_45 rfl (lv_at hl 0 rfl) ?_
      have hO119 := n_o0 hI
      refine q_get (ci := 0) (j := 3) (v := .ref (q 6)) C0 V i_NH rfl rfl hO119 (by decide) w_427 rfl d_1_13_46 ?_
      refine lv_iload_n hx hb d_1_13_49 rfl (lv_at hl 2 rfl) ?_
      have hX120 := n_fx hI (n_s6 g q)
      have ob121 : q_F (0 ≤ x3.toInt) := (by have h := hS106; rw [S_NH_divide_J42.eq_1] at h; rw [if_pos c116] at h; exact h.2.1)
      have ob122 : q_F (x3.toInt ≤ 9) := (by have h := hS106; rw [S_NH_divide_J42.eq_1] at h; rw [if_pos c116] at h; replace h := q_s2 h; exact h.2.1)
      have hj123 : x3.toNatClampNeg < 10 := by have z := q_clI (i := x3) (x := x3.toInt) rfl (by first | with_reducible exact q_fe ob121 | (have t1 : 0 ≤ x3.toInt := ob121; omega)); have t1 : 0 ≤ x3.toInt := ob121; have t2 : x3.toInt ≤ 9 := ob122; omega
      have hq124 := gd3x3 hj123
      refine q_aald (t := 5) (q := q d3) C0 V hX120 rfl (q_ix (x := x3.toInt) rfl (by first | with_reducible exact q_fe ob121 | (have t1 : 0 ≤ x3.toInt := ob121; omega)) (by have t1 : 0 ≤ x3.toInt := ob121; have t2 : x3.toInt ≤ 9 := ob122; omega)) (by rw [hq124]; exact n_fdv hj123) d_1_13_50 ?_
      refine q_get (ci := 3) (j := 0) (v := .ref (q (d3 + 1))) C0 V i_Dec rfl rfl hT12 (by decide) w_174 rfl d_1_13_51 ?_
      refine q_get (ci := 2) (j := 1) (v := .int t13_0) C0 V i_Big rfl rfl hT13 (by decide) w_91 rfl d_1_13_54 ?_
      refine q_join (X := Int32) (fun z H locs ls _ => q_F (0 ≤ z.toInt) ∧ q_F (z.toInt ≤ 1) ∧ q_Wd D g (va_A ws sz) s ws H locs ∧ lv_has ls 6 [(0, .ref (q 0)), (1, .int x2), (2, .int x3), (3, .int x4), (4, .int x5), (5, .int x6)] ∧ F_NH_divide_J65 x2 x3 x4 x5 x6 t0_0 t0_1 t1_0 t1_1 t2_0 t3_0 t3_1 t4_0 t5_0 t5_1 t6_0 t7_0 t7_1 t8_0 t9_0 t9_1 t10_0 t10_1 t11_0 t12_0 t12_1 t13_0 t13_1 t14_0 t15_0 t15_1 t16_0 t16_1 t17_0 lx83 z = (F_NH_divide x2 x3 x4 x5 x6 t0_0 t0_1 t1_0 t1_1 t2_0 t3_0 t3_1 t4_0 t5_0 t5_1 t6_0 t7_0 t7_1 t8_0 t9_0 t9_1 t10_0 t10_1 t11_0 t12_0 t12_1 t13_0 t13_1 t14_0 t15_0 t15_1 t16_0 t16_1 t17_0) ∧ True ∧ S_NH_divide_J65 x2 x3 x4 x5 x6 t0_0 t0_1 t1_0 t1_1 t2_0 t3_0 t3_1 t4_0 t5_0 t5_1 t6_0 t7_0 t7_1 t8_0 t9_0 t9_1 t10_0 t10_1 t11_0 t12_0 t12_1 t13_0 t13_1 t14_0 t15_0 t15_1 t16_0 t16_1 t17_0 lx83 z) (fun z => [.int z]) 65 1 6 ?_ ?_
      ·
        rintro lx125 H locs ls _ hZ9
        obtain ⟨i145, hZ9⟩ := hZ9
        obtain ⟨i146, hZ9⟩ := hZ9
        obtain ⟨V, hZ9⟩ := hZ9
        obtain ⟨hl, hZ9⟩ := hZ9
        obtain ⟨hR147, hS148⟩ := hZ9
        replace i145 : q_F (0 ≤ lx125.toInt) := i145
        replace i146 : q_F (lx125.toInt ≤ 1) := i146
        replace hl : lv_has ls 6 [(0, .ref (q 0)), (1, .int x2), (2, .int x3), (3, .int x4), (4, .int x5), (5, .int x6)] := hl
        refine q_goxv V (q_runSX (As := [.int lx125]) (rest := []) (d := 7) (mc := 1) (ms := 6) C0 V rfl LS_NH_138 (X_NH_canHave l D g q ws  lx125 hlt hI  ⟨(by first | with_reducible exact q_fe i145 | (have t1 : 0 ≤ lx125.toInt := i145; omega)), (by first | with_reducible exact q_fe i146 | (have t1 : lx125.toInt ≤ 1 := i146; omega))⟩ _) rfl hl.1 rfl (Nat.le_of_ble_eq_true rfl) ⟨by decide, by decide⟩ ⟨Nat.le_of_ble_eq_true rfl, Nat.le_of_ble_eq_true rfl⟩ d_1_13_65) (fun qx Ex ce u152 H locs hp153 V hce hcv hcl => ?_) (fun u152 H locs hp153 V => ?_)
        ·
          obtain ⟨cx155, he156, hc157, rfl, hE154⟩ := hp153
          have c158 : ¬ (F_NH_canHave lx125) = (0 : Int32) := fun z => hc157 (((hE154) : cx155 = _).trans z)
          exact q_outT hno C0 V (⟨(F_NH_canHave lx125), (he156.trans (congrArg qE ((hE154) : cx155 = _))), c158, hI, hF, t0_0, t0_1, t1_0, t1_1, t2_0, t3_0, t3_1, t4_0, t5_0, t5_1, t6_0, t7_0, t7_1, t8_0, t13_0, t13_1, t14_0, t15_0, t15_1, t16_0, t16_1, t17_0, hT0, hT1, hT2, hT3, hT4, hT5, hT6, hT7, hT8, hT13, hT14, hT15, hT16, hT17, (show ((F_NH_canHave lx125), t0_0, t0_1, t1_0, t1_1, t2_0, t3_0, t3_1, t4_0, t5_0, t5_1, t6_0, t7_0, t7_1, t8_0, t13_0, t13_1, t14_0, t15_0, t15_1, t16_0, t16_1, t17_0) = (F_NH_divide x2 x3 x4 x5 x6 t0_0 t0_1 t1_0 t1_1 t2_0 t3_0 t3_1 t4_0 t5_0 t5_1 t6_0 t7_0 t7_1 t8_0 t9_0 t9_1 t10_0 t10_1 t11_0 t12_0 t12_1 t13_0 t13_1 t14_0 t15_0 t15_1 t16_0 t16_1 t17_0) from Eq.trans (by rw [F_NH_divide_J65.eq_1, if_neg c158]) hR147)⟩) hce hcv hcl (Nat.le_of_ble_eq_true rfl) (Nat.le_of_ble_eq_true rfl)
        ·
          obtain ⟨rfl, hE159⟩ := hp153
          have c158 : (F_NH_canHave lx125) = (0 : Int32) := ((hE159) : (0 : Int32) = _).symm
          refine lv_aload_n hx hb d_1_13_68 rfl (lv_at hl 0 rfl) ?_
          refine q_get (ci := 0) (j := 7) (v := .ref (q 30)) C0 V i_NH rfl rfl hO119 (by decide) w_431 rfl d_1_13_69 ?_
          refine lv_aload_n hx hb d_1_13_72 rfl (lv_at hl 0 rfl) ?_
          refine q_get (ci := 0) (j := 3) (v := .ref (q 6)) C0 V i_NH rfl rfl hO119 (by decide) w_427 rfl d_1_13_73 ?_
          refine lv_iload_n hx hb d_1_13_76 rfl (lv_at hl 1 rfl) ?_
          have hX161 := n_fx hI (n_s6 g q)
          have ob162 : q_F (0 ≤ x2.toInt) := (by have h := hS148; rw [S_NH_divide_J65.eq_1] at h; rw [if_pos c158] at h; exact h.2.1)
          have ob163 : q_F (x2.toInt ≤ 9) := (by have h := hS148; rw [S_NH_divide_J65.eq_1] at h; rw [if_pos c158] at h; replace h := q_s2 h; exact h.2.1)
          have hj164 : x2.toNatClampNeg < 10 := by have z := q_clI (i := x2) (x := x2.toInt) rfl (by first | with_reducible exact q_fe ob162 | (have t1 : 0 ≤ x2.toInt := ob162; omega)); have t1 : 0 ≤ x2.toInt := ob162; have t2 : x2.toInt ≤ 9 := ob163; omega
          have hq165 := gd2x2 hj164
          refine q_aald (t := 5) (q := q d2) C0 V hX161 rfl (q_ix (x := x2.toInt) rfl (by first | with_reducible exact q_fe ob162 | (have t1 : 0 ≤ x2.toInt := ob162; omega)) (by have t1 : 0 ≤ x2.toInt := ob162; have t2 : x2.toInt ≤ 9 := ob163; omega)) (by rw [hq165]; exact n_fdv hj164) d_1_13_77 ?_
          refine lv_aload_n hx hb d_1_13_78 rfl (lv_at hl 0 rfl) ?_
          refine q_get (ci := 0) (j := 3) (v := .ref (q 6)) C0 V i_NH rfl rfl hO119 (by decide) w_427 rfl d_1_13_79 ?_
          refine lv_iload_n hx hb d_1_13_82 rfl (lv_at hl 2 rfl) ?_
          have hX166 := n_fx hI (n_s6 g q)
          have hj167 : x3.toNatClampNeg < 10 := by have z := q_clI (i := x3) (x := x3.toInt) rfl (by first | with_reducible exact q_fe ob121 | (have t1 : 0 ≤ x3.toInt := ob121; omega)); have t1 : 0 ≤ x3.toInt := ob121; have t2 : x3.toInt ≤ 9 := ob122; omega
          have hq168 := gd3x3 hj167
          refine q_aald (t := 5) (q := q d3) C0 V hX166 rfl (q_ix (x := x3.toInt) rfl (by first | with_reducible exact q_fe ob121 | (have t1 : 0 ≤ x3.toInt := ob121; omega)) (by have t1 : 0 ≤ x3.toInt := ob121; have t2 : x3.toInt ≤ 9 := ob122; omega)) (by rw [hq168]; exact n_fdv hj167) d_1_13_83 ?_
          refine lv_iload hx hb d_1_13_84 (lv_at hl 4 rfl) ?_
          refine lv_iload hx hb d_1_13_86 (lv_at hl 5 rfl) ?_
          have ob169 : True ∧ S_DW_divideToScale (108 : Int32) (108 : Int32) x5 x6 t0_0 t0_1 t1_0 t1_1 t2_0 t3_0 t3_1 t4_0 t5_0 t5_1 t6_0 t9_0 t9_1 t10_0 t10_1 t11_0 t12_0 t12_1 t13_0 t13_1 t14_0 := (by have h := hS148; rw [S_NH_divide_J65.eq_1] at h; rw [if_pos c158] at h; replace h := q_s2 h; replace h := q_s2 h; with_reducible exact h.2.1)
          refine q_goi V (q_runV (As := [.ref (q d2), .ref (q d3), .int x5, .int x6]) (rest := []) (d := 6) (mc := 0) (ms := 0) (ci := 5) C0 V rfl LV_NH_302 (X_DW_divideToScale l D g q ws d2 108 hBd2 (Or.inr yd2) d3 108 hBd3 (Or.inr yd3) x5 x6 (by have z0 := yd2; omega) (by have z0 := yd2; omega) (by have z0 := yd2; omega) (by have z0 := yd2; omega) (by have z0 := yd2; omega) (by have z0 := yd2; omega) (by have z0 := yd2; omega) (by have z0 := yd2; omega) (by have z0 := yd2; omega) (by have z0 := yd2; omega) (by have z0 := yd2; omega) (by have z0 := yd2; omega) (by have z0 := yd2; omega) (by have z0 := yd2; omega) (by have z0 := yd3; omega) (by have z0 := yd3; omega) (by have z0 := yd3; omega) (by have z0 := yd3; omega) (by have z0 := yd3; omega) (by have z0 := yd3; omega) (by have z0 := yd3; omega) (by have z0 := yd3; omega) (by have z0 := yd3; omega) (by have z0 := yd3; omega) (by have z0 := yd3; omega) (by have z0 := yd3; omega) (by have z0 := yd3; omega) (by have z0 := yd3; omega) (by have z := ne_d2_d3; omega) (by have z := ne_d2_d3p1; omega) (by have z := ne_d2_d3p2; omega) (by have z := ne_d3_d2p1; omega) (by have z := ne_d3_d2p2; omega) hI t0_0 t0_1 hT0 t1_0 t1_1 hT1 t2_0 hT2 t3_0 t3_1 hT3 t4_0 hT4 t5_0 t5_1 hT5 t6_0 hT6 t9_0 t9_1 hT9 t10_0 t10_1 hT10 t11_0 hT11 t12_0 t12_1 hT12 t13_0 t13_1 hT13 t14_0 hT14 ob169 _) rfl rfl hT0 rfl hl.1 rfl (Nat.le_of_ble_eq_true rfl) ⟨by decide, by decide⟩ ⟨Nat.le_of_ble_eq_true rfl, Nat.le_of_ble_eq_true rfl⟩ d_1_13_88) (fun a172 u170 H locs hp171 V => ?_)
          obtain ⟨hI, hZ9⟩ := hp171
          obtain ⟨hu225, hZ9⟩ := hZ9
          obtain ⟨y174, hZ9⟩ := hZ9
          obtain ⟨y175, hZ9⟩ := hZ9
          obtain ⟨y177, hZ9⟩ := hZ9
          obtain ⟨y178, hZ9⟩ := hZ9
          obtain ⟨f179, hZ9⟩ := hZ9
          obtain ⟨y182, hZ9⟩ := hZ9
          obtain ⟨y183, hZ9⟩ := hZ9
          obtain ⟨f184, hZ9⟩ := hZ9
          obtain ⟨y187, hZ9⟩ := hZ9
          obtain ⟨y188, hZ9⟩ := hZ9
          obtain ⟨f189, hZ9⟩ := hZ9
          obtain ⟨y192, hZ9⟩ := hZ9
          obtain ⟨y193, hZ9⟩ := hZ9
          obtain ⟨f194, hZ9⟩ := hZ9
          obtain ⟨hO173, hZ9⟩ := hZ9
          obtain ⟨hO176, hZ9⟩ := hZ9
          obtain ⟨hA180, hZ9⟩ := hZ9
          obtain ⟨hO181, hZ9⟩ := hZ9
          obtain ⟨hA185, hZ9⟩ := hZ9
          obtain ⟨hO186, hZ9⟩ := hZ9
          obtain ⟨hA190, hZ9⟩ := hZ9
          obtain ⟨hO191, hZ9⟩ := hZ9
          obtain ⟨hA195, hZ9⟩ := hZ9
          obtain ⟨b196, hZ9⟩ := hZ9
          obtain ⟨b197, hZ9⟩ := hZ9
          obtain ⟨b198, hZ9⟩ := hZ9
          obtain ⟨b199, hZ9⟩ := hZ9
          obtain ⟨b200, hZ9⟩ := hZ9
          obtain ⟨b201, hZ9⟩ := hZ9
          obtain ⟨b202, hZ9⟩ := hZ9
          obtain ⟨b203, hZ9⟩ := hZ9
          obtain ⟨b204, hZ9⟩ := hZ9
          obtain ⟨b205, hZ9⟩ := hZ9
          obtain ⟨b206, hZ9⟩ := hZ9
          obtain ⟨b207, hZ9⟩ := hZ9
          obtain ⟨b208, hZ9⟩ := hZ9
          obtain ⟨b209, hZ9⟩ := hZ9
          obtain ⟨b210, hZ9⟩ := hZ9
          obtain ⟨b211, hZ9⟩ := hZ9
          obtain ⟨b212, hZ9⟩ := hZ9
          replace hZ9 := hZ9.2
          obtain ⟨b214, hZ9⟩ := hZ9
          obtain ⟨b215, hZ9⟩ := hZ9
          obtain ⟨b216, hZ9⟩ := hZ9
          obtain ⟨b217, hZ9⟩ := hZ9
          obtain ⟨b218, hZ9⟩ := hZ9
          obtain ⟨b219, hZ9⟩ := hZ9
          obtain ⟨b220, hZ9⟩ := hZ9
          replace hZ9 := hZ9.2
          obtain ⟨b222, hZ9⟩ := hZ9
          obtain ⟨b223, hE224⟩ := hZ9
          replace hO173 : u170[30]? = (some (q 30, .inr (5, [.ref (q 31), .long y174, .ref (q 9), .int y175])) : Option (Nat × va_E)) := hO173
          replace hO176 : u170[10]? = (some (q 10, .inr (2, [.ref (q 11), .int y177, .int y178])) : Option (Nat × va_E)) := hO176
          replace hA180 : u170[11]? = (some (q 11, .inl (g 0, (220 : Int32).toNatClampNeg, .inl f179)) : Option (Nat × va_E)) := hA180
          replace hO181 : u170[12]? = (some (q 12, .inr (2, [.ref (q 13), .int y182, .int y183])) : Option (Nat × va_E)) := hO181
          replace hA185 : u170[13]? = (some (q 13, .inl (g 0, (220 : Int32).toNatClampNeg, .inl f184)) : Option (Nat × va_E)) := hA185
          replace hO186 : u170[22]? = (some (q 22, .inr (2, [.ref (q 23), .int y187, .int y188])) : Option (Nat × va_E)) := hO186
          replace hA190 : u170[23]? = (some (q 23, .inl (g 0, (220 : Int32).toNatClampNeg, .inl f189)) : Option (Nat × va_E)) := hA190
          replace hO191 : u170[d3 + 1]? = (some (q (d3 + 1), .inr (2, [.ref (q (d3 + 2)), .int y192, .int y193])) : Option (Nat × va_E)) := hO191
          replace hA195 : u170[d3 + 2]? = (some (q (d3 + 2), .inl (g 0, (108 : Int32).toNatClampNeg, .inl f194)) : Option (Nat × va_E)) := hA195
          obtain ⟨p226, e227⟩ : ∃ z, z = (F_DW_divideToScale (108 : Int32) (108 : Int32) x5 x6 t0_0 t0_1 t1_0 t1_1 t2_0 t3_0 t3_1 t4_0 t5_0 t5_1 t6_0 t9_0 t9_1 t10_0 t10_1 t11_0 t12_0 t12_1 t13_0 t13_1 t14_0) := ⟨_, rfl⟩
          have e228 : a172 = p226.1 := congrArg (fun z => z.1) (hE224.trans e227.symm)
          have e229 : y174 = p226.2.1 := congrArg (fun z => z.2.1) (hE224.trans e227.symm)
          have e230 : y175 = p226.2.2.1 := congrArg (fun z => z.2.2.1) (hE224.trans e227.symm)
          have e231 : y177 = p226.2.2.2.1 := congrArg (fun z => z.2.2.2.1) (hE224.trans e227.symm)
          have e232 : y178 = p226.2.2.2.2.1 := congrArg (fun z => z.2.2.2.2.1) (hE224.trans e227.symm)
          have e233 : f179 = p226.2.2.2.2.2.1 := congrArg (fun z => z.2.2.2.2.2.1) (hE224.trans e227.symm)
          have e234 : y182 = p226.2.2.2.2.2.2.1 := congrArg (fun z => z.2.2.2.2.2.2.1) (hE224.trans e227.symm)
          have e235 : y183 = p226.2.2.2.2.2.2.2.1 := congrArg (fun z => z.2.2.2.2.2.2.2.1) (hE224.trans e227.symm)
          have e236 : f184 = p226.2.2.2.2.2.2.2.2.1 := congrArg (fun z => z.2.2.2.2.2.2.2.2.1) (hE224.trans e227.symm)
          have e237 : y187 = p226.2.2.2.2.2.2.2.2.2.1 := congrArg (fun z => z.2.2.2.2.2.2.2.2.2.1) (hE224.trans e227.symm)
          have e238 : y188 = p226.2.2.2.2.2.2.2.2.2.2.1 := congrArg (fun z => z.2.2.2.2.2.2.2.2.2.2.1) (hE224.trans e227.symm)
          have e239 : f189 = p226.2.2.2.2.2.2.2.2.2.2.2.1 := congrArg (fun z => z.2.2.2.2.2.2.2.2.2.2.2.1) (hE224.trans e227.symm)
          have e240 : y192 = p226.2.2.2.2.2.2.2.2.2.2.2.2.1 := congrArg (fun z => z.2.2.2.2.2.2.2.2.2.2.2.2.1) (hE224.trans e227.symm)
          have e241 : y193 = p226.2.2.2.2.2.2.2.2.2.2.2.2.2.1 := congrArg (fun z => z.2.2.2.2.2.2.2.2.2.2.2.2.2.1) (hE224.trans e227.symm)
          have e242 : f194 = p226.2.2.2.2.2.2.2.2.2.2.2.2.2.2 := congrArg (fun z => z.2.2.2.2.2.2.2.2.2.2.2.2.2.2) (hE224.trans e227.symm)
          replace b196 : q_F (0 ≤ a172.toInt) := b196
          replace b197 : q_F (a172.toInt ≤ 1) := b197
          replace b198 : q_F (0 ≤ y175.toInt) := b198
          replace b199 : q_F (y175.toInt ≤ 1) := b199
          replace b200 : q_F (0 ≤ y177.toInt) := b200
          replace b201 : q_F (y177.toInt ≤ 220) := b201
          replace b202 : q_F (0 ≤ y178.toInt) := b202
          replace b203 : q_F (y178.toInt ≤ 1) := b203
          replace b204 : q_F (0 ≤ y182.toInt) := b204
          replace b205 : q_F (y182.toInt ≤ 220) := b205
          replace b206 : q_F (0 ≤ y183.toInt) := b206
          replace b207 : q_F (y183.toInt ≤ 1) := b207
          replace b208 : q_F (0 ≤ y187.toInt) := b208
          replace b209 : q_F (y187.toInt ≤ 220) := b209
          replace b210 : q_F (0 ≤ y188.toInt) := b210
          replace b211 : q_F (y188.toInt ≤ 1) := b211
          replace b212 : q_F (0 ≤ y192.toInt) := b212
          replace b214 : q_F (0 ≤ y193.toInt) := b214
          replace b215 : q_F (y193.toInt ≤ 1) := b215
          replace b216 : q_F (x5.toInt ≤ y174.toInt) := b216
          replace b217 : q_F (y174.toInt ≤ x5.toInt) := b217
          replace b218 : q_F (y177.toInt ≤ t10_0.toInt + 219) := b218
          replace b219 : q_F (y178.toInt ≤ t10_0.toInt) := b219
          replace b220 : q_F (y183.toInt ≤ t3_1.toInt) := b220
          replace b222 : q_F (y192.toInt ≤ 108) := b222
          replace b223 : q_F (y193.toInt ≤ t13_1.toInt) := b223
          replace hT7 := (hu225 _ (by have z0 := yd3; simp only [List.mem_cons, List.not_mem_nil, or_false, not_or]; omega)).trans hT7
          replace hT8 := (hu225 _ (by have z0 := yd3; simp only [List.mem_cons, List.not_mem_nil, or_false, not_or]; omega)).trans hT8
          replace hT15 := (hu225 _ (q_nc (by have z0 := yd4; omega) (q_nc (by have z0 := yd4; omega) (q_nc (by have z0 := yd4; omega) (q_nc (by have z0 := yd4; omega) (q_nc (by have z0 := yd4; omega) (q_nc (by have z0 := yd4; omega) (q_nc (by have z0 := yd4; omega) (q_nc (by have z := ne_d4_d3p1; omega) (q_nc (by have z := ne_d4_d3p2; omega) List.not_mem_nil)))))))))).trans hT15
          replace hT16 := (hu225 _ (q_nc (by have z0 := yd4; omega) (q_nc (by have z0 := yd4; omega) (q_nc (by have z0 := yd4; omega) (q_nc (by have z0 := yd4; omega) (q_nc (by have z0 := yd4; omega) (q_nc (by have z0 := yd4; omega) (q_nc (by have z0 := yd4; omega) (q_nc (by have z := ne_d3_d4; omega) (q_nc (by have z := ne_d4_d3p1; omega) List.not_mem_nil)))))))))).trans hT16
          replace hT17 := (hu225 _ (q_nc (by have z0 := yd4; omega) (q_nc (by have z0 := yd4; omega) (q_nc (by have z0 := yd4; omega) (q_nc (by have z0 := yd4; omega) (q_nc (by have z0 := yd4; omega) (q_nc (by have z0 := yd4; omega) (q_nc (by have z0 := yd4; omega) (q_nc (by have z := ne_d3_d4p1; omega) (q_nc (by have z := ne_d3_d4; omega) List.not_mem_nil)))))))))).trans hT17
          replace hO119 := (hu225 _ (by have z0 := yd3; simp only [List.mem_cons, List.not_mem_nil, or_false, not_or]; omega)).trans hO119
          replace hF := q_uc hF hu225 (by simp)
          have hR243 := (show F_NH_divide_c88 x2 x3 x4 x5 x6 t0_0 t0_1 t1_0 t1_1 t2_0 t3_0 t3_1 t4_0 t5_0 t5_1 t6_0 t7_0 t7_1 t8_0 t9_0 t9_1 t10_0 t10_1 t11_0 t12_0 t12_1 t13_0 t13_1 t14_0 t15_0 t15_1 t16_0 t16_1 t17_0 lx83 lx125 p226 = (F_NH_divide x2 x3 x4 x5 x6 t0_0 t0_1 t1_0 t1_1 t2_0 t3_0 t3_1 t4_0 t5_0 t5_1 t6_0 t7_0 t7_1 t8_0 t9_0 t9_1 t10_0 t10_1 t11_0 t12_0 t12_1 t13_0 t13_1 t14_0 t15_0 t15_1 t16_0 t16_1 t17_0) from Eq.trans (by rw [e227, F_NH_divide_J65.eq_1, if_pos c158]) hR147)
          have hS244 := (show True ∧ S_NH_divide_c88 x2 x3 x4 x5 x6 t0_0 t0_1 t1_0 t1_1 t2_0 t3_0 t3_1 t4_0 t5_0 t5_1 t6_0 t7_0 t7_1 t8_0 t9_0 t9_1 t10_0 t10_1 t11_0 t12_0 t12_1 t13_0 t13_1 t14_0 t15_0 t15_1 t16_0 t16_1 t17_0 lx83 lx125 p226 from (by rw [e227]; have h := hS148; rw [S_NH_divide_J65.eq_1] at h; rw [if_pos c158] at h; replace h := q_s2 h; replace h := q_s2 h; replace h := q_s2 h; with_reducible exact h))
          refine q_goxv V (q_runSX (As := [.int a172]) (rest := []) (d := 7) (mc := 1) (ms := 6) C0 V rfl LS_NH_138 (X_NH_canHave l D g q u170  a172 hlt hI  ⟨(by first | with_reducible exact q_fe b196 | (have t1 : 0 ≤ a172.toInt := b196; omega)), (by first | with_reducible exact q_fe b197 | (have t1 : a172.toInt ≤ 1 := b197; omega))⟩ _) rfl hl.1 rfl (Nat.le_of_ble_eq_true rfl) ⟨by decide, by decide⟩ ⟨Nat.le_of_ble_eq_true rfl, Nat.le_of_ble_eq_true rfl⟩ d_1_13_91) (fun qx Ex ce u248 H locs hp249 V hce hcv hcl => ?_) (fun u248 H locs hp249 V => ?_)
          ·
            obtain ⟨cx251, he252, hc253, rfl, hE250⟩ := hp249
            have c254 : ¬ (F_NH_canHave a172) = (0 : Int32) := fun z => hc253 (((hE250) : cx251 = _).trans z)
            exact q_outT hno C0 V (⟨(F_NH_canHave a172), (he252.trans (congrArg qE ((hE250) : cx251 = _))), c254, hI, hF, y174, y175, y177, y178, f179, y182, y183, f184, y187, y188, f189, t7_0, t7_1, t8_0, y192, y193, f194, t15_0, t15_1, t16_0, t16_1, t17_0, hO173, hO176, hA180, hO181, hA185, hO186, hA190, hT7, hT8, hO191, hA195, hT15, hT16, hT17, (show ((F_NH_canHave a172), y174, y175, y177, y178, f179, y182, y183, f184, y187, y188, f189, t7_0, t7_1, t8_0, y192, y193, f194, t15_0, t15_1, t16_0, t16_1, t17_0) = (F_NH_divide x2 x3 x4 x5 x6 t0_0 t0_1 t1_0 t1_1 t2_0 t3_0 t3_1 t4_0 t5_0 t5_1 t6_0 t7_0 t7_1 t8_0 t9_0 t9_1 t10_0 t10_1 t11_0 t12_0 t12_1 t13_0 t13_1 t14_0 t15_0 t15_1 t16_0 t16_1 t17_0) from Eq.trans (by have c254x := c254; rw [e228] at c254x; rw [e242, e241, e240, e239, e238, e237, e236, e235, e234, e233, e232, e231, e230, e229, e228, F_NH_divide_c88.eq_1, if_neg c254x]) hR243)⟩) hce hcv hcl (Nat.le_of_ble_eq_true rfl) (Nat.le_of_ble_eq_true rfl)
          ·
            obtain ⟨rfl, hE255⟩ := hp249
            have c254 : (F_NH_canHave a172) = (0 : Int32) := ((hE255) : (0 : Int32) = _).symm
            refine lv_aload_n hx hb d_1_13_94 rfl (lv_at hl 0 rfl) ?_
            refine lv_iload_n hx hb d_1_13_95 rfl (lv_at hl 3 rfl) ?_
            have ob257 : True ∧ S_NH_keepDecimal x4 y174 y175 y177 y178 f179 t7_0 t7_1 t8_0 t15_0 t15_1 t16_0 t16_1 t17_0 := (by rw [e233, e232, e231, e230, e229]; have h := hS244; rw [S_NH_divide_c88.eq_1] at h; have c254x := c254; rw [e228] at c254x; rw [if_pos c254x] at h; with_reducible exact h.2.1)
            refine q_goxv V (q_runVX (As := [.int x4]) (rest := []) (d := 8) (mc := 1) (ms := 6) (ci := 0) C0 V rfl LV_NH_281 (X_NH_keepDecimal l D g q u170  x4 d4 hBd4 yd4 gd4x4 hlt hI y174 y175 hO173 y177 y178 hO176 f179 hA180 t7_0 t7_1 hT7 t8_0 hT8 t15_0 t15_1 hT15 t16_0 t16_1 hT16 t17_0 hT17 ob257 _) rfl rfl hO119 rfl hl.1 rfl (Nat.le_of_ble_eq_true rfl) ⟨by decide, by decide⟩ ⟨Nat.le_of_ble_eq_true rfl, Nat.le_of_ble_eq_true rfl⟩ d_1_13_96) (fun qx Ex ce u258 H locs hp259 V hce hcv hcl => ?_) (fun u258 H locs hp259 V => ?_)
            ·
              obtain ⟨cx274, hZ9⟩ := hp259
              obtain ⟨he275, hZ9⟩ := hZ9
              obtain ⟨hc276, hZ9⟩ := hZ9
              obtain ⟨hI, hZ9⟩ := hZ9
              obtain ⟨hu277, hZ9⟩ := hZ9
              obtain ⟨y261, hZ9⟩ := hZ9
              obtain ⟨y262, hZ9⟩ := hZ9
              obtain ⟨f263, hZ9⟩ := hZ9
              obtain ⟨y266, hZ9⟩ := hZ9
              obtain ⟨y267, hZ9⟩ := hZ9
              obtain ⟨y269, hZ9⟩ := hZ9
              obtain ⟨y270, hZ9⟩ := hZ9
              obtain ⟨f271, hZ9⟩ := hZ9
              obtain ⟨hO260, hZ9⟩ := hZ9
              obtain ⟨hA264, hZ9⟩ := hZ9
              obtain ⟨hO265, hZ9⟩ := hZ9
              obtain ⟨hO268, hZ9⟩ := hZ9
              obtain ⟨hA272, hE273⟩ := hZ9
              replace hO260 : u258[20]? = (some (q 20, .inr (2, [.ref (q 21), .int y261, .int y262])) : Option (Nat × va_E)) := hO260
              replace hA264 : u258[21]? = (some (q 21, .inl (g 0, (220 : Int32).toNatClampNeg, .inl f263)) : Option (Nat × va_E)) := hA264
              replace hO265 : u258[d4]? = (some (q d4, .inr (3, [.ref (q (d4 + 1)), .int y266, .int y267])) : Option (Nat × va_E)) := hO265
              replace hO268 : u258[d4 + 1]? = (some (q (d4 + 1), .inr (2, [.ref (q (d4 + 2)), .int y269, .int y270])) : Option (Nat × va_E)) := hO268
              replace hA272 : u258[d4 + 2]? = (some (q (d4 + 2), .inl (g 0, (108 : Int32).toNatClampNeg, .inl f271)) : Option (Nat × va_E)) := hA272
              obtain ⟨p278, e279⟩ : ∃ z, z = (F_NH_keepDecimal x4 y174 y175 y177 y178 f179 t7_0 t7_1 t8_0 t15_0 t15_1 t16_0 t16_1 t17_0) := ⟨_, rfl⟩
              have c280 : ¬ p278.1 = (0 : Int32) := fun z => hc276 (((congrArg (fun z => z.1) (hE273.trans e279.symm)) : cx274 = _).trans z)
              have e281 : y261 = p278.2.1 := congrArg (fun z => z.2.1) (hE273.trans e279.symm)
              have e282 : y262 = p278.2.2.1 := congrArg (fun z => z.2.2.1) (hE273.trans e279.symm)
              have e283 : f263 = p278.2.2.2.1 := congrArg (fun z => z.2.2.2.1) (hE273.trans e279.symm)
              have e284 : y266 = p278.2.2.2.2.1 := congrArg (fun z => z.2.2.2.2.1) (hE273.trans e279.symm)
              have e285 : y267 = p278.2.2.2.2.2.1 := congrArg (fun z => z.2.2.2.2.2.1) (hE273.trans e279.symm)
              have e286 : y269 = p278.2.2.2.2.2.2.1 := congrArg (fun z => z.2.2.2.2.2.2.1) (hE273.trans e279.symm)
              have e287 : y270 = p278.2.2.2.2.2.2.2.1 := congrArg (fun z => z.2.2.2.2.2.2.2.1) (hE273.trans e279.symm)
              have e288 : f271 = p278.2.2.2.2.2.2.2.2 := congrArg (fun z => z.2.2.2.2.2.2.2.2) (hE273.trans e279.symm)
              replace hO173 := (hu277 _ (by have z0 := yd4; simp only [List.mem_cons, List.not_mem_nil, or_false, not_or]; omega)).trans hO173
              replace hO176 := (hu277 _ (by have z0 := yd4; simp only [List.mem_cons, List.not_mem_nil, or_false, not_or]; omega)).trans hO176
              replace hA180 := (hu277 _ (by have z0 := yd4; simp only [List.mem_cons, List.not_mem_nil, or_false, not_or]; omega)).trans hA180
              replace hO181 := (hu277 _ (by have z0 := yd4; simp only [List.mem_cons, List.not_mem_nil, or_false, not_or]; omega)).trans hO181
              replace hA185 := (hu277 _ (by have z0 := yd4; simp only [List.mem_cons, List.not_mem_nil, or_false, not_or]; omega)).trans hA185
              replace hO186 := (hu277 _ (by have z0 := yd4; simp only [List.mem_cons, List.not_mem_nil, or_false, not_or]; omega)).trans hO186
              replace hA190 := (hu277 _ (by have z0 := yd4; simp only [List.mem_cons, List.not_mem_nil, or_false, not_or]; omega)).trans hA190
              replace hO191 := (hu277 _ (q_nc (by have z0 := yd3; omega) (q_nc (by have z0 := yd3; omega) (q_nc (by have z := ne_d4_d3p1; omega) (q_nc (by have z := ne_d3_d4; omega) (q_nc (by have z := ne_d3_d4p1; omega) List.not_mem_nil)))))).trans hO191
              replace hA195 := (hu277 _ (q_nc (by have z0 := yd3; omega) (q_nc (by have z0 := yd3; omega) (q_nc (by have z := ne_d4_d3p2; omega) (q_nc (by have z := ne_d4_d3p1; omega) (q_nc (by have z := ne_d3_d4; omega) List.not_mem_nil)))))).trans hA195
              replace hF := q_uc hF hu277 (by simp)
              have hR289 := (show F_NH_divide_c96 x2 x3 x4 x5 x6 t0_0 t0_1 t1_0 t1_1 t2_0 t3_0 t3_1 t4_0 t5_0 t5_1 t6_0 t7_0 t7_1 t8_0 t9_0 t9_1 t10_0 t10_1 t11_0 t12_0 t12_1 t13_0 t13_1 t14_0 t15_0 t15_1 t16_0 t16_1 t17_0 lx83 lx125 p226 y174 y175 y177 y178 f179 y182 y183 f184 y187 y188 f189 y192 y193 f194 p278 = (F_NH_divide x2 x3 x4 x5 x6 t0_0 t0_1 t1_0 t1_1 t2_0 t3_0 t3_1 t4_0 t5_0 t5_1 t6_0 t7_0 t7_1 t8_0 t9_0 t9_1 t10_0 t10_1 t11_0 t12_0 t12_1 t13_0 t13_1 t14_0 t15_0 t15_1 t16_0 t16_1 t17_0) from Eq.trans (by have c254x := c254; rw [e228] at c254x; rw [e279, e242, e241, e240, e239, e238, e237, e236, e235, e234, e233, e232, e231, e230, e229, F_NH_divide_c88.eq_1, if_pos c254x]) hR243)
              have hS290 := (show True ∧ S_NH_divide_c96 x2 x3 x4 x5 x6 t0_0 t0_1 t1_0 t1_1 t2_0 t3_0 t3_1 t4_0 t5_0 t5_1 t6_0 t7_0 t7_1 t8_0 t9_0 t9_1 t10_0 t10_1 t11_0 t12_0 t12_1 t13_0 t13_1 t14_0 t15_0 t15_1 t16_0 t16_1 t17_0 lx83 lx125 p226 y174 y175 y177 y178 f179 y182 y183 f184 y187 y188 f189 y192 y193 f194 p278 from (by rw [e279, e242, e241, e240, e239, e238, e237, e236, e235, e234, e233, e232, e231, e230, e229]; have h := hS244; rw [S_NH_divide_c88.eq_1] at h; have c254x := c254; rw [e228] at c254x; rw [if_pos c254x] at h; replace h := q_s2 h; with_reducible exact h))
              exact q_outT hno C0 V (⟨p278.1, (he275.trans (congrArg qE ((congrArg (fun z => z.1) (hE273.trans e279.symm)) : cx274 = _))), c280, hI, hF, y174, y175, y177, y178, f179, y182, y183, f184, y187, y188, f189, y261, y262, f263, y192, y193, f194, y266, y267, y269, y270, f271, hO173, hO176, hA180, hO181, hA185, hO186, hA190, hO260, hA264, hO191, hA195, hO265, hO268, hA272, (show (p278.1, y174, y175, y177, y178, f179, y182, y183, f184, y187, y188, f189, y261, y262, f263, y192, y193, f194, y266, y267, y269, y270, f271) = (F_NH_divide x2 x3 x4 x5 x6 t0_0 t0_1 t1_0 t1_1 t2_0 t3_0 t3_1 t4_0 t5_0 t5_1 t6_0 t7_0 t7_1 t8_0 t9_0 t9_1 t10_0 t10_1 t11_0 t12_0 t12_1 t13_0 t13_1 t14_0 t15_0 t15_1 t16_0 t16_1 t17_0) from Eq.trans (by rw [e288, e287, e286, e285, e284, e283, e282, e281, F_NH_divide_c96.eq_1, if_neg c280]) hR289)⟩) hce hcv hcl (Nat.le_of_ble_eq_true rfl) (Nat.le_of_ble_eq_true rfl)
            ·
              obtain ⟨hI, hZ9⟩ := hp259
              obtain ⟨hu332, hZ9⟩ := hZ9
              obtain ⟨y295, hZ9⟩ := hZ9
              obtain ⟨y296, hZ9⟩ := hZ9
              obtain ⟨f297, hZ9⟩ := hZ9
              obtain ⟨y300, hZ9⟩ := hZ9
              obtain ⟨y301, hZ9⟩ := hZ9
              obtain ⟨y303, hZ9⟩ := hZ9
              obtain ⟨y304, hZ9⟩ := hZ9
              obtain ⟨f305, hZ9⟩ := hZ9
              obtain ⟨hO294, hZ9⟩ := hZ9
              obtain ⟨hA298, hZ9⟩ := hZ9
              obtain ⟨hO299, hZ9⟩ := hZ9
              obtain ⟨hO302, hZ9⟩ := hZ9
              obtain ⟨hA306, hZ9⟩ := hZ9
              obtain ⟨b307, hZ9⟩ := hZ9
              obtain ⟨b308, hZ9⟩ := hZ9
              obtain ⟨b309, hZ9⟩ := hZ9
              obtain ⟨b310, hZ9⟩ := hZ9
              obtain ⟨b311, hZ9⟩ := hZ9
              obtain ⟨b312, hZ9⟩ := hZ9
              obtain ⟨b313, hZ9⟩ := hZ9
              obtain ⟨b314, hZ9⟩ := hZ9
              obtain ⟨b315, hZ9⟩ := hZ9
              obtain ⟨b316, hZ9⟩ := hZ9
              obtain ⟨b317, hZ9⟩ := hZ9
              obtain ⟨b318, hZ9⟩ := hZ9
              obtain ⟨b319, hZ9⟩ := hZ9
              obtain ⟨b320, hZ9⟩ := hZ9
              obtain ⟨b321, hZ9⟩ := hZ9
              obtain ⟨b322, hZ9⟩ := hZ9
              obtain ⟨b323, hZ9⟩ := hZ9
              obtain ⟨b324, hZ9⟩ := hZ9
              obtain ⟨b325, hZ9⟩ := hZ9
              obtain ⟨b326, hZ9⟩ := hZ9
              obtain ⟨b327, hZ9⟩ := hZ9
              obtain ⟨b328, hZ9⟩ := hZ9
              obtain ⟨b329, hZ9⟩ := hZ9
              obtain ⟨b330, hE331⟩ := hZ9
              replace hO294 : u258[20]? = (some (q 20, .inr (2, [.ref (q 21), .int y295, .int y296])) : Option (Nat × va_E)) := hO294
              replace hA298 : u258[21]? = (some (q 21, .inl (g 0, (220 : Int32).toNatClampNeg, .inl f297)) : Option (Nat × va_E)) := hA298
              replace hO299 : u258[d4]? = (some (q d4, .inr (3, [.ref (q (d4 + 1)), .int y300, .int y301])) : Option (Nat × va_E)) := hO299
              replace hO302 : u258[d4 + 1]? = (some (q (d4 + 1), .inr (2, [.ref (q (d4 + 2)), .int y303, .int y304])) : Option (Nat × va_E)) := hO302
              replace hA306 : u258[d4 + 2]? = (some (q (d4 + 2), .inl (g 0, (108 : Int32).toNatClampNeg, .inl f305)) : Option (Nat × va_E)) := hA306
              obtain ⟨p278, e279⟩ : ∃ z, z = (F_NH_keepDecimal x4 y174 y175 y177 y178 f179 t7_0 t7_1 t8_0 t15_0 t15_1 t16_0 t16_1 t17_0) := ⟨_, rfl⟩
              have c280 : p278.1 = (0 : Int32) := ((congrArg (fun z => z.1) (hE331.trans e279.symm)) : (0 : Int32) = _).symm
              have e334 : y295 = p278.2.1 := congrArg (fun z => z.2.1) (hE331.trans e279.symm)
              have e335 : y296 = p278.2.2.1 := congrArg (fun z => z.2.2.1) (hE331.trans e279.symm)
              have e336 : f297 = p278.2.2.2.1 := congrArg (fun z => z.2.2.2.1) (hE331.trans e279.symm)
              have e337 : y300 = p278.2.2.2.2.1 := congrArg (fun z => z.2.2.2.2.1) (hE331.trans e279.symm)
              have e338 : y301 = p278.2.2.2.2.2.1 := congrArg (fun z => z.2.2.2.2.2.1) (hE331.trans e279.symm)
              have e339 : y303 = p278.2.2.2.2.2.2.1 := congrArg (fun z => z.2.2.2.2.2.2.1) (hE331.trans e279.symm)
              have e340 : y304 = p278.2.2.2.2.2.2.2.1 := congrArg (fun z => z.2.2.2.2.2.2.2.1) (hE331.trans e279.symm)
              have e341 : f305 = p278.2.2.2.2.2.2.2.2 := congrArg (fun z => z.2.2.2.2.2.2.2.2) (hE331.trans e279.symm)
              replace b307 : q_F (0 ≤ y295.toInt) := b307
              replace b308 : q_F (y295.toInt ≤ 220) := b308
              replace b309 : q_F (0 ≤ y296.toInt) := b309
              replace b310 : q_F (y296.toInt ≤ 1) := b310
              replace b311 : q_F (0 ≤ y300.toInt + 10000) := b311
              replace b312 : q_F (y300.toInt ≤ 10000) := b312
              replace b313 : q_F (1 ≤ y301.toInt) := b313
              replace b314 : q_F (y301.toInt ≤ 1000) := b314
              replace b315 : q_F (0 ≤ y303.toInt) := b315
              replace b316 : q_F (y303.toInt ≤ 108) := b316
              replace b317 : q_F (0 ≤ y304.toInt) := b317
              replace b318 : q_F (y304.toInt ≤ 1) := b318
              replace b319 : q_F (x4.toInt ≤ y295.toInt + 9) := b319
              replace b320 : q_F (y295.toInt ≤ x4.toInt + 220) := b320
              replace b321 : q_F (x4.toInt ≤ y296.toInt + 9) := b321
              replace b322 : q_F (y296.toInt ≤ x4.toInt + 1) := b322
              replace b323 : q_F (x4.toInt ≤ y300.toInt + 10009) := b323
              replace b324 : q_F (y300.toInt ≤ x4.toInt + 10000) := b324
              replace b325 : q_F (x4.toInt ≤ y301.toInt + 8) := b325
              replace b326 : q_F (y301.toInt ≤ x4.toInt + 1000) := b326
              replace b327 : q_F (x4.toInt ≤ y303.toInt + 9) := b327
              replace b328 : q_F (y303.toInt ≤ x4.toInt + 108) := b328
              replace b329 : q_F (x4.toInt ≤ y304.toInt + 9) := b329
              replace b330 : q_F (y304.toInt ≤ x4.toInt + 1) := b330
              replace hO173 := (hu332 _ (by have z0 := yd4; simp only [List.mem_cons, List.not_mem_nil, or_false, not_or]; omega)).trans hO173
              replace hO176 := (hu332 _ (by have z0 := yd4; simp only [List.mem_cons, List.not_mem_nil, or_false, not_or]; omega)).trans hO176
              replace hA180 := (hu332 _ (by have z0 := yd4; simp only [List.mem_cons, List.not_mem_nil, or_false, not_or]; omega)).trans hA180
              replace hO181 := (hu332 _ (by have z0 := yd4; simp only [List.mem_cons, List.not_mem_nil, or_false, not_or]; omega)).trans hO181
              replace hA185 := (hu332 _ (by have z0 := yd4; simp only [List.mem_cons, List.not_mem_nil, or_false, not_or]; omega)).trans hA185
              replace hO186 := (hu332 _ (by have z0 := yd4; simp only [List.mem_cons, List.not_mem_nil, or_false, not_or]; omega)).trans hO186
              replace hA190 := (hu332 _ (by have z0 := yd4; simp only [List.mem_cons, List.not_mem_nil, or_false, not_or]; omega)).trans hA190
              replace hO191 := (hu332 _ (q_nc (by have z0 := yd3; omega) (q_nc (by have z0 := yd3; omega) (q_nc (by have z := ne_d4_d3p1; omega) (q_nc (by have z := ne_d3_d4; omega) (q_nc (by have z := ne_d3_d4p1; omega) List.not_mem_nil)))))).trans hO191
              replace hA195 := (hu332 _ (q_nc (by have z0 := yd3; omega) (q_nc (by have z0 := yd3; omega) (q_nc (by have z := ne_d4_d3p2; omega) (q_nc (by have z := ne_d4_d3p1; omega) (q_nc (by have z := ne_d3_d4; omega) List.not_mem_nil)))))).trans hA195
              replace hF := q_uc hF hu332 (by simp)
              have hR289 := (show F_NH_divide_c96 x2 x3 x4 x5 x6 t0_0 t0_1 t1_0 t1_1 t2_0 t3_0 t3_1 t4_0 t5_0 t5_1 t6_0 t7_0 t7_1 t8_0 t9_0 t9_1 t10_0 t10_1 t11_0 t12_0 t12_1 t13_0 t13_1 t14_0 t15_0 t15_1 t16_0 t16_1 t17_0 lx83 lx125 p226 y174 y175 y177 y178 f179 y182 y183 f184 y187 y188 f189 y192 y193 f194 p278 = (F_NH_divide x2 x3 x4 x5 x6 t0_0 t0_1 t1_0 t1_1 t2_0 t3_0 t3_1 t4_0 t5_0 t5_1 t6_0 t7_0 t7_1 t8_0 t9_0 t9_1 t10_0 t10_1 t11_0 t12_0 t12_1 t13_0 t13_1 t14_0 t15_0 t15_1 t16_0 t16_1 t17_0) from Eq.trans (by have c254x := c254; rw [e228] at c254x; rw [e279, e242, e241, e240, e239, e238, e237, e236, e235, e234, e233, e232, e231, e230, e229, F_NH_divide_c88.eq_1, if_pos c254x]) hR243)
              have hS290 := (show True ∧ S_NH_divide_c96 x2 x3 x4 x5 x6 t0_0 t0_1 t1_0 t1_1 t2_0 t3_0 t3_1 t4_0 t5_0 t5_1 t6_0 t7_0 t7_1 t8_0 t9_0 t9_1 t10_0 t10_1 t11_0 t12_0 t12_1 t13_0 t13_1 t14_0 t15_0 t15_1 t16_0 t16_1 t17_0 lx83 lx125 p226 y174 y175 y177 y178 f179 y182 y183 f184 y187 y188 f189 y192 y193 f194 p278 from (by rw [e279, e242, e241, e240, e239, e238, e237, e236, e235, e234, e233, e232, e231, e230, e229]; have h := hS244; rw [S_NH_divide_c88.eq_1] at h; have c254x := c254; rw [e228] at c254x; rw [if_pos c254x] at h; replace h := q_s2 h; with_reducible exact h))
              exact q_retX (q_retv C0 V (⟨hI, hF, y174, y175, y177, y178, f179, y182, y183, f184, y187, y188, f189, y295, y296, f297, y192, y193, f194, y300, y301, y303, y304, f305, hO173, hO176, hA180, hO181, hA185, hO186, hA190, hO294, hA298, hO191, hA195, hO299, hO302, hA306, (show 0 ≤ y175.toInt from (by first | with_reducible exact q_fe b198 | (have t1 : 0 ≤ y175.toInt := b198; omega))), (show y175.toInt ≤ 1 from (by first | with_reducible exact q_fe b199 | (have t1 : y175.toInt ≤ 1 := b199; omega))), (show 0 ≤ y177.toInt from (by first | with_reducible exact q_fe b200 | (have t1 : 0 ≤ y177.toInt := b200; omega))), (show y177.toInt ≤ 220 from (by first | with_reducible exact q_fe b201 | (have t1 : y177.toInt ≤ 220 := b201; omega))), (show 0 ≤ y178.toInt from (by first | with_reducible exact q_fe b202 | (have t1 : 0 ≤ y178.toInt := b202; omega))), (show y178.toInt ≤ 1 from (by first | with_reducible exact q_fe b203 | (have t1 : y178.toInt ≤ 1 := b203; omega))), (show 0 ≤ y182.toInt from (by first | with_reducible exact q_fe b204 | (have t1 : 0 ≤ y182.toInt := b204; omega))), (show y182.toInt ≤ 220 from (by first | with_reducible exact q_fe b205 | (have t1 : y182.toInt ≤ 220 := b205; omega))), (show 0 ≤ y183.toInt from (by first | with_reducible exact q_fe b206 | (have t1 : 0 ≤ y183.toInt := b206; omega))), (show y183.toInt ≤ 1 from (by first | with_reducible exact q_fe b207 | (have t1 : y183.toInt ≤ 1 := b207; omega))), (show 0 ≤ y187.toInt from (by first | with_reducible exact q_fe b208 | (have t1 : 0 ≤ y187.toInt := b208; omega))), (show y187.toInt ≤ 220 from (by first | with_reducible exact q_fe b209 | (have t1 : y187.toInt ≤ 220 := b209; omega))), (show 0 ≤ y188.toInt from (by first | with_reducible exact q_fe b210 | (have t1 : 0 ≤ y188.toInt := b210; omega))), (show y188.toInt ≤ 1 from (by first | with_reducible exact q_fe b211 | (have t1 : y188.toInt ≤ 1 := b211; omega))), (show 0 ≤ y295.toInt from (by first | with_reducible exact q_fe b307 | (have t1 : 0 ≤ y295.toInt := b307; omega))), (show y295.toInt ≤ 220 from (by first | with_reducible exact q_fe b308 | (have t1 : y295.toInt ≤ 220 := b308; omega))), (show 0 ≤ y296.toInt from (by first | with_reducible exact q_fe b309 | (have t1 : 0 ≤ y296.toInt := b309; omega))), (show y296.toInt ≤ 1 from (by first | with_reducible exact q_fe b310 | (have t1 : y296.toInt ≤ 1 := b310; omega))), (show 0 ≤ y192.toInt from (by first | with_reducible exact q_fe b212 | (have t1 : 0 ≤ y192.toInt := b212; omega))), (show y192.toInt ≤ 108 from (by first | with_reducible exact q_fe b222 | (have t1 : y192.toInt ≤ 108 := b222; omega))), (show 0 ≤ y193.toInt from (by first | with_reducible exact q_fe b214 | (have t1 : 0 ≤ y193.toInt := b214; omega))), (show y193.toInt ≤ 1 from (by first | with_reducible exact q_fe b215 | (have t1 : y193.toInt ≤ 1 := b215; omega))), (show 0 ≤ y300.toInt + 10000 from (by first | with_reducible exact q_fe b311 | (have t1 : 0 ≤ y300.toInt + 10000 := b311; omega))), (show y300.toInt ≤ 10000 from (by first | with_reducible exact q_fe b312 | (have t1 : y300.toInt ≤ 10000 := b312; omega))), (show 1 ≤ y301.toInt from (by first | with_reducible exact q_fe b313 | (have t1 : 1 ≤ y301.toInt := b313; omega))), (show y301.toInt ≤ 1000 from (by first | with_reducible exact q_fe b314 | (have t1 : y301.toInt ≤ 1000 := b314; omega))), (show 0 ≤ y303.toInt from (by first | with_reducible exact q_fe b315 | (have t1 : 0 ≤ y303.toInt := b315; omega))), (show y303.toInt ≤ 108 from (by first | with_reducible exact q_fe b316 | (have t1 : y303.toInt ≤ 108 := b316; omega))), (show 0 ≤ y304.toInt from (by first | with_reducible exact q_fe b317 | (have t1 : 0 ≤ y304.toInt := b317; omega))), (show y304.toInt ≤ 1 from (by first | with_reducible exact q_fe b318 | (have t1 : y304.toInt ≤ 1 := b318; omega))), (show x5.toInt ≤ y174.toInt from (by first | with_reducible exact q_fe b216 | (have t1 : x5.toInt ≤ y174.toInt := b216; omega))), (show y174.toInt ≤ x5.toInt from (by first | with_reducible exact q_fe b217 | (have t1 : y174.toInt ≤ x5.toInt := b217; omega))), (show x2.toInt ≤ y175.toInt + 9 from (by have t1 : x2.toInt ≤ 9 := ob163; have t2 : 0 ≤ y175.toInt := b198; omega)), (show y175.toInt ≤ x2.toInt + 1 from (by have t1 : 0 ≤ x2.toInt := ob162; have t2 : y175.toInt ≤ 1 := b199; omega)), (show x3.toInt ≤ y175.toInt + 9 from (by have t1 : x3.toInt ≤ 9 := ob122; have t2 : 0 ≤ y175.toInt := b198; omega)), (show y175.toInt ≤ x3.toInt + 1 from (by have t1 : 0 ≤ x3.toInt := ob121; have t2 : y175.toInt ≤ 1 := b199; omega)), (show x2.toInt ≤ y177.toInt + 9 from (by have t1 : x2.toInt ≤ 9 := ob163; have t2 : 0 ≤ y177.toInt := b200; omega)), (show y177.toInt ≤ x2.toInt + 220 from (by have t1 : 0 ≤ x2.toInt := ob162; have t2 : y177.toInt ≤ 220 := b201; omega)), (show x3.toInt ≤ y177.toInt + 9 from (by have t1 : x3.toInt ≤ 9 := ob122; have t2 : 0 ≤ y177.toInt := b200; omega)), (show y177.toInt ≤ x3.toInt + 220 from (by have t1 : 0 ≤ x3.toInt := ob121; have t2 : y177.toInt ≤ 220 := b201; omega)), (show y177.toInt ≤ t10_0.toInt + 219 from (by first | with_reducible exact q_fe b218 | (have t1 : y177.toInt ≤ t10_0.toInt + 219 := b218; omega))), (show x2.toInt ≤ y178.toInt + 9 from (by have t1 : x2.toInt ≤ 9 := ob163; have t2 : 0 ≤ y178.toInt := b202; omega)), (show y178.toInt ≤ x2.toInt + 1 from (by have t1 : 0 ≤ x2.toInt := ob162; have t2 : y178.toInt ≤ 1 := b203; omega)), (show x3.toInt ≤ y178.toInt + 9 from (by have t1 : x3.toInt ≤ 9 := ob122; have t2 : 0 ≤ y178.toInt := b202; omega)), (show y178.toInt ≤ x3.toInt + 1 from (by have t1 : 0 ≤ x3.toInt := ob121; have t2 : y178.toInt ≤ 1 := b203; omega)), (show y178.toInt ≤ t10_0.toInt from (by first | with_reducible exact q_fe b219 | (have t1 : y178.toInt ≤ t10_0.toInt := b219; omega))), (show x2.toInt ≤ y182.toInt + 9 from (by have t1 : x2.toInt ≤ 9 := ob163; have t2 : 0 ≤ y182.toInt := b204; omega)), (show y182.toInt ≤ x2.toInt + 220 from (by have t1 : 0 ≤ x2.toInt := ob162; have t2 : y182.toInt ≤ 220 := b205; omega)), (show x3.toInt ≤ y182.toInt + 9 from (by have t1 : x3.toInt ≤ 9 := ob122; have t2 : 0 ≤ y182.toInt := b204; omega)), (show y182.toInt ≤ x3.toInt + 220 from (by have t1 : 0 ≤ x3.toInt := ob121; have t2 : y182.toInt ≤ 220 := b205; omega)), (show x2.toInt ≤ y183.toInt + 9 from (by have t1 : x2.toInt ≤ 9 := ob163; have t2 : 0 ≤ y183.toInt := b206; omega)), (show y183.toInt ≤ x2.toInt + 1 from (by have t1 : 0 ≤ x2.toInt := ob162; have t2 : y183.toInt ≤ 1 := b207; omega)), (show x3.toInt ≤ y183.toInt + 9 from (by have t1 : x3.toInt ≤ 9 := ob122; have t2 : 0 ≤ y183.toInt := b206; omega)), (show y183.toInt ≤ x3.toInt + 1 from (by have t1 : 0 ≤ x3.toInt := ob121; have t2 : y183.toInt ≤ 1 := b207; omega)), (show y183.toInt ≤ t3_1.toInt from (by first | with_reducible exact q_fe b220 | (have t1 : y183.toInt ≤ t3_1.toInt := b220; omega))), (show x2.toInt ≤ y187.toInt + 9 from (by have t1 : x2.toInt ≤ 9 := ob163; have t2 : 0 ≤ y187.toInt := b208; omega)), (show y187.toInt ≤ x2.toInt + 220 from (by have t1 : 0 ≤ x2.toInt := ob162; have t2 : y187.toInt ≤ 220 := b209; omega)), (show x3.toInt ≤ y187.toInt + 9 from (by have t1 : x3.toInt ≤ 9 := ob122; have t2 : 0 ≤ y187.toInt := b208; omega)), (show y187.toInt ≤ x3.toInt + 220 from (by have t1 : 0 ≤ x3.toInt := ob121; have t2 : y187.toInt ≤ 220 := b209; omega)), (show x2.toInt ≤ y188.toInt + 9 from (by have t1 : x2.toInt ≤ 9 := ob163; have t2 : 0 ≤ y188.toInt := b210; omega)), (show y188.toInt ≤ x2.toInt + 1 from (by have t1 : 0 ≤ x2.toInt := ob162; have t2 : y188.toInt ≤ 1 := b211; omega)), (show x3.toInt ≤ y188.toInt + 9 from (by have t1 : x3.toInt ≤ 9 := ob122; have t2 : 0 ≤ y188.toInt := b210; omega)), (show y188.toInt ≤ x3.toInt + 1 from (by have t1 : 0 ≤ x3.toInt := ob121; have t2 : y188.toInt ≤ 1 := b211; omega)), (show x2.toInt ≤ y295.toInt + 9 from (by have t1 : x2.toInt ≤ 9 := ob163; have t2 : 0 ≤ y295.toInt := b307; omega)), (show y295.toInt ≤ x2.toInt + 220 from (by have t1 : 0 ≤ x2.toInt := ob162; have t2 : y295.toInt ≤ 220 := b308; omega)), (show x3.toInt ≤ y295.toInt + 9 from (by have t1 : x3.toInt ≤ 9 := ob122; have t2 : 0 ≤ y295.toInt := b307; omega)), (show y295.toInt ≤ x3.toInt + 220 from (by have t1 : 0 ≤ x3.toInt := ob121; have t2 : y295.toInt ≤ 220 := b308; omega)), (show x4.toInt ≤ y295.toInt + 9 from (by first | with_reducible exact q_fe b319 | (have t1 : x4.toInt ≤ y295.toInt + 9 := b319; omega))), (show y295.toInt ≤ x4.toInt + 220 from (by first | with_reducible exact q_fe b320 | (have t1 : y295.toInt ≤ x4.toInt + 220 := b320; omega))), (show x2.toInt ≤ y296.toInt + 9 from (by have t1 : x2.toInt ≤ 9 := ob163; have t2 : 0 ≤ y296.toInt := b309; omega)), (show y296.toInt ≤ x2.toInt + 1 from (by have t1 : 0 ≤ x2.toInt := ob162; have t2 : y296.toInt ≤ 1 := b310; omega)), (show x3.toInt ≤ y296.toInt + 9 from (by have t1 : x3.toInt ≤ 9 := ob122; have t2 : 0 ≤ y296.toInt := b309; omega)), (show y296.toInt ≤ x3.toInt + 1 from (by have t1 : 0 ≤ x3.toInt := ob121; have t2 : y296.toInt ≤ 1 := b310; omega)), (show x4.toInt ≤ y296.toInt + 9 from (by first | with_reducible exact q_fe b321 | (have t1 : x4.toInt ≤ y296.toInt + 9 := b321; omega))), (show y296.toInt ≤ x4.toInt + 1 from (by first | with_reducible exact q_fe b322 | (have t1 : y296.toInt ≤ x4.toInt + 1 := b322; omega))), (show x2.toInt ≤ y192.toInt + 9 from (by have t1 : x2.toInt ≤ 9 := ob163; have t2 : 0 ≤ y192.toInt := b212; omega)), (show y192.toInt ≤ x2.toInt + 108 from (by have t1 : 0 ≤ x2.toInt := ob162; have t2 : y192.toInt ≤ 108 := b222; omega)), (show x3.toInt ≤ y192.toInt + 9 from (by have t1 : x3.toInt ≤ 9 := ob122; have t2 : 0 ≤ y192.toInt := b212; omega)), (show y192.toInt ≤ x3.toInt + 108 from (by have t1 : 0 ≤ x3.toInt := ob121; have t2 : y192.toInt ≤ 108 := b222; omega)), (show x2.toInt ≤ y193.toInt + 9 from (by have t1 : x2.toInt ≤ 9 := ob163; have t2 : 0 ≤ y193.toInt := b214; omega)), (show y193.toInt ≤ x2.toInt + 1 from (by have t1 : 0 ≤ x2.toInt := ob162; have t2 : y193.toInt ≤ 1 := b215; omega)), (show x3.toInt ≤ y193.toInt + 9 from (by have t1 : x3.toInt ≤ 9 := ob122; have t2 : 0 ≤ y193.toInt := b214; omega)), (show y193.toInt ≤ x3.toInt + 1 from (by have t1 : 0 ≤ x3.toInt := ob121; have t2 : y193.toInt ≤ 1 := b215; omega)), (show y193.toInt ≤ t13_1.toInt from (by first | with_reducible exact q_fe b223 | (have t1 : y193.toInt ≤ t13_1.toInt := b223; omega))), (show x2.toInt ≤ y300.toInt + 10009 from (by have t1 : x2.toInt ≤ 9 := ob163; have t2 : 0 ≤ y300.toInt + 10000 := b311; omega)), (show y300.toInt ≤ x2.toInt + 10000 from (by have t1 : 0 ≤ x2.toInt := ob162; have t2 : y300.toInt ≤ 10000 := b312; omega)), (show x3.toInt ≤ y300.toInt + 10009 from (by have t1 : x3.toInt ≤ 9 := ob122; have t2 : 0 ≤ y300.toInt + 10000 := b311; omega)), (show y300.toInt ≤ x3.toInt + 10000 from (by have t1 : 0 ≤ x3.toInt := ob121; have t2 : y300.toInt ≤ 10000 := b312; omega)), (show x4.toInt ≤ y300.toInt + 10009 from (by first | with_reducible exact q_fe b323 | (have t1 : x4.toInt ≤ y300.toInt + 10009 := b323; omega))), (show y300.toInt ≤ x4.toInt + 10000 from (by first | with_reducible exact q_fe b324 | (have t1 : y300.toInt ≤ x4.toInt + 10000 := b324; omega))), (show x2.toInt ≤ y301.toInt + 8 from (by have t1 : x2.toInt ≤ 9 := ob163; have t2 : 1 ≤ y301.toInt := b313; omega)), (show y301.toInt ≤ x2.toInt + 1000 from (by have t1 : 0 ≤ x2.toInt := ob162; have t2 : y301.toInt ≤ 1000 := b314; omega)), (show x3.toInt ≤ y301.toInt + 8 from (by have t1 : x3.toInt ≤ 9 := ob122; have t2 : 1 ≤ y301.toInt := b313; omega)), (show y301.toInt ≤ x3.toInt + 1000 from (by have t1 : 0 ≤ x3.toInt := ob121; have t2 : y301.toInt ≤ 1000 := b314; omega)), (show x4.toInt ≤ y301.toInt + 8 from (by first | with_reducible exact q_fe b325 | (have t1 : x4.toInt ≤ y301.toInt + 8 := b325; omega))), (show y301.toInt ≤ x4.toInt + 1000 from (by first | with_reducible exact q_fe b326 | (have t1 : y301.toInt ≤ x4.toInt + 1000 := b326; omega))), (show x2.toInt ≤ y303.toInt + 9 from (by have t1 : x2.toInt ≤ 9 := ob163; have t2 : 0 ≤ y303.toInt := b315; omega)), (show y303.toInt ≤ x2.toInt + 108 from (by have t1 : 0 ≤ x2.toInt := ob162; have t2 : y303.toInt ≤ 108 := b316; omega)), (show x3.toInt ≤ y303.toInt + 9 from (by have t1 : x3.toInt ≤ 9 := ob122; have t2 : 0 ≤ y303.toInt := b315; omega)), (show y303.toInt ≤ x3.toInt + 108 from (by have t1 : 0 ≤ x3.toInt := ob121; have t2 : y303.toInt ≤ 108 := b316; omega)), (show x4.toInt ≤ y303.toInt + 9 from (by first | with_reducible exact q_fe b327 | (have t1 : x4.toInt ≤ y303.toInt + 9 := b327; omega))), (show y303.toInt ≤ x4.toInt + 108 from (by first | with_reducible exact q_fe b328 | (have t1 : y303.toInt ≤ x4.toInt + 108 := b328; omega))), (show x2.toInt ≤ y304.toInt + 9 from (by have t1 : x2.toInt ≤ 9 := ob163; have t2 : 0 ≤ y304.toInt := b317; omega)), (show y304.toInt ≤ x2.toInt + 1 from (by have t1 : 0 ≤ x2.toInt := ob162; have t2 : y304.toInt ≤ 1 := b318; omega)), (show x3.toInt ≤ y304.toInt + 9 from (by have t1 : x3.toInt ≤ 9 := ob122; have t2 : 0 ≤ y304.toInt := b317; omega)), (show y304.toInt ≤ x3.toInt + 1 from (by have t1 : 0 ≤ x3.toInt := ob121; have t2 : y304.toInt ≤ 1 := b318; omega)), (show x4.toInt ≤ y304.toInt + 9 from (by first | with_reducible exact q_fe b329 | (have t1 : x4.toInt ≤ y304.toInt + 9 := b329; omega))), (show y304.toInt ≤ x4.toInt + 1 from (by first | with_reducible exact q_fe b330 | (have t1 : y304.toInt ≤ x4.toInt + 1 := b330; omega))), (show ((0 : Int32), y174, y175, y177, y178, f179, y182, y183, f184, y187, y188, f189, y295, y296, f297, y192, y193, f194, y300, y301, y303, y304, f305) = (F_NH_divide x2 x3 x4 x5 x6 t0_0 t0_1 t1_0 t1_1 t2_0 t3_0 t3_1 t4_0 t5_0 t5_1 t6_0 t7_0 t7_1 t8_0 t9_0 t9_1 t10_0 t10_1 t11_0 t12_0 t12_1 t13_0 t13_1 t14_0 t15_0 t15_1 t16_0 t16_1 t17_0) from Eq.trans (by rw [e341, e340, e339, e338, e337, e336, e335, e334, F_NH_divide_c96.eq_1, if_pos c280]) hR289)⟩) d_1_13_99)
      ·
        intro J144
        refine lv_if_le (tgt := 64) hx hb d_1_13_57 (by decide) (fun c342 => ?_) (fun c342 => ?_)
        ·
          refine lv_iconst (v := 0) hx hb d_1_13_64 (by decide) ?_
          exact J144 ((0 : Int32)) _ _ _ ws ⟨(show q_F (0 ≤ 0) from (show 0 ≤ 0 from by omega)), (show q_F (0 ≤ 1) from (show 0 ≤ 1 from by omega)), V, q_lw hl (q_lw1 0 rfl (q_lw1 1 rfl (q_lw1 2 rfl (q_lw1 3 rfl (q_lw1 4 rfl (q_lw1 5 rfl q_lw0)))))), (show F_NH_divide_J65 x2 x3 x4 x5 x6 t0_0 t0_1 t1_0 t1_1 t2_0 t3_0 t3_1 t4_0 t5_0 t5_1 t6_0 t7_0 t7_1 t8_0 t9_0 t9_1 t10_0 t10_1 t11_0 t12_0 t12_1 t13_0 t13_1 t14_0 t15_0 t15_1 t16_0 t16_1 t17_0 lx83 0 = (F_NH_divide x2 x3 x4 x5 x6 t0_0 t0_1 t1_0 t1_1 t2_0 t3_0 t3_1 t4_0 t5_0 t5_1 t6_0 t7_0 t7_1 t8_0 t9_0 t9_1 t10_0 t10_1 t11_0 t12_0 t12_1 t13_0 t13_1 t14_0 t15_0 t15_1 t16_0 t16_1 t17_0) from Eq.trans (by rw [F_NH_divide_J42.eq_1, if_pos c116, if_pos c342]) hR105), (show True ∧ S_NH_divide_J65 x2 x3 x4 x5 x6 t0_0 t0_1 t1_0 t1_1 t2_0 t3_0 t3_1 t4_0 t5_0 t5_1 t6_0 t7_0 t7_1 t8_0 t9_0 t9_1 t10_0 t10_1 t11_0 t12_0 t12_1 t13_0 t13_1 t14_0 t15_0 t15_1 t16_0 t16_1 t17_0 lx83 0 from (by have h := hS106; rw [S_NH_divide_J42.eq_1] at h; rw [if_pos c116] at h; replace h := q_s2 h; replace h := q_s2 h; rw [if_pos c342] at h; with_reducible exact h))⟩
        ·
          refine lv_iconst (v := 1) hx hb d_1_13_60 (by decide) ?_
          refine lv_goto (tgt := 65) hx hb d_1_13_61 (by decide) ?_
          exact J144 ((1 : Int32)) _ _ _ ws ⟨(show q_F (0 ≤ 1) from (show 0 ≤ 1 from by omega)), (show q_F (1 ≤ 1) from (show 1 ≤ 1 from by omega)), V, q_lw hl (q_lw1 0 rfl (q_lw1 1 rfl (q_lw1 2 rfl (q_lw1 3 rfl (q_lw1 4 rfl (q_lw1 5 rfl q_lw0)))))), (show F_NH_divide_J65 x2 x3 x4 x5 x6 t0_0 t0_1 t1_0 t1_1 t2_0 t3_0 t3_1 t4_0 t5_0 t5_1 t6_0 t7_0 t7_1 t8_0 t9_0 t9_1 t10_0 t10_1 t11_0 t12_0 t12_1 t13_0 t13_1 t14_0 t15_0 t15_1 t16_0 t16_1 t17_0 lx83 1 = (F_NH_divide x2 x3 x4 x5 x6 t0_0 t0_1 t1_0 t1_1 t2_0 t3_0 t3_1 t4_0 t5_0 t5_1 t6_0 t7_0 t7_1 t8_0 t9_0 t9_1 t10_0 t10_1 t11_0 t12_0 t12_1 t13_0 t13_1 t14_0 t15_0 t15_1 t16_0 t16_1 t17_0) from Eq.trans (by rw [F_NH_divide_J42.eq_1, if_pos c116, if_neg c342]) hR105), (show True ∧ S_NH_divide_J65 x2 x3 x4 x5 x6 t0_0 t0_1 t1_0 t1_1 t2_0 t3_0 t3_1 t4_0 t5_0 t5_1 t6_0 t7_0 t7_1 t8_0 t9_0 t9_1 t10_0 t10_1 t11_0 t12_0 t12_1 t13_0 t13_1 t14_0 t15_0 t15_1 t16_0 t16_1 t17_0 lx83 1 from (by have h := hS106; rw [S_NH_divide_J42.eq_1] at h; rw [if_pos c116] at h; replace h := q_s2 h; replace h := q_s2 h; rw [if_neg c342] at h; with_reducible exact h))⟩
  ·
    intro J102
    refine q_join (X := Unit) (fun z H locs ls _ => q_Wd D g (va_A ws sz) s ws H locs ∧ lv_has ls 6 [(0, .ref (q 0)), (1, .int x2), (2, .int x3), (3, .int x4), (4, .int x5), (5, .int x6)] ∧ F_NH_divide_J41 x2 x3 x4 x5 x6 t0_0 t0_1 t1_0 t1_1 t2_0 t3_0 t3_1 t4_0 t5_0 t5_1 t6_0 t7_0 t7_1 t8_0 t9_0 t9_1 t10_0 t10_1 t11_0 t12_0 t12_1 t13_0 t13_1 t14_0 t15_0 t15_1 t16_0 t16_1 t17_0 = (F_NH_divide x2 x3 x4 x5 x6 t0_0 t0_1 t1_0 t1_1 t2_0 t3_0 t3_1 t4_0 t5_0 t5_1 t6_0 t7_0 t7_1 t8_0 t9_0 t9_1 t10_0 t10_1 t11_0 t12_0 t12_1 t13_0 t13_1 t14_0 t15_0 t15_1 t16_0 t16_1 t17_0) ∧ True ∧ S_NH_divide_J41 x2 x3 x4 x5 x6 t0_0 t0_1 t1_0 t1_1 t2_0 t3_0 t3_1 t4_0 t5_0 t5_1 t6_0 t7_0 t7_1 t8_0 t9_0 t9_1 t10_0 t10_1 t11_0 t12_0 t12_1 t13_0 t13_1 t14_0 t15_0 t15_1 t16_0 t16_1 t17_0) (fun z => []) 41 0 0 ?_ ?_
    ·
      rintro _ H locs ls _ ⟨V, hl, hR364, hS365⟩
      replace hl : lv_has ls 6 [(0, .ref (q 0)), (1, .int x2), (2, .int x3), (3, .int x4), (4, .int x5), (5, .int x6)] := hl
      refine lv_iconst (v := 0) hx hb d_1_13_41 (by decide) ?_
      exact J102 ((0 : Int32)) _ _ _ ws ⟨(show q_F (0 ≤ 0) from (show 0 ≤ 0 from by omega)), (show q_F (0 ≤ 1) from (show 0 ≤ 1 from by omega)), V, q_lw hl (q_lw1 0 rfl (q_lw1 1 rfl (q_lw1 2 rfl (q_lw1 3 rfl (q_lw1 4 rfl (q_lw1 5 rfl q_lw0)))))), (show F_NH_divide_J42 x2 x3 x4 x5 x6 t0_0 t0_1 t1_0 t1_1 t2_0 t3_0 t3_1 t4_0 t5_0 t5_1 t6_0 t7_0 t7_1 t8_0 t9_0 t9_1 t10_0 t10_1 t11_0 t12_0 t12_1 t13_0 t13_1 t14_0 t15_0 t15_1 t16_0 t16_1 t17_0 0 = (F_NH_divide x2 x3 x4 x5 x6 t0_0 t0_1 t1_0 t1_1 t2_0 t3_0 t3_1 t4_0 t5_0 t5_1 t6_0 t7_0 t7_1 t8_0 t9_0 t9_1 t10_0 t10_1 t11_0 t12_0 t12_1 t13_0 t13_1 t14_0 t15_0 t15_1 t16_0 t16_1 t17_0) from Eq.trans (by rw [F_NH_divide_J41.eq_1]) hR364), (show True ∧ S_NH_divide_J42 x2 x3 x4 x5 x6 t0_0 t0_1 t1_0 t1_1 t2_0 t3_0 t3_1 t4_0 t5_0 t5_1 t6_0 t7_0 t7_1 t8_0 t9_0 t9_1 t10_0 t10_1 t11_0 t12_0 t12_1 t13_0 t13_1 t14_0 t15_0 t15_1 t16_0 t16_1 t17_0 0 from (by have h := hS365; rw [S_NH_divide_J41.eq_1] at h; with_reducible exact h))⟩
    ·
      intro J363
      refine lv_if_eq (tgt := 41) hx hb d_1_13_4 (by decide) (fun c369 => ?_) (fun c369 => ?_)
      ·
        exact J363 (()) _ _ _ ws ⟨V, q_lw hl (q_lw1 0 rfl (q_lw1 1 rfl (q_lw1 2 rfl (q_lw1 3 rfl (q_lw1 4 rfl (q_lw1 5 rfl q_lw0)))))), (show F_NH_divide_J41 x2 x3 x4 x5 x6 t0_0 t0_1 t1_0 t1_1 t2_0 t3_0 t3_1 t4_0 t5_0 t5_1 t6_0 t7_0 t7_1 t8_0 t9_0 t9_1 t10_0 t10_1 t11_0 t12_0 t12_1 t13_0 t13_1 t14_0 t15_0 t15_1 t16_0 t16_1 t17_0 = (F_NH_divide x2 x3 x4 x5 x6 t0_0 t0_1 t1_0 t1_1 t2_0 t3_0 t3_1 t4_0 t5_0 t5_1 t6_0 t7_0 t7_1 t8_0 t9_0 t9_1 t10_0 t10_1 t11_0 t12_0 t12_1 t13_0 t13_1 t14_0 t15_0 t15_1 t16_0 t16_1 t17_0) from (by have c369x := c369; rw [e82] at c369x; rw [F_NH_divide.eq_1, if_pos c369x])), (show True ∧ S_NH_divide_J41 x2 x3 x4 x5 x6 t0_0 t0_1 t1_0 t1_1 t2_0 t3_0 t3_1 t4_0 t5_0 t5_1 t6_0 t7_0 t7_1 t8_0 t9_0 t9_1 t10_0 t10_1 t11_0 t12_0 t12_1 t13_0 t13_1 t14_0 t15_0 t15_1 t16_0 t16_1 t17_0 from (by have h := hS; rw [S_NH_divide.eq_1] at h; have c369x := c369; rw [e82] at c369x; rw [if_pos c369x] at h; with_reducible exact h))⟩
      ·
        refine lv_iload_n hx hb d_1_13_7 rfl (lv_at hl 2 rfl) ?_
        refine q_goi V (q_runS (As := [.int x3]) (rest := []) (d := 1) (mc := 0) (ms := 0) C0 V rfl LS_NH_212 (X_NH_isRegister l D g q ws  x3 hI   _) rfl hl.1 rfl (Nat.le_of_ble_eq_true rfl) ⟨by decide, by decide⟩ ⟨Nat.le_of_ble_eq_true rfl, Nat.le_of_ble_eq_true rfl⟩ d_1_13_8) (fun a374 u372 H locs hp373 V => ?_)
        obtain ⟨rfl, b375, b376, hE377⟩ := hp373
        have e378 : a374 = (F_NH_isRegister x3) := hE377
        clear b375
        clear b376
        refine lv_if_eq (tgt := 41) hx hb d_1_13_11 (by decide) (fun c379 => ?_) (fun c379 => ?_)
        ·
          exact J363 (()) _ _ _ ws ⟨V, q_lw hl (q_lw1 0 rfl (q_lw1 1 rfl (q_lw1 2 rfl (q_lw1 3 rfl (q_lw1 4 rfl (q_lw1 5 rfl q_lw0)))))), (show F_NH_divide_J41 x2 x3 x4 x5 x6 t0_0 t0_1 t1_0 t1_1 t2_0 t3_0 t3_1 t4_0 t5_0 t5_1 t6_0 t7_0 t7_1 t8_0 t9_0 t9_1 t10_0 t10_1 t11_0 t12_0 t12_1 t13_0 t13_1 t14_0 t15_0 t15_1 t16_0 t16_1 t17_0 = (F_NH_divide x2 x3 x4 x5 x6 t0_0 t0_1 t1_0 t1_1 t2_0 t3_0 t3_1 t4_0 t5_0 t5_1 t6_0 t7_0 t7_1 t8_0 t9_0 t9_1 t10_0 t10_1 t11_0 t12_0 t12_1 t13_0 t13_1 t14_0 t15_0 t15_1 t16_0 t16_1 t17_0) from (by have c369x := c369; rw [e82] at c369x; have c379x := c379; rw [e378] at c379x; rw [F_NH_divide.eq_1, if_neg c369x, if_pos c379x])), (show True ∧ S_NH_divide_J41 x2 x3 x4 x5 x6 t0_0 t0_1 t1_0 t1_1 t2_0 t3_0 t3_1 t4_0 t5_0 t5_1 t6_0 t7_0 t7_1 t8_0 t9_0 t9_1 t10_0 t10_1 t11_0 t12_0 t12_1 t13_0 t13_1 t14_0 t15_0 t15_1 t16_0 t16_1 t17_0 from (by have h := hS; rw [S_NH_divide.eq_1] at h; have c369x := c369; rw [e82] at c369x; rw [if_neg c369x] at h; have c379x := c379; rw [e378] at c379x; rw [if_pos c379x] at h; with_reducible exact h))⟩
        ·
          refine lv_iload_n hx hb d_1_13_14 rfl (lv_at hl 3 rfl) ?_
          refine q_goi V (q_runS (As := [.int x4]) (rest := []) (d := 1) (mc := 0) (ms := 0) C0 V rfl LS_NH_212 (X_NH_isRegister l D g q ws  x4 hI   _) rfl hl.1 rfl (Nat.le_of_ble_eq_true rfl) ⟨by decide, by decide⟩ ⟨Nat.le_of_ble_eq_true rfl, Nat.le_of_ble_eq_true rfl⟩ d_1_13_15) (fun a384 u382 H locs hp383 V => ?_)
          obtain ⟨rfl, b385, b386, hE387⟩ := hp383
          have e388 : a384 = (F_NH_isRegister x4) := hE387
          clear b385
          clear b386
          refine lv_if_eq (tgt := 41) hx hb d_1_13_18 (by decide) (fun c389 => ?_) (fun c389 => ?_)
          ·
            exact J363 (()) _ _ _ ws ⟨V, q_lw hl (q_lw1 0 rfl (q_lw1 1 rfl (q_lw1 2 rfl (q_lw1 3 rfl (q_lw1 4 rfl (q_lw1 5 rfl q_lw0)))))), (show F_NH_divide_J41 x2 x3 x4 x5 x6 t0_0 t0_1 t1_0 t1_1 t2_0 t3_0 t3_1 t4_0 t5_0 t5_1 t6_0 t7_0 t7_1 t8_0 t9_0 t9_1 t10_0 t10_1 t11_0 t12_0 t12_1 t13_0 t13_1 t14_0 t15_0 t15_1 t16_0 t16_1 t17_0 = (F_NH_divide x2 x3 x4 x5 x6 t0_0 t0_1 t1_0 t1_1 t2_0 t3_0 t3_1 t4_0 t5_0 t5_1 t6_0 t7_0 t7_1 t8_0 t9_0 t9_1 t10_0 t10_1 t11_0 t12_0 t12_1 t13_0 t13_1 t14_0 t15_0 t15_1 t16_0 t16_1 t17_0) from (by have c369x := c369; rw [e82] at c369x; have c379x := c379; rw [e378] at c379x; have c389x := c389; rw [e388] at c389x; rw [F_NH_divide.eq_1, if_neg c369x, if_neg c379x, if_pos c389x])), (show True ∧ S_NH_divide_J41 x2 x3 x4 x5 x6 t0_0 t0_1 t1_0 t1_1 t2_0 t3_0 t3_1 t4_0 t5_0 t5_1 t6_0 t7_0 t7_1 t8_0 t9_0 t9_1 t10_0 t10_1 t11_0 t12_0 t12_1 t13_0 t13_1 t14_0 t15_0 t15_1 t16_0 t16_1 t17_0 from (by have h := hS; rw [S_NH_divide.eq_1] at h; have c369x := c369; rw [e82] at c369x; rw [if_neg c369x] at h; have c379x := c379; rw [e378] at c379x; rw [if_neg c379x] at h; have c389x := c389; rw [e388] at c389x; rw [if_pos c389x] at h; with_reducible exact h))⟩
          ·
            refine lv_iload hx hb d_1_13_21 (lv_at hl 5 rfl) ?_
            refine q_goi V (q_runS (As := [.int x6]) (rest := []) (d := 1) (mc := 0) (ms := 0) C0 V rfl LS_NH_296 (X_NH_isMode l D g q ws  x6 hI   _) rfl hl.1 rfl (Nat.le_of_ble_eq_true rfl) ⟨by decide, by decide⟩ ⟨Nat.le_of_ble_eq_true rfl, Nat.le_of_ble_eq_true rfl⟩ d_1_13_23) (fun a394 u392 H locs hp393 V => ?_)
            obtain ⟨rfl, b395, b396, hE397⟩ := hp393
            have e398 : a394 = (F_NH_isMode x6) := hE397
            clear b395
            clear b396
            refine lv_if_eq (tgt := 41) hx hb d_1_13_26 (by decide) (fun c399 => ?_) (fun c399 => ?_)
            ·
              exact J363 (()) _ _ _ ws ⟨V, q_lw hl (q_lw1 0 rfl (q_lw1 1 rfl (q_lw1 2 rfl (q_lw1 3 rfl (q_lw1 4 rfl (q_lw1 5 rfl q_lw0)))))), (show F_NH_divide_J41 x2 x3 x4 x5 x6 t0_0 t0_1 t1_0 t1_1 t2_0 t3_0 t3_1 t4_0 t5_0 t5_1 t6_0 t7_0 t7_1 t8_0 t9_0 t9_1 t10_0 t10_1 t11_0 t12_0 t12_1 t13_0 t13_1 t14_0 t15_0 t15_1 t16_0 t16_1 t17_0 = (F_NH_divide x2 x3 x4 x5 x6 t0_0 t0_1 t1_0 t1_1 t2_0 t3_0 t3_1 t4_0 t5_0 t5_1 t6_0 t7_0 t7_1 t8_0 t9_0 t9_1 t10_0 t10_1 t11_0 t12_0 t12_1 t13_0 t13_1 t14_0 t15_0 t15_1 t16_0 t16_1 t17_0) from (by have c369x := c369; rw [e82] at c369x; have c379x := c379; rw [e378] at c379x; have c389x := c389; rw [e388] at c389x; have c399x := c399; rw [e398] at c399x; rw [F_NH_divide.eq_1, if_neg c369x, if_neg c379x, if_neg c389x, if_pos c399x])), (show True ∧ S_NH_divide_J41 x2 x3 x4 x5 x6 t0_0 t0_1 t1_0 t1_1 t2_0 t3_0 t3_1 t4_0 t5_0 t5_1 t6_0 t7_0 t7_1 t8_0 t9_0 t9_1 t10_0 t10_1 t11_0 t12_0 t12_1 t13_0 t13_1 t14_0 t15_0 t15_1 t16_0 t16_1 t17_0 from (by have h := hS; rw [S_NH_divide.eq_1] at h; have c369x := c369; rw [e82] at c369x; rw [if_neg c369x] at h; have c379x := c379; rw [e378] at c379x; rw [if_neg c379x] at h; have c389x := c389; rw [e388] at c389x; rw [if_neg c389x] at h; have c399x := c399; rw [e398] at c399x; rw [if_pos c399x] at h; with_reducible exact h))⟩
            ·
              refine lv_iload hx hb d_1_13_29 (lv_at hl 4 rfl) ?_
              refine q_goi V (q_runS (As := [.int x5]) (rest := []) (d := 1) (mc := 0) (ms := 0) C0 V rfl LS_NH_299 (X_NH_isScale l D g q ws  x5 hI   _) rfl hl.1 rfl (Nat.le_of_ble_eq_true rfl) ⟨by decide, by decide⟩ ⟨Nat.le_of_ble_eq_true rfl, Nat.le_of_ble_eq_true rfl⟩ d_1_13_31) (fun a404 u402 H locs hp403 V => ?_)
              obtain ⟨rfl, b405, b406, hE407⟩ := hp403
              have e408 : a404 = (F_NH_isScale x5) := hE407
              clear b405
              clear b406
              refine lv_if_eq (tgt := 41) hx hb d_1_13_34 (by decide) (fun c409 => ?_) (fun c409 => ?_)
              ·
                exact J363 (()) _ _ _ ws ⟨V, q_lw hl (q_lw1 0 rfl (q_lw1 1 rfl (q_lw1 2 rfl (q_lw1 3 rfl (q_lw1 4 rfl (q_lw1 5 rfl q_lw0)))))), (show F_NH_divide_J41 x2 x3 x4 x5 x6 t0_0 t0_1 t1_0 t1_1 t2_0 t3_0 t3_1 t4_0 t5_0 t5_1 t6_0 t7_0 t7_1 t8_0 t9_0 t9_1 t10_0 t10_1 t11_0 t12_0 t12_1 t13_0 t13_1 t14_0 t15_0 t15_1 t16_0 t16_1 t17_0 = (F_NH_divide x2 x3 x4 x5 x6 t0_0 t0_1 t1_0 t1_1 t2_0 t3_0 t3_1 t4_0 t5_0 t5_1 t6_0 t7_0 t7_1 t8_0 t9_0 t9_1 t10_0 t10_1 t11_0 t12_0 t12_1 t13_0 t13_1 t14_0 t15_0 t15_1 t16_0 t16_1 t17_0) from (by have c369x := c369; rw [e82] at c369x; have c379x := c379; rw [e378] at c379x; have c389x := c389; rw [e388] at c389x; have c399x := c399; rw [e398] at c399x; have c409x := c409; rw [e408] at c409x; rw [F_NH_divide.eq_1, if_neg c369x, if_neg c379x, if_neg c389x, if_neg c399x, if_pos c409x])), (show True ∧ S_NH_divide_J41 x2 x3 x4 x5 x6 t0_0 t0_1 t1_0 t1_1 t2_0 t3_0 t3_1 t4_0 t5_0 t5_1 t6_0 t7_0 t7_1 t8_0 t9_0 t9_1 t10_0 t10_1 t11_0 t12_0 t12_1 t13_0 t13_1 t14_0 t15_0 t15_1 t16_0 t16_1 t17_0 from (by have h := hS; rw [S_NH_divide.eq_1] at h; have c369x := c369; rw [e82] at c369x; rw [if_neg c369x] at h; have c379x := c379; rw [e378] at c379x; rw [if_neg c379x] at h; have c389x := c389; rw [e388] at c389x; rw [if_neg c389x] at h; have c399x := c399; rw [e398] at c399x; rw [if_neg c399x] at h; have c409x := c409; rw [e408] at c409x; rw [if_pos c409x] at h; with_reducible exact h))⟩
              ·
                refine lv_iconst (v := 1) hx hb d_1_13_37 (by decide) ?_
                refine lv_goto (tgt := 42) hx hb d_1_13_38 (by decide) ?_
                exact J102 ((1 : Int32)) _ _ _ ws ⟨(show q_F (0 ≤ 1) from (show 0 ≤ 1 from by omega)), (show q_F (1 ≤ 1) from (show 1 ≤ 1 from by omega)), V, q_lw hl (q_lw1 0 rfl (q_lw1 1 rfl (q_lw1 2 rfl (q_lw1 3 rfl (q_lw1 4 rfl (q_lw1 5 rfl q_lw0)))))), (show F_NH_divide_J42 x2 x3 x4 x5 x6 t0_0 t0_1 t1_0 t1_1 t2_0 t3_0 t3_1 t4_0 t5_0 t5_1 t6_0 t7_0 t7_1 t8_0 t9_0 t9_1 t10_0 t10_1 t11_0 t12_0 t12_1 t13_0 t13_1 t14_0 t15_0 t15_1 t16_0 t16_1 t17_0 1 = (F_NH_divide x2 x3 x4 x5 x6 t0_0 t0_1 t1_0 t1_1 t2_0 t3_0 t3_1 t4_0 t5_0 t5_1 t6_0 t7_0 t7_1 t8_0 t9_0 t9_1 t10_0 t10_1 t11_0 t12_0 t12_1 t13_0 t13_1 t14_0 t15_0 t15_1 t16_0 t16_1 t17_0) from (by have c369x := c369; rw [e82] at c369x; have c379x := c379; rw [e378] at c379x; have c389x := c389; rw [e388] at c389x; have c399x := c399; rw [e398] at c399x; have c409x := c409; rw [e408] at c409x; rw [F_NH_divide.eq_1, if_neg c369x, if_neg c379x, if_neg c389x, if_neg c399x, if_neg c409x])), (show True ∧ S_NH_divide_J42 x2 x3 x4 x5 x6 t0_0 t0_1 t1_0 t1_1 t2_0 t3_0 t3_1 t4_0 t5_0 t5_1 t6_0 t7_0 t7_1 t8_0 t9_0 t9_1 t10_0 t10_1 t11_0 t12_0 t12_1 t13_0 t13_1 t14_0 t15_0 t15_1 t16_0 t16_1 t17_0 1 from (by have h := hS; rw [S_NH_divide.eq_1] at h; have c369x := c369; rw [e82] at c369x; rw [if_neg c369x] at h; have c379x := c379; rw [e378] at c379x; rw [if_neg c379x] at h; have c389x := c389; rw [e388] at c389x; rw [if_neg c389x] at h; have c399x := c399; rw [e398] at c399x; rw [if_neg c399x] at h; have c409x := c409; rw [e408] at c409x; rw [if_neg c409x] at h; with_reducible exact h))⟩

