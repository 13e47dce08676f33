theorem d_14_23_0 : decode prog_14_method_23_code 0 = .ok (.aload_n 0, 1) := by decide +kernel
theorem d_14_23_1 : decode prog_14_method_23_code 1 = .ok (.iload_n 1, 1) := by decide +kernel
theorem d_14_23_37 : decode prog_14_method_23_code 37 = .ok (.putfield 58, 3) := by decide +kernel
theorem d_14_23_40 : decode prog_14_method_23_code 40 = .ok (.aload_n 0, 1) := by decide +kernel
theorem d_14_23_41 : decode prog_14_method_23_code 41 = .ok (.getfield 58, 3) := by decide +kernel
theorem d_14_23_44 : decode prog_14_method_23_code 44 = .ok (.ifCond .le 4, 3) := by decide +kernel
theorem d_14_23_48 : decode prog_14_method_23_code 48 = .ok (.iload_n 1, 1) := by decide +kernel
theorem d_14_23_49 : decode prog_14_method_23_code 49 = .ok (.iconst 2, 1) := by decide +kernel
theorem d_14_23_50 : decode prog_14_method_23_code 50 = .ok (.if_icmp .ge 27, 3) := by decide +kernel
theorem d_14_23_77 : decode prog_14_method_23_code 77 = .ok (.iload_n 1, 1) := by decide +kernel
theorem d_14_23_78 : decode prog_14_method_23_code 78 = .ok (.iconst 2, 1) := by decide +kernel
theorem d_14_23_79 : decode prog_14_method_23_code 79 = .ok (.if_icmp .ne 17, 3) := by decide +kernel
theorem d_14_23_96 : decode prog_14_method_23_code 96 = .ok (.aload_n 0, 1) := by decide +kernel
theorem d_14_23_97 : decode prog_14_method_23_code 97 = .ok (.getfield 26, 3) := by decide +kernel
theorem d_14_23_100 : decode prog_14_method_23_code 100 = .ok (.iload_n 2, 1) := by decide +kernel
theorem d_14_23_101 : decode prog_14_method_23_code 101 = .ok (.iload_n 3, 1) := by decide +kernel
theorem d_14_23_102 : decode prog_14_method_23_code 102 = .ok (.iload 4, 2) := by decide +kernel
theorem d_14_23_104 : decode prog_14_method_23_code 104 = .ok (.invokevirtual 205, 3) := by decide +kernel
set_option maxRecDepth 100000 in
theorem w_2801 : (Cond.code ({ cls := "NumberHouseModel$DecimalRows", name := "remainder", desc := "(III)V" } : MethodName) prog_15_method_39_code (14 : Nat) (none : Option ClassFile.FieldType)) ∈ q_tbl := q_of12 161 rfl (by decide +kernel)
set_option maxRecDepth 100000 in
theorem w_2798 : (Cond.methodLink "NumberHouseModel" (205 : Nat) ({ cls := "NumberHouseModel$DecimalRows", name := "remainder", desc := "(III)V" } : MethodName)) ∈ q_tbl := q_of12 158 rfl (by decide +kernel)
set_option maxRecDepth 100000 in
theorem w_2799 : (Cond.instanceMethod ({ cls := "NumberHouseModel$DecimalRows", name := "remainder", desc := "(III)V" } : MethodName)) ∈ q_tbl := q_of12 159 rfl (by decide +kernel)
set_option maxRecDepth 100000 in
theorem w_2800 : (Cond.selects "NumberHouseModel$DecimalRows" ({ cls := "NumberHouseModel$DecimalRows", name := "remainder", desc := "(III)V" } : MethodName) ({ cls := "NumberHouseModel$DecimalRows", name := "remainder", desc := "(III)V" } : MethodName)) ∈ q_tbl := q_of12 160 rfl (by decide +kernel)
theorem LV_NM_205 : q_LV "NumberHouseModel" 205 y_DR_remainder prog_15_method_39_code 14 none 3 := ⟨w_2801, w_16, w_2798, w_2799, w_2800, ⟨by decide, by decide, by decide +kernel⟩⟩
theorem d_14_23_107 : decode prog_14_method_23_code 107 = .ok (.aload_n 0, 1) := by decide +kernel
theorem d_14_23_108 : decode prog_14_method_23_code 108 = .ok (.aload_n 0, 1) := by decide +kernel
theorem d_14_23_109 : decode prog_14_method_23_code 109 = .ok (.getfield 26, 3) := by decide +kernel
theorem d_14_23_112 : decode prog_14_method_23_code 112 = .ok (.getfield 105, 3) := by decide +kernel
theorem d_14_23_115 : decode prog_14_method_23_code 115 = .ok (.putfield 58, 3) := by decide +kernel
theorem d_14_23_118 : decode prog_14_method_23_code 118 = .ok (.return_, 1) := by decide +kernel
theorem d_14_23_82 : decode prog_14_method_23_code 82 = .ok (.aload_n 0, 1) := by decide +kernel
theorem d_14_23_83 : decode prog_14_method_23_code 83 = .ok (.getfield 26, 3) := by decide +kernel
theorem d_14_23_86 : decode prog_14_method_23_code 86 = .ok (.iload_n 2, 1) := by decide +kernel
theorem d_14_23_87 : decode prog_14_method_23_code 87 = .ok (.iload_n 3, 1) := by decide +kernel
theorem d_14_23_88 : decode prog_14_method_23_code 88 = .ok (.iload 4, 2) := by decide +kernel
theorem d_14_23_90 : decode prog_14_method_23_code 90 = .ok (.invokevirtual 204, 3) := by decide +kernel
set_option maxRecDepth 100000 in
theorem w_2789 : (Cond.code ({ cls := "NumberHouseModel$DecimalRows", name := "multiply", desc := "(III)V" } : MethodName) prog_15_method_28_code (4 : Nat) (none : Option ClassFile.FieldType)) ∈ q_tbl := q_of12 149 rfl (by decide +kernel)
set_option maxRecDepth 100000 in
theorem w_2786 : (Cond.methodLink "NumberHouseModel" (204 : Nat) ({ cls := "NumberHouseModel$DecimalRows", name := "multiply", desc := "(III)V" } : MethodName)) ∈ q_tbl := q_of12 146 rfl (by decide +kernel)
set_option maxRecDepth 100000 in
theorem w_2787 : (Cond.instanceMethod ({ cls := "NumberHouseModel$DecimalRows", name := "multiply", desc := "(III)V" } : MethodName)) ∈ q_tbl := q_of12 147 rfl (by decide +kernel)
set_option maxRecDepth 100000 in
theorem w_2788 : (Cond.selects "NumberHouseModel$DecimalRows" ({ cls := "NumberHouseModel$DecimalRows", name := "multiply", desc := "(III)V" } : MethodName) ({ cls := "NumberHouseModel$DecimalRows", name := "multiply", desc := "(III)V" } : MethodName)) ∈ q_tbl := q_of12 148 rfl (by decide +kernel)
theorem LV_NM_204 : q_LV "NumberHouseModel" 204 y_DR_multiply prog_15_method_28_code 4 none 3 := ⟨w_2789, w_16, w_2786, w_2787, w_2788, ⟨by decide, by decide, by decide +kernel⟩⟩
theorem d_14_23_93 : decode prog_14_method_23_code 93 = .ok (.goto 14, 3) := by decide +kernel
theorem d_14_23_53 : decode prog_14_method_23_code 53 = .ok (.aload_n 0, 1) := by decide +kernel
theorem d_14_23_54 : decode prog_14_method_23_code 54 = .ok (.getfield 26, 3) := by decide +kernel
theorem d_14_23_57 : decode prog_14_method_23_code 57 = .ok (.iload_n 2, 1) := by decide +kernel
theorem d_14_23_58 : decode prog_14_method_23_code 58 = .ok (.iload_n 3, 1) := by decide +kernel
theorem d_14_23_59 : decode prog_14_method_23_code 59 = .ok (.iload 4, 2) := by decide +kernel
theorem d_14_23_61 : decode prog_14_method_23_code 61 = .ok (.iload_n 1, 1) := by decide +kernel
theorem d_14_23_62 : decode prog_14_method_23_code 62 = .ok (.iconst 1, 1) := by decide +kernel
theorem d_14_23_63 : decode prog_14_method_23_code 63 = .ok (.if_icmp .ne 7, 3) := by decide +kernel
theorem d_14_23_70 : decode prog_14_method_23_code 70 = .ok (.iconst 0, 1) := by decide +kernel
theorem d_14_23_71 : decode prog_14_method_23_code 71 = .ok (.invokevirtual 203, 3) := by decide +kernel
set_option maxRecDepth 100000 in
theorem w_2780 : (Cond.code ({ cls := "NumberHouseModel$DecimalRows", name := "add", desc := "(IIIZ)V" } : MethodName) prog_15_method_26_code (20 : Nat) (none : Option ClassFile.FieldType)) ∈ q_tbl := q_of12 140 rfl (by decide +kernel)
set_option maxRecDepth 100000 in
theorem w_2777 : (Cond.methodLink "NumberHouseModel" (203 : Nat) ({ cls := "NumberHouseModel$DecimalRows", name := "add", desc := "(IIIZ)V" } : MethodName)) ∈ q_tbl := q_of12 137 rfl (by decide +kernel)
set_option maxRecDepth 100000 in
theorem w_2778 : (Cond.instanceMethod ({ cls := "NumberHouseModel$DecimalRows", name := "add", desc := "(IIIZ)V" } : MethodName)) ∈ q_tbl := q_of12 138 rfl (by decide +kernel)
set_option maxRecDepth 100000 in
theorem w_2779 : (Cond.selects "NumberHouseModel$DecimalRows" ({ cls := "NumberHouseModel$DecimalRows", name := "add", desc := "(IIIZ)V" } : MethodName) ({ cls := "NumberHouseModel$DecimalRows", name := "add", desc := "(IIIZ)V" } : MethodName)) ∈ q_tbl := q_of12 139 rfl (by decide +kernel)
theorem LV_NM_203 : q_LV "NumberHouseModel" 203 y_DR_add prog_15_method_26_code 20 none 4 := ⟨w_2780, w_16, w_2777, w_2778, w_2779, ⟨by decide, by decide, by decide +kernel⟩⟩
theorem d_14_23_74 : decode prog_14_method_23_code 74 = .ok (.goto 33, 3) := by decide +kernel
theorem d_14_23_66 : decode prog_14_method_23_code 66 = .ok (.iconst 1, 1) := by decide +kernel
theorem d_14_23_67 : decode prog_14_method_23_code 67 = .ok (.goto 4, 3) := by decide +kernel
theorem d_14_23_47 : decode prog_14_method_23_code 47 = .ok (.return_, 1) := by decide +kernel
theorem d_14_23_32 : decode prog_14_method_23_code 32 = .ok (.iconst 1, 1) := by decide +kernel
theorem d_14_23_33 : decode prog_14_method_23_code 33 = .ok (.goto 4, 3) := by decide +kernel
theorem d_14_23_2 : decode prog_14_method_23_code 2 = .ok (.ifCond .lt 30, 3) := by decide +kernel
theorem d_14_23_5 : decode prog_14_method_23_code 5 = .ok (.iload_n 1, 1) := by decide +kernel
theorem d_14_23_6 : decode prog_14_method_23_code 6 = .ok (.iconst 3, 1) := by decide +kernel
theorem d_14_23_7 : decode prog_14_method_23_code 7 = .ok (.if_icmp .gt 25, 3) := by decide +kernel
theorem d_14_23_10 : decode prog_14_method_23_code 10 = .ok (.iload_n 2, 1) := by decide +kernel
theorem d_14_23_11 : decode prog_14_method_23_code 11 = .ok (.invokestatic 70, 3) := by decide +kernel
theorem d_14_23_14 : decode prog_14_method_23_code 14 = .ok (.ifCond .ne 18, 3) := by decide +kernel
theorem d_14_23_17 : decode prog_14_method_23_code 17 = .ok (.iload_n 3, 1) := by decide +kernel
theorem d_14_23_18 : decode prog_14_method_23_code 18 = .ok (.invokestatic 70, 3) := by decide +kernel
theorem d_14_23_21 : decode prog_14_method_23_code 21 = .ok (.ifCond .ne 11, 3) := by decide +kernel
theorem d_14_23_24 : decode prog_14_method_23_code 24 = .ok (.iload 4, 2) := by decide +kernel
theorem d_14_23_26 : decode prog_14_method_23_code 26 = .ok (.invokestatic 70, 3) := by decide +kernel
theorem d_14_23_29 : decode prog_14_method_23_code 29 = .ok (.ifCond .eq 7, 3) := by decide +kernel
theorem d_14_23_36 : decode prog_14_method_23_code 36 = .ok (.iconst 0, 1) := by decide +kernel
def y_NM_decimal : MethodName := ⟨"NumberHouseModel", "decimal", "(IIII)V"⟩
def F_NM_decimal_c104 (x2 : Int32) (x3 : Int32) (x4 : Int32) (x5 : Int32) (t0_0 : Int32) (t0_1 : Int32) (t0_2 : Int32) (t1_0 : Int32) (t1_1 : Int32) (t1_2 : Int32) (t1_3 : Int64) (t1_4 : Int32) (t1_5 : Int32) (t1_6 : Int32) (t1_7 : Int32) (t1_8 : Int32) (t1_9 : Int32) (t1_10 : Int32) (t2_0 : (Nat → Int32)) (t3_0 : (Nat → Int32)) (t4_0 : (Nat → Int32)) (t5_0 : (Nat → Int32)) (t6_0 : (Nat → Int32)) (t7_0 : (Nat → Int32)) (t8_0 : (Nat → Int32)) (t9_0 : (Nat → Int32)) (lx47 : Int32) (p117 : (Int32 × Int32 × Int32 × Int64 × Int32 × Int32 × Int32 × Int32 × Int32 × Int32 × Int32 × (Nat → Int32) × (Nat → Int32) × (Nat → Int32) × (Nat → Int32) × (Nat → Int32) × (Nat → Int32) × (Nat → Int32))) : Int32 × Int32 × Int32 × Int32 × Int32 × Int32 × Int64 × Int32 × Int32 × Int32 × Int32 × Int32 × Int32 × Int32 × (Nat → Int32) × (Nat → Int32) × (Nat → Int32) × (Nat → Int32) × (Nat → Int32) × (Nat → Int32) × (Nat → Int32) × (Nat → Int32) := ((p117.1 : Int32), t0_1, t0_2, (p117.1 : Int32), (p117.2.1 : Int32), (p117.2.2.1 : Int32), (p117.2.2.2.1 : Int64), (p117.2.2.2.2.1 : Int32), (p117.2.2.2.2.2.1 : Int32), (p117.2.2.2.2.2.2.1 : Int32), (p117.2.2.2.2.2.2.2.1 : Int32), (p117.2.2.2.2.2.2.2.2.1 : Int32), (p117.2.2.2.2.2.2.2.2.2.1 : Int32), (p117.2.2.2.2.2.2.2.2.2.2.1 : Int32), (p117.2.2.2.2.2.2.2.2.2.2.2.1 : (Nat → Int32)), (p117.2.2.2.2.2.2.2.2.2.2.2.2.1 : (Nat → Int32)), (p117.2.2.2.2.2.2.2.2.2.2.2.2.2.1 : (Nat → Int32)), (p117.2.2.2.2.2.2.2.2.2.2.2.2.2.2.1 : (Nat → Int32)), (p117.2.2.2.2.2.2.2.2.2.2.2.2.2.2.2.1 : (Nat → Int32)), t7_0, (p117.2.2.2.2.2.2.2.2.2.2.2.2.2.2.2.2.1 : (Nat → Int32)), (p117.2.2.2.2.2.2.2.2.2.2.2.2.2.2.2.2.2 : (Nat → Int32)))
def F_NM_decimal_c90 (x2 : Int32) (x3 : Int32) (x4 : Int32) (x5 : Int32) (t0_0 : Int32) (t0_1 : Int32) (t0_2 : Int32) (t1_0 : Int32) (t1_1 : Int32) (t1_2 : Int32) (t1_3 : Int64) (t1_4 : Int32) (t1_5 : Int32) (t1_6 : Int32) (t1_7 : Int32) (t1_8 : Int32) (t1_9 : Int32) (t1_10 : Int32) (t2_0 : (Nat → Int32)) (t3_0 : (Nat → Int32)) (t4_0 : (Nat → Int32)) (t5_0 : (Nat → Int32)) (t6_0 : (Nat → Int32)) (t7_0 : (Nat → Int32)) (t8_0 : (Nat → Int32)) (t9_0 : (Nat → Int32)) (lx47 : Int32) (p188 : (Int32 × Int32 × Int32 × Int64 × Int32 × Int32 × Int32 × Int32 × Int32 × Int32 × Int32 × (Nat → Int32) × (Nat → Int32) × (Nat → Int32) × (Nat → Int32) × (Nat → Int32) × (Nat → Int32))) : Int32 × Int32 × Int32 × Int32 × Int32 × Int32 × Int64 × Int32 × Int32 × Int32 × Int32 × Int32 × Int32 × Int32 × (Nat → Int32) × (Nat → Int32) × (Nat → Int32) × (Nat → Int32) × (Nat → Int32) × (Nat → Int32) × (Nat → Int32) × (Nat → Int32) := ((p188.1 : Int32), t0_1, t0_2, (p188.1 : Int32), (p188.2.1 : Int32), (p188.2.2.1 : Int32), (p188.2.2.2.1 : Int64), (p188.2.2.2.2.1 : Int32), (p188.2.2.2.2.2.1 : Int32), (p188.2.2.2.2.2.2.1 : Int32), (p188.2.2.2.2.2.2.2.1 : Int32), (p188.2.2.2.2.2.2.2.2.1 : Int32), (p188.2.2.2.2.2.2.2.2.2.1 : Int32), (p188.2.2.2.2.2.2.2.2.2.2.1 : Int32), (p188.2.2.2.2.2.2.2.2.2.2.2.1 : (Nat → Int32)), (p188.2.2.2.2.2.2.2.2.2.2.2.2.1 : (Nat → Int32)), (p188.2.2.2.2.2.2.2.2.2.2.2.2.2.1 : (Nat → Int32)), (p188.2.2.2.2.2.2.2.2.2.2.2.2.2.2.1 : (Nat → Int32)), (p188.2.2.2.2.2.2.2.2.2.2.2.2.2.2.2.1 : (Nat → Int32)), (p188.2.2.2.2.2.2.2.2.2.2.2.2.2.2.2.2 : (Nat → Int32)), t8_0, t9_0)
def F_NM_decimal_c71 (x2 : Int32) (x3 : Int32) (x4 : Int32) (x5 : Int32) (t0_0 : Int32) (t0_1 : Int32) (t0_2 : Int32) (t1_0 : Int32) (t1_1 : Int32) (t1_2 : Int32) (t1_3 : Int64) (t1_4 : Int32) (t1_5 : Int32) (t1_6 : Int32) (t1_7 : Int32) (t1_8 : Int32) (t1_9 : Int32) (t1_10 : Int32) (t2_0 : (Nat → Int32)) (t3_0 : (Nat → Int32)) (t4_0 : (Nat → Int32)) (t5_0 : (Nat → Int32)) (t6_0 : (Nat → Int32)) (t7_0 : (Nat → Int32)) (t8_0 : (Nat → Int32)) (t9_0 : (Nat → Int32)) (lx47 : Int32) (p258 : (Int32 × Int32 × Int32 × Int64 × Int32 × Int32 × Int32 × Int32 × Int32 × Int32 × Int32 × (Nat → Int32) × (Nat → Int32) × (Nat → Int32) × (Nat → Int32) × (Nat → Int32))) : Int32 × Int32 × Int32 × Int32 × Int32 × Int32 × Int64 × Int32 × Int32 × Int32 × Int32 × Int32 × Int32 × Int32 × (Nat → Int32) × (Nat → Int32) × (Nat → Int32) × (Nat → Int32) × (Nat → Int32) × (Nat → Int32) × (Nat → Int32) × (Nat → Int32) := ((p258.1 : Int32), t0_1, t0_2, (p258.1 : Int32), (p258.2.1 : Int32), (p258.2.2.1 : Int32), (p258.2.2.2.1 : Int64), (p258.2.2.2.2.1 : Int32), (p258.2.2.2.2.2.1 : Int32), (p258.2.2.2.2.2.2.1 : Int32), (p258.2.2.2.2.2.2.2.1 : Int32), (p258.2.2.2.2.2.2.2.2.1 : Int32), (p258.2.2.2.2.2.2.2.2.2.1 : Int32), (p258.2.2.2.2.2.2.2.2.2.2.1 : Int32), (p258.2.2.2.2.2.2.2.2.2.2.2.1 : (Nat → Int32)), (p258.2.2.2.2.2.2.2.2.2.2.2.2.1 : (Nat → Int32)), (p258.2.2.2.2.2.2.2.2.2.2.2.2.2.1 : (Nat → Int32)), (p258.2.2.2.2.2.2.2.2.2.2.2.2.2.2.1 : (Nat → Int32)), (p258.2.2.2.2.2.2.2.2.2.2.2.2.2.2.2 : (Nat → Int32)), t7_0, t8_0, t9_0)
def F_NM_decimal_c71_5 (x2 : Int32) (x3 : Int32) (x4 : Int32) (x5 : Int32) (t0_0 : Int32) (t0_1 : Int32) (t0_2 : Int32) (t1_0 : Int32) (t1_1 : Int32) (t1_2 : Int32) (t1_3 : Int64) (t1_4 : Int32) (t1_5 : Int32) (t1_6 : Int32) (t1_7 : Int32) (t1_8 : Int32) (t1_9 : Int32) (t1_10 : Int32) (t2_0 : (Nat → Int32)) (t3_0 : (Nat → Int32)) (t4_0 : (Nat → Int32)) (t5_0 : (Nat → Int32)) (t6_0 : (Nat → Int32)) (t7_0 : (Nat → Int32)) (t8_0 : (Nat → Int32)) (t9_0 : (Nat → Int32)) (lx47 : Int32) (p325 : (Int32 × Int32 × Int32 × Int64 × Int32 × Int32 × Int32 × Int32 × Int32 × Int32 × Int32 × (Nat → Int32) × (Nat → Int32) × (Nat → Int32) × (Nat → Int32) × (Nat → Int32))) : Int32 × Int32 × Int32 × Int32 × Int32 × Int32 × Int64 × Int32 × Int32 × Int32 × Int32 × Int32 × Int32 × Int32 × (Nat → Int32) × (Nat → Int32) × (Nat → Int32) × (Nat → Int32) × (Nat → Int32) × (Nat → Int32) × (Nat → Int32) × (Nat → Int32) := ((p325.1 : Int32), t0_1, t0_2, (p325.1 : Int32), (p325.2.1 : Int32), (p325.2.2.1 : Int32), (p325.2.2.2.1 : Int64), (p325.2.2.2.2.1 : Int32), (p325.2.2.2.2.2.1 : Int32), (p325.2.2.2.2.2.2.1 : Int32), (p325.2.2.2.2.2.2.2.1 : Int32), (p325.2.2.2.2.2.2.2.2.1 : Int32), (p325.2.2.2.2.2.2.2.2.2.1 : Int32), (p325.2.2.2.2.2.2.2.2.2.2.1 : Int32), (p325.2.2.2.2.2.2.2.2.2.2.2.1 : (Nat → Int32)), (p325.2.2.2.2.2.2.2.2.2.2.2.2.1 : (Nat → Int32)), (p325.2.2.2.2.2.2.2.2.2.2.2.2.2.1 : (Nat → Int32)), (p325.2.2.2.2.2.2.2.2.2.2.2.2.2.2.1 : (Nat → Int32)), (p325.2.2.2.2.2.2.2.2.2.2.2.2.2.2.2 : (Nat → Int32)), t7_0, t8_0, t9_0)
def F_NM_decimal_J37 (x2 : Int32) (x3 : Int32) (x4 : Int32) (x5 : Int32) (t0_0 : Int32) (t0_1 : Int32) (t0_2 : Int32) (t1_0 : Int32) (t1_1 : Int32) (t1_2 : Int32) (t1_3 : Int64) (t1_4 : Int32) (t1_5 : Int32) (t1_6 : Int32) (t1_7 : Int32) (t1_8 : Int32) (t1_9 : Int32) (t1_10 : Int32) (t2_0 : (Nat → Int32)) (t3_0 : (Nat → Int32)) (t4_0 : (Nat → Int32)) (t5_0 : (Nat → Int32)) (t6_0 : (Nat → Int32)) (t7_0 : (Nat → Int32)) (t8_0 : (Nat → Int32)) (t9_0 : (Nat → Int32)) (lx47 : Int32) : Int32 × Int32 × Int32 × Int32 × Int32 × Int32 × Int64 × Int32 × Int32 × Int32 × Int32 × Int32 × Int32 × Int32 × (Nat → Int32) × (Nat → Int32) × (Nat → Int32) × (Nat → Int32) × (Nat → Int32) × (Nat → Int32) × (Nat → Int32) × (Nat → Int32) := if lx47 ≤ (0 : Int32) then (if (2 : Int32) ≤ x2 then (if x2 = (2 : Int32) then (F_NM_decimal_c90 x2 x3 x4 x5 t0_0 t0_1 t0_2 t1_0 t1_1 t1_2 t1_3 t1_4 t1_5 t1_6 t1_7 t1_8 t1_9 t1_10 t2_0 t3_0 t4_0 t5_0 t6_0 t7_0 t8_0 t9_0 lx47 ((F_DR_multiply x3 x4 x5 t1_0 t1_1 t1_2 t1_3 t1_4 t1_5 t1_6 t1_7 t1_8 t1_9 t1_10 t2_0 t3_0 t4_0 t5_0 t6_0 t7_0) : (Int32 × Int32 × Int32 × Int64 × Int32 × Int32 × Int32 × Int32 × Int32 × Int32 × Int32 × (Nat → Int32) × (Nat → Int32) × (Nat → Int32) × (Nat → Int32) × (Nat → Int32) × (Nat → Int32)))) else (F_NM_decimal_c104 x2 x3 x4 x5 t0_0 t0_1 t0_2 t1_0 t1_1 t1_2 t1_3 t1_4 t1_5 t1_6 t1_7 t1_8 t1_9 t1_10 t2_0 t3_0 t4_0 t5_0 t6_0 t7_0 t8_0 t9_0 lx47 ((F_DR_remainder x3 x4 x5 t1_0 t1_1 t1_2 t1_3 t1_4 t1_5 t1_6 t1_7 t1_8 t1_9 t1_10 t2_0 t3_0 t4_0 t5_0 t6_0 t8_0 t9_0) : (Int32 × Int32 × Int32 × Int64 × Int32 × Int32 × Int32 × Int32 × Int32 × Int32 × Int32 × (Nat → Int32) × (Nat → Int32) × (Nat → Int32) × (Nat → Int32) × (Nat → Int32) × (Nat → Int32) × (Nat → Int32))))) else (if x2 = (1 : Int32) then (F_NM_decimal_c71_5 x2 x3 x4 x5 t0_0 t0_1 t0_2 t1_0 t1_1 t1_2 t1_3 t1_4 t1_5 t1_6 t1_7 t1_8 t1_9 t1_10 t2_0 t3_0 t4_0 t5_0 t6_0 t7_0 t8_0 t9_0 lx47 ((F_DR_add x3 x4 x5 (1 : Int32) t1_0 t1_1 t1_2 t1_3 t1_4 t1_5 t1_6 t1_7 t1_8 t1_9 t1_10 t2_0 t3_0 t4_0 t5_0 t6_0) : (Int32 × Int32 × Int32 × Int64 × Int32 × Int32 × Int32 × Int32 × Int32 × Int32 × Int32 × (Nat → Int32) × (Nat → Int32) × (Nat → Int32) × (Nat → Int32) × (Nat → Int32)))) else (F_NM_decimal_c71 x2 x3 x4 x5 t0_0 t0_1 t0_2 t1_0 t1_1 t1_2 t1_3 t1_4 t1_5 t1_6 t1_7 t1_8 t1_9 t1_10 t2_0 t3_0 t4_0 t5_0 t6_0 t7_0 t8_0 t9_0 lx47 ((F_DR_add x3 x4 x5 (0 : Int32) t1_0 t1_1 t1_2 t1_3 t1_4 t1_5 t1_6 t1_7 t1_8 t1_9 t1_10 t2_0 t3_0 t4_0 t5_0 t6_0) : (Int32 × Int32 × Int32 × Int64 × Int32 × Int32 × Int32 × Int32 × Int32 × Int32 × Int32 × (Nat → Int32) × (Nat → Int32) × (Nat → Int32) × (Nat → Int32) × (Nat → Int32)))))) else ((lx47, t0_1, t0_2, t1_0, t1_1, t1_2, t1_3, t1_4, t1_5, t1_6, t1_7, t1_8, t1_9, t1_10, t2_0, t3_0, t4_0, t5_0, t6_0, t7_0, t8_0, t9_0))
def F_NM_decimal_J32 (x2 : Int32) (x3 : Int32) (x4 : Int32) (x5 : Int32) (t0_0 : Int32) (t0_1 : Int32) (t0_2 : Int32) (t1_0 : Int32) (t1_1 : Int32) (t1_2 : Int32) (t1_3 : Int64) (t1_4 : Int32) (t1_5 : Int32) (t1_6 : Int32) (t1_7 : Int32) (t1_8 : Int32) (t1_9 : Int32) (t1_10 : Int32) (t2_0 : (Nat → Int32)) (t3_0 : (Nat → Int32)) (t4_0 : (Nat → Int32)) (t5_0 : (Nat → Int32)) (t6_0 : (Nat → Int32)) (t7_0 : (Nat → Int32)) (t8_0 : (Nat → Int32)) (t9_0 : (Nat → Int32)) : Int32 × Int32 × Int32 × Int32 × Int32 × Int32 × Int64 × Int32 × Int32 × Int32 × Int32 × Int32 × Int32 × Int32 × (Nat → Int32) × (Nat → Int32) × (Nat → Int32) × (Nat → Int32) × (Nat → Int32) × (Nat → Int32) × (Nat → Int32) × (Nat → Int32) := F_NM_decimal_J37 x2 x3 x4 x5 t0_0 t0_1 t0_2 t1_0 t1_1 t1_2 t1_3 t1_4 t1_5 t1_6 t1_7 t1_8 t1_9 t1_10 t2_0 t3_0 t4_0 t5_0 t6_0 t7_0 t8_0 t9_0 1
def F_NM_decimal (x2 : Int32) (x3 : Int32) (x4 : Int32) (x5 : Int32) (t0_0 : Int32) (t0_1 : Int32) (t0_2 : Int32) (t1_0 : Int32) (t1_1 : Int32) (t1_2 : Int32) (t1_3 : Int64) (t1_4 : Int32) (t1_5 : Int32) (t1_6 : Int32) (t1_7 : Int32) (t1_8 : Int32) (t1_9 : Int32) (t1_10 : Int32) (t2_0 : (Nat → Int32)) (t3_0 : (Nat → Int32)) (t4_0 : (Nat → Int32)) (t5_0 : (Nat → Int32)) (t6_0 : (Nat → Int32)) (t7_0 : (Nat → Int32)) (t8_0 : (Nat → Int32)) (t9_0 : (Nat → Int32)) : Int32 × Int32 × Int32 × Int32 × Int32 × Int32 × Int64 × Int32 × Int32 × Int32 × Int32 × Int32 × Int32 × Int32 × (Nat → Int32) × (Nat → Int32) × (Nat → Int32) × (Nat → Int32) × (Nat → Int32) × (Nat → Int32) × (Nat → Int32) × (Nat → Int32) := if x2 < (0 : Int32) then (F_NM_decimal_J32 x2 x3 x4 x5 t0_0 t0_1 t0_2 t1_0 t1_1 t1_2 t1_3 t1_4 t1_5 t1_6 t1_7 t1_8 t1_9 t1_10 t2_0 t3_0 t4_0 t5_0 t6_0 t7_0 t8_0 t9_0) else (if (3 : Int32) < x2 then (F_NM_decimal_J32 x2 x3 x4 x5 t0_0 t0_1 t0_2 t1_0 t1_1 t1_2 t1_3 t1_4 t1_5 t1_6 t1_7 t1_8 t1_9 t1_10 t2_0 t3_0 t4_0 t5_0 t6_0 t7_0 t8_0 t9_0) else (if ((F_NM_no_IZ x3) : Int32) = (0 : Int32) then (if ((F_NM_no_IZ x4) : Int32) = (0 : Int32) then (if ((F_NM_no_IZ x5) : Int32) = (0 : Int32) then (F_NM_decimal_J37 x2 x3 x4 x5 t0_0 t0_1 t0_2 t1_0 t1_1 t1_2 t1_3 t1_4 t1_5 t1_6 t1_7 t1_8 t1_9 t1_10 t2_0 t3_0 t4_0 t5_0 t6_0 t7_0 t8_0 t9_0 0) else (F_NM_decimal_J32 x2 x3 x4 x5 t0_0 t0_1 t0_2 t1_0 t1_1 t1_2 t1_3 t1_4 t1_5 t1_6 t1_7 t1_8 t1_9 t1_10 t2_0 t3_0 t4_0 t5_0 t6_0 t7_0 t8_0 t9_0)) else (F_NM_decimal_J32 x2 x3 x4 x5 t0_0 t0_1 t0_2 t1_0 t1_1 t1_2 t1_3 t1_4 t1_5 t1_6 t1_7 t1_8 t1_9 t1_10 t2_0 t3_0 t4_0 t5_0 t6_0 t7_0 t8_0 t9_0)) else (F_NM_decimal_J32 x2 x3 x4 x5 t0_0 t0_1 t0_2 t1_0 t1_1 t1_2 t1_3 t1_4 t1_5 t1_6 t1_7 t1_8 t1_9 t1_10 t2_0 t3_0 t4_0 t5_0 t6_0 t7_0 t8_0 t9_0)))
def S_NM_decimal_c104 (x2 : Int32) (x3 : Int32) (x4 : Int32) (x5 : Int32) (t0_0 : Int32) (t0_1 : Int32) (t0_2 : Int32) (t1_0 : Int32) (t1_1 : Int32) (t1_2 : Int32) (t1_3 : Int64) (t1_4 : Int32) (t1_5 : Int32) (t1_6 : Int32) (t1_7 : Int32) (t1_8 : Int32) (t1_9 : Int32) (t1_10 : Int32) (t2_0 : (Nat → Int32)) (t3_0 : (Nat → Int32)) (t4_0 : (Nat → Int32)) (t5_0 : (Nat → Int32)) (t6_0 : (Nat → Int32)) (t7_0 : (Nat → Int32)) (t8_0 : (Nat → Int32)) (t9_0 : (Nat → Int32)) (lx47 : Int32) (p117 : (Int32 × Int32 × Int32 × Int64 × Int32 × Int32 × Int32 × Int32 × Int32 × Int32 × Int32 × (Nat → Int32) × (Nat → Int32) × (Nat → Int32) × (Nat → Int32) × (Nat → Int32) × (Nat → Int32) × (Nat → Int32))) : Prop := True
def S_NM_decimal_c90 (x2 : Int32) (x3 : Int32) (x4 : Int32) (x5 : Int32) (t0_0 : Int32) (t0_1 : Int32) (t0_2 : Int32) (t1_0 : Int32) (t1_1 : Int32) (t1_2 : Int32) (t1_3 : Int64) (t1_4 : Int32) (t1_5 : Int32) (t1_6 : Int32) (t1_7 : Int32) (t1_8 : Int32) (t1_9 : Int32) (t1_10 : Int32) (t2_0 : (Nat → Int32)) (t3_0 : (Nat → Int32)) (t4_0 : (Nat → Int32)) (t5_0 : (Nat → Int32)) (t6_0 : (Nat → Int32)) (t7_0 : (Nat → Int32)) (t8_0 : (Nat → Int32)) (t9_0 : (Nat → Int32)) (lx47 : Int32) (p188 : (Int32 × Int32 × Int32 × Int64 × Int32 × Int32 × Int32 × Int32 × Int32 × Int32 × Int32 × (Nat → Int32) × (Nat → Int32) × (Nat → Int32) × (Nat → Int32) × (Nat → Int32) × (Nat → Int32))) : Prop := True
def S_NM_decimal_c71 (x2 : Int32) (x3 : Int32) (x4 : Int32) (x5 : Int32) (t0_0 : Int32) (t0_1 : Int32) (t0_2 : Int32) (t1_0 : Int32) (t1_1 : Int32) (t1_2 : Int32) (t1_3 : Int64) (t1_4 : Int32) (t1_5 : Int32) (t1_6 : Int32) (t1_7 : Int32) (t1_8 : Int32) (t1_9 : Int32) (t1_10 : Int32) (t2_0 : (Nat → Int32)) (t3_0 : (Nat → Int32)) (t4_0 : (Nat → Int32)) (t5_0 : (Nat → Int32)) (t6_0 : (Nat → Int32)) (t7_0 : (Nat → Int32)) (t8_0 : (Nat → Int32)) (t9_0 : (Nat → Int32)) (lx47 : Int32) (p258 : (Int32 × Int32 × Int32 × Int64 × Int32 × Int32 × Int32 × Int32 × Int32 × Int32 × Int32 × (Nat → Int32) × (Nat → Int32) × (Nat → Int32) × (Nat → Int32) × (Nat → Int32))) : Prop := True
def S_NM_decimal_c71_5 (x2 : Int32) (x3 : Int32) (x4 : Int32) (x5 : Int32) (t0_0 : Int32) (t0_1 : Int32) (t0_2 : Int32) (t1_0 : Int32) (t1_1 : Int32) (t1_2 : Int32) (t1_3 : Int64) (t1_4 : Int32) (t1_5 : Int32) (t1_6 : Int32) (t1_7 : Int32) (t1_8 : Int32) (t1_9 : Int32) (t1_10 : Int32) (t2_0 : (Nat → Int32)) (t3_0 : (Nat → Int32)) (t4_0 : (Nat → Int32)) (t5_0 : (Nat → Int32)) (t6_0 : (Nat → Int32)) (t7_0 : (Nat → Int32)) (t8_0 : (Nat → Int32)) (t9_0 : (Nat → Int32)) (lx47 : Int32) (p325 : (Int32 × Int32 × Int32 × Int64 × Int32 × Int32 × Int32 × Int32 × Int32 × Int32 × Int32 × (Nat → Int32) × (Nat → Int32) × (Nat → Int32) × (Nat → Int32) × (Nat → Int32))) : Prop := True
def S_NM_decimal_J37 (x2 : Int32) (x3 : Int32) (x4 : Int32) (x5 : Int32) (t0_0 : Int32) (t0_1 : Int32) (t0_2 : Int32) (t1_0 : Int32) (t1_1 : Int32) (t1_2 : Int32) (t1_3 : Int64) (t1_4 : Int32) (t1_5 : Int32) (t1_6 : Int32) (t1_7 : Int32) (t1_8 : Int32) (t1_9 : Int32) (t1_10 : Int32) (t2_0 : (Nat → Int32)) (t3_0 : (Nat → Int32)) (t4_0 : (Nat → Int32)) (t5_0 : (Nat → Int32)) (t6_0 : (Nat → Int32)) (t7_0 : (Nat → Int32)) (t8_0 : (Nat → Int32)) (t9_0 : (Nat → Int32)) (lx47 : Int32) : Prop := if lx47 ≤ (0 : Int32) then (if (2 : Int32) ≤ x2 then (if x2 = (2 : Int32) then ((True ∧ S_DR_multiply x3 x4 x5 t1_0 t1_1 t1_2 t1_3 t1_4 t1_5 t1_6 t1_7 t1_8 t1_9 t1_10 t2_0 t3_0 t4_0 t5_0 t6_0 t7_0) ∧ (S_NM_decimal_c90 x2 x3 x4 x5 t0_0 t0_1 t0_2 t1_0 t1_1 t1_2 t1_3 t1_4 t1_5 t1_6 t1_7 t1_8 t1_9 t1_10 t2_0 t3_0 t4_0 t5_0 t6_0 t7_0 t8_0 t9_0 lx47 ((F_DR_multiply x3 x4 x5 t1_0 t1_1 t1_2 t1_3 t1_4 t1_5 t1_6 t1_7 t1_8 t1_9 t1_10 t2_0 t3_0 t4_0 t5_0 t6_0 t7_0) : (Int32 × Int32 × Int32 × Int64 × Int32 × Int32 × Int32 × Int32 × Int32 × Int32 × Int32 × (Nat → Int32) × (Nat → Int32) × (Nat → Int32) × (Nat → Int32) × (Nat → Int32) × (Nat → Int32))))) else ((True ∧ S_DR_remainder x3 x4 x5 t1_0 t1_1 t1_2 t1_3 t1_4 t1_5 t1_6 t1_7 t1_8 t1_9 t1_10 t2_0 t3_0 t4_0 t5_0 t6_0 t8_0 t9_0) ∧ (S_NM_decimal_c104 x2 x3 x4 x5 t0_0 t0_1 t0_2 t1_0 t1_1 t1_2 t1_3 t1_4 t1_5 t1_6 t1_7 t1_8 t1_9 t1_10 t2_0 t3_0 t4_0 t5_0 t6_0 t7_0 t8_0 t9_0 lx47 ((F_DR_remainder x3 x4 x5 t1_0 t1_1 t1_2 t1_3 t1_4 t1_5 t1_6 t1_7 t1_8 t1_9 t1_10 t2_0 t3_0 t4_0 t5_0 t6_0 t8_0 t9_0) : (Int32 × Int32 × Int32 × Int64 × Int32 × Int32 × Int32 × Int32 × Int32 × Int32 × Int32 × (Nat → Int32) × (Nat → Int32) × (Nat → Int32) × (Nat → Int32) × (Nat → Int32) × (Nat → Int32) × (Nat → Int32)))))) else (if x2 = (1 : Int32) then ((True ∧ S_DR_add x3 x4 x5 (1 : Int32) t1_0 t1_1 t1_2 t1_3 t1_4 t1_5 t1_6 t1_7 t1_8 t1_9 t1_10 t2_0 t3_0 t4_0 t5_0 t6_0) ∧ (S_NM_decimal_c71_5 x2 x3 x4 x5 t0_0 t0_1 t0_2 t1_0 t1_1 t1_2 t1_3 t1_4 t1_5 t1_6 t1_7 t1_8 t1_9 t1_10 t2_0 t3_0 t4_0 t5_0 t6_0 t7_0 t8_0 t9_0 lx47 ((F_DR_add x3 x4 x5 (1 : Int32) t1_0 t1_1 t1_2 t1_3 t1_4 t1_5 t1_6 t1_7 t1_8 t1_9 t1_10 t2_0 t3_0 t4_0 t5_0 t6_0) : (Int32 × Int32 × Int32 × Int64 × Int32 × Int32 × Int32 × Int32 × Int32 × Int32 × Int32 × (Nat → Int32) × (Nat → Int32) × (Nat → Int32) × (Nat → Int32) × (Nat → Int32))))) else ((True ∧ S_DR_add x3 x4 x5 (0 : Int32) t1_0 t1_1 t1_2 t1_3 t1_4 t1_5 t1_6 t1_7 t1_8 t1_9 t1_10 t2_0 t3_0 t4_0 t5_0 t6_0) ∧ (S_NM_decimal_c71 x2 x3 x4 x5 t0_0 t0_1 t0_2 t1_0 t1_1 t1_2 t1_3 t1_4 t1_5 t1_6 t1_7 t1_8 t1_9 t1_10 t2_0 t3_0 t4_0 t5_0 t6_0 t7_0 t8_0 t9_0 lx47 ((F_DR_add x3 x4 x5 (0 : Int32) t1_0 t1_1 t1_2 t1_3 t1_4 t1_5 t1_6 t1_7 t1_8 t1_9 t1_10 t2_0 t3_0 t4_0 t5_0 t6_0) : (Int32 × Int32 × Int32 × Int64 × Int32 × Int32 × Int32 × Int32 × Int32 × Int32 × Int32 × (Nat → Int32) × (Nat → Int32) × (Nat → Int32) × (Nat → Int32) × (Nat → Int32))))))) else (True)
def S_NM_decimal_J32 (x2 : Int32) (x3 : Int32) (x4 : Int32) (x5 : Int32) (t0_0 : Int32) (t0_1 : Int32) (t0_2 : Int32) (t1_0 : Int32) (t1_1 : Int32) (t1_2 : Int32) (t1_3 : Int64) (t1_4 : Int32) (t1_5 : Int32) (t1_6 : Int32) (t1_7 : Int32) (t1_8 : Int32) (t1_9 : Int32) (t1_10 : Int32) (t2_0 : (Nat → Int32)) (t3_0 : (Nat → Int32)) (t4_0 : (Nat → Int32)) (t5_0 : (Nat → Int32)) (t6_0 : (Nat → Int32)) (t7_0 : (Nat → Int32)) (t8_0 : (Nat → Int32)) (t9_0 : (Nat → Int32)) : Prop := S_NM_decimal_J37 x2 x3 x4 x5 t0_0 t0_1 t0_2 t1_0 t1_1 t1_2 t1_3 t1_4 t1_5 t1_6 t1_7 t1_8 t1_9 t1_10 t2_0 t3_0 t4_0 t5_0 t6_0 t7_0 t8_0 t9_0 1
def S_NM_decimal (x2 : Int32) (x3 : Int32) (x4 : Int32) (x5 : Int32) (t0_0 : Int32) (t0_1 : Int32) (t0_2 : Int32) (t1_0 : Int32) (t1_1 : Int32) (t1_2 : Int32) (t1_3 : Int64) (t1_4 : Int32) (t1_5 : Int32) (t1_6 : Int32) (t1_7 : Int32) (t1_8 : Int32) (t1_9 : Int32) (t1_10 : Int32) (t2_0 : (Nat → Int32)) (t3_0 : (Nat → Int32)) (t4_0 : (Nat → Int32)) (t5_0 : (Nat → Int32)) (t6_0 : (Nat → Int32)) (t7_0 : (Nat → Int32)) (t8_0 : (Nat → Int32)) (t9_0 : (Nat → Int32)) : Prop := if x2 < (0 : Int32) then (S_NM_decimal_J32 x2 x3 x4 x5 t0_0 t0_1 t0_2 t1_0 t1_1 t1_2 t1_3 t1_4 t1_5 t1_6 t1_7 t1_8 t1_9 t1_10 t2_0 t3_0 t4_0 t5_0 t6_0 t7_0 t8_0 t9_0) else (if (3 : Int32) < x2 then (S_NM_decimal_J32 x2 x3 x4 x5 t0_0 t0_1 t0_2 t1_0 t1_1 t1_2 t1_3 t1_4 t1_5 t1_6 t1_7 t1_8 t1_9 t1_10 t2_0 t3_0 t4_0 t5_0 t6_0 t7_0 t8_0 t9_0) else (if ((F_NM_no_IZ x3) : Int32) = (0 : Int32) then (if ((F_NM_no_IZ x4) : Int32) = (0 : Int32) then (if ((F_NM_no_IZ x5) : Int32) = (0 : Int32) then (S_NM_decimal_J37 x2 x3 x4 x5 t0_0 t0_1 t0_2 t1_0 t1_1 t1_2 t1_3 t1_4 t1_5 t1_6 t1_7 t1_8 t1_9 t1_10 t2_0 t3_0 t4_0 t5_0 t6_0 t7_0 t8_0 t9_0 0) else (S_NM_decimal_J32 x2 x3 x4 x5 t0_0 t0_1 t0_2 t1_0 t1_1 t1_2 t1_3 t1_4 t1_5 t1_6 t1_7 t1_8 t1_9 t1_10 t2_0 t3_0 t4_0 t5_0 t6_0 t7_0 t8_0 t9_0)) else (S_NM_decimal_J32 x2 x3 x4 x5 t0_0 t0_1 t0_2 t1_0 t1_1 t1_2 t1_3 t1_4 t1_5 t1_6 t1_7 t1_8 t1_9 t1_10 t2_0 t3_0 t4_0 t5_0 t6_0 t7_0 t8_0 t9_0)) else (S_NM_decimal_J32 x2 x3 x4 x5 t0_0 t0_1 t0_2 t1_0 t1_1 t1_2 t1_3 t1_4 t1_5 t1_6 t1_7 t1_8 t1_9 t1_10 t2_0 t3_0 t4_0 t5_0 t6_0 t7_0 t8_0 t9_0)))
set_option maxRecDepth 100000 in
set_option maxHeartbeats 4000000 in
theorem X_NM_decimal (l : Launch) (D : va_G) (g : Nat → ClassId) (q : Nat → Nat) (ws : va_W) (x2 : Int32) (x3 : Int32) (x4 : Int32) (x5 : Int32) (hI : q_I (msh g q) q ws) (t0_0 : Int32) (t0_1 : Int32) (t0_2 : Int32) (hT0 : ws[116]? = (some (q 116, .inr (12, [.int t0_0, .ref (q 117), .int t0_1, .ref (q 118), .int t0_2, .ref (q 119), .ref (q 134), .ref (q 145), .ref (q 153), .ref (q 157), .ref (q 167), .ref (q 168)])) : Option (Nat × va_E))) (t1_0 : Int32) (t1_1 : Int32) (t1_2 : Int32) (t1_3 : Int64) (t1_4 : Int32) (t1_5 : Int32) (t1_6 : Int32) (t1_7 : Int32) (t1_8 : Int32) (t1_9 : Int32) (t1_10 : Int32) (hT1 : ws[134]? = (some (q 134, .inr (14, [.int t1_0, .ref (q 135), .int t1_1, .ref (q 136), .ref (q 137), .ref (q 138), .ref (q 139), .ref (q 140), .int t1_2, .long t1_3, .int t1_4, .int t1_5, .ref (q 141), .int t1_6, .ref (q 142), .int t1_7, .ref (q 143), .int t1_8, .ref (q 144), .int t1_9, .int t1_10])) : Option (Nat × va_E))) (t2_0 : (Nat → Int32)) (hT2 : ws[136]? = (some (q 136, .inl (g 0, (10000 : Int32).toNatClampNeg, .inl t2_0)) : Option (Nat × va_E))) (t3_0 : (Nat → Int32)) (hT3 : ws[137]? = (some (q 137, .inl (g 0, (10 : Int32).toNatClampNeg, .inl t3_0)) : Option (Nat × va_E))) (t4_0 : (Nat → Int32)) (hT4 : ws[138]? = (some (q 138, .inl (g 3, 10, .inl t4_0)) : Option (Nat × va_E))) (t5_0 : (Nat → Int32)) (hT5 : ws[139]? = (some (q 139, .inl (g 0, (10 : Int32).toNatClampNeg, .inl t5_0)) : Option (Nat × va_E))) (t6_0 : (Nat → Int32)) (hT6 : ws[140]? = (some (q 140, .inl (g 0, (4400 : Int32).toNatClampNeg, .inl t6_0)) : Option (Nat × va_E))) (t7_0 : (Nat → Int32)) (hT7 : ws[141]? = (some (q 141, .inl (g 0, (4400 : Int32).toNatClampNeg, .inl t7_0)) : Option (Nat × va_E))) (t8_0 : (Nat → Int32)) (hT8 : ws[142]? = (some (q 142, .inl (g 0, (2200 : Int32).toNatClampNeg, .inl t8_0)) : Option (Nat × va_E))) (t9_0 : (Nat → Int32)) (hT9 : ws[143]? = (some (q 143, .inl (g 0, (2202 : Int32).toNatClampNeg, .inl t9_0)) : Option (Nat × va_E))) (hS : True ∧ S_NM_decimal x2 x3 x4 x5 t0_0 t0_1 t0_2 t1_0 t1_1 t1_2 t1_3 t1_4 t1_5 t1_6 t1_7 t1_8 t1_9 t1_10 t2_0 t3_0 t4_0 t5_0 t6_0 t7_0 t8_0 t9_0) : q_mV l y_NM_decimal prog_14_method_23_code 5 6 0 0 D g [.ref (q 116), .int x2, .int x3, .int x4, .int x5] ws (fun u => q_I (msh g q) q u ∧ q_un ws u [116, 134, 136, 137, 138, 139, 140, 141, 142, 143] ∧ ∃ (u0_0 : Int32) (u0_1 : Int32) (u0_2 : Int32) (u1_0 : Int32) (u1_1 : Int32) (u1_2 : Int32) (u1_3 : Int64) (u1_4 : Int32) (u1_5 : Int32) (u1_6 : Int32) (u1_7 : Int32) (u1_8 : Int32) (u1_9 : Int32) (u1_10 : Int32) (u2_0 : (Nat → Int32)) (u3_0 : (Nat → Int32)) (u4_0 : (Nat → Int32)) (u5_0 : (Nat → Int32)) (u6_0 : (Nat → Int32)) (u7_0 : (Nat → Int32)) (u8_0 : (Nat → Int32)) (u9_0 : (Nat → Int32)), u[116]? = (some (q 116, .inr (12, [.int u0_0, .ref (q 117), .int u0_1, .ref (q 118), .int u0_2, .ref (q 119), .ref (q 134), .ref (q 145), .ref (q 153), .ref (q 157), .ref (q 167), .ref (q 168)])) : Option (Nat × va_E)) ∧ u[134]? = (some (q 134, .inr (14, [.int u1_0, .ref (q 135), .int u1_1, .ref (q 136), .ref (q 137), .ref (q 138), .ref (q 139), .ref (q 140), .int u1_2, .long u1_3, .int u1_4, .int u1_5, .ref (q 141), .int u1_6, .ref (q 142), .int u1_7, .ref (q 143), .int u1_8, .ref (q 144), .int u1_9, .int u1_10])) : Option (Nat × va_E)) ∧ u[136]? = (some (q 136, .inl (g 0, (10000 : Int32).toNatClampNeg, .inl u2_0)) : Option (Nat × va_E)) ∧ u[137]? = (some (q 137, .inl (g 0, (10 : Int32).toNatClampNeg, .inl u3_0)) : Option (Nat × va_E)) ∧ u[138]? = (some (q 138, .inl (g 3, 10, .inl u4_0)) : Option (Nat × va_E)) ∧ u[139]? = (some (q 139, .inl (g 0, (10 : Int32).toNatClampNeg, .inl u5_0)) : Option (Nat × va_E)) ∧ u[140]? = (some (q 140, .inl (g 0, (4400 : Int32).toNatClampNeg, .inl u6_0)) : Option (Nat × va_E)) ∧ u[141]? = (some (q 141, .inl (g 0, (4400 : Int32).toNatClampNeg, .inl u7_0)) : Option (Nat × va_E)) ∧ u[142]? = (some (q 142, .inl (g 0, (2200 : Int32).toNatClampNeg, .inl u8_0)) : Option (Nat × va_E)) ∧ u[143]? = (some (q 143, .inl (g 0, (2202 : Int32).toNatClampNeg, .inl u9_0)) : Option (Nat × va_E)) ∧ (0 ≤ u1_4.toInt + 1) ∧ (0 ≤ u1_5.toInt) ∧ (u1_5.toInt ≤ 1) ∧ (t0_1.toInt ≤ u0_1.toInt) ∧ (u0_1.toInt ≤ t0_1.toInt) ∧ (t0_2.toInt ≤ u0_2.toInt) ∧ (u0_2.toInt ≤ t0_2.toInt) ∧ (t1_1.toInt ≤ u1_1.toInt) ∧ (u1_1.toInt ≤ t1_1.toInt) ∧ (u1_4.toInt ≤ t1_4.toInt) ∧ (t1_6.toInt ≤ u1_6.toInt) ∧ (u1_6.toInt ≤ t1_6.toInt) ∧ (t1_8.toInt ≤ u1_8.toInt) ∧ (u1_8.toInt ≤ t1_8.toInt) ∧ (t1_9.toInt ≤ u1_9.toInt) ∧ (u1_9.toInt ≤ t1_9.toInt) ∧ (u0_0, u0_1, u0_2, u1_0, u1_1, u1_2, u1_3, u1_4, u1_5, u1_6, u1_7, u1_8, u1_9, u1_10, u2_0, u3_0, u4_0, u5_0, u6_0, u7_0, u8_0, u9_0) = (F_NM_decimal x2 x3 x4 x5 t0_0 t0_1 t0_2 t1_0 t1_1 t1_2 t1_3 t1_4 t1_5 t1_6 t1_7 t1_8 t1_9 t1_10 t2_0 t3_0 t4_0 t5_0 t6_0 t7_0 t8_0 t9_0)) := by
  intro sz
  refine q_into (by decide) (Nat.le_of_ble_eq_true rfl) ?_
  intro p e s m below meth c ls hsz C0 V hl
  have hx := C0.1
  have hb := C0.2.1
  obtain ⟨yy0_0, yy0_1, yy0_2, hh0, btt0_1, btt0_2⟩ := n_o116 hI
  obtain ⟨rfl, rfl, rfl⟩ : t0_0 = yy0_0 ∧ t0_1 = yy0_1 ∧ t0_2 = yy0_2 := by have z := Option.some.inj (hT0.symm.trans hh0); simpa using z
  replace btt0_1 : q_F (0 ≤ t0_1.toInt ∧ t0_1.toInt ≤ 4100) := btt0_1
  replace btt0_2 : q_F (0 ≤ t0_2.toInt ∧ t0_2.toInt ≤ 12200) := btt0_2
  obtain ⟨yy1_0, yy1_1, yy1_2, yy1_3, yy1_4, yy1_5, yy1_6, yy1_7, yy1_8, yy1_9, yy1_10, hh1, btt1_1, btt1_4, btt1_5, btt1_9⟩ := n_o134 hI
  obtain ⟨rfl, rfl, rfl, rfl, rfl, rfl, rfl, rfl, rfl, rfl, rfl⟩ : t1_0 = yy1_0 ∧ t1_1 = yy1_1 ∧ t1_2 = yy1_2 ∧ t1_3 = yy1_3 ∧ t1_4 = yy1_4 ∧ t1_5 = yy1_5 ∧ t1_6 = yy1_6 ∧ t1_7 = yy1_7 ∧ t1_8 = yy1_8 ∧ t1_9 = yy1_9 ∧ t1_10 = yy1_10 := by have z := Option.some.inj (hT1.symm.trans hh1); simpa using z
  replace btt1_1 : q_F (0 ≤ t1_1.toInt ∧ t1_1.toInt ≤ 4100) := btt1_1
  replace btt1_4 : q_F (0 ≤ t1_4.toInt ∧ t1_4.toInt ≤ 1) := btt1_4
  replace btt1_5 : q_F (0 ≤ t1_5.toInt ∧ t1_5.toInt ≤ 1) := btt1_5
  replace btt1_9 : q_F (0 ≤ t1_9.toInt ∧ t1_9.toInt ≤ 12200) := btt1_9
  have hF : q_un ws ws [116, 134, 136, 137, 138, 139, 140, 141, 142, 143] := q_u0
  have hl : lv_has ls 5 [(0, .ref (q 116)), (1, .int x2), (2, .int x3), (3, .int x4), (4, .int x5)] := hl
  refine lv_aload_n hx hb d_14_23_0 rfl (lv_at hl 0 rfl) ?_
  refine lv_iload_n hx hb d_14_23_1 rfl (lv_at hl 1 rfl) ?_
  refine q_join (X := Int32) (fun z H locs ls _ => q_F (0 ≤ z.toInt) ∧ q_F (z.toInt ≤ 1) ∧ q_Wd D g (va_A ws sz) s ws H locs ∧ lv_has ls 5 [(0, .ref (q 116)), (1, .int x2), (2, .int x3), (3, .int x4), (4, .int x5)] ∧ F_NM_decimal_J37 x2 x3 x4 x5 t0_0 t0_1 t0_2 t1_0 t1_1 t1_2 t1_3 t1_4 t1_5 t1_6 t1_7 t1_8 t1_9 t1_10 t2_0 t3_0 t4_0 t5_0 t6_0 t7_0 t8_0 t9_0 z = (F_NM_decimal x2 x3 x4 x5 t0_0 t0_1 t0_2 t1_0 t1_1 t1_2 t1_3 t1_4 t1_5 t1_6 t1_7 t1_8 t1_9 t1_10 t2_0 t3_0 t4_0 t5_0 t6_0 t7_0 t8_0 t9_0) ∧ True ∧ S_NM_decimal_J37 x2 x3 x4 x5 t0_0 t0_1 t0_2 t1_0 t1_1 t1_2 t1_3 t1_4 t1_5 t1_6 t1_7 t1_8 t1_9 t1_10 t2_0 t3_0 t4_0 t5_0 t6_0 t7_0 t8_0 t9_0 z) (fun z => [.int z, .ref (q 116)]) 37 0 0 ?_ ?_
  ·
    rintro lx47 H locs ls _ ⟨i59, i60, V, hl, hR61, hS62⟩
    replace i59 : q_F (0 ≤ lx47.toInt) := i59
    replace i60 : q_F (lx47.toInt ≤ 1) := i60
    replace hl : lv_has ls 5 [(0, .ref (q 116)), (1, .int x2), (2, .int x3), (3, .int x4), (4, .int x5)] := hl
    refine q_put (ci := 12) (j := 0) (v := .int lx47) (ty := .int) C0 V i_NM o_NM n_NM rfl rfl hT0 (by decide) w_2298 rfl rfl rfl rfl (Nat.le_of_ble_eq_true rfl) d_14_23_37 (fun H locs w66 hu67 hT0 V => ?_)
    replace hT0 : w66[116]? = (some (q 116, .inr (12, [.int lx47, .ref (q 117), .int t0_1, .ref (q 118), .int t0_2, .ref (q 119), .ref (q 134), .ref (q 145), .ref (q 153), .ref (q 157), .ref (q 167), .ref (q 168)])) : Option (Nat × va_E)) := hT0
    replace hI := n_p116 hI hu67 hT0 ⟨(by have t1 : 0 ≤ t0_1.toInt ∧ t0_1.toInt ≤ 4100 := btt0_1; omega), (by have t1 : 0 ≤ t0_1.toInt ∧ t0_1.toInt ≤ 4100 := btt0_1; omega)⟩ ⟨(by have t1 : 0 ≤ t0_2.toInt ∧ t0_2.toInt ≤ 12200 := btt0_2; omega), (by have t1 : 0 ≤ t0_2.toInt ∧ t0_2.toInt ≤ 12200 := btt0_2; omega)⟩
    replace hT1 := (hu67 _ (by decide)).trans hT1
    replace hT2 := (hu67 _ (by decide)).trans hT2
    replace hT3 := (hu67 _ (by decide)).trans hT3
    replace hT4 := (hu67 _ (by decide)).trans hT4
    replace hT5 := (hu67 _ (by decide)).trans hT5
    replace hT6 := (hu67 _ (by decide)).trans hT6
    replace hT7 := (hu67 _ (by decide)).trans hT7
    replace hT8 := (hu67 _ (by decide)).trans hT8
    replace hT9 := (hu67 _ (by decide)).trans hT9
    replace hF := q_us hF hu67 (by simp)
    refine lv_aload_n hx hb d_14_23_40 rfl (lv_at hl 0 rfl) ?_
    refine q_get (ci := 12) (j := 0) (v := .int lx47) C0 V i_NM rfl rfl hT0 (by decide) w_2298 rfl d_14_23_41 ?_
    refine lv_if_le (tgt := 48) hx hb d_14_23_44 (by decide) (fun c68 => ?_) (fun c68 => ?_)
    ·
      have b69 : q_F (lx47.toInt ≤ 0) := (q_leI c68)
      refine lv_iload_n hx hb d_14_23_48 rfl (lv_at hl 1 rfl) ?_
      refine lv_iconst (v := 2) hx hb d_14_23_49 (by decide) ?_
      refine lv_icmp_ge (tgt := 77) hx hb d_14_23_50 (by decide) (fun c70 => ?_) (fun c70 => ?_)
      ·
        have b71 : q_F (2 ≤ x2.toInt) := (q_leI c70)
        refine lv_iload_n hx hb d_14_23_77 rfl (lv_at hl 1 rfl) ?_
        refine lv_iconst (v := 2) hx hb d_14_23_78 (by decide) ?_
        refine lv_icmp_ne (tgt := 96) hx hb d_14_23_79 (by decide) (fun c72 => ?_) (fun c72 => ?_)
        ·
          have b73 : q_F (x2.toInt ≠ 2) := (q_neI c72)
          refine lv_aload_n hx hb d_14_23_96 rfl (lv_at hl 0 rfl) ?_
          refine q_get (ci := 12) (j := 6) (v := .ref (q 134)) C0 V i_NM rfl rfl hT0 (by decide) w_2304 rfl d_14_23_97 ?_
          refine lv_iload_n hx hb d_14_23_100 rfl (lv_at hl 2 rfl) ?_
          refine lv_iload_n hx hb d_14_23_101 rfl (lv_at hl 3 rfl) ?_
          refine lv_iload hx hb d_14_23_102 (lv_at hl 4 rfl) ?_
          have ob74 : True ∧ S_DR_remainder x3 x4 x5 t1_0 t1_1 t1_2 t1_3 t1_4 t1_5 t1_6 t1_7 t1_8 t1_9 t1_10 t2_0 t3_0 t4_0 t5_0 t6_0 t8_0 t9_0 := (by have h := hS62; rw [S_NM_decimal_J37.eq_1] at h; rw [if_pos c68] at h; rw [if_pos c70] at h; rw [if_neg c72] at h; with_reducible exact h.2.1)
          refine q_gov V (q_runV (As := [.int x3, .int x4, .int x5]) (rest := []) (d := 5) (mc := 0) (ms := 0) (ci := 14) C0 V rfl LV_NM_205 (X_DR_remainder l D g q w66  x3 x4 x5 hI t1_0 t1_1 t1_2 t1_3 t1_4 t1_5 t1_6 t1_7 t1_8 t1_9 t1_10 hT1 t2_0 hT2 t3_0 hT3 t4_0 hT4 t5_0 hT5 t6_0 hT6 t8_0 hT8 t9_0 hT9 ob74 _) rfl rfl hT1 rfl hl.1 rfl (Nat.le_of_ble_eq_true rfl) ⟨by decide, by decide⟩ ⟨Nat.le_of_ble_eq_true rfl, Nat.le_of_ble_eq_true rfl⟩ d_14_23_104) (fun u75 H locs hp76 V => ?_)
          obtain ⟨hI, hu116, y78, y79, y80, y81, y82, y83, y84, y85, y86, y87, y88, f89, f91, f93, f95, f97, f99, f101, hO77, hA90, hA92, hA94, hA96, hA98, hA100, hA102, b103, b104, b105, b106, b107, b108, b109, b110, b111, b112, b113, b114, hE115⟩ := hp76
          replace hO77 : u75[134]? = (some (q 134, .inr (14, [.int y78, .ref (q 135), .int y79, .ref (q 136), .ref (q 137), .ref (q 138), .ref (q 139), .ref (q 140), .int y80, .long y81, .int y82, .int y83, .ref (q 141), .int y84, .ref (q 142), .int y85, .ref (q 143), .int y86, .ref (q 144), .int y87, .int y88])) : Option (Nat × va_E)) := hO77
          replace hA90 : u75[136]? = (some (q 136, .inl (g 0, (10000 : Int32).toNatClampNeg, .inl f89)) : Option (Nat × va_E)) := hA90
          replace hA92 : u75[137]? = (some (q 137, .inl (g 0, (10 : Int32).toNatClampNeg, .inl f91)) : Option (Nat × va_E)) := hA92
          replace hA94 : u75[138]? = (some (q 138, .inl (g 3, 10, .inl f93)) : Option (Nat × va_E)) := hA94
          replace hA96 : u75[139]? = (some (q 139, .inl (g 0, (10 : Int32).toNatClampNeg, .inl f95)) : Option (Nat × va_E)) := hA96
          replace hA98 : u75[140]? = (some (q 140, .inl (g 0, (4400 : Int32).toNatClampNeg, .inl f97)) : Option (Nat × va_E)) := hA98
          replace hA100 : u75[142]? = (some (q 142, .inl (g 0, (2200 : Int32).toNatClampNeg, .inl f99)) : Option (Nat × va_E)) := hA100
          replace hA102 : u75[143]? = (some (q 143, .inl (g 0, (2202 : Int32).toNatClampNeg, .inl f101)) : Option (Nat × va_E)) := hA102
          obtain ⟨p117, e118⟩ : ∃ z, z = (F_DR_remainder x3 x4 x5 t1_0 t1_1 t1_2 t1_3 t1_4 t1_5 t1_6 t1_7 t1_8 t1_9 t1_10 t2_0 t3_0 t4_0 t5_0 t6_0 t8_0 t9_0) := ⟨_, rfl⟩
          have e119 : y78 = p117.1 := congrArg (fun z => z.1) (hE115.trans e118.symm)
          have e120 : y79 = p117.2.1 := congrArg (fun z => z.2.1) (hE115.trans e118.symm)
          have e121 : y80 = p117.2.2.1 := congrArg (fun z => z.2.2.1) (hE115.trans e118.symm)
          have e122 : y81 = p117.2.2.2.1 := congrArg (fun z => z.2.2.2.1) (hE115.trans e118.symm)
          have e123 : y82 = p117.2.2.2.2.1 := congrArg (fun z => z.2.2.2.2.1) (hE115.trans e118.symm)
          have e124 : y83 = p117.2.2.2.2.2.1 := congrArg (fun z => z.2.2.2.2.2.1) (hE115.trans e118.symm)
          have e125 : y84 = p117.2.2.2.2.2.2.1 := congrArg (fun z => z.2.2.2.2.2.2.1) (hE115.trans e118.symm)
          have e126 : y85 = p117.2.2.2.2.2.2.2.1 := congrArg (fun z => z.2.2.2.2.2.2.2.1) (hE115.trans e118.symm)
          have e127 : y86 = p117.2.2.2.2.2.2.2.2.1 := congrArg (fun z => z.2.2.2.2.2.2.2.2.1) (hE115.trans e118.symm)
          have e128 : y87 = p117.2.2.2.2.2.2.2.2.2.1 := congrArg (fun z => z.2.2.2.2.2.2.2.2.2.1) (hE115.trans e118.symm)
          have e129 : y88 = p117.2.2.2.2.2.2.2.2.2.2.1 := congrArg (fun z => z.2.2.2.2.2.2.2.2.2.2.1) (hE115.trans e118.symm)
          have e130 : f89 = p117.2.2.2.2.2.2.2.2.2.2.2.1 := congrArg (fun z => z.2.2.2.2.2.2.2.2.2.2.2.1) (hE115.trans e118.symm)
          have e131 : f91 = p117.2.2.2.2.2.2.2.2.2.2.2.2.1 := congrArg (fun z => z.2.2.2.2.2.2.2.2.2.2.2.2.1) (hE115.trans e118.symm)
          have e132 : f93 = p117.2.2.2.2.2.2.2.2.2.2.2.2.2.1 := congrArg (fun z => z.2.2.2.2.2.2.2.2.2.2.2.2.2.1) (hE115.trans e118.symm)
          have e133 : f95 = p117.2.2.2.2.2.2.2.2.2.2.2.2.2.2.1 := congrArg (fun z => z.2.2.2.2.2.2.2.2.2.2.2.2.2.2.1) (hE115.trans e118.symm)
          have e134 : f97 = p117.2.2.2.2.2.2.2.2.2.2.2.2.2.2.2.1 := congrArg (fun z => z.2.2.2.2.2.2.2.2.2.2.2.2.2.2.2.1) (hE115.trans e118.symm)
          have e135 : f99 = p117.2.2.2.2.2.2.2.2.2.2.2.2.2.2.2.2.1 := congrArg (fun z => z.2.2.2.2.2.2.2.2.2.2.2.2.2.2.2.2.1) (hE115.trans e118.symm)
          have e136 : f101 = p117.2.2.2.2.2.2.2.2.2.2.2.2.2.2.2.2.2 := congrArg (fun z => z.2.2.2.2.2.2.2.2.2.2.2.2.2.2.2.2.2) (hE115.trans e118.symm)
          replace b103 : q_F (0 ≤ y82.toInt + 1) := b103
          replace b104 : q_F (0 ≤ y83.toInt) := b104
          replace b105 : q_F (y83.toInt ≤ 1) := b105
          replace b106 : q_F (t1_1.toInt ≤ y79.toInt) := b106
          replace b107 : q_F (y79.toInt ≤ t1_1.toInt) := b107
          replace b108 : q_F (y82.toInt ≤ t1_4.toInt) := b108
          replace b109 : q_F (t1_6.toInt ≤ y84.toInt) := b109
          replace b110 : q_F (y84.toInt ≤ t1_6.toInt) := b110
          replace b111 : q_F (t1_8.toInt ≤ y86.toInt) := b111
          replace b112 : q_F (y86.toInt ≤ t1_8.toInt) := b112
          replace b113 : q_F (t1_9.toInt ≤ y87.toInt) := b113
          replace b114 : q_F (y87.toInt ≤ t1_9.toInt) := b114
          replace hT0 := (hu116 _ (by decide)).trans hT0
          replace hT7 := (hu116 _ (by decide)).trans hT7
          replace hF := q_uc hF hu116 (by simp)
          have hR137 := (show F_NM_decimal_c104 x2 x3 x4 x5 t0_0 t0_1 t0_2 t1_0 t1_1 t1_2 t1_3 t1_4 t1_5 t1_6 t1_7 t1_8 t1_9 t1_10 t2_0 t3_0 t4_0 t5_0 t6_0 t7_0 t8_0 t9_0 lx47 p117 = (F_NM_decimal x2 x3 x4 x5 t0_0 t0_1 t0_2 t1_0 t1_1 t1_2 t1_3 t1_4 t1_5 t1_6 t1_7 t1_8 t1_9 t1_10 t2_0 t3_0 t4_0 t5_0 t6_0 t7_0 t8_0 t9_0) from Eq.trans (by rw [e118, F_NM_decimal_J37.eq_1, if_pos c68, if_pos c70, if_neg c72]) hR61)
          have hS138 := (show True ∧ S_NM_decimal_c104 x2 x3 x4 x5 t0_0 t0_1 t0_2 t1_0 t1_1 t1_2 t1_3 t1_4 t1_5 t1_6 t1_7 t1_8 t1_9 t1_10 t2_0 t3_0 t4_0 t5_0 t6_0 t7_0 t8_0 t9_0 lx47 p117 from (by rw [e118]; have h := hS62; rw [S_NM_decimal_J37.eq_1] at h; rw [if_pos c68] at h; rw [if_pos c70] at h; rw [if_neg c72] at h; replace h := q_s2 h; with_reducible exact h))
          refine lv_aload_n hx hb d_14_23_107 rfl (lv_at hl 0 rfl) ?_
          refine lv_aload_n hx hb d_14_23_108 rfl (lv_at hl 0 rfl) ?_
          refine q_get (ci := 12) (j := 6) (v := .ref (q 134)) C0 V i_NM rfl rfl hT0 (by decide) w_2304 rfl d_14_23_109 ?_
          refine q_getN (ci := 14) (j := 0) (v := .int y78) C0 V i_DR rfl rfl hO77 (by decide) wo_1997 rfl d_14_23_112 ?_
          refine q_put (ci := 12) (j := 0) (v := .int y78) (ty := .int) C0 V i_NM o_NM n_NM rfl rfl hT0 (by decide) w_2298 rfl rfl rfl rfl (Nat.le_of_ble_eq_true rfl) d_14_23_115 (fun H locs w142 hu143 hT0 V => ?_)
          replace hT0 : w142[116]? = (some (q 116, .inr (12, [.int y78, .ref (q 117), .int t0_1, .ref (q 118), .int t0_2, .ref (q 119), .ref (q 134), .ref (q 145), .ref (q 153), .ref (q 157), .ref (q 167), .ref (q 168)])) : Option (Nat × va_E)) := hT0
          replace hI := n_p116 hI hu143 hT0 ⟨(by have t1 : 0 ≤ t0_1.toInt ∧ t0_1.toInt ≤ 4100 := btt0_1; omega), (by have t1 : 0 ≤ t0_1.toInt ∧ t0_1.toInt ≤ 4100 := btt0_1; omega)⟩ ⟨(by have t1 : 0 ≤ t0_2.toInt ∧ t0_2.toInt ≤ 12200 := btt0_2; omega), (by have t1 : 0 ≤ t0_2.toInt ∧ t0_2.toInt ≤ 12200 := btt0_2; omega)⟩
          replace hO77 := (hu143 _ (by decide)).trans hO77
          replace hA90 := (hu143 _ (by decide)).trans hA90
          replace hA92 := (hu143 _ (by decide)).trans hA92
          replace hA94 := (hu143 _ (by decide)).trans hA94
          replace hA96 := (hu143 _ (by decide)).trans hA96
          replace hA98 := (hu143 _ (by decide)).trans hA98
          replace hT7 := (hu143 _ (by decide)).trans hT7
          replace hA100 := (hu143 _ (by decide)).trans hA100
          replace hA102 := (hu143 _ (by decide)).trans hA102
          replace hF := q_us hF hu143 (by simp)
          exact q_retv C0 V (⟨hI, hF, y78, t0_1, t0_2, y78, y79, y80, y81, y82, y83, y84, y85, y86, y87, y88, f89, f91, f93, f95, f97, t7_0, f99, f101, hT0, hO77, hA90, hA92, hA94, hA96, hA98, hT7, hA100, hA102, (show 0 ≤ y82.toInt + 1 from (by have t1 : 0 ≤ y82.toInt + 1 := b103; omega)), (show 0 ≤ y83.toInt from (by have t1 : 0 ≤ y83.toInt := b104; omega)), (show y83.toInt ≤ 1 from (by have t1 : y83.toInt ≤ 1 := b105; omega)), (show t0_1.toInt ≤ t0_1.toInt from (by omega)), (show t0_1.toInt ≤ t0_1.toInt from (by omega)), (show t0_2.toInt ≤ t0_2.toInt from (by omega)), (show t0_2.toInt ≤ t0_2.toInt from (by omega)), (show t1_1.toInt ≤ y79.toInt from (by have t1 : t1_1.toInt ≤ y79.toInt := b106; omega)), (show y79.toInt ≤ t1_1.toInt from (by have t1 : y79.toInt ≤ t1_1.toInt := b107; omega)), (show y82.toInt ≤ t1_4.toInt from (by have t1 : y82.toInt ≤ t1_4.toInt := b108; omega)), (show t1_6.toInt ≤ y84.toInt from (by have t1 : t1_6.toInt ≤ y84.toInt := b109; omega)), (show y84.toInt ≤ t1_6.toInt from (by have t1 : y84.toInt ≤ t1_6.toInt := b110; omega)), (show t1_8.toInt ≤ y86.toInt from (by have t1 : t1_8.toInt ≤ y86.toInt := b111; omega)), (show y86.toInt ≤ t1_8.toInt from (by have t1 : y86.toInt ≤ t1_8.toInt := b112; omega)), (show t1_9.toInt ≤ y87.toInt from (by have t1 : t1_9.toInt ≤ y87.toInt := b113; omega)), (show y87.toInt ≤ t1_9.toInt from (by have t1 : y87.toInt ≤ t1_9.toInt := b114; omega)), (show (y78, t0_1, t0_2, y78, y79, y80, y81, y82, y83, y84, y85, y86, y87, y88, f89, f91, f93, f95, f97, t7_0, f99, f101) = (F_NM_decimal x2 x3 x4 x5 t0_0 t0_1 t0_2 t1_0 t1_1 t1_2 t1_3 t1_4 t1_5 t1_6 t1_7 t1_8 t1_9 t1_10 t2_0 t3_0 t4_0 t5_0 t6_0 t7_0 t8_0 t9_0) from Eq.trans (by rw [e136, e135, e134, e133, e132, e131, e130, e129, e128, e127, e126, e125, e124, e123, e122, e121, e120, e119, F_NM_decimal_c104.eq_1]) hR137)⟩) d_14_23_118
        ·
          have b144 : q_F (x2.toInt = 2) := (q_eqI c72)
          refine lv_aload_n hx hb d_14_23_82 rfl (lv_at hl 0 rfl) ?_
          refine q_get (ci := 12) (j := 6) (v := .ref (q 134)) C0 V i_NM rfl rfl hT0 (by decide) w_2304 rfl d_14_23_83 ?_
          refine lv_iload_n hx hb d_14_23_86 rfl (lv_at hl 2 rfl) ?_
          refine lv_iload_n hx hb d_14_23_87 rfl (lv_at hl 3 rfl) ?_
          refine lv_iload hx hb d_14_23_88 (lv_at hl 4 rfl) ?_
          have ob145 : True ∧ S_DR_multiply x3 x4 x5 t1_0 t1_1 t1_2 t1_3 t1_4 t1_5 t1_6 t1_7 t1_8 t1_9 t1_10 t2_0 t3_0 t4_0 t5_0 t6_0 t7_0 := (by have h := hS62; rw [S_NM_decimal_J37.eq_1] at h; rw [if_pos c68] at h; rw [if_pos c70] at h; rw [if_pos c72] at h; with_reducible exact h.2.1)
          refine q_gov V (q_runV (As := [.int x3, .int x4, .int x5]) (rest := []) (d := 3) (mc := 0) (ms := 0) (ci := 14) C0 V rfl LV_NM_204 (X_DR_multiply l D g q w66  x3 x4 x5 hI t1_0 t1_1 t1_2 t1_3 t1_4 t1_5 t1_6 t1_7 t1_8 t1_9 t1_10 hT1 t2_0 hT2 t3_0 hT3 t4_0 hT4 t5_0 hT5 t6_0 hT6 t7_0 hT7 ob145 _) rfl rfl hT1 rfl hl.1 rfl (Nat.le_of_ble_eq_true rfl) ⟨by decide, by decide⟩ ⟨Nat.le_of_ble_eq_true rfl, Nat.le_of_ble_eq_true rfl⟩ d_14_23_90) (fun u146 H locs hp147 V => ?_)
          obtain ⟨hI, hu187, y149, y150, y151, y152, y153, y154, y155, y156, y157, y158, y159, f160, f162, f164, f166, f168, f170, hO148, hA161, hA163, hA165, hA167, hA169, hA171, b172, b173, b174, b175, b176, b177, b178, b179, b180, b181, b182, b183, b184, b185, hE186⟩ := hp147
          replace hO148 : u146[134]? = (some (q 134, .inr (14, [.int y149, .ref (q 135), .int y150, .ref (q 136), .ref (q 137), .ref (q 138), .ref (q 139), .ref (q 140), .int y151, .long y152, .int y153, .int y154, .ref (q 141), .int y155, .ref (q 142), .int y156, .ref (q 143), .int y157, .ref (q 144), .int y158, .int y159])) : Option (Nat × va_E)) := hO148
          replace hA161 : u146[136]? = (some (q 136, .inl (g 0, (10000 : Int32).toNatClampNeg, .inl f160)) : Option (Nat × va_E)) := hA161
          replace hA163 : u146[137]? = (some (q 137, .inl (g 0, (10 : Int32).toNatClampNeg, .inl f162)) : Option (Nat × va_E)) := hA163
          replace hA165 : u146[138]? = (some (q 138, .inl (g 3, 10, .inl f164)) : Option (Nat × va_E)) := hA165
          replace hA167 : u146[139]? = (some (q 139, .inl (g 0, (10 : Int32).toNatClampNeg, .inl f166)) : Option (Nat × va_E)) := hA167
          replace hA169 : u146[140]? = (some (q 140, .inl (g 0, (4400 : Int32).toNatClampNeg, .inl f168)) : Option (Nat × va_E)) := hA169
          replace hA171 : u146[141]? = (some (q 141, .inl (g 0, (4400 : Int32).toNatClampNeg, .inl f170)) : Option (Nat × va_E)) := hA171
          obtain ⟨p188, e189⟩ : ∃ z, z = (F_DR_multiply x3 x4 x5 t1_0 t1_1 t1_2 t1_3 t1_4 t1_5 t1_6 t1_7 t1_8 t1_9 t1_10 t2_0 t3_0 t4_0 t5_0 t6_0 t7_0) := ⟨_, rfl⟩
          have e190 : y149 = p188.1 := congrArg (fun z => z.1) (hE186.trans e189.symm)
          have e191 : y150 = p188.2.1 := congrArg (fun z => z.2.1) (hE186.trans e189.symm)
          have e192 : y151 = p188.2.2.1 := congrArg (fun z => z.2.2.1) (hE186.trans e189.symm)
          have e193 : y152 = p188.2.2.2.1 := congrArg (fun z => z.2.2.2.1) (hE186.trans e189.symm)
          have e194 : y153 = p188.2.2.2.2.1 := congrArg (fun z => z.2.2.2.2.1) (hE186.trans e189.symm)
          have e195 : y154 = p188.2.2.2.2.2.1 := congrArg (fun z => z.2.2.2.2.2.1) (hE186.trans e189.symm)
          have e196 : y155 = p188.2.2.2.2.2.2.1 := congrArg (fun z => z.2.2.2.2.2.2.1) (hE186.trans e189.symm)
          have e197 : y156 = p188.2.2.2.2.2.2.2.1 := congrArg (fun z => z.2.2.2.2.2.2.2.1) (hE186.trans e189.symm)
          have e198 : y157 = p188.2.2.2.2.2.2.2.2.1 := congrArg (fun z => z.2.2.2.2.2.2.2.2.1) (hE186.trans e189.symm)
          have e199 : y158 = p188.2.2.2.2.2.2.2.2.2.1 := congrArg (fun z => z.2.2.2.2.2.2.2.2.2.1) (hE186.trans e189.symm)
          have e200 : y159 = p188.2.2.2.2.2.2.2.2.2.2.1 := congrArg (fun z => z.2.2.2.2.2.2.2.2.2.2.1) (hE186.trans e189.symm)
          have e201 : f160 = p188.2.2.2.2.2.2.2.2.2.2.2.1 := congrArg (fun z => z.2.2.2.2.2.2.2.2.2.2.2.1) (hE186.trans e189.symm)
          have e202 : f162 = p188.2.2.2.2.2.2.2.2.2.2.2.2.1 := congrArg (fun z => z.2.2.2.2.2.2.2.2.2.2.2.2.1) (hE186.trans e189.symm)
          have e203 : f164 = p188.2.2.2.2.2.2.2.2.2.2.2.2.2.1 := congrArg (fun z => z.2.2.2.2.2.2.2.2.2.2.2.2.2.1) (hE186.trans e189.symm)
          have e204 : f166 = p188.2.2.2.2.2.2.2.2.2.2.2.2.2.2.1 := congrArg (fun z => z.2.2.2.2.2.2.2.2.2.2.2.2.2.2.1) (hE186.trans e189.symm)
          have e205 : f168 = p188.2.2.2.2.2.2.2.2.2.2.2.2.2.2.2.1 := congrArg (fun z => z.2.2.2.2.2.2.2.2.2.2.2.2.2.2.2.1) (hE186.trans e189.symm)
          have e206 : f170 = p188.2.2.2.2.2.2.2.2.2.2.2.2.2.2.2.2 := congrArg (fun z => z.2.2.2.2.2.2.2.2.2.2.2.2.2.2.2.2) (hE186.trans e189.symm)
          replace b172 : q_F (0 ≤ y153.toInt) := b172
          replace b173 : q_F (0 ≤ y154.toInt) := b173
          replace b174 : q_F (y154.toInt ≤ 1) := b174
          replace b175 : q_F (t1_1.toInt ≤ y150.toInt) := b175
          replace b176 : q_F (y150.toInt ≤ t1_1.toInt) := b176
          replace b177 : q_F (y153.toInt ≤ t1_4.toInt) := b177
          replace b178 : q_F (t1_6.toInt ≤ y155.toInt) := b178
          replace b179 : q_F (y155.toInt ≤ t1_6.toInt) := b179
          replace b180 : q_F (t1_7.toInt ≤ y156.toInt) := b180
          replace b181 : q_F (y156.toInt ≤ t1_7.toInt) := b181
          replace b182 : q_F (t1_8.toInt ≤ y157.toInt) := b182
          replace b183 : q_F (y157.toInt ≤ t1_8.toInt) := b183
          replace b184 : q_F (t1_9.toInt ≤ y158.toInt) := b184
          replace b185 : q_F (y158.toInt ≤ t1_9.toInt) := b185
          replace hT0 := (hu187 _ (by decide)).trans hT0
          replace hT8 := (hu187 _ (by decide)).trans hT8
          replace hT9 := (hu187 _ (by decide)).trans hT9
          replace hF := q_uc hF hu187 (by simp)
          have hR207 := (show F_NM_decimal_c90 x2 x3 x4 x5 t0_0 t0_1 t0_2 t1_0 t1_1 t1_2 t1_3 t1_4 t1_5 t1_6 t1_7 t1_8 t1_9 t1_10 t2_0 t3_0 t4_0 t5_0 t6_0 t7_0 t8_0 t9_0 lx47 p188 = (F_NM_decimal x2 x3 x4 x5 t0_0 t0_1 t0_2 t1_0 t1_1 t1_2 t1_3 t1_4 t1_5 t1_6 t1_7 t1_8 t1_9 t1_10 t2_0 t3_0 t4_0 t5_0 t6_0 t7_0 t8_0 t9_0) from Eq.trans (by rw [e189, F_NM_decimal_J37.eq_1, if_pos c68, if_pos c70, if_pos c72]) hR61)
          have hS208 := (show True ∧ S_NM_decimal_c90 x2 x3 x4 x5 t0_0 t0_1 t0_2 t1_0 t1_1 t1_2 t1_3 t1_4 t1_5 t1_6 t1_7 t1_8 t1_9 t1_10 t2_0 t3_0 t4_0 t5_0 t6_0 t7_0 t8_0 t9_0 lx47 p188 from (by rw [e189]; have h := hS62; rw [S_NM_decimal_J37.eq_1] at h; rw [if_pos c68] at h; rw [if_pos c70] at h; rw [if_pos c72] at h; replace h := q_s2 h; with_reducible exact h))
          refine lv_goto (tgt := 107) hx hb d_14_23_93 (by decide) ?_
          refine lv_aload_n hx hb d_14_23_107 rfl (lv_at hl 0 rfl) ?_
          refine lv_aload_n hx hb d_14_23_108 rfl (lv_at hl 0 rfl) ?_
          refine q_get (ci := 12) (j := 6) (v := .ref (q 134)) C0 V i_NM rfl rfl hT0 (by decide) w_2304 rfl d_14_23_109 ?_
          refine q_getN (ci := 14) (j := 0) (v := .int y149) C0 V i_DR rfl rfl hO148 (by decide) wo_1997 rfl d_14_23_112 ?_
          refine q_put (ci := 12) (j := 0) (v := .int y149) (ty := .int) C0 V i_NM o_NM n_NM rfl rfl hT0 (by decide) w_2298 rfl rfl rfl rfl (Nat.le_of_ble_eq_true rfl) d_14_23_115 (fun H locs w212 hu213 hT0 V => ?_)
          replace hT0 : w212[116]? = (some (q 116, .inr (12, [.int y149, .ref (q 117), .int t0_1, .ref (q 118), .int t0_2, .ref (q 119), .ref (q 134), .ref (q 145), .ref (q 153), .ref (q 157), .ref (q 167), .ref (q 168)])) : Option (Nat × va_E)) := hT0
          replace hI := n_p116 hI hu213 hT0 ⟨(by have t1 : 0 ≤ t0_1.toInt ∧ t0_1.toInt ≤ 4100 := btt0_1; omega), (by have t1 : 0 ≤ t0_1.toInt ∧ t0_1.toInt ≤ 4100 := btt0_1; omega)⟩ ⟨(by have t1 : 0 ≤ t0_2.toInt ∧ t0_2.toInt ≤ 12200 := btt0_2; omega), (by have t1 : 0 ≤ t0_2.toInt ∧ t0_2.toInt ≤ 12200 := btt0_2; omega)⟩
          replace hO148 := (hu213 _ (by decide)).trans hO148
          replace hA161 := (hu213 _ (by decide)).trans hA161
          replace hA163 := (hu213 _ (by decide)).trans hA163
          replace hA165 := (hu213 _ (by decide)).trans hA165
          replace hA167 := (hu213 _ (by decide)).trans hA167
          replace hA169 := (hu213 _ (by decide)).trans hA169
          replace hA171 := (hu213 _ (by decide)).trans hA171
          replace hT8 := (hu213 _ (by decide)).trans hT8
          replace hT9 := (hu213 _ (by decide)).trans hT9
          replace hF := q_us hF hu213 (by simp)
          exact q_retv C0 V (⟨hI, hF, y149, t0_1, t0_2, y149, y150, y151, y152, y153, y154, y155, y156, y157, y158, y159, f160, f162, f164, f166, f168, f170, t8_0, t9_0, hT0, hO148, hA161, hA163, hA165, hA167, hA169, hA171, hT8, hT9, (show 0 ≤ y153.toInt + 1 from (by have t1 : 0 ≤ y153.toInt := b172; omega)), (show 0 ≤ y154.toInt from (by have t1 : 0 ≤ y154.toInt := b173; omega)), (show y154.toInt ≤ 1 from (by have t1 : y154.toInt ≤ 1 := b174; omega)), (show t0_1.toInt ≤ t0_1.toInt from (by omega)), (show t0_1.toInt ≤ t0_1.toInt from (by omega)), (show t0_2.toInt ≤ t0_2.toInt from (by omega)), (show t0_2.toInt ≤ t0_2.toInt from (by omega)), (show t1_1.toInt ≤ y150.toInt from (by have t1 : t1_1.toInt ≤ y150.toInt := b175; omega)), (show y150.toInt ≤ t1_1.toInt from (by have t1 : y150.toInt ≤ t1_1.toInt := b176; omega)), (show y153.toInt ≤ t1_4.toInt from (by have t1 : y153.toInt ≤ t1_4.toInt := b177; omega)), (show t1_6.toInt ≤ y155.toInt from (by have t1 : t1_6.toInt ≤ y155.toInt := b178; omega)), (show y155.toInt ≤ t1_6.toInt from (by have t1 : y155.toInt ≤ t1_6.toInt := b179; omega)), (show t1_8.toInt ≤ y157.toInt from (by have t1 : t1_8.toInt ≤ y157.toInt := b182; omega)), (show y157.toInt ≤ t1_8.toInt from (by have t1 : y157.toInt ≤ t1_8.toInt := b183; omega)), (show t1_9.toInt ≤ y158.toInt from (by have t1 : t1_9.toInt ≤ y158.toInt := b184; omega)), (show y158.toInt ≤ t1_9.toInt from (by have t1 : y158.toInt ≤ t1_9.toInt := b185; omega)), (show (y149, t0_1, t0_2, y149, y150, y151, y152, y153, y154, y155, y156, y157, y158, y159, f160, f162, f164, f166, f168, f170, t8_0, t9_0) = (F_NM_decimal x2 x3 x4 x5 t0_0 t0_1 t0_2 t1_0 t1_1 t1_2 t1_3 t1_4 t1_5 t1_6 t1_7 t1_8 t1_9 t1_10 t2_0 t3_0 t4_0 t5_0 t6_0 t7_0 t8_0 t9_0) from Eq.trans (by rw [e206, e205, e204, e203, e202, e201, e200, e199, e198, e197, e196, e195, e194, e193, e192, e191, e190, F_NM_decimal_c90.eq_1]) hR207)⟩) d_14_23_118
      ·
        have b214 : q_F (x2.toInt < 2) := (q_nleI c70)
        refine lv_aload_n hx hb d_14_23_53 rfl (lv_at hl 0 rfl) ?_
        refine q_get (ci := 12) (j := 6) (v := .ref (q 134)) C0 V i_NM rfl rfl hT0 (by decide) w_2304 rfl d_14_23_54 ?_
        refine lv_iload_n hx hb d_14_23_57 rfl (lv_at hl 2 rfl) ?_
        refine lv_iload_n hx hb d_14_23_58 rfl (lv_at hl 3 rfl) ?_
        refine lv_iload hx hb d_14_23_59 (lv_at hl 4 rfl) ?_
        refine lv_iload_n hx hb d_14_23_61 rfl (lv_at hl 1 rfl) ?_
        refine lv_iconst (v := 1) hx hb d_14_23_62 (by decide) ?_
        refine lv_icmp_ne (tgt := 70) hx hb d_14_23_63 (by decide) (fun c215 => ?_) (fun c215 => ?_)
        ·
          have b216 : q_F (x2.toInt ≠ 1) := (q_neI c215)
          refine lv_iconst (v := 0) hx hb d_14_23_70 (by decide) ?_
          have ob217 : True ∧ S_DR_add x3 x4 x5 (0 : Int32) t1_0 t1_1 t1_2 t1_3 t1_4 t1_5 t1_6 t1_7 t1_8 t1_9 t1_10 t2_0 t3_0 t4_0 t5_0 t6_0 := (by have h := hS62; rw [S_NM_decimal_J37.eq_1] at h; rw [if_pos c68] at h; rw [if_neg c70] at h; rw [if_neg c215] at h; with_reducible exact h.2.1)
          refine q_gov V (q_runV (As := [.int x3, .int x4, .int x5, .int 0]) (rest := []) (d := 3) (mc := 0) (ms := 0) (ci := 14) C0 V rfl LV_NM_203 (X_DR_add l D g q w66  x3 x4 x5 0 hI t1_0 t1_1 t1_2 t1_3 t1_4 t1_5 t1_6 t1_7 t1_8 t1_9 t1_10 hT1 t2_0 hT2 t3_0 hT3 t4_0 hT4 t5_0 hT5 t6_0 hT6 ⟨(by have y0 : (0 : Int32).toInt = 0 := rfl; omega), (by have y0 : (0 : Int32).toInt = 0 := rfl; omega)⟩ ob217 _) rfl rfl hT1 rfl hl.1 rfl (Nat.le_of_ble_eq_true rfl) ⟨by decide, by decide⟩ ⟨Nat.le_of_ble_eq_true rfl, Nat.le_of_ble_eq_true rfl⟩ d_14_23_71) (fun u218 H locs hp219 V => ?_)
          obtain ⟨hI, hu257, y221, y222, y223, y224, y225, y226, y227, y228, y229, y230, y231, f232, f234, f236, f238, f240, hO220, hA233, hA235, hA237, hA239, hA241, b242, b243, b244, b245, b246, b247, b248, b249, b250, b251, b252, b253, b254, b255, hE256⟩ := hp219
          replace hO220 : u218[134]? = (some (q 134, .inr (14, [.int y221, .ref (q 135), .int y222, .ref (q 136), .ref (q 137), .ref (q 138), .ref (q 139), .ref (q 140), .int y223, .long y224, .int y225, .int y226, .ref (q 141), .int y227, .ref (q 142), .int y228, .ref (q 143), .int y229, .ref (q 144), .int y230, .int y231])) : Option (Nat × va_E)) := hO220
          replace hA233 : u218[136]? = (some (q 136, .inl (g 0, (10000 : Int32).toNatClampNeg, .inl f232)) : Option (Nat × va_E)) := hA233
          replace hA235 : u218[137]? = (some (q 137, .inl (g 0, (10 : Int32).toNatClampNeg, .inl f234)) : Option (Nat × va_E)) := hA235
          replace hA237 : u218[138]? = (some (q 138, .inl (g 3, 10, .inl f236)) : Option (Nat × va_E)) := hA237
          replace hA239 : u218[139]? = (some (q 139, .inl (g 0, (10 : Int32).toNatClampNeg, .inl f238)) : Option (Nat × va_E)) := hA239
          replace hA241 : u218[140]? = (some (q 140, .inl (g 0, (4400 : Int32).toNatClampNeg, .inl f240)) : Option (Nat × va_E)) := hA241
          obtain ⟨p258, e259⟩ : ∃ z, z = (F_DR_add x3 x4 x5 (0 : Int32) t1_0 t1_1 t1_2 t1_3 t1_4 t1_5 t1_6 t1_7 t1_8 t1_9 t1_10 t2_0 t3_0 t4_0 t5_0 t6_0) := ⟨_, rfl⟩
          have e260 : y221 = p258.1 := congrArg (fun z => z.1) (hE256.trans e259.symm)
          have e261 : y222 = p258.2.1 := congrArg (fun z => z.2.1) (hE256.trans e259.symm)
          have e262 : y223 = p258.2.2.1 := congrArg (fun z => z.2.2.1) (hE256.trans e259.symm)
          have e263 : y224 = p258.2.2.2.1 := congrArg (fun z => z.2.2.2.1) (hE256.trans e259.symm)
          have e264 : y225 = p258.2.2.2.2.1 := congrArg (fun z => z.2.2.2.2.1) (hE256.trans e259.symm)
          have e265 : y226 = p258.2.2.2.2.2.1 := congrArg (fun z => z.2.2.2.2.2.1) (hE256.trans e259.symm)
          have e266 : y227 = p258.2.2.2.2.2.2.1 := congrArg (fun z => z.2.2.2.2.2.2.1) (hE256.trans e259.symm)
          have e267 : y228 = p258.2.2.2.2.2.2.2.1 := congrArg (fun z => z.2.2.2.2.2.2.2.1) (hE256.trans e259.symm)
          have e268 : y229 = p258.2.2.2.2.2.2.2.2.1 := congrArg (fun z => z.2.2.2.2.2.2.2.2.1) (hE256.trans e259.symm)
          have e269 : y230 = p258.2.2.2.2.2.2.2.2.2.1 := congrArg (fun z => z.2.2.2.2.2.2.2.2.2.1) (hE256.trans e259.symm)
          have e270 : y231 = p258.2.2.2.2.2.2.2.2.2.2.1 := congrArg (fun z => z.2.2.2.2.2.2.2.2.2.2.1) (hE256.trans e259.symm)
          have e271 : f232 = p258.2.2.2.2.2.2.2.2.2.2.2.1 := congrArg (fun z => z.2.2.2.2.2.2.2.2.2.2.2.1) (hE256.trans e259.symm)
          have e272 : f234 = p258.2.2.2.2.2.2.2.2.2.2.2.2.1 := congrArg (fun z => z.2.2.2.2.2.2.2.2.2.2.2.2.1) (hE256.trans e259.symm)
          have e273 : f236 = p258.2.2.2.2.2.2.2.2.2.2.2.2.2.1 := congrArg (fun z => z.2.2.2.2.2.2.2.2.2.2.2.2.2.1) (hE256.trans e259.symm)
          have e274 : f238 = p258.2.2.2.2.2.2.2.2.2.2.2.2.2.2.1 := congrArg (fun z => z.2.2.2.2.2.2.2.2.2.2.2.2.2.2.1) (hE256.trans e259.symm)
          have e275 : f240 = p258.2.2.2.2.2.2.2.2.2.2.2.2.2.2.2 := congrArg (fun z => z.2.2.2.2.2.2.2.2.2.2.2.2.2.2.2) (hE256.trans e259.symm)
          replace b242 : q_F (0 ≤ y225.toInt) := b242
          replace b243 : q_F (0 ≤ y226.toInt) := b243
          replace b244 : q_F (y226.toInt ≤ 1) := b244
          replace b245 : q_F (t1_1.toInt ≤ y222.toInt) := b245
          replace b246 : q_F (y222.toInt ≤ t1_1.toInt) := b246
          replace b247 : q_F (y225.toInt ≤ t1_4.toInt) := b247
          replace b248 : q_F (t1_6.toInt ≤ y227.toInt) := b248
          replace b249 : q_F (y227.toInt ≤ t1_6.toInt) := b249
          replace b250 : q_F (t1_7.toInt ≤ y228.toInt) := b250
          replace b251 : q_F (y228.toInt ≤ t1_7.toInt) := b251
          replace b252 : q_F (t1_8.toInt ≤ y229.toInt) := b252
          replace b253 : q_F (y229.toInt ≤ t1_8.toInt) := b253
          replace b254 : q_F (t1_9.toInt ≤ y230.toInt) := b254
          replace b255 : q_F (y230.toInt ≤ t1_9.toInt) := b255
          replace hT0 := (hu257 _ (by decide)).trans hT0
          replace hT7 := (hu257 _ (by decide)).trans hT7
          replace hT8 := (hu257 _ (by decide)).trans hT8
          replace hT9 := (hu257 _ (by decide)).trans hT9
          replace hF := q_uc hF hu257 (by simp)
          have hR276 := (show F_NM_decimal_c71 x2 x3 x4 x5 t0_0 t0_1 t0_2 t1_0 t1_1 t1_2 t1_3 t1_4 t1_5 t1_6 t1_7 t1_8 t1_9 t1_10 t2_0 t3_0 t4_0 t5_0 t6_0 t7_0 t8_0 t9_0 lx47 p258 = (F_NM_decimal x2 x3 x4 x5 t0_0 t0_1 t0_2 t1_0 t1_1 t1_2 t1_3 t1_4 t1_5 t1_6 t1_7 t1_8 t1_9 t1_10 t2_0 t3_0 t4_0 t5_0 t6_0 t7_0 t8_0 t9_0) from Eq.trans (by rw [e259, F_NM_decimal_J37.eq_1, if_pos c68, if_neg c70, if_neg c215]) hR61)
          have hS277 := (show True ∧ S_NM_decimal_c71 x2 x3 x4 x5 t0_0 t0_1 t0_2 t1_0 t1_1 t1_2 t1_3 t1_4 t1_5 t1_6 t1_7 t1_8 t1_9 t1_10 t2_0 t3_0 t4_0 t5_0 t6_0 t7_0 t8_0 t9_0 lx47 p258 from (by rw [e259]; have h := hS62; rw [S_NM_decimal_J37.eq_1] at h; rw [if_pos c68] at h; rw [if_neg c70] at h; rw [if_neg c215] at h; replace h := q_s2 h; with_reducible exact h))
          refine lv_goto (tgt := 107) hx hb d_14_23_74 (by decide) ?_
          refine lv_aload_n hx hb d_14_23_107 rfl (lv_at hl 0 rfl) ?_
          refine lv_aload_n hx hb d_14_23_108 rfl (lv_at hl 0 rfl) ?_
          refine q_get (ci := 12) (j := 6) (v := .ref (q 134)) C0 V i_NM rfl rfl hT0 (by decide) w_2304 rfl d_14_23_109 ?_
          refine q_getN (ci := 14) (j := 0) (v := .int y221) C0 V i_DR rfl rfl hO220 (by decide) wo_1997 rfl d_14_23_112 ?_
          refine q_put (ci := 12) (j := 0) (v := .int y221) (ty := .int) C0 V i_NM o_NM n_NM rfl rfl hT0 (by decide) w_2298 rfl rfl rfl rfl (Nat.le_of_ble_eq_true rfl) d_14_23_115 (fun H locs w281 hu282 hT0 V => ?_)
          replace hT0 : w281[116]? = (some (q 116, .inr (12, [.int y221, .ref (q 117), .int t0_1, .ref (q 118), .int t0_2, .ref (q 119), .ref (q 134), .ref (q 145), .ref (q 153), .ref (q 157), .ref (q 167), .ref (q 168)])) : Option (Nat × va_E)) := hT0
          replace hI := n_p116 hI hu282 hT0 ⟨(by have t1 : 0 ≤ t0_1.toInt ∧ t0_1.toInt ≤ 4100 := btt0_1; omega), (by have t1 : 0 ≤ t0_1.toInt ∧ t0_1.toInt ≤ 4100 := btt0_1; omega)⟩ ⟨(by have t1 : 0 ≤ t0_2.toInt ∧ t0_2.toInt ≤ 12200 := btt0_2; omega), (by have t1 : 0 ≤ t0_2.toInt ∧ t0_2.toInt ≤ 12200 := btt0_2; omega)⟩
          replace hO220 := (hu282 _ (by decide)).trans hO220
          replace hA233 := (hu282 _ (by decide)).trans hA233
          replace hA235 := (hu282 _ (by decide)).trans hA235
          replace hA237 := (hu282 _ (by decide)).trans hA237
          replace hA239 := (hu282 _ (by decide)).trans hA239
          replace hA241 := (hu282 _ (by decide)).trans hA241
          replace hT7 := (hu282 _ (by decide)).trans hT7
          replace hT8 := (hu282 _ (by decide)).trans hT8
          replace hT9 := (hu282 _ (by decide)).trans hT9
          replace hF := q_us hF hu282 (by simp)
          exact q_retv C0 V (⟨hI, hF, y221, t0_1, t0_2, y221, y222, y223, y224, y225, y226, y227, y228, y229, y230, y231, f232, f234, f236, f238, f240, t7_0, t8_0, t9_0, hT0, hO220, hA233, hA235, hA237, hA239, hA241, hT7, hT8, hT9, (show 0 ≤ y225.toInt + 1 from (by have t1 : 0 ≤ y225.toInt := b242; omega)), (show 0 ≤ y226.toInt from (by have t1 : 0 ≤ y226.toInt := b243; omega)), (show y226.toInt ≤ 1 from (by have t1 : y226.toInt ≤ 1 := b244; omega)), (show t0_1.toInt ≤ t0_1.toInt from (by omega)), (show t0_1.toInt ≤ t0_1.toInt from (by omega)), (show t0_2.toInt ≤ t0_2.toInt from (by omega)), (show t0_2.toInt ≤ t0_2.toInt from (by omega)), (show t1_1.toInt ≤ y222.toInt from (by have t1 : t1_1.toInt ≤ y222.toInt := b245; omega)), (show y222.toInt ≤ t1_1.toInt from (by have t1 : y222.toInt ≤ t1_1.toInt := b246; omega)), (show y225.toInt ≤ t1_4.toInt from (by have t1 : y225.toInt ≤ t1_4.toInt := b247; omega)), (show t1_6.toInt ≤ y227.toInt from (by have t1 : t1_6.toInt ≤ y227.toInt := b248; omega)), (show y227.toInt ≤ t1_6.toInt from (by have t1 : y227.toInt ≤ t1_6.toInt := b249; omega)), (show t1_8.toInt ≤ y229.toInt from (by have t1 : t1_8.toInt ≤ y229.toInt := b252; omega)), (show y229.toInt ≤ t1_8.toInt from (by have t1 : y229.toInt ≤ t1_8.toInt := b253; omega)), (show t1_9.toInt ≤ y230.toInt from (by have t1 : t1_9.toInt ≤ y230.toInt := b254; omega)), (show y230.toInt ≤ t1_9.toInt from (by have t1 : y230.toInt ≤ t1_9.toInt := b255; omega)), (show (y221, t0_1, t0_2, y221, y222, y223, y224, y225, y226, y227, y228, y229, y230, y231, f232, f234, f236, f238, f240, t7_0, t8_0, t9_0) = (F_NM_decimal x2 x3 x4 x5 t0_0 t0_1 t0_2 t1_0 t1_1 t1_2 t1_3 t1_4 t1_5 t1_6 t1_7 t1_8 t1_9 t1_10 t2_0 t3_0 t4_0 t5_0 t6_0 t7_0 t8_0 t9_0) from Eq.trans (by rw [e275, e274, e273, e272, e271, e270, e269, e268, e267, e266, e265, e264, e263, e262, e261, e260, F_NM_decimal_c71.eq_1]) hR276)⟩) d_14_23_118
        ·
          have b283 : q_F (x2.toInt = 1) := (q_eqI c215)
          refine lv_iconst (v := 1) hx hb d_14_23_66 (by decide) ?_
          refine lv_goto (tgt := 71) hx hb d_14_23_67 (by decide) ?_
          have ob284 : True ∧ S_DR_add x3 x4 x5 (1 : Int32) t1_0 t1_1 t1_2 t1_3 t1_4 t1_5 t1_6 t1_7 t1_8 t1_9 t1_10 t2_0 t3_0 t4_0 t5_0 t6_0 := (by have h := hS62; rw [S_NM_decimal_J37.eq_1] at h; rw [if_pos c68] at h; rw [if_neg c70] at h; rw [if_pos c215] at h; with_reducible exact h.2.1)
          refine q_gov V (q_runV (As := [.int x3, .int x4, .int x5, .int 1]) (rest := []) (d := 3) (mc := 0) (ms := 0) (ci := 14) C0 V rfl LV_NM_203 (X_DR_add l D g q w66  x3 x4 x5 1 hI t1_0 t1_1 t1_2 t1_3 t1_4 t1_5 t1_6 t1_7 t1_8 t1_9 t1_10 hT1 t2_0 hT2 t3_0 hT3 t4_0 hT4 t5_0 hT5 t6_0 hT6 ⟨(by have y0 : (1 : Int32).toInt = 1 := rfl; omega), (by have y0 : (1 : Int32).toInt = 1 := rfl; omega)⟩ ob284 _) rfl rfl hT1 rfl hl.1 rfl (Nat.le_of_ble_eq_true rfl) ⟨by decide, by decide⟩ ⟨Nat.le_of_ble_eq_true rfl, Nat.le_of_ble_eq_true rfl⟩ d_14_23_71) (fun u285 H locs hp286 V => ?_)
          obtain ⟨hI, hu324, y288, y289, y290, y291, y292, y293, y294, y295, y296, y297, y298, f299, f301, f303, f305, f307, hO287, hA300, hA302, hA304, hA306, hA308, b309, b310, b311, b312, b313, b314, b315, b316, b317, b318, b319, b320, b321, b322, hE323⟩ := hp286
          replace hO287 : u285[134]? = (some (q 134, .inr (14, [.int y288, .ref (q 135), .int y289, .ref (q 136), .ref (q 137), .ref (q 138), .ref (q 139), .ref (q 140), .int y290, .long y291, .int y292, .int y293, .ref (q 141), .int y294, .ref (q 142), .int y295, .ref (q 143), .int y296, .ref (q 144), .int y297, .int y298])) : Option (Nat × va_E)) := hO287
          replace hA300 : u285[136]? = (some (q 136, .inl (g 0, (10000 : Int32).toNatClampNeg, .inl f299)) : Option (Nat × va_E)) := hA300
          replace hA302 : u285[137]? = (some (q 137, .inl (g 0, (10 : Int32).toNatClampNeg, .inl f301)) : Option (Nat × va_E)) := hA302
          replace hA304 : u285[138]? = (some (q 138, .inl (g 3, 10, .inl f303)) : Option (Nat × va_E)) := hA304
          replace hA306 : u285[139]? = (some (q 139, .inl (g 0, (10 : Int32).toNatClampNeg, .inl f305)) : Option (Nat × va_E)) := hA306
          replace hA308 : u285[140]? = (some (q 140, .inl (g 0, (4400 : Int32).toNatClampNeg, .inl f307)) : Option (Nat × va_E)) := hA308
          obtain ⟨p325, e326⟩ : ∃ z, z = (F_DR_add x3 x4 x5 (1 : Int32) t1_0 t1_1 t1_2 t1_3 t1_4 t1_5 t1_6 t1_7 t1_8 t1_9 t1_10 t2_0 t3_0 t4_0 t5_0 t6_0) := ⟨_, rfl⟩
          have e327 : y288 = p325.1 := congrArg (fun z => z.1) (hE323.trans e326.symm)
          have e328 : y289 = p325.2.1 := congrArg (fun z => z.2.1) (hE323.trans e326.symm)
          have e329 : y290 = p325.2.2.1 := congrArg (fun z => z.2.2.1) (hE323.trans e326.symm)
          have e330 : y291 = p325.2.2.2.1 := congrArg (fun z => z.2.2.2.1) (hE323.trans e326.symm)
          have e331 : y292 = p325.2.2.2.2.1 := congrArg (fun z => z.2.2.2.2.1) (hE323.trans e326.symm)
          have e332 : y293 = p325.2.2.2.2.2.1 := congrArg (fun z => z.2.2.2.2.2.1) (hE323.trans e326.symm)
          have e333 : y294 = p325.2.2.2.2.2.2.1 := congrArg (fun z => z.2.2.2.2.2.2.1) (hE323.trans e326.symm)
          have e334 : y295 = p325.2.2.2.2.2.2.2.1 := congrArg (fun z => z.2.2.2.2.2.2.2.1) (hE323.trans e326.symm)
          have e335 : y296 = p325.2.2.2.2.2.2.2.2.1 := congrArg (fun z => z.2.2.2.2.2.2.2.2.1) (hE323.trans e326.symm)
          have e336 : y297 = p325.2.2.2.2.2.2.2.2.2.1 := congrArg (fun z => z.2.2.2.2.2.2.2.2.2.1) (hE323.trans e326.symm)
          have e337 : y298 = p325.2.2.2.2.2.2.2.2.2.2.1 := congrArg (fun z => z.2.2.2.2.2.2.2.2.2.2.1) (hE323.trans e326.symm)
          have e338 : f299 = p325.2.2.2.2.2.2.2.2.2.2.2.1 := congrArg (fun z => z.2.2.2.2.2.2.2.2.2.2.2.1) (hE323.trans e326.symm)
          have e339 : f301 = p325.2.2.2.2.2.2.2.2.2.2.2.2.1 := congrArg (fun z => z.2.2.2.2.2.2.2.2.2.2.2.2.1) (hE323.trans e326.symm)
          have e340 : f303 = p325.2.2.2.2.2.2.2.2.2.2.2.2.2.1 := congrArg (fun z => z.2.2.2.2.2.2.2.2.2.2.2.2.2.1) (hE323.trans e326.symm)
          have e341 : f305 = p325.2.2.2.2.2.2.2.2.2.2.2.2.2.2.1 := congrArg (fun z => z.2.2.2.2.2.2.2.2.2.2.2.2.2.2.1) (hE323.trans e326.symm)
          have e342 : f307 = p325.2.2.2.2.2.2.2.2.2.2.2.2.2.2.2 := congrArg (fun z => z.2.2.2.2.2.2.2.2.2.2.2.2.2.2.2) (hE323.trans e326.symm)
          replace b309 : q_F (0 ≤ y292.toInt) := b309
          replace b310 : q_F (0 ≤ y293.toInt) := b310
          replace b311 : q_F (y293.toInt ≤ 1) := b311
          replace b312 : q_F (t1_1.toInt ≤ y289.toInt) := b312
          replace b313 : q_F (y289.toInt ≤ t1_1.toInt) := b313
          replace b314 : q_F (y292.toInt ≤ t1_4.toInt) := b314
          replace b315 : q_F (t1_6.toInt ≤ y294.toInt) := b315
          replace b316 : q_F (y294.toInt ≤ t1_6.toInt) := b316
          replace b317 : q_F (t1_7.toInt ≤ y295.toInt) := b317
          replace b318 : q_F (y295.toInt ≤ t1_7.toInt) := b318
          replace b319 : q_F (t1_8.toInt ≤ y296.toInt) := b319
          replace b320 : q_F (y296.toInt ≤ t1_8.toInt) := b320
          replace b321 : q_F (t1_9.toInt ≤ y297.toInt) := b321
          replace b322 : q_F (y297.toInt ≤ t1_9.toInt) := b322
          replace hT0 := (hu324 _ (by decide)).trans hT0
          replace hT7 := (hu324 _ (by decide)).trans hT7
          replace hT8 := (hu324 _ (by decide)).trans hT8
          replace hT9 := (hu324 _ (by decide)).trans hT9
          replace hF := q_uc hF hu324 (by simp)
          have hR343 := (show F_NM_decimal_c71_5 x2 x3 x4 x5 t0_0 t0_1 t0_2 t1_0 t1_1 t1_2 t1_3 t1_4 t1_5 t1_6 t1_7 t1_8 t1_9 t1_10 t2_0 t3_0 t4_0 t5_0 t6_0 t7_0 t8_0 t9_0 lx47 p325 = (F_NM_decimal x2 x3 x4 x5 t0_0 t0_1 t0_2 t1_0 t1_1 t1_2 t1_3 t1_4 t1_5 t1_6 t1_7 t1_8 t1_9 t1_10 t2_0 t3_0 t4_0 t5_0 t6_0 t7_0 t8_0 t9_0) from Eq.trans (by rw [e326, F_NM_decimal_J37.eq_1, if_pos c68, if_neg c70, if_pos c215]) hR61)
          have hS344 := (show True ∧ S_NM_decimal_c71_5 x2 x3 x4 x5 t0_0 t0_1 t0_2 t1_0 t1_1 t1_2 t1_3 t1_4 t1_5 t1_6 t1_7 t1_8 t1_9 t1_10 t2_0 t3_0 t4_0 t5_0 t6_0 t7_0 t8_0 t9_0 lx47 p325 from (by rw [e326]; have h := hS62; rw [S_NM_decimal_J37.eq_1] at h; rw [if_pos c68] at h; rw [if_neg c70] at h; rw [if_pos c215] at h; replace h := q_s2 h; with_reducible exact h))
          refine lv_goto (tgt := 107) hx hb d_14_23_74 (by decide) ?_
          refine lv_aload_n hx hb d_14_23_107 rfl (lv_at hl 0 rfl) ?_
          refine lv_aload_n hx hb d_14_23_108 rfl (lv_at hl 0 rfl) ?_
          refine q_get (ci := 12) (j := 6) (v := .ref (q 134)) C0 V i_NM rfl rfl hT0 (by decide) w_2304 rfl d_14_23_109 ?_
          refine q_getN (ci := 14) (j := 0) (v := .int y288) C0 V i_DR rfl rfl hO287 (by decide) wo_1997 rfl d_14_23_112 ?_
          refine q_put (ci := 12) (j := 0) (v := .int y288) (ty := .int) C0 V i_NM o_NM n_NM rfl rfl hT0 (by decide) w_2298 rfl rfl rfl rfl (Nat.le_of_ble_eq_true rfl) d_14_23_115 (fun H locs w348 hu349 hT0 V => ?_)
          replace hT0 : w348[116]? = (some (q 116, .inr (12, [.int y288, .ref (q 117), .int t0_1, .ref (q 118), .int t0_2, .ref (q 119), .ref (q 134), .ref (q 145), .ref (q 153), .ref (q 157), .ref (q 167), .ref (q 168)])) : Option (Nat × va_E)) := hT0
          replace hI := n_p116 hI hu349 hT0 ⟨(by have t1 : 0 ≤ t0_1.toInt ∧ t0_1.toInt ≤ 4100 := btt0_1; omega), (by have t1 : 0 ≤ t0_1.toInt ∧ t0_1.toInt ≤ 4100 := btt0_1; omega)⟩ ⟨(by have t1 : 0 ≤ t0_2.toInt ∧ t0_2.toInt ≤ 12200 := btt0_2; omega), (by have t1 : 0 ≤ t0_2.toInt ∧ t0_2.toInt ≤ 12200 := btt0_2; omega)⟩
          replace hO287 := (hu349 _ (by decide)).trans hO287
          replace hA300 := (hu349 _ (by decide)).trans hA300
          replace hA302 := (hu349 _ (by decide)).trans hA302
          replace hA304 := (hu349 _ (by decide)).trans hA304
          replace hA306 := (hu349 _ (by decide)).trans hA306
          replace hA308 := (hu349 _ (by decide)).trans hA308
          replace hT7 := (hu349 _ (by decide)).trans hT7
          replace hT8 := (hu349 _ (by decide)).trans hT8
          replace hT9 := (hu349 _ (by decide)).trans hT9
          replace hF := q_us hF hu349 (by simp)
          exact q_retv C0 V (⟨hI, hF, y288, t0_1, t0_2, y288, y289, y290, y291, y292, y293, y294, y295, y296, y297, y298, f299, f301, f303, f305, f307, t7_0, t8_0, t9_0, hT0, hO287, hA300, hA302, hA304, hA306, hA308, hT7, hT8, hT9, (show 0 ≤ y292.toInt + 1 from (by have t1 : 0 ≤ y292.toInt := b309; omega)), (show 0 ≤ y293.toInt from (by have t1 : 0 ≤ y293.toInt := b310; omega)), (show y293.toInt ≤ 1 from (by have t1 : y293.toInt ≤ 1 := b311; omega)), (show t0_1.toInt ≤ t0_1.toInt from (by omega)), (show t0_1.toInt ≤ t0_1.toInt from (by omega)), (show t0_2.toInt ≤ t0_2.toInt from (by omega)), (show t0_2.toInt ≤ t0_2.toInt from (by omega)), (show t1_1.toInt ≤ y289.toInt from (by have t1 : t1_1.toInt ≤ y289.toInt := b312; omega)), (show y289.toInt ≤ t1_1.toInt from (by have t1 : y289.toInt ≤ t1_1.toInt := b313; omega)), (show y292.toInt ≤ t1_4.toInt from (by have t1 : y292.toInt ≤ t1_4.toInt := b314; omega)), (show t1_6.toInt ≤ y294.toInt from (by have t1 : t1_6.toInt ≤ y294.toInt := b315; omega)), (show y294.toInt ≤ t1_6.toInt from (by have t1 : y294.toInt ≤ t1_6.toInt := b316; omega)), (show t1_8.toInt ≤ y296.toInt from (by have t1 : t1_8.toInt ≤ y296.toInt := b319; omega)), (show y296.toInt ≤ t1_8.toInt from (by have t1 : y296.toInt ≤ t1_8.toInt := b320; omega)), (show t1_9.toInt ≤ y297.toInt from (by have t1 : t1_9.toInt ≤ y297.toInt := b321; omega)), (show y297.toInt ≤ t1_9.toInt from (by have t1 : y297.toInt ≤ t1_9.toInt := b322; omega)), (show (y288, t0_1, t0_2, y288, y289, y290, y291, y292, y293, y294, y295, y296, y297, y298, f299, f301, f303, f305, f307, t7_0, t8_0, t9_0) = (F_NM_decimal x2 x3 x4 x5 t0_0 t0_1 t0_2 t1_0 t1_1 t1_2 t1_3 t1_4 t1_5 t1_6 t1_7 t1_8 t1_9 t1_10 t2_0 t3_0 t4_0 t5_0 t6_0 t7_0 t8_0 t9_0) from Eq.trans (by rw [e342, e341, e340, e339, e338, e337, e336, e335, e334, e333, e332, e331, e330, e329, e328, e327, F_NM_decimal_c71_5.eq_1]) hR343)⟩) d_14_23_118
    ·
      have b350 : q_F (0 < lx47.toInt) := (q_nleI c68)
      exact q_retv C0 V (⟨hI, hF, lx47, t0_1, t0_2, t1_0, t1_1, t1_2, t1_3, t1_4, t1_5, t1_6, t1_7, t1_8, t1_9, t1_10, t2_0, t3_0, t4_0, t5_0, t6_0, t7_0, t8_0, t9_0, hT0, hT1, hT2, hT3, hT4, hT5, hT6, hT7, hT8, hT9, (show 0 ≤ t1_4.toInt + 1 from (by have t1 : 0 ≤ t1_4.toInt ∧ t1_4.toInt ≤ 1 := btt1_4; omega)), (show 0 ≤ t1_5.toInt from (by have t1 : 0 ≤ t1_5.toInt ∧ t1_5.toInt ≤ 1 := btt1_5; omega)), (show t1_5.toInt ≤ 1 from (by have t1 : 0 ≤ t1_5.toInt ∧ t1_5.toInt ≤ 1 := btt1_5; omega)), (show t0_1.toInt ≤ t0_1.toInt from (by omega)), (show t0_1.toInt ≤ t0_1.toInt from (by omega)), (show t0_2.toInt ≤ t0_2.toInt from (by omega)), (show t0_2.toInt ≤ t0_2.toInt from (by omega)), (show t1_1.toInt ≤ t1_1.toInt from (by omega)), (show t1_1.toInt ≤ t1_1.toInt from (by omega)), (show t1_4.toInt ≤ t1_4.toInt from (by omega)), (show t1_6.toInt ≤ t1_6.toInt from (by omega)), (show t1_6.toInt ≤ t1_6.toInt from (by omega)), (show t1_8.toInt ≤ t1_8.toInt from (by omega)), (show t1_8.toInt ≤ t1_8.toInt from (by omega)), (show t1_9.toInt ≤ t1_9.toInt from (by omega)), (show t1_9.toInt ≤ t1_9.toInt from (by omega)), (show (lx47, t0_1, t0_2, t1_0, t1_1, t1_2, t1_3, t1_4, t1_5, t1_6, t1_7, t1_8, t1_9, t1_10, t2_0, t3_0, t4_0, t5_0, t6_0, t7_0, t8_0, t9_0) = (F_NM_decimal x2 x3 x4 x5 t0_0 t0_1 t0_2 t1_0 t1_1 t1_2 t1_3 t1_4 t1_5 t1_6 t1_7 t1_8 t1_9 t1_10 t2_0 t3_0 t4_0 t5_0 t6_0 t7_0 t8_0 t9_0) from Eq.trans (by rw [F_NM_decimal_J37.eq_1, if_neg c68]) hR61)⟩) d_14_23_47
  ·
    intro J58
    refine q_join (X := Unit) (fun z H locs ls _ => q_Wd D g (va_A ws sz) s ws H locs ∧ lv_has ls 5 [(0, .ref (q 116)), (1, .int x2), (2, .int x3), (3, .int x4), (4, .int x5)] ∧ F_NM_decimal_J32 x2 x3 x4 x5 t0_0 t0_1 t0_2 t1_0 t1_1 t1_2 t1_3 t1_4 t1_5 t1_6 t1_7 t1_8 t1_9 t1_10 t2_0 t3_0 t4_0 t5_0 t6_0 t7_0 t8_0 t9_0 = (F_NM_decimal x2 x3 x4 x5 t0_0 t0_1 t0_2 t1_0 t1_1 t1_2 t1_3 t1_4 t1_5 t1_6 t1_7 t1_8 t1_9 t1_10 t2_0 t3_0 t4_0 t5_0 t6_0 t7_0 t8_0 t9_0) ∧ True ∧ S_NM_decimal_J32 x2 x3 x4 x5 t0_0 t0_1 t0_2 t1_0 t1_1 t1_2 t1_3 t1_4 t1_5 t1_6 t1_7 t1_8 t1_9 t1_10 t2_0 t3_0 t4_0 t5_0 t6_0 t7_0 t8_0 t9_0) (fun z => [.ref (q 116)]) 32 0 0 ?_ ?_
    ·
      rintro _ H locs ls _ ⟨V, hl, hR362, hS363⟩
      replace hl : lv_has ls 5 [(0, .ref (q 116)), (1, .int x2), (2, .int x3), (3, .int x4), (4, .int x5)] := hl
      refine lv_iconst (v := 1) hx hb d_14_23_32 (by decide) ?_
      refine lv_goto (tgt := 37) hx hb d_14_23_33 (by decide) ?_
      exact J58 ((1 : Int32)) _ _ _ ws ⟨(show q_F (0 ≤ 1) from (show 0 ≤ 1 from by omega)), (show q_F (1 ≤ 1) from (show 1 ≤ 1 from by omega)), V, q_lw hl (q_lw1 0 rfl (q_lw1 1 rfl (q_lw1 2 rfl (q_lw1 3 rfl (q_lw1 4 rfl q_lw0))))), (show F_NM_decimal_J37 x2 x3 x4 x5 t0_0 t0_1 t0_2 t1_0 t1_1 t1_2 t1_3 t1_4 t1_5 t1_6 t1_7 t1_8 t1_9 t1_10 t2_0 t3_0 t4_0 t5_0 t6_0 t7_0 t8_0 t9_0 1 = (F_NM_decimal x2 x3 x4 x5 t0_0 t0_1 t0_2 t1_0 t1_1 t1_2 t1_3 t1_4 t1_5 t1_6 t1_7 t1_8 t1_9 t1_10 t2_0 t3_0 t4_0 t5_0 t6_0 t7_0 t8_0 t9_0) from Eq.trans (by rw [F_NM_decimal_J32.eq_1]) hR362), (show True ∧ S_NM_decimal_J37 x2 x3 x4 x5 t0_0 t0_1 t0_2 t1_0 t1_1 t1_2 t1_3 t1_4 t1_5 t1_6 t1_7 t1_8 t1_9 t1_10 t2_0 t3_0 t4_0 t5_0 t6_0 t7_0 t8_0 t9_0 1 from (by have h := hS363; rw [S_NM_decimal_J32.eq_1] at h; with_reducible exact h))⟩
    ·
      intro J361
      refine lv_if_lt (tgt := 32) hx hb d_14_23_2 (by decide) (fun c367 => ?_) (fun c367 => ?_)
      ·
        have b368 : q_F (x2.toInt < 0) := (q_ltI c367)
        exact J361 (()) _ _ _ ws ⟨V, q_lw hl (q_lw1 0 rfl (q_lw1 1 rfl (q_lw1 2 rfl (q_lw1 3 rfl (q_lw1 4 rfl q_lw0))))), (show F_NM_decimal_J32 x2 x3 x4 x5 t0_0 t0_1 t0_2 t1_0 t1_1 t1_2 t1_3 t1_4 t1_5 t1_6 t1_7 t1_8 t1_9 t1_10 t2_0 t3_0 t4_0 t5_0 t6_0 t7_0 t8_0 t9_0 = (F_NM_decimal x2 x3 x4 x5 t0_0 t0_1 t0_2 t1_0 t1_1 t1_2 t1_3 t1_4 t1_5 t1_6 t1_7 t1_8 t1_9 t1_10 t2_0 t3_0 t4_0 t5_0 t6_0 t7_0 t8_0 t9_0) from (by rw [F_NM_decimal.eq_1, if_pos c367])), (show True ∧ S_NM_decimal_J32 x2 x3 x4 x5 t0_0 t0_1 t0_2 t1_0 t1_1 t1_2 t1_3 t1_4 t1_5 t1_6 t1_7 t1_8 t1_9 t1_10 t2_0 t3_0 t4_0 t5_0 t6_0 t7_0 t8_0 t9_0 from (by have h := hS; rw [S_NM_decimal.eq_1] at h; rw [if_pos c367] at h; with_reducible exact h))⟩
      ·
        have b369 : q_F (0 ≤ x2.toInt) := (q_nltI c367)
        refine lv_iload_n hx hb d_14_23_5 rfl (lv_at hl 1 rfl) ?_
        refine lv_iconst (v := 3) hx hb d_14_23_6 (by decide) ?_
        refine lv_icmp_gt (tgt := 32) hx hb d_14_23_7 (by decide) (fun c370 => ?_) (fun c370 => ?_)
        ·
          have b371 : q_F (3 < x2.toInt) := (q_ltI c370)
          exact J361 (()) _ _ _ ws ⟨V, q_lw hl (q_lw1 0 rfl (q_lw1 1 rfl (q_lw1 2 rfl (q_lw1 3 rfl (q_lw1 4 rfl q_lw0))))), (show F_NM_decimal_J32 x2 x3 x4 x5 t0_0 t0_1 t0_2 t1_0 t1_1 t1_2 t1_3 t1_4 t1_5 t1_6 t1_7 t1_8 t1_9 t1_10 t2_0 t3_0 t4_0 t5_0 t6_0 t7_0 t8_0 t9_0 = (F_NM_decimal x2 x3 x4 x5 t0_0 t0_1 t0_2 t1_0 t1_1 t1_2 t1_3 t1_4 t1_5 t1_6 t1_7 t1_8 t1_9 t1_10 t2_0 t3_0 t4_0 t5_0 t6_0 t7_0 t8_0 t9_0) from (by rw [F_NM_decimal.eq_1, if_neg c367, if_pos c370])), (show True ∧ S_NM_decimal_J32 x2 x3 x4 x5 t0_0 t0_1 t0_2 t1_0 t1_1 t1_2 t1_3 t1_4 t1_5 t1_6 t1_7 t1_8 t1_9 t1_10 t2_0 t3_0 t4_0 t5_0 t6_0 t7_0 t8_0 t9_0 from (by have h := hS; rw [S_NM_decimal.eq_1] at h; rw [if_neg c367] at h; rw [if_pos c370] at h; with_reducible exact h))⟩
        ·
          have b372 : q_F (x2.toInt ≤ 3) := (q_nltI c370)
          refine lv_iload_n hx hb d_14_23_10 rfl (lv_at hl 2 rfl) ?_
          refine q_goi V (q_runS (As := [.int x3]) (rest := [.ref (q 116)]) (d := 1) (mc := 0) (ms := 0) C0 V rfl LS_NM_70 (X_NM_no_IZ l D g q ws  x3 hI   _) rfl hl.1 rfl (Nat.le_of_ble_eq_true rfl) ⟨by decide, by decide⟩ ⟨Nat.le_of_ble_eq_true rfl, Nat.le_of_ble_eq_true rfl⟩ d_14_23_11) (fun a375 u373 H locs hp374 V => ?_)
          obtain ⟨rfl, b376, b377, hE378⟩ := hp374
          have e379 : a375 = (F_NM_no_IZ x3) := hE378
          replace b376 : q_F (0 ≤ a375.toInt) := b376
          replace b377 : q_F (a375.toInt ≤ 1) := b377
          refine lv_if_ne (tgt := 32) hx hb d_14_23_14 (by decide) (fun c380 => ?_) (fun c380 => ?_)
          ·
            have b381 : q_F (a375.toInt ≠ 0) := (q_neI c380)
            exact J361 (()) _ _ _ ws ⟨V, q_lw hl (q_lw1 0 rfl (q_lw1 1 rfl (q_lw1 2 rfl (q_lw1 3 rfl (q_lw1 4 rfl q_lw0))))), (show F_NM_decimal_J32 x2 x3 x4 x5 t0_0 t0_1 t0_2 t1_0 t1_1 t1_2 t1_3 t1_4 t1_5 t1_6 t1_7 t1_8 t1_9 t1_10 t2_0 t3_0 t4_0 t5_0 t6_0 t7_0 t8_0 t9_0 = (F_NM_decimal x2 x3 x4 x5 t0_0 t0_1 t0_2 t1_0 t1_1 t1_2 t1_3 t1_4 t1_5 t1_6 t1_7 t1_8 t1_9 t1_10 t2_0 t3_0 t4_0 t5_0 t6_0 t7_0 t8_0 t9_0) from (by have c380x := c380; rw [e379] at c380x; rw [F_NM_decimal.eq_1, if_neg c367, if_neg c370, if_neg c380x])), (show True ∧ S_NM_decimal_J32 x2 x3 x4 x5 t0_0 t0_1 t0_2 t1_0 t1_1 t1_2 t1_3 t1_4 t1_5 t1_6 t1_7 t1_8 t1_9 t1_10 t2_0 t3_0 t4_0 t5_0 t6_0 t7_0 t8_0 t9_0 from (by have h := hS; rw [S_NM_decimal.eq_1] at h; rw [if_neg c367] at h; rw [if_neg c370] at h; have c380x := c380; rw [e379] at c380x; rw [if_neg c380x] at h; with_reducible exact h))⟩
          ·
            have b382 : q_F (a375.toInt = 0) := (q_eqI c380)
            refine lv_iload_n hx hb d_14_23_17 rfl (lv_at hl 3 rfl) ?_
            refine q_goi V (q_runS (As := [.int x4]) (rest := [.ref (q 116)]) (d := 1) (mc := 0) (ms := 0) C0 V rfl LS_NM_70 (X_NM_no_IZ l D g q ws  x4 hI   _) rfl hl.1 rfl (Nat.le_of_ble_eq_true rfl) ⟨by decide, by decide⟩ ⟨Nat.le_of_ble_eq_true rfl, Nat.le_of_ble_eq_true rfl⟩ d_14_23_18) (fun a385 u383 H locs hp384 V => ?_)
            obtain ⟨rfl, b386, b387, hE388⟩ := hp384
            have e389 : a385 = (F_NM_no_IZ x4) := hE388
            replace b386 : q_F (0 ≤ a385.toInt) := b386
            replace b387 : q_F (a385.toInt ≤ 1) := b387
            refine lv_if_ne (tgt := 32) hx hb d_14_23_21 (by decide) (fun c390 => ?_) (fun c390 => ?_)
            ·
              have b391 : q_F (a385.toInt ≠ 0) := (q_neI c390)
              exact J361 (()) _ _ _ ws ⟨V, q_lw hl (q_lw1 0 rfl (q_lw1 1 rfl (q_lw1 2 rfl (q_lw1 3 rfl (q_lw1 4 rfl q_lw0))))), (show F_NM_decimal_J32 x2 x3 x4 x5 t0_0 t0_1 t0_2 t1_0 t1_1 t1_2 t1_3 t1_4 t1_5 t1_6 t1_7 t1_8 t1_9 t1_10 t2_0 t3_0 t4_0 t5_0 t6_0 t7_0 t8_0 t9_0 = (F_NM_decimal x2 x3 x4 x5 t0_0 t0_1 t0_2 t1_0 t1_1 t1_2 t1_3 t1_4 t1_5 t1_6 t1_7 t1_8 t1_9 t1_10 t2_0 t3_0 t4_0 t5_0 t6_0 t7_0 t8_0 t9_0) from (by have c380x := c380; rw [e379] at c380x; have c390x := c390; rw [e389] at c390x; rw [F_NM_decimal.eq_1, if_neg c367, if_neg c370, if_pos c380x, if_neg c390x])), (show True ∧ S_NM_decimal_J32 x2 x3 x4 x5 t0_0 t0_1 t0_2 t1_0 t1_1 t1_2 t1_3 t1_4 t1_5 t1_6 t1_7 t1_8 t1_9 t1_10 t2_0 t3_0 t4_0 t5_0 t6_0 t7_0 t8_0 t9_0 from (by have h := hS; rw [S_NM_decimal.eq_1] at h; rw [if_neg c367] at h; rw [if_neg c370] at h; have c380x := c380; rw [e379] at c380x; rw [if_pos c380x] at h; have c390x := c390; rw [e389] at c390x; rw [if_neg c390x] at h; with_reducible exact h))⟩
            ·
              have b392 : q_F (a385.toInt = 0) := (q_eqI c390)
              refine lv_iload hx hb d_14_23_24 (lv_at hl 4 rfl) ?_
              refine q_goi V (q_runS (As := [.int x5]) (rest := [.ref (q 116)]) (d := 1) (mc := 0) (ms := 0) C0 V rfl LS_NM_70 (X_NM_no_IZ l D g q ws  x5 hI   _) rfl hl.1 rfl (Nat.le_of_ble_eq_true rfl) ⟨by decide, by decide⟩ ⟨Nat.le_of_ble_eq_true rfl, Nat.le_of_ble_eq_true rfl⟩ d_14_23_26) (fun a395 u393 H locs hp394 V => ?_)
              obtain ⟨rfl, b396, b397, hE398⟩ := hp394
              have e399 : a395 = (F_NM_no_IZ x5) := hE398
              replace b396 : q_F (0 ≤ a395.toInt) := b396
              replace b397 : q_F (a395.toInt ≤ 1) := b397
              refine lv_if_eq (tgt := 36) hx hb d_14_23_29 (by decide) (fun c400 => ?_) (fun c400 => ?_)
              ·
                have b401 : q_F (a395.toInt = 0) := (q_eqI c400)
                refine lv_iconst (v := 0) hx hb d_14_23_36 (by decide) ?_
                exact J58 ((0 : Int32)) _ _ _ ws ⟨(show q_F (0 ≤ 0) from (show 0 ≤ 0 from by omega)), (show q_F (0 ≤ 1) from (show 0 ≤ 1 from by omega)), V, q_lw hl (q_lw1 0 rfl (q_lw1 1 rfl (q_lw1 2 rfl (q_lw1 3 rfl (q_lw1 4 rfl q_lw0))))), (show F_NM_decimal_J37 x2 x3 x4 x5 t0_0 t0_1 t0_2 t1_0 t1_1 t1_2 t1_3 t1_4 t1_5 t1_6 t1_7 t1_8 t1_9 t1_10 t2_0 t3_0 t4_0 t5_0 t6_0 t7_0 t8_0 t9_0 0 = (F_NM_decimal x2 x3 x4 x5 t0_0 t0_1 t0_2 t1_0 t1_1 t1_2 t1_3 t1_4 t1_5 t1_6 t1_7 t1_8 t1_9 t1_10 t2_0 t3_0 t4_0 t5_0 t6_0 t7_0 t8_0 t9_0) from (by have c380x := c380; rw [e379] at c380x; have c390x := c390; rw [e389] at c390x; have c400x := c400; rw [e399] at c400x; rw [F_NM_decimal.eq_1, if_neg c367, if_neg c370, if_pos c380x, if_pos c390x, if_pos c400x])), (show True ∧ S_NM_decimal_J37 x2 x3 x4 x5 t0_0 t0_1 t0_2 t1_0 t1_1 t1_2 t1_3 t1_4 t1_5 t1_6 t1_7 t1_8 t1_9 t1_10 t2_0 t3_0 t4_0 t5_0 t6_0 t7_0 t8_0 t9_0 0 from (by have h := hS; rw [S_NM_decimal.eq_1] at h; rw [if_neg c367] at h; rw [if_neg c370] at h; have c380x := c380; rw [e379] at c380x; rw [if_pos c380x] at h; have c390x := c390; rw [e389] at c390x; rw [if_pos c390x] at h; have c400x := c400; rw [e399] at c400x; rw [if_pos c400x] at h; with_reducible exact h))⟩
              ·
                have b402 : q_F (a395.toInt ≠ 0) := (q_neI c400)
                exact J361 (()) _ _ _ ws ⟨V, q_lw hl (q_lw1 0 rfl (q_lw1 1 rfl (q_lw1 2 rfl (q_lw1 3 rfl (q_lw1 4 rfl q_lw0))))), (show F_NM_decimal_J32 x2 x3 x4 x5 t0_0 t0_1 t0_2 t1_0 t1_1 t1_2 t1_3 t1_4 t1_5 t1_6 t1_7 t1_8 t1_9 t1_10 t2_0 t3_0 t4_0 t5_0 t6_0 t7_0 t8_0 t9_0 = (F_NM_decimal x2 x3 x4 x5 t0_0 t0_1 t0_2 t1_0 t1_1 t1_2 t1_3 t1_4 t1_5 t1_6 t1_7 t1_8 t1_9 t1_10 t2_0 t3_0 t4_0 t5_0 t6_0 t7_0 t8_0 t9_0) from (by have c380x := c380; rw [e379] at c380x; have c390x := c390; rw [e389] at c390x; have c400x := c400; rw [e399] at c400x; rw [F_NM_decimal.eq_1, if_neg c367, if_neg c370, if_pos c380x, if_pos c390x, if_neg c400x])), (show True ∧ S_NM_decimal_J32 x2 x3 x4 x5 t0_0 t0_1 t0_2 t1_0 t1_1 t1_2 t1_3 t1_4 t1_5 t1_6 t1_7 t1_8 t1_9 t1_10 t2_0 t3_0 t4_0 t5_0 t6_0 t7_0 t8_0 t9_0 from (by have h := hS; rw [S_NM_decimal.eq_1] at h; rw [if_neg c367] at h; rw [if_neg c370] at h; have c380x := c380; rw [e379] at c380x; rw [if_pos c380x] at h; have c390x := c390; rw [e389] at c390x; rw [if_pos c390x] at h; have c400x := c400; rw [e399] at c400x; rw [if_neg c400x] at h; with_reducible exact h))⟩
theorem d_14_24_0 : decode prog_14_method_24_code 0 = .ok (.aload_n 0, 1) := by decide +kernel
theorem d_14_24_1 : decode prog_14_method_24_code 1 = .ok (.iload_n 1, 1) := by decide +kernel
theorem d_14_24_30 : decode prog_14_method_24_code 30 = .ok (.putfield 58, 3) := by decide +kernel
theorem d_14_24_33 : decode prog_14_method_24_code 33 = .ok (.aload_n 0, 1) := by decide +kernel
theorem d_14_24_34 : decode prog_14_method_24_code 34 = .ok (.getfield 58, 3) := by decide +kernel
theorem d_14_24_37 : decode prog_14_method_24_code 37 = .ok (.ifCond .le 4, 3) := by decide +kernel
theorem d_14_24_41 : decode prog_14_method_24_code 41 = .ok (.iload_n 1, 1) := by decide +kernel
theorem d_14_24_42 : decode prog_14_method_24_code 42 = .ok (.ifCond .ne 17, 3) := by decide +kernel
theorem d_14_24_59 : decode prog_14_method_24_code 59 = .ok (.iload_n 1, 1) := by decide +kernel
theorem d_14_24_60 : decode prog_14_method_24_code 60 = .ok (.iconst 1, 1) := by decide +kernel
theorem d_14_24_61 : decode prog_14_method_24_code 61 = .ok (.if_icmp .ne 17, 3) := by decide +kernel
theorem d_14_24_78 : decode prog_14_method_24_code 78 = .ok (.aload_n 0, 1) := by decide +kernel
theorem d_14_24_79 : decode prog_14_method_24_code 79 = .ok (.getfield 26, 3) := by decide +kernel
theorem d_14_24_82 : decode prog_14_method_24_code 82 = .ok (.iload_n 2, 1) := by decide +kernel
theorem d_14_24_83 : decode prog_14_method_24_code 83 = .ok (.iload 4, 2) := by decide +kernel
theorem d_14_24_85 : decode prog_14_method_24_code 85 = .ok (.invokevirtual 210, 3) := by decide +kernel
set_option maxRecDepth 100000 in
theorem w_2859 : (Cond.code ({ cls := "NumberHouseModel$DecimalRows", name := "strip", desc := "(II)V" } : MethodName) prog_15_method_45_code (4 : Nat) (none : Option ClassFile.FieldType)) ∈ q_tbl := q_of12 219 rfl (by decide +kernel)
set_option maxRecDepth 100000 in
theorem w_2856 : (Cond.methodLink "NumberHouseModel" (210 : Nat) ({ cls := "NumberHouseModel$DecimalRows", name := "strip", desc := "(II)V" } : MethodName)) ∈ q_tbl := q_of12 216 rfl (by decide +kernel)
set_option maxRecDepth 100000 in
theorem w_2857 : (Cond.instanceMethod ({ cls := "NumberHouseModel$DecimalRows", name := "strip", desc := "(II)V" } : MethodName)) ∈ q_tbl := q_of12 217 rfl (by decide +kernel)
set_option maxRecDepth 100000 in
theorem w_2858 : (Cond.selects "NumberHouseModel$DecimalRows" ({ cls := "NumberHouseModel$DecimalRows", name := "strip", desc := "(II)V" } : MethodName) ({ cls := "NumberHouseModel$DecimalRows", name := "strip", desc := "(II)V" } : MethodName)) ∈ q_tbl := q_of12 218 rfl (by decide +kernel)
theorem LV_NM_210 : q_LV "NumberHouseModel" 210 y_DR_strip prog_15_method_45_code 4 none 2 := ⟨w_2859, w_16, w_2856, w_2857, w_2858, ⟨by decide, by decide, by decide +kernel⟩⟩
theorem d_14_24_88 : decode prog_14_method_24_code 88 = .ok (.aload_n 0, 1) := by decide +kernel
theorem d_14_24_89 : decode prog_14_method_24_code 89 = .ok (.aload_n 0, 1) := by decide +kernel
theorem d_14_24_90 : decode prog_14_method_24_code 90 = .ok (.getfield 26, 3) := by decide +kernel
theorem d_14_24_93 : decode prog_14_method_24_code 93 = .ok (.getfield 105, 3) := by decide +kernel
theorem d_14_24_96 : decode prog_14_method_24_code 96 = .ok (.putfield 58, 3) := by decide +kernel
theorem d_14_24_99 : decode prog_14_method_24_code 99 = .ok (.return_, 1) := by decide +kernel
theorem d_14_24_64 : decode prog_14_method_24_code 64 = .ok (.aload_n 0, 1) := by decide +kernel
theorem d_14_24_65 : decode prog_14_method_24_code 65 = .ok (.getfield 26, 3) := by decide +kernel
theorem d_14_24_68 : decode prog_14_method_24_code 68 = .ok (.iload_n 2, 1) := by decide +kernel
theorem d_14_24_69 : decode prog_14_method_24_code 69 = .ok (.iload 4, 2) := by decide +kernel
theorem d_14_24_71 : decode prog_14_method_24_code 71 = .ok (.iload_n 3, 1) := by decide +kernel
theorem d_14_24_72 : decode prog_14_method_24_code 72 = .ok (.invokevirtual 209, 3) := by decide +kernel
set_option maxRecDepth 100000 in
theorem w_2855 : (Cond.code ({ cls := "NumberHouseModel$DecimalRows", name := "shift", desc := "(III)V" } : MethodName) prog_15_method_46_code (4 : Nat) (none : Option ClassFile.FieldType)) ∈ q_tbl := q_of12 215 rfl (by decide +kernel)
set_option maxRecDepth 100000 in
theorem w_2852 : (Cond.methodLink "NumberHouseModel" (209 : Nat) ({ cls := "NumberHouseModel$DecimalRows", name := "shift", desc := "(III)V" } : MethodName)) ∈ q_tbl := q_of12 212 rfl (by decide +kernel)
set_option maxRecDepth 100000 in
theorem w_2853 : (Cond.instanceMethod ({ cls := "NumberHouseModel$DecimalRows", name := "shift", desc := "(III)V" } : MethodName)) ∈ q_tbl := q_of12 213 rfl (by decide +kernel)
set_option maxRecDepth 100000 in
theorem w_2854 : (Cond.selects "NumberHouseModel$DecimalRows" ({ cls := "NumberHouseModel$DecimalRows", name := "shift", desc := "(III)V" } : MethodName) ({ cls := "NumberHouseModel$DecimalRows", name := "shift", desc := "(III)V" } : MethodName)) ∈ q_tbl := q_of12 214 rfl (by decide +kernel)
theorem LV_NM_209 : q_LV "NumberHouseModel" 209 y_DR_shift prog_15_method_46_code 4 none 3 := ⟨w_2855, w_16, w_2852, w_2853, w_2854, ⟨by decide, by decide, by decide +kernel⟩⟩
theorem d_14_24_75 : decode prog_14_method_24_code 75 = .ok (.goto 13, 3) := by decide +kernel
theorem d_14_24_45 : decode prog_14_method_24_code 45 = .ok (.aload_n 0, 1) := by decide +kernel
theorem d_14_24_46 : decode prog_14_method_24_code 46 = .ok (.getfield 26, 3) := by decide +kernel
theorem d_14_24_49 : decode prog_14_method_24_code 49 = .ok (.iload_n 2, 1) := by decide +kernel
theorem d_14_24_50 : decode prog_14_method_24_code 50 = .ok (.iload_n 3, 1) := by decide +kernel
theorem d_14_24_51 : decode prog_14_method_24_code 51 = .ok (.iload 4, 2) := by decide +kernel
theorem d_14_24_53 : decode prog_14_method_24_code 53 = .ok (.invokevirtual 208, 3) := by decide +kernel
set_option maxRecDepth 100000 in
theorem w_2851 : (Cond.code ({ cls := "NumberHouseModel$DecimalRows", name := "power", desc := "(III)V" } : MethodName) prog_15_method_29_code (5 : Nat) (none : Option ClassFile.FieldType)) ∈ q_tbl := q_of12 211 rfl (by decide +kernel)
set_option maxRecDepth 100000 in
theorem w_2848 : (Cond.methodLink "NumberHouseModel" (208 : Nat) ({ cls := "NumberHouseModel$DecimalRows", name := "power", desc := "(III)V" } : MethodName)) ∈ q_tbl := q_of12 208 rfl (by decide +kernel)
set_option maxRecDepth 100000 in
theorem w_2849 : (Cond.instanceMethod ({ cls := "NumberHouseModel$DecimalRows", name := "power", desc := "(III)V" } : MethodName)) ∈ q_tbl := q_of12 209 rfl (by decide +kernel)
set_option maxRecDepth 100000 in
theorem w_2850 : (Cond.selects "NumberHouseModel$DecimalRows" ({ cls := "NumberHouseModel$DecimalRows", name := "power", desc := "(III)V" } : MethodName) ({ cls := "NumberHouseModel$DecimalRows", name := "power", desc := "(III)V" } : MethodName)) ∈ q_tbl := q_of12 210 rfl (by decide +kernel)
theorem LV_NM_208 : q_LV "NumberHouseModel" 208 y_DR_power prog_15_method_29_code 5 none 3 := ⟨w_2851, w_16, w_2848, w_2849, w_2850, ⟨by decide, by decide, by decide +kernel⟩⟩
theorem d_14_24_56 : decode prog_14_method_24_code 56 = .ok (.goto 32, 3) := by decide +kernel
theorem d_14_24_40 : decode prog_14_method_24_code 40 = .ok (.return_, 1) := by decide +kernel
theorem d_14_24_25 : decode prog_14_method_24_code 25 = .ok (.iconst 1, 1) := by decide +kernel
theorem d_14_24_26 : decode prog_14_method_24_code 26 = .ok (.goto 4, 3) := by decide +kernel
theorem d_14_24_2 : decode prog_14_method_24_code 2 = .ok (.ifCond .lt 23, 3) := by decide +kernel
theorem d_14_24_5 : decode prog_14_method_24_code 5 = .ok (.iload_n 1, 1) := by decide +kernel
theorem d_14_24_6 : decode prog_14_method_24_code 6 = .ok (.iconst 2, 1) := by decide +kernel
theorem d_14_24_7 : decode prog_14_method_24_code 7 = .ok (.if_icmp .gt 18, 3) := by decide +kernel
theorem d_14_24_10 : decode prog_14_method_24_code 10 = .ok (.iload_n 2, 1) := by decide +kernel
theorem d_14_24_11 : decode prog_14_method_24_code 11 = .ok (.invokestatic 70, 3) := by decide +kernel
theorem d_14_24_14 : decode prog_14_method_24_code 14 = .ok (.ifCond .ne 11, 3) := by decide +kernel
theorem d_14_24_17 : decode prog_14_method_24_code 17 = .ok (.iload 4, 2) := by decide +kernel
theorem d_14_24_19 : decode prog_14_method_24_code 19 = .ok (.invokestatic 70, 3) := by decide +kernel
theorem d_14_24_22 : decode prog_14_method_24_code 22 = .ok (.ifCond .eq 7, 3) := by decide +kernel
theorem d_14_24_29 : decode prog_14_method_24_code 29 = .ok (.iconst 0, 1) := by decide +kernel
def y_NM_decimalBy : MethodName := ⟨"NumberHouseModel", "decimalBy", "(IIII)V"⟩
def F_NM_decimalBy_c85 (x2 : Int32) (x3 : Int32) (x4 : Int32) (x5 : Int32) (t0_0 : Int32) (t0_1 : Int32) (t0_2 : Int32) (t1_0 : Int32) (t1_1 : Int32) (t1_2 : Int32) (t1_3 : Int64) (t1_4 : Int32) (t1_5 : Int32) (t1_6 : Int32) (t1_7 : Int32) (t1_8 : Int32) (t1_9 : Int32) (t1_10 : Int32) (t2_0 : (Nat → Int32)) (t3_0 : (Nat → Int32)) (t4_0 : (Nat → Int32)) (t5_0 : (Nat → Int32)) (t6_0 : (Nat → Int32)) (t7_0 : (Nat → Int32)) (lx41 : Int32) (p107 : (Int32 × Int32 × Int32 × Int64 × Int32 × Int32 × Int32 × Int32 × Int32 × Int32 × Int32 × (Nat → Int32) × (Nat → Int32) × (Nat → Int32) × (Nat → Int32) × (Nat → Int32))) : Int32 × Int32 × Int32 × Int32 × Int32 × Int32 × Int64 × Int32 × Int32 × Int32 × Int32 × Int32 × Int32 × Int32 × (Nat → Int32) × (Nat → Int32) × (Nat → Int32) × (Nat → Int32) × (Nat → Int32) × (Nat → Int32) := ((p107.1 : Int32), t0_1, t0_2, (p107.1 : Int32), (p107.2.1 : Int32), (p107.2.2.1 : Int32), (p107.2.2.2.1 : Int64), (p107.2.2.2.2.1 : Int32), (p107.2.2.2.2.2.1 : Int32), (p107.2.2.2.2.2.2.1 : Int32), (p107.2.2.2.2.2.2.2.1 : Int32), (p107.2.2.2.2.2.2.2.2.1 : Int32), (p107.2.2.2.2.2.2.2.2.2.1 : Int32), (p107.2.2.2.2.2.2.2.2.2.2.1 : Int32), (p107.2.2.2.2.2.2.2.2.2.2.2.1 : (Nat → Int32)), (p107.2.2.2.2.2.2.2.2.2.2.2.2.1 : (Nat → Int32)), (p107.2.2.2.2.2.2.2.2.2.2.2.2.2.1 : (Nat → Int32)), (p107.2.2.2.2.2.2.2.2.2.2.2.2.2.2.1 : (Nat → Int32)), (p107.2.2.2.2.2.2.2.2.2.2.2.2.2.2.2 : (Nat → Int32)), t7_0)
def F_NM_decimalBy_c72 (x2 : Int32) (x3 : Int32) (x4 : Int32) (x5 : Int32) (t0_0 : Int32) (t0_1 : Int32) (t0_2 : Int32) (t1_0 : Int32) (t1_1 : Int32) (t1_2 : Int32) (t1_3 : Int64) (t1_4 : Int32) (t1_5 : Int32) (t1_6 : Int32) (t1_7 : Int32) (t1_8 : Int32) (t1_9 : Int32) (t1_10 : Int32) (t2_0 : (Nat → Int32)) (t3_0 : (Nat → Int32)) (t4_0 : (Nat → Int32)) (t5_0 : (Nat → Int32)) (t6_0 : (Nat → Int32)) (t7_0 : (Nat → Int32)) (lx41 : Int32) (p174 : (Int32 × Int32 × Int32 × Int64 × Int32 × Int32 × Int32 × Int32 × Int32 × Int32 × Int32 × (Nat → Int32) × (Nat → Int32) × (Nat → Int32) × (Nat → Int32) × (Nat → Int32))) : Int32 × Int32 × Int32 × Int32 × Int32 × Int32 × Int64 × Int32 × Int32 × Int32 × Int32 × Int32 × Int32 × Int32 × (Nat → Int32) × (Nat → Int32) × (Nat → Int32) × (Nat → Int32) × (Nat → Int32) × (Nat → Int32) := ((p174.1 : Int32), t0_1, t0_2, (p174.1 : Int32), (p174.2.1 : Int32), (p174.2.2.1 : Int32), (p174.2.2.2.1 : Int64), (p174.2.2.2.2.1 : Int32), (p174.2.2.2.2.2.1 : Int32), (p174.2.2.2.2.2.2.1 : Int32), (p174.2.2.2.2.2.2.2.1 : Int32), (p174.2.2.2.2.2.2.2.2.1 : Int32), (p174.2.2.2.2.2.2.2.2.2.1 : Int32), (p174.2.2.2.2.2.2.2.2.2.2.1 : Int32), (p174.2.2.2.2.2.2.2.2.2.2.2.1 : (Nat → Int32)), (p174.2.2.2.2.2.2.2.2.2.2.2.2.1 : (Nat → Int32)), (p174.2.2.2.2.2.2.2.2.2.2.2.2.2.1 : (Nat → Int32)), (p174.2.2.2.2.2.2.2.2.2.2.2.2.2.2.1 : (Nat → Int32)), (p174.2.2.2.2.2.2.2.2.2.2.2.2.2.2.2 : (Nat → Int32)), t7_0)
def F_NM_decimalBy_c53 (x2 : Int32) (x3 : Int32) (x4 : Int32) (x5 : Int32) (t0_0 : Int32) (t0_1 : Int32) (t0_2 : Int32) (t1_0 : Int32) (t1_1 : Int32) (t1_2 : Int32) (t1_3 : Int64) (t1_4 : Int32) (t1_5 : Int32) (t1_6 : Int32) (t1_7 : Int32) (t1_8 : Int32) (t1_9 : Int32) (t1_10 : Int32) (t2_0 : (Nat → Int32)) (t3_0 : (Nat → Int32)) (t4_0 : (Nat → Int32)) (t5_0 : (Nat → Int32)) (t6_0 : (Nat → Int32)) (t7_0 : (Nat → Int32)) (lx41 : Int32) (p243 : (Int32 × Int32 × Int32 × Int64 × Int32 × Int32 × Int32 × Int32 × Int32 × Int32 × Int32 × (Nat → Int32) × (Nat → Int32) × (Nat → Int32) × (Nat → Int32) × (Nat → Int32) × (Nat → Int32))) : Int32 × Int32 × Int32 × Int32 × Int32 × Int32 × Int64 × Int32 × Int32 × Int32 × Int32 × Int32 × Int32 × Int32 × (Nat → Int32) × (Nat → Int32) × (Nat → Int32) × (Nat → Int32) × (Nat → Int32) × (Nat → Int32) := ((p243.1 : Int32), t0_1, t0_2, (p243.1 : Int32), (p243.2.1 : Int32), (p243.2.2.1 : Int32), (p243.2.2.2.1 : Int64), (p243.2.2.2.2.1 : Int32), (p243.2.2.2.2.2.1 : Int32), (p243.2.2.2.2.2.2.1 : Int32), (p243.2.2.2.2.2.2.2.1 : Int32), (p243.2.2.2.2.2.2.2.2.1 : Int32), (p243.2.2.2.2.2.2.2.2.2.1 : Int32), (p243.2.2.2.2.2.2.2.2.2.2.1 : Int32), (p243.2.2.2.2.2.2.2.2.2.2.2.1 : (Nat → Int32)), (p243.2.2.2.2.2.2.2.2.2.2.2.2.1 : (Nat → Int32)), (p243.2.2.2.2.2.2.2.2.2.2.2.2.2.1 : (Nat → Int32)), (p243.2.2.2.2.2.2.2.2.2.2.2.2.2.2.1 : (Nat → Int32)), (p243.2.2.2.2.2.2.2.2.2.2.2.2.2.2.2.1 : (Nat → Int32)), (p243.2.2.2.2.2.2.2.2.2.2.2.2.2.2.2.2 : (Nat → Int32)))
def F_NM_decimalBy_J30 (x2 : Int32) (x3 : Int32) (x4 : Int32) (x5 : Int32) (t0_0 : Int32) (t0_1 : Int32) (t0_2 : Int32) (t1_0 : Int32) (t1_1 : Int32) (t1_2 : Int32) (t1_3 : Int64) (t1_4 : Int32) (t1_5 : Int32) (t1_6 : Int32) (t1_7 : Int32) (t1_8 : Int32) (t1_9 : Int32) (t1_10 : Int32) (t2_0 : (Nat → Int32)) (t3_0 : (Nat → Int32)) (t4_0 : (Nat → Int32)) (t5_0 : (Nat → Int32)) (t6_0 : (Nat → Int32)) (t7_0 : (Nat → Int32)) (lx41 : Int32) : Int32 × Int32 × Int32 × Int32 × Int32 × Int32 × Int64 × Int32 × Int32 × Int32 × Int32 × Int32 × Int32 × Int32 × (Nat → Int32) × (Nat → Int32) × (Nat → Int32) × (Nat → Int32) × (Nat → Int32) × (Nat → Int32) := if lx41 ≤ (0 : Int32) then (if x2 = (0 : Int32) then (F_NM_decimalBy_c53 x2 x3 x4 x5 t0_0 t0_1 t0_2 t1_0 t1_1 t1_2 t1_3 t1_4 t1_5 t1_6 t1_7 t1_8 t1_9 t1_10 t2_0 t3_0 t4_0 t5_0 t6_0 t7_0 lx41 ((F_DR_power x3 x4 x5 t1_0 t1_1 t1_2 t1_3 t1_4 t1_5 t1_6 t1_7 t1_8 t1_9 t1_10 t2_0 t3_0 t4_0 t5_0 t6_0 t7_0) : (Int32 × Int32 × Int32 × Int64 × Int32 × Int32 × Int32 × Int32 × Int32 × Int32 × Int32 × (Nat → Int32) × (Nat → Int32) × (Nat → Int32) × (Nat → Int32) × (Nat → Int32) × (Nat → Int32)))) else (if x2 = (1 : Int32) then (F_NM_decimalBy_c72 x2 x3 x4 x5 t0_0 t0_1 t0_2 t1_0 t1_1 t1_2 t1_3 t1_4 t1_5 t1_6 t1_7 t1_8 t1_9 t1_10 t2_0 t3_0 t4_0 t5_0 t6_0 t7_0 lx41 ((F_DR_shift x3 x5 x4 t1_0 t1_1 t1_2 t1_3 t1_4 t1_5 t1_6 t1_7 t1_8 t1_9 t1_10 t2_0 t3_0 t4_0 t5_0 t6_0) : (Int32 × Int32 × Int32 × Int64 × Int32 × Int32 × Int32 × Int32 × Int32 × Int32 × Int32 × (Nat → Int32) × (Nat → Int32) × (Nat → Int32) × (Nat → Int32) × (Nat → Int32)))) else (F_NM_decimalBy_c85 x2 x3 x4 x5 t0_0 t0_1 t0_2 t1_0 t1_1 t1_2 t1_3 t1_4 t1_5 t1_6 t1_7 t1_8 t1_9 t1_10 t2_0 t3_0 t4_0 t5_0 t6_0 t7_0 lx41 ((F_DR_strip x3 x5 t1_0 t1_1 t1_2 t1_3 t1_4 t1_5 t1_6 t1_7 t1_8 t1_9 t1_10 t2_0 t3_0 t4_0 t5_0 t6_0) : (Int32 × Int32 × Int32 × Int64 × Int32 × Int32 × Int32 × Int32 × Int32 × Int32 × Int32 × (Nat → Int32) × (Nat → Int32) × (Nat → Int32) × (Nat → Int32) × (Nat → Int32)))))) else ((lx41, t0_1, t0_2, t1_0, t1_1, t1_2, t1_3, t1_4, t1_5, t1_6, t1_7, t1_8, t1_9, t1_10, t2_0, t3_0, t4_0, t5_0, t6_0, t7_0))
def F_NM_decimalBy_J25 (x2 : Int32) (x3 : Int32) (x4 : Int32) (x5 : Int32) (t0_0 : Int32) (t0_1 : Int32) (t0_2 : Int32) (t1_0 : Int32) (t1_1 : Int32) (t1_2 : Int32) (t1_3 : Int64) (t1_4 : Int32) (t1_5 : Int32) (t1_6 : Int32) (t1_7 : Int32) (t1_8 : Int32) (t1_9 : Int32) (t1_10 : Int32) (t2_0 : (Nat → Int32)) (t3_0 : (Nat → Int32)) (t4_0 : (Nat → Int32)) (t5_0 : (Nat → Int32)) (t6_0 : (Nat → Int32)) (t7_0 : (Nat → Int32)) : Int32 × Int32 × Int32 × Int32 × Int32 × Int32 × Int64 × Int32 × Int32 × Int32 × Int32 × Int32 × Int32 × Int32 × (Nat → Int32) × (Nat → Int32) × (Nat → Int32) × (Nat → Int32) × (Nat → Int32) × (Nat → Int32) := F_NM_decimalBy_J30 x2 x3 x4 x5 t0_0 t0_1 t0_2 t1_0 t1_1 t1_2 t1_3 t1_4 t1_5 t1_6 t1_7 t1_8 t1_9 t1_10 t2_0 t3_0 t4_0 t5_0 t6_0 t7_0 1
def F_NM_decimalBy (x2 : Int32) (x3 : Int32) (x4 : Int32) (x5 : Int32) (t0_0 : Int32) (t0_1 : Int32) (t0_2 : Int32) (t1_0 : Int32) (t1_1 : Int32) (t1_2 : Int32) (t1_3 : Int64) (t1_4 : Int32) (t1_5 : Int32) (t1_6 : Int32) (t1_7 : Int32) (t1_8 : Int32) (t1_9 : Int32) (t1_10 : Int32) (t2_0 : (Nat → Int32)) (t3_0 : (Nat → Int32)) (t4_0 : (Nat → Int32)) (t5_0 : (Nat → Int32)) (t6_0 : (Nat → Int32)) (t7_0 : (Nat → Int32)) : Int32 × Int32 × Int32 × Int32 × Int32 × Int32 × Int64 × Int32 × Int32 × Int32 × Int32 × Int32 × Int32 × Int32 × (Nat → Int32) × (Nat → Int32) × (Nat → Int32) × (Nat → Int32) × (Nat → Int32) × (Nat → Int32) := if x2 < (0 : Int32) then (F_NM_decimalBy_J25 x2 x3 x4 x5 t0_0 t0_1 t0_2 t1_0 t1_1 t1_2 t1_3 t1_4 t1_5 t1_6 t1_7 t1_8 t1_9 t1_10 t2_0 t3_0 t4_0 t5_0 t6_0 t7_0) else (if (2 : Int32) < x2 then (F_NM_decimalBy_J25 x2 x3 x4 x5 t0_0 t0_1 t0_2 t1_0 t1_1 t1_2 t1_3 t1_4 t1_5 t1_6 t1_7 t1_8 t1_9 t1_10 t2_0 t3_0 t4_0 t5_0 t6_0 t7_0) else (if ((F_NM_no_IZ x3) : Int32) = (0 : Int32) then (if ((F_NM_no_IZ x5) : Int32) = (0 : Int32) then (F_NM_decimalBy_J30 x2 x3 x4 x5 t0_0 t0_1 t0_2 t1_0 t1_1 t1_2 t1_3 t1_4 t1_5 t1_6 t1_7 t1_8 t1_9 t1_10 t2_0 t3_0 t4_0 t5_0 t6_0 t7_0 0) else (F_NM_decimalBy_J25 x2 x3 x4 x5 t0_0 t0_1 t0_2 t1_0 t1_1 t1_2 t1_3 t1_4 t1_5 t1_6 t1_7 t1_8 t1_9 t1_10 t2_0 t3_0 t4_0 t5_0 t6_0 t7_0)) else (F_NM_decimalBy_J25 x2 x3 x4 x5 t0_0 t0_1 t0_2 t1_0 t1_1 t1_2 t1_3 t1_4 t1_5 t1_6 t1_7 t1_8 t1_9 t1_10 t2_0 t3_0 t4_0 t5_0 t6_0 t7_0)))
def S_NM_decimalBy_c85 (x2 : Int32) (x3 : Int32) (x4 : Int32) (x5 : Int32) (t0_0 : Int32) (t0_1 : Int32) (t0_2 : Int32) (t1_0 : Int32) (t1_1 : Int32) (t1_2 : Int32) (t1_3 : Int64) (t1_4 : Int32) (t1_5 : Int32) (t1_6 : Int32) (t1_7 : Int32) (t1_8 : Int32) (t1_9 : Int32) (t1_10 : Int32) (t2_0 : (Nat → Int32)) (t3_0 : (Nat → Int32)) (t4_0 : (Nat → Int32)) (t5_0 : (Nat → Int32)) (t6_0 : (Nat → Int32)) (t7_0 : (Nat → Int32)) (lx41 : Int32) (p107 : (Int32 × Int32 × Int32 × Int64 × Int32 × Int32 × Int32 × Int32 × Int32 × Int32 × Int32 × (Nat → Int32) × (Nat → Int32) × (Nat → Int32) × (Nat → Int32) × (Nat → Int32))) : Prop := True
def S_NM_decimalBy_c72 (x2 : Int32) (x3 : Int32) (x4 : Int32) (x5 : Int32) (t0_0 : Int32) (t0_1 : Int32) (t0_2 : Int32) (t1_0 : Int32) (t1_1 : Int32) (t1_2 : Int32) (t1_3 : Int64) (t1_4 : Int32) (t1_5 : Int32) (t1_6 : Int32) (t1_7 : Int32) (t1_8 : Int32) (t1_9 : Int32) (t1_10 : Int32) (t2_0 : (Nat → Int32)) (t3_0 : (Nat → Int32)) (t4_0 : (Nat → Int32)) (t5_0 : (Nat → Int32)) (t6_0 : (Nat → Int32)) (t7_0 : (Nat → Int32)) (lx41 : Int32) (p174 : (Int32 × Int32 × Int32 × Int64 × Int32 × Int32 × Int32 × Int32 × Int32 × Int32 × Int32 × (Nat → Int32) × (Nat → Int32) × (Nat → Int32) × (Nat → Int32) × (Nat → Int32))) : Prop := True
def S_NM_decimalBy_c53 (x2 : Int32) (x3 : Int32) (x4 : Int32) (x5 : Int32) (t0_0 : Int32) (t0_1 : Int32) (t0_2 : Int32) (t1_0 : Int32) (t1_1 : Int32) (t1_2 : Int32) (t1_3 : Int64) (t1_4 : Int32) (t1_5 : Int32) (t1_6 : Int32) (t1_7 : Int32) (t1_8 : Int32) (t1_9 : Int32) (t1_10 : Int32) (t2_0 : (Nat → Int32)) (t3_0 : (Nat → Int32)) (t4_0 : (Nat → Int32)) (t5_0 : (Nat → Int32)) (t6_0 : (Nat → Int32)) (t7_0 : (Nat → Int32)) (lx41 : Int32) (p243 : (Int32 × Int32 × Int32 × Int64 × Int32 × Int32 × Int32 × Int32 × Int32 × Int32 × Int32 × (Nat → Int32) × (Nat → Int32) × (Nat → Int32) × (Nat → Int32) × (Nat → Int32) × (Nat → Int32))) : Prop := True
def S_NM_decimalBy_J30 (x2 : Int32) (x3 : Int32) (x4 : Int32) (x5 : Int32) (t0_0 : Int32) (t0_1 : Int32) (t0_2 : Int32) (t1_0 : Int32) (t1_1 : Int32) (t1_2 : Int32) (t1_3 : Int64) (t1_4 : Int32) (t1_5 : Int32) (t1_6 : Int32) (t1_7 : Int32) (t1_8 : Int32) (t1_9 : Int32) (t1_10 : Int32) (t2_0 : (Nat → Int32)) (t3_0 : (Nat → Int32)) (t4_0 : (Nat → Int32)) (t5_0 : (Nat → Int32)) (t6_0 : (Nat → Int32)) (t7_0 : (Nat → Int32)) (lx41 : Int32) : Prop := if lx41 ≤ (0 : Int32) then (if x2 = (0 : Int32) then ((True ∧ S_DR_power x3 x4 x5 t1_0 t1_1 t1_2 t1_3 t1_4 t1_5 t1_6 t1_7 t1_8 t1_9 t1_10 t2_0 t3_0 t4_0 t5_0 t6_0 t7_0) ∧ (S_NM_decimalBy_c53 x2 x3 x4 x5 t0_0 t0_1 t0_2 t1_0 t1_1 t1_2 t1_3 t1_4 t1_5 t1_6 t1_7 t1_8 t1_9 t1_10 t2_0 t3_0 t4_0 t5_0 t6_0 t7_0 lx41 ((F_DR_power x3 x4 x5 t1_0 t1_1 t1_2 t1_3 t1_4 t1_5 t1_6 t1_7 t1_8 t1_9 t1_10 t2_0 t3_0 t4_0 t5_0 t6_0 t7_0) : (Int32 × Int32 × Int32 × Int64 × Int32 × Int32 × Int32 × Int32 × Int32 × Int32 × Int32 × (Nat → Int32) × (Nat → Int32) × (Nat → Int32) × (Nat → Int32) × (Nat → Int32) × (Nat → Int32))))) else (if x2 = (1 : Int32) then ((True ∧ S_DR_shift x3 x5 x4 t1_0 t1_1 t1_2 t1_3 t1_4 t1_5 t1_6 t1_7 t1_8 t1_9 t1_10 t2_0 t3_0 t4_0 t5_0 t6_0) ∧ (S_NM_decimalBy_c72 x2 x3 x4 x5 t0_0 t0_1 t0_2 t1_0 t1_1 t1_2 t1_3 t1_4 t1_5 t1_6 t1_7 t1_8 t1_9 t1_10 t2_0 t3_0 t4_0 t5_0 t6_0 t7_0 lx41 ((F_DR_shift x3 x5 x4 t1_0 t1_1 t1_2 t1_3 t1_4 t1_5 t1_6 t1_7 t1_8 t1_9 t1_10 t2_0 t3_0 t4_0 t5_0 t6_0) : (Int32 × Int32 × Int32 × Int64 × Int32 × Int32 × Int32 × Int32 × Int32 × Int32 × Int32 × (Nat → Int32) × (Nat → Int32) × (Nat → Int32) × (Nat → Int32) × (Nat → Int32))))) else ((True ∧ S_DR_strip x3 x5 t1_0 t1_1 t1_2 t1_3 t1_4 t1_5 t1_6 t1_7 t1_8 t1_9 t1_10 t2_0 t3_0 t4_0 t5_0 t6_0) ∧ (S_NM_decimalBy_c85 x2 x3 x4 x5 t0_0 t0_1 t0_2 t1_0 t1_1 t1_2 t1_3 t1_4 t1_5 t1_6 t1_7 t1_8 t1_9 t1_10 t2_0 t3_0 t4_0 t5_0 t6_0 t7_0 lx41 ((F_DR_strip x3 x5 t1_0 t1_1 t1_2 t1_3 t1_4 t1_5 t1_6 t1_7 t1_8 t1_9 t1_10 t2_0 t3_0 t4_0 t5_0 t6_0) : (Int32 × Int32 × Int32 × Int64 × Int32 × Int32 × Int32 × Int32 × Int32 × Int32 × Int32 × (Nat → Int32) × (Nat → Int32) × (Nat → Int32) × (Nat → Int32) × (Nat → Int32))))))) else (True)
def S_NM_decimalBy_J25 (x2 : Int32) (x3 : Int32) (x4 : Int32) (x5 : Int32) (t0_0 : Int32) (t0_1 : Int32) (t0_2 : Int32) (t1_0 : Int32) (t1_1 : Int32) (t1_2 : Int32) (t1_3 : Int64) (t1_4 : Int32) (t1_5 : Int32) (t1_6 : Int32) (t1_7 : Int32) (t1_8 : Int32) (t1_9 : Int32) (t1_10 : Int32) (t2_0 : (Nat → Int32)) (t3_0 : (Nat → Int32)) (t4_0 : (Nat → Int32)) (t5_0 : (Nat → Int32)) (t6_0 : (Nat → Int32)) (t7_0 : (Nat → Int32)) : Prop := S_NM_decimalBy_J30 x2 x3 x4 x5 t0_0 t0_1 t0_2 t1_0 t1_1 t1_2 t1_3 t1_4 t1_5 t1_6 t1_7 t1_8 t1_9 t1_10 t2_0 t3_0 t4_0 t5_0 t6_0 t7_0 1
def S_NM_decimalBy (x2 : Int32) (x3 : Int32) (x4 : Int32) (x5 : Int32) (t0_0 : Int32) (t0_1 : Int32) (t0_2 : Int32) (t1_0 : Int32) (t1_1 : Int32) (t1_2 : Int32) (t1_3 : Int64) (t1_4 : Int32) (t1_5 : Int32) (t1_6 : Int32) (t1_7 : Int32) (t1_8 : Int32) (t1_9 : Int32) (t1_10 : Int32) (t2_0 : (Nat → Int32)) (t3_0 : (Nat → Int32)) (t4_0 : (Nat → Int32)) (t5_0 : (Nat → Int32)) (t6_0 : (Nat → Int32)) (t7_0 : (Nat → Int32)) : Prop := if x2 < (0 : Int32) then (S_NM_decimalBy_J25 x2 x3 x4 x5 t0_0 t0_1 t0_2 t1_0 t1_1 t1_2 t1_3 t1_4 t1_5 t1_6 t1_7 t1_8 t1_9 t1_10 t2_0 t3_0 t4_0 t5_0 t6_0 t7_0) else (if (2 : Int32) < x2 then (S_NM_decimalBy_J25 x2 x3 x4 x5 t0_0 t0_1 t0_2 t1_0 t1_1 t1_2 t1_3 t1_4 t1_5 t1_6 t1_7 t1_8 t1_9 t1_10 t2_0 t3_0 t4_0 t5_0 t6_0 t7_0) else (if ((F_NM_no_IZ x3) : Int32) = (0 : Int32) then (if ((F_NM_no_IZ x5) : Int32) = (0 : Int32) then (S_NM_decimalBy_J30 x2 x3 x4 x5 t0_0 t0_1 t0_2 t1_0 t1_1 t1_2 t1_3 t1_4 t1_5 t1_6 t1_7 t1_8 t1_9 t1_10 t2_0 t3_0 t4_0 t5_0 t6_0 t7_0 0) else (S_NM_decimalBy_J25 x2 x3 x4 x5 t0_0 t0_1 t0_2 t1_0 t1_1 t1_2 t1_3 t1_4 t1_5 t1_6 t1_7 t1_8 t1_9 t1_10 t2_0 t3_0 t4_0 t5_0 t6_0 t7_0)) else (S_NM_decimalBy_J25 x2 x3 x4 x5 t0_0 t0_1 t0_2 t1_0 t1_1 t1_2 t1_3 t1_4 t1_5 t1_6 t1_7 t1_8 t1_9 t1_10 t2_0 t3_0 t4_0 t5_0 t6_0 t7_0)))
set_option maxRecDepth 100000 in
set_option maxHeartbeats 4000000 in
theorem X_NM_decimalBy (l : Launch) (D : va_G) (g : Nat → ClassId) (q : Nat → Nat) (ws : va_W) (x2 : Int32) (x3 : Int32) (x4 : Int32) (x5 : Int32) (hI : q_I (msh g q) q ws) (t0_0 : Int32) (t0_1 : Int32) (t0_2 : Int32) (hT0 : ws[116]? = (some (q 116, .inr (12, [.int t0_0, .ref (q 117), .int t0_1, .ref (q 118), .int t0_2, .ref (q 119), .ref (q 134), .ref (q 145), .ref (q 153), .ref (q 157), .ref (q 167), .ref (q 168)])) : Option (Nat × va_E))) (t1_0 : Int32) (t1_1 : Int32) (t1_2 : Int32) (t1_3 : Int64) (t1_4 : Int32) (t1_5 : Int32) (t1_6 : Int32) (t1_7 : Int32) (t1_8 : Int32) (t1_9 : Int32) (t1_10 : Int32) (hT1 : ws[134]? = (some (q 134, .inr (14, [.int t1_0, .ref (q 135), .int t1_1, .ref (q 136), .ref (q 137), .ref (q 138), .ref (q 139), .ref (q 140), .int t1_2, .long t1_3, .int t1_4, .int t1_5, .ref (q 141), .int t1_6, .ref (q 142), .int t1_7, .ref (q 143), .int t1_8, .ref (q 144), .int t1_9, .int t1_10])) : Option (Nat × va_E))) (t2_0 : (Nat → Int32)) (hT2 : ws[136]? = (some (q 136, .inl (g 0, (10000 : Int32).toNatClampNeg, .inl t2_0)) : Option (Nat × va_E))) (t3_0 : (Nat → Int32)) (hT3 : ws[137]? = (some (q 137, .inl (g 0, (10 : Int32).toNatClampNeg, .inl t3_0)) : Option (Nat × va_E))) (t4_0 : (Nat → Int32)) (hT4 : ws[138]? = (some (q 138, .inl (g 3, 10, .inl t4_0)) : Option (Nat × va_E))) (t5_0 : (Nat → Int32)) (hT5 : ws[139]? = (some (q 139, .inl (g 0, (10 : Int32).toNatClampNeg, .inl t5_0)) : Option (Nat × va_E))) (t6_0 : (Nat → Int32)) (hT6 : ws[140]? = (some (q 140, .inl (g 0, (4400 : Int32).toNatClampNeg, .inl t6_0)) : Option (Nat × va_E))) (t7_0 : (Nat → Int32)) (hT7 : ws[141]? = (some (q 141, .inl (g 0, (4400 : Int32).toNatClampNeg, .inl t7_0)) : Option (Nat × va_E))) (hS : True ∧ S_NM_decimalBy x2 x3 x4 x5 t0_0 t0_1 t0_2 t1_0 t1_1 t1_2 t1_3 t1_4 t1_5 t1_6 t1_7 t1_8 t1_9 t1_10 t2_0 t3_0 t4_0 t5_0 t6_0 t7_0) : q_mV l y_NM_decimalBy prog_14_method_24_code 5 4 0 0 D g [.ref (q 116), .int x2, .int x3, .int x4, .int x5] ws (fun u => q_I (msh g q) q u ∧ q_un ws u [116, 134, 136, 137, 138, 139, 140, 141] ∧ ∃ (u0_0 : Int32) (u0_1 : Int32) (u0_2 : Int32) (u1_0 : Int32) (u1_1 : Int32) (u1_2 : Int32) (u1_3 : Int64) (u1_4 : Int32) (u1_5 : Int32) (u1_6 : Int32) (u1_7 : Int32) (u1_8 : Int32) (u1_9 : Int32) (u1_10 : Int32) (u2_0 : (Nat → Int32)) (u3_0 : (Nat → Int32)) (u4_0 : (Nat → Int32)) (u5_0 : (Nat → Int32)) (u6_0 : (Nat → Int32)) (u7_0 : (Nat → Int32)), u[116]? = (some (q 116, .inr (12, [.int u0_0, .ref (q 117), .int u0_1, .ref (q 118), .int u0_2, .ref (q 119), .ref (q 134), .ref (q 145), .ref (q 153), .ref (q 157), .ref (q 167), .ref (q 168)])) : Option (Nat × va_E)) ∧ u[134]? = (some (q 134, .inr (14, [.int u1_0, .ref (q 135), .int u1_1, .ref (q 136), .ref (q 137), .ref (q 138), .ref (q 139), .ref (q 140), .int u1_2, .long u1_3, .int u1_4, .int u1_5, .ref (q 141), .int u1_6, .ref (q 142), .int u1_7, .ref (q 143), .int u1_8, .ref (q 144), .int u1_9, .int u1_10])) : Option (Nat × va_E)) ∧ u[136]? = (some (q 136, .inl (g 0, (10000 : Int32).toNatClampNeg, .inl u2_0)) : Option (Nat × va_E)) ∧ u[137]? = (some (q 137, .inl (g 0, (10 : Int32).toNatClampNeg, .inl u3_0)) : Option (Nat × va_E)) ∧ u[138]? = (some (q 138, .inl (g 3, 10, .inl u4_0)) : Option (Nat × va_E)) ∧ u[139]? = (some (q 139, .inl (g 0, (10 : Int32).toNatClampNeg, .inl u5_0)) : Option (Nat × va_E)) ∧ u[140]? = (some (q 140, .inl (g 0, (4400 : Int32).toNatClampNeg, .inl u6_0)) : Option (Nat × va_E)) ∧ u[141]? = (some (q 141, .inl (g 0, (4400 : Int32).toNatClampNeg, .inl u7_0)) : Option (Nat × va_E)) ∧ (0 ≤ u1_4.toInt) ∧ (0 ≤ u1_5.toInt) ∧ (u1_5.toInt ≤ 1) ∧ (t0_1.toInt ≤ u0_1.toInt) ∧ (u0_1.toInt ≤ t0_1.toInt) ∧ (t0_2.toInt ≤ u0_2.toInt) ∧ (u0_2.toInt ≤ t0_2.toInt) ∧ (t1_1.toInt ≤ u1_1.toInt) ∧ (u1_1.toInt ≤ t1_1.toInt) ∧ (u1_4.toInt ≤ t1_4.toInt) ∧ (t1_6.toInt ≤ u1_6.toInt) ∧ (u1_6.toInt ≤ t1_6.toInt) ∧ (t1_7.toInt ≤ u1_7.toInt) ∧ (u1_7.toInt ≤ t1_7.toInt) ∧ (t1_8.toInt ≤ u1_8.toInt) ∧ (u1_8.toInt ≤ t1_8.toInt) ∧ (t1_9.toInt ≤ u1_9.toInt) ∧ (u1_9.toInt ≤ t1_9.toInt) ∧ (u0_0, u0_1, u0_2, u1_0, u1_1, u1_2, u1_3, u1_4, u1_5, u1_6, u1_7, u1_8, u1_9, u1_10, u2_0, u3_0, u4_0, u5_0, u6_0, u7_0) = (F_NM_decimalBy x2 x3 x4 x5 t0_0 t0_1 t0_2 t1_0 t1_1 t1_2 t1_3 t1_4 t1_5 t1_6 t1_7 t1_8 t1_9 t1_10 t2_0 t3_0 t4_0 t5_0 t6_0 t7_0)) := by
  intro sz
  refine q_into (by decide) (Nat.le_of_ble_eq_true rfl) ?_
  intro p e s m below meth c ls hsz C0 V hl
  have hx := C0.1
  have hb := C0.2.1
  obtain ⟨yy0_0, yy0_1, yy0_2, hh0, btt0_1, btt0_2⟩ := n_o116 hI
  obtain ⟨rfl, rfl, rfl⟩ : t0_0 = yy0_0 ∧ t0_1 = yy0_1 ∧ t0_2 = yy0_2 := by have z := Option.some.inj (hT0.symm.trans hh0); simpa using z
  replace btt0_1 : q_F (0 ≤ t0_1.toInt ∧ t0_1.toInt ≤ 4100) := btt0_1
  replace btt0_2 : q_F (0 ≤ t0_2.toInt ∧ t0_2.toInt ≤ 12200) := btt0_2
  obtain ⟨yy1_0, yy1_1, yy1_2, yy1_3, yy1_4, yy1_5, yy1_6, yy1_7, yy1_8, yy1_9, yy1_10, hh1, btt1_1, btt1_4, btt1_5, btt1_9⟩ := n_o134 hI
  obtain ⟨rfl, rfl, rfl, rfl, rfl, rfl, rfl, rfl, rfl, rfl, rfl⟩ : t1_0 = yy1_0 ∧ t1_1 = yy1_1 ∧ t1_2 = yy1_2 ∧ t1_3 = yy1_3 ∧ t1_4 = yy1_4 ∧ t1_5 = yy1_5 ∧ t1_6 = yy1_6 ∧ t1_7 = yy1_7 ∧ t1_8 = yy1_8 ∧ t1_9 = yy1_9 ∧ t1_10 = yy1_10 := by have z := Option.some.inj (hT1.symm.trans hh1); simpa using z
  replace btt1_1 : q_F (0 ≤ t1_1.toInt ∧ t1_1.toInt ≤ 4100) := btt1_1
  replace btt1_4 : q_F (0 ≤ t1_4.toInt ∧ t1_4.toInt ≤ 1) := btt1_4
  replace btt1_5 : q_F (0 ≤ t1_5.toInt ∧ t1_5.toInt ≤ 1) := btt1_5
  replace btt1_9 : q_F (0 ≤ t1_9.toInt ∧ t1_9.toInt ≤ 12200) := btt1_9
  have hF : q_un ws ws [116, 134, 136, 137, 138, 139, 140, 141] := q_u0
  have hl : lv_has ls 5 [(0, .ref (q 116)), (1, .int x2), (2, .int x3), (3, .int x4), (4, .int x5)] := hl
  refine lv_aload_n hx hb d_14_24_0 rfl (lv_at hl 0 rfl) ?_
  refine lv_iload_n hx hb d_14_24_1 rfl (lv_at hl 1 rfl) ?_
  refine q_join (X := Int32) (fun z H locs ls _ => q_F (0 ≤ z.toInt) ∧ q_F (z.toInt ≤ 1) ∧ q_Wd D g (va_A ws sz) s ws H locs ∧ lv_has ls 5 [(0, .ref (q 116)), (1, .int x2), (2, .int x3), (3, .int x4), (4, .int x5)] ∧ F_NM_decimalBy_J30 x2 x3 x4 x5 t0_0 t0_1 t0_2 t1_0 t1_1 t1_2 t1_3 t1_4 t1_5 t1_6 t1_7 t1_8 t1_9 t1_10 t2_0 t3_0 t4_0 t5_0 t6_0 t7_0 z = (F_NM_decimalBy x2 x3 x4 x5 t0_0 t0_1 t0_2 t1_0 t1_1 t1_2 t1_3 t1_4 t1_5 t1_6 t1_7 t1_8 t1_9 t1_10 t2_0 t3_0 t4_0 t5_0 t6_0 t7_0) ∧ True ∧ S_NM_decimalBy_J30 x2 x3 x4 x5 t0_0 t0_1 t0_2 t1_0 t1_1 t1_2 t1_3 t1_4 t1_5 t1_6 t1_7 t1_8 t1_9 t1_10 t2_0 t3_0 t4_0 t5_0 t6_0 t7_0 z) (fun z => [.int z, .ref (q 116)]) 30 0 0 ?_ ?_
  ·
    rintro lx41 H locs ls _ ⟨i51, i52, V, hl, hR53, hS54⟩
    replace i51 : q_F (0 ≤ lx41.toInt) := i51
    replace i52 : q_F (lx41.toInt ≤ 1) := i52
    replace hl : lv_has ls 5 [(0, .ref (q 116)), (1, .int x2), (2, .int x3), (3, .int x4), (4, .int x5)] := hl
    refine q_put (ci := 12) (j := 0) (v := .int lx41) (ty := .int) C0 V i_NM o_NM n_NM rfl rfl hT0 (by decide) w_2298 rfl rfl rfl rfl (Nat.le_of_ble_eq_true rfl) d_14_24_30 (fun H locs w58 hu59 hT0 V => ?_)
    replace hT0 : w58[116]? = (some (q 116, .inr (12, [.int lx41, .ref (q 117), .int t0_1, .ref (q 118), .int t0_2, .ref (q 119), .ref (q 134), .ref (q 145), .ref (q 153), .ref (q 157), .ref (q 167), .ref (q 168)])) : Option (Nat × va_E)) := hT0
    replace hI := n_p116 hI hu59 hT0 ⟨(by have t1 : 0 ≤ t0_1.toInt ∧ t0_1.toInt ≤ 4100 := btt0_1; omega), (by have t1 : 0 ≤ t0_1.toInt ∧ t0_1.toInt ≤ 4100 := btt0_1; omega)⟩ ⟨(by have t1 : 0 ≤ t0_2.toInt ∧ t0_2.toInt ≤ 12200 := btt0_2; omega), (by have t1 : 0 ≤ t0_2.toInt ∧ t0_2.toInt ≤ 12200 := btt0_2; omega)⟩
    replace hT1 := (hu59 _ (by decide)).trans hT1
    replace hT2 := (hu59 _ (by decide)).trans hT2
    replace hT3 := (hu59 _ (by decide)).trans hT3
    replace hT4 := (hu59 _ (by decide)).trans hT4
    replace hT5 := (hu59 _ (by decide)).trans hT5
    replace hT6 := (hu59 _ (by decide)).trans hT6
    replace hT7 := (hu59 _ (by decide)).trans hT7
    replace hF := q_us hF hu59 (by simp)
    refine lv_aload_n hx hb d_14_24_33 rfl (lv_at hl 0 rfl) ?_
    refine q_get (ci := 12) (j := 0) (v := .int lx41) C0 V i_NM rfl rfl hT0 (by decide) w_2298 rfl d_14_24_34 ?_
    refine lv_if_le (tgt := 41) hx hb d_14_24_37 (by decide) (fun c60 => ?_) (fun c60 => ?_)
    ·
      have b61 : q_F (lx41.toInt ≤ 0) := (q_leI c60)
      refine lv_iload_n hx hb d_14_24_41 rfl (lv_at hl 1 rfl) ?_
      refine lv_if_ne (tgt := 59) hx hb d_14_24_42 (by decide) (fun c62 => ?_) (fun c62 => ?_)
      ·
        have b63 : q_F (x2.toInt ≠ 0) := (q_neI c62)
        refine lv_iload_n hx hb d_14_24_59 rfl (lv_at hl 1 rfl) ?_
        refine lv_iconst (v := 1) hx hb d_14_24_60 (by decide) ?_
        refine lv_icmp_ne (tgt := 78) hx hb d_14_24_61 (by decide) (fun c64 => ?_) (fun c64 => ?_)
        ·
          have b65 : q_F (x2.toInt ≠ 1) := (q_neI c64)
          refine lv_aload_n hx hb d_14_24_78 rfl (lv_at hl 0 rfl) ?_
          refine q_get (ci := 12) (j := 6) (v := .ref (q 134)) C0 V i_NM rfl rfl hT0 (by decide) w_2304 rfl d_14_24_79 ?_
          refine lv_iload_n hx hb d_14_24_82 rfl (lv_at hl 2 rfl) ?_
          refine lv_iload hx hb d_14_24_83 (lv_at hl 4 rfl) ?_
          have ob66 : True ∧ S_DR_strip x3 x5 t1_0 t1_1 t1_2 t1_3 t1_4 t1_5 t1_6 t1_7 t1_8 t1_9 t1_10 t2_0 t3_0 t4_0 t5_0 t6_0 := (by have h := hS54; rw [S_NM_decimalBy_J30.eq_1] at h; rw [if_pos c60] at h; rw [if_neg c62] at h; rw [if_neg c64] at h; with_reducible exact h.2.1)
          refine q_gov V (q_runV (As := [.int x3, .int x5]) (rest := []) (d := 3) (mc := 0) (ms := 0) (ci := 14) C0 V rfl LV_NM_210 (X_DR_strip l D g q w58  x3 x5 hI t1_0 t1_1 t1_2 t1_3 t1_4 t1_5 t1_6 t1_7 t1_8 t1_9 t1_10 hT1 t2_0 hT2 t3_0 hT3 t4_0 hT4 t5_0 hT5 t6_0 hT6 ob66 _) rfl rfl hT1 rfl hl.1 rfl (Nat.le_of_ble_eq_true rfl) ⟨by decide, by decide⟩ ⟨Nat.le_of_ble_eq_true rfl, Nat.le_of_ble_eq_true rfl⟩ d_14_24_85) (fun u67 H locs hp68 V => ?_)
          obtain ⟨hI, hu106, y70, y71, y72, y73, y74, y75, y76, y77, y78, y79, y80, f81, f83, f85, f87, f89, hO69, hA82, hA84, hA86, hA88, hA90, b91, b92, b93, b94, b95, b96, b97, b98, b99, b100, b101, b102, b103, b104, hE105⟩ := hp68
          replace hO69 : u67[134]? = (some (q 134, .inr (14, [.int y70, .ref (q 135), .int y71, .ref (q 136), .ref (q 137), .ref (q 138), .ref (q 139), .ref (q 140), .int y72, .long y73, .int y74, .int y75, .ref (q 141), .int y76, .ref (q 142), .int y77, .ref (q 143), .int y78, .ref (q 144), .int y79, .int y80])) : Option (Nat × va_E)) := hO69
          replace hA82 : u67[136]? = (some (q 136, .inl (g 0, (10000 : Int32).toNatClampNeg, .inl f81)) : Option (Nat × va_E)) := hA82
          replace hA84 : u67[137]? = (some (q 137, .inl (g 0, (10 : Int32).toNatClampNeg, .inl f83)) : Option (Nat × va_E)) := hA84
          replace hA86 : u67[138]? = (some (q 138, .inl (g 3, 10, .inl f85)) : Option (Nat × va_E)) := hA86
          replace hA88 : u67[139]? = (some (q 139, .inl (g 0, (10 : Int32).toNatClampNeg, .inl f87)) : Option (Nat × va_E)) := hA88
          replace hA90 : u67[140]? = (some (q 140, .inl (g 0, (4400 : Int32).toNatClampNeg, .inl f89)) : Option (Nat × va_E)) := hA90
          obtain ⟨p107, e108⟩ : ∃ z, z = (F_DR_strip x3 x5 t1_0 t1_1 t1_2 t1_3 t1_4 t1_5 t1_6 t1_7 t1_8 t1_9 t1_10 t2_0 t3_0 t4_0 t5_0 t6_0) := ⟨_, rfl⟩
          have e109 : y70 = p107.1 := congrArg (fun z => z.1) (hE105.trans e108.symm)
          have e110 : y71 = p107.2.1 := congrArg (fun z => z.2.1) (hE105.trans e108.symm)
          have e111 : y72 = p107.2.2.1 := congrArg (fun z => z.2.2.1) (hE105.trans e108.symm)
          have e112 : y73 = p107.2.2.2.1 := congrArg (fun z => z.2.2.2.1) (hE105.trans e108.symm)
          have e113 : y74 = p107.2.2.2.2.1 := congrArg (fun z => z.2.2.2.2.1) (hE105.trans e108.symm)
          have e114 : y75 = p107.2.2.2.2.2.1 := congrArg (fun z => z.2.2.2.2.2.1) (hE105.trans e108.symm)
          have e115 : y76 = p107.2.2.2.2.2.2.1 := congrArg (fun z => z.2.2.2.2.2.2.1) (hE105.trans e108.symm)
          have e116 : y77 = p107.2.2.2.2.2.2.2.1 := congrArg (fun z => z.2.2.2.2.2.2.2.1) (hE105.trans e108.symm)
          have e117 : y78 = p107.2.2.2.2.2.2.2.2.1 := congrArg (fun z => z.2.2.2.2.2.2.2.2.1) (hE105.trans e108.symm)
          have e118 : y79 = p107.2.2.2.2.2.2.2.2.2.1 := congrArg (fun z => z.2.2.2.2.2.2.2.2.2.1) (hE105.trans e108.symm)
          have e119 : y80 = p107.2.2.2.2.2.2.2.2.2.2.1 := congrArg (fun z => z.2.2.2.2.2.2.2.2.2.2.1) (hE105.trans e108.symm)
          have e120 : f81 = p107.2.2.2.2.2.2.2.2.2.2.2.1 := congrArg (fun z => z.2.2.2.2.2.2.2.2.2.2.2.1) (hE105.trans e108.symm)
          have e121 : f83 = p107.2.2.2.2.2.2.2.2.2.2.2.2.1 := congrArg (fun z => z.2.2.2.2.2.2.2.2.2.2.2.2.1) (hE105.trans e108.symm)
          have e122 : f85 = p107.2.2.2.2.2.2.2.2.2.2.2.2.2.1 := congrArg (fun z => z.2.2.2.2.2.2.2.2.2.2.2.2.2.1) (hE105.trans e108.symm)
          have e123 : f87 = p107.2.2.2.2.2.2.2.2.2.2.2.2.2.2.1 := congrArg (fun z => z.2.2.2.2.2.2.2.2.2.2.2.2.2.2.1) (hE105.trans e108.symm)
          have e124 : f89 = p107.2.2.2.2.2.2.2.2.2.2.2.2.2.2.2 := congrArg (fun z => z.2.2.2.2.2.2.2.2.2.2.2.2.2.2.2) (hE105.trans e108.symm)
          replace b91 : q_F (0 ≤ y74.toInt) := b91
          replace b92 : q_F (0 ≤ y75.toInt) := b92
          replace b93 : q_F (y75.toInt ≤ 1) := b93
          replace b94 : q_F (t1_1.toInt ≤ y71.toInt) := b94
          replace b95 : q_F (y71.toInt ≤ t1_1.toInt) := b95
          replace b96 : q_F (y74.toInt ≤ t1_4.toInt) := b96
          replace b97 : q_F (t1_6.toInt ≤ y76.toInt) := b97
          replace b98 : q_F (y76.toInt ≤ t1_6.toInt) := b98
          replace b99 : q_F (t1_7.toInt ≤ y77.toInt) := b99
          replace b100 : q_F (y77.toInt ≤ t1_7.toInt) := b100
          replace b101 : q_F (t1_8.toInt ≤ y78.toInt) := b101
          replace b102 : q_F (y78.toInt ≤ t1_8.toInt) := b102
          replace b103 : q_F (t1_9.toInt ≤ y79.toInt) := b103
          replace b104 : q_F (y79.toInt ≤ t1_9.toInt) := b104
          replace hT0 := (hu106 _ (by decide)).trans hT0
          replace hT7 := (hu106 _ (by decide)).trans hT7
          replace hF := q_uc hF hu106 (by simp)
          have hR125 := (show F_NM_decimalBy_c85 x2 x3 x4 x5 t0_0 t0_1 t0_2 t1_0 t1_1 t1_2 t1_3 t1_4 t1_5 t1_6 t1_7 t1_8 t1_9 t1_10 t2_0 t3_0 t4_0 t5_0 t6_0 t7_0 lx41 p107 = (F_NM_decimalBy x2 x3 x4 x5 t0_0 t0_1 t0_2 t1_0 t1_1 t1_2 t1_3 t1_4 t1_5 t1_6 t1_7 t1_8 t1_9 t1_10 t2_0 t3_0 t4_0 t5_0 t6_0 t7_0) from Eq.trans (by rw [e108, F_NM_decimalBy_J30.eq_1, if_pos c60, if_neg c62, if_neg c64]) hR53)
          have hS126 := (show True ∧ S_NM_decimalBy_c85 x2 x3 x4 x5 t0_0 t0_1 t0_2 t1_0 t1_1 t1_2 t1_3 t1_4 t1_5 t1_6 t1_7 t1_8 t1_9 t1_10 t2_0 t3_0 t4_0 t5_0 t6_0 t7_0 lx41 p107 from (by rw [e108]; have h := hS54; rw [S_NM_decimalBy_J30.eq_1] at h; rw [if_pos c60] at h; rw [if_neg c62] at h; rw [if_neg c64] at h; replace h := q_s2 h; with_reducible exact h))
          refine lv_aload_n hx hb d_14_24_88 rfl (lv_at hl 0 rfl) ?_
          refine lv_aload_n hx hb d_14_24_89 rfl (lv_at hl 0 rfl) ?_
          refine q_get (ci := 12) (j := 6) (v := .ref (q 134)) C0 V i_NM rfl rfl hT0 (by decide) w_2304 rfl d_14_24_90 ?_
          refine q_getN (ci := 14) (j := 0) (v := .int y70) C0 V i_DR rfl rfl hO69 (by decide) wo_1997 rfl d_14_24_93 ?_
          refine q_put (ci := 12) (j := 0) (v := .int y70) (ty := .int) C0 V i_NM o_NM n_NM rfl rfl hT0 (by decide) w_2298 rfl rfl rfl rfl (Nat.le_of_ble_eq_true rfl) d_14_24_96 (fun H locs w130 hu131 hT0 V => ?_)
          replace hT0 : w130[116]? = (some (q 116, .inr (12, [.int y70, .ref (q 117), .int t0_1, .ref (q 118), .int t0_2, .ref (q 119), .ref (q 134), .ref (q 145), .ref (q 153), .ref (q 157), .ref (q 167), .ref (q 168)])) : Option (Nat × va_E)) := hT0
          replace hI := n_p116 hI hu131 hT0 ⟨(by have t1 : 0 ≤ t0_1.toInt ∧ t0_1.toInt ≤ 4100 := btt0_1; omega), (by have t1 : 0 ≤ t0_1.toInt ∧ t0_1.toInt ≤ 4100 := btt0_1; omega)⟩ ⟨(by have t1 : 0 ≤ t0_2.toInt ∧ t0_2.toInt ≤ 12200 := btt0_2; omega), (by have t1 : 0 ≤ t0_2.toInt ∧ t0_2.toInt ≤ 12200 := btt0_2; omega)⟩
          replace hO69 := (hu131 _ (by decide)).trans hO69
          replace hA82 := (hu131 _ (by decide)).trans hA82
          replace hA84 := (hu131 _ (by decide)).trans hA84
          replace hA86 := (hu131 _ (by decide)).trans hA86
          replace hA88 := (hu131 _ (by decide)).trans hA88
          replace hA90 := (hu131 _ (by decide)).trans hA90
          replace hT7 := (hu131 _ (by decide)).trans hT7
          replace hF := q_us hF hu131 (by simp)
          exact q_retv C0 V (⟨hI, hF, y70, t0_1, t0_2, y70, y71, y72, y73, y74, y75, y76, y77, y78, y79, y80, f81, f83, f85, f87, f89, t7_0, hT0, hO69, hA82, hA84, hA86, hA88, hA90, hT7, (show 0 ≤ y74.toInt from (by have t1 : 0 ≤ y74.toInt := b91; omega)), (show 0 ≤ y75.toInt from (by have t1 : 0 ≤ y75.toInt := b92; omega)), (show y75.toInt ≤ 1 from (by have t1 : y75.toInt ≤ 1 := b93; omega)), (show t0_1.toInt ≤ t0_1.toInt from (by omega)), (show t0_1.toInt ≤ t0_1.toInt from (by omega)), (show t0_2.toInt ≤ t0_2.toInt from (by omega)), (show t0_2.toInt ≤ t0_2.toInt from (by omega)), (show t1_1.toInt ≤ y71.toInt from (by have t1 : t1_1.toInt ≤ y71.toInt := b94; omega)), (show y71.toInt ≤ t1_1.toInt from (by have t1 : y71.toInt ≤ t1_1.toInt := b95; omega)), (show y74.toInt ≤ t1_4.toInt from (by have t1 : y74.toInt ≤ t1_4.toInt := b96; omega)), (show t1_6.toInt ≤ y76.toInt from (by have t1 : t1_6.toInt ≤ y76.toInt := b97; omega)), (show y76.toInt ≤ t1_6.toInt from (by have t1 : y76.toInt ≤ t1_6.toInt := b98; omega)), (show t1_7.toInt ≤ y77.toInt from (by have t1 : t1_7.toInt ≤ y77.toInt := b99; omega)), (show y77.toInt ≤ t1_7.toInt from (by have t1 : y77.toInt ≤ t1_7.toInt := b100; omega)), (show t1_8.toInt ≤ y78.toInt from (by have t1 : t1_8.toInt ≤ y78.toInt := b101; omega)), (show y78.toInt ≤ t1_8.toInt from (by have t1 : y78.toInt ≤ t1_8.toInt := b102; omega)), (show t1_9.toInt ≤ y79.toInt from (by have t1 : t1_9.toInt ≤ y79.toInt := b103; omega)), (show y79.toInt ≤ t1_9.toInt from (by have t1 : y79.toInt ≤ t1_9.toInt := b104; omega)), (show (y70, t0_1, t0_2, y70, y71, y72, y73, y74, y75, y76, y77, y78, y79, y80, f81, f83, f85, f87, f89, t7_0) = (F_NM_decimalBy x2 x3 x4 x5 t0_0 t0_1 t0_2 t1_0 t1_1 t1_2 t1_3 t1_4 t1_5 t1_6 t1_7 t1_8 t1_9 t1_10 t2_0 t3_0 t4_0 t5_0 t6_0 t7_0) from Eq.trans (by rw [e124, e123, e122, e121, e120, e119, e118, e117, e116, e115, e114, e113, e112, e111, e110, e109, F_NM_decimalBy_c85.eq_1]) hR125)⟩) d_14_24_99
        ·
          have b132 : q_F (x2.toInt = 1) := (q_eqI c64)
          refine lv_aload_n hx hb d_14_24_64 rfl (lv_at hl 0 rfl) ?_
          refine q_get (ci := 12) (j := 6) (v := .ref (q 134)) C0 V i_NM rfl rfl hT0 (by decide) w_2304 rfl d_14_24_65 ?_
          refine lv_iload_n hx hb d_14_24_68 rfl (lv_at hl 2 rfl) ?_
          refine lv_iload hx hb d_14_24_69 (lv_at hl 4 rfl) ?_
          refine lv_iload_n hx hb d_14_24_71 rfl (lv_at hl 3 rfl) ?_
          have ob133 : True ∧ S_DR_shift x3 x5 x4 t1_0 t1_1 t1_2 t1_3 t1_4 t1_5 t1_6 t1_7 t1_8 t1_9 t1_10 t2_0 t3_0 t4_0 t5_0 t6_0 := (by have h := hS54; rw [S_NM_decimalBy_J30.eq_1] at h; rw [if_pos c60] at h; rw [if_neg c62] at h; rw [if_pos c64] at h; with_reducible exact h.2.1)
          refine q_gov V (q_runV (As := [.int x3, .int x5, .int x4]) (rest := []) (d := 3) (mc := 0) (ms := 0) (ci := 14) C0 V rfl LV_NM_209 (X_DR_shift l D g q w58  x3 x5 x4 hI t1_0 t1_1 t1_2 t1_3 t1_4 t1_5 t1_6 t1_7 t1_8 t1_9 t1_10 hT1 t2_0 hT2 t3_0 hT3 t4_0 hT4 t5_0 hT5 t6_0 hT6 ob133 _) rfl rfl hT1 rfl hl.1 rfl (Nat.le_of_ble_eq_true rfl) ⟨by decide, by decide⟩ ⟨Nat.le_of_ble_eq_true rfl, Nat.le_of_ble_eq_true rfl⟩ d_14_24_72) (fun u134 H locs hp135 V => ?_)
          obtain ⟨hI, hu173, y137, y138, y139, y140, y141, y142, y143, y144, y145, y146, y147, f148, f150, f152, f154, f156, hO136, hA149, hA151, hA153, hA155, hA157, b158, b159, b160, b161, b162, b163, b164, b165, b166, b167, b168, b169, b170, b171, hE172⟩ := hp135
          replace hO136 : u134[134]? = (some (q 134, .inr (14, [.int y137, .ref (q 135), .int y138, .ref (q 136), .ref (q 137), .ref (q 138), .ref (q 139), .ref (q 140), .int y139, .long y140, .int y141, .int y142, .ref (q 141), .int y143, .ref (q 142), .int y144, .ref (q 143), .int y145, .ref (q 144), .int y146, .int y147])) : Option (Nat × va_E)) := hO136
          replace hA149 : u134[136]? = (some (q 136, .inl (g 0, (10000 : Int32).toNatClampNeg, .inl f148)) : Option (Nat × va_E)) := hA149
          replace hA151 : u134[137]? = (some (q 137, .inl (g 0, (10 : Int32).toNatClampNeg, .inl f150)) : Option (Nat × va_E)) := hA151
          replace hA153 : u134[138]? = (some (q 138, .inl (g 3, 10, .inl f152)) : Option (Nat × va_E)) := hA153
          replace hA155 : u134[139]? = (some (q 139, .inl (g 0, (10 : Int32).toNatClampNeg, .inl f154)) : Option (Nat × va_E)) := hA155
          replace hA157 : u134[140]? = (some (q 140, .inl (g 0, (4400 : Int32).toNatClampNeg, .inl f156)) : Option (Nat × va_E)) := hA157
          obtain ⟨p174, e175⟩ : ∃ z, z = (F_DR_shift x3 x5 x4 t1_0 t1_1 t1_2 t1_3 t1_4 t1_5 t1_6 t1_7 t1_8 t1_9 t1_10 t2_0 t3_0 t4_0 t5_0 t6_0) := ⟨_, rfl⟩
          have e176 : y137 = p174.1 := congrArg (fun z => z.1) (hE172.trans e175.symm)
          have e177 : y138 = p174.2.1 := congrArg (fun z => z.2.1) (hE172.trans e175.symm)
          have e178 : y139 = p174.2.2.1 := congrArg (fun z => z.2.2.1) (hE172.trans e175.symm)
          have e179 : y140 = p174.2.2.2.1 := congrArg (fun z => z.2.2.2.1) (hE172.trans e175.symm)
          have e180 : y141 = p174.2.2.2.2.1 := congrArg (fun z => z.2.2.2.2.1) (hE172.trans e175.symm)
          have e181 : y142 = p174.2.2.2.2.2.1 := congrArg (fun z => z.2.2.2.2.2.1) (hE172.trans e175.symm)
          have e182 : y143 = p174.2.2.2.2.2.2.1 := congrArg (fun z => z.2.2.2.2.2.2.1) (hE172.trans e175.symm)
          have e183 : y144 = p174.2.2.2.2.2.2.2.1 := congrArg (fun z => z.2.2.2.2.2.2.2.1) (hE172.trans e175.symm)
          have e184 : y145 = p174.2.2.2.2.2.2.2.2.1 := congrArg (fun z => z.2.2.2.2.2.2.2.2.1) (hE172.trans e175.symm)
          have e185 : y146 = p174.2.2.2.2.2.2.2.2.2.1 := congrArg (fun z => z.2.2.2.2.2.2.2.2.2.1) (hE172.trans e175.symm)
          have e186 : y147 = p174.2.2.2.2.2.2.2.2.2.2.1 := congrArg (fun z => z.2.2.2.2.2.2.2.2.2.2.1) (hE172.trans e175.symm)
          have e187 : f148 = p174.2.2.2.2.2.2.2.2.2.2.2.1 := congrArg (fun z => z.2.2.2.2.2.2.2.2.2.2.2.1) (hE172.trans e175.symm)
          have e188 : f150 = p174.2.2.2.2.2.2.2.2.2.2.2.2.1 := congrArg (fun z => z.2.2.2.2.2.2.2.2.2.2.2.2.1) (hE172.trans e175.symm)
          have e189 : f152 = p174.2.2.2.2.2.2.2.2.2.2.2.2.2.1 := congrArg (fun z => z.2.2.2.2.2.2.2.2.2.2.2.2.2.1) (hE172.trans e175.symm)
          have e190 : f154 = p174.2.2.2.2.2.2.2.2.2.2.2.2.2.2.1 := congrArg (fun z => z.2.2.2.2.2.2.2.2.2.2.2.2.2.2.1) (hE172.trans e175.symm)
          have e191 : f156 = p174.2.2.2.2.2.2.2.2.2.2.2.2.2.2.2 := congrArg (fun z => z.2.2.2.2.2.2.2.2.2.2.2.2.2.2.2) (hE172.trans e175.symm)
          replace b158 : q_F (0 ≤ y141.toInt) := b158
          replace b159 : q_F (0 ≤ y142.toInt) := b159
          replace b160 : q_F (y142.toInt ≤ 1) := b160
          replace b161 : q_F (t1_1.toInt ≤ y138.toInt) := b161
          replace b162 : q_F (y138.toInt ≤ t1_1.toInt) := b162
          replace b163 : q_F (y141.toInt ≤ t1_4.toInt) := b163
          replace b164 : q_F (t1_6.toInt ≤ y143.toInt) := b164
          replace b165 : q_F (y143.toInt ≤ t1_6.toInt) := b165
          replace b166 : q_F (t1_7.toInt ≤ y144.toInt) := b166
          replace b167 : q_F (y144.toInt ≤ t1_7.toInt) := b167
          replace b168 : q_F (t1_8.toInt ≤ y145.toInt) := b168
          replace b169 : q_F (y145.toInt ≤ t1_8.toInt) := b169
          replace b170 : q_F (t1_9.toInt ≤ y146.toInt) := b170
          replace b171 : q_F (y146.toInt ≤ t1_9.toInt) := b171
          replace hT0 := (hu173 _ (by decide)).trans hT0
          replace hT7 := (hu173 _ (by decide)).trans hT7
          replace hF := q_uc hF hu173 (by simp)
          have hR192 := (show F_NM_decimalBy_c72 x2 x3 x4 x5 t0_0 t0_1 t0_2 t1_0 t1_1 t1_2 t1_3 t1_4 t1_5 t1_6 t1_7 t1_8 t1_9 t1_10 t2_0 t3_0 t4_0 t5_0 t6_0 t7_0 lx41 p174 = (F_NM_decimalBy x2 x3 x4 x5 t0_0 t0_1 t0_2 t1_0 t1_1 t1_2 t1_3 t1_4 t1_5 t1_6 t1_7 t1_8 t1_9 t1_10 t2_0 t3_0 t4_0 t5_0 t6_0 t7_0) from Eq.trans (by rw [e175, F_NM_decimalBy_J30.eq_1, if_pos c60, if_neg c62, if_pos c64]) hR53)
          have hS193 := (show True ∧ S_NM_decimalBy_c72 x2 x3 x4 x5 t0_0 t0_1 t0_2 t1_0 t1_1 t1_2 t1_3 t1_4 t1_5 t1_6 t1_7 t1_8 t1_9 t1_10 t2_0 t3_0 t4_0 t5_0 t6_0 t7_0 lx41 p174 from (by rw [e175]; have h := hS54; rw [S_NM_decimalBy_J30.eq_1] at h; rw [if_pos c60] at h; rw [if_neg c62] at h; rw [if_pos c64] at h; replace h := q_s2 h; with_reducible exact h))
          refine lv_goto (tgt := 88) hx hb d_14_24_75 (by decide) ?_
          refine lv_aload_n hx hb d_14_24_88 rfl (lv_at hl 0 rfl) ?_
          refine lv_aload_n hx hb d_14_24_89 rfl (lv_at hl 0 rfl) ?_
          refine q_get (ci := 12) (j := 6) (v := .ref (q 134)) C0 V i_NM rfl rfl hT0 (by decide) w_2304 rfl d_14_24_90 ?_
          refine q_getN (ci := 14) (j := 0) (v := .int y137) C0 V i_DR rfl rfl hO136 (by decide) wo_1997 rfl d_14_24_93 ?_
          refine q_put (ci := 12) (j := 0) (v := .int y137) (ty := .int) C0 V i_NM o_NM n_NM rfl rfl hT0 (by decide) w_2298 rfl rfl rfl rfl (Nat.le_of_ble_eq_true rfl) d_14_24_96 (fun H locs w197 hu198 hT0 V => ?_)
          replace hT0 : w197[116]? = (some (q 116, .inr (12, [.int y137, .ref (q 117), .int t0_1, .ref (q 118), .int t0_2, .ref (q 119), .ref (q 134), .ref (q 145), .ref (q 153), .ref (q 157), .ref (q 167), .ref (q 168)])) : Option (Nat × va_E)) := hT0
          replace hI := n_p116 hI hu198 hT0 ⟨(by have t1 : 0 ≤ t0_1.toInt ∧ t0_1.toInt ≤ 4100 := btt0_1; omega), (by have t1 : 0 ≤ t0_1.toInt ∧ t0_1.toInt ≤ 4100 := btt0_1; omega)⟩ ⟨(by have t1 : 0 ≤ t0_2.toInt ∧ t0_2.toInt ≤ 12200 := btt0_2; omega), (by have t1 : 0 ≤ t0_2.toInt ∧ t0_2.toInt ≤ 12200 := btt0_2; omega)⟩
          replace hO136 := (hu198 _ (by decide)).trans hO136
          replace hA149 := (hu198 _ (by decide)).trans hA149
          replace hA151 := (hu198 _ (by decide)).trans hA151
          replace hA153 := (hu198 _ (by decide)).trans hA153
          replace hA155 := (hu198 _ (by decide)).trans hA155
          replace hA157 := (hu198 _ (by decide)).trans hA157
          replace hT7 := (hu198 _ (by decide)).trans hT7
          replace hF := q_us hF hu198 (by simp)
          exact q_retv C0 V (⟨hI, hF, y137, t0_1, t0_2, y137, y138, y139, y140, y141, y142, y143, y144, y145, y146, y147, f148, f150, f152, f154, f156, t7_0, hT0, hO136, hA149, hA151, hA153, hA155, hA157, hT7, (show 0 ≤ y141.toInt from (by have t1 : 0 ≤ y141.toInt := b158; omega)), (show 0 ≤ y142.toInt from (by have t1 : 0 ≤ y142.toInt := b159; omega)), (show y142.toInt ≤ 1 from (by have t1 : y142.toInt ≤ 1 := b160; omega)), (show t0_1.toInt ≤ t0_1.toInt from (by omega)), (show t0_1.toInt ≤ t0_1.toInt from (by omega)), (show t0_2.toInt ≤ t0_2.toInt from (by omega)), (show t0_2.toInt ≤ t0_2.toInt from (by omega)), (show t1_1.toInt ≤ y138.toInt from (by have t1 : t1_1.toInt ≤ y138.toInt := b161; omega)), (show y138.toInt ≤ t1_1.toInt from (by have t1 : y138.toInt ≤ t1_1.toInt := b162; omega)), (show y141.toInt ≤ t1_4.toInt from (by have t1 : y141.toInt ≤ t1_4.toInt := b163; omega)), (show t1_6.toInt ≤ y143.toInt from (by have t1 : t1_6.toInt ≤ y143.toInt := b164; omega)), (show y143.toInt ≤ t1_6.toInt from (by have t1 : y143.toInt ≤ t1_6.toInt := b165; omega)), (show t1_7.toInt ≤ y144.toInt from (by have t1 : t1_7.toInt ≤ y144.toInt := b166; omega)), (show y144.toInt ≤ t1_7.toInt from (by have t1 : y144.toInt ≤ t1_7.toInt := b167; omega)), (show t1_8.toInt ≤ y145.toInt from (by have t1 : t1_8.toInt ≤ y145.toInt := b168; omega)), (show y145.toInt ≤ t1_8.toInt from (by have t1 : y145.toInt ≤ t1_8.toInt := b169; omega)), (show t1_9.toInt ≤ y146.toInt from (by have t1 : t1_9.toInt ≤ y146.toInt := b170; omega)), (show y146.toInt ≤ t1_9.toInt from (by have t1 : y146.toInt ≤ t1_9.toInt := b171; omega)), (show (y137, t0_1, t0_2, y137, y138, y139, y140, y141, y142, y143, y144, y145, y146, y147, f148, f150, f152, f154, f156, t7_0) = (F_NM_decimalBy x2 x3 x4 x5 t0_0 t0_1 t0_2 t1_0 t1_1 t1_2 t1_3 t1_4 t1_5 t1_6 t1_7 t1_8 t1_9 t1_10 t2_0 t3_0 t4_0 t5_0 t6_0 t7_0) from Eq.trans (by rw [e191, e190, e189, e188, e187, e186, e185, e184, e183, e182, e181, e180, e179, e178, e177, e176, F_NM_decimalBy_c72.eq_1]) hR192)⟩) d_14_24_99
      ·
        have b199 : q_F (x2.toInt = 0) := (q_eqI c62)
        refine lv_aload_n hx hb d_14_24_45 rfl (lv_at hl 0 rfl) ?_
        refine q_get (ci := 12) (j := 6) (v := .ref (q 134)) C0 V i_NM rfl rfl hT0 (by decide) w_2304 rfl d_14_24_46 ?_
        refine lv_iload_n hx hb d_14_24_49 rfl (lv_at hl 2 rfl) ?_
        refine lv_iload_n hx hb d_14_24_50 rfl (lv_at hl 3 rfl) ?_
        refine lv_iload hx hb d_14_24_51 (lv_at hl 4 rfl) ?_
        have ob200 : True ∧ S_DR_power x3 x4 x5 t1_0 t1_1 t1_2 t1_3 t1_4 t1_5 t1_6 t1_7 t1_8 t1_9 t1_10 t2_0 t3_0 t4_0 t5_0 t6_0 t7_0 := (by have h := hS54; rw [S_NM_decimalBy_J30.eq_1] at h; rw [if_pos c60] at h; rw [if_pos c62] at h; with_reducible exact h.2.1)
        refine q_gov V (q_runV (As := [.int x3, .int x4, .int x5]) (rest := []) (d := 3) (mc := 0) (ms := 0) (ci := 14) C0 V rfl LV_NM_208 (X_DR_power l D g q w58  x3 x4 x5 hI t1_0 t1_1 t1_2 t1_3 t1_4 t1_5 t1_6 t1_7 t1_8 t1_9 t1_10 hT1 t2_0 hT2 t3_0 hT3 t4_0 hT4 t5_0 hT5 t6_0 hT6 t7_0 hT7 ob200 _) rfl rfl hT1 rfl hl.1 rfl (Nat.le_of_ble_eq_true rfl) ⟨by decide, by decide⟩ ⟨Nat.le_of_ble_eq_true rfl, Nat.le_of_ble_eq_true rfl⟩ d_14_24_53) (fun u201 H locs hp202 V => ?_)
        obtain ⟨hI, hu242, y204, y205, y206, y207, y208, y209, y210, y211, y212, y213, y214, f215, f217, f219, f221, f223, f225, hO203, hA216, hA218, hA220, hA222, hA224, hA226, b227, b228, b229, b230, b231, b232, b233, b234, b235, b236, b237, b238, b239, b240, hE241⟩ := hp202
        replace hO203 : u201[134]? = (some (q 134, .inr (14, [.int y204, .ref (q 135), .int y205, .ref (q 136), .ref (q 137), .ref (q 138), .ref (q 139), .ref (q 140), .int y206, .long y207, .int y208, .int y209, .ref (q 141), .int y210, .ref (q 142), .int y211, .ref (q 143), .int y212, .ref (q 144), .int y213, .int y214])) : Option (Nat × va_E)) := hO203
        replace hA216 : u201[136]? = (some (q 136, .inl (g 0, (10000 : Int32).toNatClampNeg, .inl f215)) : Option (Nat × va_E)) := hA216
        replace hA218 : u201[137]? = (some (q 137, .inl (g 0, (10 : Int32).toNatClampNeg, .inl f217)) : Option (Nat × va_E)) := hA218
        replace hA220 : u201[138]? = (some (q 138, .inl (g 3, 10, .inl f219)) : Option (Nat × va_E)) := hA220
        replace hA222 : u201[139]? = (some (q 139, .inl (g 0, (10 : Int32).toNatClampNeg, .inl f221)) : Option (Nat × va_E)) := hA222
        replace hA224 : u201[140]? = (some (q 140, .inl (g 0, (4400 : Int32).toNatClampNeg, .inl f223)) : Option (Nat × va_E)) := hA224
        replace hA226 : u201[141]? = (some (q 141, .inl (g 0, (4400 : Int32).toNatClampNeg, .inl f225)) : Option (Nat × va_E)) := hA226
        obtain ⟨p243, e244⟩ : ∃ z, z = (F_DR_power x3 x4 x5 t1_0 t1_1 t1_2 t1_3 t1_4 t1_5 t1_6 t1_7 t1_8 t1_9 t1_10 t2_0 t3_0 t4_0 t5_0 t6_0 t7_0) := ⟨_, rfl⟩
        have e245 : y204 = p243.1 := congrArg (fun z => z.1) (hE241.trans e244.symm)
        have e246 : y205 = p243.2.1 := congrArg (fun z => z.2.1) (hE241.trans e244.symm)
        have e247 : y206 = p243.2.2.1 := congrArg (fun z => z.2.2.1) (hE241.trans e244.symm)
        have e248 : y207 = p243.2.2.2.1 := congrArg (fun z => z.2.2.2.1) (hE241.trans e244.symm)
        have e249 : y208 = p243.2.2.2.2.1 := congrArg (fun z => z.2.2.2.2.1) (hE241.trans e244.symm)
        have e250 : y209 = p243.2.2.2.2.2.1 := congrArg (fun z => z.2.2.2.2.2.1) (hE241.trans e244.symm)
        have e251 : y210 = p243.2.2.2.2.2.2.1 := congrArg (fun z => z.2.2.2.2.2.2.1) (hE241.trans e244.symm)
        have e252 : y211 = p243.2.2.2.2.2.2.2.1 := congrArg (fun z => z.2.2.2.2.2.2.2.1) (hE241.trans e244.symm)
        have e253 : y212 = p243.2.2.2.2.2.2.2.2.1 := congrArg (fun z => z.2.2.2.2.2.2.2.2.1) (hE241.trans e244.symm)
        have e254 : y213 = p243.2.2.2.2.2.2.2.2.2.1 := congrArg (fun z => z.2.2.2.2.2.2.2.2.2.1) (hE241.trans e244.symm)
        have e255 : y214 = p243.2.2.2.2.2.2.2.2.2.2.1 := congrArg (fun z => z.2.2.2.2.2.2.2.2.2.2.1) (hE241.trans e244.symm)
        have e256 : f215 = p243.2.2.2.2.2.2.2.2.2.2.2.1 := congrArg (fun z => z.2.2.2.2.2.2.2.2.2.2.2.1) (hE241.trans e244.symm)
        have e257 : f217 = p243.2.2.2.2.2.2.2.2.2.2.2.2.1 := congrArg (fun z => z.2.2.2.2.2.2.2.2.2.2.2.2.1) (hE241.trans e244.symm)
        have e258 : f219 = p243.2.2.2.2.2.2.2.2.2.2.2.2.2.1 := congrArg (fun z => z.2.2.2.2.2.2.2.2.2.2.2.2.2.1) (hE241.trans e244.symm)
        have e259 : f221 = p243.2.2.2.2.2.2.2.2.2.2.2.2.2.2.1 := congrArg (fun z => z.2.2.2.2.2.2.2.2.2.2.2.2.2.2.1) (hE241.trans e244.symm)
        have e260 : f223 = p243.2.2.2.2.2.2.2.2.2.2.2.2.2.2.2.1 := congrArg (fun z => z.2.2.2.2.2.2.2.2.2.2.2.2.2.2.2.1) (hE241.trans e244.symm)
        have e261 : f225 = p243.2.2.2.2.2.2.2.2.2.2.2.2.2.2.2.2 := congrArg (fun z => z.2.2.2.2.2.2.2.2.2.2.2.2.2.2.2.2) (hE241.trans e244.symm)
        replace b227 : q_F (0 ≤ y208.toInt) := b227
        replace b228 : q_F (0 ≤ y209.toInt) := b228
        replace b229 : q_F (y209.toInt ≤ 1) := b229
        replace b230 : q_F (t1_1.toInt ≤ y205.toInt) := b230
        replace b231 : q_F (y205.toInt ≤ t1_1.toInt) := b231
        replace b232 : q_F (y208.toInt ≤ t1_4.toInt) := b232
        replace b233 : q_F (t1_6.toInt ≤ y210.toInt) := b233
        replace b234 : q_F (y210.toInt ≤ t1_6.toInt) := b234
        replace b235 : q_F (t1_7.toInt ≤ y211.toInt) := b235
        replace b236 : q_F (y211.toInt ≤ t1_7.toInt) := b236
        replace b237 : q_F (t1_8.toInt ≤ y212.toInt) := b237
        replace b238 : q_F (y212.toInt ≤ t1_8.toInt) := b238
        replace b239 : q_F (t1_9.toInt ≤ y213.toInt) := b239
        replace b240 : q_F (y213.toInt ≤ t1_9.toInt) := b240
        replace hT0 := (hu242 _ (by decide)).trans hT0
        replace hF := q_uc hF hu242 (by simp)
        have hR262 := (show F_NM_decimalBy_c53 x2 x3 x4 x5 t0_0 t0_1 t0_2 t1_0 t1_1 t1_2 t1_3 t1_4 t1_5 t1_6 t1_7 t1_8 t1_9 t1_10 t2_0 t3_0 t4_0 t5_0 t6_0 t7_0 lx41 p243 = (F_NM_decimalBy x2 x3 x4 x5 t0_0 t0_1 t0_2 t1_0 t1_1 t1_2 t1_3 t1_4 t1_5 t1_6 t1_7 t1_8 t1_9 t1_10 t2_0 t3_0 t4_0 t5_0 t6_0 t7_0) from Eq.trans (by rw [e244, F_NM_decimalBy_J30.eq_1, if_pos c60, if_pos c62]) hR53)
        have hS263 := (show True ∧ S_NM_decimalBy_c53 x2 x3 x4 x5 t0_0 t0_1 t0_2 t1_0 t1_1 t1_2 t1_3 t1_4 t1_5 t1_6 t1_7 t1_8 t1_9 t1_10 t2_0 t3_0 t4_0 t5_0 t6_0 t7_0 lx41 p243 from (by rw [e244]; have h := hS54; rw [S_NM_decimalBy_J30.eq_1] at h; rw [if_pos c60] at h; rw [if_pos c62] at h; replace h := q_s2 h; with_reducible exact h))
        refine lv_goto (tgt := 88) hx hb d_14_24_56 (by decide) ?_
        refine lv_aload_n hx hb d_14_24_88 rfl (lv_at hl 0 rfl) ?_
        refine lv_aload_n hx hb d_14_24_89 rfl (lv_at hl 0 rfl) ?_
        refine q_get (ci := 12) (j := 6) (v := .ref (q 134)) C0 V i_NM rfl rfl hT0 (by decide) w_2304 rfl d_14_24_90 ?_
        refine q_getN (ci := 14) (j := 0) (v := .int y204) C0 V i_DR rfl rfl hO203 (by decide) wo_1997 rfl d_14_24_93 ?_
        refine q_put (ci := 12) (j := 0) (v := .int y204) (ty := .int) C0 V i_NM o_NM n_NM rfl rfl hT0 (by decide) w_2298 rfl rfl rfl rfl (Nat.le_of_ble_eq_true rfl) d_14_24_96 (fun H locs w267 hu268 hT0 V => ?_)
        replace hT0 : w267[116]? = (some (q 116, .inr (12, [.int y204, .ref (q 117), .int t0_1, .ref (q 118), .int t0_2, .ref (q 119), .ref (q 134), .ref (q 145), .ref (q 153), .ref (q 157), .ref (q 167), .ref (q 168)])) : Option (Nat × va_E)) := hT0
        replace hI := n_p116 hI hu268 hT0 ⟨(by have t1 : 0 ≤ t0_1.toInt ∧ t0_1.toInt ≤ 4100 := btt0_1; omega), (by have t1 : 0 ≤ t0_1.toInt ∧ t0_1.toInt ≤ 4100 := btt0_1; omega)⟩ ⟨(by have t1 : 0 ≤ t0_2.toInt ∧ t0_2.toInt ≤ 12200 := btt0_2; omega), (by have t1 : 0 ≤ t0_2.toInt ∧ t0_2.toInt ≤ 12200 := btt0_2; omega)⟩
        replace hO203 := (hu268 _ (by decide)).trans hO203
        replace hA216 := (hu268 _ (by decide)).trans hA216
        replace hA218 := (hu268 _ (by decide)).trans hA218
        replace hA220 := (hu268 _ (by decide)).trans hA220
        replace hA222 := (hu268 _ (by decide)).trans hA222
        replace hA224 := (hu268 _ (by decide)).trans hA224
        replace hA226 := (hu268 _ (by decide)).trans hA226
        replace hF := q_us hF hu268 (by simp)
        exact q_retv C0 V (⟨hI, hF, y204, t0_1, t0_2, y204, y205, y206, y207, y208, y209, y210, y211, y212, y213, y214, f215, f217, f219, f221, f223, f225, hT0, hO203, hA216, hA218, hA220, hA222, hA224, hA226, (show 0 ≤ y208.toInt from (by have t1 : 0 ≤ y208.toInt := b227; omega)), (show 0 ≤ y209.toInt from (by have t1 : 0 ≤ y209.toInt := b228; omega)), (show y209.toInt ≤ 1 from (by have t1 : y209.toInt ≤ 1 := b229; omega)), (show t0_1.toInt ≤ t0_1.toInt from (by omega)), (show t0_1.toInt ≤ t0_1.toInt from (by omega)), (show t0_2.toInt ≤ t0_2.toInt from (by omega)), (show t0_2.toInt ≤ t0_2.toInt from (by omega)), (show t1_1.toInt ≤ y205.toInt from (by have t1 : t1_1.toInt ≤ y205.toInt := b230; omega)), (show y205.toInt ≤ t1_1.toInt from (by have t1 : y205.toInt ≤ t1_1.toInt := b231; omega)), (show y208.toInt ≤ t1_4.toInt from (by have t1 : y208.toInt ≤ t1_4.toInt := b232; omega)), (show t1_6.toInt ≤ y210.toInt from (by have t1 : t1_6.toInt ≤ y210.toInt := b233; omega)), (show y210.toInt ≤ t1_6.toInt from (by have t1 : y210.toInt ≤ t1_6.toInt := b234; omega)), (show t1_7.toInt ≤ y211.toInt from (by have t1 : t1_7.toInt ≤ y211.toInt := b235; omega)), (show y211.toInt ≤ t1_7.toInt from (by have t1 : y211.toInt ≤ t1_7.toInt := b236; omega)), (show t1_8.toInt ≤ y212.toInt from (by have t1 : t1_8.toInt ≤ y212.toInt := b237; omega)), (show y212.toInt ≤ t1_8.toInt from (by have t1 : y212.toInt ≤ t1_8.toInt := b238; omega)), (show t1_9.toInt ≤ y213.toInt from (by have t1 : t1_9.toInt ≤ y213.toInt := b239; omega)), (show y213.toInt ≤ t1_9.toInt from (by have t1 : y213.toInt ≤ t1_9.toInt := b240; omega)), (show (y204, t0_1, t0_2, y204, y205, y206, y207, y208, y209, y210, y211, y212, y213, y214, f215, f217, f219, f221, f223, f225) = (F_NM_decimalBy x2 x3 x4 x5 t0_0 t0_1 t0_2 t1_0 t1_1 t1_2 t1_3 t1_4 t1_5 t1_6 t1_7 t1_8 t1_9 t1_10 t2_0 t3_0 t4_0 t5_0 t6_0 t7_0) from Eq.trans (by rw [e261, e260, e259, e258, e257, e256, e255, e254, e253, e252, e251, e250, e249, e248, e247, e246, e245, F_NM_decimalBy_c53.eq_1]) hR262)⟩) d_14_24_99
    ·
      have b269 : q_F (0 < lx41.toInt) := (q_nleI c60)
      exact q_retv C0 V (⟨hI, hF, lx41, t0_1, t0_2, t1_0, t1_1, t1_2, t1_3, t1_4, t1_5, t1_6, t1_7, t1_8, t1_9, t1_10, t2_0, t3_0, t4_0, t5_0, t6_0, t7_0, hT0, hT1, hT2, hT3, hT4, hT5, hT6, hT7, (show 0 ≤ t1_4.toInt from (by have t1 : 0 ≤ t1_4.toInt ∧ t1_4.toInt ≤ 1 := btt1_4; omega)), (show 0 ≤ t1_5.toInt from (by have t1 : 0 ≤ t1_5.toInt ∧ t1_5.toInt ≤ 1 := btt1_5; omega)), (show t1_5.toInt ≤ 1 from (by have t1 : 0 ≤ t1_5.toInt ∧ t1_5.toInt ≤ 1 := btt1_5; omega)), (show t0_1.toInt ≤ t0_1.toInt from (by omega)), (show t0_1.toInt ≤ t0_1.toInt from (by omega)), (show t0_2.toInt ≤ t0_2.toInt from (by omega)), (show t0_2.toInt ≤ t0_2.toInt from (by omega)), (show t1_1.toInt ≤ t1_1.toInt from (by omega)), (show t1_1.toInt ≤ t1_1.toInt from (by omega)), (show t1_4.toInt ≤ t1_4.toInt from (by omega)), (show t1_6.toInt ≤ t1_6.toInt from (by omega)), (show t1_6.toInt ≤ t1_6.toInt from (by omega)), (show t1_7.toInt ≤ t1_7.toInt from (by omega)), (show t1_7.toInt ≤ t1_7.toInt from (by omega)), (show t1_8.toInt ≤ t1_8.toInt from (by omega)), (show t1_8.toInt ≤ t1_8.toInt from (by omega)), (show t1_9.toInt ≤ t1_9.toInt from (by omega)), (show t1_9.toInt ≤ t1_9.toInt from (by omega)), (show (lx41, t0_1, t0_2, t1_0, t1_1, t1_2, t1_3, t1_4, t1_5, t1_6, t1_7, t1_8, t1_9, t1_10, t2_0, t3_0, t4_0, t5_0, t6_0, t7_0) = (F_NM_decimalBy x2 x3 x4 x5 t0_0 t0_1 t0_2 t1_0 t1_1 t1_2 t1_3 t1_4 t1_5 t1_6 t1_7 t1_8 t1_9 t1_10 t2_0 t3_0 t4_0 t5_0 t6_0 t7_0) from Eq.trans (by rw [F_NM_decimalBy_J30.eq_1, if_neg c60]) hR53)⟩) d_14_24_40
  ·
    intro J50
    refine q_join (X := Unit) (fun z H locs ls _ => q_Wd D g (va_A ws sz) s ws H locs ∧ lv_has ls 5 [(0, .ref (q 116)), (1, .int x2), (2, .int x3), (3, .int x4), (4, .int x5)] ∧ F_NM_decimalBy_J25 x2 x3 x4 x5 t0_0 t0_1 t0_2 t1_0 t1_1 t1_2 t1_3 t1_4 t1_5 t1_6 t1_7 t1_8 t1_9 t1_10 t2_0 t3_0 t4_0 t5_0 t6_0 t7_0 = (F_NM_decimalBy x2 x3 x4 x5 t0_0 t0_1 t0_2 t1_0 t1_1 t1_2 t1_3 t1_4 t1_5 t1_6 t1_7 t1_8 t1_9 t1_10 t2_0 t3_0 t4_0 t5_0 t6_0 t7_0) ∧ True ∧ S_NM_decimalBy_J25 x2 x3 x4 x5 t0_0 t0_1 t0_2 t1_0 t1_1 t1_2 t1_3 t1_4 t1_5 t1_6 t1_7 t1_8 t1_9 t1_10 t2_0 t3_0 t4_0 t5_0 t6_0 t7_0) (fun z => [.ref (q 116)]) 25 0 0 ?_ ?_
    ·
      rintro _ H locs ls _ ⟨V, hl, hR279, hS280⟩
      replace hl : lv_has ls 5 [(0, .ref (q 116)), (1, .int x2), (2, .int x3), (3, .int x4), (4, .int x5)] := hl
      refine lv_iconst (v := 1) hx hb d_14_24_25 (by decide) ?_
      refine lv_goto (tgt := 30) hx hb d_14_24_26 (by decide) ?_
      exact J50 ((1 : Int32)) _ _ _ ws ⟨(show q_F (0 ≤ 1) from (show 0 ≤ 1 from by omega)), (show q_F (1 ≤ 1) from (show 1 ≤ 1 from by omega)), V, q_lw hl (q_lw1 0 rfl (q_lw1 1 rfl (q_lw1 2 rfl (q_lw1 3 rfl (q_lw1 4 rfl q_lw0))))), (show F_NM_decimalBy_J30 x2 x3 x4 x5 t0_0 t0_1 t0_2 t1_0 t1_1 t1_2 t1_3 t1_4 t1_5 t1_6 t1_7 t1_8 t1_9 t1_10 t2_0 t3_0 t4_0 t5_0 t6_0 t7_0 1 = (F_NM_decimalBy x2 x3 x4 x5 t0_0 t0_1 t0_2 t1_0 t1_1 t1_2 t1_3 t1_4 t1_5 t1_6 t1_7 t1_8 t1_9 t1_10 t2_0 t3_0 t4_0 t5_0 t6_0 t7_0) from Eq.trans (by rw [F_NM_decimalBy_J25.eq_1]) hR279), (show True ∧ S_NM_decimalBy_J30 x2 x3 x4 x5 t0_0 t0_1 t0_2 t1_0 t1_1 t1_2 t1_3 t1_4 t1_5 t1_6 t1_7 t1_8 t1_9 t1_10 t2_0 t3_0 t4_0 t5_0 t6_0 t7_0 1 from (by have h := hS280; rw [S_NM_decimalBy_J25.eq_1] at h; with_reducible exact h))⟩
    ·
      intro J278
      refine lv_if_lt (tgt := 25) hx hb d_14_24_2 (by decide) (fun c284 => ?_) (fun c284 => ?_)
      ·
        have b285 : q_F (x2.toInt < 0) := (q_ltI c284)
        exact J278 (()) _ _ _ ws ⟨V, q_lw hl (q_lw1 0 rfl (q_lw1 1 rfl (q_lw1 2 rfl (q_lw1 3 rfl (q_lw1 4 rfl q_lw0))))), (show F_NM_decimalBy_J25 x2 x3 x4 x5 t0_0 t0_1 t0_2 t1_0 t1_1 t1_2 t1_3 t1_4 t1_5 t1_6 t1_7 t1_8 t1_9 t1_10 t2_0 t3_0 t4_0 t5_0 t6_0 t7_0 = (F_NM_decimalBy x2 x3 x4 x5 t0_0 t0_1 t0_2 t1_0 t1_1 t1_2 t1_3 t1_4 t1_5 t1_6 t1_7 t1_8 t1_9 t1_10 t2_0 t3_0 t4_0 t5_0 t6_0 t7_0) from (by rw [F_NM_decimalBy.eq_1, if_pos c284])), (show True ∧ S_NM_decimalBy_J25 x2 x3 x4 x5 t0_0 t0_1 t0_2 t1_0 t1_1 t1_2 t1_3 t1_4 t1_5 t1_6 t1_7 t1_8 t1_9 t1_10 t2_0 t3_0 t4_0 t5_0 t6_0 t7_0 from (by have h := hS; rw [S_NM_decimalBy.eq_1] at h; rw [if_pos c284] at h; with_reducible exact h))⟩
      ·
        have b286 : q_F (0 ≤ x2.toInt) := (q_nltI c284)
        refine lv_iload_n hx hb d_14_24_5 rfl (lv_at hl 1 rfl) ?_
        refine lv_iconst (v := 2) hx hb d_14_24_6 (by decide) ?_
        refine lv_icmp_gt (tgt := 25) hx hb d_14_24_7 (by decide) (fun c287 => ?_) (fun c287 => ?_)
        ·
          have b288 : q_F (2 < x2.toInt) := (q_ltI c287)
          exact J278 (()) _ _ _ ws ⟨V, q_lw hl (q_lw1 0 rfl (q_lw1 1 rfl (q_lw1 2 rfl (q_lw1 3 rfl (q_lw1 4 rfl q_lw0))))), (show F_NM_decimalBy_J25 x2 x3 x4 x5 t0_0 t0_1 t0_2 t1_0 t1_1 t1_2 t1_3 t1_4 t1_5 t1_6 t1_7 t1_8 t1_9 t1_10 t2_0 t3_0 t4_0 t5_0 t6_0 t7_0 = (F_NM_decimalBy x2 x3 x4 x5 t0_0 t0_1 t0_2 t1_0 t1_1 t1_2 t1_3 t1_4 t1_5 t1_6 t1_7 t1_8 t1_9 t1_10 t2_0 t3_0 t4_0 t5_0 t6_0 t7_0) from (by rw [F_NM_decimalBy.eq_1, if_neg c284, if_pos c287])), (show True ∧ S_NM_decimalBy_J25 x2 x3 x4 x5 t0_0 t0_1 t0_2 t1_0 t1_1 t1_2 t1_3 t1_4 t1_5 t1_6 t1_7 t1_8 t1_9 t1_10 t2_0 t3_0 t4_0 t5_0 t6_0 t7_0 from (by have h := hS; rw [S_NM_decimalBy.eq_1] at h; rw [if_neg c284] at h; rw [if_pos c287] at h; with_reducible exact h))⟩
        ·
          have b289 : q_F (x2.toInt ≤ 2) := (q_nltI c287)
          refine lv_iload_n hx hb d_14_24_10 rfl (lv_at hl 2 rfl) ?_
          refine q_goi V (q_runS (As := [.int x3]) (rest := [.ref (q 116)]) (d := 1) (mc := 0) (ms := 0) C0 V rfl LS_NM_70 (X_NM_no_IZ l D g q ws  x3 hI   _) rfl hl.1 rfl (Nat.le_of_ble_eq_true rfl) ⟨by decide, by decide⟩ ⟨Nat.le_of_ble_eq_true rfl, Nat.le_of_ble_eq_true rfl⟩ d_14_24_11) (fun a292 u290 H locs hp291 V => ?_)
          obtain ⟨rfl, b293, b294, hE295⟩ := hp291
          have e296 : a292 = (F_NM_no_IZ x3) := hE295
          replace b293 : q_F (0 ≤ a292.toInt) := b293
          replace b294 : q_F (a292.toInt ≤ 1) := b294
          refine lv_if_ne (tgt := 25) hx hb d_14_24_14 (by decide) (fun c297 => ?_) (fun c297 => ?_)
          ·
            have b298 : q_F (a292.toInt ≠ 0) := (q_neI c297)
            exact J278 (()) _ _ _ ws ⟨V, q_lw hl (q_lw1 0 rfl (q_lw1 1 rfl (q_lw1 2 rfl (q_lw1 3 rfl (q_lw1 4 rfl q_lw0))))), (show F_NM_decimalBy_J25 x2 x3 x4 x5 t0_0 t0_1 t0_2 t1_0 t1_1 t1_2 t1_3 t1_4 t1_5 t1_6 t1_7 t1_8 t1_9 t1_10 t2_0 t3_0 t4_0 t5_0 t6_0 t7_0 = (F_NM_decimalBy x2 x3 x4 x5 t0_0 t0_1 t0_2 t1_0 t1_1 t1_2 t1_3 t1_4 t1_5 t1_6 t1_7 t1_8 t1_9 t1_10 t2_0 t3_0 t4_0 t5_0 t6_0 t7_0) from (by have c297x := c297; rw [e296] at c297x; rw [F_NM_decimalBy.eq_1, if_neg c284, if_neg c287, if_neg c297x])), (show True ∧ S_NM_decimalBy_J25 x2 x3 x4 x5 t0_0 t0_1 t0_2 t1_0 t1_1 t1_2 t1_3 t1_4 t1_5 t1_6 t1_7 t1_8 t1_9 t1_10 t2_0 t3_0 t4_0 t5_0 t6_0 t7_0 from (by have h := hS; rw [S_NM_decimalBy.eq_1] at h; rw [if_neg c284] at h; rw [if_neg c287] at h; have c297x := c297; rw [e296] at c297x; rw [if_neg c297x] at h; with_reducible exact h))⟩
          ·
            have b299 : q_F (a292.toInt = 0) := (q_eqI c297)
            refine lv_iload hx hb d_14_24_17 (lv_at hl 4 rfl) ?_
            refine q_goi V (q_runS (As := [.int x5]) (rest := [.ref (q 116)]) (d := 1) (mc := 0) (ms := 0) C0 V rfl LS_NM_70 (X_NM_no_IZ l D g q ws  x5 hI   _) rfl hl.1 rfl (Nat.le_of_ble_eq_true rfl) ⟨by decide, by decide⟩ ⟨Nat.le_of_ble_eq_true rfl, Nat.le_of_ble_eq_true rfl⟩ d_14_24_19) (fun a302 u300 H locs hp301 V => ?_)
            obtain ⟨rfl, b303, b304, hE305⟩ := hp301
            have e306 : a302 = (F_NM_no_IZ x5) := hE305
            replace b303 : q_F (0 ≤ a302.toInt) := b303
            replace b304 : q_F (a302.toInt ≤ 1) := b304
            refine lv_if_eq (tgt := 29) hx hb d_14_24_22 (by decide) (fun c307 => ?_) (fun c307 => ?_)
            ·
              have b308 : q_F (a302.toInt = 0) := (q_eqI c307)
              refine lv_iconst (v := 0) hx hb d_14_24_29 (by decide) ?_
              exact J50 ((0 : Int32)) _ _ _ ws ⟨(show q_F (0 ≤ 0) from (show 0 ≤ 0 from by omega)), (show q_F (0 ≤ 1) from (show 0 ≤ 1 from by omega)), V, q_lw hl (q_lw1 0 rfl (q_lw1 1 rfl (q_lw1 2 rfl (q_lw1 3 rfl (q_lw1 4 rfl q_lw0))))), (show F_NM_decimalBy_J30 x2 x3 x4 x5 t0_0 t0_1 t0_2 t1_0 t1_1 t1_2 t1_3 t1_4 t1_5 t1_6 t1_7 t1_8 t1_9 t1_10 t2_0 t3_0 t4_0 t5_0 t6_0 t7_0 0 = (F_NM_decimalBy x2 x3 x4 x5 t0_0 t0_1 t0_2 t1_0 t1_1 t1_2 t1_3 t1_4 t1_5 t1_6 t1_7 t1_8 t1_9 t1_10 t2_0 t3_0 t4_0 t5_0 t6_0 t7_0) from (by have c297x := c297; rw [e296] at c297x; have c307x := c307; rw [e306] at c307x; rw [F_NM_decimalBy.eq_1, if_neg c284, if_neg c287, if_pos c297x, if_pos c307x])), (show True ∧ S_NM_decimalBy_J30 x2 x3 x4 x5 t0_0 t0_1 t0_2 t1_0 t1_1 t1_2 t1_3 t1_4 t1_5 t1_6 t1_7 t1_8 t1_9 t1_10 t2_0 t3_0 t4_0 t5_0 t6_0 t7_0 0 from (by have h := hS; rw [S_NM_decimalBy.eq_1] at h; rw [if_neg c284] at h; rw [if_neg c287] at h; have c297x := c297; rw [e296] at c297x; rw [if_pos c297x] at h; have c307x := c307; rw [e306] at c307x; rw [if_pos c307x] at h; with_reducible exact h))⟩
            ·
              have b309 : q_F (a302.toInt ≠ 0) := (q_neI c307)
              exact J278 (()) _ _ _ ws ⟨V, q_lw hl (q_lw1 0 rfl (q_lw1 1 rfl (q_lw1 2 rfl (q_lw1 3 rfl (q_lw1 4 rfl q_lw0))))), (show F_NM_decimalBy_J25 x2 x3 x4 x5 t0_0 t0_1 t0_2 t1_0 t1_1 t1_2 t1_3 t1_4 t1_5 t1_6 t1_7 t1_8 t1_9 t1_10 t2_0 t3_0 t4_0 t5_0 t6_0 t7_0 = (F_NM_decimalBy x2 x3 x4 x5 t0_0 t0_1 t0_2 t1_0 t1_1 t1_2 t1_3 t1_4 t1_5 t1_6 t1_7 t1_8 t1_9 t1_10 t2_0 t3_0 t4_0 t5_0 t6_0 t7_0) from (by have c297x := c297; rw [e296] at c297x; have c307x := c307; rw [e306] at c307x; rw [F_NM_decimalBy.eq_1, if_neg c284, if_neg c287, if_pos c297x, if_neg c307x])), (show True ∧ S_NM_decimalBy_J25 x2 x3 x4 x5 t0_0 t0_1 t0_2 t1_0 t1_1 t1_2 t1_3 t1_4 t1_5 t1_6 t1_7 t1_8 t1_9 t1_10 t2_0 t3_0 t4_0 t5_0 t6_0 t7_0 from (by have h := hS; rw [S_NM_decimalBy.eq_1] at h; rw [if_neg c284] at h; rw [if_neg c287] at h; have c297x := c297; rw [e296] at c297x; rw [if_pos c297x] at h; have c307x := c307; rw [e306] at c307x; rw [if_neg c307x] at h; with_reducible exact h))⟩
