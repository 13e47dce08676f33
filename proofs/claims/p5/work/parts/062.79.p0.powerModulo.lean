/-! NumberHouse, exactly: p0.powerModulo -/
theorem d_1_10_0 : decode prog_1_method_10_code 0 = .ok (.iload_n 1, 1) := by decide +kernel
theorem d_1_10_1 : decode prog_1_method_10_code 1 = .ok (.invokestatic 212, 3) := by decide +kernel
theorem d_1_10_34 : decode prog_1_method_10_code 34 = .ok (.invokestatic 104, 3) := by decide +kernel
theorem d_1_10_37 : decode prog_1_method_10_code 37 = .ok (.aload_n 0, 1) := by decide +kernel
theorem d_1_10_38 : decode prog_1_method_10_code 38 = .ok (.getfield 23, 3) := by decide +kernel
theorem d_1_10_41 : decode prog_1_method_10_code 41 = .ok (.iload_n 3, 1) := by decide +kernel
theorem d_1_10_42 : decode prog_1_method_10_code 42 = .ok (.aaload, 1) := by decide +kernel
theorem d_1_10_43 : decode prog_1_method_10_code 43 = .ok (.invokevirtual 225, 3) := by decide +kernel
theorem d_1_10_54 : decode prog_1_method_10_code 54 = .ok (.invokestatic 138, 3) := by decide +kernel
theorem d_1_10_57 : decode prog_1_method_10_code 57 = .ok (.aload_n 0, 1) := by decide +kernel
theorem d_1_10_58 : decode prog_1_method_10_code 58 = .ok (.getfield 23, 3) := by decide +kernel
theorem d_1_10_61 : decode prog_1_method_10_code 61 = .ok (.iload_n 2, 1) := by decide +kernel
theorem d_1_10_62 : decode prog_1_method_10_code 62 = .ok (.aaload, 1) := by decide +kernel
theorem d_1_10_63 : decode prog_1_method_10_code 63 = .ok (.getfield 262, 3) := by decide +kernel
set_option maxRecDepth 100000 in
theorem w_98 : (Cond.fieldLink "NumberHouse" (262 : Nat) "NumberHouse$Big" "negative" "Z") ∈ q_tbl := q_of1 98 rfl (by decide +kernel)
theorem d_1_10_66 : decode prog_1_method_10_code 66 = .ok (.ifCond .eq 28, 3) := by decide +kernel
theorem d_1_10_94 : decode prog_1_method_10_code 94 = .ok (.aload_n 0, 1) := by decide +kernel
theorem d_1_10_95 : decode prog_1_method_10_code 95 = .ok (.getfield 43, 3) := by decide +kernel
theorem d_1_10_98 : decode prog_1_method_10_code 98 = .ok (.aload_n 0, 1) := by decide +kernel
theorem d_1_10_99 : decode prog_1_method_10_code 99 = .ok (.getfield 23, 3) := by decide +kernel
theorem d_1_10_102 : decode prog_1_method_10_code 102 = .ok (.iload_n 1, 1) := by decide +kernel
theorem d_1_10_103 : decode prog_1_method_10_code 103 = .ok (.aaload, 1) := by decide +kernel
theorem d_1_10_104 : decode prog_1_method_10_code 104 = .ok (.aload_n 0, 1) := by decide +kernel
theorem d_1_10_105 : decode prog_1_method_10_code 105 = .ok (.getfield 23, 3) := by decide +kernel
theorem d_1_10_108 : decode prog_1_method_10_code 108 = .ok (.iload_n 3, 1) := by decide +kernel
theorem d_1_10_109 : decode prog_1_method_10_code 109 = .ok (.aaload, 1) := by decide +kernel
theorem d_1_10_110 : decode prog_1_method_10_code 110 = .ok (.aload_n 0, 1) := by decide +kernel
theorem d_1_10_111 : decode prog_1_method_10_code 111 = .ok (.getfield 43, 3) := by decide +kernel
theorem d_1_10_114 : decode prog_1_method_10_code 114 = .ok (.getfield 141, 3) := by decide +kernel
theorem d_1_10_117 : decode prog_1_method_10_code 117 = .ok (.invokevirtual 228, 3) := by decide +kernel
theorem d_1_10_120 : decode prog_1_method_10_code 120 = .ok (.aload_n 0, 1) := by decide +kernel
theorem d_1_10_121 : decode prog_1_method_10_code 121 = .ok (.getfield 43, 3) := by decide +kernel
theorem d_1_10_124 : decode prog_1_method_10_code 124 = .ok (.aload_n 0, 1) := by decide +kernel
theorem d_1_10_125 : decode prog_1_method_10_code 125 = .ok (.getfield 23, 3) := by decide +kernel
theorem d_1_10_128 : decode prog_1_method_10_code 128 = .ok (.iload_n 2, 1) := by decide +kernel
theorem d_1_10_129 : decode prog_1_method_10_code 129 = .ok (.aaload, 1) := by decide +kernel
theorem d_1_10_130 : decode prog_1_method_10_code 130 = .ok (.aload_n 0, 1) := by decide +kernel
theorem d_1_10_131 : decode prog_1_method_10_code 131 = .ok (.getfield 23, 3) := by decide +kernel
theorem d_1_10_134 : decode prog_1_method_10_code 134 = .ok (.iload_n 3, 1) := by decide +kernel
theorem d_1_10_135 : decode prog_1_method_10_code 135 = .ok (.aaload, 1) := by decide +kernel
theorem d_1_10_136 : decode prog_1_method_10_code 136 = .ok (.invokevirtual 266, 3) := by decide +kernel
set_option maxRecDepth 100000 in
theorem w_1357 : (Cond.code ({ cls := "NumberHouse$Mill", name := "powerBelow", desc := "(LNumberHouse$Big;LNumberHouse$Big;)V" } : MethodName) prog_8_method_7_code (4 : Nat) (none : Option ClassFile.FieldType)) ∈ q_tbl := q_of6 157 rfl (by decide +kernel)
set_option maxRecDepth 100000 in
theorem w_1354 : (Cond.methodLink "NumberHouse" (266 : Nat) ({ cls := "NumberHouse$Mill", name := "powerBelow", desc := "(LNumberHouse$Big;LNumberHouse$Big;)V" } : MethodName)) ∈ q_tbl := q_of6 154 rfl (by decide +kernel)
set_option maxRecDepth 100000 in
theorem w_1355 : (Cond.instanceMethod ({ cls := "NumberHouse$Mill", name := "powerBelow", desc := "(LNumberHouse$Big;LNumberHouse$Big;)V" } : MethodName)) ∈ q_tbl := q_of6 155 rfl (by decide +kernel)
set_option maxRecDepth 100000 in
theorem w_1356 : (Cond.selects "NumberHouse$Mill" ({ cls := "NumberHouse$Mill", name := "powerBelow", desc := "(LNumberHouse$Big;LNumberHouse$Big;)V" } : MethodName) ({ cls := "NumberHouse$Mill", name := "powerBelow", desc := "(LNumberHouse$Big;LNumberHouse$Big;)V" } : MethodName)) ∈ q_tbl := q_of6 156 rfl (by decide +kernel)
theorem LV_NH_266 : q_LV "NumberHouse" 266 y_Mil_powerBelow prog_8_method_7_code 4 none 2 := ⟨w_1357, w_3, w_1354, w_1355, w_1356, ⟨by decide, by decide, by decide +kernel⟩⟩
theorem d_1_10_139 : decode prog_1_method_10_code 139 = .ok (.aload_n 0, 1) := by decide +kernel
theorem d_1_10_140 : decode prog_1_method_10_code 140 = .ok (.iload 4, 2) := by decide +kernel
theorem d_1_10_142 : decode prog_1_method_10_code 142 = .ok (.invokevirtual 243, 3) := by decide +kernel
theorem d_1_10_145 : decode prog_1_method_10_code 145 = .ok (.return_, 1) := by decide +kernel
theorem d_1_10_69 : decode prog_1_method_10_code 69 = .ok (.aload_n 0, 1) := by decide +kernel
theorem d_1_10_70 : decode prog_1_method_10_code 70 = .ok (.getfield 43, 3) := by decide +kernel
theorem d_1_10_73 : decode prog_1_method_10_code 73 = .ok (.aload_n 0, 1) := by decide +kernel
theorem d_1_10_74 : decode prog_1_method_10_code 74 = .ok (.getfield 23, 3) := by decide +kernel
theorem d_1_10_77 : decode prog_1_method_10_code 77 = .ok (.iload_n 1, 1) := by decide +kernel
theorem d_1_10_78 : decode prog_1_method_10_code 78 = .ok (.aaload, 1) := by decide +kernel
theorem d_1_10_79 : decode prog_1_method_10_code 79 = .ok (.aload_n 0, 1) := by decide +kernel
theorem d_1_10_80 : decode prog_1_method_10_code 80 = .ok (.getfield 23, 3) := by decide +kernel
theorem d_1_10_83 : decode prog_1_method_10_code 83 = .ok (.iload_n 3, 1) := by decide +kernel
theorem d_1_10_84 : decode prog_1_method_10_code 84 = .ok (.aaload, 1) := by decide +kernel
theorem d_1_10_85 : decode prog_1_method_10_code 85 = .ok (.invokevirtual 236, 3) := by decide +kernel
theorem d_1_10_88 : decode prog_1_method_10_code 88 = .ok (.invokestatic 138, 3) := by decide +kernel
theorem d_1_10_91 : decode prog_1_method_10_code 91 = .ok (.goto 29, 3) := by decide +kernel
theorem d_1_10_46 : decode prog_1_method_10_code 46 = .ok (.ifCond .le 7, 3) := by decide +kernel
theorem d_1_10_53 : decode prog_1_method_10_code 53 = .ok (.iconst 0, 1) := by decide +kernel
theorem d_1_10_49 : decode prog_1_method_10_code 49 = .ok (.iconst 1, 1) := by decide +kernel
theorem d_1_10_50 : decode prog_1_method_10_code 50 = .ok (.goto 4, 3) := by decide +kernel
theorem d_1_10_33 : decode prog_1_method_10_code 33 = .ok (.iconst 0, 1) := by decide +kernel
theorem d_1_10_4 : decode prog_1_method_10_code 4 = .ok (.ifCond .eq 29, 3) := by decide +kernel
theorem d_1_10_7 : decode prog_1_method_10_code 7 = .ok (.iload_n 2, 1) := by decide +kernel
theorem d_1_10_8 : decode prog_1_method_10_code 8 = .ok (.invokestatic 212, 3) := by decide +kernel
theorem d_1_10_11 : decode prog_1_method_10_code 11 = .ok (.ifCond .eq 22, 3) := by decide +kernel
theorem d_1_10_14 : decode prog_1_method_10_code 14 = .ok (.iload_n 3, 1) := by decide +kernel
theorem d_1_10_15 : decode prog_1_method_10_code 15 = .ok (.invokestatic 212, 3) := by decide +kernel
theorem d_1_10_18 : decode prog_1_method_10_code 18 = .ok (.ifCond .eq 15, 3) := by decide +kernel
theorem d_1_10_21 : decode prog_1_method_10_code 21 = .ok (.iload 4, 2) := by decide +kernel
theorem d_1_10_23 : decode prog_1_method_10_code 23 = .ok (.invokestatic 212, 3) := by decide +kernel
theorem d_1_10_26 : decode prog_1_method_10_code 26 = .ok (.ifCond .eq 7, 3) := by decide +kernel
theorem d_1_10_29 : decode prog_1_method_10_code 29 = .ok (.iconst 1, 1) := by decide +kernel
theorem d_1_10_30 : decode prog_1_method_10_code 30 = .ok (.goto 4, 3) := by decide +kernel
def y_NH_powerModulo : MethodName := ⟨"NumberHouse", "powerModulo", "(IIII)V"⟩
def F_NH_powerModulo_c142 (x2 : Int32) (x3 : Int32) (x4 : Int32) (x5 : Int32) (t0_0 : Int32) (t0_1 : Int32) (t1_0 : (Nat → Int32)) (t2_0 : Int32) (t2_1 : Int32) (t3_0 : (Nat → Int32)) (t4_0 : Int32) (t4_1 : Int32) (t5_0 : (Nat → Int32)) (t6_0 : Int32) (t6_1 : Int32) (t7_0 : (Nat → Int32)) (t8_0 : Int32) (t8_1 : Int32) (t9_0 : (Nat → Int32)) (t10_0 : Int32) (t10_1 : Int32) (t11_0 : (Nat → Int32)) (t12_0 : Int32) (t12_1 : Int32) (t13_0 : (Nat → Int32)) (t14_0 : Int32) (t14_1 : Int32) (t15_0 : (Nat → Int32)) (t16_0 : Int32) (t16_1 : Int32) (t17_0 : (Nat → Int32)) (t18_0 : Int32) (t18_1 : Int32) (t19_0 : (Nat → Int32)) (t20_0 : Int32) (t20_1 : Int32) (t21_0 : (Nat → Int32)) (t22_0 : Int32) (t22_1 : Int32) (t23_0 : (Nat → Int32)) (lx104 : Int32) (lx160 : Int32) (p253 : (Int32 × Int32 × (Nat → Int32) × Int32 × Int32 × (Nat → Int32) × Int32 × Int32 × (Nat → Int32))) (p324 : (Int32 × Int32 × (Nat → Int32) × Int32 × Int32 × (Nat → Int32) × Int32 × Int32 × (Nat → Int32) × Int32 × Int32 × (Nat → Int32) × Int32 × Int32 × (Nat → Int32))) (y279 : Int32) (y280 : Int32) (f281 : (Nat → Int32)) (y284 : Int32) (y285 : Int32) (f286 : (Nat → Int32)) (y289 : Int32) (y290 : Int32) (f291 : (Nat → Int32)) (y294 : Int32) (y295 : Int32) (f296 : (Nat → Int32)) (y299 : Int32) (y300 : Int32) (f301 : (Nat → Int32)) (p359 : (Int32 × Int32 × Int32 × (Nat → Int32))) : Int32 × Int32 × Int32 × (Nat → Int32) × Int32 × Int32 × (Nat → Int32) × Int32 × Int32 × (Nat → Int32) × Int32 × Int32 × (Nat → Int32) × Int32 × Int32 × (Nat → Int32) × Int32 × Int32 × (Nat → Int32) × Int32 × Int32 × (Nat → Int32) × Int32 × Int32 × (Nat → Int32) × Int32 × Int32 × (Nat → Int32) × Int32 × Int32 × (Nat → Int32) := if p359.1 = (0 : Int32) then (((0 : Int32), y279, y280, f281, y284, y285, f286, y289, y290, f291, y294, y295, f296, t8_0, t8_1, t9_0, t10_0, t10_1, t11_0, t12_0, t12_1, t13_0, t14_0, t14_1, t15_0, y299, y300, f301, (p359.2.1 : Int32), (p359.2.2.1 : Int32), (p359.2.2.2 : (Nat → Int32)))) else ((p359.1, y279, y280, f281, y284, y285, f286, y289, y290, f291, y294, y295, f296, t8_0, t8_1, t9_0, t10_0, t10_1, t11_0, t12_0, t12_1, t13_0, t14_0, t14_1, t15_0, y299, y300, f301, (p359.2.1 : Int32), (p359.2.2.1 : Int32), (p359.2.2.2 : (Nat → Int32))))
def F_NH_powerModulo_c136 (x2 : Int32) (x3 : Int32) (x4 : Int32) (x5 : Int32) (t0_0 : Int32) (t0_1 : Int32) (t1_0 : (Nat → Int32)) (t2_0 : Int32) (t2_1 : Int32) (t3_0 : (Nat → Int32)) (t4_0 : Int32) (t4_1 : Int32) (t5_0 : (Nat → Int32)) (t6_0 : Int32) (t6_1 : Int32) (t7_0 : (Nat → Int32)) (t8_0 : Int32) (t8_1 : Int32) (t9_0 : (Nat → Int32)) (t10_0 : Int32) (t10_1 : Int32) (t11_0 : (Nat → Int32)) (t12_0 : Int32) (t12_1 : Int32) (t13_0 : (Nat → Int32)) (t14_0 : Int32) (t14_1 : Int32) (t15_0 : (Nat → Int32)) (t16_0 : Int32) (t16_1 : Int32) (t17_0 : (Nat → Int32)) (t18_0 : Int32) (t18_1 : Int32) (t19_0 : (Nat → Int32)) (t20_0 : Int32) (t20_1 : Int32) (t21_0 : (Nat → Int32)) (t22_0 : Int32) (t22_1 : Int32) (t23_0 : (Nat → Int32)) (lx104 : Int32) (lx160 : Int32) (p253 : (Int32 × Int32 × (Nat → Int32) × Int32 × Int32 × (Nat → Int32) × Int32 × Int32 × (Nat → Int32))) (p324 : (Int32 × Int32 × (Nat → Int32) × Int32 × Int32 × (Nat → Int32) × Int32 × Int32 × (Nat → Int32) × Int32 × Int32 × (Nat → Int32) × Int32 × Int32 × (Nat → Int32))) : Int32 × Int32 × Int32 × (Nat → Int32) × Int32 × Int32 × (Nat → Int32) × Int32 × Int32 × (Nat → Int32) × Int32 × Int32 × (Nat → Int32) × Int32 × Int32 × (Nat → Int32) × Int32 × Int32 × (Nat → Int32) × Int32 × Int32 × (Nat → Int32) × Int32 × Int32 × (Nat → Int32) × Int32 × Int32 × (Nat → Int32) × Int32 × Int32 × (Nat → Int32) := F_NH_powerModulo_c142 x2 x3 x4 x5 t0_0 t0_1 t1_0 t2_0 t2_1 t3_0 t4_0 t4_1 t5_0 t6_0 t6_1 t7_0 t8_0 t8_1 t9_0 t10_0 t10_1 t11_0 t12_0 t12_1 t13_0 t14_0 t14_1 t15_0 t16_0 t16_1 t17_0 t18_0 t18_1 t19_0 t20_0 t20_1 t21_0 t22_0 t22_1 t23_0 lx104 lx160 p253 p324 (p324.1 : Int32) (p324.2.1 : Int32) (p324.2.2.1 : (Nat → Int32)) (p324.2.2.2.1 : Int32) (p324.2.2.2.2.1 : Int32) (p324.2.2.2.2.2.1 : (Nat → Int32)) (p324.2.2.2.2.2.2.1 : Int32) (p324.2.2.2.2.2.2.2.1 : Int32) (p324.2.2.2.2.2.2.2.2.1 : (Nat → Int32)) (p324.2.2.2.2.2.2.2.2.2.1 : Int32) (p324.2.2.2.2.2.2.2.2.2.2.1 : Int32) (p324.2.2.2.2.2.2.2.2.2.2.2.1 : (Nat → Int32)) (p324.2.2.2.2.2.2.2.2.2.2.2.2.1 : Int32) (p324.2.2.2.2.2.2.2.2.2.2.2.2.2.1 : Int32) (p324.2.2.2.2.2.2.2.2.2.2.2.2.2.2 : (Nat → Int32)) ((F_NH_keepWhole x5 (p324.1 : Int32) (p324.2.1 : Int32) (p324.2.2.1 : (Nat → Int32)) t22_0 t22_1 t23_0) : (Int32 × Int32 × Int32 × (Nat → Int32)))
def F_NH_powerModulo_c117 (x2 : Int32) (x3 : Int32) (x4 : Int32) (x5 : Int32) (t0_0 : Int32) (t0_1 : Int32) (t1_0 : (Nat → Int32)) (t2_0 : Int32) (t2_1 : Int32) (t3_0 : (Nat → Int32)) (t4_0 : Int32) (t4_1 : Int32) (t5_0 : (Nat → Int32)) (t6_0 : Int32) (t6_1 : Int32) (t7_0 : (Nat → Int32)) (t8_0 : Int32) (t8_1 : Int32) (t9_0 : (Nat → Int32)) (t10_0 : Int32) (t10_1 : Int32) (t11_0 : (Nat → Int32)) (t12_0 : Int32) (t12_1 : Int32) (t13_0 : (Nat → Int32)) (t14_0 : Int32) (t14_1 : Int32) (t15_0 : (Nat → Int32)) (t16_0 : Int32) (t16_1 : Int32) (t17_0 : (Nat → Int32)) (t18_0 : Int32) (t18_1 : Int32) (t19_0 : (Nat → Int32)) (t20_0 : Int32) (t20_1 : Int32) (t21_0 : (Nat → Int32)) (t22_0 : Int32) (t22_1 : Int32) (t23_0 : (Nat → Int32)) (lx104 : Int32) (lx160 : Int32) (p253 : (Int32 × Int32 × (Nat → Int32) × Int32 × Int32 × (Nat → Int32) × Int32 × Int32 × (Nat → Int32))) : Int32 × Int32 × Int32 × (Nat → Int32) × Int32 × Int32 × (Nat → Int32) × Int32 × Int32 × (Nat → Int32) × Int32 × Int32 × (Nat → Int32) × Int32 × Int32 × (Nat → Int32) × Int32 × Int32 × (Nat → Int32) × Int32 × Int32 × (Nat → Int32) × Int32 × Int32 × (Nat → Int32) × Int32 × Int32 × (Nat → Int32) × Int32 × Int32 × (Nat → Int32) := F_NH_powerModulo_c136 x2 x3 x4 x5 t0_0 t0_1 t1_0 t2_0 t2_1 t3_0 t4_0 t4_1 t5_0 t6_0 t6_1 t7_0 t8_0 t8_1 t9_0 t10_0 t10_1 t11_0 t12_0 t12_1 t13_0 t14_0 t14_1 t15_0 t16_0 t16_1 t17_0 t18_0 t18_1 t19_0 t20_0 t20_1 t21_0 t22_0 t22_1 t23_0 lx104 lx160 p253 ((F_Mil_powerBelow (68 : Int32) (68 : Int32) (p253.2.2.2.2.2.2.1 : Int32) (p253.2.2.2.2.2.2.2.1 : Int32) (p253.2.2.2.2.2.2.2.2 : (Nat → Int32)) (p253.1 : Int32) (p253.2.1 : Int32) (p253.2.2.1 : (Nat → Int32)) t4_0 t4_1 t5_0 t6_0 t6_1 t7_0 t18_0 t18_1 t19_0 (p253.2.2.2.1 : Int32) (p253.2.2.2.2.1 : Int32) (p253.2.2.2.2.2.1 : (Nat → Int32))) : (Int32 × Int32 × (Nat → Int32) × Int32 × Int32 × (Nat → Int32) × Int32 × Int32 × (Nat → Int32) × Int32 × Int32 × (Nat → Int32) × Int32 × Int32 × (Nat → Int32)))
def F_NH_powerModulo_c142_8 (x2 : Int32) (x3 : Int32) (x4 : Int32) (x5 : Int32) (t0_0 : Int32) (t0_1 : Int32) (t1_0 : (Nat → Int32)) (t2_0 : Int32) (t2_1 : Int32) (t3_0 : (Nat → Int32)) (t4_0 : Int32) (t4_1 : Int32) (t5_0 : (Nat → Int32)) (t6_0 : Int32) (t6_1 : Int32) (t7_0 : (Nat → Int32)) (t8_0 : Int32) (t8_1 : Int32) (t9_0 : (Nat → Int32)) (t10_0 : Int32) (t10_1 : Int32) (t11_0 : (Nat → Int32)) (t12_0 : Int32) (t12_1 : Int32) (t13_0 : (Nat → Int32)) (t14_0 : Int32) (t14_1 : Int32) (t15_0 : (Nat → Int32)) (t16_0 : Int32) (t16_1 : Int32) (t17_0 : (Nat → Int32)) (t18_0 : Int32) (t18_1 : Int32) (t19_0 : (Nat → Int32)) (t20_0 : Int32) (t20_1 : Int32) (t21_0 : (Nat → Int32)) (t22_0 : Int32) (t22_1 : Int32) (t23_0 : (Nat → Int32)) (lx104 : Int32) (lx160 : Int32) (p486 : (Int32 × Int32 × Int32 × (Nat → Int32) × Int32 × Int32 × (Nat → Int32) × Int32 × Int32 × (Nat → Int32) × Int32 × Int32 × (Nat → Int32) × Int32 × Int32 × (Nat → Int32) × Int32 × Int32 × (Nat → Int32) × Int32 × Int32 × (Nat → Int32) × Int32 × Int32 × (Nat → Int32))) (y420 : Int32) (y421 : Int32) (f422 : (Nat → Int32)) (y425 : Int32) (y426 : Int32) (f427 : (Nat → Int32)) (y430 : Int32) (y431 : Int32) (f432 : (Nat → Int32)) (y435 : Int32) (y436 : Int32) (f437 : (Nat → Int32)) (p582 : (Int32 × Int32 × (Nat → Int32) × Int32 × Int32 × (Nat → Int32) × Int32 × Int32 × (Nat → Int32) × Int32 × Int32 × (Nat → Int32) × Int32 × Int32 × (Nat → Int32))) (y537 : Int32) (y538 : Int32) (f539 : (Nat → Int32)) (y542 : Int32) (y543 : Int32) (f544 : (Nat → Int32)) (y547 : Int32) (y548 : Int32) (f549 : (Nat → Int32)) (y552 : Int32) (y553 : Int32) (f554 : (Nat → Int32)) (y557 : Int32) (y558 : Int32) (f559 : (Nat → Int32)) (p617 : (Int32 × Int32 × Int32 × (Nat → Int32))) : Int32 × Int32 × Int32 × (Nat → Int32) × Int32 × Int32 × (Nat → Int32) × Int32 × Int32 × (Nat → Int32) × Int32 × Int32 × (Nat → Int32) × Int32 × Int32 × (Nat → Int32) × Int32 × Int32 × (Nat → Int32) × Int32 × Int32 × (Nat → Int32) × Int32 × Int32 × (Nat → Int32) × Int32 × Int32 × (Nat → Int32) × Int32 × Int32 × (Nat → Int32) := if p617.1 = (0 : Int32) then (((0 : Int32), y537, y538, f539, y542, y543, f544, y547, y548, f549, y552, y553, f554, y420, y421, f422, y425, y426, f427, y430, y431, f432, y435, y436, f437, y557, y558, f559, (p617.2.1 : Int32), (p617.2.2.1 : Int32), (p617.2.2.2 : (Nat → Int32)))) else ((p617.1, y537, y538, f539, y542, y543, f544, y547, y548, f549, y552, y553, f554, y420, y421, f422, y425, y426, f427, y430, y431, f432, y435, y436, f437, y557, y558, f559, (p617.2.1 : Int32), (p617.2.2.1 : Int32), (p617.2.2.2 : (Nat → Int32))))
def F_NH_powerModulo_c136_7 (x2 : Int32) (x3 : Int32) (x4 : Int32) (x5 : Int32) (t0_0 : Int32) (t0_1 : Int32) (t1_0 : (Nat → Int32)) (t2_0 : Int32) (t2_1 : Int32) (t3_0 : (Nat → Int32)) (t4_0 : Int32) (t4_1 : Int32) (t5_0 : (Nat → Int32)) (t6_0 : Int32) (t6_1 : Int32) (t7_0 : (Nat → Int32)) (t8_0 : Int32) (t8_1 : Int32) (t9_0 : (Nat → Int32)) (t10_0 : Int32) (t10_1 : Int32) (t11_0 : (Nat → Int32)) (t12_0 : Int32) (t12_1 : Int32) (t13_0 : (Nat → Int32)) (t14_0 : Int32) (t14_1 : Int32) (t15_0 : (Nat → Int32)) (t16_0 : Int32) (t16_1 : Int32) (t17_0 : (Nat → Int32)) (t18_0 : Int32) (t18_1 : Int32) (t19_0 : (Nat → Int32)) (t20_0 : Int32) (t20_1 : Int32) (t21_0 : (Nat → Int32)) (t22_0 : Int32) (t22_1 : Int32) (t23_0 : (Nat → Int32)) (lx104 : Int32) (lx160 : Int32) (p486 : (Int32 × Int32 × Int32 × (Nat → Int32) × Int32 × Int32 × (Nat → Int32) × Int32 × Int32 × (Nat → Int32) × Int32 × Int32 × (Nat → Int32) × Int32 × Int32 × (Nat → Int32) × Int32 × Int32 × (Nat → Int32) × Int32 × Int32 × (Nat → Int32) × Int32 × Int32 × (Nat → Int32))) (y420 : Int32) (y421 : Int32) (f422 : (Nat → Int32)) (y425 : Int32) (y426 : Int32) (f427 : (Nat → Int32)) (y430 : Int32) (y431 : Int32) (f432 : (Nat → Int32)) (y435 : Int32) (y436 : Int32) (f437 : (Nat → Int32)) (p582 : (Int32 × Int32 × (Nat → Int32) × Int32 × Int32 × (Nat → Int32) × Int32 × Int32 × (Nat → Int32) × Int32 × Int32 × (Nat → Int32) × Int32 × Int32 × (Nat → Int32))) : Int32 × Int32 × Int32 × (Nat → Int32) × Int32 × Int32 × (Nat → Int32) × Int32 × Int32 × (Nat → Int32) × Int32 × Int32 × (Nat → Int32) × Int32 × Int32 × (Nat → Int32) × Int32 × Int32 × (Nat → Int32) × Int32 × Int32 × (Nat → Int32) × Int32 × Int32 × (Nat → Int32) × Int32 × Int32 × (Nat → Int32) × Int32 × Int32 × (Nat → Int32) := F_NH_powerModulo_c142_8 x2 x3 x4 x5 t0_0 t0_1 t1_0 t2_0 t2_1 t3_0 t4_0 t4_1 t5_0 t6_0 t6_1 t7_0 t8_0 t8_1 t9_0 t10_0 t10_1 t11_0 t12_0 t12_1 t13_0 t14_0 t14_1 t15_0 t16_0 t16_1 t17_0 t18_0 t18_1 t19_0 t20_0 t20_1 t21_0 t22_0 t22_1 t23_0 lx104 lx160 p486 y420 y421 f422 y425 y426 f427 y430 y431 f432 y435 y436 f437 p582 (p582.1 : Int32) (p582.2.1 : Int32) (p582.2.2.1 : (Nat → Int32)) (p582.2.2.2.1 : Int32) (p582.2.2.2.2.1 : Int32) (p582.2.2.2.2.2.1 : (Nat → Int32)) (p582.2.2.2.2.2.2.1 : Int32) (p582.2.2.2.2.2.2.2.1 : Int32) (p582.2.2.2.2.2.2.2.2.1 : (Nat → Int32)) (p582.2.2.2.2.2.2.2.2.2.1 : Int32) (p582.2.2.2.2.2.2.2.2.2.2.1 : Int32) (p582.2.2.2.2.2.2.2.2.2.2.2.1 : (Nat → Int32)) (p582.2.2.2.2.2.2.2.2.2.2.2.2.1 : Int32) (p582.2.2.2.2.2.2.2.2.2.2.2.2.2.1 : Int32) (p582.2.2.2.2.2.2.2.2.2.2.2.2.2.2 : (Nat → Int32)) ((F_NH_keepWhole x5 (p582.1 : Int32) (p582.2.1 : Int32) (p582.2.2.1 : (Nat → Int32)) t22_0 t22_1 t23_0) : (Int32 × Int32 × Int32 × (Nat → Int32)))
def F_NH_powerModulo_c85 (x2 : Int32) (x3 : Int32) (x4 : Int32) (x5 : Int32) (t0_0 : Int32) (t0_1 : Int32) (t1_0 : (Nat → Int32)) (t2_0 : Int32) (t2_1 : Int32) (t3_0 : (Nat → Int32)) (t4_0 : Int32) (t4_1 : Int32) (t5_0 : (Nat → Int32)) (t6_0 : Int32) (t6_1 : Int32) (t7_0 : (Nat → Int32)) (t8_0 : Int32) (t8_1 : Int32) (t9_0 : (Nat → Int32)) (t10_0 : Int32) (t10_1 : Int32) (t11_0 : (Nat → Int32)) (t12_0 : Int32) (t12_1 : Int32) (t13_0 : (Nat → Int32)) (t14_0 : Int32) (t14_1 : Int32) (t15_0 : (Nat → Int32)) (t16_0 : Int32) (t16_1 : Int32) (t17_0 : (Nat → Int32)) (t18_0 : Int32) (t18_1 : Int32) (t19_0 : (Nat → Int32)) (t20_0 : Int32) (t20_1 : Int32) (t21_0 : (Nat → Int32)) (t22_0 : Int32) (t22_1 : Int32) (t23_0 : (Nat → Int32)) (lx104 : Int32) (lx160 : Int32) (p486 : (Int32 × Int32 × Int32 × (Nat → Int32) × Int32 × Int32 × (Nat → Int32) × Int32 × Int32 × (Nat → Int32) × Int32 × Int32 × (Nat → Int32) × Int32 × Int32 × (Nat → Int32) × Int32 × Int32 × (Nat → Int32) × Int32 × Int32 × (Nat → Int32) × Int32 × Int32 × (Nat → Int32))) : Int32 × Int32 × Int32 × (Nat → Int32) × Int32 × Int32 × (Nat → Int32) × Int32 × Int32 × (Nat → Int32) × Int32 × Int32 × (Nat → Int32) × Int32 × Int32 × (Nat → Int32) × Int32 × Int32 × (Nat → Int32) × Int32 × Int32 × (Nat → Int32) × Int32 × Int32 × (Nat → Int32) × Int32 × Int32 × (Nat → Int32) × Int32 × Int32 × (Nat → Int32) := if (F_NH_canHave (p486.1 : Int32)) = (0 : Int32) then (F_NH_powerModulo_c136_7 x2 x3 x4 x5 t0_0 t0_1 t1_0 t2_0 t2_1 t3_0 t4_0 t4_1 t5_0 t6_0 t6_1 t7_0 t8_0 t8_1 t9_0 t10_0 t10_1 t11_0 t12_0 t12_1 t13_0 t14_0 t14_1 t15_0 t16_0 t16_1 t17_0 t18_0 t18_1 t19_0 t20_0 t20_1 t21_0 t22_0 t22_1 t23_0 lx104 lx160 p486 (p486.2.2.2.2.2.2.2.2.2.2.1 : Int32) (p486.2.2.2.2.2.2.2.2.2.2.2.1 : Int32) (p486.2.2.2.2.2.2.2.2.2.2.2.2.1 : (Nat → Int32)) (p486.2.2.2.2.2.2.2.2.2.2.2.2.2.1 : Int32) (p486.2.2.2.2.2.2.2.2.2.2.2.2.2.2.1 : Int32) (p486.2.2.2.2.2.2.2.2.2.2.2.2.2.2.2.1 : (Nat → Int32)) (p486.2.2.2.2.2.2.2.2.2.2.2.2.2.2.2.2.1 : Int32) (p486.2.2.2.2.2.2.2.2.2.2.2.2.2.2.2.2.2.1 : Int32) (p486.2.2.2.2.2.2.2.2.2.2.2.2.2.2.2.2.2.2.1 : (Nat → Int32)) (p486.2.2.2.2.2.2.2.2.2.2.2.2.2.2.2.2.2.2.2.1 : Int32) (p486.2.2.2.2.2.2.2.2.2.2.2.2.2.2.2.2.2.2.2.2.1 : Int32) (p486.2.2.2.2.2.2.2.2.2.2.2.2.2.2.2.2.2.2.2.2.2.1 : (Nat → Int32)) ((F_Mil_powerBelow (68 : Int32) (68 : Int32) (p486.2.1 : Int32) (p486.2.2.1 : Int32) (p486.2.2.2.1 : (Nat → Int32)) (p486.2.2.2.2.1 : Int32) (p486.2.2.2.2.2.1 : Int32) (p486.2.2.2.2.2.2.1 : (Nat → Int32)) t4_0 t4_1 t5_0 (p486.2.2.2.2.2.2.2.1 : Int32) (p486.2.2.2.2.2.2.2.2.1 : Int32) (p486.2.2.2.2.2.2.2.2.2.1 : (Nat → Int32)) t18_0 t18_1 t19_0 (p486.2.2.2.2.2.2.2.2.2.2.2.2.2.2.2.2.2.2.2.2.2.2.1 : Int32) (p486.2.2.2.2.2.2.2.2.2.2.2.2.2.2.2.2.2.2.2.2.2.2.2.1 : Int32) (p486.2.2.2.2.2.2.2.2.2.2.2.2.2.2.2.2.2.2.2.2.2.2.2.2 : (Nat → Int32))) : (Int32 × Int32 × (Nat → Int32) × Int32 × Int32 × (Nat → Int32) × Int32 × Int32 × (Nat → Int32) × Int32 × Int32 × (Nat → Int32) × Int32 × Int32 × (Nat → Int32)))) else (((F_NH_canHave (p486.1 : Int32)), (p486.2.1 : Int32), (p486.2.2.1 : Int32), (p486.2.2.2.1 : (Nat → Int32)), (p486.2.2.2.2.1 : Int32), (p486.2.2.2.2.2.1 : Int32), (p486.2.2.2.2.2.2.1 : (Nat → Int32)), t4_0, t4_1, t5_0, (p486.2.2.2.2.2.2.2.1 : Int32), (p486.2.2.2.2.2.2.2.2.1 : Int32), (p486.2.2.2.2.2.2.2.2.2.1 : (Nat → Int32)), (p486.2.2.2.2.2.2.2.2.2.2.1 : Int32), (p486.2.2.2.2.2.2.2.2.2.2.2.1 : Int32), (p486.2.2.2.2.2.2.2.2.2.2.2.2.1 : (Nat → Int32)), (p486.2.2.2.2.2.2.2.2.2.2.2.2.2.1 : Int32), (p486.2.2.2.2.2.2.2.2.2.2.2.2.2.2.1 : Int32), (p486.2.2.2.2.2.2.2.2.2.2.2.2.2.2.2.1 : (Nat → Int32)), (p486.2.2.2.2.2.2.2.2.2.2.2.2.2.2.2.2.1 : Int32), (p486.2.2.2.2.2.2.2.2.2.2.2.2.2.2.2.2.2.1 : Int32), (p486.2.2.2.2.2.2.2.2.2.2.2.2.2.2.2.2.2.2.1 : (Nat → Int32)), (p486.2.2.2.2.2.2.2.2.2.2.2.2.2.2.2.2.2.2.2.1 : Int32), (p486.2.2.2.2.2.2.2.2.2.2.2.2.2.2.2.2.2.2.2.2.1 : Int32), (p486.2.2.2.2.2.2.2.2.2.2.2.2.2.2.2.2.2.2.2.2.2.1 : (Nat → Int32)), (p486.2.2.2.2.2.2.2.2.2.2.2.2.2.2.2.2.2.2.2.2.2.2.1 : Int32), (p486.2.2.2.2.2.2.2.2.2.2.2.2.2.2.2.2.2.2.2.2.2.2.2.1 : Int32), (p486.2.2.2.2.2.2.2.2.2.2.2.2.2.2.2.2.2.2.2.2.2.2.2.2 : (Nat → Int32)), t22_0, t22_1, t23_0))
def F_NH_powerModulo_J54 (x2 : Int32) (x3 : Int32) (x4 : Int32) (x5 : Int32) (t0_0 : Int32) (t0_1 : Int32) (t1_0 : (Nat → Int32)) (t2_0 : Int32) (t2_1 : Int32) (t3_0 : (Nat → Int32)) (t4_0 : Int32) (t4_1 : Int32) (t5_0 : (Nat → Int32)) (t6_0 : Int32) (t6_1 : Int32) (t7_0 : (Nat → Int32)) (t8_0 : Int32) (t8_1 : Int32) (t9_0 : (Nat → Int32)) (t10_0 : Int32) (t10_1 : Int32) (t11_0 : (Nat → Int32)) (t12_0 : Int32) (t12_1 : Int32) (t13_0 : (Nat → Int32)) (t14_0 : Int32) (t14_1 : Int32) (t15_0 : (Nat → Int32)) (t16_0 : Int32) (t16_1 : Int32) (t17_0 : (Nat → Int32)) (t18_0 : Int32) (t18_1 : Int32) (t19_0 : (Nat → Int32)) (t20_0 : Int32) (t20_1 : Int32) (t21_0 : (Nat → Int32)) (t22_0 : Int32) (t22_1 : Int32) (t23_0 : (Nat → Int32)) (lx104 : Int32) (lx160 : Int32) : Int32 × Int32 × Int32 × (Nat → Int32) × Int32 × Int32 × (Nat → Int32) × Int32 × Int32 × (Nat → Int32) × Int32 × Int32 × (Nat → Int32) × Int32 × Int32 × (Nat → Int32) × Int32 × Int32 × (Nat → Int32) × Int32 × Int32 × (Nat → Int32) × Int32 × Int32 × (Nat → Int32) × Int32 × Int32 × (Nat → Int32) × Int32 × Int32 × (Nat → Int32) := if (F_NH_canHave lx160) = (0 : Int32) then (if t18_1 = (0 : Int32) then (F_NH_powerModulo_c117 x2 x3 x4 x5 t0_0 t0_1 t1_0 t2_0 t2_1 t3_0 t4_0 t4_1 t5_0 t6_0 t6_1 t7_0 t8_0 t8_1 t9_0 t10_0 t10_1 t11_0 t12_0 t12_1 t13_0 t14_0 t14_1 t15_0 t16_0 t16_1 t17_0 t18_0 t18_1 t19_0 t20_0 t20_1 t21_0 t22_0 t22_1 t23_0 lx104 lx160 ((F_Mil_modulo (68 : Int32) (68 : Int32) (220 : Int32) t2_0 t2_1 t3_0 t16_0 t16_1 t17_0 t20_0 t20_1 t21_0 t0_0 t0_1 t1_0) : (Int32 × Int32 × (Nat → Int32) × Int32 × Int32 × (Nat → Int32) × Int32 × Int32 × (Nat → Int32)))) else (F_NH_powerModulo_c85 x2 x3 x4 x5 t0_0 t0_1 t1_0 t2_0 t2_1 t3_0 t4_0 t4_1 t5_0 t6_0 t6_1 t7_0 t8_0 t8_1 t9_0 t10_0 t10_1 t11_0 t12_0 t12_1 t13_0 t14_0 t14_1 t15_0 t16_0 t16_1 t17_0 t18_0 t18_1 t19_0 t20_0 t20_1 t21_0 t22_0 t22_1 t23_0 lx104 lx160 ((F_Mil_inverse (68 : Int32) (68 : Int32) t0_0 t0_1 t1_0 t2_0 t2_1 t3_0 t6_0 t6_1 t7_0 t8_0 t8_1 t9_0 t10_0 t10_1 t11_0 t12_0 t12_1 t13_0 t14_0 t14_1 t15_0 t16_0 t16_1 t17_0 t20_0 t20_1 t21_0) : (Int32 × Int32 × Int32 × (Nat → Int32) × Int32 × Int32 × (Nat → Int32) × Int32 × Int32 × (Nat → Int32) × Int32 × Int32 × (Nat → Int32) × Int32 × Int32 × (Nat → Int32) × Int32 × Int32 × (Nat → Int32) × Int32 × Int32 × (Nat → Int32) × Int32 × Int32 × (Nat → Int32))))) else (((F_NH_canHave lx160), t0_0, t0_1, t1_0, t2_0, t2_1, t3_0, t4_0, t4_1, t5_0, t6_0, t6_1, t7_0, t8_0, t8_1, t9_0, t10_0, t10_1, t11_0, t12_0, t12_1, t13_0, t14_0, t14_1, t15_0, t20_0, t20_1, t21_0, t22_0, t22_1, t23_0))
def F_NH_powerModulo_J34 (x2 : Int32) (x3 : Int32) (x4 : Int32) (x5 : Int32) (t0_0 : Int32) (t0_1 : Int32) (t1_0 : (Nat → Int32)) (t2_0 : Int32) (t2_1 : Int32) (t3_0 : (Nat → Int32)) (t4_0 : Int32) (t4_1 : Int32) (t5_0 : (Nat → Int32)) (t6_0 : Int32) (t6_1 : Int32) (t7_0 : (Nat → Int32)) (t8_0 : Int32) (t8_1 : Int32) (t9_0 : (Nat → Int32)) (t10_0 : Int32) (t10_1 : Int32) (t11_0 : (Nat → Int32)) (t12_0 : Int32) (t12_1 : Int32) (t13_0 : (Nat → Int32)) (t14_0 : Int32) (t14_1 : Int32) (t15_0 : (Nat → Int32)) (t16_0 : Int32) (t16_1 : Int32) (t17_0 : (Nat → Int32)) (t18_0 : Int32) (t18_1 : Int32) (t19_0 : (Nat → Int32)) (t20_0 : Int32) (t20_1 : Int32) (t21_0 : (Nat → Int32)) (t22_0 : Int32) (t22_1 : Int32) (t23_0 : (Nat → Int32)) (lx104 : Int32) : Int32 × Int32 × Int32 × (Nat → Int32) × Int32 × Int32 × (Nat → Int32) × Int32 × Int32 × (Nat → Int32) × Int32 × Int32 × (Nat → Int32) × Int32 × Int32 × (Nat → Int32) × Int32 × Int32 × (Nat → Int32) × Int32 × Int32 × (Nat → Int32) × Int32 × Int32 × (Nat → Int32) × Int32 × Int32 × (Nat → Int32) × Int32 × Int32 × (Nat → Int32) := if (F_NH_need lx104) = (0 : Int32) then (if ((F_Big_sign (68 : Int32) t20_0 t20_1) : Int32) ≤ (0 : Int32) then (F_NH_powerModulo_J54 x2 x3 x4 x5 t0_0 t0_1 t1_0 t2_0 t2_1 t3_0 t4_0 t4_1 t5_0 t6_0 t6_1 t7_0 t8_0 t8_1 t9_0 t10_0 t10_1 t11_0 t12_0 t12_1 t13_0 t14_0 t14_1 t15_0 t16_0 t16_1 t17_0 t18_0 t18_1 t19_0 t20_0 t20_1 t21_0 t22_0 t22_1 t23_0 lx104 0) else (F_NH_powerModulo_J54 x2 x3 x4 x5 t0_0 t0_1 t1_0 t2_0 t2_1 t3_0 t4_0 t4_1 t5_0 t6_0 t6_1 t7_0 t8_0 t8_1 t9_0 t10_0 t10_1 t11_0 t12_0 t12_1 t13_0 t14_0 t14_1 t15_0 t16_0 t16_1 t17_0 t18_0 t18_1 t19_0 t20_0 t20_1 t21_0 t22_0 t22_1 t23_0 lx104 1)) else (((F_NH_need lx104), t0_0, t0_1, t1_0, t2_0, t2_1, t3_0, t4_0, t4_1, t5_0, t6_0, t6_1, t7_0, t8_0, t8_1, t9_0, t10_0, t10_1, t11_0, t12_0, t12_1, t13_0, t14_0, t14_1, t15_0, t20_0, t20_1, t21_0, t22_0, t22_1, t23_0))
def F_NH_powerModulo_J33 (x2 : Int32) (x3 : Int32) (x4 : Int32) (x5 : Int32) (t0_0 : Int32) (t0_1 : Int32) (t1_0 : (Nat → Int32)) (t2_0 : Int32) (t2_1 : Int32) (t3_0 : (Nat → Int32)) (t4_0 : Int32) (t4_1 : Int32) (t5_0 : (Nat → Int32)) (t6_0 : Int32) (t6_1 : Int32) (t7_0 : (Nat → Int32)) (t8_0 : Int32) (t8_1 : Int32) (t9_0 : (Nat → Int32)) (t10_0 : Int32) (t10_1 : Int32) (t11_0 : (Nat → Int32)) (t12_0 : Int32) (t12_1 : Int32) (t13_0 : (Nat → Int32)) (t14_0 : Int32) (t14_1 : Int32) (t15_0 : (Nat → Int32)) (t16_0 : Int32) (t16_1 : Int32) (t17_0 : (Nat → Int32)) (t18_0 : Int32) (t18_1 : Int32) (t19_0 : (Nat → Int32)) (t20_0 : Int32) (t20_1 : Int32) (t21_0 : (Nat → Int32)) (t22_0 : Int32) (t22_1 : Int32) (t23_0 : (Nat → Int32)) : Int32 × Int32 × Int32 × (Nat → Int32) × Int32 × Int32 × (Nat → Int32) × Int32 × Int32 × (Nat → Int32) × Int32 × Int32 × (Nat → Int32) × Int32 × Int32 × (Nat → Int32) × Int32 × Int32 × (Nat → Int32) × Int32 × Int32 × (Nat → Int32) × Int32 × Int32 × (Nat → Int32) × Int32 × Int32 × (Nat → Int32) × Int32 × Int32 × (Nat → Int32) := F_NH_powerModulo_J34 x2 x3 x4 x5 t0_0 t0_1 t1_0 t2_0 t2_1 t3_0 t4_0 t4_1 t5_0 t6_0 t6_1 t7_0 t8_0 t8_1 t9_0 t10_0 t10_1 t11_0 t12_0 t12_1 t13_0 t14_0 t14_1 t15_0 t16_0 t16_1 t17_0 t18_0 t18_1 t19_0 t20_0 t20_1 t21_0 t22_0 t22_1 t23_0 0
def F_NH_powerModulo (x2 : Int32) (x3 : Int32) (x4 : Int32) (x5 : Int32) (t0_0 : Int32) (t0_1 : Int32) (t1_0 : (Nat → Int32)) (t2_0 : Int32) (t2_1 : Int32) (t3_0 : (Nat → Int32)) (t4_0 : Int32) (t4_1 : Int32) (t5_0 : (Nat → Int32)) (t6_0 : Int32) (t6_1 : Int32) (t7_0 : (Nat → Int32)) (t8_0 : Int32) (t8_1 : Int32) (t9_0 : (Nat → Int32)) (t10_0 : Int32) (t10_1 : Int32) (t11_0 : (Nat → Int32)) (t12_0 : Int32) (t12_1 : Int32) (t13_0 : (Nat → Int32)) (t14_0 : Int32) (t14_1 : Int32) (t15_0 : (Nat → Int32)) (t16_0 : Int32) (t16_1 : Int32) (t17_0 : (Nat → Int32)) (t18_0 : Int32) (t18_1 : Int32) (t19_0 : (Nat → Int32)) (t20_0 : Int32) (t20_1 : Int32) (t21_0 : (Nat → Int32)) (t22_0 : Int32) (t22_1 : Int32) (t23_0 : (Nat → Int32)) : Int32 × Int32 × Int32 × (Nat → Int32) × Int32 × Int32 × (Nat → Int32) × Int32 × Int32 × (Nat → Int32) × Int32 × Int32 × (Nat → Int32) × Int32 × Int32 × (Nat → Int32) × Int32 × Int32 × (Nat → Int32) × Int32 × Int32 × (Nat → Int32) × Int32 × Int32 × (Nat → Int32) × Int32 × Int32 × (Nat → Int32) × Int32 × Int32 × (Nat → Int32) := if ((F_NH_isRegister x2) : Int32) = (0 : Int32) then (F_NH_powerModulo_J33 x2 x3 x4 x5 t0_0 t0_1 t1_0 t2_0 t2_1 t3_0 t4_0 t4_1 t5_0 t6_0 t6_1 t7_0 t8_0 t8_1 t9_0 t10_0 t10_1 t11_0 t12_0 t12_1 t13_0 t14_0 t14_1 t15_0 t16_0 t16_1 t17_0 t18_0 t18_1 t19_0 t20_0 t20_1 t21_0 t22_0 t22_1 t23_0) else (if ((F_NH_isRegister x3) : Int32) = (0 : Int32) then (F_NH_powerModulo_J33 x2 x3 x4 x5 t0_0 t0_1 t1_0 t2_0 t2_1 t3_0 t4_0 t4_1 t5_0 t6_0 t6_1 t7_0 t8_0 t8_1 t9_0 t10_0 t10_1 t11_0 t12_0 t12_1 t13_0 t14_0 t14_1 t15_0 t16_0 t16_1 t17_0 t18_0 t18_1 t19_0 t20_0 t20_1 t21_0 t22_0 t22_1 t23_0) else (if ((F_NH_isRegister x4) : Int32) = (0 : Int32) then (F_NH_powerModulo_J33 x2 x3 x4 x5 t0_0 t0_1 t1_0 t2_0 t2_1 t3_0 t4_0 t4_1 t5_0 t6_0 t6_1 t7_0 t8_0 t8_1 t9_0 t10_0 t10_1 t11_0 t12_0 t12_1 t13_0 t14_0 t14_1 t15_0 t16_0 t16_1 t17_0 t18_0 t18_1 t19_0 t20_0 t20_1 t21_0 t22_0 t22_1 t23_0) else (if ((F_NH_isRegister x5) : Int32) = (0 : Int32) then (F_NH_powerModulo_J33 x2 x3 x4 x5 t0_0 t0_1 t1_0 t2_0 t2_1 t3_0 t4_0 t4_1 t5_0 t6_0 t6_1 t7_0 t8_0 t8_1 t9_0 t10_0 t10_1 t11_0 t12_0 t12_1 t13_0 t14_0 t14_1 t15_0 t16_0 t16_1 t17_0 t18_0 t18_1 t19_0 t20_0 t20_1 t21_0 t22_0 t22_1 t23_0) else (F_NH_powerModulo_J34 x2 x3 x4 x5 t0_0 t0_1 t1_0 t2_0 t2_1 t3_0 t4_0 t4_1 t5_0 t6_0 t6_1 t7_0 t8_0 t8_1 t9_0 t10_0 t10_1 t11_0 t12_0 t12_1 t13_0 t14_0 t14_1 t15_0 t16_0 t16_1 t17_0 t18_0 t18_1 t19_0 t20_0 t20_1 t21_0 t22_0 t22_1 t23_0 1))))
def S_NH_powerModulo_c142 (x2 : Int32) (x3 : Int32) (x4 : Int32) (x5 : Int32) (t0_0 : Int32) (t0_1 : Int32) (t1_0 : (Nat → Int32)) (t2_0 : Int32) (t2_1 : Int32) (t3_0 : (Nat → Int32)) (t4_0 : Int32) (t4_1 : Int32) (t5_0 : (Nat → Int32)) (t6_0 : Int32) (t6_1 : Int32) (t7_0 : (Nat → Int32)) (t8_0 : Int32) (t8_1 : Int32) (t9_0 : (Nat → Int32)) (t10_0 : Int32) (t10_1 : Int32) (t11_0 : (Nat → Int32)) (t12_0 : Int32) (t12_1 : Int32) (t13_0 : (Nat → Int32)) (t14_0 : Int32) (t14_1 : Int32) (t15_0 : (Nat → Int32)) (t16_0 : Int32) (t16_1 : Int32) (t17_0 : (Nat → Int32)) (t18_0 : Int32) (t18_1 : Int32) (t19_0 : (Nat → Int32)) (t20_0 : Int32) (t20_1 : Int32) (t21_0 : (Nat → Int32)) (t22_0 : Int32) (t22_1 : Int32) (t23_0 : (Nat → Int32)) (lx104 : Int32) (lx160 : Int32) (p253 : (Int32 × Int32 × (Nat → Int32) × Int32 × Int32 × (Nat → Int32) × Int32 × Int32 × (Nat → Int32))) (p324 : (Int32 × Int32 × (Nat → Int32) × Int32 × Int32 × (Nat → Int32) × Int32 × Int32 × (Nat → Int32) × Int32 × Int32 × (Nat → Int32) × Int32 × Int32 × (Nat → Int32))) (y279 : Int32) (y280 : Int32) (f281 : (Nat → Int32)) (y284 : Int32) (y285 : Int32) (f286 : (Nat → Int32)) (y289 : Int32) (y290 : Int32) (f291 : (Nat → Int32)) (y294 : Int32) (y295 : Int32) (f296 : (Nat → Int32)) (y299 : Int32) (y300 : Int32) (f301 : (Nat → Int32)) (p359 : (Int32 × Int32 × Int32 × (Nat → Int32))) : Prop := if p359.1 = (0 : Int32) then (True) else (True)
def S_NH_powerModulo_c136 (x2 : Int32) (x3 : Int32) (x4 : Int32) (x5 : Int32) (t0_0 : Int32) (t0_1 : Int32) (t1_0 : (Nat → Int32)) (t2_0 : Int32) (t2_1 : Int32) (t3_0 : (Nat → Int32)) (t4_0 : Int32) (t4_1 : Int32) (t5_0 : (Nat → Int32)) (t6_0 : Int32) (t6_1 : Int32) (t7_0 : (Nat → Int32)) (t8_0 : Int32) (t8_1 : Int32) (t9_0 : (Nat → Int32)) (t10_0 : Int32) (t10_1 : Int32) (t11_0 : (Nat → Int32)) (t12_0 : Int32) (t12_1 : Int32) (t13_0 : (Nat → Int32)) (t14_0 : Int32) (t14_1 : Int32) (t15_0 : (Nat → Int32)) (t16_0 : Int32) (t16_1 : Int32) (t17_0 : (Nat → Int32)) (t18_0 : Int32) (t18_1 : Int32) (t19_0 : (Nat → Int32)) (t20_0 : Int32) (t20_1 : Int32) (t21_0 : (Nat → Int32)) (t22_0 : Int32) (t22_1 : Int32) (t23_0 : (Nat → Int32)) (lx104 : Int32) (lx160 : Int32) (p253 : (Int32 × Int32 × (Nat → Int32) × Int32 × Int32 × (Nat → Int32) × Int32 × Int32 × (Nat → Int32))) (p324 : (Int32 × Int32 × (Nat → Int32) × Int32 × Int32 × (Nat → Int32) × Int32 × Int32 × (Nat → Int32) × Int32 × Int32 × (Nat → Int32) × Int32 × Int32 × (Nat → Int32))) : Prop := (True ∧ S_NH_keepWhole x5 (p324.1 : Int32) (p324.2.1 : Int32) (p324.2.2.1 : (Nat → Int32)) t22_0 t22_1 t23_0) ∧ (S_NH_powerModulo_c142 x2 x3 x4 x5 t0_0 t0_1 t1_0 t2_0 t2_1 t3_0 t4_0 t4_1 t5_0 t6_0 t6_1 t7_0 t8_0 t8_1 t9_0 t10_0 t10_1 t11_0 t12_0 t12_1 t13_0 t14_0 t14_1 t15_0 t16_0 t16_1 t17_0 t18_0 t18_1 t19_0 t20_0 t20_1 t21_0 t22_0 t22_1 t23_0 lx104 lx160 p253 p324 (p324.1 : Int32) (p324.2.1 : Int32) (p324.2.2.1 : (Nat → Int32)) (p324.2.2.2.1 : Int32) (p324.2.2.2.2.1 : Int32) (p324.2.2.2.2.2.1 : (Nat → Int32)) (p324.2.2.2.2.2.2.1 : Int32) (p324.2.2.2.2.2.2.2.1 : Int32) (p324.2.2.2.2.2.2.2.2.1 : (Nat → Int32)) (p324.2.2.2.2.2.2.2.2.2.1 : Int32) (p324.2.2.2.2.2.2.2.2.2.2.1 : Int32) (p324.2.2.2.2.2.2.2.2.2.2.2.1 : (Nat → Int32)) (p324.2.2.2.2.2.2.2.2.2.2.2.2.1 : Int32) (p324.2.2.2.2.2.2.2.2.2.2.2.2.2.1 : Int32) (p324.2.2.2.2.2.2.2.2.2.2.2.2.2.2 : (Nat → Int32)) ((F_NH_keepWhole x5 (p324.1 : Int32) (p324.2.1 : Int32) (p324.2.2.1 : (Nat → Int32)) t22_0 t22_1 t23_0) : (Int32 × Int32 × Int32 × (Nat → Int32))))
def S_NH_powerModulo_c117 (x2 : Int32) (x3 : Int32) (x4 : Int32) (x5 : Int32) (t0_0 : Int32) (t0_1 : Int32) (t1_0 : (Nat → Int32)) (t2_0 : Int32) (t2_1 : Int32) (t3_0 : (Nat → Int32)) (t4_0 : Int32) (t4_1 : Int32) (t5_0 : (Nat → Int32)) (t6_0 : Int32) (t6_1 : Int32) (t7_0 : (Nat → Int32)) (t8_0 : Int32) (t8_1 : Int32) (t9_0 : (Nat → Int32)) (t10_0 : Int32) (t10_1 : Int32) (t11_0 : (Nat → Int32)) (t12_0 : Int32) (t12_1 : Int32) (t13_0 : (Nat → Int32)) (t14_0 : Int32) (t14_1 : Int32) (t15_0 : (Nat → Int32)) (t16_0 : Int32) (t16_1 : Int32) (t17_0 : (Nat → Int32)) (t18_0 : Int32) (t18_1 : Int32) (t19_0 : (Nat → Int32)) (t20_0 : Int32) (t20_1 : Int32) (t21_0 : (Nat → Int32)) (t22_0 : Int32) (t22_1 : Int32) (t23_0 : (Nat → Int32)) (lx104 : Int32) (lx160 : Int32) (p253 : (Int32 × Int32 × (Nat → Int32) × Int32 × Int32 × (Nat → Int32) × Int32 × Int32 × (Nat → Int32))) : Prop := (True ∧ S_Mil_powerBelow (68 : Int32) (68 : Int32) (p253.2.2.2.2.2.2.1 : Int32) (p253.2.2.2.2.2.2.2.1 : Int32) (p253.2.2.2.2.2.2.2.2 : (Nat → Int32)) (p253.1 : Int32) (p253.2.1 : Int32) (p253.2.2.1 : (Nat → Int32)) t4_0 t4_1 t5_0 t6_0 t6_1 t7_0 t18_0 t18_1 t19_0 (p253.2.2.2.1 : Int32) (p253.2.2.2.2.1 : Int32) (p253.2.2.2.2.2.1 : (Nat → Int32))) ∧ (S_NH_powerModulo_c136 x2 x3 x4 x5 t0_0 t0_1 t1_0 t2_0 t2_1 t3_0 t4_0 t4_1 t5_0 t6_0 t6_1 t7_0 t8_0 t8_1 t9_0 t10_0 t10_1 t11_0 t12_0 t12_1 t13_0 t14_0 t14_1 t15_0 t16_0 t16_1 t17_0 t18_0 t18_1 t19_0 t20_0 t20_1 t21_0 t22_0 t22_1 t23_0 lx104 lx160 p253 ((F_Mil_powerBelow (68 : Int32) (68 : Int32) (p253.2.2.2.2.2.2.1 : Int32) (p253.2.2.2.2.2.2.2.1 : Int32) (p253.2.2.2.2.2.2.2.2 : (Nat → Int32)) (p253.1 : Int32) (p253.2.1 : Int32) (p253.2.2.1 : (Nat → Int32)) t4_0 t4_1 t5_0 t6_0 t6_1 t7_0 t18_0 t18_1 t19_0 (p253.2.2.2.1 : Int32) (p253.2.2.2.2.1 : Int32) (p253.2.2.2.2.2.1 : (Nat → Int32))) : (Int32 × Int32 × (Nat → Int32) × Int32 × Int32 × (Nat → Int32) × Int32 × Int32 × (Nat → Int32) × Int32 × Int32 × (Nat → Int32) × Int32 × Int32 × (Nat → Int32))))
def S_NH_powerModulo_c142_8 (x2 : Int32) (x3 : Int32) (x4 : Int32) (x5 : Int32) (t0_0 : Int32) (t0_1 : Int32) (t1_0 : (Nat → Int32)) (t2_0 : Int32) (t2_1 : Int32) (t3_0 : (Nat → Int32)) (t4_0 : Int32) (t4_1 : Int32) (t5_0 : (Nat → Int32)) (t6_0 : Int32) (t6_1 : Int32) (t7_0 : (Nat → Int32)) (t8_0 : Int32) (t8_1 : Int32) (t9_0 : (Nat → Int32)) (t10_0 : Int32) (t10_1 : Int32) (t11_0 : (Nat → Int32)) (t12_0 : Int32) (t12_1 : Int32) (t13_0 : (Nat → Int32)) (t14_0 : Int32) (t14_1 : Int32) (t15_0 : (Nat → Int32)) (t16_0 : Int32) (t16_1 : Int32) (t17_0 : (Nat → Int32)) (t18_0 : Int32) (t18_1 : Int32) (t19_0 : (Nat → Int32)) (t20_0 : Int32) (t20_1 : Int32) (t21_0 : (Nat → Int32)) (t22_0 : Int32) (t22_1 : Int32) (t23_0 : (Nat → Int32)) (lx104 : Int32) (lx160 : Int32) (p486 : (Int32 × Int32 × Int32 × (Nat → Int32) × Int32 × Int32 × (Nat → Int32) × Int32 × Int32 × (Nat → Int32) × Int32 × Int32 × (Nat → Int32) × Int32 × Int32 × (Nat → Int32) × Int32 × Int32 × (Nat → Int32) × Int32 × Int32 × (Nat → Int32) × Int32 × Int32 × (Nat → Int32))) (y420 : Int32) (y421 : Int32) (f422 : (Nat → Int32)) (y425 : Int32) (y426 : Int32) (f427 : (Nat → Int32)) (y430 : Int32) (y431 : Int32) (f432 : (Nat → Int32)) (y435 : Int32) (y436 : Int32) (f437 : (Nat → Int32)) (p582 : (Int32 × Int32 × (Nat → Int32) × Int32 × Int32 × (Nat → Int32) × Int32 × Int32 × (Nat → Int32) × Int32 × Int32 × (Nat → Int32) × Int32 × Int32 × (Nat → Int32))) (y537 : Int32) (y538 : Int32) (f539 : (Nat → Int32)) (y542 : Int32) (y543 : Int32) (f544 : (Nat → Int32)) (y547 : Int32) (y548 : Int32) (f549 : (Nat → Int32)) (y552 : Int32) (y553 : Int32) (f554 : (Nat → Int32)) (y557 : Int32) (y558 : Int32) (f559 : (Nat → Int32)) (p617 : (Int32 × Int32 × Int32 × (Nat → Int32))) : Prop := if p617.1 = (0 : Int32) then (True) else (True)
def S_NH_powerModulo_c136_7 (x2 : Int32) (x3 : Int32) (x4 : Int32) (x5 : Int32) (t0_0 : Int32) (t0_1 : Int32) (t1_0 : (Nat → Int32)) (t2_0 : Int32) (t2_1 : Int32) (t3_0 : (Nat → Int32)) (t4_0 : Int32) (t4_1 : Int32) (t5_0 : (Nat → Int32)) (t6_0 : Int32) (t6_1 : Int32) (t7_0 : (Nat → Int32)) (t8_0 : Int32) (t8_1 : Int32) (t9_0 : (Nat → Int32)) (t10_0 : Int32) (t10_1 : Int32) (t11_0 : (Nat → Int32)) (t12_0 : Int32) (t12_1 : Int32) (t13_0 : (Nat → Int32)) (t14_0 : Int32) (t14_1 : Int32) (t15_0 : (Nat → Int32)) (t16_0 : Int32) (t16_1 : Int32) (t17_0 : (Nat → Int32)) (t18_0 : Int32) (t18_1 : Int32) (t19_0 : (Nat → Int32)) (t20_0 : Int32) (t20_1 : Int32) (t21_0 : (Nat → Int32)) (t22_0 : Int32) (t22_1 : Int32) (t23_0 : (Nat → Int32)) (lx104 : Int32) (lx160 : Int32) (p486 : (Int32 × Int32 × Int32 × (Nat → Int32) × Int32 × Int32 × (Nat → Int32) × Int32 × Int32 × (Nat → Int32) × Int32 × Int32 × (Nat → Int32) × Int32 × Int32 × (Nat → Int32) × Int32 × Int32 × (Nat → Int32) × Int32 × Int32 × (Nat → Int32) × Int32 × Int32 × (Nat → Int32))) (y420 : Int32) (y421 : Int32) (f422 : (Nat → Int32)) (y425 : Int32) (y426 : Int32) (f427 : (Nat → Int32)) (y430 : Int32) (y431 : Int32) (f432 : (Nat → Int32)) (y435 : Int32) (y436 : Int32) (f437 : (Nat → Int32)) (p582 : (Int32 × Int32 × (Nat → Int32) × Int32 × Int32 × (Nat → Int32) × Int32 × Int32 × (Nat → Int32) × Int32 × Int32 × (Nat → Int32) × Int32 × Int32 × (Nat → Int32))) : Prop := (True ∧ S_NH_keepWhole x5 (p582.1 : Int32) (p582.2.1 : Int32) (p582.2.2.1 : (Nat → Int32)) t22_0 t22_1 t23_0) ∧ (S_NH_powerModulo_c142_8 x2 x3 x4 x5 t0_0 t0_1 t1_0 t2_0 t2_1 t3_0 t4_0 t4_1 t5_0 t6_0 t6_1 t7_0 t8_0 t8_1 t9_0 t10_0 t10_1 t11_0 t12_0 t12_1 t13_0 t14_0 t14_1 t15_0 t16_0 t16_1 t17_0 t18_0 t18_1 t19_0 t20_0 t20_1 t21_0 t22_0 t22_1 t23_0 lx104 lx160 p486 y420 y421 f422 y425 y426 f427 y430 y431 f432 y435 y436 f437 p582 (p582.1 : Int32) (p582.2.1 : Int32) (p582.2.2.1 : (Nat → Int32)) (p582.2.2.2.1 : Int32) (p582.2.2.2.2.1 : Int32) (p582.2.2.2.2.2.1 : (Nat → Int32)) (p582.2.2.2.2.2.2.1 : Int32) (p582.2.2.2.2.2.2.2.1 : Int32) (p582.2.2.2.2.2.2.2.2.1 : (Nat → Int32)) (p582.2.2.2.2.2.2.2.2.2.1 : Int32) (p582.2.2.2.2.2.2.2.2.2.2.1 : Int32) (p582.2.2.2.2.2.2.2.2.2.2.2.1 : (Nat → Int32)) (p582.2.2.2.2.2.2.2.2.2.2.2.2.1 : Int32) (p582.2.2.2.2.2.2.2.2.2.2.2.2.2.1 : Int32) (p582.2.2.2.2.2.2.2.2.2.2.2.2.2.2 : (Nat → Int32)) ((F_NH_keepWhole x5 (p582.1 : Int32) (p582.2.1 : Int32) (p582.2.2.1 : (Nat → Int32)) t22_0 t22_1 t23_0) : (Int32 × Int32 × Int32 × (Nat → Int32))))
def S_NH_powerModulo_c85 (x2 : Int32) (x3 : Int32) (x4 : Int32) (x5 : Int32) (t0_0 : Int32) (t0_1 : Int32) (t1_0 : (Nat → Int32)) (t2_0 : Int32) (t2_1 : Int32) (t3_0 : (Nat → Int32)) (t4_0 : Int32) (t4_1 : Int32) (t5_0 : (Nat → Int32)) (t6_0 : Int32) (t6_1 : Int32) (t7_0 : (Nat → Int32)) (t8_0 : Int32) (t8_1 : Int32) (t9_0 : (Nat → Int32)) (t10_0 : Int32) (t10_1 : Int32) (t11_0 : (Nat → Int32)) (t12_0 : Int32) (t12_1 : Int32) (t13_0 : (Nat → Int32)) (t14_0 : Int32) (t14_1 : Int32) (t15_0 : (Nat → Int32)) (t16_0 : Int32) (t16_1 : Int32) (t17_0 : (Nat → Int32)) (t18_0 : Int32) (t18_1 : Int32) (t19_0 : (Nat → Int32)) (t20_0 : Int32) (t20_1 : Int32) (t21_0 : (Nat → Int32)) (t22_0 : Int32) (t22_1 : Int32) (t23_0 : (Nat → Int32)) (lx104 : Int32) (lx160 : Int32) (p486 : (Int32 × Int32 × Int32 × (Nat → Int32) × Int32 × Int32 × (Nat → Int32) × Int32 × Int32 × (Nat → Int32) × Int32 × Int32 × (Nat → Int32) × Int32 × Int32 × (Nat → Int32) × Int32 × Int32 × (Nat → Int32) × Int32 × Int32 × (Nat → Int32) × Int32 × Int32 × (Nat → Int32))) : Prop := if (F_NH_canHave (p486.1 : Int32)) = (0 : Int32) then ((True ∧ S_Mil_powerBelow (68 : Int32) (68 : Int32) (p486.2.1 : Int32) (p486.2.2.1 : Int32) (p486.2.2.2.1 : (Nat → Int32)) (p486.2.2.2.2.1 : Int32) (p486.2.2.2.2.2.1 : Int32) (p486.2.2.2.2.2.2.1 : (Nat → Int32)) t4_0 t4_1 t5_0 (p486.2.2.2.2.2.2.2.1 : Int32) (p486.2.2.2.2.2.2.2.2.1 : Int32) (p486.2.2.2.2.2.2.2.2.2.1 : (Nat → Int32)) t18_0 t18_1 t19_0 (p486.2.2.2.2.2.2.2.2.2.2.2.2.2.2.2.2.2.2.2.2.2.2.1 : Int32) (p486.2.2.2.2.2.2.2.2.2.2.2.2.2.2.2.2.2.2.2.2.2.2.2.1 : Int32) (p486.2.2.2.2.2.2.2.2.2.2.2.2.2.2.2.2.2.2.2.2.2.2.2.2 : (Nat → Int32))) ∧ (S_NH_powerModulo_c136_7 x2 x3 x4 x5 t0_0 t0_1 t1_0 t2_0 t2_1 t3_0 t4_0 t4_1 t5_0 t6_0 t6_1 t7_0 t8_0 t8_1 t9_0 t10_0 t10_1 t11_0 t12_0 t12_1 t13_0 t14_0 t14_1 t15_0 t16_0 t16_1 t17_0 t18_0 t18_1 t19_0 t20_0 t20_1 t21_0 t22_0 t22_1 t23_0 lx104 lx160 p486 (p486.2.2.2.2.2.2.2.2.2.2.1 : Int32) (p486.2.2.2.2.2.2.2.2.2.2.2.1 : Int32) (p486.2.2.2.2.2.2.2.2.2.2.2.2.1 : (Nat → Int32)) (p486.2.2.2.2.2.2.2.2.2.2.2.2.2.1 : Int32) (p486.2.2.2.2.2.2.2.2.2.2.2.2.2.2.1 : Int32) (p486.2.2.2.2.2.2.2.2.2.2.2.2.2.2.2.1 : (Nat → Int32)) (p486.2.2.2.2.2.2.2.2.2.2.2.2.2.2.2.2.1 : Int32) (p486.2.2.2.2.2.2.2.2.2.2.2.2.2.2.2.2.2.1 : Int32) (p486.2.2.2.2.2.2.2.2.2.2.2.2.2.2.2.2.2.2.1 : (Nat → Int32)) (p486.2.2.2.2.2.2.2.2.2.2.2.2.2.2.2.2.2.2.2.1 : Int32) (p486.2.2.2.2.2.2.2.2.2.2.2.2.2.2.2.2.2.2.2.2.1 : Int32) (p486.2.2.2.2.2.2.2.2.2.2.2.2.2.2.2.2.2.2.2.2.2.1 : (Nat → Int32)) ((F_Mil_powerBelow (68 : Int32) (68 : Int32) (p486.2.1 : Int32) (p486.2.2.1 : Int32) (p486.2.2.2.1 : (Nat → Int32)) (p486.2.2.2.2.1 : Int32) (p486.2.2.2.2.2.1 : Int32) (p486.2.2.2.2.2.2.1 : (Nat → Int32)) t4_0 t4_1 t5_0 (p486.2.2.2.2.2.2.2.1 : Int32) (p486.2.2.2.2.2.2.2.2.1 : Int32) (p486.2.2.2.2.2.2.2.2.2.1 : (Nat → Int32)) t18_0 t18_1 t19_0 (p486.2.2.2.2.2.2.2.2.2.2.2.2.2.2.2.2.2.2.2.2.2.2.1 : Int32) (p486.2.2.2.2.2.2.2.2.2.2.2.2.2.2.2.2.2.2.2.2.2.2.2.1 : Int32) (p486.2.2.2.2.2.2.2.2.2.2.2.2.2.2.2.2.2.2.2.2.2.2.2.2 : (Nat → Int32))) : (Int32 × Int32 × (Nat → Int32) × Int32 × Int32 × (Nat → Int32) × Int32 × Int32 × (Nat → Int32) × Int32 × Int32 × (Nat → Int32) × Int32 × Int32 × (Nat → Int32))))) else (True)
def S_NH_powerModulo_J54 (x2 : Int32) (x3 : Int32) (x4 : Int32) (x5 : Int32) (t0_0 : Int32) (t0_1 : Int32) (t1_0 : (Nat → Int32)) (t2_0 : Int32) (t2_1 : Int32) (t3_0 : (Nat → Int32)) (t4_0 : Int32) (t4_1 : Int32) (t5_0 : (Nat → Int32)) (t6_0 : Int32) (t6_1 : Int32) (t7_0 : (Nat → Int32)) (t8_0 : Int32) (t8_1 : Int32) (t9_0 : (Nat → Int32)) (t10_0 : Int32) (t10_1 : Int32) (t11_0 : (Nat → Int32)) (t12_0 : Int32) (t12_1 : Int32) (t13_0 : (Nat → Int32)) (t14_0 : Int32) (t14_1 : Int32) (t15_0 : (Nat → Int32)) (t16_0 : Int32) (t16_1 : Int32) (t17_0 : (Nat → Int32)) (t18_0 : Int32) (t18_1 : Int32) (t19_0 : (Nat → Int32)) (t20_0 : Int32) (t20_1 : Int32) (t21_0 : (Nat → Int32)) (t22_0 : Int32) (t22_1 : Int32) (t23_0 : (Nat → Int32)) (lx104 : Int32) (lx160 : Int32) : Prop := if (F_NH_canHave lx160) = (0 : Int32) then ((0 ≤ x3.toInt) ∧ ((x3.toInt ≤ 9) ∧ (if t18_1 = (0 : Int32) then ((0 ≤ x2.toInt) ∧ ((x2.toInt ≤ 9) ∧ ((True ∧ S_Mil_modulo (68 : Int32) (68 : Int32) (220 : Int32) t2_0 t2_1 t3_0 t16_0 t16_1 t17_0 t20_0 t20_1 t21_0 t0_0 t0_1 t1_0) ∧ (S_NH_powerModulo_c117 x2 x3 x4 x5 t0_0 t0_1 t1_0 t2_0 t2_1 t3_0 t4_0 t4_1 t5_0 t6_0 t6_1 t7_0 t8_0 t8_1 t9_0 t10_0 t10_1 t11_0 t12_0 t12_1 t13_0 t14_0 t14_1 t15_0 t16_0 t16_1 t17_0 t18_0 t18_1 t19_0 t20_0 t20_1 t21_0 t22_0 t22_1 t23_0 lx104 lx160 ((F_Mil_modulo (68 : Int32) (68 : Int32) (220 : Int32) t2_0 t2_1 t3_0 t16_0 t16_1 t17_0 t20_0 t20_1 t21_0 t0_0 t0_1 t1_0) : (Int32 × Int32 × (Nat → Int32) × Int32 × Int32 × (Nat → Int32) × Int32 × Int32 × (Nat → Int32))))))) else ((0 ≤ x2.toInt) ∧ ((x2.toInt ≤ 9) ∧ ((True ∧ S_Mil_inverse (68 : Int32) (68 : Int32) t0_0 t0_1 t1_0 t2_0 t2_1 t3_0 t6_0 t6_1 t7_0 t8_0 t8_1 t9_0 t10_0 t10_1 t11_0 t12_0 t12_1 t13_0 t14_0 t14_1 t15_0 t16_0 t16_1 t17_0 t20_0 t20_1 t21_0) ∧ (S_NH_powerModulo_c85 x2 x3 x4 x5 t0_0 t0_1 t1_0 t2_0 t2_1 t3_0 t4_0 t4_1 t5_0 t6_0 t6_1 t7_0 t8_0 t8_1 t9_0 t10_0 t10_1 t11_0 t12_0 t12_1 t13_0 t14_0 t14_1 t15_0 t16_0 t16_1 t17_0 t18_0 t18_1 t19_0 t20_0 t20_1 t21_0 t22_0 t22_1 t23_0 lx104 lx160 ((F_Mil_inverse (68 : Int32) (68 : Int32) t0_0 t0_1 t1_0 t2_0 t2_1 t3_0 t6_0 t6_1 t7_0 t8_0 t8_1 t9_0 t10_0 t10_1 t11_0 t12_0 t12_1 t13_0 t14_0 t14_1 t15_0 t16_0 t16_1 t17_0 t20_0 t20_1 t21_0) : (Int32 × Int32 × Int32 × (Nat → Int32) × Int32 × Int32 × (Nat → Int32) × Int32 × Int32 × (Nat → Int32) × Int32 × Int32 × (Nat → Int32) × Int32 × Int32 × (Nat → Int32) × Int32 × Int32 × (Nat → Int32) × Int32 × Int32 × (Nat → Int32) × Int32 × Int32 × (Nat → Int32)))))))))) else (True)
def S_NH_powerModulo_J34 (x2 : Int32) (x3 : Int32) (x4 : Int32) (x5 : Int32) (t0_0 : Int32) (t0_1 : Int32) (t1_0 : (Nat → Int32)) (t2_0 : Int32) (t2_1 : Int32) (t3_0 : (Nat → Int32)) (t4_0 : Int32) (t4_1 : Int32) (t5_0 : (Nat → Int32)) (t6_0 : Int32) (t6_1 : Int32) (t7_0 : (Nat → Int32)) (t8_0 : Int32) (t8_1 : Int32) (t9_0 : (Nat → Int32)) (t10_0 : Int32) (t10_1 : Int32) (t11_0 : (Nat → Int32)) (t12_0 : Int32) (t12_1 : Int32) (t13_0 : (Nat → Int32)) (t14_0 : Int32) (t14_1 : Int32) (t15_0 : (Nat → Int32)) (t16_0 : Int32) (t16_1 : Int32) (t17_0 : (Nat → Int32)) (t18_0 : Int32) (t18_1 : Int32) (t19_0 : (Nat → Int32)) (t20_0 : Int32) (t20_1 : Int32) (t21_0 : (Nat → Int32)) (t22_0 : Int32) (t22_1 : Int32) (t23_0 : (Nat → Int32)) (lx104 : Int32) : Prop := if (F_NH_need lx104) = (0 : Int32) then ((0 ≤ x4.toInt) ∧ ((x4.toInt ≤ 9) ∧ (if ((F_Big_sign (68 : Int32) t20_0 t20_1) : Int32) ≤ (0 : Int32) then (S_NH_powerModulo_J54 x2 x3 x4 x5 t0_0 t0_1 t1_0 t2_0 t2_1 t3_0 t4_0 t4_1 t5_0 t6_0 t6_1 t7_0 t8_0 t8_1 t9_0 t10_0 t10_1 t11_0 t12_0 t12_1 t13_0 t14_0 t14_1 t15_0 t16_0 t16_1 t17_0 t18_0 t18_1 t19_0 t20_0 t20_1 t21_0 t22_0 t22_1 t23_0 lx104 0) else (S_NH_powerModulo_J54 x2 x3 x4 x5 t0_0 t0_1 t1_0 t2_0 t2_1 t3_0 t4_0 t4_1 t5_0 t6_0 t6_1 t7_0 t8_0 t8_1 t9_0 t10_0 t10_1 t11_0 t12_0 t12_1 t13_0 t14_0 t14_1 t15_0 t16_0 t16_1 t17_0 t18_0 t18_1 t19_0 t20_0 t20_1 t21_0 t22_0 t22_1 t23_0 lx104 1)))) else (True)
def S_NH_powerModulo_J33 (x2 : Int32) (x3 : Int32) (x4 : Int32) (x5 : Int32) (t0_0 : Int32) (t0_1 : Int32) (t1_0 : (Nat → Int32)) (t2_0 : Int32) (t2_1 : Int32) (t3_0 : (Nat → Int32)) (t4_0 : Int32) (t4_1 : Int32) (t5_0 : (Nat → Int32)) (t6_0 : Int32) (t6_1 : Int32) (t7_0 : (Nat → Int32)) (t8_0 : Int32) (t8_1 : Int32) (t9_0 : (Nat → Int32)) (t10_0 : Int32) (t10_1 : Int32) (t11_0 : (Nat → Int32)) (t12_0 : Int32) (t12_1 : Int32) (t13_0 : (Nat → Int32)) (t14_0 : Int32) (t14_1 : Int32) (t15_0 : (Nat → Int32)) (t16_0 : Int32) (t16_1 : Int32) (t17_0 : (Nat → Int32)) (t18_0 : Int32) (t18_1 : Int32) (t19_0 : (Nat → Int32)) (t20_0 : Int32) (t20_1 : Int32) (t21_0 : (Nat → Int32)) (t22_0 : Int32) (t22_1 : Int32) (t23_0 : (Nat → Int32)) : Prop := S_NH_powerModulo_J34 x2 x3 x4 x5 t0_0 t0_1 t1_0 t2_0 t2_1 t3_0 t4_0 t4_1 t5_0 t6_0 t6_1 t7_0 t8_0 t8_1 t9_0 t10_0 t10_1 t11_0 t12_0 t12_1 t13_0 t14_0 t14_1 t15_0 t16_0 t16_1 t17_0 t18_0 t18_1 t19_0 t20_0 t20_1 t21_0 t22_0 t22_1 t23_0 0
def S_NH_powerModulo (x2 : Int32) (x3 : Int32) (x4 : Int32) (x5 : Int32) (t0_0 : Int32) (t0_1 : Int32) (t1_0 : (Nat → Int32)) (t2_0 : Int32) (t2_1 : Int32) (t3_0 : (Nat → Int32)) (t4_0 : Int32) (t4_1 : Int32) (t5_0 : (Nat → Int32)) (t6_0 : Int32) (t6_1 : Int32) (t7_0 : (Nat → Int32)) (t8_0 : Int32) (t8_1 : Int32) (t9_0 : (Nat → Int32)) (t10_0 : Int32) (t10_1 : Int32) (t11_0 : (Nat → Int32)) (t12_0 : Int32) (t12_1 : Int32) (t13_0 : (Nat → Int32)) (t14_0 : Int32) (t14_1 : Int32) (t15_0 : (Nat → Int32)) (t16_0 : Int32) (t16_1 : Int32) (t17_0 : (Nat → Int32)) (t18_0 : Int32) (t18_1 : Int32) (t19_0 : (Nat → Int32)) (t20_0 : Int32) (t20_1 : Int32) (t21_0 : (Nat → Int32)) (t22_0 : Int32) (t22_1 : Int32) (t23_0 : (Nat → Int32)) : Prop := if ((F_NH_isRegister x2) : Int32) = (0 : Int32) then (S_NH_powerModulo_J33 x2 x3 x4 x5 t0_0 t0_1 t1_0 t2_0 t2_1 t3_0 t4_0 t4_1 t5_0 t6_0 t6_1 t7_0 t8_0 t8_1 t9_0 t10_0 t10_1 t11_0 t12_0 t12_1 t13_0 t14_0 t14_1 t15_0 t16_0 t16_1 t17_0 t18_0 t18_1 t19_0 t20_0 t20_1 t21_0 t22_0 t22_1 t23_0) else (if ((F_NH_isRegister x3) : Int32) = (0 : Int32) then (S_NH_powerModulo_J33 x2 x3 x4 x5 t0_0 t0_1 t1_0 t2_0 t2_1 t3_0 t4_0 t4_1 t5_0 t6_0 t6_1 t7_0 t8_0 t8_1 t9_0 t10_0 t10_1 t11_0 t12_0 t12_1 t13_0 t14_0 t14_1 t15_0 t16_0 t16_1 t17_0 t18_0 t18_1 t19_0 t20_0 t20_1 t21_0 t22_0 t22_1 t23_0) else (if ((F_NH_isRegister x4) : Int32) = (0 : Int32) then (S_NH_powerModulo_J33 x2 x3 x4 x5 t0_0 t0_1 t1_0 t2_0 t2_1 t3_0 t4_0 t4_1 t5_0 t6_0 t6_1 t7_0 t8_0 t8_1 t9_0 t10_0 t10_1 t11_0 t12_0 t12_1 t13_0 t14_0 t14_1 t15_0 t16_0 t16_1 t17_0 t18_0 t18_1 t19_0 t20_0 t20_1 t21_0 t22_0 t22_1 t23_0) else (if ((F_NH_isRegister x5) : Int32) = (0 : Int32) then (S_NH_powerModulo_J33 x2 x3 x4 x5 t0_0 t0_1 t1_0 t2_0 t2_1 t3_0 t4_0 t4_1 t5_0 t6_0 t6_1 t7_0 t8_0 t8_1 t9_0 t10_0 t10_1 t11_0 t12_0 t12_1 t13_0 t14_0 t14_1 t15_0 t16_0 t16_1 t17_0 t18_0 t18_1 t19_0 t20_0 t20_1 t21_0 t22_0 t22_1 t23_0) else (S_NH_powerModulo_J34 x2 x3 x4 x5 t0_0 t0_1 t1_0 t2_0 t2_1 t3_0 t4_0 t4_1 t5_0 t6_0 t6_1 t7_0 t8_0 t8_1 t9_0 t10_0 t10_1 t11_0 t12_0 t12_1 t13_0 t14_0 t14_1 t15_0 t16_0 t16_1 t17_0 t18_0 t18_1 t19_0 t20_0 t20_1 t21_0 t22_0 t22_1 t23_0 1))))
set_option maxRecDepth 100000 in
set_option maxHeartbeats 4000000 in
theorem X_NH_powerModulo (l : Launch) (D : va_G) (g : Nat → ClassId) (q : Nat → Nat) (ws : va_W) (x2 : Int32) (x3 : Int32) (x4 : Int32) (x5 : Int32) (k2 : Nat) (hBk2 : q_isBig (nsh g q) g q k2 68) (yk2 : 66 ≤ k2) (gk2x2 : x2.toNatClampNeg < 10 → k2 = 66 + 5 * x2.toNatClampNeg) (k3 : Nat) (hBk3 : q_isBig (nsh g q) g q k3 68) (yk3 : 66 ≤ k3) (gk3x3 : x3.toNatClampNeg < 10 → k3 = 66 + 5 * x3.toNatClampNeg) (k4 : Nat) (hBk4 : q_isBig (nsh g q) g q k4 68) (yk4 : 66 ≤ k4) (gk4x4 : x4.toNatClampNeg < 10 → k4 = 66 + 5 * x4.toNatClampNeg) (k5 : Nat) (hBk5 : q_isBig (nsh g q) g q k5 68) (yk5 : 66 ≤ k5) (gk5x5 : x5.toNatClampNeg < 10 → k5 = 66 + 5 * x5.toNatClampNeg) (ne_k2_k4 : k2 ≠ k4) (ne_k2_k4p1 : k2 ≠ k4 + 1) (ne_k4_k2p1 : k4 ≠ k2 + 1) (ne_k3_k4 : k3 ≠ k4) (ne_k3_k4p1 : k3 ≠ k4 + 1) (ne_k4_k3p1 : k4 ≠ k3 + 1) (ne_k5_k4 : k5 ≠ k4) (ne_k5_k4p1 : k5 ≠ k4 + 1) (ne_k4_k5p1 : k4 ≠ k5 + 1) (hlt : l.stackTraces = false) (hI : q_I (nsh g q) q ws) (t0_0 : Int32) (t0_1 : Int32) (hT0 : ws[10]? = (some (q 10, .inr (2, [.ref (q 11), .int t0_0, .int t0_1])) : Option (Nat × va_E))) (t1_0 : (Nat → Int32)) (hT1 : ws[11]? = (some (q 11, .inl (g 0, (220 : Int32).toNatClampNeg, .inl t1_0)) : Option (Nat × va_E))) (t2_0 : Int32) (t2_1 : Int32) (hT2 : ws[12]? = (some (q 12, .inr (2, [.ref (q 13), .int t2_0, .int t2_1])) : Option (Nat × va_E))) (t3_0 : (Nat → Int32)) (hT3 : ws[13]? = (some (q 13, .inl (g 0, (220 : Int32).toNatClampNeg, .inl t3_0)) : Option (Nat × va_E))) (t4_0 : Int32) (t4_1 : Int32) (hT4 : ws[14]? = (some (q 14, .inr (2, [.ref (q 15), .int t4_0, .int t4_1])) : Option (Nat × va_E))) (t5_0 : (Nat → Int32)) (hT5 : ws[15]? = (some (q 15, .inl (g 0, (220 : Int32).toNatClampNeg, .inl t5_0)) : Option (Nat × va_E))) (t6_0 : Int32) (t6_1 : Int32) (hT6 : ws[18]? = (some (q 18, .inr (2, [.ref (q 19), .int t6_0, .int t6_1])) : Option (Nat × va_E))) (t7_0 : (Nat → Int32)) (hT7 : ws[19]? = (some (q 19, .inl (g 0, (220 : Int32).toNatClampNeg, .inl t7_0)) : Option (Nat × va_E))) (t8_0 : Int32) (t8_1 : Int32) (hT8 : ws[22]? = (some (q 22, .inr (2, [.ref (q 23), .int t8_0, .int t8_1])) : Option (Nat × va_E))) (t9_0 : (Nat → Int32)) (hT9 : ws[23]? = (some (q 23, .inl (g 0, (220 : Int32).toNatClampNeg, .inl t9_0)) : Option (Nat × va_E))) (t10_0 : Int32) (t10_1 : Int32) (hT10 : ws[24]? = (some (q 24, .inr (2, [.ref (q 25), .int t10_0, .int t10_1])) : Option (Nat × va_E))) (t11_0 : (Nat → Int32)) (hT11 : ws[25]? = (some (q 25, .inl (g 0, (220 : Int32).toNatClampNeg, .inl t11_0)) : Option (Nat × va_E))) (t12_0 : Int32) (t12_1 : Int32) (hT12 : ws[26]? = (some (q 26, .inr (2, [.ref (q 27), .int t12_0, .int t12_1])) : Option (Nat × va_E))) (t13_0 : (Nat → Int32)) (hT13 : ws[27]? = (some (q 27, .inl (g 0, (220 : Int32).toNatClampNeg, .inl t13_0)) : Option (Nat × va_E))) (t14_0 : Int32) (t14_1 : Int32) (hT14 : ws[28]? = (some (q 28, .inr (2, [.ref (q 29), .int t14_0, .int t14_1])) : Option (Nat × va_E))) (t15_0 : (Nat → Int32)) (hT15 : ws[29]? = (some (q 29, .inl (g 0, (220 : Int32).toNatClampNeg, .inl t15_0)) : Option (Nat × va_E))) (t16_0 : Int32) (t16_1 : Int32) (hT16 : ws[k2]? = (some (q k2, .inr (2, [.ref (q (k2 + 1)), .int t16_0, .int t16_1])) : Option (Nat × va_E))) (t17_0 : (Nat → Int32)) (hT17 : ws[k2 + 1]? = (some (q (k2 + 1), .inl (g 0, (68 : Int32).toNatClampNeg, .inl t17_0)) : Option (Nat × va_E))) (t18_0 : Int32) (t18_1 : Int32) (hT18 : ws[k3]? = (some (q k3, .inr (2, [.ref (q (k3 + 1)), .int t18_0, .int t18_1])) : Option (Nat × va_E))) (t19_0 : (Nat → Int32)) (hT19 : ws[k3 + 1]? = (some (q (k3 + 1), .inl (g 0, (68 : Int32).toNatClampNeg, .inl t19_0)) : Option (Nat × va_E))) (t20_0 : Int32) (t20_1 : Int32) (hT20 : ws[k4]? = (some (q k4, .inr (2, [.ref (q (k4 + 1)), .int t20_0, .int t20_1])) : Option (Nat × va_E))) (t21_0 : (Nat → Int32)) (hT21 : ws[k4 + 1]? = (some (q (k4 + 1), .inl (g 0, (68 : Int32).toNatClampNeg, .inl t21_0)) : Option (Nat × va_E))) (t22_0 : Int32) (t22_1 : Int32) (hT22 : ws[k5]? = (some (q k5, .inr (2, [.ref (q (k5 + 1)), .int t22_0, .int t22_1])) : Option (Nat × va_E))) (t23_0 : (Nat → Int32)) (hT23 : ws[k5 + 1]? = (some (q (k5 + 1), .inl (g 0, (68 : Int32).toNatClampNeg, .inl t23_0)) : Option (Nat × va_E))) (hS : True ∧ S_NH_powerModulo x2 x3 x4 x5 t0_0 t0_1 t1_0 t2_0 t2_1 t3_0 t4_0 t4_1 t5_0 t6_0 t6_1 t7_0 t8_0 t8_1 t9_0 t10_0 t10_1 t11_0 t12_0 t12_1 t13_0 t14_0 t14_1 t15_0 t16_0 t16_1 t17_0 t18_0 t18_1 t19_0 t20_0 t20_1 t21_0 t22_0 t22_1 t23_0) : ∀ sz, q_Mx l y_NH_powerModulo prog_1_method_10_code 5 none 9 4 24 D g [.ref (q 0), .int x2, .int x3, .int x4, .int x5] ws sz (va_Qv (fun u => q_I (nsh g q) q u ∧ q_un ws u [10, 11, 12, 13, 14, 15, 18, 19, 22, 23, 24, 25, 26, 27, 28, 29, k4, k4 + 1, k5, k5 + 1] ∧ ∃ (u0_0 : Int32) (u0_1 : Int32) (u1_0 : (Nat → Int32)) (u2_0 : Int32) (u2_1 : Int32) (u3_0 : (Nat → Int32)) (u4_0 : Int32) (u4_1 : Int32) (u5_0 : (Nat → Int32)) (u6_0 : Int32) (u6_1 : Int32) (u7_0 : (Nat → Int32)) (u8_0 : Int32) (u8_1 : Int32) (u9_0 : (Nat → Int32)) (u10_0 : Int32) (u10_1 : Int32) (u11_0 : (Nat → Int32)) (u12_0 : Int32) (u12_1 : Int32) (u13_0 : (Nat → Int32)) (u14_0 : Int32) (u14_1 : Int32) (u15_0 : (Nat → Int32)) (u20_0 : Int32) (u20_1 : Int32) (u21_0 : (Nat → Int32)) (u22_0 : Int32) (u22_1 : Int32) (u23_0 : (Nat → Int32)), u[10]? = (some (q 10, .inr (2, [.ref (q 11), .int u0_0, .int u0_1])) : Option (Nat × va_E)) ∧ u[11]? = (some (q 11, .inl (g 0, (220 : Int32).toNatClampNeg, .inl u1_0)) : Option (Nat × va_E)) ∧ u[12]? = (some (q 12, .inr (2, [.ref (q 13), .int u2_0, .int u2_1])) : Option (Nat × va_E)) ∧ u[13]? = (some (q 13, .inl (g 0, (220 : Int32).toNatClampNeg, .inl u3_0)) : Option (Nat × va_E)) ∧ u[14]? = (some (q 14, .inr (2, [.ref (q 15), .int u4_0, .int u4_1])) : Option (Nat × va_E)) ∧ u[15]? = (some (q 15, .inl (g 0, (220 : Int32).toNatClampNeg, .inl u5_0)) : Option (Nat × va_E)) ∧ u[18]? = (some (q 18, .inr (2, [.ref (q 19), .int u6_0, .int u6_1])) : Option (Nat × va_E)) ∧ u[19]? = (some (q 19, .inl (g 0, (220 : Int32).toNatClampNeg, .inl u7_0)) : Option (Nat × va_E)) ∧ u[22]? = (some (q 22, .inr (2, [.ref (q 23), .int u8_0, .int u8_1])) : Option (Nat × va_E)) ∧ u[23]? = (some (q 23, .inl (g 0, (220 : Int32).toNatClampNeg, .inl u9_0)) : Option (Nat × va_E)) ∧ u[24]? = (some (q 24, .inr (2, [.ref (q 25), .int u10_0, .int u10_1])) : Option (Nat × va_E)) ∧ u[25]? = (some (q 25, .inl (g 0, (220 : Int32).toNatClampNeg, .inl u11_0)) : Option (Nat × va_E)) ∧ u[26]? = (some (q 26, .inr (2, [.ref (q 27), .int u12_0, .int u12_1])) : Option (Nat × va_E)) ∧ u[27]? = (some (q 27, .inl (g 0, (220 : Int32).toNatClampNeg, .inl u13_0)) : Option (Nat × va_E)) ∧ u[28]? = (some (q 28, .inr (2, [.ref (q 29), .int u14_0, .int u14_1])) : Option (Nat × va_E)) ∧ u[29]? = (some (q 29, .inl (g 0, (220 : Int32).toNatClampNeg, .inl u15_0)) : Option (Nat × va_E)) ∧ u[k4]? = (some (q k4, .inr (2, [.ref (q (k4 + 1)), .int u20_0, .int u20_1])) : Option (Nat × va_E)) ∧ u[k4 + 1]? = (some (q (k4 + 1), .inl (g 0, (68 : Int32).toNatClampNeg, .inl u21_0)) : Option (Nat × va_E)) ∧ u[k5]? = (some (q k5, .inr (2, [.ref (q (k5 + 1)), .int u22_0, .int u22_1])) : Option (Nat × va_E)) ∧ u[k5 + 1]? = (some (q (k5 + 1), .inl (g 0, (68 : Int32).toNatClampNeg, .inl u23_0)) : Option (Nat × va_E)) ∧ (0 ≤ u0_0.toInt) ∧ (u0_0.toInt ≤ 220) ∧ (0 ≤ u0_1.toInt) ∧ (u0_1.toInt ≤ 1) ∧ (0 ≤ u2_0.toInt) ∧ (u2_0.toInt ≤ 220) ∧ (0 ≤ u2_1.toInt) ∧ (u2_1.toInt ≤ 0) ∧ (0 ≤ u4_0.toInt) ∧ (u4_0.toInt ≤ 220) ∧ (0 ≤ u4_1.toInt) ∧ (u4_1.toInt ≤ 1) ∧ (0 ≤ u6_0.toInt) ∧ (u6_0.toInt ≤ 220) ∧ (0 ≤ u6_1.toInt) ∧ (u6_1.toInt ≤ 1) ∧ (0 ≤ u8_0.toInt) ∧ (u8_0.toInt ≤ 220) ∧ (0 ≤ u8_1.toInt) ∧ (u8_1.toInt ≤ 1) ∧ (0 ≤ u10_0.toInt) ∧ (u10_0.toInt ≤ 220) ∧ (0 ≤ u10_1.toInt) ∧ (u10_1.toInt ≤ 2) ∧ (0 ≤ u12_0.toInt) ∧ (u12_0.toInt ≤ 220) ∧ (0 ≤ u12_1.toInt) ∧ (u12_1.toInt ≤ 1) ∧ (0 ≤ u14_0.toInt) ∧ (u14_0.toInt ≤ 220) ∧ (0 ≤ u14_1.toInt) ∧ (u14_1.toInt ≤ 1) ∧ (0 ≤ u20_0.toInt) ∧ (u20_0.toInt ≤ 220) ∧ (0 ≤ u20_1.toInt) ∧ (u20_1.toInt ≤ 1) ∧ (0 ≤ u22_0.toInt) ∧ (u22_0.toInt ≤ 68) ∧ (x2.toInt ≤ u2_1.toInt + 9) ∧ (u2_1.toInt ≤ x2.toInt) ∧ (x3.toInt ≤ u2_1.toInt + 9) ∧ (u2_1.toInt ≤ x3.toInt) ∧ (x4.toInt ≤ u2_1.toInt + 9) ∧ (u2_1.toInt ≤ x4.toInt) ∧ (u10_1.toInt ≤ t18_1.toInt + 1) ∧ (u10_1.toInt ≤ t20_0.toInt + 1) ∧ (u10_1.toInt ≤ t20_1.toInt + 1) ∧ (u20_1.toInt ≤ t20_1.toInt) ∧ (x5.toInt ≤ u22_0.toInt + 9) ∧ (u22_0.toInt ≤ x5.toInt + 68) ∧ (x5.toInt ≤ u22_1.toInt + 9) ∧ (u22_1.toInt ≤ x5.toInt + 1) ∧ (u0_0.toInt ≤ u4_0.toInt) ∧ (u22_0.toInt ≤ u0_0.toInt) ∧ (u22_1.toInt ≤ u0_1.toInt) ∧ (u0_1.toInt ≤ u22_1.toInt) ∧ (u22_1.toInt ≤ u4_1.toInt) ∧ (u4_1.toInt ≤ u22_1.toInt) ∧ ((0 : Int32), u0_0, u0_1, u1_0, u2_0, u2_1, u3_0, u4_0, u4_1, u5_0, u6_0, u6_1, u7_0, u8_0, u8_1, u9_0, u10_0, u10_1, u11_0, u12_0, u12_1, u13_0, u14_0, u14_1, u15_0, u20_0, u20_1, u21_0, u22_0, u22_1, u23_0) = (F_NH_powerModulo x2 x3 x4 x5 t0_0 t0_1 t1_0 t2_0 t2_1 t3_0 t4_0 t4_1 t5_0 t6_0 t6_1 t7_0 t8_0 t8_1 t9_0 t10_0 t10_1 t11_0 t12_0 t12_1 t13_0 t14_0 t14_1 t15_0 t16_0 t16_1 t17_0 t18_0 t18_1 t19_0 t20_0 t20_1 t21_0 t22_0 t22_1 t23_0)) (q_B D g (va_A ws sz)) (va_A ws sz)) (fun E u => ∃ c : Int32, E = qE c ∧ c ≠ 0 ∧ q_I (nsh g q) q u ∧ q_un ws u [10, 11, 12, 13, 14, 15, 18, 19, 22, 23, 24, 25, 26, 27, 28, 29, k4, k4 + 1, k5, k5 + 1] ∧ ∃ (u0_0 : Int32) (u0_1 : Int32) (u1_0 : (Nat → Int32)) (u2_0 : Int32) (u2_1 : Int32) (u3_0 : (Nat → Int32)) (u4_0 : Int32) (u4_1 : Int32) (u5_0 : (Nat → Int32)) (u6_0 : Int32) (u6_1 : Int32) (u7_0 : (Nat → Int32)) (u8_0 : Int32) (u8_1 : Int32) (u9_0 : (Nat → Int32)) (u10_0 : Int32) (u10_1 : Int32) (u11_0 : (Nat → Int32)) (u12_0 : Int32) (u12_1 : Int32) (u13_0 : (Nat → Int32)) (u14_0 : Int32) (u14_1 : Int32) (u15_0 : (Nat → Int32)) (u20_0 : Int32) (u20_1 : Int32) (u21_0 : (Nat → Int32)) (u22_0 : Int32) (u22_1 : Int32) (u23_0 : (Nat → Int32)), u[10]? = (some (q 10, .inr (2, [.ref (q 11), .int u0_0, .int u0_1])) : Option (Nat × va_E)) ∧ u[11]? = (some (q 11, .inl (g 0, (220 : Int32).toNatClampNeg, .inl u1_0)) : Option (Nat × va_E)) ∧ u[12]? = (some (q 12, .inr (2, [.ref (q 13), .int u2_0, .int u2_1])) : Option (Nat × va_E)) ∧ u[13]? = (some (q 13, .inl (g 0, (220 : Int32).toNatClampNeg, .inl u3_0)) : Option (Nat × va_E)) ∧ u[14]? = (some (q 14, .inr (2, [.ref (q 15), .int u4_0, .int u4_1])) : Option (Nat × va_E)) ∧ u[15]? = (some (q 15, .inl (g 0, (220 : Int32).toNatClampNeg, .inl u5_0)) : Option (Nat × va_E)) ∧ u[18]? = (some (q 18, .inr (2, [.ref (q 19), .int u6_0, .int u6_1])) : Option (Nat × va_E)) ∧ u[19]? = (some (q 19, .inl (g 0, (220 : Int32).toNatClampNeg, .inl u7_0)) : Option (Nat × va_E)) ∧ u[22]? = (some (q 22, .inr (2, [.ref (q 23), .int u8_0, .int u8_1])) : Option (Nat × va_E)) ∧ u[23]? = (some (q 23, .inl (g 0, (220 : Int32).toNatClampNeg, .inl u9_0)) : Option (Nat × va_E)) ∧ u[24]? = (some (q 24, .inr (2, [.ref (q 25), .int u10_0, .int u10_1])) : Option (Nat × va_E)) ∧ u[25]? = (some (q 25, .inl (g 0, (220 : Int32).toNatClampNeg, .inl u11_0)) : Option (Nat × va_E)) ∧ u[26]? = (some (q 26, .inr (2, [.ref (q 27), .int u12_0, .int u12_1])) : Option (Nat × va_E)) ∧ u[27]? = (some (q 27, .inl (g 0, (220 : Int32).toNatClampNeg, .inl u13_0)) : Option (Nat × va_E)) ∧ u[28]? = (some (q 28, .inr (2, [.ref (q 29), .int u14_0, .int u14_1])) : Option (Nat × va_E)) ∧ u[29]? = (some (q 29, .inl (g 0, (220 : Int32).toNatClampNeg, .inl u15_0)) : Option (Nat × va_E)) ∧ u[k4]? = (some (q k4, .inr (2, [.ref (q (k4 + 1)), .int u20_0, .int u20_1])) : Option (Nat × va_E)) ∧ u[k4 + 1]? = (some (q (k4 + 1), .inl (g 0, (68 : Int32).toNatClampNeg, .inl u21_0)) : Option (Nat × va_E)) ∧ u[k5]? = (some (q k5, .inr (2, [.ref (q (k5 + 1)), .int u22_0, .int u22_1])) : Option (Nat × va_E)) ∧ u[k5 + 1]? = (some (q (k5 + 1), .inl (g 0, (68 : Int32).toNatClampNeg, .inl u23_0)) : Option (Nat × va_E)) ∧ (c, u0_0, u0_1, u1_0, u2_0, u2_1, u3_0, u4_0, u4_1, u5_0, u6_0, u6_1, u7_0, u8_0, u8_1, u9_0, u10_0, u10_1, u11_0, u12_0, u12_1, u13_0, u14_0, u14_1, u15_0, u20_0, u20_1, u21_0, u22_0, u22_1, u23_0) = (F_NH_powerModulo x2 x3 x4 x5 t0_0 t0_1 t1_0 t2_0 t2_1 t3_0 t4_0 t4_1 t5_0 t6_0 t6_1 t7_0 t8_0 t8_1 t9_0 t10_0 t10_1 t11_0 t12_0 t12_1 t13_0 t14_0 t14_1 t15_0 t16_0 t16_1 t17_0 t18_0 t18_1 t19_0 t20_0 t20_1 t21_0 t22_0 t22_1 t23_0)) := by
  intro sz
  refine q_intoX (by decide) (Nat.le_of_ble_eq_true rfl) ?_
  intro p e s m below meth c ls hsz C0 V hno hl
  have hx := C0.1
  have hb := C0.2.1
  have btt0_1 := (q_bigW hI (n_b10 g q) hT0).2
  clear btt0_1
  have btt2_1 := (q_bigW hI (n_b12 g q) hT2).2
  clear btt2_1
  have btt4_1 := (q_bigW hI (n_b14 g q) hT4).2
  clear btt4_1
  have btt6_1 := (q_bigW hI (n_b18 g q) hT6).2
  clear btt6_1
  obtain ⟨btt8_0, btt8_1⟩ := q_bigW hI (n_b22 g q) hT8
  replace btt8_0 : q_F (0 ≤ t8_0.toInt ∧ t8_0.toInt ≤ 220) := btt8_0
  replace btt8_1 : q_F (0 ≤ t8_1.toInt ∧ t8_1.toInt ≤ 1) := btt8_1
  obtain ⟨btt10_0, btt10_1⟩ := q_bigW hI (n_b24 g q) hT10
  replace btt10_0 : q_F (0 ≤ t10_0.toInt ∧ t10_0.toInt ≤ 220) := btt10_0
  replace btt10_1 : q_F (0 ≤ t10_1.toInt ∧ t10_1.toInt ≤ 1) := btt10_1
  obtain ⟨btt12_0, btt12_1⟩ := q_bigW hI (n_b26 g q) hT12
  replace btt12_0 : q_F (0 ≤ t12_0.toInt ∧ t12_0.toInt ≤ 220) := btt12_0
  replace btt12_1 : q_F (0 ≤ t12_1.toInt ∧ t12_1.toInt ≤ 1) := btt12_1
  obtain ⟨btt14_0, btt14_1⟩ := q_bigW hI (n_b28 g q) hT14
  replace btt14_0 : q_F (0 ≤ t14_0.toInt ∧ t14_0.toInt ≤ 220) := btt14_0
  replace btt14_1 : q_F (0 ≤ t14_1.toInt ∧ t14_1.toInt ≤ 1) := btt14_1
  have btt16_1 := (q_bigW hI hBk2 hT16).2
  clear btt16_1
  have btt18_1 := (q_bigW hI hBk3 hT18).2
  replace btt18_1 : q_F (0 ≤ t18_1.toInt ∧ t18_1.toInt ≤ 1) := btt18_1
  obtain ⟨btt20_0, btt20_1⟩ := q_bigW hI hBk4 hT20
  replace btt20_0 : q_F (0 ≤ t20_0.toInt ∧ t20_0.toInt ≤ 68) := btt20_0
  replace btt20_1 : q_F (0 ≤ t20_1.toInt ∧ t20_1.toInt ≤ 1) := btt20_1
  have btt22_1 := (q_bigW hI hBk5 hT22).2
  clear btt22_1
  have hF : q_un ws ws [10, 11, 12, 13, 14, 15, 18, 19, 22, 23, 24, 25, 26, 27, 28, 29, k4, k4 + 1, k5, k5 + 1] := q_u0
  have hl : lv_has ls 5 [(0, .ref (q 0)), (1, .int x2), (2, .int x3), (3, .int x4), (4, .int x5)] := hl
  refine lv_iload_n hx hb d_1_10_0 rfl (lv_at hl 1 rfl) ?_
  refine q_goi V (q_runS (As := [.int x2]) (rest := []) (d := 1) (mc := 0) (ms := 0) C0 V rfl LS_NH_212 (X_NH_isRegister l D g q ws  x2 hI   _) rfl hl.1 rfl (Nat.le_of_ble_eq_true rfl) ⟨by decide, by decide⟩ ⟨Nat.le_of_ble_eq_true rfl, Nat.le_of_ble_eq_true rfl⟩ d_1_10_1) (fun a99 u97 H locs hp98 V => ?_)
  obtain ⟨rfl, b100, b101, hE102⟩ := hp98
  have e103 : a99 = (F_NH_isRegister x2) := hE102
  clear b100
  clear b101
  refine q_join (X := Int32) (fun z H locs ls _ => q_F (0 ≤ z.toInt) ∧ q_F (z.toInt ≤ 1) ∧ q_Wd D g (va_A ws sz) s ws H locs ∧ lv_has ls 5 [(0, .ref (q 0)), (1, .int x2), (2, .int x3), (3, .int x4), (4, .int x5)] ∧ F_NH_powerModulo_J34 x2 x3 x4 x5 t0_0 t0_1 t1_0 t2_0 t2_1 t3_0 t4_0 t4_1 t5_0 t6_0 t6_1 t7_0 t8_0 t8_1 t9_0 t10_0 t10_1 t11_0 t12_0 t12_1 t13_0 t14_0 t14_1 t15_0 t16_0 t16_1 t17_0 t18_0 t18_1 t19_0 t20_0 t20_1 t21_0 t22_0 t22_1 t23_0 z = (F_NH_powerModulo x2 x3 x4 x5 t0_0 t0_1 t1_0 t2_0 t2_1 t3_0 t4_0 t4_1 t5_0 t6_0 t6_1 t7_0 t8_0 t8_1 t9_0 t10_0 t10_1 t11_0 t12_0 t12_1 t13_0 t14_0 t14_1 t15_0 t16_0 t16_1 t17_0 t18_0 t18_1 t19_0 t20_0 t20_1 t21_0 t22_0 t22_1 t23_0) ∧ True ∧ S_NH_powerModulo_J34 x2 x3 x4 x5 t0_0 t0_1 t1_0 t2_0 t2_1 t3_0 t4_0 t4_1 t5_0 t6_0 t6_1 t7_0 t8_0 t8_1 t9_0 t10_0 t10_1 t11_0 t12_0 t12_1 t13_0 t14_0 t14_1 t15_0 t16_0 t16_1 t17_0 t18_0 t18_1 t19_0 t20_0 t20_1 t21_0 t22_0 t22_1 t23_0 z) (fun z => [.int z]) 34 0 0 ?_ ?_
  ·
    rintro lx104 H locs ls _ hZ9
    obtain ⟨i130, hZ9⟩ := hZ9
    obtain ⟨i131, hZ9⟩ := hZ9
    obtain ⟨V, hZ9⟩ := hZ9
    obtain ⟨hl, hZ9⟩ := hZ9
    obtain ⟨hR132, hS133⟩ := hZ9
    replace i130 : q_F (0 ≤ lx104.toInt) := i130
    replace i131 : q_F (lx104.toInt ≤ 1) := i131
    replace hl : lv_has ls 5 [(0, .ref (q 0)), (1, .int x2), (2, .int x3), (3, .int x4), (4, .int x5)] := hl
    refine q_goxv V (q_runSX (As := [.int lx104]) (rest := []) (d := 7) (mc := 1) (ms := 6) C0 V rfl LS_NH_104 (X_NH_need l D g q ws  lx104 hlt hI  ⟨(by first | with_reducible exact q_fe i130 | (have t1 : 0 ≤ lx104.toInt := i130; omega)), (by first | with_reducible exact q_fe i131 | (have t1 : lx104.toInt ≤ 1 := i131; omega))⟩ _) rfl hl.1 rfl (Nat.le_of_ble_eq_true rfl) ⟨by decide, by decide⟩ ⟨Nat.le_of_ble_eq_true rfl, Nat.le_of_ble_eq_true rfl⟩ d_1_10_34) (fun qx Ex ce u137 H locs hp138 V hce hcv hcl => ?_) (fun u137 H locs hp138 V => ?_)
    ·
      obtain ⟨cx140, he141, hc142, rfl, hE139⟩ := hp138
      have c143 : ¬ (F_NH_need lx104) = (0 : Int32) := fun z => hc142 (((hE139) : cx140 = _).trans z)
      exact q_outT hno C0 V (⟨(F_NH_need lx104), (he141.trans (congrArg qE ((hE139) : cx140 = _))), c143, hI, hF, t0_0, t0_1, t1_0, t2_0, t2_1, t3_0, t4_0, t4_1, t5_0, t6_0, t6_1, t7_0, t8_0, t8_1, t9_0, t10_0, t10_1, t11_0, t12_0, t12_1, t13_0, t14_0, t14_1, t15_0, t20_0, t20_1, t21_0, t22_0, t22_1, t23_0, hT0, hT1, hT2, hT3, hT4, hT5, hT6, hT7, hT8, hT9, hT10, hT11, hT12, hT13, hT14, hT15, hT20, hT21, hT22, hT23, (show ((F_NH_need lx104), t0_0, t0_1, t1_0, t2_0, t2_1, t3_0, t4_0, t4_1, t5_0, t6_0, t6_1, t7_0, t8_0, t8_1, t9_0, t10_0, t10_1, t11_0, t12_0, t12_1, t13_0, t14_0, t14_1, t15_0, t20_0, t20_1, t21_0, t22_0, t22_1, t23_0) = (F_NH_powerModulo x2 x3 x4 x5 t0_0 t0_1 t1_0 t2_0 t2_1 t3_0 t4_0 t4_1 t5_0 t6_0 t6_1 t7_0 t8_0 t8_1 t9_0 t10_0 t10_1 t11_0 t12_0 t12_1 t13_0 t14_0 t14_1 t15_0 t16_0 t16_1 t17_0 t18_0 t18_1 t19_0 t20_0 t20_1 t21_0 t22_0 t22_1 t23_0) from Eq.trans (by rw [F_NH_powerModulo_J34.eq_1, if_neg c143]) hR132)⟩) hce hcv hcl (Nat.le_of_ble_eq_true rfl) (Nat.le_of_ble_eq_true rfl)
    ·
      obtain ⟨rfl, hE144⟩ := hp138
      have c143 : (F_NH_need lx104) = (0 : Int32) := ((hE144) : (0 : Int32) = _).symm
      refine lv_aload_n hx hb d_1_10_37 rfl (lv_at hl 0 rfl) ?_
      have hO146 := n_o0 hI
      refine q_get (ci := 0) (j := 2) (v := .ref (q 5)) C0 V i_NH rfl rfl hO146 (by decide) w_426 rfl d_1_10_38 ?_
      refine lv_iload_n hx hb d_1_10_41 rfl (lv_at hl 3 rfl) ?_
      have hX147 := n_fx hI (n_s5 g q)
      have ob148 : q_F (0 ≤ x4.toInt) := (by have h := hS133; rw [S_NH_powerModulo_J34.eq_1] at h; rw [if_pos c143] at h; exact h.2.1)
      have ob149 : q_F (x4.toInt ≤ 9) := (by have h := hS133; rw [S_NH_powerModulo_J34.eq_1] at h; rw [if_pos c143] at h; replace h := q_s2 h; exact h.2.1)
      have hj150 : x4.toNatClampNeg < 10 := by have z := q_clI (i := x4) (x := x4.toInt) rfl (by first | with_reducible exact q_fe ob148 | (have t1 : 0 ≤ x4.toInt := ob148; omega)); have t1 : 0 ≤ x4.toInt := ob148; have t2 : x4.toInt ≤ 9 := ob149; omega
      have hq151 := gk4x4 hj150
      refine q_aald (t := 4) (q := q k4) C0 V hX147 rfl (q_ix (x := x4.toInt) rfl (by first | with_reducible exact q_fe ob148 | (have t1 : 0 ≤ x4.toInt := ob148; omega)) (by have t1 : 0 ≤ x4.toInt := ob148; have t2 : x4.toInt ≤ 9 := ob149; omega)) (by rw [hq151]; exact n_fwv hj150) d_1_10_42 ?_
      refine q_goi V (q_runV (As := []) (rest := []) (d := 1) (mc := 0) (ms := 0) (ci := 2) C0 V rfl LV_NH_225 (X_Big_sign l D g q ws k4 68 hBk4 (Or.inr yk4)  hI t20_0 t20_1 hT20  _) rfl rfl hT20 rfl hl.1 rfl (Nat.le_of_ble_eq_true rfl) ⟨by decide, by decide⟩ ⟨Nat.le_of_ble_eq_true rfl, Nat.le_of_ble_eq_true rfl⟩ d_1_10_43) (fun a154 u152 H locs hp153 V => ?_)
      obtain ⟨rfl, b155, b156, b157, hE158⟩ := hp153
      have e159 : a154 = (F_Big_sign (68 : Int32) t20_0 t20_1) := hE158
      clear b155
      clear b156
      clear b157
      refine q_join (X := Int32) (fun z H locs ls _ => q_F (0 ≤ z.toInt) ∧ q_F (z.toInt ≤ 1) ∧ q_Wd D g (va_A ws sz) s ws H locs ∧ lv_has ls 5 [(0, .ref (q 0)), (1, .int x2), (2, .int x3), (3, .int x4), (4, .int x5)] ∧ F_NH_powerModulo_J54 x2 x3 x4 x5 t0_0 t0_1 t1_0 t2_0 t2_1 t3_0 t4_0 t4_1 t5_0 t6_0 t6_1 t7_0 t8_0 t8_1 t9_0 t10_0 t10_1 t11_0 t12_0 t12_1 t13_0 t14_0 t14_1 t15_0 t16_0 t16_1 t17_0 t18_0 t18_1 t19_0 t20_0 t20_1 t21_0 t22_0 t22_1 t23_0 lx104 z = (F_NH_powerModulo x2 x3 x4 x5 t0_0 t0_1 t1_0 t2_0 t2_1 t3_0 t4_0 t4_1 t5_0 t6_0 t6_1 t7_0 t8_0 t8_1 t9_0 t10_0 t10_1 t11_0 t12_0 t12_1 t13_0 t14_0 t14_1 t15_0 t16_0 t16_1 t17_0 t18_0 t18_1 t19_0 t20_0 t20_1 t21_0 t22_0 t22_1 t23_0) ∧ True ∧ S_NH_powerModulo_J54 x2 x3 x4 x5 t0_0 t0_1 t1_0 t2_0 t2_1 t3_0 t4_0 t4_1 t5_0 t6_0 t6_1 t7_0 t8_0 t8_1 t9_0 t10_0 t10_1 t11_0 t12_0 t12_1 t13_0 t14_0 t14_1 t15_0 t16_0 t16_1 t17_0 t18_0 t18_1 t19_0 t20_0 t20_1 t21_0 t22_0 t22_1 t23_0 lx104 z) (fun z => [.int z]) 54 1 6 ?_ ?_
      ·
        rintro lx160 H locs ls _ hZ9
        obtain ⟨i186, hZ9⟩ := hZ9
        obtain ⟨i187, hZ9⟩ := hZ9
        obtain ⟨V, hZ9⟩ := hZ9
        obtain ⟨hl, hZ9⟩ := hZ9
        obtain ⟨hR188, hS189⟩ := hZ9
        replace i186 : q_F (0 ≤ lx160.toInt) := i186
        replace i187 : q_F (lx160.toInt ≤ 1) := i187
        replace hl : lv_has ls 5 [(0, .ref (q 0)), (1, .int x2), (2, .int x3), (3, .int x4), (4, .int x5)] := hl
        refine q_goxv V (q_runSX (As := [.int lx160]) (rest := []) (d := 7) (mc := 1) (ms := 6) C0 V rfl LS_NH_138 (X_NH_canHave l D g q ws  lx160 hlt hI  ⟨(by first | with_reducible exact q_fe i186 | (have t1 : 0 ≤ lx160.toInt := i186; omega)), (by first | with_reducible exact q_fe i187 | (have t1 : lx160.toInt ≤ 1 := i187; omega))⟩ _) rfl hl.1 rfl (Nat.le_of_ble_eq_true rfl) ⟨by decide, by decide⟩ ⟨Nat.le_of_ble_eq_true rfl, Nat.le_of_ble_eq_true rfl⟩ d_1_10_54) (fun qx Ex ce u193 H locs hp194 V hce hcv hcl => ?_) (fun u193 H locs hp194 V => ?_)
        ·
          obtain ⟨cx196, he197, hc198, rfl, hE195⟩ := hp194
          have c199 : ¬ (F_NH_canHave lx160) = (0 : Int32) := fun z => hc198 (((hE195) : cx196 = _).trans z)
          exact q_outT hno C0 V (⟨(F_NH_canHave lx160), (he197.trans (congrArg qE ((hE195) : cx196 = _))), c199, hI, hF, t0_0, t0_1, t1_0, t2_0, t2_1, t3_0, t4_0, t4_1, t5_0, t6_0, t6_1, t7_0, t8_0, t8_1, t9_0, t10_0, t10_1, t11_0, t12_0, t12_1, t13_0, t14_0, t14_1, t15_0, t20_0, t20_1, t21_0, t22_0, t22_1, t23_0, hT0, hT1, hT2, hT3, hT4, hT5, hT6, hT7, hT8, hT9, hT10, hT11, hT12, hT13, hT14, hT15, hT20, hT21, hT22, hT23, (show ((F_NH_canHave lx160), t0_0, t0_1, t1_0, t2_0, t2_1, t3_0, t4_0, t4_1, t5_0, t6_0, t6_1, t7_0, t8_0, t8_1, t9_0, t10_0, t10_1, t11_0, t12_0, t12_1, t13_0, t14_0, t14_1, t15_0, t20_0, t20_1, t21_0, t22_0, t22_1, t23_0) = (F_NH_powerModulo x2 x3 x4 x5 t0_0 t0_1 t1_0 t2_0 t2_1 t3_0 t4_0 t4_1 t5_0 t6_0 t6_1 t7_0 t8_0 t8_1 t9_0 t10_0 t10_1 t11_0 t12_0 t12_1 t13_0 t14_0 t14_1 t15_0 t16_0 t16_1 t17_0 t18_0 t18_1 t19_0 t20_0 t20_1 t21_0 t22_0 t22_1 t23_0) from Eq.trans (by rw [F_NH_powerModulo_J54.eq_1, if_neg c199]) hR188)⟩) hce hcv hcl (Nat.le_of_ble_eq_true rfl) (Nat.le_of_ble_eq_true rfl)
        ·
          obtain ⟨rfl, hE200⟩ := hp194
          have c199 : (F_NH_canHave lx160) = (0 : Int32) := ((hE200) : (0 : Int32) = _).symm
          refine lv_aload_n hx hb d_1_10_57 rfl (lv_at hl 0 rfl) ?_
          refine q_get (ci := 0) (j := 2) (v := .ref (q 5)) C0 V i_NH rfl rfl hO146 (by decide) w_426 rfl d_1_10_58 ?_
          refine lv_iload_n hx hb d_1_10_61 rfl (lv_at hl 2 rfl) ?_
          have hX202 := n_fx hI (n_s5 g q)
          have ob203 : q_F (0 ≤ x3.toInt) := (by have h := hS189; rw [S_NH_powerModulo_J54.eq_1] at h; rw [if_pos c199] at h; exact h.2.1)
          have ob204 : q_F (x3.toInt ≤ 9) := (by have h := hS189; rw [S_NH_powerModulo_J54.eq_1] at h; rw [if_pos c199] at h; replace h := q_s2 h; exact h.2.1)
          have hj205 : x3.toNatClampNeg < 10 := by have z := q_clI (i := x3) (x := x3.toInt) rfl (by first | with_reducible exact q_fe ob203 | (have t1 : 0 ≤ x3.toInt := ob203; omega)); have t1 : 0 ≤ x3.toInt := ob203; have t2 : x3.toInt ≤ 9 := ob204; omega
          have hq206 := gk3x3 hj205
          refine q_aald (t := 4) (q := q k3) C0 V hX202 rfl (q_ix (x := x3.toInt) rfl (by first | with_reducible exact q_fe ob203 | (have t1 : 0 ≤ x3.toInt := ob203; omega)) (by have t1 : 0 ≤ x3.toInt := ob203; have t2 : x3.toInt ≤ 9 := ob204; omega)) (by rw [hq206]; exact n_fwv hj205) d_1_10_62 ?_
          refine q_get (ci := 2) (j := 2) (v := .int t18_1) C0 V i_Big rfl rfl hT18 (by decide) w_98 rfl d_1_10_63 ?_
          refine lv_if_eq (tgt := 94) hx hb d_1_10_66 (by decide) (fun c207 => ?_) (fun c207 => ?_)
          ·
            refine lv_aload_n hx hb d_1_10_94 rfl (lv_at hl 0 rfl) ?_
            refine q_get (ci := 0) (j := 6) (v := .ref (q 9)) C0 V i_NH rfl rfl hO146 (by decide) w_430 rfl d_1_10_95 ?_
            refine lv_aload_n hx hb d_1_10_98 rfl (lv_at hl 0 rfl) ?_
            refine q_get (ci := 0) (j := 2) (v := .ref (q 5)) C0 V i_NH rfl rfl hO146 (by decide) w_426 rfl d_1_10_99 ?_
            refine lv_iload_n hx hb d_1_10_102 rfl (lv_at hl 1 rfl) ?_
            have hX209 := n_fx hI (n_s5 g q)
            have ob210 : q_F (0 ≤ x2.toInt) := (by have h := hS189; rw [S_NH_powerModulo_J54.eq_1] at h; rw [if_pos c199] at h; replace h := q_s2 h; replace h := q_s2 h; rw [if_pos c207] at h; exact h.2.1)
            have ob211 : q_F (x2.toInt ≤ 9) := (by have h := hS189; rw [S_NH_powerModulo_J54.eq_1] at h; rw [if_pos c199] at h; replace h := q_s2 h; replace h := q_s2 h; rw [if_pos c207] at h; replace h := q_s2 h; exact h.2.1)
            have hj212 : x2.toNatClampNeg < 10 := by have z := q_clI (i := x2) (x := x2.toInt) rfl (by first | with_reducible exact q_fe ob210 | (have t1 : 0 ≤ x2.toInt := ob210; omega)); have t1 : 0 ≤ x2.toInt := ob210; have t2 : x2.toInt ≤ 9 := ob211; omega
            have hq213 := gk2x2 hj212
            refine q_aald (t := 4) (q := q k2) C0 V hX209 rfl (q_ix (x := x2.toInt) rfl (by first | with_reducible exact q_fe ob210 | (have t1 : 0 ≤ x2.toInt := ob210; omega)) (by have t1 : 0 ≤ x2.toInt := ob210; have t2 : x2.toInt ≤ 9 := ob211; omega)) (by rw [hq213]; exact n_fwv hj212) d_1_10_103 ?_
            refine lv_aload_n hx hb d_1_10_104 rfl (lv_at hl 0 rfl) ?_
            refine q_get (ci := 0) (j := 2) (v := .ref (q 5)) C0 V i_NH rfl rfl hO146 (by decide) w_426 rfl d_1_10_105 ?_
            refine lv_iload_n hx hb d_1_10_108 rfl (lv_at hl 3 rfl) ?_
            have hX214 := n_fx hI (n_s5 g q)
            have hj215 : x4.toNatClampNeg < 10 := by have z := q_clI (i := x4) (x := x4.toInt) rfl (by first | with_reducible exact q_fe ob148 | (have t1 : 0 ≤ x4.toInt := ob148; omega)); have t1 : 0 ≤ x4.toInt := ob148; have t2 : x4.toInt ≤ 9 := ob149; omega
            have hq216 := gk4x4 hj215
            refine q_aald (t := 4) (q := q k4) C0 V hX214 rfl (q_ix (x := x4.toInt) rfl (by first | with_reducible exact q_fe ob148 | (have t1 : 0 ≤ x4.toInt := ob148; omega)) (by have t1 : 0 ≤ x4.toInt := ob148; have t2 : x4.toInt ≤ 9 := ob149; omega)) (by rw [hq216]; exact n_fwv hj215) d_1_10_109 ?_
            refine lv_aload_n hx hb d_1_10_110 rfl (lv_at hl 0 rfl) ?_
            refine q_get (ci := 0) (j := 6) (v := .ref (q 9)) C0 V i_NH rfl rfl hO146 (by decide) w_430 rfl d_1_10_111 ?_
            have hO217 := n_o9 hI
            refine q_get (ci := 4) (j := 0) (v := .ref (q 10)) C0 V i_Mil rfl rfl hO217 (by decide) w_112 rfl d_1_10_114 ?_
            have ob218 : True ∧ S_Mil_modulo (68 : Int32) (68 : Int32) (220 : Int32) t2_0 t2_1 t3_0 t16_0 t16_1 t17_0 t20_0 t20_1 t21_0 t0_0 t0_1 t1_0 := (by have h := hS189; rw [S_NH_powerModulo_J54.eq_1] at h; rw [if_pos c199] at h; replace h := q_s2 h; replace h := q_s2 h; rw [if_pos c207] at h; replace h := q_s2 h; replace h := q_s2 h; with_reducible exact h.2.1)
            refine q_gov V (q_runV (As := [.ref (q k2), .ref (q k4), .ref (q 10)]) (rest := []) (d := 5) (mc := 0) (ms := 0) (ci := 4) C0 V rfl LV_NH_228 (X_Mil_modulo l D g q ws k2 68 hBk2 (Or.inr yk2) k4 68 hBk4 (Or.inr yk4) 10 220 (n_b10 g q) (by decide)  (by have z0 := yk2; omega) (by have z0 := yk2; omega) (by have z0 := yk2; omega) (by have z0 := yk4; omega) (by have z0 := yk4; omega) (by have z0 := yk4; omega) (by decide) (by decide) (by decide) (by have z0 := yk2; omega) (by have z0 := yk4; omega) (by have z := ne_k2_k4; omega) hI t2_0 t2_1 hT2 t3_0 hT3 t16_0 t16_1 hT16 t17_0 hT17 t20_0 t20_1 hT20 t21_0 hT21 t0_0 t0_1 hT0 t1_0 hT1 ob218 _) rfl rfl hO217 rfl hl.1 rfl (Nat.le_of_ble_eq_true rfl) ⟨by decide, by decide⟩ ⟨Nat.le_of_ble_eq_true rfl, Nat.le_of_ble_eq_true rfl⟩ d_1_10_117) (fun u219 H locs hp220 V => ?_)
            obtain ⟨hI, hZ9⟩ := hp220
            obtain ⟨hu252, hZ9⟩ := hZ9
            obtain ⟨y222, hZ9⟩ := hZ9
            obtain ⟨y223, hZ9⟩ := hZ9
            obtain ⟨f224, hZ9⟩ := hZ9
            obtain ⟨y227, hZ9⟩ := hZ9
            obtain ⟨y228, hZ9⟩ := hZ9
            obtain ⟨f229, hZ9⟩ := hZ9
            obtain ⟨y232, hZ9⟩ := hZ9
            obtain ⟨y233, hZ9⟩ := hZ9
            obtain ⟨f234, hZ9⟩ := hZ9
            obtain ⟨hO221, hZ9⟩ := hZ9
            obtain ⟨hA225, hZ9⟩ := hZ9
            obtain ⟨hO226, hZ9⟩ := hZ9
            obtain ⟨hA230, hZ9⟩ := hZ9
            obtain ⟨hO231, hZ9⟩ := hZ9
            obtain ⟨hA235, hZ9⟩ := hZ9
            replace hZ9 := hZ9.2.2.2.2.2.2
            obtain ⟨b242, hZ9⟩ := hZ9
            replace hZ9 := hZ9.2.2.2.2.2.2.2
            obtain ⟨-, hE251⟩ := hZ9
            replace hO221 : u219[12]? = (some (q 12, .inr (2, [.ref (q 13), .int y222, .int y223])) : Option (Nat × va_E)) := hO221
            replace hA225 : u219[13]? = (some (q 13, .inl (g 0, (220 : Int32).toNatClampNeg, .inl f224)) : Option (Nat × va_E)) := hA225
            replace hO226 : u219[k4]? = (some (q k4, .inr (2, [.ref (q (k4 + 1)), .int y227, .int y228])) : Option (Nat × va_E)) := hO226
            replace hA230 : u219[k4 + 1]? = (some (q (k4 + 1), .inl (g 0, (68 : Int32).toNatClampNeg, .inl f229)) : Option (Nat × va_E)) := hA230
            replace hO231 : u219[10]? = (some (q 10, .inr (2, [.ref (q 11), .int y232, .int y233])) : Option (Nat × va_E)) := hO231
            replace hA235 : u219[11]? = (some (q 11, .inl (g 0, (220 : Int32).toNatClampNeg, .inl f234)) : Option (Nat × va_E)) := hA235
            obtain ⟨p253, e254⟩ : ∃ z, z = (F_Mil_modulo (68 : Int32) (68 : Int32) (220 : Int32) t2_0 t2_1 t3_0 t16_0 t16_1 t17_0 t20_0 t20_1 t21_0 t0_0 t0_1 t1_0) := ⟨_, rfl⟩
            have e255 : y222 = p253.1 := congrArg (fun z => z.1) (hE251.trans e254.symm)
            have e256 : y223 = p253.2.1 := congrArg (fun z => z.2.1) (hE251.trans e254.symm)
            have e257 : f224 = p253.2.2.1 := congrArg (fun z => z.2.2.1) (hE251.trans e254.symm)
            have e258 : y227 = p253.2.2.2.1 := congrArg (fun z => z.2.2.2.1) (hE251.trans e254.symm)
            have e259 : y228 = p253.2.2.2.2.1 := congrArg (fun z => z.2.2.2.2.1) (hE251.trans e254.symm)
            have e260 : f229 = p253.2.2.2.2.2.1 := congrArg (fun z => z.2.2.2.2.2.1) (hE251.trans e254.symm)
            have e261 : y232 = p253.2.2.2.2.2.2.1 := congrArg (fun z => z.2.2.2.2.2.2.1) (hE251.trans e254.symm)
            have e262 : y233 = p253.2.2.2.2.2.2.2.1 := congrArg (fun z => z.2.2.2.2.2.2.2.1) (hE251.trans e254.symm)
            have e263 : f234 = p253.2.2.2.2.2.2.2.2 := congrArg (fun z => z.2.2.2.2.2.2.2.2) (hE251.trans e254.symm)
            replace b242 : q_F (y228.toInt ≤ t20_1.toInt) := b242
            replace hT4 := (hu252 _ (by have z0 := yk4; simp only [List.mem_cons, List.not_mem_nil, or_false, not_or]; omega)).trans hT4
            replace hT5 := (hu252 _ (by have z0 := yk4; simp only [List.mem_cons, List.not_mem_nil, or_false, not_or]; omega)).trans hT5
            replace hT6 := (hu252 _ (by have z0 := yk4; simp only [List.mem_cons, List.not_mem_nil, or_false, not_or]; omega)).trans hT6
            replace hT7 := (hu252 _ (by have z0 := yk4; simp only [List.mem_cons, List.not_mem_nil, or_false, not_or]; omega)).trans hT7
            replace hT8 := (hu252 _ (by have z0 := yk4; simp only [List.mem_cons, List.not_mem_nil, or_false, not_or]; omega)).trans hT8
            replace hT9 := (hu252 _ (by have z0 := yk4; simp only [List.mem_cons, List.not_mem_nil, or_false, not_or]; omega)).trans hT9
            replace hT10 := (hu252 _ (by have z0 := yk4; simp only [List.mem_cons, List.not_mem_nil, or_false, not_or]; omega)).trans hT10
            replace hT11 := (hu252 _ (by have z0 := yk4; simp only [List.mem_cons, List.not_mem_nil, or_false, not_or]; omega)).trans hT11
            replace hT12 := (hu252 _ (by have z0 := yk4; simp only [List.mem_cons, List.not_mem_nil, or_false, not_or]; omega)).trans hT12
            replace hT13 := (hu252 _ (by have z0 := yk4; simp only [List.mem_cons, List.not_mem_nil, or_false, not_or]; omega)).trans hT13
            replace hT14 := (hu252 _ (by have z0 := yk4; simp only [List.mem_cons, List.not_mem_nil, or_false, not_or]; omega)).trans hT14
            replace hT15 := (hu252 _ (by have z0 := yk4; simp only [List.mem_cons, List.not_mem_nil, or_false, not_or]; omega)).trans hT15
            replace hT18 := (hu252 _ (q_nc (by have z0 := yk3; omega) (q_nc (by have z0 := yk3; omega) (q_nc (by have z := ne_k3_k4; omega) (q_nc (by have z := ne_k3_k4p1; omega) (q_nc (by have z0 := yk3; omega) (q_nc (by have z0 := yk3; omega) List.not_mem_nil))))))).trans hT18
            replace hT19 := (hu252 _ (q_nc (by have z0 := yk3; omega) (q_nc (by have z0 := yk3; omega) (q_nc (by have z := ne_k4_k3p1; omega) (q_nc (by have z := ne_k3_k4; omega) (q_nc (by have z0 := yk3; omega) (q_nc (by have z0 := yk3; omega) List.not_mem_nil))))))).trans hT19
            replace hT22 := (hu252 _ (q_nc (by have z0 := yk5; omega) (q_nc (by have z0 := yk5; omega) (q_nc (by have z := ne_k5_k4; omega) (q_nc (by have z := ne_k5_k4p1; omega) (q_nc (by have z0 := yk5; omega) (q_nc (by have z0 := yk5; omega) List.not_mem_nil))))))).trans hT22
            replace hT23 := (hu252 _ (q_nc (by have z0 := yk5; omega) (q_nc (by have z0 := yk5; omega) (q_nc (by have z := ne_k4_k5p1; omega) (q_nc (by have z := ne_k5_k4; omega) (q_nc (by have z0 := yk5; omega) (q_nc (by have z0 := yk5; omega) List.not_mem_nil))))))).trans hT23
            replace hO146 := (hu252 _ (by have z0 := yk4; simp only [List.mem_cons, List.not_mem_nil, or_false, not_or]; omega)).trans hO146
            replace hO217 := (hu252 _ (by have z0 := yk4; simp only [List.mem_cons, List.not_mem_nil, or_false, not_or]; omega)).trans hO217
            replace hF := q_uc hF hu252 (by simp)
            have hR264 := (show F_NH_powerModulo_c117 x2 x3 x4 x5 t0_0 t0_1 t1_0 t2_0 t2_1 t3_0 t4_0 t4_1 t5_0 t6_0 t6_1 t7_0 t8_0 t8_1 t9_0 t10_0 t10_1 t11_0 t12_0 t12_1 t13_0 t14_0 t14_1 t15_0 t16_0 t16_1 t17_0 t18_0 t18_1 t19_0 t20_0 t20_1 t21_0 t22_0 t22_1 t23_0 lx104 lx160 p253 = (F_NH_powerModulo x2 x3 x4 x5 t0_0 t0_1 t1_0 t2_0 t2_1 t3_0 t4_0 t4_1 t5_0 t6_0 t6_1 t7_0 t8_0 t8_1 t9_0 t10_0 t10_1 t11_0 t12_0 t12_1 t13_0 t14_0 t14_1 t15_0 t16_0 t16_1 t17_0 t18_0 t18_1 t19_0 t20_0 t20_1 t21_0 t22_0 t22_1 t23_0) from Eq.trans (by rw [e254, F_NH_powerModulo_J54.eq_1, if_pos c199, if_pos c207]) hR188)
            have hS265 := (show True ∧ S_NH_powerModulo_c117 x2 x3 x4 x5 t0_0 t0_1 t1_0 t2_0 t2_1 t3_0 t4_0 t4_1 t5_0 t6_0 t6_1 t7_0 t8_0 t8_1 t9_0 t10_0 t10_1 t11_0 t12_0 t12_1 t13_0 t14_0 t14_1 t15_0 t16_0 t16_1 t17_0 t18_0 t18_1 t19_0 t20_0 t20_1 t21_0 t22_0 t22_1 t23_0 lx104 lx160 p253 from (by rw [e254]; have h := hS189; rw [S_NH_powerModulo_J54.eq_1] at h; rw [if_pos c199] at h; replace h := q_s2 h; replace h := q_s2 h; rw [if_pos c207] at h; replace h := q_s2 h; replace h := q_s2 h; replace h := q_s2 h; with_reducible exact h))
            refine lv_aload_n hx hb d_1_10_120 rfl (lv_at hl 0 rfl) ?_
            refine q_get (ci := 0) (j := 6) (v := .ref (q 9)) C0 V i_NH rfl rfl hO146 (by decide) w_430 rfl d_1_10_121 ?_
            refine lv_aload_n hx hb d_1_10_124 rfl (lv_at hl 0 rfl) ?_
            refine q_get (ci := 0) (j := 2) (v := .ref (q 5)) C0 V i_NH rfl rfl hO146 (by decide) w_426 rfl d_1_10_125 ?_
            refine lv_iload_n hx hb d_1_10_128 rfl (lv_at hl 2 rfl) ?_
            have hX269 := n_fx hI (n_s5 g q)
            have hj270 : x3.toNatClampNeg < 10 := by have z := q_clI (i := x3) (x := x3.toInt) rfl (by first | with_reducible exact q_fe ob203 | (have t1 : 0 ≤ x3.toInt := ob203; omega)); have t1 : 0 ≤ x3.toInt := ob203; have t2 : x3.toInt ≤ 9 := ob204; omega
            have hq271 := gk3x3 hj270
            refine q_aald (t := 4) (q := q k3) C0 V hX269 rfl (q_ix (x := x3.toInt) rfl (by first | with_reducible exact q_fe ob203 | (have t1 : 0 ≤ x3.toInt := ob203; omega)) (by have t1 : 0 ≤ x3.toInt := ob203; have t2 : x3.toInt ≤ 9 := ob204; omega)) (by rw [hq271]; exact n_fwv hj270) d_1_10_129 ?_
            refine lv_aload_n hx hb d_1_10_130 rfl (lv_at hl 0 rfl) ?_
            refine q_get (ci := 0) (j := 2) (v := .ref (q 5)) C0 V i_NH rfl rfl hO146 (by decide) w_426 rfl d_1_10_131 ?_
            refine lv_iload_n hx hb d_1_10_134 rfl (lv_at hl 3 rfl) ?_
            have hX272 := n_fx hI (n_s5 g q)
            have hj273 : x4.toNatClampNeg < 10 := by have z := q_clI (i := x4) (x := x4.toInt) rfl (by first | with_reducible exact q_fe ob148 | (have t1 : 0 ≤ x4.toInt := ob148; omega)); have t1 : 0 ≤ x4.toInt := ob148; have t2 : x4.toInt ≤ 9 := ob149; omega
            have hq274 := gk4x4 hj273
            refine q_aald (t := 4) (q := q k4) C0 V hX272 rfl (q_ix (x := x4.toInt) rfl (by first | with_reducible exact q_fe ob148 | (have t1 : 0 ≤ x4.toInt := ob148; omega)) (by have t1 : 0 ≤ x4.toInt := ob148; have t2 : x4.toInt ≤ 9 := ob149; omega)) (by rw [hq274]; exact n_fwv hj273) d_1_10_135 ?_
            have ob275 : True ∧ S_Mil_powerBelow (68 : Int32) (68 : Int32) y232 y233 f234 y222 y223 f224 t4_0 t4_1 t5_0 t6_0 t6_1 t7_0 t18_0 t18_1 t19_0 y227 y228 f229 := (by rw [e263, e262, e261, e260, e259, e258, e257, e256, e255]; have h := hS265; rw [S_NH_powerModulo_c117.eq_1] at h; with_reducible exact h.2.1)
            refine q_gov V (q_runV (As := [.ref (q k3), .ref (q k4)]) (rest := []) (d := 5) (mc := 0) (ms := 0) (ci := 4) C0 V rfl LV_NH_266 (X_Mil_powerBelow l D g q u219 k3 68 hBk3 (Or.inr yk3) k4 68 hBk4 (Or.inr yk4)  (by have z0 := yk3; omega) (by have z0 := yk3; omega) (by have z0 := yk3; omega) (by have z0 := yk3; omega) (by have z0 := yk3; omega) (by have z0 := yk3; omega) (by have z0 := yk3; omega) (by have z0 := yk3; omega) (by have z0 := yk3; omega) (by have z0 := yk3; omega) (by have z0 := yk3; omega) (by have z0 := yk3; omega) (by have z0 := yk4; omega) (by have z0 := yk4; omega) (by have z0 := yk4; omega) (by have z0 := yk4; omega) (by have z0 := yk4; omega) (by have z0 := yk4; omega) (by have z0 := yk4; omega) (by have z0 := yk4; omega) (by have z0 := yk4; omega) (by have z0 := yk4; omega) (by have z0 := yk4; omega) (by have z0 := yk4; omega) (by have z := ne_k3_k4; omega) hI y232 y233 hO231 f234 hA235 y222 y223 hO221 f224 hA225 t4_0 t4_1 hT4 t5_0 hT5 t6_0 t6_1 hT6 t7_0 hT7 t18_0 t18_1 hT18 t19_0 hT19 y227 y228 hO226 f229 hA230 ob275 _) rfl rfl hO217 rfl hl.1 rfl (Nat.le_of_ble_eq_true rfl) ⟨by decide, by decide⟩ ⟨Nat.le_of_ble_eq_true rfl, Nat.le_of_ble_eq_true rfl⟩ d_1_10_136) (fun u276 H locs hp277 V => ?_)
            obtain ⟨hI, hZ9⟩ := hp277
            obtain ⟨hu323, hZ9⟩ := hZ9
            obtain ⟨y279, hZ9⟩ := hZ9
            obtain ⟨y280, hZ9⟩ := hZ9
            obtain ⟨f281, hZ9⟩ := hZ9
            obtain ⟨y284, hZ9⟩ := hZ9
            obtain ⟨y285, hZ9⟩ := hZ9
            obtain ⟨f286, hZ9⟩ := hZ9
            obtain ⟨y289, hZ9⟩ := hZ9
            obtain ⟨y290, hZ9⟩ := hZ9
            obtain ⟨f291, hZ9⟩ := hZ9
            obtain ⟨y294, hZ9⟩ := hZ9
            obtain ⟨y295, hZ9⟩ := hZ9
            obtain ⟨f296, hZ9⟩ := hZ9
            obtain ⟨y299, hZ9⟩ := hZ9
            obtain ⟨y300, hZ9⟩ := hZ9
            obtain ⟨f301, hZ9⟩ := hZ9
            obtain ⟨hO278, hZ9⟩ := hZ9
            obtain ⟨hA282, hZ9⟩ := hZ9
            obtain ⟨hO283, hZ9⟩ := hZ9
            obtain ⟨hA287, hZ9⟩ := hZ9
            obtain ⟨hO288, hZ9⟩ := hZ9
            obtain ⟨hA292, hZ9⟩ := hZ9
            obtain ⟨hO293, hZ9⟩ := hZ9
            obtain ⟨hA297, hZ9⟩ := hZ9
            obtain ⟨hO298, hZ9⟩ := hZ9
            obtain ⟨hA302, hZ9⟩ := hZ9
            obtain ⟨b303, hZ9⟩ := hZ9
            obtain ⟨b304, hZ9⟩ := hZ9
            obtain ⟨b305, hZ9⟩ := hZ9
            obtain ⟨b306, hZ9⟩ := hZ9
            obtain ⟨b307, hZ9⟩ := hZ9
            obtain ⟨b308, hZ9⟩ := hZ9
            obtain ⟨b309, hZ9⟩ := hZ9
            obtain ⟨b310, hZ9⟩ := hZ9
            obtain ⟨b311, hZ9⟩ := hZ9
            obtain ⟨b312, hZ9⟩ := hZ9
            obtain ⟨b313, hZ9⟩ := hZ9
            obtain ⟨b314, hZ9⟩ := hZ9
            obtain ⟨b315, hZ9⟩ := hZ9
            obtain ⟨b316, hZ9⟩ := hZ9
            obtain ⟨b317, hZ9⟩ := hZ9
            obtain ⟨b318, hZ9⟩ := hZ9
            obtain ⟨b319, hZ9⟩ := hZ9
            obtain ⟨b320, hZ9⟩ := hZ9
            obtain ⟨b321, hE322⟩ := hZ9
            replace hO278 : u276[10]? = (some (q 10, .inr (2, [.ref (q 11), .int y279, .int y280])) : Option (Nat × va_E)) := hO278
            replace hA282 : u276[11]? = (some (q 11, .inl (g 0, (220 : Int32).toNatClampNeg, .inl f281)) : Option (Nat × va_E)) := hA282
            replace hO283 : u276[12]? = (some (q 12, .inr (2, [.ref (q 13), .int y284, .int y285])) : Option (Nat × va_E)) := hO283
            replace hA287 : u276[13]? = (some (q 13, .inl (g 0, (220 : Int32).toNatClampNeg, .inl f286)) : Option (Nat × va_E)) := hA287
            replace hO288 : u276[14]? = (some (q 14, .inr (2, [.ref (q 15), .int y289, .int y290])) : Option (Nat × va_E)) := hO288
            replace hA292 : u276[15]? = (some (q 15, .inl (g 0, (220 : Int32).toNatClampNeg, .inl f291)) : Option (Nat × va_E)) := hA292
            replace hO293 : u276[18]? = (some (q 18, .inr (2, [.ref (q 19), .int y294, .int y295])) : Option (Nat × va_E)) := hO293
            replace hA297 : u276[19]? = (some (q 19, .inl (g 0, (220 : Int32).toNatClampNeg, .inl f296)) : Option (Nat × va_E)) := hA297
            replace hO298 : u276[k4]? = (some (q k4, .inr (2, [.ref (q (k4 + 1)), .int y299, .int y300])) : Option (Nat × va_E)) := hO298
            replace hA302 : u276[k4 + 1]? = (some (q (k4 + 1), .inl (g 0, (68 : Int32).toNatClampNeg, .inl f301)) : Option (Nat × va_E)) := hA302
            obtain ⟨p324, e325⟩ : ∃ z, z = (F_Mil_powerBelow (68 : Int32) (68 : Int32) y232 y233 f234 y222 y223 f224 t4_0 t4_1 t5_0 t6_0 t6_1 t7_0 t18_0 t18_1 t19_0 y227 y228 f229) := ⟨_, rfl⟩
            have e326 : y279 = p324.1 := congrArg (fun z => z.1) (hE322.trans e325.symm)
            have e327 : y280 = p324.2.1 := congrArg (fun z => z.2.1) (hE322.trans e325.symm)
            have e328 : f281 = p324.2.2.1 := congrArg (fun z => z.2.2.1) (hE322.trans e325.symm)
            have e329 : y284 = p324.2.2.2.1 := congrArg (fun z => z.2.2.2.1) (hE322.trans e325.symm)
            have e330 : y285 = p324.2.2.2.2.1 := congrArg (fun z => z.2.2.2.2.1) (hE322.trans e325.symm)
            have e331 : f286 = p324.2.2.2.2.2.1 := congrArg (fun z => z.2.2.2.2.2.1) (hE322.trans e325.symm)
            have e332 : y289 = p324.2.2.2.2.2.2.1 := congrArg (fun z => z.2.2.2.2.2.2.1) (hE322.trans e325.symm)
            have e333 : y290 = p324.2.2.2.2.2.2.2.1 := congrArg (fun z => z.2.2.2.2.2.2.2.1) (hE322.trans e325.symm)
            have e334 : f291 = p324.2.2.2.2.2.2.2.2.1 := congrArg (fun z => z.2.2.2.2.2.2.2.2.1) (hE322.trans e325.symm)
            have e335 : y294 = p324.2.2.2.2.2.2.2.2.2.1 := congrArg (fun z => z.2.2.2.2.2.2.2.2.2.1) (hE322.trans e325.symm)
            have e336 : y295 = p324.2.2.2.2.2.2.2.2.2.2.1 := congrArg (fun z => z.2.2.2.2.2.2.2.2.2.2.1) (hE322.trans e325.symm)
            have e337 : f296 = p324.2.2.2.2.2.2.2.2.2.2.2.1 := congrArg (fun z => z.2.2.2.2.2.2.2.2.2.2.2.1) (hE322.trans e325.symm)
            have e338 : y299 = p324.2.2.2.2.2.2.2.2.2.2.2.2.1 := congrArg (fun z => z.2.2.2.2.2.2.2.2.2.2.2.2.1) (hE322.trans e325.symm)
            have e339 : y300 = p324.2.2.2.2.2.2.2.2.2.2.2.2.2.1 := congrArg (fun z => z.2.2.2.2.2.2.2.2.2.2.2.2.2.1) (hE322.trans e325.symm)
            have e340 : f301 = p324.2.2.2.2.2.2.2.2.2.2.2.2.2.2 := congrArg (fun z => z.2.2.2.2.2.2.2.2.2.2.2.2.2.2) (hE322.trans e325.symm)
            replace b303 : q_F (0 ≤ y285.toInt) := b303
            replace b304 : q_F (y285.toInt ≤ 0) := b304
            replace b305 : q_F (y300.toInt ≤ y228.toInt) := b305
            replace b306 : q_F (y285.toInt ≤ y279.toInt) := b306
            replace b307 : q_F (y279.toInt ≤ y289.toInt) := b307
            replace b308 : q_F (y290.toInt ≤ y280.toInt) := b308
            replace b309 : q_F (y280.toInt ≤ y290.toInt) := b309
            replace b310 : q_F (y285.toInt ≤ y284.toInt) := b310
            replace b311 : q_F (y284.toInt ≤ y285.toInt + 220) := b311
            replace b312 : q_F (y289.toInt ≤ y285.toInt + 220) := b312
            replace b313 : q_F (y290.toInt ≤ y285.toInt + 1) := b313
            replace b314 : q_F (y285.toInt ≤ y290.toInt) := b314
            replace b315 : q_F (y294.toInt ≤ y285.toInt + 220) := b315
            replace b316 : q_F (y285.toInt ≤ y294.toInt) := b316
            replace b317 : q_F (y295.toInt ≤ y285.toInt + 1) := b317
            replace b318 : q_F (y285.toInt ≤ y295.toInt) := b318
            replace b319 : q_F (y299.toInt ≤ y285.toInt + 220) := b319
            replace b320 : q_F (y285.toInt ≤ y299.toInt) := b320
            replace b321 : q_F (y285.toInt ≤ y300.toInt) := b321
            replace hT8 := (hu323 _ (by have z0 := yk4; simp only [List.mem_cons, List.not_mem_nil, or_false, not_or]; omega)).trans hT8
            replace hT9 := (hu323 _ (by have z0 := yk4; simp only [List.mem_cons, List.not_mem_nil, or_false, not_or]; omega)).trans hT9
            replace hT10 := (hu323 _ (by have z0 := yk4; simp only [List.mem_cons, List.not_mem_nil, or_false, not_or]; omega)).trans hT10
            replace hT11 := (hu323 _ (by have z0 := yk4; simp only [List.mem_cons, List.not_mem_nil, or_false, not_or]; omega)).trans hT11
            replace hT12 := (hu323 _ (by have z0 := yk4; simp only [List.mem_cons, List.not_mem_nil, or_false, not_or]; omega)).trans hT12
            replace hT13 := (hu323 _ (by have z0 := yk4; simp only [List.mem_cons, List.not_mem_nil, or_false, not_or]; omega)).trans hT13
            replace hT14 := (hu323 _ (by have z0 := yk4; simp only [List.mem_cons, List.not_mem_nil, or_false, not_or]; omega)).trans hT14
            replace hT15 := (hu323 _ (by have z0 := yk4; simp only [List.mem_cons, List.not_mem_nil, or_false, not_or]; omega)).trans hT15
            replace hT22 := (hu323 _ (q_nc (by have z0 := yk5; omega) (q_nc (by have z0 := yk5; omega) (q_nc (by have z0 := yk5; omega) (q_nc (by have z0 := yk5; omega) (q_nc (by have z0 := yk5; omega) (q_nc (by have z0 := yk5; omega) (q_nc (by have z0 := yk5; omega) (q_nc (by have z0 := yk5; omega) (q_nc (by have z := ne_k5_k4; omega) (q_nc (by have z := ne_k5_k4p1; omega) List.not_mem_nil))))))))))).trans hT22
            replace hT23 := (hu323 _ (q_nc (by have z0 := yk5; omega) (q_nc (by have z0 := yk5; omega) (q_nc (by have z0 := yk5; omega) (q_nc (by have z0 := yk5; omega) (q_nc (by have z0 := yk5; omega) (q_nc (by have z0 := yk5; omega) (q_nc (by have z0 := yk5; omega) (q_nc (by have z0 := yk5; omega) (q_nc (by have z := ne_k4_k5p1; omega) (q_nc (by have z := ne_k5_k4; omega) List.not_mem_nil))))))))))).trans hT23
            replace hO146 := (hu323 _ (by have z0 := yk4; simp only [List.mem_cons, List.not_mem_nil, or_false, not_or]; omega)).trans hO146
            replace hF := q_uc hF hu323 (by simp)
            have hR341 := (show F_NH_powerModulo_c136 x2 x3 x4 x5 t0_0 t0_1 t1_0 t2_0 t2_1 t3_0 t4_0 t4_1 t5_0 t6_0 t6_1 t7_0 t8_0 t8_1 t9_0 t10_0 t10_1 t11_0 t12_0 t12_1 t13_0 t14_0 t14_1 t15_0 t16_0 t16_1 t17_0 t18_0 t18_1 t19_0 t20_0 t20_1 t21_0 t22_0 t22_1 t23_0 lx104 lx160 p253 p324 = (F_NH_powerModulo x2 x3 x4 x5 t0_0 t0_1 t1_0 t2_0 t2_1 t3_0 t4_0 t4_1 t5_0 t6_0 t6_1 t7_0 t8_0 t8_1 t9_0 t10_0 t10_1 t11_0 t12_0 t12_1 t13_0 t14_0 t14_1 t15_0 t16_0 t16_1 t17_0 t18_0 t18_1 t19_0 t20_0 t20_1 t21_0 t22_0 t22_1 t23_0) from Eq.trans (by rw [e325, e263, e262, e261, e260, e259, e258, e257, e256, e255, F_NH_powerModulo_c117.eq_1]) hR264)
            have hS342 := (show True ∧ S_NH_powerModulo_c136 x2 x3 x4 x5 t0_0 t0_1 t1_0 t2_0 t2_1 t3_0 t4_0 t4_1 t5_0 t6_0 t6_1 t7_0 t8_0 t8_1 t9_0 t10_0 t10_1 t11_0 t12_0 t12_1 t13_0 t14_0 t14_1 t15_0 t16_0 t16_1 t17_0 t18_0 t18_1 t19_0 t20_0 t20_1 t21_0 t22_0 t22_1 t23_0 lx104 lx160 p253 p324 from (by rw [e325, e263, e262, e261, e260, e259, e258, e257, e256, e255]; have h := hS265; rw [S_NH_powerModulo_c117.eq_1] at h; replace h := q_s2 h; with_reducible exact h))
            refine lv_aload_n hx hb d_1_10_139 rfl (lv_at hl 0 rfl) ?_
            refine lv_iload hx hb d_1_10_140 (lv_at hl 4 rfl) ?_
            have ob346 : True ∧ S_NH_keepWhole x5 y279 y280 f281 t22_0 t22_1 t23_0 := (by rw [e328, e327, e326]; have h := hS342; rw [S_NH_powerModulo_c136.eq_1] at h; with_reducible exact h.2.1)
            refine q_goxv V (q_runVX (As := [.int x5]) (rest := []) (d := 8) (mc := 1) (ms := 6) (ci := 0) C0 V rfl LV_NH_243 (X_NH_keepWhole l D g q u276  x5 k5 hBk5 yk5 gk5x5 hlt hI y279 y280 hO278 f281 hA282 t22_0 t22_1 hT22 t23_0 hT23 ob346 _) rfl rfl hO146 rfl hl.1 rfl (Nat.le_of_ble_eq_true rfl) ⟨by decide, by decide⟩ ⟨Nat.le_of_ble_eq_true rfl, Nat.le_of_ble_eq_true rfl⟩ d_1_10_142) (fun qx Ex ce u347 H locs hp348 V hce hcv hcl => ?_) (fun u347 H locs hp348 V => ?_)
            ·
              obtain ⟨cx355, hZ9⟩ := hp348
              obtain ⟨he356, hZ9⟩ := hZ9
              obtain ⟨hc357, hZ9⟩ := hZ9
              obtain ⟨hI, hZ9⟩ := hZ9
              obtain ⟨hu358, hZ9⟩ := hZ9
              obtain ⟨y350, hZ9⟩ := hZ9
              obtain ⟨y351, hZ9⟩ := hZ9
              obtain ⟨f352, hZ9⟩ := hZ9
              obtain ⟨hO349, hZ9⟩ := hZ9
              obtain ⟨hA353, hE354⟩ := hZ9
              replace hO349 : u347[k5]? = (some (q k5, .inr (2, [.ref (q (k5 + 1)), .int y350, .int y351])) : Option (Nat × va_E)) := hO349
              replace hA353 : u347[k5 + 1]? = (some (q (k5 + 1), .inl (g 0, (68 : Int32).toNatClampNeg, .inl f352)) : Option (Nat × va_E)) := hA353
              obtain ⟨p359, e360⟩ : ∃ z, z = (F_NH_keepWhole x5 y279 y280 f281 t22_0 t22_1 t23_0) := ⟨_, rfl⟩
              have c361 : ¬ p359.1 = (0 : Int32) := fun z => hc357 (((congrArg (fun z => z.1) (hE354.trans e360.symm)) : cx355 = _).trans z)
              have e362 : y350 = p359.2.1 := congrArg (fun z => z.2.1) (hE354.trans e360.symm)
              have e363 : y351 = p359.2.2.1 := congrArg (fun z => z.2.2.1) (hE354.trans e360.symm)
              have e364 : f352 = p359.2.2.2 := congrArg (fun z => z.2.2.2) (hE354.trans e360.symm)
              replace hO278 := (hu358 _ (by have z0 := yk5; simp only [List.mem_cons, List.not_mem_nil, or_false, not_or]; omega)).trans hO278
              replace hA282 := (hu358 _ (by have z0 := yk5; simp only [List.mem_cons, List.not_mem_nil, or_false, not_or]; omega)).trans hA282
              replace hO283 := (hu358 _ (by have z0 := yk5; simp only [List.mem_cons, List.not_mem_nil, or_false, not_or]; omega)).trans hO283
              replace hA287 := (hu358 _ (by have z0 := yk5; simp only [List.mem_cons, List.not_mem_nil, or_false, not_or]; omega)).trans hA287
              replace hO288 := (hu358 _ (by have z0 := yk5; simp only [List.mem_cons, List.not_mem_nil, or_false, not_or]; omega)).trans hO288
              replace hA292 := (hu358 _ (by have z0 := yk5; simp only [List.mem_cons, List.not_mem_nil, or_false, not_or]; omega)).trans hA292
              replace hO293 := (hu358 _ (by have z0 := yk5; simp only [List.mem_cons, List.not_mem_nil, or_false, not_or]; omega)).trans hO293
              replace hA297 := (hu358 _ (by have z0 := yk5; simp only [List.mem_cons, List.not_mem_nil, or_false, not_or]; omega)).trans hA297
              replace hT8 := (hu358 _ (by have z0 := yk5; simp only [List.mem_cons, List.not_mem_nil, or_false, not_or]; omega)).trans hT8
              replace hT9 := (hu358 _ (by have z0 := yk5; simp only [List.mem_cons, List.not_mem_nil, or_false, not_or]; omega)).trans hT9
              replace hT10 := (hu358 _ (by have z0 := yk5; simp only [List.mem_cons, List.not_mem_nil, or_false, not_or]; omega)).trans hT10
              replace hT11 := (hu358 _ (by have z0 := yk5; simp only [List.mem_cons, List.not_mem_nil, or_false, not_or]; omega)).trans hT11
              replace hT12 := (hu358 _ (by have z0 := yk5; simp only [List.mem_cons, List.not_mem_nil, or_false, not_or]; omega)).trans hT12
              replace hT13 := (hu358 _ (by have z0 := yk5; simp only [List.mem_cons, List.not_mem_nil, or_false, not_or]; omega)).trans hT13
              replace hT14 := (hu358 _ (by have z0 := yk5; simp only [List.mem_cons, List.not_mem_nil, or_false, not_or]; omega)).trans hT14
              replace hT15 := (hu358 _ (by have z0 := yk5; simp only [List.mem_cons, List.not_mem_nil, or_false, not_or]; omega)).trans hT15
              replace hO298 := (hu358 _ (q_nc (by have z := ne_k5_k4; omega) (q_nc (by have z := ne_k4_k5p1; omega) List.not_mem_nil))).trans hO298
              replace hA302 := (hu358 _ (q_nc (by have z := ne_k5_k4p1; omega) (q_nc (by have z := ne_k5_k4; omega) List.not_mem_nil))).trans hA302
              replace hF := q_uc hF hu358 (by simp)
              have hR365 := (show F_NH_powerModulo_c142 x2 x3 x4 x5 t0_0 t0_1 t1_0 t2_0 t2_1 t3_0 t4_0 t4_1 t5_0 t6_0 t6_1 t7_0 t8_0 t8_1 t9_0 t10_0 t10_1 t11_0 t12_0 t12_1 t13_0 t14_0 t14_1 t15_0 t16_0 t16_1 t17_0 t18_0 t18_1 t19_0 t20_0 t20_1 t21_0 t22_0 t22_1 t23_0 lx104 lx160 p253 p324 y279 y280 f281 y284 y285 f286 y289 y290 f291 y294 y295 f296 y299 y300 f301 p359 = (F_NH_powerModulo x2 x3 x4 x5 t0_0 t0_1 t1_0 t2_0 t2_1 t3_0 t4_0 t4_1 t5_0 t6_0 t6_1 t7_0 t8_0 t8_1 t9_0 t10_0 t10_1 t11_0 t12_0 t12_1 t13_0 t14_0 t14_1 t15_0 t16_0 t16_1 t17_0 t18_0 t18_1 t19_0 t20_0 t20_1 t21_0 t22_0 t22_1 t23_0) from Eq.trans (by rw [e360, e340, e339, e338, e337, e336, e335, e334, e333, e332, e331, e330, e329, e328, e327, e326, F_NH_powerModulo_c136.eq_1]) hR341)
              have hS366 := (show True ∧ S_NH_powerModulo_c142 x2 x3 x4 x5 t0_0 t0_1 t1_0 t2_0 t2_1 t3_0 t4_0 t4_1 t5_0 t6_0 t6_1 t7_0 t8_0 t8_1 t9_0 t10_0 t10_1 t11_0 t12_0 t12_1 t13_0 t14_0 t14_1 t15_0 t16_0 t16_1 t17_0 t18_0 t18_1 t19_0 t20_0 t20_1 t21_0 t22_0 t22_1 t23_0 lx104 lx160 p253 p324 y279 y280 f281 y284 y285 f286 y289 y290 f291 y294 y295 f296 y299 y300 f301 p359 from (by rw [e360, e340, e339, e338, e337, e336, e335, e334, e333, e332, e331, e330, e329, e328, e327, e326]; have h := hS342; rw [S_NH_powerModulo_c136.eq_1] at h; replace h := q_s2 h; with_reducible exact h))
              exact q_outT hno C0 V (⟨p359.1, (he356.trans (congrArg qE ((congrArg (fun z => z.1) (hE354.trans e360.symm)) : cx355 = _))), c361, hI, hF, y279, y280, f281, y284, y285, f286, y289, y290, f291, y294, y295, f296, t8_0, t8_1, t9_0, t10_0, t10_1, t11_0, t12_0, t12_1, t13_0, t14_0, t14_1, t15_0, y299, y300, f301, y350, y351, f352, hO278, hA282, hO283, hA287, hO288, hA292, hO293, hA297, hT8, hT9, hT10, hT11, hT12, hT13, hT14, hT15, hO298, hA302, hO349, hA353, (show (p359.1, y279, y280, f281, y284, y285, f286, y289, y290, f291, y294, y295, f296, t8_0, t8_1, t9_0, t10_0, t10_1, t11_0, t12_0, t12_1, t13_0, t14_0, t14_1, t15_0, y299, y300, f301, y350, y351, f352) = (F_NH_powerModulo x2 x3 x4 x5 t0_0 t0_1 t1_0 t2_0 t2_1 t3_0 t4_0 t4_1 t5_0 t6_0 t6_1 t7_0 t8_0 t8_1 t9_0 t10_0 t10_1 t11_0 t12_0 t12_1 t13_0 t14_0 t14_1 t15_0 t16_0 t16_1 t17_0 t18_0 t18_1 t19_0 t20_0 t20_1 t21_0 t22_0 t22_1 t23_0) from Eq.trans (by rw [e364, e363, e362, F_NH_powerModulo_c142.eq_1, if_neg c361]) hR365)⟩) hce hcv hcl (Nat.le_of_ble_eq_true rfl) (Nat.le_of_ble_eq_true rfl)
            ·
              obtain ⟨hI, hZ9⟩ := hp348
              obtain ⟨hu385, hZ9⟩ := hZ9
              obtain ⟨y371, hZ9⟩ := hZ9
              obtain ⟨y372, hZ9⟩ := hZ9
              obtain ⟨f373, hZ9⟩ := hZ9
              obtain ⟨hO370, hZ9⟩ := hZ9
              obtain ⟨hA374, hZ9⟩ := hZ9
              obtain ⟨b375, hZ9⟩ := hZ9
              obtain ⟨b376, hZ9⟩ := hZ9
              obtain ⟨b377, hZ9⟩ := hZ9
              obtain ⟨b378, hZ9⟩ := hZ9
              obtain ⟨b379, hZ9⟩ := hZ9
              obtain ⟨b380, hZ9⟩ := hZ9
              obtain ⟨b381, hZ9⟩ := hZ9
              obtain ⟨b382, hZ9⟩ := hZ9
              obtain ⟨b383, hE384⟩ := hZ9
              replace hO370 : u347[k5]? = (some (q k5, .inr (2, [.ref (q (k5 + 1)), .int y371, .int y372])) : Option (Nat × va_E)) := hO370
              replace hA374 : u347[k5 + 1]? = (some (q (k5 + 1), .inl (g 0, (68 : Int32).toNatClampNeg, .inl f373)) : Option (Nat × va_E)) := hA374
              obtain ⟨p359, e360⟩ : ∃ z, z = (F_NH_keepWhole x5 y279 y280 f281 t22_0 t22_1 t23_0) := ⟨_, rfl⟩
              have c361 : p359.1 = (0 : Int32) := ((congrArg (fun z => z.1) (hE384.trans e360.symm)) : (0 : Int32) = _).symm
              have e387 : y371 = p359.2.1 := congrArg (fun z => z.2.1) (hE384.trans e360.symm)
              have e388 : y372 = p359.2.2.1 := congrArg (fun z => z.2.2.1) (hE384.trans e360.symm)
              have e389 : f373 = p359.2.2.2 := congrArg (fun z => z.2.2.2) (hE384.trans e360.symm)
              replace b375 : q_F (0 ≤ y371.toInt) := b375
              replace b376 : q_F (y371.toInt ≤ 68) := b376
              replace b377 : q_F (x5.toInt ≤ y371.toInt + 9) := b377
              replace b378 : q_F (y371.toInt ≤ x5.toInt + 68) := b378
              replace b379 : q_F (y371.toInt ≤ y279.toInt) := b379
              replace b380 : q_F (x5.toInt ≤ y372.toInt + 9) := b380
              replace b381 : q_F (y372.toInt ≤ x5.toInt + 1) := b381
              replace b382 : q_F (y280.toInt ≤ y372.toInt) := b382
              replace b383 : q_F (y372.toInt ≤ y280.toInt) := b383
              replace hO278 := (hu385 _ (by have z0 := yk5; simp only [List.mem_cons, List.not_mem_nil, or_false, not_or]; omega)).trans hO278
              replace hA282 := (hu385 _ (by have z0 := yk5; simp only [List.mem_cons, List.not_mem_nil, or_false, not_or]; omega)).trans hA282
              replace hO283 := (hu385 _ (by have z0 := yk5; simp only [List.mem_cons, List.not_mem_nil, or_false, not_or]; omega)).trans hO283
              replace hA287 := (hu385 _ (by have z0 := yk5; simp only [List.mem_cons, List.not_mem_nil, or_false, not_or]; omega)).trans hA287
              replace hO288 := (hu385 _ (by have z0 := yk5; simp only [List.mem_cons, List.not_mem_nil, or_false, not_or]; omega)).trans hO288
              replace hA292 := (hu385 _ (by have z0 := yk5; simp only [List.mem_cons, List.not_mem_nil, or_false, not_or]; omega)).trans hA292
              replace hO293 := (hu385 _ (by have z0 := yk5; simp only [List.mem_cons, List.not_mem_nil, or_false, not_or]; omega)).trans hO293
              replace hA297 := (hu385 _ (by have z0 := yk5; simp only [List.mem_cons, List.not_mem_nil, or_false, not_or]; omega)).trans hA297
              replace hT8 := (hu385 _ (by have z0 := yk5; simp only [List.mem_cons, List.not_mem_nil, or_false, not_or]; omega)).trans hT8
              replace hT9 := (hu385 _ (by have z0 := yk5; simp only [List.mem_cons, List.not_mem_nil, or_false, not_or]; omega)).trans hT9
              replace hT10 := (hu385 _ (by have z0 := yk5; simp only [List.mem_cons, List.not_mem_nil, or_false, not_or]; omega)).trans hT10
              replace hT11 := (hu385 _ (by have z0 := yk5; simp only [List.mem_cons, List.not_mem_nil, or_false, not_or]; omega)).trans hT11
              replace hT12 := (hu385 _ (by have z0 := yk5; simp only [List.mem_cons, List.not_mem_nil, or_false, not_or]; omega)).trans hT12
              replace hT13 := (hu385 _ (by have z0 := yk5; simp only [List.mem_cons, List.not_mem_nil, or_false, not_or]; omega)).trans hT13
              replace hT14 := (hu385 _ (by have z0 := yk5; simp only [List.mem_cons, List.not_mem_nil, or_false, not_or]; omega)).trans hT14
              replace hT15 := (hu385 _ (by have z0 := yk5; simp only [List.mem_cons, List.not_mem_nil, or_false, not_or]; omega)).trans hT15
              replace hO298 := (hu385 _ (q_nc (by have z := ne_k5_k4; omega) (q_nc (by have z := ne_k4_k5p1; omega) List.not_mem_nil))).trans hO298
              replace hA302 := (hu385 _ (q_nc (by have z := ne_k5_k4p1; omega) (q_nc (by have z := ne_k5_k4; omega) List.not_mem_nil))).trans hA302
              replace hF := q_uc hF hu385 (by simp)
              have hR365 := (show F_NH_powerModulo_c142 x2 x3 x4 x5 t0_0 t0_1 t1_0 t2_0 t2_1 t3_0 t4_0 t4_1 t5_0 t6_0 t6_1 t7_0 t8_0 t8_1 t9_0 t10_0 t10_1 t11_0 t12_0 t12_1 t13_0 t14_0 t14_1 t15_0 t16_0 t16_1 t17_0 t18_0 t18_1 t19_0 t20_0 t20_1 t21_0 t22_0 t22_1 t23_0 lx104 lx160 p253 p324 y279 y280 f281 y284 y285 f286 y289 y290 f291 y294 y295 f296 y299 y300 f301 p359 = (F_NH_powerModulo x2 x3 x4 x5 t0_0 t0_1 t1_0 t2_0 t2_1 t3_0 t4_0 t4_1 t5_0 t6_0 t6_1 t7_0 t8_0 t8_1 t9_0 t10_0 t10_1 t11_0 t12_0 t12_1 t13_0 t14_0 t14_1 t15_0 t16_0 t16_1 t17_0 t18_0 t18_1 t19_0 t20_0 t20_1 t21_0 t22_0 t22_1 t23_0) from Eq.trans (by rw [e360, e340, e339, e338, e337, e336, e335, e334, e333, e332, e331, e330, e329, e328, e327, e326, F_NH_powerModulo_c136.eq_1]) hR341)
              have hS366 := (show True ∧ S_NH_powerModulo_c142 x2 x3 x4 x5 t0_0 t0_1 t1_0 t2_0 t2_1 t3_0 t4_0 t4_1 t5_0 t6_0 t6_1 t7_0 t8_0 t8_1 t9_0 t10_0 t10_1 t11_0 t12_0 t12_1 t13_0 t14_0 t14_1 t15_0 t16_0 t16_1 t17_0 t18_0 t18_1 t19_0 t20_0 t20_1 t21_0 t22_0 t22_1 t23_0 lx104 lx160 p253 p324 y279 y280 f281 y284 y285 f286 y289 y290 f291 y294 y295 f296 y299 y300 f301 p359 from (by rw [e360, e340, e339, e338, e337, e336, e335, e334, e333, e332, e331, e330, e329, e328, e327, e326]; have h := hS342; rw [S_NH_powerModulo_c136.eq_1] at h; replace h := q_s2 h; with_reducible exact h))
              refine W.widen (k := 4) (n := 24) (Nat.le_of_ble_eq_true rfl) (Nat.le_of_ble_eq_true rfl) ?_
              exact q_retX (q_retv C0 V (⟨hI, hF, y279, y280, f281, y284, y285, f286, y289, y290, f291, y294, y295, f296, t8_0, t8_1, t9_0, t10_0, t10_1, t11_0, t12_0, t12_1, t13_0, t14_0, t14_1, t15_0, y299, y300, f301, y371, y372, f373, hO278, hA282, hO283, hA287, hO288, hA292, hO293, hA297, hT8, hT9, hT10, hT11, hT12, hT13, hT14, hT15, hO298, hA302, hO370, hA374, (show 0 ≤ y279.toInt from (by have t1 : 0 ≤ y285.toInt := b303; have t2 : y285.toInt ≤ y279.toInt := b306; omega)), (show y279.toInt ≤ 220 from (by have t1 : y285.toInt ≤ 0 := b304; have t2 : y279.toInt ≤ y289.toInt := b307; have t3 : y289.toInt ≤ y285.toInt + 220 := b312; omega)), (show 0 ≤ y280.toInt from (by have t1 : 0 ≤ y285.toInt := b303; have t2 : y290.toInt ≤ y280.toInt := b308; have t3 : y285.toInt ≤ y290.toInt := b314; omega)), (show y280.toInt ≤ 1 from (by have t1 : y285.toInt ≤ 0 := b304; have t2 : y280.toInt ≤ y290.toInt := b309; have t3 : y290.toInt ≤ y285.toInt + 1 := b313; omega)), (show 0 ≤ y284.toInt from (by have t1 : 0 ≤ y285.toInt := b303; have t2 : y285.toInt ≤ y284.toInt := b310; omega)), (show y284.toInt ≤ 220 from (by have t1 : y285.toInt ≤ 0 := b304; have t2 : y284.toInt ≤ y285.toInt + 220 := b311; omega)), (show 0 ≤ y285.toInt from (by first | with_reducible exact q_fe b303 | (have t1 : 0 ≤ y285.toInt := b303; omega))), (show y285.toInt ≤ 0 from (by first | with_reducible exact q_fe b304 | (have t1 : y285.toInt ≤ 0 := b304; omega))), (show 0 ≤ y289.toInt from (by have t1 : 0 ≤ y285.toInt := b303; have t2 : y285.toInt ≤ y279.toInt := b306; have t3 : y279.toInt ≤ y289.toInt := b307; omega)), (show y289.toInt ≤ 220 from (by have t1 : y285.toInt ≤ 0 := b304; have t2 : y289.toInt ≤ y285.toInt + 220 := b312; omega)), (show 0 ≤ y290.toInt from (by have t1 : 0 ≤ y285.toInt := b303; have t2 : y285.toInt ≤ y290.toInt := b314; omega)), (show y290.toInt ≤ 1 from (by have t1 : y285.toInt ≤ 0 := b304; have t2 : y290.toInt ≤ y285.toInt + 1 := b313; omega)), (show 0 ≤ y294.toInt from (by have t1 : 0 ≤ y285.toInt := b303; have t2 : y285.toInt ≤ y294.toInt := b316; omega)), (show y294.toInt ≤ 220 from (by have t1 : y285.toInt ≤ 0 := b304; have t2 : y294.toInt ≤ y285.toInt + 220 := b315; omega)), (show 0 ≤ y295.toInt from (by have t1 : 0 ≤ y285.toInt := b303; have t2 : y285.toInt ≤ y295.toInt := b318; omega)), (show y295.toInt ≤ 1 from (by have t1 : y285.toInt ≤ 0 := b304; have t2 : y295.toInt ≤ y285.toInt + 1 := b317; omega)), (show 0 ≤ t8_0.toInt from (by first | with_reducible exact (q_fe btt8_0).2 | with_reducible exact (q_fe btt8_0).1 | (have t1 : 0 ≤ t8_0.toInt ∧ t8_0.toInt ≤ 220 := btt8_0; omega))), (show t8_0.toInt ≤ 220 from (by first | with_reducible exact (q_fe btt8_0).2 | with_reducible exact (q_fe btt8_0).1 | (have t1 : 0 ≤ t8_0.toInt ∧ t8_0.toInt ≤ 220 := btt8_0; omega))), (show 0 ≤ t8_1.toInt from (by first | with_reducible exact (q_fe btt8_1).2 | with_reducible exact (q_fe btt8_1).1 | (have t1 : 0 ≤ t8_1.toInt ∧ t8_1.toInt ≤ 1 := btt8_1; omega))), (show t8_1.toInt ≤ 1 from (by first | with_reducible exact (q_fe btt8_1).2 | with_reducible exact (q_fe btt8_1).1 | (have t1 : 0 ≤ t8_1.toInt ∧ t8_1.toInt ≤ 1 := btt8_1; omega))), (show 0 ≤ t10_0.toInt from (by first | with_reducible exact (q_fe btt10_0).2 | with_reducible exact (q_fe btt10_0).1 | (have t1 : 0 ≤ t10_0.toInt ∧ t10_0.toInt ≤ 220 := btt10_0; omega))), (show t10_0.toInt ≤ 220 from (by first | with_reducible exact (q_fe btt10_0).2 | with_reducible exact (q_fe btt10_0).1 | (have t1 : 0 ≤ t10_0.toInt ∧ t10_0.toInt ≤ 220 := btt10_0; omega))), (show 0 ≤ t10_1.toInt from (by first | with_reducible exact (q_fe btt10_1).2 | with_reducible exact (q_fe btt10_1).1 | (have t1 : 0 ≤ t10_1.toInt ∧ t10_1.toInt ≤ 1 := btt10_1; omega))), (show t10_1.toInt ≤ 2 from (by first | with_reducible exact (q_fe btt10_1).2 | with_reducible exact (q_fe btt10_1).1 | (have t1 : 0 ≤ t10_1.toInt ∧ t10_1.toInt ≤ 1 := btt10_1; omega))), (show 0 ≤ t12_0.toInt from (by first | with_reducible exact (q_fe btt12_0).2 | with_reducible exact (q_fe btt12_0).1 | (have t1 : 0 ≤ t12_0.toInt ∧ t12_0.toInt ≤ 220 := btt12_0; omega))), (show t12_0.toInt ≤ 220 from (by first | with_reducible exact (q_fe btt12_0).2 | with_reducible exact (q_fe btt12_0).1 | (have t1 : 0 ≤ t12_0.toInt ∧ t12_0.toInt ≤ 220 := btt12_0; omega))), (show 0 ≤ t12_1.toInt from (by first | with_reducible exact (q_fe btt12_1).2 | with_reducible exact (q_fe btt12_1).1 | (have t1 : 0 ≤ t12_1.toInt ∧ t12_1.toInt ≤ 1 := btt12_1; omega))), (show t12_1.toInt ≤ 1 from (by first | with_reducible exact (q_fe btt12_1).2 | with_reducible exact (q_fe btt12_1).1 | (have t1 : 0 ≤ t12_1.toInt ∧ t12_1.toInt ≤ 1 := btt12_1; omega))), (show 0 ≤ t14_0.toInt from (by first | with_reducible exact (q_fe btt14_0).2 | with_reducible exact (q_fe btt14_0).1 | (have t1 : 0 ≤ t14_0.toInt ∧ t14_0.toInt ≤ 220 := btt14_0; omega))), (show t14_0.toInt ≤ 220 from (by first | with_reducible exact (q_fe btt14_0).2 | with_reducible exact (q_fe btt14_0).1 | (have t1 : 0 ≤ t14_0.toInt ∧ t14_0.toInt ≤ 220 := btt14_0; omega))), (show 0 ≤ t14_1.toInt from (by first | with_reducible exact (q_fe btt14_1).2 | with_reducible exact (q_fe btt14_1).1 | (have t1 : 0 ≤ t14_1.toInt ∧ t14_1.toInt ≤ 1 := btt14_1; omega))), (show t14_1.toInt ≤ 1 from (by first | with_reducible exact (q_fe btt14_1).2 | with_reducible exact (q_fe btt14_1).1 | (have t1 : 0 ≤ t14_1.toInt ∧ t14_1.toInt ≤ 1 := btt14_1; omega))), (show 0 ≤ y299.toInt from (by have t1 : 0 ≤ y285.toInt := b303; have t2 : y285.toInt ≤ y299.toInt := b320; omega)), (show y299.toInt ≤ 220 from (by have t1 : y285.toInt ≤ 0 := b304; have t2 : y299.toInt ≤ y285.toInt + 220 := b319; omega)), (show 0 ≤ y300.toInt from (by have t1 : 0 ≤ y285.toInt := b303; have t2 : y285.toInt ≤ y300.toInt := b321; omega)), (show y300.toInt ≤ 1 from (by have t1 : 0 ≤ t20_1.toInt ∧ t20_1.toInt ≤ 1 := btt20_1; have t2 : y228.toInt ≤ t20_1.toInt := b242; have t3 : y300.toInt ≤ y228.toInt := b305; omega)), (show 0 ≤ y371.toInt from (by first | with_reducible exact q_fe b375 | (have t1 : 0 ≤ y371.toInt := b375; omega))), (show y371.toInt ≤ 68 from (by first | with_reducible exact q_fe b376 | (have t1 : y371.toInt ≤ 68 := b376; omega))), (show x2.toInt ≤ y285.toInt + 9 from (by have t1 : x2.toInt ≤ 9 := ob211; have t2 : 0 ≤ y285.toInt := b303; omega)), (show y285.toInt ≤ x2.toInt from (by have t1 : 0 ≤ x2.toInt := ob210; have t2 : y285.toInt ≤ 0 := b304; omega)), (show x3.toInt ≤ y285.toInt + 9 from (by have t1 : x3.toInt ≤ 9 := ob204; have t2 : 0 ≤ y285.toInt := b303; omega)), (show y285.toInt ≤ x3.toInt from (by have t1 : 0 ≤ x3.toInt := ob203; have t2 : y285.toInt ≤ 0 := b304; omega)), (show x4.toInt ≤ y285.toInt + 9 from (by have t1 : x4.toInt ≤ 9 := ob149; have t2 : 0 ≤ y285.toInt := b303; omega)), (show y285.toInt ≤ x4.toInt from (by have t1 : 0 ≤ x4.toInt := ob148; have t2 : y285.toInt ≤ 0 := b304; omega)), (show t10_1.toInt ≤ t18_1.toInt + 1 from (by have t1 : 0 ≤ t10_1.toInt ∧ t10_1.toInt ≤ 1 := btt10_1; have t2 : 0 ≤ t18_1.toInt ∧ t18_1.toInt ≤ 1 := btt18_1; omega)), (show t10_1.toInt ≤ t20_0.toInt + 1 from (by have t1 : 0 ≤ t10_1.toInt ∧ t10_1.toInt ≤ 1 := btt10_1; have t2 : 0 ≤ t20_0.toInt ∧ t20_0.toInt ≤ 68 := btt20_0; omega)), (show t10_1.toInt ≤ t20_1.toInt + 1 from (by have t1 : 0 ≤ t10_1.toInt ∧ t10_1.toInt ≤ 1 := btt10_1; have t2 : 0 ≤ t20_1.toInt ∧ t20_1.toInt ≤ 1 := btt20_1; omega)), (show y300.toInt ≤ t20_1.toInt from (by have t1 : y228.toInt ≤ t20_1.toInt := b242; have t2 : y300.toInt ≤ y228.toInt := b305; omega)), (show x5.toInt ≤ y371.toInt + 9 from (by first | with_reducible exact q_fe b377 | (have t1 : x5.toInt ≤ y371.toInt + 9 := b377; omega))), (show y371.toInt ≤ x5.toInt + 68 from (by first | with_reducible exact q_fe b378 | (have t1 : y371.toInt ≤ x5.toInt + 68 := b378; omega))), (show x5.toInt ≤ y372.toInt + 9 from (by first | with_reducible exact q_fe b380 | (have t1 : x5.toInt ≤ y372.toInt + 9 := b380; omega))), (show y372.toInt ≤ x5.toInt + 1 from (by first | with_reducible exact q_fe b381 | (have t1 : y372.toInt ≤ x5.toInt + 1 := b381; omega))), (show y279.toInt ≤ y289.toInt from (by first | with_reducible exact q_fe b307 | (have t1 : y279.toInt ≤ y289.toInt := b307; omega))), (show y371.toInt ≤ y279.toInt from (by first | with_reducible exact q_fe b379 | (have t1 : y371.toInt ≤ y279.toInt := b379; omega))), (show y372.toInt ≤ y280.toInt from (by first | with_reducible exact q_fe b383 | (have t1 : y372.toInt ≤ y280.toInt := b383; omega))), (show y280.toInt ≤ y372.toInt from (by first | with_reducible exact q_fe b382 | (have t1 : y280.toInt ≤ y372.toInt := b382; omega))), (show y372.toInt ≤ y290.toInt from (by have t1 : y280.toInt ≤ y290.toInt := b309; have t2 : y372.toInt ≤ y280.toInt := b383; omega)), (show y290.toInt ≤ y372.toInt from (by have t1 : y290.toInt ≤ y280.toInt := b308; have t2 : y280.toInt ≤ y372.toInt := b382; omega)), (show ((0 : Int32), y279, y280, f281, y284, y285, f286, y289, y290, f291, y294, y295, f296, t8_0, t8_1, t9_0, t10_0, t10_1, t11_0, t12_0, t12_1, t13_0, t14_0, t14_1, t15_0, y299, y300, f301, y371, y372, f373) = (F_NH_powerModulo x2 x3 x4 x5 t0_0 t0_1 t1_0 t2_0 t2_1 t3_0 t4_0 t4_1 t5_0 t6_0 t6_1 t7_0 t8_0 t8_1 t9_0 t10_0 t10_1 t11_0 t12_0 t12_1 t13_0 t14_0 t14_1 t15_0 t16_0 t16_1 t17_0 t18_0 t18_1 t19_0 t20_0 t20_1 t21_0 t22_0 t22_1 t23_0) from Eq.trans (by rw [e389, e388, e387, F_NH_powerModulo_c142.eq_1, if_pos c361]) hR365)⟩) d_1_10_145)
          ·
            have b390 : q_F (t18_1.toInt ≠ 0) := (q_neI c207)
            refine lv_aload_n hx hb d_1_10_69 rfl (lv_at hl 0 rfl) ?_
            refine q_get (ci := 0) (j := 6) (v := .ref (q 9)) C0 V i_NH rfl rfl hO146 (by decide) w_430 rfl d_1_10_70 ?_
            refine lv_aload_n hx hb d_1_10_73 rfl (lv_at hl 0 rfl) ?_
            refine q_get (ci := 0) (j := 2) (v := .ref (q 5)) C0 V i_NH rfl rfl hO146 (by decide) w_426 rfl d_1_10_74 ?_
            refine lv_iload_n hx hb d_1_10_77 rfl (lv_at hl 1 rfl) ?_
            have hX391 := n_fx hI (n_s5 g q)
            have ob392 : q_F (0 ≤ x2.toInt) := (by have h := hS189; rw [S_NH_powerModulo_J54.eq_1] at h; rw [if_pos c199] at h; replace h := q_s2 h; replace h := q_s2 h; rw [if_neg c207] at h; exact h.2.1)
            have ob393 : q_F (x2.toInt ≤ 9) := (by have h := hS189; rw [S_NH_powerModulo_J54.eq_1] at h; rw [if_pos c199] at h; replace h := q_s2 h; replace h := q_s2 h; rw [if_neg c207] at h; replace h := q_s2 h; exact h.2.1)
            have hj394 : x2.toNatClampNeg < 10 := by have z := q_clI (i := x2) (x := x2.toInt) rfl (by first | with_reducible exact q_fe ob392 | (have t1 : 0 ≤ x2.toInt := ob392; omega)); have t1 : 0 ≤ x2.toInt := ob392; have t2 : x2.toInt ≤ 9 := ob393; omega
            have hq395 := gk2x2 hj394
            refine q_aald (t := 4) (q := q k2) C0 V hX391 rfl (q_ix (x := x2.toInt) rfl (by first | with_reducible exact q_fe ob392 | (have t1 : 0 ≤ x2.toInt := ob392; omega)) (by have t1 : 0 ≤ x2.toInt := ob392; have t2 : x2.toInt ≤ 9 := ob393; omega)) (by rw [hq395]; exact n_fwv hj394) d_1_10_78 ?_
            refine lv_aload_n hx hb d_1_10_79 rfl (lv_at hl 0 rfl) ?_
            refine q_get (ci := 0) (j := 2) (v := .ref (q 5)) C0 V i_NH rfl rfl hO146 (by decide) w_426 rfl d_1_10_80 ?_
            refine lv_iload_n hx hb d_1_10_83 rfl (lv_at hl 3 rfl) ?_
            have hX396 := n_fx hI (n_s5 g q)
            have hj397 : x4.toNatClampNeg < 10 := by have z := q_clI (i := x4) (x := x4.toInt) rfl (by first | with_reducible exact q_fe ob148 | (have t1 : 0 ≤ x4.toInt := ob148; omega)); have t1 : 0 ≤ x4.toInt := ob148; have t2 : x4.toInt ≤ 9 := ob149; omega
            have hq398 := gk4x4 hj397
            refine q_aald (t := 4) (q := q k4) C0 V hX396 rfl (q_ix (x := x4.toInt) rfl (by first | with_reducible exact q_fe ob148 | (have t1 : 0 ≤ x4.toInt := ob148; omega)) (by have t1 : 0 ≤ x4.toInt := ob148; have t2 : x4.toInt ≤ 9 := ob149; omega)) (by rw [hq398]; exact n_fwv hj397) d_1_10_84 ?_
            have ob399 : True ∧ S_Mil_inverse (68 : Int32) (68 : Int32) t0_0 t0_1 t1_0 t2_0 t2_1 t3_0 t6_0 t6_1 t7_0 t8_0 t8_1 t9_0 t10_0 t10_1 t11_0 t12_0 t12_1 t13_0 t14_0 t14_1 t15_0 t16_0 t16_1 t17_0 t20_0 t20_1 t21_0 := (by have h := hS189; rw [S_NH_powerModulo_J54.eq_1] at h; rw [if_pos c199] at h; replace h := q_s2 h; replace h := q_s2 h; rw [if_neg c207] at h; replace h := q_s2 h; replace h := q_s2 h; with_reducible exact h.2.1)
            have hO400 := n_o9 hI
            refine q_goi V (q_runV (As := [.ref (q k2), .ref (q k4)]) (rest := []) (d := 6) (mc := 0) (ms := 0) (ci := 4) C0 V rfl LV_NH_236 (X_Mil_inverse l D g q ws k2 68 hBk2 (Or.inr yk2) k4 68 hBk4 (Or.inr yk4)  (by have z0 := yk2; omega) (by have z0 := yk2; omega) (by have z0 := yk2; omega) (by have z0 := yk2; omega) (by have z0 := yk2; omega) (by have z0 := yk2; omega) (by have z0 := yk2; omega) (by have z0 := yk2; omega) (by have z0 := yk2; omega) (by have z0 := yk2; omega) (by have z0 := yk2; omega) (by have z0 := yk2; omega) (by have z0 := yk2; omega) (by have z0 := yk2; omega) (by have z0 := yk2; omega) (by have z0 := yk2; omega) (by have z0 := yk2; omega) (by have z0 := yk2; omega) (by have z0 := yk2; omega) (by have z0 := yk2; omega) (by have z0 := yk2; omega) (by have z0 := yk4; omega) (by have z0 := yk4; omega) (by have z0 := yk4; omega) (by have z0 := yk4; omega) (by have z0 := yk4; omega) (by have z0 := yk4; omega) (by have z0 := yk4; omega) (by have z0 := yk4; omega) (by have z0 := yk4; omega) (by have z0 := yk4; omega) (by have z0 := yk4; omega) (by have z0 := yk4; omega) (by have z0 := yk4; omega) (by have z0 := yk4; omega) (by have z0 := yk4; omega) (by have z0 := yk4; omega) (by have z0 := yk4; omega) (by have z0 := yk4; omega) (by have z0 := yk4; omega) (by have z0 := yk4; omega) (by have z0 := yk4; omega) (by have z := ne_k2_k4; omega) hI t0_0 t0_1 hT0 t1_0 hT1 t2_0 t2_1 hT2 t3_0 hT3 t6_0 t6_1 hT6 t7_0 hT7 t8_0 t8_1 hT8 t9_0 hT9 t10_0 t10_1 hT10 t11_0 hT11 t12_0 t12_1 hT12 t13_0 hT13 t14_0 t14_1 hT14 t15_0 hT15 t16_0 t16_1 hT16 t17_0 hT17 t20_0 t20_1 hT20 t21_0 hT21 ob399 _) rfl rfl hO400 rfl hl.1 rfl (Nat.le_of_ble_eq_true rfl) ⟨by decide, by decide⟩ ⟨Nat.le_of_ble_eq_true rfl, Nat.le_of_ble_eq_true rfl⟩ d_1_10_85) (fun a403 u401 H locs hp402 V => ?_)
            obtain ⟨hI, hZ9⟩ := hp402
            obtain ⟨hu485, hZ9⟩ := hZ9
            obtain ⟨y405, hZ9⟩ := hZ9
            obtain ⟨y406, hZ9⟩ := hZ9
            obtain ⟨f407, hZ9⟩ := hZ9
            obtain ⟨y410, hZ9⟩ := hZ9
            obtain ⟨y411, hZ9⟩ := hZ9
            obtain ⟨f412, hZ9⟩ := hZ9
            obtain ⟨y415, hZ9⟩ := hZ9
            obtain ⟨y416, hZ9⟩ := hZ9
            obtain ⟨f417, hZ9⟩ := hZ9
            obtain ⟨y420, hZ9⟩ := hZ9
            obtain ⟨y421, hZ9⟩ := hZ9
            obtain ⟨f422, hZ9⟩ := hZ9
            obtain ⟨y425, hZ9⟩ := hZ9
            obtain ⟨y426, hZ9⟩ := hZ9
            obtain ⟨f427, hZ9⟩ := hZ9
            obtain ⟨y430, hZ9⟩ := hZ9
            obtain ⟨y431, hZ9⟩ := hZ9
            obtain ⟨f432, hZ9⟩ := hZ9
            obtain ⟨y435, hZ9⟩ := hZ9
            obtain ⟨y436, hZ9⟩ := hZ9
            obtain ⟨f437, hZ9⟩ := hZ9
            obtain ⟨y440, hZ9⟩ := hZ9
            obtain ⟨y441, hZ9⟩ := hZ9
            obtain ⟨f442, hZ9⟩ := hZ9
            obtain ⟨hO404, hZ9⟩ := hZ9
            obtain ⟨hA408, hZ9⟩ := hZ9
            obtain ⟨hO409, hZ9⟩ := hZ9
            obtain ⟨hA413, hZ9⟩ := hZ9
            obtain ⟨hO414, hZ9⟩ := hZ9
            obtain ⟨hA418, hZ9⟩ := hZ9
            obtain ⟨hO419, hZ9⟩ := hZ9
            obtain ⟨hA423, hZ9⟩ := hZ9
            obtain ⟨hO424, hZ9⟩ := hZ9
            obtain ⟨hA428, hZ9⟩ := hZ9
            obtain ⟨hO429, hZ9⟩ := hZ9
            obtain ⟨hA433, hZ9⟩ := hZ9
            obtain ⟨hO434, hZ9⟩ := hZ9
            obtain ⟨hA438, hZ9⟩ := hZ9
            obtain ⟨hO439, hZ9⟩ := hZ9
            obtain ⟨hA443, hZ9⟩ := hZ9
            obtain ⟨b444, hZ9⟩ := hZ9
            obtain ⟨b445, hZ9⟩ := hZ9
            replace hZ9 := hZ9.2.2.2.2.2.2.2.2.2.2.2.2
            obtain ⟨b458, hZ9⟩ := hZ9
            obtain ⟨b459, hZ9⟩ := hZ9
            obtain ⟨b460, hZ9⟩ := hZ9
            obtain ⟨b461, hZ9⟩ := hZ9
            obtain ⟨b462, hZ9⟩ := hZ9
            obtain ⟨b463, hZ9⟩ := hZ9
            obtain ⟨b464, hZ9⟩ := hZ9
            obtain ⟨b465, hZ9⟩ := hZ9
            obtain ⟨b466, hZ9⟩ := hZ9
            obtain ⟨b467, hZ9⟩ := hZ9
            obtain ⟨b468, hZ9⟩ := hZ9
            obtain ⟨b469, hZ9⟩ := hZ9
            obtain ⟨b470, hZ9⟩ := hZ9
            obtain ⟨b471, hZ9⟩ := hZ9
            replace hZ9 := hZ9.2.2.2
            obtain ⟨b475, hZ9⟩ := hZ9
            replace hZ9 := hZ9.2
            obtain ⟨b477, hZ9⟩ := hZ9
            obtain ⟨b478, hZ9⟩ := hZ9
            replace hZ9 := hZ9.2
            obtain ⟨b480, hZ9⟩ := hZ9
            replace hZ9 := hZ9.2.2
            obtain ⟨b483, hE484⟩ := hZ9
            replace hO404 : u401[10]? = (some (q 10, .inr (2, [.ref (q 11), .int y405, .int y406])) : Option (Nat × va_E)) := hO404
            replace hA408 : u401[11]? = (some (q 11, .inl (g 0, (220 : Int32).toNatClampNeg, .inl f407)) : Option (Nat × va_E)) := hA408
            replace hO409 : u401[12]? = (some (q 12, .inr (2, [.ref (q 13), .int y410, .int y411])) : Option (Nat × va_E)) := hO409
            replace hA413 : u401[13]? = (some (q 13, .inl (g 0, (220 : Int32).toNatClampNeg, .inl f412)) : Option (Nat × va_E)) := hA413
            replace hO414 : u401[18]? = (some (q 18, .inr (2, [.ref (q 19), .int y415, .int y416])) : Option (Nat × va_E)) := hO414
            replace hA418 : u401[19]? = (some (q 19, .inl (g 0, (220 : Int32).toNatClampNeg, .inl f417)) : Option (Nat × va_E)) := hA418
            replace hO419 : u401[22]? = (some (q 22, .inr (2, [.ref (q 23), .int y420, .int y421])) : Option (Nat × va_E)) := hO419
            replace hA423 : u401[23]? = (some (q 23, .inl (g 0, (220 : Int32).toNatClampNeg, .inl f422)) : Option (Nat × va_E)) := hA423
            replace hO424 : u401[24]? = (some (q 24, .inr (2, [.ref (q 25), .int y425, .int y426])) : Option (Nat × va_E)) := hO424
            replace hA428 : u401[25]? = (some (q 25, .inl (g 0, (220 : Int32).toNatClampNeg, .inl f427)) : Option (Nat × va_E)) := hA428
            replace hO429 : u401[26]? = (some (q 26, .inr (2, [.ref (q 27), .int y430, .int y431])) : Option (Nat × va_E)) := hO429
            replace hA433 : u401[27]? = (some (q 27, .inl (g 0, (220 : Int32).toNatClampNeg, .inl f432)) : Option (Nat × va_E)) := hA433
            replace hO434 : u401[28]? = (some (q 28, .inr (2, [.ref (q 29), .int y435, .int y436])) : Option (Nat × va_E)) := hO434
            replace hA438 : u401[29]? = (some (q 29, .inl (g 0, (220 : Int32).toNatClampNeg, .inl f437)) : Option (Nat × va_E)) := hA438
            replace hO439 : u401[k4]? = (some (q k4, .inr (2, [.ref (q (k4 + 1)), .int y440, .int y441])) : Option (Nat × va_E)) := hO439
            replace hA443 : u401[k4 + 1]? = (some (q (k4 + 1), .inl (g 0, (68 : Int32).toNatClampNeg, .inl f442)) : Option (Nat × va_E)) := hA443
            obtain ⟨p486, e487⟩ : ∃ z, z = (F_Mil_inverse (68 : Int32) (68 : Int32) t0_0 t0_1 t1_0 t2_0 t2_1 t3_0 t6_0 t6_1 t7_0 t8_0 t8_1 t9_0 t10_0 t10_1 t11_0 t12_0 t12_1 t13_0 t14_0 t14_1 t15_0 t16_0 t16_1 t17_0 t20_0 t20_1 t21_0) := ⟨_, rfl⟩
            have e488 : a403 = p486.1 := congrArg (fun z => z.1) (hE484.trans e487.symm)
            have e489 : y405 = p486.2.1 := congrArg (fun z => z.2.1) (hE484.trans e487.symm)
            have e490 : y406 = p486.2.2.1 := congrArg (fun z => z.2.2.1) (hE484.trans e487.symm)
            have e491 : f407 = p486.2.2.2.1 := congrArg (fun z => z.2.2.2.1) (hE484.trans e487.symm)
            have e492 : y410 = p486.2.2.2.2.1 := congrArg (fun z => z.2.2.2.2.1) (hE484.trans e487.symm)
            have e493 : y411 = p486.2.2.2.2.2.1 := congrArg (fun z => z.2.2.2.2.2.1) (hE484.trans e487.symm)
            have e494 : f412 = p486.2.2.2.2.2.2.1 := congrArg (fun z => z.2.2.2.2.2.2.1) (hE484.trans e487.symm)
            have e495 : y415 = p486.2.2.2.2.2.2.2.1 := congrArg (fun z => z.2.2.2.2.2.2.2.1) (hE484.trans e487.symm)
            have e496 : y416 = p486.2.2.2.2.2.2.2.2.1 := congrArg (fun z => z.2.2.2.2.2.2.2.2.1) (hE484.trans e487.symm)
            have e497 : f417 = p486.2.2.2.2.2.2.2.2.2.1 := congrArg (fun z => z.2.2.2.2.2.2.2.2.2.1) (hE484.trans e487.symm)
            have e498 : y420 = p486.2.2.2.2.2.2.2.2.2.2.1 := congrArg (fun z => z.2.2.2.2.2.2.2.2.2.2.1) (hE484.trans e487.symm)
            have e499 : y421 = p486.2.2.2.2.2.2.2.2.2.2.2.1 := congrArg (fun z => z.2.2.2.2.2.2.2.2.2.2.2.1) (hE484.trans e487.symm)
            have e500 : f422 = p486.2.2.2.2.2.2.2.2.2.2.2.2.1 := congrArg (fun z => z.2.2.2.2.2.2.2.2.2.2.2.2.1) (hE484.trans e487.symm)
            have e501 : y425 = p486.2.2.2.2.2.2.2.2.2.2.2.2.2.1 := congrArg (fun z => z.2.2.2.2.2.2.2.2.2.2.2.2.2.1) (hE484.trans e487.symm)
            have e502 : y426 = p486.2.2.2.2.2.2.2.2.2.2.2.2.2.2.1 := congrArg (fun z => z.2.2.2.2.2.2.2.2.2.2.2.2.2.2.1) (hE484.trans e487.symm)
            have e503 : f427 = p486.2.2.2.2.2.2.2.2.2.2.2.2.2.2.2.1 := congrArg (fun z => z.2.2.2.2.2.2.2.2.2.2.2.2.2.2.2.1) (hE484.trans e487.symm)
            have e504 : y430 = p486.2.2.2.2.2.2.2.2.2.2.2.2.2.2.2.2.1 := congrArg (fun z => z.2.2.2.2.2.2.2.2.2.2.2.2.2.2.2.2.1) (hE484.trans e487.symm)
            have e505 : y431 = p486.2.2.2.2.2.2.2.2.2.2.2.2.2.2.2.2.2.1 := congrArg (fun z => z.2.2.2.2.2.2.2.2.2.2.2.2.2.2.2.2.2.1) (hE484.trans e487.symm)
            have e506 : f432 = p486.2.2.2.2.2.2.2.2.2.2.2.2.2.2.2.2.2.2.1 := congrArg (fun z => z.2.2.2.2.2.2.2.2.2.2.2.2.2.2.2.2.2.2.1) (hE484.trans e487.symm)
            have e507 : y435 = p486.2.2.2.2.2.2.2.2.2.2.2.2.2.2.2.2.2.2.2.1 := congrArg (fun z => z.2.2.2.2.2.2.2.2.2.2.2.2.2.2.2.2.2.2.2.1) (hE484.trans e487.symm)
            have e508 : y436 = p486.2.2.2.2.2.2.2.2.2.2.2.2.2.2.2.2.2.2.2.2.1 := congrArg (fun z => z.2.2.2.2.2.2.2.2.2.2.2.2.2.2.2.2.2.2.2.2.1) (hE484.trans e487.symm)
            have e509 : f437 = p486.2.2.2.2.2.2.2.2.2.2.2.2.2.2.2.2.2.2.2.2.2.1 := congrArg (fun z => z.2.2.2.2.2.2.2.2.2.2.2.2.2.2.2.2.2.2.2.2.2.1) (hE484.trans e487.symm)
            have e510 : y440 = p486.2.2.2.2.2.2.2.2.2.2.2.2.2.2.2.2.2.2.2.2.2.2.1 := congrArg (fun z => z.2.2.2.2.2.2.2.2.2.2.2.2.2.2.2.2.2.2.2.2.2.2.1) (hE484.trans e487.symm)
            have e511 : y441 = p486.2.2.2.2.2.2.2.2.2.2.2.2.2.2.2.2.2.2.2.2.2.2.2.1 := congrArg (fun z => z.2.2.2.2.2.2.2.2.2.2.2.2.2.2.2.2.2.2.2.2.2.2.2.1) (hE484.trans e487.symm)
            have e512 : f442 = p486.2.2.2.2.2.2.2.2.2.2.2.2.2.2.2.2.2.2.2.2.2.2.2.2 := congrArg (fun z => z.2.2.2.2.2.2.2.2.2.2.2.2.2.2.2.2.2.2.2.2.2.2.2.2) (hE484.trans e487.symm)
            replace b444 : q_F (0 ≤ a403.toInt) := b444
            replace b445 : q_F (a403.toInt ≤ 1) := b445
            replace b458 : q_F (0 ≤ y420.toInt) := b458
            replace b459 : q_F (y420.toInt ≤ 220) := b459
            replace b460 : q_F (0 ≤ y421.toInt) := b460
            replace b461 : q_F (0 ≤ y425.toInt) := b461
            replace b462 : q_F (y425.toInt ≤ 220) := b462
            replace b463 : q_F (0 ≤ y426.toInt) := b463
            replace b464 : q_F (0 ≤ y430.toInt) := b464
            replace b465 : q_F (y430.toInt ≤ 220) := b465
            replace b466 : q_F (0 ≤ y431.toInt) := b466
            replace b467 : q_F (y431.toInt ≤ 1) := b467
            replace b468 : q_F (0 ≤ y435.toInt) := b468
            replace b469 : q_F (y435.toInt ≤ 220) := b469
            replace b470 : q_F (0 ≤ y436.toInt) := b470
            replace b471 : q_F (y436.toInt ≤ 1) := b471
            replace b475 : q_F (y441.toInt ≤ 1) := b475
            replace b477 : q_F (y421.toInt ≤ t20_1.toInt) := b477
            replace b478 : q_F (y426.toInt ≤ t20_0.toInt + 1) := b478
            replace b480 : q_F (y441.toInt ≤ t20_1.toInt) := b480
            replace b483 : q_F (y426.toInt ≤ y441.toInt + 1) := b483
            replace hT4 := (hu485 _ (by have z0 := yk4; simp only [List.mem_cons, List.not_mem_nil, or_false, not_or]; omega)).trans hT4
            replace hT5 := (hu485 _ (by have z0 := yk4; simp only [List.mem_cons, List.not_mem_nil, or_false, not_or]; omega)).trans hT5
            replace hT18 := (hu485 _ (q_nc (by have z0 := yk3; omega) (q_nc (by have z0 := yk3; omega) (q_nc (by have z0 := yk3; omega) (q_nc (by have z0 := yk3; omega) (q_nc (by have z0 := yk3; omega) (q_nc (by have z0 := yk3; omega) (q_nc (by have z0 := yk3; omega) (q_nc (by have z0 := yk3; omega) (q_nc (by have z0 := yk3; omega) (q_nc (by have z0 := yk3; omega) (q_nc (by have z0 := yk3; omega) (q_nc (by have z0 := yk3; omega) (q_nc (by have z0 := yk3; omega) (q_nc (by have z0 := yk3; omega) (q_nc (by have z := ne_k3_k4; omega) (q_nc (by have z := ne_k3_k4p1; omega) List.not_mem_nil))))))))))))))))).trans hT18
            replace hT19 := (hu485 _ (q_nc (by have z0 := yk3; omega) (q_nc (by have z0 := yk3; omega) (q_nc (by have z0 := yk3; omega) (q_nc (by have z0 := yk3; omega) (q_nc (by have z0 := yk3; omega) (q_nc (by have z0 := yk3; omega) (q_nc (by have z0 := yk3; omega) (q_nc (by have z0 := yk3; omega) (q_nc (by have z0 := yk3; omega) (q_nc (by have z0 := yk3; omega) (q_nc (by have z0 := yk3; omega) (q_nc (by have z0 := yk3; omega) (q_nc (by have z0 := yk3; omega) (q_nc (by have z0 := yk3; omega) (q_nc (by have z := ne_k4_k3p1; omega) (q_nc (by have z := ne_k3_k4; omega) List.not_mem_nil))))))))))))))))).trans hT19
            replace hT22 := (hu485 _ (q_nc (by have z0 := yk5; omega) (q_nc (by have z0 := yk5; omega) (q_nc (by have z0 := yk5; omega) (q_nc (by have z0 := yk5; omega) (q_nc (by have z0 := yk5; omega) (q_nc (by have z0 := yk5; omega) (q_nc (by have z0 := yk5; omega) (q_nc (by have z0 := yk5; omega) (q_nc (by have z0 := yk5; omega) (q_nc (by have z0 := yk5; omega) (q_nc (by have z0 := yk5; omega) (q_nc (by have z0 := yk5; omega) (q_nc (by have z0 := yk5; omega) (q_nc (by have z0 := yk5; omega) (q_nc (by have z := ne_k5_k4; omega) (q_nc (by have z := ne_k5_k4p1; omega) List.not_mem_nil))))))))))))))))).trans hT22
            replace hT23 := (hu485 _ (q_nc (by have z0 := yk5; omega) (q_nc (by have z0 := yk5; omega) (q_nc (by have z0 := yk5; omega) (q_nc (by have z0 := yk5; omega) (q_nc (by have z0 := yk5; omega) (q_nc (by have z0 := yk5; omega) (q_nc (by have z0 := yk5; omega) (q_nc (by have z0 := yk5; omega) (q_nc (by have z0 := yk5; omega) (q_nc (by have z0 := yk5; omega) (q_nc (by have z0 := yk5; omega) (q_nc (by have z0 := yk5; omega) (q_nc (by have z0 := yk5; omega) (q_nc (by have z0 := yk5; omega) (q_nc (by have z := ne_k4_k5p1; omega) (q_nc (by have z := ne_k5_k4; omega) List.not_mem_nil))))))))))))))))).trans hT23
            replace hO146 := (hu485 _ (by have z0 := yk4; simp only [List.mem_cons, List.not_mem_nil, or_false, not_or]; omega)).trans hO146
            replace hO400 := (hu485 _ (by have z0 := yk4; simp only [List.mem_cons, List.not_mem_nil, or_false, not_or]; omega)).trans hO400
            replace hF := q_uc hF hu485 (by simp)
            have hR513 := (show F_NH_powerModulo_c85 x2 x3 x4 x5 t0_0 t0_1 t1_0 t2_0 t2_1 t3_0 t4_0 t4_1 t5_0 t6_0 t6_1 t7_0 t8_0 t8_1 t9_0 t10_0 t10_1 t11_0 t12_0 t12_1 t13_0 t14_0 t14_1 t15_0 t16_0 t16_1 t17_0 t18_0 t18_1 t19_0 t20_0 t20_1 t21_0 t22_0 t22_1 t23_0 lx104 lx160 p486 = (F_NH_powerModulo x2 x3 x4 x5 t0_0 t0_1 t1_0 t2_0 t2_1 t3_0 t4_0 t4_1 t5_0 t6_0 t6_1 t7_0 t8_0 t8_1 t9_0 t10_0 t10_1 t11_0 t12_0 t12_1 t13_0 t14_0 t14_1 t15_0 t16_0 t16_1 t17_0 t18_0 t18_1 t19_0 t20_0 t20_1 t21_0 t22_0 t22_1 t23_0) from Eq.trans (by rw [e487, F_NH_powerModulo_J54.eq_1, if_pos c199, if_neg c207]) hR188)
            have hS514 := (show True ∧ S_NH_powerModulo_c85 x2 x3 x4 x5 t0_0 t0_1 t1_0 t2_0 t2_1 t3_0 t4_0 t4_1 t5_0 t6_0 t6_1 t7_0 t8_0 t8_1 t9_0 t10_0 t10_1 t11_0 t12_0 t12_1 t13_0 t14_0 t14_1 t15_0 t16_0 t16_1 t17_0 t18_0 t18_1 t19_0 t20_0 t20_1 t21_0 t22_0 t22_1 t23_0 lx104 lx160 p486 from (by rw [e487]; have h := hS189; rw [S_NH_powerModulo_J54.eq_1] at h; rw [if_pos c199] at h; replace h := q_s2 h; replace h := q_s2 h; rw [if_neg c207] at h; replace h := q_s2 h; replace h := q_s2 h; replace h := q_s2 h; with_reducible exact h))
            refine q_goxv V (q_runSX (As := [.int a403]) (rest := []) (d := 7) (mc := 1) (ms := 6) C0 V rfl LS_NH_138 (X_NH_canHave l D g q u401  a403 hlt hI  ⟨(by first | with_reducible exact q_fe b444 | (have t1 : 0 ≤ a403.toInt := b444; omega)), (by first | with_reducible exact q_fe b445 | (have t1 : a403.toInt ≤ 1 := b445; omega))⟩ _) rfl hl.1 rfl (Nat.le_of_ble_eq_true rfl) ⟨by decide, by decide⟩ ⟨Nat.le_of_ble_eq_true rfl, Nat.le_of_ble_eq_true rfl⟩ d_1_10_88) (fun qx Ex ce u518 H locs hp519 V hce hcv hcl => ?_) (fun u518 H locs hp519 V => ?_)
            ·
              obtain ⟨cx521, he522, hc523, rfl, hE520⟩ := hp519
              have c524 : ¬ (F_NH_canHave a403) = (0 : Int32) := fun z => hc523 (((hE520) : cx521 = _).trans z)
              exact q_outT hno C0 V (⟨(F_NH_canHave a403), (he522.trans (congrArg qE ((hE520) : cx521 = _))), c524, hI, hF, y405, y406, f407, y410, y411, f412, t4_0, t4_1, t5_0, y415, y416, f417, y420, y421, f422, y425, y426, f427, y430, y431, f432, y435, y436, f437, y440, y441, f442, t22_0, t22_1, t23_0, hO404, hA408, hO409, hA413, hT4, hT5, hO414, hA418, hO419, hA423, hO424, hA428, hO429, hA433, hO434, hA438, hO439, hA443, hT22, hT23, (show ((F_NH_canHave a403), y405, y406, f407, y410, y411, f412, t4_0, t4_1, t5_0, y415, y416, f417, y420, y421, f422, y425, y426, f427, y430, y431, f432, y435, y436, f437, y440, y441, f442, t22_0, t22_1, t23_0) = (F_NH_powerModulo x2 x3 x4 x5 t0_0 t0_1 t1_0 t2_0 t2_1 t3_0 t4_0 t4_1 t5_0 t6_0 t6_1 t7_0 t8_0 t8_1 t9_0 t10_0 t10_1 t11_0 t12_0 t12_1 t13_0 t14_0 t14_1 t15_0 t16_0 t16_1 t17_0 t18_0 t18_1 t19_0 t20_0 t20_1 t21_0 t22_0 t22_1 t23_0) from Eq.trans (by have c524x := c524; rw [e488] at c524x; rw [e512, e511, e510, e509, e508, e507, e506, e505, e504, e503, e502, e501, e500, e499, e498, e497, e496, e495, e494, e493, e492, e491, e490, e489, e488, F_NH_powerModulo_c85.eq_1, if_neg c524x]) hR513)⟩) hce hcv hcl (Nat.le_of_ble_eq_true rfl) (Nat.le_of_ble_eq_true rfl)
            ·
              obtain ⟨rfl, hE525⟩ := hp519
              have c524 : (F_NH_canHave a403) = (0 : Int32) := ((hE525) : (0 : Int32) = _).symm
              refine lv_goto (tgt := 120) hx hb d_1_10_91 (by decide) ?_
              refine lv_aload_n hx hb d_1_10_120 rfl (lv_at hl 0 rfl) ?_
              refine q_get (ci := 0) (j := 6) (v := .ref (q 9)) C0 V i_NH rfl rfl hO146 (by decide) w_430 rfl d_1_10_121 ?_
              refine lv_aload_n hx hb d_1_10_124 rfl (lv_at hl 0 rfl) ?_
              refine q_get (ci := 0) (j := 2) (v := .ref (q 5)) C0 V i_NH rfl rfl hO146 (by decide) w_426 rfl d_1_10_125 ?_
              refine lv_iload_n hx hb d_1_10_128 rfl (lv_at hl 2 rfl) ?_
              have hX527 := n_fx hI (n_s5 g q)
              have hj528 : x3.toNatClampNeg < 10 := by have z := q_clI (i := x3) (x := x3.toInt) rfl (by first | with_reducible exact q_fe ob203 | (have t1 : 0 ≤ x3.toInt := ob203; omega)); have t1 : 0 ≤ x3.toInt := ob203; have t2 : x3.toInt ≤ 9 := ob204; omega
              have hq529 := gk3x3 hj528
              refine q_aald (t := 4) (q := q k3) C0 V hX527 rfl (q_ix (x := x3.toInt) rfl (by first | with_reducible exact q_fe ob203 | (have t1 : 0 ≤ x3.toInt := ob203; omega)) (by have t1 : 0 ≤ x3.toInt := ob203; have t2 : x3.toInt ≤ 9 := ob204; omega)) (by rw [hq529]; exact n_fwv hj528) d_1_10_129 ?_
              refine lv_aload_n hx hb d_1_10_130 rfl (lv_at hl 0 rfl) ?_
              refine q_get (ci := 0) (j := 2) (v := .ref (q 5)) C0 V i_NH rfl rfl hO146 (by decide) w_426 rfl d_1_10_131 ?_
              refine lv_iload_n hx hb d_1_10_134 rfl (lv_at hl 3 rfl) ?_
              have hX530 := n_fx hI (n_s5 g q)
              have hj531 : x4.toNatClampNeg < 10 := by have z := q_clI (i := x4) (x := x4.toInt) rfl (by first | with_reducible exact q_fe ob148 | (have t1 : 0 ≤ x4.toInt := ob148; omega)); have t1 : 0 ≤ x4.toInt := ob148; have t2 : x4.toInt ≤ 9 := ob149; omega
              have hq532 := gk4x4 hj531
              refine q_aald (t := 4) (q := q k4) C0 V hX530 rfl (q_ix (x := x4.toInt) rfl (by first | with_reducible exact q_fe ob148 | (have t1 : 0 ≤ x4.toInt := ob148; omega)) (by have t1 : 0 ≤ x4.toInt := ob148; have t2 : x4.toInt ≤ 9 := ob149; omega)) (by rw [hq532]; exact n_fwv hj531) d_1_10_135 ?_
              have ob533 : True ∧ S_Mil_powerBelow (68 : Int32) (68 : Int32) y405 y406 f407 y410 y411 f412 t4_0 t4_1 t5_0 y415 y416 f417 t18_0 t18_1 t19_0 y440 y441 f442 := (by rw [e512, e511, e510, e497, e496, e495, e494, e493, e492, e491, e490, e489]; have h := hS514; rw [S_NH_powerModulo_c85.eq_1] at h; have c524x := c524; rw [e488] at c524x; rw [if_pos c524x] at h; with_reducible exact h.2.1)
              refine q_gov V (q_runV (As := [.ref (q k3), .ref (q k4)]) (rest := []) (d := 5) (mc := 0) (ms := 0) (ci := 4) C0 V rfl LV_NH_266 (X_Mil_powerBelow l D g q u401 k3 68 hBk3 (Or.inr yk3) k4 68 hBk4 (Or.inr yk4)  (by have z0 := yk3; omega) (by have z0 := yk3; omega) (by have z0 := yk3; omega) (by have z0 := yk3; omega) (by have z0 := yk3; omega) (by have z0 := yk3; omega) (by have z0 := yk3; omega) (by have z0 := yk3; omega) (by have z0 := yk3; omega) (by have z0 := yk3; omega) (by have z0 := yk3; omega) (by have z0 := yk3; omega) (by have z0 := yk4; omega) (by have z0 := yk4; omega) (by have z0 := yk4; omega) (by have z0 := yk4; omega) (by have z0 := yk4; omega) (by have z0 := yk4; omega) (by have z0 := yk4; omega) (by have z0 := yk4; omega) (by have z0 := yk4; omega) (by have z0 := yk4; omega) (by have z0 := yk4; omega) (by have z0 := yk4; omega) (by have z := ne_k3_k4; omega) hI y405 y406 hO404 f407 hA408 y410 y411 hO409 f412 hA413 t4_0 t4_1 hT4 t5_0 hT5 y415 y416 hO414 f417 hA418 t18_0 t18_1 hT18 t19_0 hT19 y440 y441 hO439 f442 hA443 ob533 _) rfl rfl hO400 rfl hl.1 rfl (Nat.le_of_ble_eq_true rfl) ⟨by decide, by decide⟩ ⟨Nat.le_of_ble_eq_true rfl, Nat.le_of_ble_eq_true rfl⟩ d_1_10_136) (fun u534 H locs hp535 V => ?_)
              obtain ⟨hI, hZ9⟩ := hp535
              obtain ⟨hu581, hZ9⟩ := hZ9
              obtain ⟨y537, hZ9⟩ := hZ9
              obtain ⟨y538, hZ9⟩ := hZ9
              obtain ⟨f539, hZ9⟩ := hZ9
              obtain ⟨y542, hZ9⟩ := hZ9
              obtain ⟨y543, hZ9⟩ := hZ9
              obtain ⟨f544, hZ9⟩ := hZ9
              obtain ⟨y547, hZ9⟩ := hZ9
              obtain ⟨y548, hZ9⟩ := hZ9
              obtain ⟨f549, hZ9⟩ := hZ9
              obtain ⟨y552, hZ9⟩ := hZ9
              obtain ⟨y553, hZ9⟩ := hZ9
              obtain ⟨f554, hZ9⟩ := hZ9
              obtain ⟨y557, hZ9⟩ := hZ9
              obtain ⟨y558, hZ9⟩ := hZ9
              obtain ⟨f559, hZ9⟩ := hZ9
              obtain ⟨hO536, hZ9⟩ := hZ9
              obtain ⟨hA540, hZ9⟩ := hZ9
              obtain ⟨hO541, hZ9⟩ := hZ9
              obtain ⟨hA545, hZ9⟩ := hZ9
              obtain ⟨hO546, hZ9⟩ := hZ9
              obtain ⟨hA550, hZ9⟩ := hZ9
              obtain ⟨hO551, hZ9⟩ := hZ9
              obtain ⟨hA555, hZ9⟩ := hZ9
              obtain ⟨hO556, hZ9⟩ := hZ9
              obtain ⟨hA560, hZ9⟩ := hZ9
              obtain ⟨b561, hZ9⟩ := hZ9
              obtain ⟨b562, hZ9⟩ := hZ9
              obtain ⟨b563, hZ9⟩ := hZ9
              obtain ⟨b564, hZ9⟩ := hZ9
              obtain ⟨b565, hZ9⟩ := hZ9
              obtain ⟨b566, hZ9⟩ := hZ9
              obtain ⟨b567, hZ9⟩ := hZ9
              obtain ⟨b568, hZ9⟩ := hZ9
              obtain ⟨b569, hZ9⟩ := hZ9
              obtain ⟨b570, hZ9⟩ := hZ9
              obtain ⟨b571, hZ9⟩ := hZ9
              obtain ⟨b572, hZ9⟩ := hZ9
              obtain ⟨b573, hZ9⟩ := hZ9
              obtain ⟨b574, hZ9⟩ := hZ9
              obtain ⟨b575, hZ9⟩ := hZ9
              obtain ⟨b576, hZ9⟩ := hZ9
              obtain ⟨b577, hZ9⟩ := hZ9
              obtain ⟨b578, hZ9⟩ := hZ9
              obtain ⟨b579, hE580⟩ := hZ9
              replace hO536 : u534[10]? = (some (q 10, .inr (2, [.ref (q 11), .int y537, .int y538])) : Option (Nat × va_E)) := hO536
              replace hA540 : u534[11]? = (some (q 11, .inl (g 0, (220 : Int32).toNatClampNeg, .inl f539)) : Option (Nat × va_E)) := hA540
              replace hO541 : u534[12]? = (some (q 12, .inr (2, [.ref (q 13), .int y542, .int y543])) : Option (Nat × va_E)) := hO541
              replace hA545 : u534[13]? = (some (q 13, .inl (g 0, (220 : Int32).toNatClampNeg, .inl f544)) : Option (Nat × va_E)) := hA545
              replace hO546 : u534[14]? = (some (q 14, .inr (2, [.ref (q 15), .int y547, .int y548])) : Option (Nat × va_E)) := hO546
              replace hA550 : u534[15]? = (some (q 15, .inl (g 0, (220 : Int32).toNatClampNeg, .inl f549)) : Option (Nat × va_E)) := hA550
              replace hO551 : u534[18]? = (some (q 18, .inr (2, [.ref (q 19), .int y552, .int y553])) : Option (Nat × va_E)) := hO551
              replace hA555 : u534[19]? = (some (q 19, .inl (g 0, (220 : Int32).toNatClampNeg, .inl f554)) : Option (Nat × va_E)) := hA555
              replace hO556 : u534[k4]? = (some (q k4, .inr (2, [.ref (q (k4 + 1)), .int y557, .int y558])) : Option (Nat × va_E)) := hO556
              replace hA560 : u534[k4 + 1]? = (some (q (k4 + 1), .inl (g 0, (68 : Int32).toNatClampNeg, .inl f559)) : Option (Nat × va_E)) := hA560
              obtain ⟨p582, e583⟩ : ∃ z, z = (F_Mil_powerBelow (68 : Int32) (68 : Int32) y405 y406 f407 y410 y411 f412 t4_0 t4_1 t5_0 y415 y416 f417 t18_0 t18_1 t19_0 y440 y441 f442) := ⟨_, rfl⟩
              have e584 : y537 = p582.1 := congrArg (fun z => z.1) (hE580.trans e583.symm)
              have e585 : y538 = p582.2.1 := congrArg (fun z => z.2.1) (hE580.trans e583.symm)
              have e586 : f539 = p582.2.2.1 := congrArg (fun z => z.2.2.1) (hE580.trans e583.symm)
              have e587 : y542 = p582.2.2.2.1 := congrArg (fun z => z.2.2.2.1) (hE580.trans e583.symm)
              have e588 : y543 = p582.2.2.2.2.1 := congrArg (fun z => z.2.2.2.2.1) (hE580.trans e583.symm)
              have e589 : f544 = p582.2.2.2.2.2.1 := congrArg (fun z => z.2.2.2.2.2.1) (hE580.trans e583.symm)
              have e590 : y547 = p582.2.2.2.2.2.2.1 := congrArg (fun z => z.2.2.2.2.2.2.1) (hE580.trans e583.symm)
              have e591 : y548 = p582.2.2.2.2.2.2.2.1 := congrArg (fun z => z.2.2.2.2.2.2.2.1) (hE580.trans e583.symm)
              have e592 : f549 = p582.2.2.2.2.2.2.2.2.1 := congrArg (fun z => z.2.2.2.2.2.2.2.2.1) (hE580.trans e583.symm)
              have e593 : y552 = p582.2.2.2.2.2.2.2.2.2.1 := congrArg (fun z => z.2.2.2.2.2.2.2.2.2.1) (hE580.trans e583.symm)
              have e594 : y553 = p582.2.2.2.2.2.2.2.2.2.2.1 := congrArg (fun z => z.2.2.2.2.2.2.2.2.2.2.1) (hE580.trans e583.symm)
              have e595 : f554 = p582.2.2.2.2.2.2.2.2.2.2.2.1 := congrArg (fun z => z.2.2.2.2.2.2.2.2.2.2.2.1) (hE580.trans e583.symm)
              have e596 : y557 = p582.2.2.2.2.2.2.2.2.2.2.2.2.1 := congrArg (fun z => z.2.2.2.2.2.2.2.2.2.2.2.2.1) (hE580.trans e583.symm)
              have e597 : y558 = p582.2.2.2.2.2.2.2.2.2.2.2.2.2.1 := congrArg (fun z => z.2.2.2.2.2.2.2.2.2.2.2.2.2.1) (hE580.trans e583.symm)
              have e598 : f559 = p582.2.2.2.2.2.2.2.2.2.2.2.2.2.2 := congrArg (fun z => z.2.2.2.2.2.2.2.2.2.2.2.2.2.2) (hE580.trans e583.symm)
              replace b561 : q_F (0 ≤ y543.toInt) := b561
              replace b562 : q_F (y543.toInt ≤ 0) := b562
              replace b563 : q_F (y558.toInt ≤ y441.toInt) := b563
              replace b564 : q_F (y543.toInt ≤ y537.toInt) := b564
              replace b565 : q_F (y537.toInt ≤ y547.toInt) := b565
              replace b566 : q_F (y548.toInt ≤ y538.toInt) := b566
              replace b567 : q_F (y538.toInt ≤ y548.toInt) := b567
              replace b568 : q_F (y543.toInt ≤ y542.toInt) := b568
              replace b569 : q_F (y542.toInt ≤ y543.toInt + 220) := b569
              replace b570 : q_F (y547.toInt ≤ y543.toInt + 220) := b570
              replace b571 : q_F (y548.toInt ≤ y543.toInt + 1) := b571
              replace b572 : q_F (y543.toInt ≤ y548.toInt) := b572
              replace b573 : q_F (y552.toInt ≤ y543.toInt + 220) := b573
              replace b574 : q_F (y543.toInt ≤ y552.toInt) := b574
              replace b575 : q_F (y553.toInt ≤ y543.toInt + 1) := b575
              replace b576 : q_F (y543.toInt ≤ y553.toInt) := b576
              replace b577 : q_F (y557.toInt ≤ y543.toInt + 220) := b577
              replace b578 : q_F (y543.toInt ≤ y557.toInt) := b578
              replace b579 : q_F (y543.toInt ≤ y558.toInt) := b579
              replace hO419 := (hu581 _ (by have z0 := yk4; simp only [List.mem_cons, List.not_mem_nil, or_false, not_or]; omega)).trans hO419
              replace hA423 := (hu581 _ (by have z0 := yk4; simp only [List.mem_cons, List.not_mem_nil, or_false, not_or]; omega)).trans hA423
              replace hO424 := (hu581 _ (by have z0 := yk4; simp only [List.mem_cons, List.not_mem_nil, or_false, not_or]; omega)).trans hO424
              replace hA428 := (hu581 _ (by have z0 := yk4; simp only [List.mem_cons, List.not_mem_nil, or_false, not_or]; omega)).trans hA428
              replace hO429 := (hu581 _ (by have z0 := yk4; simp only [List.mem_cons, List.not_mem_nil, or_false, not_or]; omega)).trans hO429
              replace hA433 := (hu581 _ (by have z0 := yk4; simp only [List.mem_cons, List.not_mem_nil, or_false, not_or]; omega)).trans hA433
              replace hO434 := (hu581 _ (by have z0 := yk4; simp only [List.mem_cons, List.not_mem_nil, or_false, not_or]; omega)).trans hO434
              replace hA438 := (hu581 _ (by have z0 := yk4; simp only [List.mem_cons, List.not_mem_nil, or_false, not_or]; omega)).trans hA438
              replace hT22 := (hu581 _ (q_nc (by have z0 := yk5; omega) (q_nc (by have z0 := yk5; omega) (q_nc (by have z0 := yk5; omega) (q_nc (by have z0 := yk5; omega) (q_nc (by have z0 := yk5; omega) (q_nc (by have z0 := yk5; omega) (q_nc (by have z0 := yk5; omega) (q_nc (by have z0 := yk5; omega) (q_nc (by have z := ne_k5_k4; omega) (q_nc (by have z := ne_k5_k4p1; omega) List.not_mem_nil))))))))))).trans hT22
              replace hT23 := (hu581 _ (q_nc (by have z0 := yk5; omega) (q_nc (by have z0 := yk5; omega) (q_nc (by have z0 := yk5; omega) (q_nc (by have z0 := yk5; omega) (q_nc (by have z0 := yk5; omega) (q_nc (by have z0 := yk5; omega) (q_nc (by have z0 := yk5; omega) (q_nc (by have z0 := yk5; omega) (q_nc (by have z := ne_k4_k5p1; omega) (q_nc (by have z := ne_k5_k4; omega) List.not_mem_nil))))))))))).trans hT23
              replace hO146 := (hu581 _ (by have z0 := yk4; simp only [List.mem_cons, List.not_mem_nil, or_false, not_or]; omega)).trans hO146
              replace hF := q_uc hF hu581 (by simp)
              have hR599 := (show F_NH_powerModulo_c136_7 x2 x3 x4 x5 t0_0 t0_1 t1_0 t2_0 t2_1 t3_0 t4_0 t4_1 t5_0 t6_0 t6_1 t7_0 t8_0 t8_1 t9_0 t10_0 t10_1 t11_0 t12_0 t12_1 t13_0 t14_0 t14_1 t15_0 t16_0 t16_1 t17_0 t18_0 t18_1 t19_0 t20_0 t20_1 t21_0 t22_0 t22_1 t23_0 lx104 lx160 p486 y420 y421 f422 y425 y426 f427 y430 y431 f432 y435 y436 f437 p582 = (F_NH_powerModulo x2 x3 x4 x5 t0_0 t0_1 t1_0 t2_0 t2_1 t3_0 t4_0 t4_1 t5_0 t6_0 t6_1 t7_0 t8_0 t8_1 t9_0 t10_0 t10_1 t11_0 t12_0 t12_1 t13_0 t14_0 t14_1 t15_0 t16_0 t16_1 t17_0 t18_0 t18_1 t19_0 t20_0 t20_1 t21_0 t22_0 t22_1 t23_0) from Eq.trans (by have c524x := c524; rw [e488] at c524x; rw [e583, e512, e511, e510, e509, e508, e507, e506, e505, e504, e503, e502, e501, e500, e499, e498, e497, e496, e495, e494, e493, e492, e491, e490, e489, F_NH_powerModulo_c85.eq_1, if_pos c524x]) hR513)
              have hS600 := (show True ∧ S_NH_powerModulo_c136_7 x2 x3 x4 x5 t0_0 t0_1 t1_0 t2_0 t2_1 t3_0 t4_0 t4_1 t5_0 t6_0 t6_1 t7_0 t8_0 t8_1 t9_0 t10_0 t10_1 t11_0 t12_0 t12_1 t13_0 t14_0 t14_1 t15_0 t16_0 t16_1 t17_0 t18_0 t18_1 t19_0 t20_0 t20_1 t21_0 t22_0 t22_1 t23_0 lx104 lx160 p486 y420 y421 f422 y425 y426 f427 y430 y431 f432 y435 y436 f437 p582 from (by rw [e583, e512, e511, e510, e509, e508, e507, e506, e505, e504, e503, e502, e501, e500, e499, e498, e497, e496, e495, e494, e493, e492, e491, e490, e489]; have h := hS514; rw [S_NH_powerModulo_c85.eq_1] at h; have c524x := c524; rw [e488] at c524x; rw [if_pos c524x] at h; replace h := q_s2 h; with_reducible exact h))
              refine lv_aload_n hx hb d_1_10_139 rfl (lv_at hl 0 rfl) ?_
              refine lv_iload hx hb d_1_10_140 (lv_at hl 4 rfl) ?_
              have ob604 : True ∧ S_NH_keepWhole x5 y537 y538 f539 t22_0 t22_1 t23_0 := (by rw [e586, e585, e584]; have h := hS600; rw [S_NH_powerModulo_c136_7.eq_1] at h; with_reducible exact h.2.1)
              refine q_goxv V (q_runVX (As := [.int x5]) (rest := []) (d := 8) (mc := 1) (ms := 6) (ci := 0) C0 V rfl LV_NH_243 (X_NH_keepWhole l D g q u534  x5 k5 hBk5 yk5 gk5x5 hlt hI y537 y538 hO536 f539 hA540 t22_0 t22_1 hT22 t23_0 hT23 ob604 _) rfl rfl hO146 rfl hl.1 rfl (Nat.le_of_ble_eq_true rfl) ⟨by decide, by decide⟩ ⟨Nat.le_of_ble_eq_true rfl, Nat.le_of_ble_eq_true rfl⟩ d_1_10_142) (fun qx Ex ce u605 H locs hp606 V hce hcv hcl => ?_) (fun u605 H locs hp606 V => ?_)
              ·
                obtain ⟨cx613, hZ9⟩ := hp606
                obtain ⟨he614, hZ9⟩ := hZ9
                obtain ⟨hc615, hZ9⟩ := hZ9
                obtain ⟨hI, hZ9⟩ := hZ9
                obtain ⟨hu616, hZ9⟩ := hZ9
                obtain ⟨y608, hZ9⟩ := hZ9
                obtain ⟨y609, hZ9⟩ := hZ9
                obtain ⟨f610, hZ9⟩ := hZ9
                obtain ⟨hO607, hZ9⟩ := hZ9
                obtain ⟨hA611, hE612⟩ := hZ9
                replace hO607 : u605[k5]? = (some (q k5, .inr (2, [.ref (q (k5 + 1)), .int y608, .int y609])) : Option (Nat × va_E)) := hO607
                replace hA611 : u605[k5 + 1]? = (some (q (k5 + 1), .inl (g 0, (68 : Int32).toNatClampNeg, .inl f610)) : Option (Nat × va_E)) := hA611
                obtain ⟨p617, e618⟩ : ∃ z, z = (F_NH_keepWhole x5 y537 y538 f539 t22_0 t22_1 t23_0) := ⟨_, rfl⟩
                have c619 : ¬ p617.1 = (0 : Int32) := fun z => hc615 (((congrArg (fun z => z.1) (hE612.trans e618.symm)) : cx613 = _).trans z)
                have e620 : y608 = p617.2.1 := congrArg (fun z => z.2.1) (hE612.trans e618.symm)
                have e621 : y609 = p617.2.2.1 := congrArg (fun z => z.2.2.1) (hE612.trans e618.symm)
                have e622 : f610 = p617.2.2.2 := congrArg (fun z => z.2.2.2) (hE612.trans e618.symm)
                replace hO536 := (hu616 _ (by have z0 := yk5; simp only [List.mem_cons, List.not_mem_nil, or_false, not_or]; omega)).trans hO536
                replace hA540 := (hu616 _ (by have z0 := yk5; simp only [List.mem_cons, List.not_mem_nil, or_false, not_or]; omega)).trans hA540
                replace hO541 := (hu616 _ (by have z0 := yk5; simp only [List.mem_cons, List.not_mem_nil, or_false, not_or]; omega)).trans hO541
                replace hA545 := (hu616 _ (by have z0 := yk5; simp only [List.mem_cons, List.not_mem_nil, or_false, not_or]; omega)).trans hA545
                replace hO546 := (hu616 _ (by have z0 := yk5; simp only [List.mem_cons, List.not_mem_nil, or_false, not_or]; omega)).trans hO546
                replace hA550 := (hu616 _ (by have z0 := yk5; simp only [List.mem_cons, List.not_mem_nil, or_false, not_or]; omega)).trans hA550
                replace hO551 := (hu616 _ (by have z0 := yk5; simp only [List.mem_cons, List.not_mem_nil, or_false, not_or]; omega)).trans hO551
                replace hA555 := (hu616 _ (by have z0 := yk5; simp only [List.mem_cons, List.not_mem_nil, or_false, not_or]; omega)).trans hA555
                replace hO419 := (hu616 _ (by have z0 := yk5; simp only [List.mem_cons, List.not_mem_nil, or_false, not_or]; omega)).trans hO419
                replace hA423 := (hu616 _ (by have z0 := yk5; simp only [List.mem_cons, List.not_mem_nil, or_false, not_or]; omega)).trans hA423
                replace hO424 := (hu616 _ (by have z0 := yk5; simp only [List.mem_cons, List.not_mem_nil, or_false, not_or]; omega)).trans hO424
                replace hA428 := (hu616 _ (by have z0 := yk5; simp only [List.mem_cons, List.not_mem_nil, or_false, not_or]; omega)).trans hA428
                replace hO429 := (hu616 _ (by have z0 := yk5; simp only [List.mem_cons, List.not_mem_nil, or_false, not_or]; omega)).trans hO429
                replace hA433 := (hu616 _ (by have z0 := yk5; simp only [List.mem_cons, List.not_mem_nil, or_false, not_or]; omega)).trans hA433
                replace hO434 := (hu616 _ (by have z0 := yk5; simp only [List.mem_cons, List.not_mem_nil, or_false, not_or]; omega)).trans hO434
                replace hA438 := (hu616 _ (by have z0 := yk5; simp only [List.mem_cons, List.not_mem_nil, or_false, not_or]; omega)).trans hA438
                replace hO556 := (hu616 _ (q_nc (by have z := ne_k5_k4; omega) (q_nc (by have z := ne_k4_k5p1; omega) List.not_mem_nil))).trans hO556
                replace hA560 := (hu616 _ (q_nc (by have z := ne_k5_k4p1; omega) (q_nc (by have z := ne_k5_k4; omega) List.not_mem_nil))).trans hA560
                replace hF := q_uc hF hu616 (by simp)
                have hR623 := (show F_NH_powerModulo_c142_8 x2 x3 x4 x5 t0_0 t0_1 t1_0 t2_0 t2_1 t3_0 t4_0 t4_1 t5_0 t6_0 t6_1 t7_0 t8_0 t8_1 t9_0 t10_0 t10_1 t11_0 t12_0 t12_1 t13_0 t14_0 t14_1 t15_0 t16_0 t16_1 t17_0 t18_0 t18_1 t19_0 t20_0 t20_1 t21_0 t22_0 t22_1 t23_0 lx104 lx160 p486 y420 y421 f422 y425 y426 f427 y430 y431 f432 y435 y436 f437 p582 y537 y538 f539 y542 y543 f544 y547 y548 f549 y552 y553 f554 y557 y558 f559 p617 = (F_NH_powerModulo x2 x3 x4 x5 t0_0 t0_1 t1_0 t2_0 t2_1 t3_0 t4_0 t4_1 t5_0 t6_0 t6_1 t7_0 t8_0 t8_1 t9_0 t10_0 t10_1 t11_0 t12_0 t12_1 t13_0 t14_0 t14_1 t15_0 t16_0 t16_1 t17_0 t18_0 t18_1 t19_0 t20_0 t20_1 t21_0 t22_0 t22_1 t23_0) from Eq.trans (by rw [e618, e598, e597, e596, e595, e594, e593, e592, e591, e590, e589, e588, e587, e586, e585, e584, F_NH_powerModulo_c136_7.eq_1]) hR599)
                have hS624 := (show True ∧ S_NH_powerModulo_c142_8 x2 x3 x4 x5 t0_0 t0_1 t1_0 t2_0 t2_1 t3_0 t4_0 t4_1 t5_0 t6_0 t6_1 t7_0 t8_0 t8_1 t9_0 t10_0 t10_1 t11_0 t12_0 t12_1 t13_0 t14_0 t14_1 t15_0 t16_0 t16_1 t17_0 t18_0 t18_1 t19_0 t20_0 t20_1 t21_0 t22_0 t22_1 t23_0 lx104 lx160 p486 y420 y421 f422 y425 y426 f427 y430 y431 f432 y435 y436 f437 p582 y537 y538 f539 y542 y543 f544 y547 y548 f549 y552 y553 f554 y557 y558 f559 p617 from (by rw [e618, e598, e597, e596, e595, e594, e593, e592, e591, e590, e589, e588, e587, e586, e585, e584]; have h := hS600; rw [S_NH_powerModulo_c136_7.eq_1] at h; replace h := q_s2 h; with_reducible exact h))
                exact q_outT hno C0 V (⟨p617.1, (he614.trans (congrArg qE ((congrArg (fun z => z.1) (hE612.trans e618.symm)) : cx613 = _))), c619, hI, hF, y537, y538, f539, y542, y543, f544, y547, y548, f549, y552, y553, f554, y420, y421, f422, y425, y426, f427, y430, y431, f432, y435, y436, f437, y557, y558, f559, y608, y609, f610, hO536, hA540, hO541, hA545, hO546, hA550, hO551, hA555, hO419, hA423, hO424, hA428, hO429, hA433, hO434, hA438, hO556, hA560, hO607, hA611, (show (p617.1, y537, y538, f539, y542, y543, f544, y547, y548, f549, y552, y553, f554, y420, y421, f422, y425, y426, f427, y430, y431, f432, y435, y436, f437, y557, y558, f559, y608, y609, f610) = (F_NH_powerModulo x2 x3 x4 x5 t0_0 t0_1 t1_0 t2_0 t2_1 t3_0 t4_0 t4_1 t5_0 t6_0 t6_1 t7_0 t8_0 t8_1 t9_0 t10_0 t10_1 t11_0 t12_0 t12_1 t13_0 t14_0 t14_1 t15_0 t16_0 t16_1 t17_0 t18_0 t18_1 t19_0 t20_0 t20_1 t21_0 t22_0 t22_1 t23_0) from Eq.trans (by rw [e622, e621, e620, F_NH_powerModulo_c142_8.eq_1, if_neg c619]) hR623)⟩) hce hcv hcl (Nat.le_of_ble_eq_true rfl) (Nat.le_of_ble_eq_true rfl)
              ·
                obtain ⟨hI, hZ9⟩ := hp606
                obtain ⟨hu643, hZ9⟩ := hZ9
                obtain ⟨y629, hZ9⟩ := hZ9
                obtain ⟨y630, hZ9⟩ := hZ9
                obtain ⟨f631, hZ9⟩ := hZ9
                obtain ⟨hO628, hZ9⟩ := hZ9
                obtain ⟨hA632, hZ9⟩ := hZ9
                obtain ⟨b633, hZ9⟩ := hZ9
                obtain ⟨b634, hZ9⟩ := hZ9
                obtain ⟨b635, hZ9⟩ := hZ9
                obtain ⟨b636, hZ9⟩ := hZ9
                obtain ⟨b637, hZ9⟩ := hZ9
                obtain ⟨b638, hZ9⟩ := hZ9
                obtain ⟨b639, hZ9⟩ := hZ9
                obtain ⟨b640, hZ9⟩ := hZ9
                obtain ⟨b641, hE642⟩ := hZ9
                replace hO628 : u605[k5]? = (some (q k5, .inr (2, [.ref (q (k5 + 1)), .int y629, .int y630])) : Option (Nat × va_E)) := hO628
                replace hA632 : u605[k5 + 1]? = (some (q (k5 + 1), .inl (g 0, (68 : Int32).toNatClampNeg, .inl f631)) : Option (Nat × va_E)) := hA632
                obtain ⟨p617, e618⟩ : ∃ z, z = (F_NH_keepWhole x5 y537 y538 f539 t22_0 t22_1 t23_0) := ⟨_, rfl⟩
                have c619 : p617.1 = (0 : Int32) := ((congrArg (fun z => z.1) (hE642.trans e618.symm)) : (0 : Int32) = _).symm
                have e645 : y629 = p617.2.1 := congrArg (fun z => z.2.1) (hE642.trans e618.symm)
                have e646 : y630 = p617.2.2.1 := congrArg (fun z => z.2.2.1) (hE642.trans e618.symm)
                have e647 : f631 = p617.2.2.2 := congrArg (fun z => z.2.2.2) (hE642.trans e618.symm)
                replace b633 : q_F (0 ≤ y629.toInt) := b633
                replace b634 : q_F (y629.toInt ≤ 68) := b634
                replace b635 : q_F (x5.toInt ≤ y629.toInt + 9) := b635
                replace b636 : q_F (y629.toInt ≤ x5.toInt + 68) := b636
                replace b637 : q_F (y629.toInt ≤ y537.toInt) := b637
                replace b638 : q_F (x5.toInt ≤ y630.toInt + 9) := b638
                replace b639 : q_F (y630.toInt ≤ x5.toInt + 1) := b639
                replace b640 : q_F (y538.toInt ≤ y630.toInt) := b640
                replace b641 : q_F (y630.toInt ≤ y538.toInt) := b641
                replace hO536 := (hu643 _ (by have z0 := yk5; simp only [List.mem_cons, List.not_mem_nil, or_false, not_or]; omega)).trans hO536
                replace hA540 := (hu643 _ (by have z0 := yk5; simp only [List.mem_cons, List.not_mem_nil, or_false, not_or]; omega)).trans hA540
                replace hO541 := (hu643 _ (by have z0 := yk5; simp only [List.mem_cons, List.not_mem_nil, or_false, not_or]; omega)).trans hO541
                replace hA545 := (hu643 _ (by have z0 := yk5; simp only [List.mem_cons, List.not_mem_nil, or_false, not_or]; omega)).trans hA545
                replace hO546 := (hu643 _ (by have z0 := yk5; simp only [List.mem_cons, List.not_mem_nil, or_false, not_or]; omega)).trans hO546
                replace hA550 := (hu643 _ (by have z0 := yk5; simp only [List.mem_cons, List.not_mem_nil, or_false, not_or]; omega)).trans hA550
                replace hO551 := (hu643 _ (by have z0 := yk5; simp only [List.mem_cons, List.not_mem_nil, or_false, not_or]; omega)).trans hO551
                replace hA555 := (hu643 _ (by have z0 := yk5; simp only [List.mem_cons, List.not_mem_nil, or_false, not_or]; omega)).trans hA555
                replace hO419 := (hu643 _ (by have z0 := yk5; simp only [List.mem_cons, List.not_mem_nil, or_false, not_or]; omega)).trans hO419
                replace hA423 := (hu643 _ (by have z0 := yk5; simp only [List.mem_cons, List.not_mem_nil, or_false, not_or]; omega)).trans hA423
                replace hO424 := (hu643 _ (by have z0 := yk5; simp only [List.mem_cons, List.not_mem_nil, or_false, not_or]; omega)).trans hO424
                replace hA428 := (hu643 _ (by have z0 := yk5; simp only [List.mem_cons, List.not_mem_nil, or_false, not_or]; omega)).trans hA428
                replace hO429 := (hu643 _ (by have z0 := yk5; simp only [List.mem_cons, List.not_mem_nil, or_false, not_or]; omega)).trans hO429
                replace hA433 := (hu643 _ (by have z0 := yk5; simp only [List.mem_cons, List.not_mem_nil, or_false, not_or]; omega)).trans hA433
                replace hO434 := (hu643 _ (by have z0 := yk5; simp only [List.mem_cons, List.not_mem_nil, or_false, not_or]; omega)).trans hO434
                replace hA438 := (hu643 _ (by have z0 := yk5; simp only [List.mem_cons, List.not_mem_nil, or_false, not_or]; omega)).trans hA438
                replace hO556 := (hu643 _ (q_nc (by have z := ne_k5_k4; omega) (q_nc (by have z := ne_k4_k5p1; omega) List.not_mem_nil))).trans hO556
                replace hA560 := (hu643 _ (q_nc (by have z := ne_k5_k4p1; omega) (q_nc (by have z := ne_k5_k4; omega) List.not_mem_nil))).trans hA560
                replace hF := q_uc hF hu643 (by simp)
                have hR623 := (show F_NH_powerModulo_c142_8 x2 x3 x4 x5 t0_0 t0_1 t1_0 t2_0 t2_1 t3_0 t4_0 t4_1 t5_0 t6_0 t6_1 t7_0 t8_0 t8_1 t9_0 t10_0 t10_1 t11_0 t12_0 t12_1 t13_0 t14_0 t14_1 t15_0 t16_0 t16_1 t17_0 t18_0 t18_1 t19_0 t20_0 t20_1 t21_0 t22_0 t22_1 t23_0 lx104 lx160 p486 y420 y421 f422 y425 y426 f427 y430 y431 f432 y435 y436 f437 p582 y537 y538 f539 y542 y543 f544 y547 y548 f549 y552 y553 f554 y557 y558 f559 p617 = (F_NH_powerModulo x2 x3 x4 x5 t0_0 t0_1 t1_0 t2_0 t2_1 t3_0 t4_0 t4_1 t5_0 t6_0 t6_1 t7_0 t8_0 t8_1 t9_0 t10_0 t10_1 t11_0 t12_0 t12_1 t13_0 t14_0 t14_1 t15_0 t16_0 t16_1 t17_0 t18_0 t18_1 t19_0 t20_0 t20_1 t21_0 t22_0 t22_1 t23_0) from Eq.trans (by rw [e618, e598, e597, e596, e595, e594, e593, e592, e591, e590, e589, e588, e587, e586, e585, e584, F_NH_powerModulo_c136_7.eq_1]) hR599)
                have hS624 := (show True ∧ S_NH_powerModulo_c142_8 x2 x3 x4 x5 t0_0 t0_1 t1_0 t2_0 t2_1 t3_0 t4_0 t4_1 t5_0 t6_0 t6_1 t7_0 t8_0 t8_1 t9_0 t10_0 t10_1 t11_0 t12_0 t12_1 t13_0 t14_0 t14_1 t15_0 t16_0 t16_1 t17_0 t18_0 t18_1 t19_0 t20_0 t20_1 t21_0 t22_0 t22_1 t23_0 lx104 lx160 p486 y420 y421 f422 y425 y426 f427 y430 y431 f432 y435 y436 f437 p582 y537 y538 f539 y542 y543 f544 y547 y548 f549 y552 y553 f554 y557 y558 f559 p617 from (by rw [e618, e598, e597, e596, e595, e594, e593, e592, e591, e590, e589, e588, e587, e586, e585, e584]; have h := hS600; rw [S_NH_powerModulo_c136_7.eq_1] at h; replace h := q_s2 h; with_reducible exact h))
                exact q_retX (q_retv C0 V (⟨hI, hF, y537, y538, f539, y542, y543, f544, y547, y548, f549, y552, y553, f554, y420, y421, f422, y425, y426, f427, y430, y431, f432, y435, y436, f437, y557, y558, f559, y629, y630, f631, hO536, hA540, hO541, hA545, hO546, hA550, hO551, hA555, hO419, hA423, hO424, hA428, hO429, hA433, hO434, hA438, hO556, hA560, hO628, hA632, (show 0 ≤ y537.toInt from (by have t1 : 0 ≤ y543.toInt := b561; have t2 : y543.toInt ≤ y537.toInt := b564; omega)), (show y537.toInt ≤ 220 from (by have t1 : y543.toInt ≤ 0 := b562; have t2 : y537.toInt ≤ y547.toInt := b565; have t3 : y547.toInt ≤ y543.toInt + 220 := b570; omega)), (show 0 ≤ y538.toInt from (by have t1 : 0 ≤ y543.toInt := b561; have t2 : y548.toInt ≤ y538.toInt := b566; have t3 : y543.toInt ≤ y548.toInt := b572; omega)), (show y538.toInt ≤ 1 from (by have t1 : y543.toInt ≤ 0 := b562; have t2 : y538.toInt ≤ y548.toInt := b567; have t3 : y548.toInt ≤ y543.toInt + 1 := b571; omega)), (show 0 ≤ y542.toInt from (by have t1 : 0 ≤ y543.toInt := b561; have t2 : y543.toInt ≤ y542.toInt := b568; omega)), (show y542.toInt ≤ 220 from (by have t1 : y543.toInt ≤ 0 := b562; have t2 : y542.toInt ≤ y543.toInt + 220 := b569; omega)), (show 0 ≤ y543.toInt from (by first | with_reducible exact q_fe b561 | (have t1 : 0 ≤ y543.toInt := b561; omega))), (show y543.toInt ≤ 0 from (by first | with_reducible exact q_fe b562 | (have t1 : y543.toInt ≤ 0 := b562; omega))), (show 0 ≤ y547.toInt from (by have t1 : 0 ≤ y543.toInt := b561; have t2 : y543.toInt ≤ y537.toInt := b564; have t3 : y537.toInt ≤ y547.toInt := b565; omega)), (show y547.toInt ≤ 220 from (by have t1 : y543.toInt ≤ 0 := b562; have t2 : y547.toInt ≤ y543.toInt + 220 := b570; omega)), (show 0 ≤ y548.toInt from (by have t1 : 0 ≤ y543.toInt := b561; have t2 : y543.toInt ≤ y548.toInt := b572; omega)), (show y548.toInt ≤ 1 from (by have t1 : y543.toInt ≤ 0 := b562; have t2 : y548.toInt ≤ y543.toInt + 1 := b571; omega)), (show 0 ≤ y552.toInt from (by have t1 : 0 ≤ y543.toInt := b561; have t2 : y543.toInt ≤ y552.toInt := b574; omega)), (show y552.toInt ≤ 220 from (by have t1 : y543.toInt ≤ 0 := b562; have t2 : y552.toInt ≤ y543.toInt + 220 := b573; omega)), (show 0 ≤ y553.toInt from (by have t1 : 0 ≤ y543.toInt := b561; have t2 : y543.toInt ≤ y553.toInt := b576; omega)), (show y553.toInt ≤ 1 from (by have t1 : y543.toInt ≤ 0 := b562; have t2 : y553.toInt ≤ y543.toInt + 1 := b575; omega)), (show 0 ≤ y420.toInt from (by first | with_reducible exact q_fe b458 | (have t1 : 0 ≤ y420.toInt := b458; omega))), (show y420.toInt ≤ 220 from (by first | with_reducible exact q_fe b459 | (have t1 : y420.toInt ≤ 220 := b459; omega))), (show 0 ≤ y421.toInt from (by first | with_reducible exact q_fe b460 | (have t1 : 0 ≤ y421.toInt := b460; omega))), (show y421.toInt ≤ 1 from (by have t1 : 0 ≤ t20_1.toInt ∧ t20_1.toInt ≤ 1 := btt20_1; have t2 : y421.toInt ≤ t20_1.toInt := b477; omega)), (show 0 ≤ y425.toInt from (by first | with_reducible exact q_fe b461 | (have t1 : 0 ≤ y425.toInt := b461; omega))), (show y425.toInt ≤ 220 from (by first | with_reducible exact q_fe b462 | (have t1 : y425.toInt ≤ 220 := b462; omega))), (show 0 ≤ y426.toInt from (by first | with_reducible exact q_fe b463 | (have t1 : 0 ≤ y426.toInt := b463; omega))), (show y426.toInt ≤ 2 from (by have t1 : y441.toInt ≤ 1 := b475; have t2 : y426.toInt ≤ y441.toInt + 1 := b483; omega)), (show 0 ≤ y430.toInt from (by first | with_reducible exact q_fe b464 | (have t1 : 0 ≤ y430.toInt := b464; omega))), (show y430.toInt ≤ 220 from (by first | with_reducible exact q_fe b465 | (have t1 : y430.toInt ≤ 220 := b465; omega))), (show 0 ≤ y431.toInt from (by first | with_reducible exact q_fe b466 | (have t1 : 0 ≤ y431.toInt := b466; omega))), (show y431.toInt ≤ 1 from (by first | with_reducible exact q_fe b467 | (have t1 : y431.toInt ≤ 1 := b467; omega))), (show 0 ≤ y435.toInt from (by first | with_reducible exact q_fe b468 | (have t1 : 0 ≤ y435.toInt := b468; omega))), (show y435.toInt ≤ 220 from (by first | with_reducible exact q_fe b469 | (have t1 : y435.toInt ≤ 220 := b469; omega))), (show 0 ≤ y436.toInt from (by first | with_reducible exact q_fe b470 | (have t1 : 0 ≤ y436.toInt := b470; omega))), (show y436.toInt ≤ 1 from (by first | with_reducible exact q_fe b471 | (have t1 : y436.toInt ≤ 1 := b471; omega))), (show 0 ≤ y557.toInt from (by have t1 : 0 ≤ y543.toInt := b561; have t2 : y543.toInt ≤ y557.toInt := b578; omega)), (show y557.toInt ≤ 220 from (by have t1 : y543.toInt ≤ 0 := b562; have t2 : y557.toInt ≤ y543.toInt + 220 := b577; omega)), (show 0 ≤ y558.toInt from (by have t1 : 0 ≤ y543.toInt := b561; have t2 : y543.toInt ≤ y558.toInt := b579; omega)), (show y558.toInt ≤ 1 from (by have t1 : y441.toInt ≤ 1 := b475; have t2 : y558.toInt ≤ y441.toInt := b563; omega)), (show 0 ≤ y629.toInt from (by first | with_reducible exact q_fe b633 | (have t1 : 0 ≤ y629.toInt := b633; omega))), (show y629.toInt ≤ 68 from (by first | with_reducible exact q_fe b634 | (have t1 : y629.toInt ≤ 68 := b634; omega))), (show x2.toInt ≤ y543.toInt + 9 from (by have t1 : x2.toInt ≤ 9 := ob393; have t2 : 0 ≤ y543.toInt := b561; omega)), (show y543.toInt ≤ x2.toInt from (by have t1 : 0 ≤ x2.toInt := ob392; have t2 : y543.toInt ≤ 0 := b562; omega)), (show x3.toInt ≤ y543.toInt + 9 from (by have t1 : x3.toInt ≤ 9 := ob204; have t2 : 0 ≤ y543.toInt := b561; omega)), (show y543.toInt ≤ x3.toInt from (by have t1 : 0 ≤ x3.toInt := ob203; have t2 : y543.toInt ≤ 0 := b562; omega)), (show x4.toInt ≤ y543.toInt + 9 from (by have t1 : x4.toInt ≤ 9 := ob149; have t2 : 0 ≤ y543.toInt := b561; omega)), (show y543.toInt ≤ x4.toInt from (by have t1 : 0 ≤ x4.toInt := ob148; have t2 : y543.toInt ≤ 0 := b562; omega)), (show y426.toInt ≤ t18_1.toInt + 1 from (by have t1 : 0 ≤ t18_1.toInt ∧ t18_1.toInt ≤ 1 := btt18_1; have t2 : t18_1.toInt ≠ 0 := b390; have t3 : y441.toInt ≤ 1 := b475; have t4 : y426.toInt ≤ y441.toInt + 1 := b483; omega)), (show y426.toInt ≤ t20_0.toInt + 1 from (by first | with_reducible exact q_fe b478 | (have t1 : y426.toInt ≤ t20_0.toInt + 1 := b478; omega))), (show y426.toInt ≤ t20_1.toInt + 1 from (by have t1 : y441.toInt ≤ t20_1.toInt := b480; have t2 : y426.toInt ≤ y441.toInt + 1 := b483; omega)), (show y558.toInt ≤ t20_1.toInt from (by have t1 : y441.toInt ≤ t20_1.toInt := b480; have t2 : y558.toInt ≤ y441.toInt := b563; omega)), (show x5.toInt ≤ y629.toInt + 9 from (by first | with_reducible exact q_fe b635 | (have t1 : x5.toInt ≤ y629.toInt + 9 := b635; omega))), (show y629.toInt ≤ x5.toInt + 68 from (by first | with_reducible exact q_fe b636 | (have t1 : y629.toInt ≤ x5.toInt + 68 := b636; omega))), (show x5.toInt ≤ y630.toInt + 9 from (by first | with_reducible exact q_fe b638 | (have t1 : x5.toInt ≤ y630.toInt + 9 := b638; omega))), (show y630.toInt ≤ x5.toInt + 1 from (by first | with_reducible exact q_fe b639 | (have t1 : y630.toInt ≤ x5.toInt + 1 := b639; omega))), (show y537.toInt ≤ y547.toInt from (by first | with_reducible exact q_fe b565 | (have t1 : y537.toInt ≤ y547.toInt := b565; omega))), (show y629.toInt ≤ y537.toInt from (by first | with_reducible exact q_fe b637 | (have t1 : y629.toInt ≤ y537.toInt := b637; omega))), (show y630.toInt ≤ y538.toInt from (by first | with_reducible exact q_fe b641 | (have t1 : y630.toInt ≤ y538.toInt := b641; omega))), (show y538.toInt ≤ y630.toInt from (by first | with_reducible exact q_fe b640 | (have t1 : y538.toInt ≤ y630.toInt := b640; omega))), (show y630.toInt ≤ y548.toInt from (by have t1 : y538.toInt ≤ y548.toInt := b567; have t2 : y630.toInt ≤ y538.toInt := b641; omega)), (show y548.toInt ≤ y630.toInt from (by have t1 : y548.toInt ≤ y538.toInt := b566; have t2 : y538.toInt ≤ y630.toInt := b640; omega)), (show ((0 : Int32), y537, y538, f539, y542, y543, f544, y547, y548, f549, y552, y553, f554, y420, y421, f422, y425, y426, f427, y430, y431, f432, y435, y436, f437, y557, y558, f559, y629, y630, f631) = (F_NH_powerModulo x2 x3 x4 x5 t0_0 t0_1 t1_0 t2_0 t2_1 t3_0 t4_0 t4_1 t5_0 t6_0 t6_1 t7_0 t8_0 t8_1 t9_0 t10_0 t10_1 t11_0 t12_0 t12_1 t13_0 t14_0 t14_1 t15_0 t16_0 t16_1 t17_0 t18_0 t18_1 t19_0 t20_0 t20_1 t21_0 t22_0 t22_1 t23_0) from Eq.trans (by rw [e647, e646, e645, F_NH_powerModulo_c142_8.eq_1, if_pos c619]) hR623)⟩) d_1_10_145)
      ·
        intro J185
        refine lv_if_le (tgt := 53) hx hb d_1_10_46 (by decide) (fun c648 => ?_) (fun c648 => ?_)
        ·
          refine lv_iconst (v := 0) hx hb d_1_10_53 (by decide) ?_
          exact J185 ((0 : Int32)) _ _ _ ws ⟨(show q_F (0 ≤ 0) from (show 0 ≤ 0 from by omega)), (show q_F (0 ≤ 1) from (show 0 ≤ 1 from by omega)), V, q_lw hl (q_lw1 0 rfl (q_lw1 1 rfl (q_lw1 2 rfl (q_lw1 3 rfl (q_lw1 4 rfl q_lw0))))), (show F_NH_powerModulo_J54 x2 x3 x4 x5 t0_0 t0_1 t1_0 t2_0 t2_1 t3_0 t4_0 t4_1 t5_0 t6_0 t6_1 t7_0 t8_0 t8_1 t9_0 t10_0 t10_1 t11_0 t12_0 t12_1 t13_0 t14_0 t14_1 t15_0 t16_0 t16_1 t17_0 t18_0 t18_1 t19_0 t20_0 t20_1 t21_0 t22_0 t22_1 t23_0 lx104 0 = (F_NH_powerModulo x2 x3 x4 x5 t0_0 t0_1 t1_0 t2_0 t2_1 t3_0 t4_0 t4_1 t5_0 t6_0 t6_1 t7_0 t8_0 t8_1 t9_0 t10_0 t10_1 t11_0 t12_0 t12_1 t13_0 t14_0 t14_1 t15_0 t16_0 t16_1 t17_0 t18_0 t18_1 t19_0 t20_0 t20_1 t21_0 t22_0 t22_1 t23_0) from Eq.trans (by have c648x := c648; rw [e159] at c648x; rw [F_NH_powerModulo_J34.eq_1, if_pos c143, if_pos c648x]) hR132), (show True ∧ S_NH_powerModulo_J54 x2 x3 x4 x5 t0_0 t0_1 t1_0 t2_0 t2_1 t3_0 t4_0 t4_1 t5_0 t6_0 t6_1 t7_0 t8_0 t8_1 t9_0 t10_0 t10_1 t11_0 t12_0 t12_1 t13_0 t14_0 t14_1 t15_0 t16_0 t16_1 t17_0 t18_0 t18_1 t19_0 t20_0 t20_1 t21_0 t22_0 t22_1 t23_0 lx104 0 from (by have h := hS133; rw [S_NH_powerModulo_J34.eq_1] at h; rw [if_pos c143] at h; replace h := q_s2 h; replace h := q_s2 h; have c648x := c648; rw [e159] at c648x; rw [if_pos c648x] at h; with_reducible exact h))⟩
        ·
          refine lv_iconst (v := 1) hx hb d_1_10_49 (by decide) ?_
          refine lv_goto (tgt := 54) hx hb d_1_10_50 (by decide) ?_
          exact J185 ((1 : Int32)) _ _ _ ws ⟨(show q_F (0 ≤ 1) from (show 0 ≤ 1 from by omega)), (show q_F (1 ≤ 1) from (show 1 ≤ 1 from by omega)), V, q_lw hl (q_lw1 0 rfl (q_lw1 1 rfl (q_lw1 2 rfl (q_lw1 3 rfl (q_lw1 4 rfl q_lw0))))), (show F_NH_powerModulo_J54 x2 x3 x4 x5 t0_0 t0_1 t1_0 t2_0 t2_1 t3_0 t4_0 t4_1 t5_0 t6_0 t6_1 t7_0 t8_0 t8_1 t9_0 t10_0 t10_1 t11_0 t12_0 t12_1 t13_0 t14_0 t14_1 t15_0 t16_0 t16_1 t17_0 t18_0 t18_1 t19_0 t20_0 t20_1 t21_0 t22_0 t22_1 t23_0 lx104 1 = (F_NH_powerModulo x2 x3 x4 x5 t0_0 t0_1 t1_0 t2_0 t2_1 t3_0 t4_0 t4_1 t5_0 t6_0 t6_1 t7_0 t8_0 t8_1 t9_0 t10_0 t10_1 t11_0 t12_0 t12_1 t13_0 t14_0 t14_1 t15_0 t16_0 t16_1 t17_0 t18_0 t18_1 t19_0 t20_0 t20_1 t21_0 t22_0 t22_1 t23_0) from Eq.trans (by have c648x := c648; rw [e159] at c648x; rw [F_NH_powerModulo_J34.eq_1, if_pos c143, if_neg c648x]) hR132), (show True ∧ S_NH_powerModulo_J54 x2 x3 x4 x5 t0_0 t0_1 t1_0 t2_0 t2_1 t3_0 t4_0 t4_1 t5_0 t6_0 t6_1 t7_0 t8_0 t8_1 t9_0 t10_0 t10_1 t11_0 t12_0 t12_1 t13_0 t14_0 t14_1 t15_0 t16_0 t16_1 t17_0 t18_0 t18_1 t19_0 t20_0 t20_1 t21_0 t22_0 t22_1 t23_0 lx104 1 from (by have h := hS133; rw [S_NH_powerModulo_J34.eq_1] at h; rw [if_pos c143] at h; replace h := q_s2 h; replace h := q_s2 h; have c648x := c648; rw [e159] at c648x; rw [if_neg c648x] at h; with_reducible exact h))⟩
  ·
    intro J129
    refine q_join (X := Unit) (fun z H locs ls _ => q_Wd D g (va_A ws sz) s ws H locs ∧ lv_has ls 5 [(0, .ref (q 0)), (1, .int x2), (2, .int x3), (3, .int x4), (4, .int x5)] ∧ F_NH_powerModulo_J33 x2 x3 x4 x5 t0_0 t0_1 t1_0 t2_0 t2_1 t3_0 t4_0 t4_1 t5_0 t6_0 t6_1 t7_0 t8_0 t8_1 t9_0 t10_0 t10_1 t11_0 t12_0 t12_1 t13_0 t14_0 t14_1 t15_0 t16_0 t16_1 t17_0 t18_0 t18_1 t19_0 t20_0 t20_1 t21_0 t22_0 t22_1 t23_0 = (F_NH_powerModulo x2 x3 x4 x5 t0_0 t0_1 t1_0 t2_0 t2_1 t3_0 t4_0 t4_1 t5_0 t6_0 t6_1 t7_0 t8_0 t8_1 t9_0 t10_0 t10_1 t11_0 t12_0 t12_1 t13_0 t14_0 t14_1 t15_0 t16_0 t16_1 t17_0 t18_0 t18_1 t19_0 t20_0 t20_1 t21_0 t22_0 t22_1 t23_0) ∧ True ∧ S_NH_powerModulo_J33 x2 x3 x4 x5 t0_0 t0_1 t1_0 t2_0 t2_1 t3_0 t4_0 t4_1 t5_0 t6_0 t6_1 t7_0 t8_0 t8_1 t9_0 t10_0 t10_1 t11_0 t12_0 t12_1 t13_0 t14_0 t14_1 t15_0 t16_0 t16_1 t17_0 t18_0 t18_1 t19_0 t20_0 t20_1 t21_0 t22_0 t22_1 t23_0) (fun z => []) 33 0 0 ?_ ?_
    ·
      rintro _ H locs ls _ ⟨V, hl, hR676, hS677⟩
      replace hl : lv_has ls 5 [(0, .ref (q 0)), (1, .int x2), (2, .int x3), (3, .int x4), (4, .int x5)] := hl
      refine lv_iconst (v := 0) hx hb d_1_10_33 (by decide) ?_
      exact J129 ((0 : Int32)) _ _ _ ws ⟨(show q_F (0 ≤ 0) from (show 0 ≤ 0 from by omega)), (show q_F (0 ≤ 1) from (show 0 ≤ 1 from by omega)), V, q_lw hl (q_lw1 0 rfl (q_lw1 1 rfl (q_lw1 2 rfl (q_lw1 3 rfl (q_lw1 4 rfl q_lw0))))), (show F_NH_powerModulo_J34 x2 x3 x4 x5 t0_0 t0_1 t1_0 t2_0 t2_1 t3_0 t4_0 t4_1 t5_0 t6_0 t6_1 t7_0 t8_0 t8_1 t9_0 t10_0 t10_1 t11_0 t12_0 t12_1 t13_0 t14_0 t14_1 t15_0 t16_0 t16_1 t17_0 t18_0 t18_1 t19_0 t20_0 t20_1 t21_0 t22_0 t22_1 t23_0 0 = (F_NH_powerModulo x2 x3 x4 x5 t0_0 t0_1 t1_0 t2_0 t2_1 t3_0 t4_0 t4_1 t5_0 t6_0 t6_1 t7_0 t8_0 t8_1 t9_0 t10_0 t10_1 t11_0 t12_0 t12_1 t13_0 t14_0 t14_1 t15_0 t16_0 t16_1 t17_0 t18_0 t18_1 t19_0 t20_0 t20_1 t21_0 t22_0 t22_1 t23_0) from Eq.trans (by rw [F_NH_powerModulo_J33.eq_1]) hR676), (show True ∧ S_NH_powerModulo_J34 x2 x3 x4 x5 t0_0 t0_1 t1_0 t2_0 t2_1 t3_0 t4_0 t4_1 t5_0 t6_0 t6_1 t7_0 t8_0 t8_1 t9_0 t10_0 t10_1 t11_0 t12_0 t12_1 t13_0 t14_0 t14_1 t15_0 t16_0 t16_1 t17_0 t18_0 t18_1 t19_0 t20_0 t20_1 t21_0 t22_0 t22_1 t23_0 0 from (by have h := hS677; rw [S_NH_powerModulo_J33.eq_1] at h; with_reducible exact h))⟩
    ·
      intro J675
      refine lv_if_eq (tgt := 33) hx hb d_1_10_4 (by decide) (fun c681 => ?_) (fun c681 => ?_)
      ·
        exact J675 (()) _ _ _ ws ⟨V, q_lw hl (q_lw1 0 rfl (q_lw1 1 rfl (q_lw1 2 rfl (q_lw1 3 rfl (q_lw1 4 rfl q_lw0))))), (show F_NH_powerModulo_J33 x2 x3 x4 x5 t0_0 t0_1 t1_0 t2_0 t2_1 t3_0 t4_0 t4_1 t5_0 t6_0 t6_1 t7_0 t8_0 t8_1 t9_0 t10_0 t10_1 t11_0 t12_0 t12_1 t13_0 t14_0 t14_1 t15_0 t16_0 t16_1 t17_0 t18_0 t18_1 t19_0 t20_0 t20_1 t21_0 t22_0 t22_1 t23_0 = (F_NH_powerModulo x2 x3 x4 x5 t0_0 t0_1 t1_0 t2_0 t2_1 t3_0 t4_0 t4_1 t5_0 t6_0 t6_1 t7_0 t8_0 t8_1 t9_0 t10_0 t10_1 t11_0 t12_0 t12_1 t13_0 t14_0 t14_1 t15_0 t16_0 t16_1 t17_0 t18_0 t18_1 t19_0 t20_0 t20_1 t21_0 t22_0 t22_1 t23_0) from (by have c681x := c681; rw [e103] at c681x; rw [F_NH_powerModulo.eq_1, if_pos c681x])), (show True ∧ S_NH_powerModulo_J33 x2 x3 x4 x5 t0_0 t0_1 t1_0 t2_0 t2_1 t3_0 t4_0 t4_1 t5_0 t6_0 t6_1 t7_0 t8_0 t8_1 t9_0 t10_0 t10_1 t11_0 t12_0 t12_1 t13_0 t14_0 t14_1 t15_0 t16_0 t16_1 t17_0 t18_0 t18_1 t19_0 t20_0 t20_1 t21_0 t22_0 t22_1 t23_0 from (by have h := hS; rw [S_NH_powerModulo.eq_1] at h; have c681x := c681; rw [e103] at c681x; rw [if_pos c681x] at h; with_reducible exact h))⟩
      ·
        refine lv_iload_n hx hb d_1_10_7 rfl (lv_at hl 2 rfl) ?_
        refine q_goi V (q_runS (As := [.int x3]) (rest := []) (d := 1) (mc := 0) (ms := 0) C0 V rfl LS_NH_212 (X_NH_isRegister l D g q ws  x3 hI   _) rfl hl.1 rfl (Nat.le_of_ble_eq_true rfl) ⟨by decide, by decide⟩ ⟨Nat.le_of_ble_eq_true rfl, Nat.le_of_ble_eq_true rfl⟩ d_1_10_8) (fun a686 u684 H locs hp685 V => ?_)
        obtain ⟨rfl, b687, b688, hE689⟩ := hp685
        have e690 : a686 = (F_NH_isRegister x3) := hE689
        clear b687
        clear b688
        refine lv_if_eq (tgt := 33) hx hb d_1_10_11 (by decide) (fun c691 => ?_) (fun c691 => ?_)
        ·
          exact J675 (()) _ _ _ ws ⟨V, q_lw hl (q_lw1 0 rfl (q_lw1 1 rfl (q_lw1 2 rfl (q_lw1 3 rfl (q_lw1 4 rfl q_lw0))))), (show F_NH_powerModulo_J33 x2 x3 x4 x5 t0_0 t0_1 t1_0 t2_0 t2_1 t3_0 t4_0 t4_1 t5_0 t6_0 t6_1 t7_0 t8_0 t8_1 t9_0 t10_0 t10_1 t11_0 t12_0 t12_1 t13_0 t14_0 t14_1 t15_0 t16_0 t16_1 t17_0 t18_0 t18_1 t19_0 t20_0 t20_1 t21_0 t22_0 t22_1 t23_0 = (F_NH_powerModulo x2 x3 x4 x5 t0_0 t0_1 t1_0 t2_0 t2_1 t3_0 t4_0 t4_1 t5_0 t6_0 t6_1 t7_0 t8_0 t8_1 t9_0 t10_0 t10_1 t11_0 t12_0 t12_1 t13_0 t14_0 t14_1 t15_0 t16_0 t16_1 t17_0 t18_0 t18_1 t19_0 t20_0 t20_1 t21_0 t22_0 t22_1 t23_0) from (by have c681x := c681; rw [e103] at c681x; have c691x := c691; rw [e690] at c691x; rw [F_NH_powerModulo.eq_1, if_neg c681x, if_pos c691x])), (show True ∧ S_NH_powerModulo_J33 x2 x3 x4 x5 t0_0 t0_1 t1_0 t2_0 t2_1 t3_0 t4_0 t4_1 t5_0 t6_0 t6_1 t7_0 t8_0 t8_1 t9_0 t10_0 t10_1 t11_0 t12_0 t12_1 t13_0 t14_0 t14_1 t15_0 t16_0 t16_1 t17_0 t18_0 t18_1 t19_0 t20_0 t20_1 t21_0 t22_0 t22_1 t23_0 from (by have h := hS; rw [S_NH_powerModulo.eq_1] at h; have c681x := c681; rw [e103] at c681x; rw [if_neg c681x] at h; have c691x := c691; rw [e690] at c691x; rw [if_pos c691x] at h; with_reducible exact h))⟩
        ·
          refine lv_iload_n hx hb d_1_10_14 rfl (lv_at hl 3 rfl) ?_
          refine q_goi V (q_runS (As := [.int x4]) (rest := []) (d := 1) (mc := 0) (ms := 0) C0 V rfl LS_NH_212 (X_NH_isRegister l D g q ws  x4 hI   _) rfl hl.1 rfl (Nat.le_of_ble_eq_true rfl) ⟨by decide, by decide⟩ ⟨Nat.le_of_ble_eq_true rfl, Nat.le_of_ble_eq_true rfl⟩ d_1_10_15) (fun a696 u694 H locs hp695 V => ?_)
          obtain ⟨rfl, b697, b698, hE699⟩ := hp695
          have e700 : a696 = (F_NH_isRegister x4) := hE699
          clear b697
          clear b698
          refine lv_if_eq (tgt := 33) hx hb d_1_10_18 (by decide) (fun c701 => ?_) (fun c701 => ?_)
          ·
            exact J675 (()) _ _ _ ws ⟨V, q_lw hl (q_lw1 0 rfl (q_lw1 1 rfl (q_lw1 2 rfl (q_lw1 3 rfl (q_lw1 4 rfl q_lw0))))), (show F_NH_powerModulo_J33 x2 x3 x4 x5 t0_0 t0_1 t1_0 t2_0 t2_1 t3_0 t4_0 t4_1 t5_0 t6_0 t6_1 t7_0 t8_0 t8_1 t9_0 t10_0 t10_1 t11_0 t12_0 t12_1 t13_0 t14_0 t14_1 t15_0 t16_0 t16_1 t17_0 t18_0 t18_1 t19_0 t20_0 t20_1 t21_0 t22_0 t22_1 t23_0 = (F_NH_powerModulo x2 x3 x4 x5 t0_0 t0_1 t1_0 t2_0 t2_1 t3_0 t4_0 t4_1 t5_0 t6_0 t6_1 t7_0 t8_0 t8_1 t9_0 t10_0 t10_1 t11_0 t12_0 t12_1 t13_0 t14_0 t14_1 t15_0 t16_0 t16_1 t17_0 t18_0 t18_1 t19_0 t20_0 t20_1 t21_0 t22_0 t22_1 t23_0) from (by have c681x := c681; rw [e103] at c681x; have c691x := c691; rw [e690] at c691x; have c701x := c701; rw [e700] at c701x; rw [F_NH_powerModulo.eq_1, if_neg c681x, if_neg c691x, if_pos c701x])), (show True ∧ S_NH_powerModulo_J33 x2 x3 x4 x5 t0_0 t0_1 t1_0 t2_0 t2_1 t3_0 t4_0 t4_1 t5_0 t6_0 t6_1 t7_0 t8_0 t8_1 t9_0 t10_0 t10_1 t11_0 t12_0 t12_1 t13_0 t14_0 t14_1 t15_0 t16_0 t16_1 t17_0 t18_0 t18_1 t19_0 t20_0 t20_1 t21_0 t22_0 t22_1 t23_0 from (by have h := hS; rw [S_NH_powerModulo.eq_1] at h; have c681x := c681; rw [e103] at c681x; rw [if_neg c681x] at h; have c691x := c691; rw [e690] at c691x; rw [if_neg c691x] at h; have c701x := c701; rw [e700] at c701x; rw [if_pos c701x] at h; with_reducible exact h))⟩
          ·
            refine lv_iload hx hb d_1_10_21 (lv_at hl 4 rfl) ?_
            refine q_goi V (q_runS (As := [.int x5]) (rest := []) (d := 1) (mc := 0) (ms := 0) C0 V rfl LS_NH_212 (X_NH_isRegister l D g q ws  x5 hI   _) rfl hl.1 rfl (Nat.le_of_ble_eq_true rfl) ⟨by decide, by decide⟩ ⟨Nat.le_of_ble_eq_true rfl, Nat.le_of_ble_eq_true rfl⟩ d_1_10_23) (fun a706 u704 H locs hp705 V => ?_)
            obtain ⟨rfl, b707, b708, hE709⟩ := hp705
            have e710 : a706 = (F_NH_isRegister x5) := hE709
            clear b707
            clear b708
            refine lv_if_eq (tgt := 33) hx hb d_1_10_26 (by decide) (fun c711 => ?_) (fun c711 => ?_)
            ·
              exact J675 (()) _ _ _ ws ⟨V, q_lw hl (q_lw1 0 rfl (q_lw1 1 rfl (q_lw1 2 rfl (q_lw1 3 rfl (q_lw1 4 rfl q_lw0))))), (show F_NH_powerModulo_J33 x2 x3 x4 x5 t0_0 t0_1 t1_0 t2_0 t2_1 t3_0 t4_0 t4_1 t5_0 t6_0 t6_1 t7_0 t8_0 t8_1 t9_0 t10_0 t10_1 t11_0 t12_0 t12_1 t13_0 t14_0 t14_1 t15_0 t16_0 t16_1 t17_0 t18_0 t18_1 t19_0 t20_0 t20_1 t21_0 t22_0 t22_1 t23_0 = (F_NH_powerModulo x2 x3 x4 x5 t0_0 t0_1 t1_0 t2_0 t2_1 t3_0 t4_0 t4_1 t5_0 t6_0 t6_1 t7_0 t8_0 t8_1 t9_0 t10_0 t10_1 t11_0 t12_0 t12_1 t13_0 t14_0 t14_1 t15_0 t16_0 t16_1 t17_0 t18_0 t18_1 t19_0 t20_0 t20_1 t21_0 t22_0 t22_1 t23_0) from (by have c681x := c681; rw [e103] at c681x; have c691x := c691; rw [e690] at c691x; have c701x := c701; rw [e700] at c701x; have c711x := c711; rw [e710] at c711x; rw [F_NH_powerModulo.eq_1, if_neg c681x, if_neg c691x, if_neg c701x, if_pos c711x])), (show True ∧ S_NH_powerModulo_J33 x2 x3 x4 x5 t0_0 t0_1 t1_0 t2_0 t2_1 t3_0 t4_0 t4_1 t5_0 t6_0 t6_1 t7_0 t8_0 t8_1 t9_0 t10_0 t10_1 t11_0 t12_0 t12_1 t13_0 t14_0 t14_1 t15_0 t16_0 t16_1 t17_0 t18_0 t18_1 t19_0 t20_0 t20_1 t21_0 t22_0 t22_1 t23_0 from (by have h := hS; rw [S_NH_powerModulo.eq_1] at h; have c681x := c681; rw [e103] at c681x; rw [if_neg c681x] at h; have c691x := c691; rw [e690] at c691x; rw [if_neg c691x] at h; have c701x := c701; rw [e700] at c701x; rw [if_neg c701x] at h; have c711x := c711; rw [e710] at c711x; rw [if_pos c711x] at h; with_reducible exact h))⟩
            ·
              refine lv_iconst (v := 1) hx hb d_1_10_29 (by decide) ?_
              refine lv_goto (tgt := 34) hx hb d_1_10_30 (by decide) ?_
              exact J129 ((1 : Int32)) _ _ _ ws ⟨(show q_F (0 ≤ 1) from (show 0 ≤ 1 from by omega)), (show q_F (1 ≤ 1) from (show 1 ≤ 1 from by omega)), V, q_lw hl (q_lw1 0 rfl (q_lw1 1 rfl (q_lw1 2 rfl (q_lw1 3 rfl (q_lw1 4 rfl q_lw0))))), (show F_NH_powerModulo_J34 x2 x3 x4 x5 t0_0 t0_1 t1_0 t2_0 t2_1 t3_0 t4_0 t4_1 t5_0 t6_0 t6_1 t7_0 t8_0 t8_1 t9_0 t10_0 t10_1 t11_0 t12_0 t12_1 t13_0 t14_0 t14_1 t15_0 t16_0 t16_1 t17_0 t18_0 t18_1 t19_0 t20_0 t20_1 t21_0 t22_0 t22_1 t23_0 1 = (F_NH_powerModulo x2 x3 x4 x5 t0_0 t0_1 t1_0 t2_0 t2_1 t3_0 t4_0 t4_1 t5_0 t6_0 t6_1 t7_0 t8_0 t8_1 t9_0 t10_0 t10_1 t11_0 t12_0 t12_1 t13_0 t14_0 t14_1 t15_0 t16_0 t16_1 t17_0 t18_0 t18_1 t19_0 t20_0 t20_1 t21_0 t22_0 t22_1 t23_0) from (by have c681x := c681; rw [e103] at c681x; have c691x := c691; rw [e690] at c691x; have c701x := c701; rw [e700] at c701x; have c711x := c711; rw [e710] at c711x; rw [F_NH_powerModulo.eq_1, if_neg c681x, if_neg c691x, if_neg c701x, if_neg c711x])), (show True ∧ S_NH_powerModulo_J34 x2 x3 x4 x5 t0_0 t0_1 t1_0 t2_0 t2_1 t3_0 t4_0 t4_1 t5_0 t6_0 t6_1 t7_0 t8_0 t8_1 t9_0 t10_0 t10_1 t11_0 t12_0 t12_1 t13_0 t14_0 t14_1 t15_0 t16_0 t16_1 t17_0 t18_0 t18_1 t19_0 t20_0 t20_1 t21_0 t22_0 t22_1 t23_0 1 from (by have h := hS; rw [S_NH_powerModulo.eq_1] at h; have c681x := c681; rw [e103] at c681x; rw [if_neg c681x] at h; have c691x := c691; rw [e690] at c691x; rw [if_neg c691x] at h; have c701x := c701; rw [e700] at c701x; rw [if_neg c701x] at h; have c711x := c711; rw [e710] at c711x; rw [if_neg c711x] at h; with_reducible exact h))⟩

