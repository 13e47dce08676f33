/-! NumberHouse, exactly: t0.addArgument -/
theorem d_1_22_0 : decode prog_1_method_22_code 0 = .ok (.iload_n 1, 1) := by decide +kernel
theorem d_1_22_1 : decode prog_1_method_22_code 1 = .ok (.ifCond .ne 24, 3) := by decide +kernel
theorem d_1_22_25 : decode prog_1_method_22_code 25 = .ok (.iload_n 1, 1) := by decide +kernel
theorem d_1_22_26 : decode prog_1_method_22_code 26 = .ok (.iconst 1, 1) := by decide +kernel
theorem d_1_22_27 : decode prog_1_method_22_code 27 = .ok (.if_icmp .ne 35, 3) := by decide +kernel
theorem d_1_22_62 : decode prog_1_method_22_code 62 = .ok (.iload_n 1, 1) := by decide +kernel
theorem d_1_22_63 : decode prog_1_method_22_code 63 = .ok (.iconst 4, 1) := by decide +kernel
theorem d_1_22_64 : decode prog_1_method_22_code 64 = .ok (.if_icmp .ne 16, 3) := by decide +kernel
theorem d_1_22_80 : decode prog_1_method_22_code 80 = .ok (.iload_n 1, 1) := by decide +kernel
theorem d_1_22_81 : decode prog_1_method_22_code 81 = .ok (.iconst 5, 1) := by decide +kernel
theorem d_1_22_82 : decode prog_1_method_22_code 82 = .ok (.if_icmp .ne 24, 3) := by decide +kernel
theorem d_1_22_106 : decode prog_1_method_22_code 106 = .ok (.iload_n 1, 1) := by decide +kernel
theorem d_1_22_107 : decode prog_1_method_22_code 107 = .ok (.bipush 6, 2) := by decide +kernel
theorem d_1_22_109 : decode prog_1_method_22_code 109 = .ok (.if_icmp .ne 17, 3) := by decide +kernel
theorem d_1_22_126 : decode prog_1_method_22_code 126 = .ok (.aload_n 0, 1) := by decide +kernel
theorem d_1_22_127 : decode prog_1_method_22_code 127 = .ok (.getfield 98, 3) := by decide +kernel
theorem d_1_22_130 : decode prog_1_method_22_code 130 = .ok (.invokevirtual 380, 3) := by decide +kernel
set_option maxRecDepth 100000 in
theorem w_1715 : (Cond.code ({ cls := "NumberHouse$Printer", name := "addText", desc := "()V" } : MethodName) prog_9_method_4_code (1 : Nat) (none : Option ClassFile.FieldType)) ∈ q_tbl := q_of8 35 rfl (by decide +kernel)
set_option maxRecDepth 100000 in
theorem w_1712 : (Cond.methodLink "NumberHouse" (380 : Nat) ({ cls := "NumberHouse$Printer", name := "addText", desc := "()V" } : MethodName)) ∈ q_tbl := q_of8 32 rfl (by decide +kernel)
set_option maxRecDepth 100000 in
theorem w_1713 : (Cond.instanceMethod ({ cls := "NumberHouse$Printer", name := "addText", desc := "()V" } : MethodName)) ∈ q_tbl := q_of8 33 rfl (by decide +kernel)
set_option maxRecDepth 100000 in
theorem w_1714 : (Cond.selects "NumberHouse$Printer" ({ cls := "NumberHouse$Printer", name := "addText", desc := "()V" } : MethodName) ({ cls := "NumberHouse$Printer", name := "addText", desc := "()V" } : MethodName)) ∈ q_tbl := q_of8 34 rfl (by decide +kernel)
theorem LV_NH_380 : q_LV "NumberHouse" 380 y_Pri_addText prog_9_method_4_code 1 none 0 := ⟨w_1715, w_12, w_1712, w_1713, w_1714, ⟨by decide, by decide, by decide +kernel⟩⟩
theorem d_1_22_133 : decode prog_1_method_22_code 133 = .ok (.aload_n 0, 1) := by decide +kernel
theorem d_1_22_134 : decode prog_1_method_22_code 134 = .ok (.getfield 14, 3) := by decide +kernel
theorem d_1_22_137 : decode prog_1_method_22_code 137 = .ok (.invokevirtual 115, 3) := by decide +kernel
theorem d_1_22_140 : decode prog_1_method_22_code 140 = .ok (.return_, 1) := by decide +kernel
theorem d_1_22_112 : decode prog_1_method_22_code 112 = .ok (.aload_n 0, 1) := by decide +kernel
theorem d_1_22_113 : decode prog_1_method_22_code 113 = .ok (.getfield 98, 3) := by decide +kernel
theorem d_1_22_116 : decode prog_1_method_22_code 116 = .ok (.iconst 2, 1) := by decide +kernel
theorem d_1_22_117 : decode prog_1_method_22_code 117 = .ok (.iload_n 2, 1) := by decide +kernel
theorem d_1_22_118 : decode prog_1_method_22_code 118 = .ok (.i2l, 1) := by decide +kernel
theorem d_1_22_119 : decode prog_1_method_22_code 119 = .ok (.iconst 0, 1) := by decide +kernel
theorem d_1_22_120 : decode prog_1_method_22_code 120 = .ok (.invokevirtual 374, 3) := by decide +kernel
set_option maxRecDepth 100000 in
theorem w_1708 : (Cond.methodLink "NumberHouse" (374 : Nat) ({ cls := "NumberHouse$Printer", name := "addNumber", desc := "(IJI)V" } : MethodName)) ∈ q_tbl := q_of8 28 rfl (by decide +kernel)
theorem LV_NH_374 : q_LV "NumberHouse" 374 y_Pri_addNumber prog_9_method_3_code 5 none 3 := ⟨w_1711, w_12, w_1708, w_1709, w_1710, ⟨by decide, by decide, by decide +kernel⟩⟩
theorem d_1_22_123 : decode prog_1_method_22_code 123 = .ok (.goto 17, 3) := by decide +kernel
theorem d_1_22_85 : decode prog_1_method_22_code 85 = .ok (.aload_n 0, 1) := by decide +kernel
theorem d_1_22_86 : decode prog_1_method_22_code 86 = .ok (.getfield 98, 3) := by decide +kernel
theorem d_1_22_89 : decode prog_1_method_22_code 89 = .ok (.iconst 1, 1) := by decide +kernel
theorem d_1_22_90 : decode prog_1_method_22_code 90 = .ok (.iload_n 2, 1) := by decide +kernel
theorem d_1_22_91 : decode prog_1_method_22_code 91 = .ok (.ifCond .ne 7, 3) := by decide +kernel
theorem d_1_22_98 : decode prog_1_method_22_code 98 = .ok (.lconst 1, 1) := by decide +kernel
theorem d_1_22_99 : decode prog_1_method_22_code 99 = .ok (.iconst 0, 1) := by decide +kernel
theorem d_1_22_100 : decode prog_1_method_22_code 100 = .ok (.invokevirtual 374, 3) := by decide +kernel
theorem d_1_22_103 : decode prog_1_method_22_code 103 = .ok (.goto 37, 3) := by decide +kernel
theorem d_1_22_94 : decode prog_1_method_22_code 94 = .ok (.lconst 0, 1) := by decide +kernel
theorem d_1_22_95 : decode prog_1_method_22_code 95 = .ok (.goto 4, 3) := by decide +kernel
theorem d_1_22_67 : decode prog_1_method_22_code 67 = .ok (.aload_n 0, 1) := by decide +kernel
theorem d_1_22_68 : decode prog_1_method_22_code 68 = .ok (.getfield 98, 3) := by decide +kernel
theorem d_1_22_71 : decode prog_1_method_22_code 71 = .ok (.iconst 0, 1) := by decide +kernel
theorem d_1_22_72 : decode prog_1_method_22_code 72 = .ok (.lconst 0, 1) := by decide +kernel
theorem d_1_22_73 : decode prog_1_method_22_code 73 = .ok (.iconst 0, 1) := by decide +kernel
theorem d_1_22_74 : decode prog_1_method_22_code 74 = .ok (.invokevirtual 374, 3) := by decide +kernel
theorem d_1_22_77 : decode prog_1_method_22_code 77 = .ok (.goto 63, 3) := by decide +kernel
theorem d_1_22_30 : decode prog_1_method_22_code 30 = .ok (.aload_n 0, 1) := by decide +kernel
theorem d_1_22_31 : decode prog_1_method_22_code 31 = .ok (.getfield 98, 3) := by decide +kernel
theorem d_1_22_34 : decode prog_1_method_22_code 34 = .ok (.iconst 5, 1) := by decide +kernel
theorem d_1_22_35 : decode prog_1_method_22_code 35 = .ok (.aload_n 0, 1) := by decide +kernel
theorem d_1_22_36 : decode prog_1_method_22_code 36 = .ok (.getfield 29, 3) := by decide +kernel
theorem d_1_22_39 : decode prog_1_method_22_code 39 = .ok (.iload_n 2, 1) := by decide +kernel
theorem d_1_22_40 : decode prog_1_method_22_code 40 = .ok (.aaload, 1) := by decide +kernel
theorem d_1_22_41 : decode prog_1_method_22_code 41 = .ok (.getfield 277, 3) := by decide +kernel
theorem d_1_22_44 : decode prog_1_method_22_code 44 = .ok (.invokevirtual 370, 3) := by decide +kernel
theorem d_1_22_47 : decode prog_1_method_22_code 47 = .ok (.aload_n 0, 1) := by decide +kernel
theorem d_1_22_48 : decode prog_1_method_22_code 48 = .ok (.getfield 29, 3) := by decide +kernel
theorem d_1_22_51 : decode prog_1_method_22_code 51 = .ok (.iload_n 2, 1) := by decide +kernel
theorem d_1_22_52 : decode prog_1_method_22_code 52 = .ok (.aaload, 1) := by decide +kernel
theorem d_1_22_53 : decode prog_1_method_22_code 53 = .ok (.getfield 378, 3) := by decide +kernel
theorem d_1_22_56 : decode prog_1_method_22_code 56 = .ok (.invokevirtual 374, 3) := by decide +kernel
theorem d_1_22_59 : decode prog_1_method_22_code 59 = .ok (.goto 81, 3) := by decide +kernel
theorem d_1_22_4 : decode prog_1_method_22_code 4 = .ok (.aload_n 0, 1) := by decide +kernel
theorem d_1_22_5 : decode prog_1_method_22_code 5 = .ok (.getfield 98, 3) := by decide +kernel
theorem d_1_22_8 : decode prog_1_method_22_code 8 = .ok (.iconst 3, 1) := by decide +kernel
theorem d_1_22_9 : decode prog_1_method_22_code 9 = .ok (.aload_n 0, 1) := by decide +kernel
theorem d_1_22_10 : decode prog_1_method_22_code 10 = .ok (.getfield 23, 3) := by decide +kernel
theorem d_1_22_13 : decode prog_1_method_22_code 13 = .ok (.iload_n 2, 1) := by decide +kernel
theorem d_1_22_14 : decode prog_1_method_22_code 14 = .ok (.aaload, 1) := by decide +kernel
theorem d_1_22_15 : decode prog_1_method_22_code 15 = .ok (.invokevirtual 370, 3) := by decide +kernel
theorem d_1_22_18 : decode prog_1_method_22_code 18 = .ok (.iconst 0, 1) := by decide +kernel
theorem d_1_22_19 : decode prog_1_method_22_code 19 = .ok (.invokevirtual 374, 3) := by decide +kernel
theorem d_1_22_22 : decode prog_1_method_22_code 22 = .ok (.goto 118, 3) := by decide +kernel
def y_NH_addArgument : MethodName := ⟨"NumberHouse", "addArgument", "(II)V"⟩
def F_NH_addArgument_c130 (x2 : Int32) (x3 : Int32) (t0_0 : Int32) (t0_1 : Int32) (t0_2 : Int32) (t0_3 : Int32) (t1_0 : (Nat → Int32)) (t2_0 : (Nat → Int64)) (t3_0 : (Nat → Int32)) (t4_0 : Int32) (t5_0 : (Nat → Int64)) (t6_0 : Int32) (t7_0 : (Nat → Int64)) (t8_0 : Int32) (t9_0 : (Nat → Int64)) (t10_0 : Int32) (t11_0 : (Nat → Int64)) (t12_0 : Int32) (t13_0 : (Nat → Int64)) (t14_0 : Int32) (t15_0 : (Nat → Int64)) (t16_0 : Int32) (t17_0 : (Nat → Int64)) (t18_0 : Int32) (t19_0 : (Nat → Int64)) (t20_0 : Int32) (t21_0 : (Nat → Int64)) (t22_0 : Int32) (t23_0 : (Nat → Int64)) (t24_0 : Int32) (t24_1 : Int32) (t25_0 : (Nat → Int32)) (t26_0 : Int32) (t26_1 : Int32) (t27_0 : Int32) (t27_1 : Int32) (t28_0 : (Nat → Int32)) (p183 : (Int32 × Int32 × Int32 × Int32 × (Nat → Int32) × (Nat → Int64) × (Nat → Int32) × Int32 × (Nat → Int64) × Int32 × (Nat → Int64) × Int32 × (Nat → Int64) × Int32 × (Nat → Int64) × Int32 × (Nat → Int64) × Int32 × (Nat → Int64) × Int32 × (Nat → Int64) × Int32 × (Nat → Int64) × Int32 × (Nat → Int64))) : Int32 × Int32 × Int32 × Int32 × (Nat → Int32) × (Nat → Int64) × (Nat → Int32) × Int32 × Int32 × (Nat → Int64) × Int32 × (Nat → Int64) × Int32 × (Nat → Int64) × Int32 × (Nat → Int64) × Int32 × (Nat → Int64) × Int32 × (Nat → Int64) × Int32 × (Nat → Int64) × Int32 × (Nat → Int64) × Int32 × (Nat → Int64) := ((p183.1 : Int32), (p183.2.1 : Int32), (p183.2.2.1 : Int32), (p183.2.2.2.1 : Int32), (p183.2.2.2.2.1 : (Nat → Int32)), (p183.2.2.2.2.2.1 : (Nat → Int64)), (p183.2.2.2.2.2.2.1 : (Nat → Int32)), ((F_She_clear (4100 : Int32) (513 : Int32) (4100 : Int32) t4_0) : Int32), (p183.2.2.2.2.2.2.2.1 : Int32), (p183.2.2.2.2.2.2.2.2.1 : (Nat → Int64)), (p183.2.2.2.2.2.2.2.2.2.1 : Int32), (p183.2.2.2.2.2.2.2.2.2.2.1 : (Nat → Int64)), (p183.2.2.2.2.2.2.2.2.2.2.2.1 : Int32), (p183.2.2.2.2.2.2.2.2.2.2.2.2.1 : (Nat → Int64)), (p183.2.2.2.2.2.2.2.2.2.2.2.2.2.1 : Int32), (p183.2.2.2.2.2.2.2.2.2.2.2.2.2.2.1 : (Nat → Int64)), (p183.2.2.2.2.2.2.2.2.2.2.2.2.2.2.2.1 : Int32), (p183.2.2.2.2.2.2.2.2.2.2.2.2.2.2.2.2.1 : (Nat → Int64)), (p183.2.2.2.2.2.2.2.2.2.2.2.2.2.2.2.2.2.1 : Int32), (p183.2.2.2.2.2.2.2.2.2.2.2.2.2.2.2.2.2.2.1 : (Nat → Int64)), (p183.2.2.2.2.2.2.2.2.2.2.2.2.2.2.2.2.2.2.2.1 : Int32), (p183.2.2.2.2.2.2.2.2.2.2.2.2.2.2.2.2.2.2.2.2.1 : (Nat → Int64)), (p183.2.2.2.2.2.2.2.2.2.2.2.2.2.2.2.2.2.2.2.2.2.1 : Int32), (p183.2.2.2.2.2.2.2.2.2.2.2.2.2.2.2.2.2.2.2.2.2.2.1 : (Nat → Int64)), (p183.2.2.2.2.2.2.2.2.2.2.2.2.2.2.2.2.2.2.2.2.2.2.2.1 : Int32), (p183.2.2.2.2.2.2.2.2.2.2.2.2.2.2.2.2.2.2.2.2.2.2.2.2 : (Nat → Int64)))
def F_NH_addArgument_c120 (x2 : Int32) (x3 : Int32) (t0_0 : Int32) (t0_1 : Int32) (t0_2 : Int32) (t0_3 : Int32) (t1_0 : (Nat → Int32)) (t2_0 : (Nat → Int64)) (t3_0 : (Nat → Int32)) (t4_0 : Int32) (t5_0 : (Nat → Int64)) (t6_0 : Int32) (t7_0 : (Nat → Int64)) (t8_0 : Int32) (t9_0 : (Nat → Int64)) (t10_0 : Int32) (t11_0 : (Nat → Int64)) (t12_0 : Int32) (t13_0 : (Nat → Int64)) (t14_0 : Int32) (t15_0 : (Nat → Int64)) (t16_0 : Int32) (t17_0 : (Nat → Int64)) (t18_0 : Int32) (t19_0 : (Nat → Int64)) (t20_0 : Int32) (t21_0 : (Nat → Int64)) (t22_0 : Int32) (t23_0 : (Nat → Int64)) (t24_0 : Int32) (t24_1 : Int32) (t25_0 : (Nat → Int32)) (t26_0 : Int32) (t26_1 : Int32) (t27_0 : Int32) (t27_1 : Int32) (t28_0 : (Nat → Int32)) (p254 : (Int32 × Int32 × Int32 × Int32 × (Nat → Int32) × (Nat → Int64) × (Nat → Int32))) : Int32 × Int32 × Int32 × Int32 × (Nat → Int32) × (Nat → Int64) × (Nat → Int32) × Int32 × Int32 × (Nat → Int64) × Int32 × (Nat → Int64) × Int32 × (Nat → Int64) × Int32 × (Nat → Int64) × Int32 × (Nat → Int64) × Int32 × (Nat → Int64) × Int32 × (Nat → Int64) × Int32 × (Nat → Int64) × Int32 × (Nat → Int64) := ((p254.1 : Int32), (p254.2.1 : Int32), (p254.2.2.1 : Int32), (p254.2.2.2.1 : Int32), (p254.2.2.2.2.1 : (Nat → Int32)), (p254.2.2.2.2.2.1 : (Nat → Int64)), (p254.2.2.2.2.2.2 : (Nat → Int32)), t4_0, t6_0, t7_0, t8_0, t9_0, t10_0, t11_0, t12_0, t13_0, t14_0, t15_0, t16_0, t17_0, t18_0, t19_0, t20_0, t21_0, t22_0, t23_0)
def F_NH_addArgument_c100 (x2 : Int32) (x3 : Int32) (t0_0 : Int32) (t0_1 : Int32) (t0_2 : Int32) (t0_3 : Int32) (t1_0 : (Nat → Int32)) (t2_0 : (Nat → Int64)) (t3_0 : (Nat → Int32)) (t4_0 : Int32) (t5_0 : (Nat → Int64)) (t6_0 : Int32) (t7_0 : (Nat → Int64)) (t8_0 : Int32) (t9_0 : (Nat → Int64)) (t10_0 : Int32) (t11_0 : (Nat → Int64)) (t12_0 : Int32) (t13_0 : (Nat → Int64)) (t14_0 : Int32) (t15_0 : (Nat → Int64)) (t16_0 : Int32) (t17_0 : (Nat → Int64)) (t18_0 : Int32) (t19_0 : (Nat → Int64)) (t20_0 : Int32) (t21_0 : (Nat → Int64)) (t22_0 : Int32) (t23_0 : (Nat → Int64)) (t24_0 : Int32) (t24_1 : Int32) (t25_0 : (Nat → Int32)) (t26_0 : Int32) (t26_1 : Int32) (t27_0 : Int32) (t27_1 : Int32) (t28_0 : (Nat → Int32)) (p297 : (Int32 × Int32 × Int32 × Int32 × (Nat → Int32) × (Nat → Int64) × (Nat → Int32))) : Int32 × Int32 × Int32 × Int32 × (Nat → Int32) × (Nat → Int64) × (Nat → Int32) × Int32 × Int32 × (Nat → Int64) × Int32 × (Nat → Int64) × Int32 × (Nat → Int64) × Int32 × (Nat → Int64) × Int32 × (Nat → Int64) × Int32 × (Nat → Int64) × Int32 × (Nat → Int64) × Int32 × (Nat → Int64) × Int32 × (Nat → Int64) := ((p297.1 : Int32), (p297.2.1 : Int32), (p297.2.2.1 : Int32), (p297.2.2.2.1 : Int32), (p297.2.2.2.2.1 : (Nat → Int32)), (p297.2.2.2.2.2.1 : (Nat → Int64)), (p297.2.2.2.2.2.2 : (Nat → Int32)), t4_0, t6_0, t7_0, t8_0, t9_0, t10_0, t11_0, t12_0, t13_0, t14_0, t15_0, t16_0, t17_0, t18_0, t19_0, t20_0, t21_0, t22_0, t23_0)
def F_NH_addArgument_c100_4 (x2 : Int32) (x3 : Int32) (t0_0 : Int32) (t0_1 : Int32) (t0_2 : Int32) (t0_3 : Int32) (t1_0 : (Nat → Int32)) (t2_0 : (Nat → Int64)) (t3_0 : (Nat → Int32)) (t4_0 : Int32) (t5_0 : (Nat → Int64)) (t6_0 : Int32) (t7_0 : (Nat → Int64)) (t8_0 : Int32) (t9_0 : (Nat → Int64)) (t10_0 : Int32) (t11_0 : (Nat → Int64)) (t12_0 : Int32) (t13_0 : (Nat → Int64)) (t14_0 : Int32) (t15_0 : (Nat → Int64)) (t16_0 : Int32) (t17_0 : (Nat → Int64)) (t18_0 : Int32) (t19_0 : (Nat → Int64)) (t20_0 : Int32) (t21_0 : (Nat → Int64)) (t22_0 : Int32) (t23_0 : (Nat → Int64)) (t24_0 : Int32) (t24_1 : Int32) (t25_0 : (Nat → Int32)) (t26_0 : Int32) (t26_1 : Int32) (t27_0 : Int32) (t27_1 : Int32) (t28_0 : (Nat → Int32)) (p337 : (Int32 × Int32 × Int32 × Int32 × (Nat → Int32) × (Nat → Int64) × (Nat → Int32))) : Int32 × Int32 × Int32 × Int32 × (Nat → Int32) × (Nat → Int64) × (Nat → Int32) × Int32 × Int32 × (Nat → Int64) × Int32 × (Nat → Int64) × Int32 × (Nat → Int64) × Int32 × (Nat → Int64) × Int32 × (Nat → Int64) × Int32 × (Nat → Int64) × Int32 × (Nat → Int64) × Int32 × (Nat → Int64) × Int32 × (Nat → Int64) := ((p337.1 : Int32), (p337.2.1 : Int32), (p337.2.2.1 : Int32), (p337.2.2.2.1 : Int32), (p337.2.2.2.2.1 : (Nat → Int32)), (p337.2.2.2.2.2.1 : (Nat → Int64)), (p337.2.2.2.2.2.2 : (Nat → Int32)), t4_0, t6_0, t7_0, t8_0, t9_0, t10_0, t11_0, t12_0, t13_0, t14_0, t15_0, t16_0, t17_0, t18_0, t19_0, t20_0, t21_0, t22_0, t23_0)
def F_NH_addArgument_c74 (x2 : Int32) (x3 : Int32) (t0_0 : Int32) (t0_1 : Int32) (t0_2 : Int32) (t0_3 : Int32) (t1_0 : (Nat → Int32)) (t2_0 : (Nat → Int64)) (t3_0 : (Nat → Int32)) (t4_0 : Int32) (t5_0 : (Nat → Int64)) (t6_0 : Int32) (t7_0 : (Nat → Int64)) (t8_0 : Int32) (t9_0 : (Nat → Int64)) (t10_0 : Int32) (t11_0 : (Nat → Int64)) (t12_0 : Int32) (t13_0 : (Nat → Int64)) (t14_0 : Int32) (t15_0 : (Nat → Int64)) (t16_0 : Int32) (t17_0 : (Nat → Int64)) (t18_0 : Int32) (t19_0 : (Nat → Int64)) (t20_0 : Int32) (t21_0 : (Nat → Int64)) (t22_0 : Int32) (t23_0 : (Nat → Int64)) (t24_0 : Int32) (t24_1 : Int32) (t25_0 : (Nat → Int32)) (t26_0 : Int32) (t26_1 : Int32) (t27_0 : Int32) (t27_1 : Int32) (t28_0 : (Nat → Int32)) (p378 : (Int32 × Int32 × Int32 × Int32 × (Nat → Int32) × (Nat → Int64) × (Nat → Int32))) : Int32 × Int32 × Int32 × Int32 × (Nat → Int32) × (Nat → Int64) × (Nat → Int32) × Int32 × Int32 × (Nat → Int64) × Int32 × (Nat → Int64) × Int32 × (Nat → Int64) × Int32 × (Nat → Int64) × Int32 × (Nat → Int64) × Int32 × (Nat → Int64) × Int32 × (Nat → Int64) × Int32 × (Nat → Int64) × Int32 × (Nat → Int64) := ((p378.1 : Int32), (p378.2.1 : Int32), (p378.2.2.1 : Int32), (p378.2.2.2.1 : Int32), (p378.2.2.2.2.1 : (Nat → Int32)), (p378.2.2.2.2.2.1 : (Nat → Int64)), (p378.2.2.2.2.2.2 : (Nat → Int32)), t4_0, t6_0, t7_0, t8_0, t9_0, t10_0, t11_0, t12_0, t13_0, t14_0, t15_0, t16_0, t17_0, t18_0, t19_0, t20_0, t21_0, t22_0, t23_0)
def F_NH_addArgument_c56 (x2 : Int32) (x3 : Int32) (t0_0 : Int32) (t0_1 : Int32) (t0_2 : Int32) (t0_3 : Int32) (t1_0 : (Nat → Int32)) (t2_0 : (Nat → Int64)) (t3_0 : (Nat → Int32)) (t4_0 : Int32) (t5_0 : (Nat → Int64)) (t6_0 : Int32) (t7_0 : (Nat → Int64)) (t8_0 : Int32) (t9_0 : (Nat → Int64)) (t10_0 : Int32) (t11_0 : (Nat → Int64)) (t12_0 : Int32) (t13_0 : (Nat → Int64)) (t14_0 : Int32) (t15_0 : (Nat → Int64)) (t16_0 : Int32) (t17_0 : (Nat → Int64)) (t18_0 : Int32) (t19_0 : (Nat → Int64)) (t20_0 : Int32) (t21_0 : (Nat → Int64)) (t22_0 : Int32) (t23_0 : (Nat → Int64)) (t24_0 : Int32) (t24_1 : Int32) (t25_0 : (Nat → Int32)) (t26_0 : Int32) (t26_1 : Int32) (t27_0 : Int32) (t27_1 : Int32) (t28_0 : (Nat → Int32)) (p432 : (Int32 × Int32 × Int32 × Int32 × (Nat → Int32) × (Nat → Int64) × (Nat → Int32))) : Int32 × Int32 × Int32 × Int32 × (Nat → Int32) × (Nat → Int64) × (Nat → Int32) × Int32 × Int32 × (Nat → Int64) × Int32 × (Nat → Int64) × Int32 × (Nat → Int64) × Int32 × (Nat → Int64) × Int32 × (Nat → Int64) × Int32 × (Nat → Int64) × Int32 × (Nat → Int64) × Int32 × (Nat → Int64) × Int32 × (Nat → Int64) := ((p432.1 : Int32), (p432.2.1 : Int32), (p432.2.2.1 : Int32), (p432.2.2.2.1 : Int32), (p432.2.2.2.2.1 : (Nat → Int32)), (p432.2.2.2.2.2.1 : (Nat → Int64)), (p432.2.2.2.2.2.2 : (Nat → Int32)), t4_0, t6_0, t7_0, t8_0, t9_0, t10_0, t11_0, t12_0, t13_0, t14_0, t15_0, t16_0, t17_0, t18_0, t19_0, t20_0, t21_0, t22_0, t23_0)
def F_NH_addArgument_c19 (x2 : Int32) (x3 : Int32) (t0_0 : Int32) (t0_1 : Int32) (t0_2 : Int32) (t0_3 : Int32) (t1_0 : (Nat → Int32)) (t2_0 : (Nat → Int64)) (t3_0 : (Nat → Int32)) (t4_0 : Int32) (t5_0 : (Nat → Int64)) (t6_0 : Int32) (t7_0 : (Nat → Int64)) (t8_0 : Int32) (t9_0 : (Nat → Int64)) (t10_0 : Int32) (t11_0 : (Nat → Int64)) (t12_0 : Int32) (t13_0 : (Nat → Int64)) (t14_0 : Int32) (t15_0 : (Nat → Int64)) (t16_0 : Int32) (t17_0 : (Nat → Int64)) (t18_0 : Int32) (t19_0 : (Nat → Int64)) (t20_0 : Int32) (t21_0 : (Nat → Int64)) (t22_0 : Int32) (t23_0 : (Nat → Int64)) (t24_0 : Int32) (t24_1 : Int32) (t25_0 : (Nat → Int32)) (t26_0 : Int32) (t26_1 : Int32) (t27_0 : Int32) (t27_1 : Int32) (t28_0 : (Nat → Int32)) (p483 : (Int32 × Int32 × Int32 × Int32 × (Nat → Int32) × (Nat → Int64) × (Nat → Int32))) : Int32 × Int32 × Int32 × Int32 × (Nat → Int32) × (Nat → Int64) × (Nat → Int32) × Int32 × Int32 × (Nat → Int64) × Int32 × (Nat → Int64) × Int32 × (Nat → Int64) × Int32 × (Nat → Int64) × Int32 × (Nat → Int64) × Int32 × (Nat → Int64) × Int32 × (Nat → Int64) × Int32 × (Nat → Int64) × Int32 × (Nat → Int64) := ((p483.1 : Int32), (p483.2.1 : Int32), (p483.2.2.1 : Int32), (p483.2.2.2.1 : Int32), (p483.2.2.2.2.1 : (Nat → Int32)), (p483.2.2.2.2.2.1 : (Nat → Int64)), (p483.2.2.2.2.2.2 : (Nat → Int32)), t4_0, t6_0, t7_0, t8_0, t9_0, t10_0, t11_0, t12_0, t13_0, t14_0, t15_0, t16_0, t17_0, t18_0, t19_0, t20_0, t21_0, t22_0, t23_0)
def F_NH_addArgument (x2 : Int32) (x3 : Int32) (t0_0 : Int32) (t0_1 : Int32) (t0_2 : Int32) (t0_3 : Int32) (t1_0 : (Nat → Int32)) (t2_0 : (Nat → Int64)) (t3_0 : (Nat → Int32)) (t4_0 : Int32) (t5_0 : (Nat → Int64)) (t6_0 : Int32) (t7_0 : (Nat → Int64)) (t8_0 : Int32) (t9_0 : (Nat → Int64)) (t10_0 : Int32) (t11_0 : (Nat → Int64)) (t12_0 : Int32) (t13_0 : (Nat → Int64)) (t14_0 : Int32) (t15_0 : (Nat → Int64)) (t16_0 : Int32) (t17_0 : (Nat → Int64)) (t18_0 : Int32) (t19_0 : (Nat → Int64)) (t20_0 : Int32) (t21_0 : (Nat → Int64)) (t22_0 : Int32) (t23_0 : (Nat → Int64)) (t24_0 : Int32) (t24_1 : Int32) (t25_0 : (Nat → Int32)) (t26_0 : Int32) (t26_1 : Int32) (t27_0 : Int32) (t27_1 : Int32) (t28_0 : (Nat → Int32)) : Int32 × Int32 × Int32 × Int32 × (Nat → Int32) × (Nat → Int64) × (Nat → Int32) × Int32 × Int32 × (Nat → Int64) × Int32 × (Nat → Int64) × Int32 × (Nat → Int64) × Int32 × (Nat → Int64) × Int32 × (Nat → Int64) × Int32 × (Nat → Int64) × Int32 × (Nat → Int64) × Int32 × (Nat → Int64) × Int32 × (Nat → Int64) := if x2 = (0 : Int32) then (F_NH_addArgument_c19 x2 x3 t0_0 t0_1 t0_2 t0_3 t1_0 t2_0 t3_0 t4_0 t5_0 t6_0 t7_0 t8_0 t9_0 t10_0 t11_0 t12_0 t13_0 t14_0 t15_0 t16_0 t17_0 t18_0 t19_0 t20_0 t21_0 t22_0 t23_0 t24_0 t24_1 t25_0 t26_0 t26_1 t27_0 t27_1 t28_0 ((F_Pri_addNumber (3 : Int32) ((F_Big_toLong (68 : Int32) t24_0 t24_1 t25_0) : Int64) (0 : Int32) t0_0 t0_1 t0_2 t0_3 t1_0 t2_0 t3_0) : (Int32 × Int32 × Int32 × Int32 × (Nat → Int32) × (Nat → Int64) × (Nat → Int32)))) else (if x2 = (1 : Int32) then (F_NH_addArgument_c56 x2 x3 t0_0 t0_1 t0_2 t0_3 t1_0 t2_0 t3_0 t4_0 t5_0 t6_0 t7_0 t8_0 t9_0 t10_0 t11_0 t12_0 t13_0 t14_0 t15_0 t16_0 t17_0 t18_0 t19_0 t20_0 t21_0 t22_0 t23_0 t24_0 t24_1 t25_0 t26_0 t26_1 t27_0 t27_1 t28_0 ((F_Pri_addNumber (5 : Int32) ((F_Big_toLong (108 : Int32) t27_0 t27_1 t28_0) : Int64) t26_0 t0_0 t0_1 t0_2 t0_3 t1_0 t2_0 t3_0) : (Int32 × Int32 × Int32 × Int32 × (Nat → Int32) × (Nat → Int64) × (Nat → Int32)))) else (if x2 = (4 : Int32) then (F_NH_addArgument_c74 x2 x3 t0_0 t0_1 t0_2 t0_3 t1_0 t2_0 t3_0 t4_0 t5_0 t6_0 t7_0 t8_0 t9_0 t10_0 t11_0 t12_0 t13_0 t14_0 t15_0 t16_0 t17_0 t18_0 t19_0 t20_0 t21_0 t22_0 t23_0 t24_0 t24_1 t25_0 t26_0 t26_1 t27_0 t27_1 t28_0 ((F_Pri_addNumber (0 : Int32) (0 : Int64) (0 : Int32) t0_0 t0_1 t0_2 t0_3 t1_0 t2_0 t3_0) : (Int32 × Int32 × Int32 × Int32 × (Nat → Int32) × (Nat → Int64) × (Nat → Int32)))) else (if x2 = (5 : Int32) then (if x3 = (0 : Int32) then (F_NH_addArgument_c100_4 x2 x3 t0_0 t0_1 t0_2 t0_3 t1_0 t2_0 t3_0 t4_0 t5_0 t6_0 t7_0 t8_0 t9_0 t10_0 t11_0 t12_0 t13_0 t14_0 t15_0 t16_0 t17_0 t18_0 t19_0 t20_0 t21_0 t22_0 t23_0 t24_0 t24_1 t25_0 t26_0 t26_1 t27_0 t27_1 t28_0 ((F_Pri_addNumber (1 : Int32) (0 : Int64) (0 : Int32) t0_0 t0_1 t0_2 t0_3 t1_0 t2_0 t3_0) : (Int32 × Int32 × Int32 × Int32 × (Nat → Int32) × (Nat → Int64) × (Nat → Int32)))) else (F_NH_addArgument_c100 x2 x3 t0_0 t0_1 t0_2 t0_3 t1_0 t2_0 t3_0 t4_0 t5_0 t6_0 t7_0 t8_0 t9_0 t10_0 t11_0 t12_0 t13_0 t14_0 t15_0 t16_0 t17_0 t18_0 t19_0 t20_0 t21_0 t22_0 t23_0 t24_0 t24_1 t25_0 t26_0 t26_1 t27_0 t27_1 t28_0 ((F_Pri_addNumber (1 : Int32) (1 : Int64) (0 : Int32) t0_0 t0_1 t0_2 t0_3 t1_0 t2_0 t3_0) : (Int32 × Int32 × Int32 × Int32 × (Nat → Int32) × (Nat → Int64) × (Nat → Int32))))) else (if x2 = (6 : Int32) then (F_NH_addArgument_c120 x2 x3 t0_0 t0_1 t0_2 t0_3 t1_0 t2_0 t3_0 t4_0 t5_0 t6_0 t7_0 t8_0 t9_0 t10_0 t11_0 t12_0 t13_0 t14_0 t15_0 t16_0 t17_0 t18_0 t19_0 t20_0 t21_0 t22_0 t23_0 t24_0 t24_1 t25_0 t26_0 t26_1 t27_0 t27_1 t28_0 ((F_Pri_addNumber (2 : Int32) (x3.toInt64 : Int64) (0 : Int32) t0_0 t0_1 t0_2 t0_3 t1_0 t2_0 t3_0) : (Int32 × Int32 × Int32 × Int32 × (Nat → Int32) × (Nat → Int64) × (Nat → Int32)))) else (F_NH_addArgument_c130 x2 x3 t0_0 t0_1 t0_2 t0_3 t1_0 t2_0 t3_0 t4_0 t5_0 t6_0 t7_0 t8_0 t9_0 t10_0 t11_0 t12_0 t13_0 t14_0 t15_0 t16_0 t17_0 t18_0 t19_0 t20_0 t21_0 t22_0 t23_0 t24_0 t24_1 t25_0 t26_0 t26_1 t27_0 t27_1 t28_0 ((F_Pri_addText t0_0 t0_1 t0_2 t0_3 t1_0 t2_0 t3_0 t4_0 t5_0 t6_0 t7_0 t8_0 t9_0 t10_0 t11_0 t12_0 t13_0 t14_0 t15_0 t16_0 t17_0 t18_0 t19_0 t20_0 t21_0 t22_0 t23_0) : (Int32 × Int32 × Int32 × Int32 × (Nat → Int32) × (Nat → Int64) × (Nat → Int32) × Int32 × (Nat → Int64) × Int32 × (Nat → Int64) × Int32 × (Nat → Int64) × Int32 × (Nat → Int64) × Int32 × (Nat → Int64) × Int32 × (Nat → Int64) × Int32 × (Nat → Int64) × Int32 × (Nat → Int64) × Int32 × (Nat → Int64))))))))
def S_NH_addArgument_c130 (x2 : Int32) (x3 : Int32) (t0_0 : Int32) (t0_1 : Int32) (t0_2 : Int32) (t0_3 : Int32) (t1_0 : (Nat → Int32)) (t2_0 : (Nat → Int64)) (t3_0 : (Nat → Int32)) (t4_0 : Int32) (t5_0 : (Nat → Int64)) (t6_0 : Int32) (t7_0 : (Nat → Int64)) (t8_0 : Int32) (t9_0 : (Nat → Int64)) (t10_0 : Int32) (t11_0 : (Nat → Int64)) (t12_0 : Int32) (t13_0 : (Nat → Int64)) (t14_0 : Int32) (t15_0 : (Nat → Int64)) (t16_0 : Int32) (t17_0 : (Nat → Int64)) (t18_0 : Int32) (t19_0 : (Nat → Int64)) (t20_0 : Int32) (t21_0 : (Nat → Int64)) (t22_0 : Int32) (t23_0 : (Nat → Int64)) (t24_0 : Int32) (t24_1 : Int32) (t25_0 : (Nat → Int32)) (t26_0 : Int32) (t26_1 : Int32) (t27_0 : Int32) (t27_1 : Int32) (t28_0 : (Nat → Int32)) (p183 : (Int32 × Int32 × Int32 × Int32 × (Nat → Int32) × (Nat → Int64) × (Nat → Int32) × Int32 × (Nat → Int64) × Int32 × (Nat → Int64) × Int32 × (Nat → Int64) × Int32 × (Nat → Int64) × Int32 × (Nat → Int64) × Int32 × (Nat → Int64) × Int32 × (Nat → Int64) × Int32 × (Nat → Int64) × Int32 × (Nat → Int64))) : Prop := True
def S_NH_addArgument_c120 (x2 : Int32) (x3 : Int32) (t0_0 : Int32) (t0_1 : Int32) (t0_2 : Int32) (t0_3 : Int32) (t1_0 : (Nat → Int32)) (t2_0 : (Nat → Int64)) (t3_0 : (Nat → Int32)) (t4_0 : Int32) (t5_0 : (Nat → Int64)) (t6_0 : Int32) (t7_0 : (Nat → Int64)) (t8_0 : Int32) (t9_0 : (Nat → Int64)) (t10_0 : Int32) (t11_0 : (Nat → Int64)) (t12_0 : Int32) (t13_0 : (Nat → Int64)) (t14_0 : Int32) (t15_0 : (Nat → Int64)) (t16_0 : Int32) (t17_0 : (Nat → Int64)) (t18_0 : Int32) (t19_0 : (Nat → Int64)) (t20_0 : Int32) (t21_0 : (Nat → Int64)) (t22_0 : Int32) (t23_0 : (Nat → Int64)) (t24_0 : Int32) (t24_1 : Int32) (t25_0 : (Nat → Int32)) (t26_0 : Int32) (t26_1 : Int32) (t27_0 : Int32) (t27_1 : Int32) (t28_0 : (Nat → Int32)) (p254 : (Int32 × Int32 × Int32 × Int32 × (Nat → Int32) × (Nat → Int64) × (Nat → Int32))) : Prop := True
def S_NH_addArgument_c100 (x2 : Int32) (x3 : Int32) (t0_0 : Int32) (t0_1 : Int32) (t0_2 : Int32) (t0_3 : Int32) (t1_0 : (Nat → Int32)) (t2_0 : (Nat → Int64)) (t3_0 : (Nat → Int32)) (t4_0 : Int32) (t5_0 : (Nat → Int64)) (t6_0 : Int32) (t7_0 : (Nat → Int64)) (t8_0 : Int32) (t9_0 : (Nat → Int64)) (t10_0 : Int32) (t11_0 : (Nat → Int64)) (t12_0 : Int32) (t13_0 : (Nat → Int64)) (t14_0 : Int32) (t15_0 : (Nat → Int64)) (t16_0 : Int32) (t17_0 : (Nat → Int64)) (t18_0 : Int32) (t19_0 : (Nat → Int64)) (t20_0 : Int32) (t21_0 : (Nat → Int64)) (t22_0 : Int32) (t23_0 : (Nat → Int64)) (t24_0 : Int32) (t24_1 : Int32) (t25_0 : (Nat → Int32)) (t26_0 : Int32) (t26_1 : Int32) (t27_0 : Int32) (t27_1 : Int32) (t28_0 : (Nat → Int32)) (p297 : (Int32 × Int32 × Int32 × Int32 × (Nat → Int32) × (Nat → Int64) × (Nat → Int32))) : Prop := True
def S_NH_addArgument_c100_4 (x2 : Int32) (x3 : Int32) (t0_0 : Int32) (t0_1 : Int32) (t0_2 : Int32) (t0_3 : Int32) (t1_0 : (Nat → Int32)) (t2_0 : (Nat → Int64)) (t3_0 : (Nat → Int32)) (t4_0 : Int32) (t5_0 : (Nat → Int64)) (t6_0 : Int32) (t7_0 : (Nat → Int64)) (t8_0 : Int32) (t9_0 : (Nat → Int64)) (t10_0 : Int32) (t11_0 : (Nat → Int64)) (t12_0 : Int32) (t13_0 : (Nat → Int64)) (t14_0 : Int32) (t15_0 : (Nat → Int64)) (t16_0 : Int32) (t17_0 : (Nat → Int64)) (t18_0 : Int32) (t19_0 : (Nat → Int64)) (t20_0 : Int32) (t21_0 : (Nat → Int64)) (t22_0 : Int32) (t23_0 : (Nat → Int64)) (t24_0 : Int32) (t24_1 : Int32) (t25_0 : (Nat → Int32)) (t26_0 : Int32) (t26_1 : Int32) (t27_0 : Int32) (t27_1 : Int32) (t28_0 : (Nat → Int32)) (p337 : (Int32 × Int32 × Int32 × Int32 × (Nat → Int32) × (Nat → Int64) × (Nat → Int32))) : Prop := True
def S_NH_addArgument_c74 (x2 : Int32) (x3 : Int32) (t0_0 : Int32) (t0_1 : Int32) (t0_2 : Int32) (t0_3 : Int32) (t1_0 : (Nat → Int32)) (t2_0 : (Nat → Int64)) (t3_0 : (Nat → Int32)) (t4_0 : Int32) (t5_0 : (Nat → Int64)) (t6_0 : Int32) (t7_0 : (Nat → Int64)) (t8_0 : Int32) (t9_0 : (Nat → Int64)) (t10_0 : Int32) (t11_0 : (Nat → Int64)) (t12_0 : Int32) (t13_0 : (Nat → Int64)) (t14_0 : Int32) (t15_0 : (Nat → Int64)) (t16_0 : Int32) (t17_0 : (Nat → Int64)) (t18_0 : Int32) (t19_0 : (Nat → Int64)) (t20_0 : Int32) (t21_0 : (Nat → Int64)) (t22_0 : Int32) (t23_0 : (Nat → Int64)) (t24_0 : Int32) (t24_1 : Int32) (t25_0 : (Nat → Int32)) (t26_0 : Int32) (t26_1 : Int32) (t27_0 : Int32) (t27_1 : Int32) (t28_0 : (Nat → Int32)) (p378 : (Int32 × Int32 × Int32 × Int32 × (Nat → Int32) × (Nat → Int64) × (Nat → Int32))) : Prop := True
def S_NH_addArgument_c56 (x2 : Int32) (x3 : Int32) (t0_0 : Int32) (t0_1 : Int32) (t0_2 : Int32) (t0_3 : Int32) (t1_0 : (Nat → Int32)) (t2_0 : (Nat → Int64)) (t3_0 : (Nat → Int32)) (t4_0 : Int32) (t5_0 : (Nat → Int64)) (t6_0 : Int32) (t7_0 : (Nat → Int64)) (t8_0 : Int32) (t9_0 : (Nat → Int64)) (t10_0 : Int32) (t11_0 : (Nat → Int64)) (t12_0 : Int32) (t13_0 : (Nat → Int64)) (t14_0 : Int32) (t15_0 : (Nat → Int64)) (t16_0 : Int32) (t17_0 : (Nat → Int64)) (t18_0 : Int32) (t19_0 : (Nat → Int64)) (t20_0 : Int32) (t21_0 : (Nat → Int64)) (t22_0 : Int32) (t23_0 : (Nat → Int64)) (t24_0 : Int32) (t24_1 : Int32) (t25_0 : (Nat → Int32)) (t26_0 : Int32) (t26_1 : Int32) (t27_0 : Int32) (t27_1 : Int32) (t28_0 : (Nat → Int32)) (p432 : (Int32 × Int32 × Int32 × Int32 × (Nat → Int32) × (Nat → Int64) × (Nat → Int32))) : Prop := True
def S_NH_addArgument_c19 (x2 : Int32) (x3 : Int32) (t0_0 : Int32) (t0_1 : Int32) (t0_2 : Int32) (t0_3 : Int32) (t1_0 : (Nat → Int32)) (t2_0 : (Nat → Int64)) (t3_0 : (Nat → Int32)) (t4_0 : Int32) (t5_0 : (Nat → Int64)) (t6_0 : Int32) (t7_0 : (Nat → Int64)) (t8_0 : Int32) (t9_0 : (Nat → Int64)) (t10_0 : Int32) (t11_0 : (Nat → Int64)) (t12_0 : Int32) (t13_0 : (Nat → Int64)) (t14_0 : Int32) (t15_0 : (Nat → Int64)) (t16_0 : Int32) (t17_0 : (Nat → Int64)) (t18_0 : Int32) (t19_0 : (Nat → Int64)) (t20_0 : Int32) (t21_0 : (Nat → Int64)) (t22_0 : Int32) (t23_0 : (Nat → Int64)) (t24_0 : Int32) (t24_1 : Int32) (t25_0 : (Nat → Int32)) (t26_0 : Int32) (t26_1 : Int32) (t27_0 : Int32) (t27_1 : Int32) (t28_0 : (Nat → Int32)) (p483 : (Int32 × Int32 × Int32 × Int32 × (Nat → Int32) × (Nat → Int64) × (Nat → Int32))) : Prop := True
def S_NH_addArgument (x2 : Int32) (x3 : Int32) (t0_0 : Int32) (t0_1 : Int32) (t0_2 : Int32) (t0_3 : Int32) (t1_0 : (Nat → Int32)) (t2_0 : (Nat → Int64)) (t3_0 : (Nat → Int32)) (t4_0 : Int32) (t5_0 : (Nat → Int64)) (t6_0 : Int32) (t7_0 : (Nat → Int64)) (t8_0 : Int32) (t9_0 : (Nat → Int64)) (t10_0 : Int32) (t11_0 : (Nat → Int64)) (t12_0 : Int32) (t13_0 : (Nat → Int64)) (t14_0 : Int32) (t15_0 : (Nat → Int64)) (t16_0 : Int32) (t17_0 : (Nat → Int64)) (t18_0 : Int32) (t19_0 : (Nat → Int64)) (t20_0 : Int32) (t21_0 : (Nat → Int64)) (t22_0 : Int32) (t23_0 : (Nat → Int64)) (t24_0 : Int32) (t24_1 : Int32) (t25_0 : (Nat → Int32)) (t26_0 : Int32) (t26_1 : Int32) (t27_0 : Int32) (t27_1 : Int32) (t28_0 : (Nat → Int32)) : Prop := if x2 = (0 : Int32) then ((0 ≤ x3.toInt) ∧ ((x3.toInt ≤ 9) ∧ (S_NH_addArgument_c19 x2 x3 t0_0 t0_1 t0_2 t0_3 t1_0 t2_0 t3_0 t4_0 t5_0 t6_0 t7_0 t8_0 t9_0 t10_0 t11_0 t12_0 t13_0 t14_0 t15_0 t16_0 t17_0 t18_0 t19_0 t20_0 t21_0 t22_0 t23_0 t24_0 t24_1 t25_0 t26_0 t26_1 t27_0 t27_1 t28_0 ((F_Pri_addNumber (3 : Int32) ((F_Big_toLong (68 : Int32) t24_0 t24_1 t25_0) : Int64) (0 : Int32) t0_0 t0_1 t0_2 t0_3 t1_0 t2_0 t3_0) : (Int32 × Int32 × Int32 × Int32 × (Nat → Int32) × (Nat → Int64) × (Nat → Int32)))))) else (if x2 = (1 : Int32) then ((0 ≤ x3.toInt) ∧ ((x3.toInt ≤ 9) ∧ (S_NH_addArgument_c56 x2 x3 t0_0 t0_1 t0_2 t0_3 t1_0 t2_0 t3_0 t4_0 t5_0 t6_0 t7_0 t8_0 t9_0 t10_0 t11_0 t12_0 t13_0 t14_0 t15_0 t16_0 t17_0 t18_0 t19_0 t20_0 t21_0 t22_0 t23_0 t24_0 t24_1 t25_0 t26_0 t26_1 t27_0 t27_1 t28_0 ((F_Pri_addNumber (5 : Int32) ((F_Big_toLong (108 : Int32) t27_0 t27_1 t28_0) : Int64) t26_0 t0_0 t0_1 t0_2 t0_3 t1_0 t2_0 t3_0) : (Int32 × Int32 × Int32 × Int32 × (Nat → Int32) × (Nat → Int64) × (Nat → Int32)))))) else (if x2 = (4 : Int32) then (S_NH_addArgument_c74 x2 x3 t0_0 t0_1 t0_2 t0_3 t1_0 t2_0 t3_0 t4_0 t5_0 t6_0 t7_0 t8_0 t9_0 t10_0 t11_0 t12_0 t13_0 t14_0 t15_0 t16_0 t17_0 t18_0 t19_0 t20_0 t21_0 t22_0 t23_0 t24_0 t24_1 t25_0 t26_0 t26_1 t27_0 t27_1 t28_0 ((F_Pri_addNumber (0 : Int32) (0 : Int64) (0 : Int32) t0_0 t0_1 t0_2 t0_3 t1_0 t2_0 t3_0) : (Int32 × Int32 × Int32 × Int32 × (Nat → Int32) × (Nat → Int64) × (Nat → Int32)))) else (if x2 = (5 : Int32) then (if x3 = (0 : Int32) then (S_NH_addArgument_c100_4 x2 x3 t0_0 t0_1 t0_2 t0_3 t1_0 t2_0 t3_0 t4_0 t5_0 t6_0 t7_0 t8_0 t9_0 t10_0 t11_0 t12_0 t13_0 t14_0 t15_0 t16_0 t17_0 t18_0 t19_0 t20_0 t21_0 t22_0 t23_0 t24_0 t24_1 t25_0 t26_0 t26_1 t27_0 t27_1 t28_0 ((F_Pri_addNumber (1 : Int32) (0 : Int64) (0 : Int32) t0_0 t0_1 t0_2 t0_3 t1_0 t2_0 t3_0) : (Int32 × Int32 × Int32 × Int32 × (Nat → Int32) × (Nat → Int64) × (Nat → Int32)))) else (S_NH_addArgument_c100 x2 x3 t0_0 t0_1 t0_2 t0_3 t1_0 t2_0 t3_0 t4_0 t5_0 t6_0 t7_0 t8_0 t9_0 t10_0 t11_0 t12_0 t13_0 t14_0 t15_0 t16_0 t17_0 t18_0 t19_0 t20_0 t21_0 t22_0 t23_0 t24_0 t24_1 t25_0 t26_0 t26_1 t27_0 t27_1 t28_0 ((F_Pri_addNumber (1 : Int32) (1 : Int64) (0 : Int32) t0_0 t0_1 t0_2 t0_3 t1_0 t2_0 t3_0) : (Int32 × Int32 × Int32 × Int32 × (Nat → Int32) × (Nat → Int64) × (Nat → Int32))))) else (if x2 = (6 : Int32) then (S_NH_addArgument_c120 x2 x3 t0_0 t0_1 t0_2 t0_3 t1_0 t2_0 t3_0 t4_0 t5_0 t6_0 t7_0 t8_0 t9_0 t10_0 t11_0 t12_0 t13_0 t14_0 t15_0 t16_0 t17_0 t18_0 t19_0 t20_0 t21_0 t22_0 t23_0 t24_0 t24_1 t25_0 t26_0 t26_1 t27_0 t27_1 t28_0 ((F_Pri_addNumber (2 : Int32) (x3.toInt64 : Int64) (0 : Int32) t0_0 t0_1 t0_2 t0_3 t1_0 t2_0 t3_0) : (Int32 × Int32 × Int32 × Int32 × (Nat → Int32) × (Nat → Int64) × (Nat → Int32)))) else ((t4_0.toInt ≤ 64) ∧ (S_NH_addArgument_c130 x2 x3 t0_0 t0_1 t0_2 t0_3 t1_0 t2_0 t3_0 t4_0 t5_0 t6_0 t7_0 t8_0 t9_0 t10_0 t11_0 t12_0 t13_0 t14_0 t15_0 t16_0 t17_0 t18_0 t19_0 t20_0 t21_0 t22_0 t23_0 t24_0 t24_1 t25_0 t26_0 t26_1 t27_0 t27_1 t28_0 ((F_Pri_addText t0_0 t0_1 t0_2 t0_3 t1_0 t2_0 t3_0 t4_0 t5_0 t6_0 t7_0 t8_0 t9_0 t10_0 t11_0 t12_0 t13_0 t14_0 t15_0 t16_0 t17_0 t18_0 t19_0 t20_0 t21_0 t22_0 t23_0) : (Int32 × Int32 × Int32 × Int32 × (Nat → Int32) × (Nat → Int64) × (Nat → Int32) × Int32 × (Nat → Int64) × Int32 × (Nat → Int64) × Int32 × (Nat → Int64) × Int32 × (Nat → Int64) × Int32 × (Nat → Int64) × Int32 × (Nat → Int64) × Int32 × (Nat → Int64) × Int32 × (Nat → Int64) × Int32 × (Nat → Int64)))))))))
set_option maxRecDepth 100000 in
set_option maxHeartbeats 4000000 in
theorem X_NH_addArgument (l : Launch) (D : va_G) (g : Nat → ClassId) (q : Nat → Nat) (ws : va_W) (x2 : Int32) (x3 : Int32) (k3 : Nat) (hBk3 : q_isBig (nsh g q) g q k3 68) (yk3 : 66 ≤ k3) (gk3x3 : x3.toNatClampNeg < 10 → k3 = 66 + 5 * x3.toNatClampNeg) (d3 : Nat) (hBd3 : q_isDec (nsh g q) g q d3 108) (yd3 : 66 ≤ d3) (gd3x3 : x3.toNatClampNeg < 10 → d3 = 68 + 5 * x3.toNatClampNeg) (ne_k3_d3 : k3 ≠ d3) (ne_k3_d3p1 : k3 ≠ d3 + 1) (ne_k3_d3p2 : k3 ≠ d3 + 2) (ne_d3_k3p1 : d3 ≠ k3 + 1) (hI : q_I (nsh g q) q ws) (t0_0 : Int32) (t0_1 : Int32) (t0_2 : Int32) (t0_3 : Int32) (hT0 : ws[40]? = (some (q 40, .inr (11, [.int t0_0, .ref (q 41), .ref (q 42), .ref (q 43), .ref (q 44), .ref (q 1), .ref (q 47), .ref (q 36), .ref (q 45), .int t0_1, .int t0_2, .int t0_3])) : Option (Nat × va_E))) (t1_0 : (Nat → Int32)) (hT1 : ws[41]? = (some (q 41, .inl (g 0, 9, .inl t1_0)) : Option (Nat × va_E))) (t2_0 : (Nat → Int64)) (hT2 : ws[42]? = (some (q 42, .inl (g 1, 9, .inr (.inl t2_0))) : Option (Nat × va_E))) (t3_0 : (Nat → Int32)) (hT3 : ws[43]? = (some (q 43, .inl (g 0, 9, .inl t3_0)) : Option (Nat × va_E))) (t4_0 : Int32) (hT4 : ws[1]? = (some (q 1, .inr (1, [.ref (q 2), .int 4100, .int t4_0])) : Option (Nat × va_E))) (t5_0 : (Nat → Int64)) (hT5 : ws[2]? = (some (q 2, .inl (g 1, (513 : Int32).toNatClampNeg, .inr (.inl t5_0))) : Option (Nat × va_E))) (t6_0 : Int32) (hT6 : ws[48]? = (some (q 48, .inr (1, [.ref (q 49), .int 64, .int t6_0])) : Option (Nat × va_E))) (t7_0 : (Nat → Int64)) (hT7 : ws[49]? = (some (q 49, .inl (g 1, (8 : Int32).toNatClampNeg, .inr (.inl t7_0))) : Option (Nat × va_E))) (t8_0 : Int32) (hT8 : ws[50]? = (some (q 50, .inr (1, [.ref (q 51), .int 64, .int t8_0])) : Option (Nat × va_E))) (t9_0 : (Nat → Int64)) (hT9 : ws[51]? = (some (q 51, .inl (g 1, (8 : Int32).toNatClampNeg, .inr (.inl t9_0))) : Option (Nat × va_E))) (t10_0 : Int32) (hT10 : ws[52]? = (some (q 52, .inr (1, [.ref (q 53), .int 64, .int t10_0])) : Option (Nat × va_E))) (t11_0 : (Nat → Int64)) (hT11 : ws[53]? = (some (q 53, .inl (g 1, (8 : Int32).toNatClampNeg, .inr (.inl t11_0))) : Option (Nat × va_E))) (t12_0 : Int32) (hT12 : ws[54]? = (some (q 54, .inr (1, [.ref (q 55), .int 64, .int t12_0])) : Option (Nat × va_E))) (t13_0 : (Nat → Int64)) (hT13 : ws[55]? = (some (q 55, .inl (g 1, (8 : Int32).toNatClampNeg, .inr (.inl t13_0))) : Option (Nat × va_E))) (t14_0 : Int32) (hT14 : ws[56]? = (some (q 56, .inr (1, [.ref (q 57), .int 64, .int t14_0])) : Option (Nat × va_E))) (t15_0 : (Nat → Int64)) (hT15 : ws[57]? = (some (q 57, .inl (g 1, (8 : Int32).toNatClampNeg, .inr (.inl t15_0))) : Option (Nat × va_E))) (t16_0 : Int32) (hT16 : ws[58]? = (some (q 58, .inr (1, [.ref (q 59), .int 64, .int t16_0])) : Option (Nat × va_E))) (t17_0 : (Nat → Int64)) (hT17 : ws[59]? = (some (q 59, .inl (g 1, (8 : Int32).toNatClampNeg, .inr (.inl t17_0))) : Option (Nat × va_E))) (t18_0 : Int32) (hT18 : ws[60]? = (some (q 60, .inr (1, [.ref (q 61), .int 64, .int t18_0])) : Option (Nat × va_E))) (t19_0 : (Nat → Int64)) (hT19 : ws[61]? = (some (q 61, .inl (g 1, (8 : Int32).toNatClampNeg, .inr (.inl t19_0))) : Option (Nat × va_E))) (t20_0 : Int32) (hT20 : ws[62]? = (some (q 62, .inr (1, [.ref (q 63), .int 64, .int t20_0])) : Option (Nat × va_E))) (t21_0 : (Nat → Int64)) (hT21 : ws[63]? = (some (q 63, .inl (g 1, (8 : Int32).toNatClampNeg, .inr (.inl t21_0))) : Option (Nat × va_E))) (t22_0 : Int32) (hT22 : ws[64]? = (some (q 64, .inr (1, [.ref (q 65), .int 64, .int t22_0])) : Option (Nat × va_E))) (t23_0 : (Nat → Int64)) (hT23 : ws[65]? = (some (q 65, .inl (g 1, (8 : Int32).toNatClampNeg, .inr (.inl t23_0))) : Option (Nat × va_E))) (t24_0 : Int32) (t24_1 : Int32) (hT24 : ws[k3]? = (some (q k3, .inr (2, [.ref (q (k3 + 1)), .int t24_0, .int t24_1])) : Option (Nat × va_E))) (t25_0 : (Nat → Int32)) (hT25 : ws[k3 + 1]? = (some (q (k3 + 1), .inl (g 0, (68 : Int32).toNatClampNeg, .inl t25_0)) : Option (Nat × va_E))) (t26_0 : Int32) (t26_1 : Int32) (hT26 : ws[d3]? = (some (q d3, .inr (3, [.ref (q (d3 + 1)), .int t26_0, .int t26_1])) : Option (Nat × va_E))) (t27_0 : Int32) (t27_1 : Int32) (hT27 : ws[d3 + 1]? = (some (q (d3 + 1), .inr (2, [.ref (q (d3 + 2)), .int t27_0, .int t27_1])) : Option (Nat × va_E))) (t28_0 : (Nat → Int32)) (hT28 : ws[d3 + 2]? = (some (q (d3 + 2), .inl (g 0, (108 : Int32).toNatClampNeg, .inl t28_0)) : Option (Nat × va_E))) (hS : True ∧ S_NH_addArgument x2 x3 t0_0 t0_1 t0_2 t0_3 t1_0 t2_0 t3_0 t4_0 t5_0 t6_0 t7_0 t8_0 t9_0 t10_0 t11_0 t12_0 t13_0 t14_0 t15_0 t16_0 t17_0 t18_0 t19_0 t20_0 t21_0 t22_0 t23_0 t24_0 t24_1 t25_0 t26_0 t26_1 t27_0 t27_1 t28_0) : q_mV l y_NH_addArgument prog_1_method_22_code 3 4 0 0 D g [.ref (q 0), .int x2, .int x3] ws (fun u => q_I (nsh g q) q u ∧ q_un ws u [1, 40, 41, 42, 43, 48, 49, 50, 51, 52, 53, 54, 55, 56, 57, 58, 59, 60, 61, 62, 63, 64, 65] ∧ ∃ (u0_0 : Int32) (u0_1 : Int32) (u0_2 : Int32) (u0_3 : Int32) (u1_0 : (Nat → Int32)) (u2_0 : (Nat → Int64)) (u3_0 : (Nat → Int32)) (u4_0 : Int32) (u6_0 : Int32) (u7_0 : (Nat → Int64)) (u8_0 : Int32) (u9_0 : (Nat → Int64)) (u10_0 : Int32) (u11_0 : (Nat → Int64)) (u12_0 : Int32) (u13_0 : (Nat → Int64)) (u14_0 : Int32) (u15_0 : (Nat → Int64)) (u16_0 : Int32) (u17_0 : (Nat → Int64)) (u18_0 : Int32) (u19_0 : (Nat → Int64)) (u20_0 : Int32) (u21_0 : (Nat → Int64)) (u22_0 : Int32) (u23_0 : (Nat → Int64)), u[40]? = (some (q 40, .inr (11, [.int u0_0, .ref (q 41), .ref (q 42), .ref (q 43), .ref (q 44), .ref (q 1), .ref (q 47), .ref (q 36), .ref (q 45), .int u0_1, .int u0_2, .int u0_3])) : Option (Nat × va_E)) ∧ u[41]? = (some (q 41, .inl (g 0, 9, .inl u1_0)) : Option (Nat × va_E)) ∧ u[42]? = (some (q 42, .inl (g 1, 9, .inr (.inl u2_0))) : Option (Nat × va_E)) ∧ u[43]? = (some (q 43, .inl (g 0, 9, .inl u3_0)) : Option (Nat × va_E)) ∧ u[1]? = (some (q 1, .inr (1, [.ref (q 2), .int 4100, .int u4_0])) : Option (Nat × va_E)) ∧ u[48]? = (some (q 48, .inr (1, [.ref (q 49), .int 64, .int u6_0])) : Option (Nat × va_E)) ∧ u[49]? = (some (q 49, .inl (g 1, (8 : Int32).toNatClampNeg, .inr (.inl u7_0))) : Option (Nat × va_E)) ∧ u[50]? = (some (q 50, .inr (1, [.ref (q 51), .int 64, .int u8_0])) : Option (Nat × va_E)) ∧ u[51]? = (some (q 51, .inl (g 1, (8 : Int32).toNatClampNeg, .inr (.inl u9_0))) : Option (Nat × va_E)) ∧ u[52]? = (some (q 52, .inr (1, [.ref (q 53), .int 64, .int u10_0])) : Option (Nat × va_E)) ∧ u[53]? = (some (q 53, .inl (g 1, (8 : Int32).toNatClampNeg, .inr (.inl u11_0))) : Option (Nat × va_E)) ∧ u[54]? = (some (q 54, .inr (1, [.ref (q 55), .int 64, .int u12_0])) : Option (Nat × va_E)) ∧ u[55]? = (some (q 55, .inl (g 1, (8 : Int32).toNatClampNeg, .inr (.inl u13_0))) : Option (Nat × va_E)) ∧ u[56]? = (some (q 56, .inr (1, [.ref (q 57), .int 64, .int u14_0])) : Option (Nat × va_E)) ∧ u[57]? = (some (q 57, .inl (g 1, (8 : Int32).toNatClampNeg, .inr (.inl u15_0))) : Option (Nat × va_E)) ∧ u[58]? = (some (q 58, .inr (1, [.ref (q 59), .int 64, .int u16_0])) : Option (Nat × va_E)) ∧ u[59]? = (some (q 59, .inl (g 1, (8 : Int32).toNatClampNeg, .inr (.inl u17_0))) : Option (Nat × va_E)) ∧ u[60]? = (some (q 60, .inr (1, [.ref (q 61), .int 64, .int u18_0])) : Option (Nat × va_E)) ∧ u[61]? = (some (q 61, .inl (g 1, (8 : Int32).toNatClampNeg, .inr (.inl u19_0))) : Option (Nat × va_E)) ∧ u[62]? = (some (q 62, .inr (1, [.ref (q 63), .int 64, .int u20_0])) : Option (Nat × va_E)) ∧ u[63]? = (some (q 63, .inl (g 1, (8 : Int32).toNatClampNeg, .inr (.inl u21_0))) : Option (Nat × va_E)) ∧ u[64]? = (some (q 64, .inr (1, [.ref (q 65), .int 64, .int u22_0])) : Option (Nat × va_E)) ∧ u[65]? = (some (q 65, .inl (g 1, (8 : Int32).toNatClampNeg, .inr (.inl u23_0))) : Option (Nat × va_E)) ∧ (1 ≤ u0_0.toInt) ∧ (u0_0.toInt ≤ 9) ∧ (0 ≤ u0_1.toInt + 1) ∧ (u0_1.toInt ≤ 1000000) ∧ (0 ≤ u0_3.toInt + 1) ∧ (u0_3.toInt ≤ 8) ∧ (0 ≤ u4_0.toInt) ∧ (u4_0.toInt ≤ 4100) ∧ (0 ≤ u6_0.toInt) ∧ (u6_0.toInt ≤ 64) ∧ (0 ≤ u8_0.toInt) ∧ (u8_0.toInt ≤ 64) ∧ (0 ≤ u10_0.toInt) ∧ (u10_0.toInt ≤ 64) ∧ (0 ≤ u12_0.toInt) ∧ (u12_0.toInt ≤ 64) ∧ (0 ≤ u14_0.toInt) ∧ (u14_0.toInt ≤ 64) ∧ (0 ≤ u16_0.toInt) ∧ (u16_0.toInt ≤ 64) ∧ (0 ≤ u18_0.toInt) ∧ (u18_0.toInt ≤ 64) ∧ (0 ≤ u20_0.toInt) ∧ (u20_0.toInt ≤ 64) ∧ (0 ≤ u22_0.toInt) ∧ (u22_0.toInt ≤ 64) ∧ (t0_0.toInt ≤ u0_0.toInt) ∧ (u0_0.toInt ≤ t0_0.toInt + 1) ∧ (t0_1.toInt ≤ u0_1.toInt) ∧ (u0_1.toInt ≤ t0_1.toInt) ∧ (t0_2.toInt ≤ u0_2.toInt) ∧ (u0_2.toInt ≤ t0_2.toInt) ∧ (t0_3.toInt ≤ u0_3.toInt) ∧ (u0_3.toInt ≤ t0_3.toInt) ∧ (t4_0.toInt ≤ u4_0.toInt + 64) ∧ (u4_0.toInt ≤ t4_0.toInt) ∧ (u0_0, u0_1, u0_2, u0_3, u1_0, u2_0, u3_0, u4_0, u6_0, u7_0, u8_0, u9_0, u10_0, u11_0, u12_0, u13_0, u14_0, u15_0, u16_0, u17_0, u18_0, u19_0, u20_0, u21_0, u22_0, u23_0) = (F_NH_addArgument x2 x3 t0_0 t0_1 t0_2 t0_3 t1_0 t2_0 t3_0 t4_0 t5_0 t6_0 t7_0 t8_0 t9_0 t10_0 t11_0 t12_0 t13_0 t14_0 t15_0 t16_0 t17_0 t18_0 t19_0 t20_0 t21_0 t22_0 t23_0 t24_0 t24_1 t25_0 t26_0 t26_1 t27_0 t27_1 t28_0)) := by
  intro sz
  refine q_into (by decide) (Nat.le_of_ble_eq_true rfl) ?_
  intro p e s m below meth c ls hsz C0 V hl
  have hx := C0.1
  have hb := C0.2.1
  obtain ⟨yy0_0, yy0_1, yy0_2, yy0_3, hh0, btt0_0, btt0_1, btt0_3⟩ := n_o40 hI
  obtain ⟨rfl, rfl, rfl, rfl⟩ : t0_0 = yy0_0 ∧ t0_1 = yy0_1 ∧ t0_2 = yy0_2 ∧ t0_3 = yy0_3 := by have z := Option.some.inj (hT0.symm.trans hh0); simpa using z
  replace btt0_0 : q_F (0 ≤ t0_0.toInt ∧ t0_0.toInt ≤ 9) := btt0_0
  replace btt0_1 : q_F (-1 ≤ t0_1.toInt ∧ t0_1.toInt ≤ 1000000) := btt0_1
  replace btt0_3 : q_F (-1 ≤ t0_3.toInt ∧ t0_3.toInt ≤ 8) := btt0_3
  obtain ⟨yy4_0, hh4, btt4_0⟩ := n_shO hI (n_h1 g q)
  obtain ⟨rfl⟩ : t4_0 = yy4_0 := by have z := Option.some.inj (hT4.symm.trans hh4); simpa using z
  replace btt4_0 : q_F (0 ≤ t4_0.toInt ∧ t4_0.toInt ≤ 4100) := btt4_0
  obtain ⟨yy6_0, hh6, btt6_0⟩ := n_shO hI (n_h48 g q)
  obtain ⟨rfl⟩ : t6_0 = yy6_0 := by have z := Option.some.inj (hT6.symm.trans hh6); simpa using z
  replace btt6_0 : q_F (0 ≤ t6_0.toInt ∧ t6_0.toInt ≤ 64) := btt6_0
  obtain ⟨yy8_0, hh8, btt8_0⟩ := n_shO hI (n_h50 g q)
  obtain ⟨rfl⟩ : t8_0 = yy8_0 := by have z := Option.some.inj (hT8.symm.trans hh8); simpa using z
  replace btt8_0 : q_F (0 ≤ t8_0.toInt ∧ t8_0.toInt ≤ 64) := btt8_0
  obtain ⟨yy10_0, hh10, btt10_0⟩ := n_shO hI (n_h52 g q)
  obtain ⟨rfl⟩ : t10_0 = yy10_0 := by have z := Option.some.inj (hT10.symm.trans hh10); simpa using z
  replace btt10_0 : q_F (0 ≤ t10_0.toInt ∧ t10_0.toInt ≤ 64) := btt10_0
  obtain ⟨yy12_0, hh12, btt12_0⟩ := n_shO hI (n_h54 g q)
  obtain ⟨rfl⟩ : t12_0 = yy12_0 := by have z := Option.some.inj (hT12.symm.trans hh12); simpa using z
  replace btt12_0 : q_F (0 ≤ t12_0.toInt ∧ t12_0.toInt ≤ 64) := btt12_0
  obtain ⟨yy14_0, hh14, btt14_0⟩ := n_shO hI (n_h56 g q)
  obtain ⟨rfl⟩ : t14_0 = yy14_0 := by have z := Option.some.inj (hT14.symm.trans hh14); simpa using z
  replace btt14_0 : q_F (0 ≤ t14_0.toInt ∧ t14_0.toInt ≤ 64) := btt14_0
  obtain ⟨yy16_0, hh16, btt16_0⟩ := n_shO hI (n_h58 g q)
  obtain ⟨rfl⟩ : t16_0 = yy16_0 := by have z := Option.some.inj (hT16.symm.trans hh16); simpa using z
  replace btt16_0 : q_F (0 ≤ t16_0.toInt ∧ t16_0.toInt ≤ 64) := btt16_0
  obtain ⟨yy18_0, hh18, btt18_0⟩ := n_shO hI (n_h60 g q)
  obtain ⟨rfl⟩ : t18_0 = yy18_0 := by have z := Option.some.inj (hT18.symm.trans hh18); simpa using z
  replace btt18_0 : q_F (0 ≤ t18_0.toInt ∧ t18_0.toInt ≤ 64) := btt18_0
  obtain ⟨yy20_0, hh20, btt20_0⟩ := n_shO hI (n_h62 g q)
  obtain ⟨rfl⟩ : t20_0 = yy20_0 := by have z := Option.some.inj (hT20.symm.trans hh20); simpa using z
  replace btt20_0 : q_F (0 ≤ t20_0.toInt ∧ t20_0.toInt ≤ 64) := btt20_0
  obtain ⟨yy22_0, hh22, btt22_0⟩ := n_shO hI (n_h64 g q)
  obtain ⟨rfl⟩ : t22_0 = yy22_0 := by have z := Option.some.inj (hT22.symm.trans hh22); simpa using z
  replace btt22_0 : q_F (0 ≤ t22_0.toInt ∧ t22_0.toInt ≤ 64) := btt22_0
  obtain ⟨yy24_0, yy24_1, hh24, btt24_0, btt24_1⟩ := q_bigO hI hBk3
  obtain ⟨rfl, rfl⟩ : t24_0 = yy24_0 ∧ t24_1 = yy24_1 := by have z := Option.some.inj (hT24.symm.trans hh24); simpa using z
  replace btt24_0 : q_F (0 ≤ t24_0.toInt ∧ t24_0.toInt ≤ 68) := btt24_0
  replace btt24_1 : q_F (0 ≤ t24_1.toInt ∧ t24_1.toInt ≤ 1) := btt24_1
  obtain ⟨yy26_0, yy26_1, hh26, btt26_0, btt26_1⟩ := n_deO hI hBd3
  obtain ⟨rfl, rfl⟩ : t26_0 = yy26_0 ∧ t26_1 = yy26_1 := by have z := Option.some.inj (hT26.symm.trans hh26); simpa using z
  replace btt26_0 : q_F (-10000 ≤ t26_0.toInt ∧ t26_0.toInt ≤ 10000) := btt26_0
  replace btt26_1 : q_F (1 ≤ t26_1.toInt ∧ t26_1.toInt ≤ 1000) := btt26_1
  obtain ⟨yy27_0, yy27_1, hh27, btt27_0, btt27_1⟩ := q_bigO hI hBd3.2
  obtain ⟨rfl, rfl⟩ : t27_0 = yy27_0 ∧ t27_1 = yy27_1 := by have z := Option.some.inj (hT27.symm.trans hh27); simpa using z
  replace btt27_0 : q_F (0 ≤ t27_0.toInt ∧ t27_0.toInt ≤ 108) := btt27_0
  replace btt27_1 : q_F (0 ≤ t27_1.toInt ∧ t27_1.toInt ≤ 1) := btt27_1
  have hF : q_un ws ws [1, 40, 41, 42, 43, 48, 49, 50, 51, 52, 53, 54, 55, 56, 57, 58, 59, 60, 61, 62, 63, 64, 65] := q_u0
  have hl : lv_has ls 3 [(0, .ref (q 0)), (1, .int x2), (2, .int x3)] := hl
  refine lv_iload_n hx hb d_1_22_0 rfl (lv_at hl 1 rfl) ?_
  refine lv_if_ne (tgt := 25) hx hb d_1_22_1 (by decide) (fun c88 => ?_) (fun c88 => ?_)
  ·
    have b89 : q_F (x2.toInt ≠ 0) := (q_neI c88)
    refine lv_iload_n hx hb d_1_22_25 rfl (lv_at hl 1 rfl) ?_
    refine lv_iconst (v := 1) hx hb d_1_22_26 (by decide) ?_
    refine lv_icmp_ne (tgt := 62) hx hb d_1_22_27 (by decide) (fun c90 => ?_) (fun c90 => ?_)
    ·
      have b91 : q_F (x2.toInt ≠ 1) := (q_neI c90)
      refine lv_iload_n hx hb d_1_22_62 rfl (lv_at hl 1 rfl) ?_
      refine lv_iconst (v := 4) hx hb d_1_22_63 (by decide) ?_
      refine lv_icmp_ne (tgt := 80) hx hb d_1_22_64 (by decide) (fun c92 => ?_) (fun c92 => ?_)
      ·
        have b93 : q_F (x2.toInt ≠ 4) := (q_neI c92)
        refine lv_iload_n hx hb d_1_22_80 rfl (lv_at hl 1 rfl) ?_
        refine lv_iconst (v := 5) hx hb d_1_22_81 (by decide) ?_
        refine lv_icmp_ne (tgt := 106) hx hb d_1_22_82 (by decide) (fun c94 => ?_) (fun c94 => ?_)
        ·
          have b95 : q_F (x2.toInt ≠ 5) := (q_neI c94)
          refine lv_iload_n hx hb d_1_22_106 rfl (lv_at hl 1 rfl) ?_
          refine lv_bipush (v := 6) hx hb d_1_22_107 (by decide) ?_
          refine lv_icmp_ne (tgt := 126) hx hb d_1_22_109 (by decide) (fun c96 => ?_) (fun c96 => ?_)
          ·
            have b97 : q_F (x2.toInt ≠ 6) := (q_neI c96)
            refine lv_aload_n hx hb d_1_22_126 rfl (lv_at hl 0 rfl) ?_
            have hO98 := n_o0 hI
            refine q_get (ci := 0) (j := 13) (v := .ref (q 40)) C0 V i_NH rfl rfl hO98 (by decide) w_437 rfl d_1_22_127 ?_
            have ob99 : q_F (t4_0.toInt ≤ 64) := (by have h := hS; rw [S_NH_addArgument.eq_1] at h; rw [if_neg c88] at h; rw [if_neg c90] at h; rw [if_neg c92] at h; rw [if_neg c94] at h; rw [if_neg c96] at h; exact h.2.1)
            refine q_gov V (q_runV (As := []) (rest := []) (d := 3) (mc := 0) (ms := 0) (ci := 11) C0 V rfl LV_NH_380 (X_Pri_addText l D g q ws   hI t0_0 t0_1 t0_2 t0_3 hT0 t1_0 hT1 t2_0 hT2 t3_0 hT3 t4_0 hT4 t5_0 hT5 t6_0 hT6 t7_0 hT7 t8_0 hT8 t9_0 hT9 t10_0 hT10 t11_0 hT11 t12_0 hT12 t13_0 hT13 t14_0 hT14 t15_0 hT15 t16_0 hT16 t17_0 hT17 t18_0 hT18 t19_0 hT19 t20_0 hT20 t21_0 hT21 t22_0 hT22 t23_0 hT23 (by have t1 : t4_0.toInt ≤ 64 := ob99; omega) _) rfl rfl hT0 rfl hl.1 rfl (Nat.le_of_ble_eq_true rfl) ⟨by decide, by decide⟩ ⟨Nat.le_of_ble_eq_true rfl, Nat.le_of_ble_eq_true rfl⟩ d_1_22_130) (fun u100 H locs hp101 V => ?_)
            obtain ⟨hI, hu182, y103, y104, y105, y106, f107, f109, f111, y114, f115, y118, f119, y122, f123, y126, f127, y130, f131, y134, f135, y138, f139, y142, f143, y146, f147, hO102, hA108, hA110, hA112, hO113, hA116, hO117, hA120, hO121, hA124, hO125, hA128, hO129, hA132, hO133, hA136, hO137, hA140, hO141, hA144, hO145, hA148, b149, b150, b151, b152, b153, b154, b155, b156, b157, b158, b159, b160, b161, b162, b163, b164, b165, b166, b167, b168, b169, b170, b171, b172, b173, b174, b175, b176, b177, b178, b179, b180, hE181⟩ := hp101
            replace hO102 : u100[40]? = (some (q 40, .inr (11, [.int y103, .ref (q 41), .ref (q 42), .ref (q 43), .ref (q 44), .ref (q 1), .ref (q 47), .ref (q 36), .ref (q 45), .int y104, .int y105, .int y106])) : Option (Nat × va_E)) := hO102
            replace hA108 : u100[41]? = (some (q 41, .inl (g 0, 9, .inl f107)) : Option (Nat × va_E)) := hA108
            replace hA110 : u100[42]? = (some (q 42, .inl (g 1, 9, .inr (.inl f109))) : Option (Nat × va_E)) := hA110
            replace hA112 : u100[43]? = (some (q 43, .inl (g 0, 9, .inl f111)) : Option (Nat × va_E)) := hA112
            replace hO113 : u100[48]? = (some (q 48, .inr (1, [.ref (q 49), .int 64, .int y114])) : Option (Nat × va_E)) := hO113
            replace hA116 : u100[49]? = (some (q 49, .inl (g 1, (8 : Int32).toNatClampNeg, .inr (.inl f115))) : Option (Nat × va_E)) := hA116
            replace hO117 : u100[50]? = (some (q 50, .inr (1, [.ref (q 51), .int 64, .int y118])) : Option (Nat × va_E)) := hO117
            replace hA120 : u100[51]? = (some (q 51, .inl (g 1, (8 : Int32).toNatClampNeg, .inr (.inl f119))) : Option (Nat × va_E)) := hA120
            replace hO121 : u100[52]? = (some (q 52, .inr (1, [.ref (q 53), .int 64, .int y122])) : Option (Nat × va_E)) := hO121
            replace hA124 : u100[53]? = (some (q 53, .inl (g 1, (8 : Int32).toNatClampNeg, .inr (.inl f123))) : Option (Nat × va_E)) := hA124
            replace hO125 : u100[54]? = (some (q 54, .inr (1, [.ref (q 55), .int 64, .int y126])) : Option (Nat × va_E)) := hO125
            replace hA128 : u100[55]? = (some (q 55, .inl (g 1, (8 : Int32).toNatClampNeg, .inr (.inl f127))) : Option (Nat × va_E)) := hA128
            replace hO129 : u100[56]? = (some (q 56, .inr (1, [.ref (q 57), .int 64, .int y130])) : Option (Nat × va_E)) := hO129
            replace hA132 : u100[57]? = (some (q 57, .inl (g 1, (8 : Int32).toNatClampNeg, .inr (.inl f131))) : Option (Nat × va_E)) := hA132
            replace hO133 : u100[58]? = (some (q 58, .inr (1, [.ref (q 59), .int 64, .int y134])) : Option (Nat × va_E)) := hO133
            replace hA136 : u100[59]? = (some (q 59, .inl (g 1, (8 : Int32).toNatClampNeg, .inr (.inl f135))) : Option (Nat × va_E)) := hA136
            replace hO137 : u100[60]? = (some (q 60, .inr (1, [.ref (q 61), .int 64, .int y138])) : Option (Nat × va_E)) := hO137
            replace hA140 : u100[61]? = (some (q 61, .inl (g 1, (8 : Int32).toNatClampNeg, .inr (.inl f139))) : Option (Nat × va_E)) := hA140
            replace hO141 : u100[62]? = (some (q 62, .inr (1, [.ref (q 63), .int 64, .int y142])) : Option (Nat × va_E)) := hO141
            replace hA144 : u100[63]? = (some (q 63, .inl (g 1, (8 : Int32).toNatClampNeg, .inr (.inl f143))) : Option (Nat × va_E)) := hA144
            replace hO145 : u100[64]? = (some (q 64, .inr (1, [.ref (q 65), .int 64, .int y146])) : Option (Nat × va_E)) := hO145
            replace hA148 : u100[65]? = (some (q 65, .inl (g 1, (8 : Int32).toNatClampNeg, .inr (.inl f147))) : Option (Nat × va_E)) := hA148
            obtain ⟨p183, e184⟩ : ∃ z, z = (F_Pri_addText t0_0 t0_1 t0_2 t0_3 t1_0 t2_0 t3_0 t4_0 t5_0 t6_0 t7_0 t8_0 t9_0 t10_0 t11_0 t12_0 t13_0 t14_0 t15_0 t16_0 t17_0 t18_0 t19_0 t20_0 t21_0 t22_0 t23_0) := ⟨_, rfl⟩
            have e185 : y103 = p183.1 := congrArg (fun z => z.1) (hE181.trans e184.symm)
            have e186 : y104 = p183.2.1 := congrArg (fun z => z.2.1) (hE181.trans e184.symm)
            have e187 : y105 = p183.2.2.1 := congrArg (fun z => z.2.2.1) (hE181.trans e184.symm)
            have e188 : y106 = p183.2.2.2.1 := congrArg (fun z => z.2.2.2.1) (hE181.trans e184.symm)
            have e189 : f107 = p183.2.2.2.2.1 := congrArg (fun z => z.2.2.2.2.1) (hE181.trans e184.symm)
            have e190 : f109 = p183.2.2.2.2.2.1 := congrArg (fun z => z.2.2.2.2.2.1) (hE181.trans e184.symm)
            have e191 : f111 = p183.2.2.2.2.2.2.1 := congrArg (fun z => z.2.2.2.2.2.2.1) (hE181.trans e184.symm)
            have e192 : y114 = p183.2.2.2.2.2.2.2.1 := congrArg (fun z => z.2.2.2.2.2.2.2.1) (hE181.trans e184.symm)
            have e193 : f115 = p183.2.2.2.2.2.2.2.2.1 := congrArg (fun z => z.2.2.2.2.2.2.2.2.1) (hE181.trans e184.symm)
            have e194 : y118 = p183.2.2.2.2.2.2.2.2.2.1 := congrArg (fun z => z.2.2.2.2.2.2.2.2.2.1) (hE181.trans e184.symm)
            have e195 : f119 = p183.2.2.2.2.2.2.2.2.2.2.1 := congrArg (fun z => z.2.2.2.2.2.2.2.2.2.2.1) (hE181.trans e184.symm)
            have e196 : y122 = p183.2.2.2.2.2.2.2.2.2.2.2.1 := congrArg (fun z => z.2.2.2.2.2.2.2.2.2.2.2.1) (hE181.trans e184.symm)
            have e197 : f123 = p183.2.2.2.2.2.2.2.2.2.2.2.2.1 := congrArg (fun z => z.2.2.2.2.2.2.2.2.2.2.2.2.1) (hE181.trans e184.symm)
            have e198 : y126 = p183.2.2.2.2.2.2.2.2.2.2.2.2.2.1 := congrArg (fun z => z.2.2.2.2.2.2.2.2.2.2.2.2.2.1) (hE181.trans e184.symm)
            have e199 : f127 = p183.2.2.2.2.2.2.2.2.2.2.2.2.2.2.1 := congrArg (fun z => z.2.2.2.2.2.2.2.2.2.2.2.2.2.2.1) (hE181.trans e184.symm)
            have e200 : y130 = p183.2.2.2.2.2.2.2.2.2.2.2.2.2.2.2.1 := congrArg (fun z => z.2.2.2.2.2.2.2.2.2.2.2.2.2.2.2.1) (hE181.trans e184.symm)
            have e201 : f131 = p183.2.2.2.2.2.2.2.2.2.2.2.2.2.2.2.2.1 := congrArg (fun z => z.2.2.2.2.2.2.2.2.2.2.2.2.2.2.2.2.1) (hE181.trans e184.symm)
            have e202 : y134 = p183.2.2.2.2.2.2.2.2.2.2.2.2.2.2.2.2.2.1 := congrArg (fun z => z.2.2.2.2.2.2.2.2.2.2.2.2.2.2.2.2.2.1) (hE181.trans e184.symm)
            have e203 : f135 = p183.2.2.2.2.2.2.2.2.2.2.2.2.2.2.2.2.2.2.1 := congrArg (fun z => z.2.2.2.2.2.2.2.2.2.2.2.2.2.2.2.2.2.2.1) (hE181.trans e184.symm)
            have e204 : y138 = p183.2.2.2.2.2.2.2.2.2.2.2.2.2.2.2.2.2.2.2.1 := congrArg (fun z => z.2.2.2.2.2.2.2.2.2.2.2.2.2.2.2.2.2.2.2.1) (hE181.trans e184.symm)
            have e205 : f139 = p183.2.2.2.2.2.2.2.2.2.2.2.2.2.2.2.2.2.2.2.2.1 := congrArg (fun z => z.2.2.2.2.2.2.2.2.2.2.2.2.2.2.2.2.2.2.2.2.1) (hE181.trans e184.symm)
            have e206 : y142 = p183.2.2.2.2.2.2.2.2.2.2.2.2.2.2.2.2.2.2.2.2.2.1 := congrArg (fun z => z.2.2.2.2.2.2.2.2.2.2.2.2.2.2.2.2.2.2.2.2.2.1) (hE181.trans e184.symm)
            have e207 : f143 = p183.2.2.2.2.2.2.2.2.2.2.2.2.2.2.2.2.2.2.2.2.2.2.1 := congrArg (fun z => z.2.2.2.2.2.2.2.2.2.2.2.2.2.2.2.2.2.2.2.2.2.2.1) (hE181.trans e184.symm)
            have e208 : y146 = p183.2.2.2.2.2.2.2.2.2.2.2.2.2.2.2.2.2.2.2.2.2.2.2.1 := congrArg (fun z => z.2.2.2.2.2.2.2.2.2.2.2.2.2.2.2.2.2.2.2.2.2.2.2.1) (hE181.trans e184.symm)
            have e209 : f147 = p183.2.2.2.2.2.2.2.2.2.2.2.2.2.2.2.2.2.2.2.2.2.2.2.2 := congrArg (fun z => z.2.2.2.2.2.2.2.2.2.2.2.2.2.2.2.2.2.2.2.2.2.2.2.2) (hE181.trans e184.symm)
            replace b149 : q_F (1 ≤ y103.toInt) := b149
            replace b150 : q_F (y103.toInt ≤ 9) := b150
            replace b151 : q_F (0 ≤ y104.toInt + 1) := b151
            replace b152 : q_F (y104.toInt ≤ 1000000) := b152
            replace b153 : q_F (0 ≤ y106.toInt + 1) := b153
            replace b154 : q_F (y106.toInt ≤ 8) := b154
            replace b155 : q_F (0 ≤ y114.toInt) := b155
            replace b156 : q_F (y114.toInt ≤ 64) := b156
            replace b157 : q_F (0 ≤ y118.toInt) := b157
            replace b158 : q_F (y118.toInt ≤ 64) := b158
            replace b159 : q_F (0 ≤ y122.toInt) := b159
            replace b160 : q_F (y122.toInt ≤ 64) := b160
            replace b161 : q_F (0 ≤ y126.toInt) := b161
            replace b162 : q_F (y126.toInt ≤ 64) := b162
            replace b163 : q_F (0 ≤ y130.toInt) := b163
            replace b164 : q_F (y130.toInt ≤ 64) := b164
            replace b165 : q_F (0 ≤ y134.toInt) := b165
            replace b166 : q_F (y134.toInt ≤ 64) := b166
            replace b167 : q_F (0 ≤ y138.toInt) := b167
            replace b168 : q_F (y138.toInt ≤ 64) := b168
            replace b169 : q_F (0 ≤ y142.toInt) := b169
            replace b170 : q_F (y142.toInt ≤ 64) := b170
            replace b171 : q_F (0 ≤ y146.toInt) := b171
            replace b172 : q_F (y146.toInt ≤ 64) := b172
            replace b173 : q_F (t0_0.toInt ≤ y103.toInt) := b173
            replace b174 : q_F (y103.toInt ≤ t0_0.toInt + 1) := b174
            replace b175 : q_F (t0_1.toInt ≤ y104.toInt) := b175
            replace b176 : q_F (y104.toInt ≤ t0_1.toInt) := b176
            replace b177 : q_F (t0_2.toInt ≤ y105.toInt) := b177
            replace b178 : q_F (y105.toInt ≤ t0_2.toInt) := b178
            replace b179 : q_F (t0_3.toInt ≤ y106.toInt) := b179
            replace b180 : q_F (y106.toInt ≤ t0_3.toInt) := b180
            replace hT4 := (hu182 _ (by decide)).trans hT4
            replace hT5 := (hu182 _ (by decide)).trans hT5
            replace hT24 := (hu182 _ (by have z0 := yk3; simp only [List.mem_cons, List.not_mem_nil, or_false, not_or]; omega)).trans hT24
            replace hT25 := (hu182 _ (by have z0 := yk3; simp only [List.mem_cons, List.not_mem_nil, or_false, not_or]; omega)).trans hT25
            replace hT26 := (hu182 _ (by have z0 := yd3; simp only [List.mem_cons, List.not_mem_nil, or_false, not_or]; omega)).trans hT26
            replace hT27 := (hu182 _ (by have z0 := yd3; simp only [List.mem_cons, List.not_mem_nil, or_false, not_or]; omega)).trans hT27
            replace hT28 := (hu182 _ (by have z0 := yd3; simp only [List.mem_cons, List.not_mem_nil, or_false, not_or]; omega)).trans hT28
            replace hO98 := (hu182 _ (by decide)).trans hO98
            replace hF := q_uc hF hu182 (by simp)
            have hR210 := (show F_NH_addArgument_c130 x2 x3 t0_0 t0_1 t0_2 t0_3 t1_0 t2_0 t3_0 t4_0 t5_0 t6_0 t7_0 t8_0 t9_0 t10_0 t11_0 t12_0 t13_0 t14_0 t15_0 t16_0 t17_0 t18_0 t19_0 t20_0 t21_0 t22_0 t23_0 t24_0 t24_1 t25_0 t26_0 t26_1 t27_0 t27_1 t28_0 p183 = (F_NH_addArgument x2 x3 t0_0 t0_1 t0_2 t0_3 t1_0 t2_0 t3_0 t4_0 t5_0 t6_0 t7_0 t8_0 t9_0 t10_0 t11_0 t12_0 t13_0 t14_0 t15_0 t16_0 t17_0 t18_0 t19_0 t20_0 t21_0 t22_0 t23_0 t24_0 t24_1 t25_0 t26_0 t26_1 t27_0 t27_1 t28_0) from (by rw [e184, F_NH_addArgument.eq_1, if_neg c88, if_neg c90, if_neg c92, if_neg c94, if_neg c96]))
            have hS211 := (show True ∧ S_NH_addArgument_c130 x2 x3 t0_0 t0_1 t0_2 t0_3 t1_0 t2_0 t3_0 t4_0 t5_0 t6_0 t7_0 t8_0 t9_0 t10_0 t11_0 t12_0 t13_0 t14_0 t15_0 t16_0 t17_0 t18_0 t19_0 t20_0 t21_0 t22_0 t23_0 t24_0 t24_1 t25_0 t26_0 t26_1 t27_0 t27_1 t28_0 p183 from (by rw [e184]; have h := hS; rw [S_NH_addArgument.eq_1] at h; rw [if_neg c88] at h; rw [if_neg c90] at h; rw [if_neg c92] at h; rw [if_neg c94] at h; rw [if_neg c96] at h; replace h := q_s2 h; with_reducible exact h))
            refine lv_aload_n hx hb d_1_22_133 rfl (lv_at hl 0 rfl) ?_
            refine q_get (ci := 0) (j := 0) (v := .ref (q 1)) C0 V i_NH rfl rfl hO98 (by decide) w_424 rfl d_1_22_134 ?_
            refine q_gov V (q_runV (As := []) (rest := []) (d := 1) (mc := 0) (ms := 0) (ci := 1) C0 V rfl LV_NH_115 (X_She_clear l D g q u100 1 4100 513 4100 (n_h1 g q)  hI t4_0 hT4  _) rfl rfl hT4 rfl hl.1 rfl (Nat.le_of_ble_eq_true rfl) ⟨by decide, by decide⟩ ⟨Nat.le_of_ble_eq_true rfl, Nat.le_of_ble_eq_true rfl⟩ d_1_22_137) (fun u215 H locs hp216 V => ?_)
            obtain ⟨hI, hu222, y218, hO217, b219, b220, hE221⟩ := hp216
            replace hO217 : u215[1]? = (some (q 1, .inr (1, [.ref (q 2), .int 4100, .int y218])) : Option (Nat × va_E)) := hO217
            have e223 : y218 = (F_She_clear (4100 : Int32) (513 : Int32) (4100 : Int32) t4_0) := hE221
            replace b219 : q_F (0 ≤ y218.toInt) := b219
            replace b220 : q_F (y218.toInt ≤ 0) := b220
            replace hO102 := (hu222 _ (by decide)).trans hO102
            replace hA108 := (hu222 _ (by decide)).trans hA108
            replace hA110 := (hu222 _ (by decide)).trans hA110
            replace hA112 := (hu222 _ (by decide)).trans hA112
            replace hT5 := (hu222 _ (by decide)).trans hT5
            replace hO113 := (hu222 _ (by decide)).trans hO113
            replace hA116 := (hu222 _ (by decide)).trans hA116
            replace hO117 := (hu222 _ (by decide)).trans hO117
            replace hA120 := (hu222 _ (by decide)).trans hA120
            replace hO121 := (hu222 _ (by decide)).trans hO121
            replace hA124 := (hu222 _ (by decide)).trans hA124
            replace hO125 := (hu222 _ (by decide)).trans hO125
            replace hA128 := (hu222 _ (by decide)).trans hA128
            replace hO129 := (hu222 _ (by decide)).trans hO129
            replace hA132 := (hu222 _ (by decide)).trans hA132
            replace hO133 := (hu222 _ (by decide)).trans hO133
            replace hA136 := (hu222 _ (by decide)).trans hA136
            replace hO137 := (hu222 _ (by decide)).trans hO137
            replace hA140 := (hu222 _ (by decide)).trans hA140
            replace hO141 := (hu222 _ (by decide)).trans hO141
            replace hA144 := (hu222 _ (by decide)).trans hA144
            replace hO145 := (hu222 _ (by decide)).trans hO145
            replace hA148 := (hu222 _ (by decide)).trans hA148
            replace hT24 := (hu222 _ (by have z0 := yk3; simp only [List.mem_cons, List.not_mem_nil, or_false, not_or]; omega)).trans hT24
            replace hT25 := (hu222 _ (by have z0 := yk3; simp only [List.mem_cons, List.not_mem_nil, or_false, not_or]; omega)).trans hT25
            replace hT26 := (hu222 _ (by have z0 := yd3; simp only [List.mem_cons, List.not_mem_nil, or_false, not_or]; omega)).trans hT26
            replace hT27 := (hu222 _ (by have z0 := yd3; simp only [List.mem_cons, List.not_mem_nil, or_false, not_or]; omega)).trans hT27
            replace hT28 := (hu222 _ (by have z0 := yd3; simp only [List.mem_cons, List.not_mem_nil, or_false, not_or]; omega)).trans hT28
            replace hO98 := (hu222 _ (by decide)).trans hO98
            replace hF := q_uc hF hu222 (by simp)
            exact q_retv C0 V (⟨hI, hF, y103, y104, y105, y106, f107, f109, f111, y218, y114, f115, y118, f119, y122, f123, y126, f127, y130, f131, y134, f135, y138, f139, y142, f143, y146, f147, hO102, hA108, hA110, hA112, hO217, hO113, hA116, hO117, hA120, hO121, hA124, hO125, hA128, hO129, hA132, hO133, hA136, hO137, hA140, hO141, hA144, hO145, hA148, (show 1 ≤ y103.toInt from (by have t1 : 1 ≤ y103.toInt := b149; omega)), (show y103.toInt ≤ 9 from (by have t1 : y103.toInt ≤ 9 := b150; omega)), (show 0 ≤ y104.toInt + 1 from (by have t1 : 0 ≤ y104.toInt + 1 := b151; omega)), (show y104.toInt ≤ 1000000 from (by have t1 : y104.toInt ≤ 1000000 := b152; omega)), (show 0 ≤ y106.toInt + 1 from (by have t1 : 0 ≤ y106.toInt + 1 := b153; omega)), (show y106.toInt ≤ 8 from (by have t1 : y106.toInt ≤ 8 := b154; omega)), (show 0 ≤ y218.toInt from (by have t1 : 0 ≤ y218.toInt := b219; omega)), (show y218.toInt ≤ 4100 from (by have t1 : y218.toInt ≤ 0 := b220; omega)), (show 0 ≤ y114.toInt from (by have t1 : 0 ≤ y114.toInt := b155; omega)), (show y114.toInt ≤ 64 from (by have t1 : y114.toInt ≤ 64 := b156; omega)), (show 0 ≤ y118.toInt from (by have t1 : 0 ≤ y118.toInt := b157; omega)), (show y118.toInt ≤ 64 from (by have t1 : y118.toInt ≤ 64 := b158; omega)), (show 0 ≤ y122.toInt from (by have t1 : 0 ≤ y122.toInt := b159; omega)), (show y122.toInt ≤ 64 from (by have t1 : y122.toInt ≤ 64 := b160; omega)), (show 0 ≤ y126.toInt from (by have t1 : 0 ≤ y126.toInt := b161; omega)), (show y126.toInt ≤ 64 from (by have t1 : y126.toInt ≤ 64 := b162; omega)), (show 0 ≤ y130.toInt from (by have t1 : 0 ≤ y130.toInt := b163; omega)), (show y130.toInt ≤ 64 from (by have t1 : y130.toInt ≤ 64 := b164; omega)), (show 0 ≤ y134.toInt from (by have t1 : 0 ≤ y134.toInt := b165; omega)), (show y134.toInt ≤ 64 from (by have t1 : y134.toInt ≤ 64 := b166; omega)), (show 0 ≤ y138.toInt from (by have t1 : 0 ≤ y138.toInt := b167; omega)), (show y138.toInt ≤ 64 from (by have t1 : y138.toInt ≤ 64 := b168; omega)), (show 0 ≤ y142.toInt from (by have t1 : 0 ≤ y142.toInt := b169; omega)), (show y142.toInt ≤ 64 from (by have t1 : y142.toInt ≤ 64 := b170; omega)), (show 0 ≤ y146.toInt from (by have t1 : 0 ≤ y146.toInt := b171; omega)), (show y146.toInt ≤ 64 from (by have t1 : y146.toInt ≤ 64 := b172; omega)), (show t0_0.toInt ≤ y103.toInt from (by have t1 : t0_0.toInt ≤ y103.toInt := b173; omega)), (show y103.toInt ≤ t0_0.toInt + 1 from (by have t1 : y103.toInt ≤ t0_0.toInt + 1 := b174; omega)), (show t0_1.toInt ≤ y104.toInt from (by have t1 : t0_1.toInt ≤ y104.toInt := b175; omega)), (show y104.toInt ≤ t0_1.toInt from (by have t1 : y104.toInt ≤ t0_1.toInt := b176; omega)), (show t0_2.toInt ≤ y105.toInt from (by have t1 : t0_2.toInt ≤ y105.toInt := b177; omega)), (show y105.toInt ≤ t0_2.toInt from (by have t1 : y105.toInt ≤ t0_2.toInt := b178; omega)), (show t0_3.toInt ≤ y106.toInt from (by have t1 : t0_3.toInt ≤ y106.toInt := b179; omega)), (show y106.toInt ≤ t0_3.toInt from (by have t1 : y106.toInt ≤ t0_3.toInt := b180; omega)), (show t4_0.toInt ≤ y218.toInt + 64 from (by have t1 : t4_0.toInt ≤ 64 := ob99; have t2 : 0 ≤ y218.toInt := b219; omega)), (show y218.toInt ≤ t4_0.toInt from (by have t1 : 0 ≤ t4_0.toInt ∧ t4_0.toInt ≤ 4100 := btt4_0; have t2 : y218.toInt ≤ 0 := b220; omega)), (show (y103, y104, y105, y106, f107, f109, f111, y218, y114, f115, y118, f119, y122, f123, y126, f127, y130, f131, y134, f135, y138, f139, y142, f143, y146, f147) = (F_NH_addArgument x2 x3 t0_0 t0_1 t0_2 t0_3 t1_0 t2_0 t3_0 t4_0 t5_0 t6_0 t7_0 t8_0 t9_0 t10_0 t11_0 t12_0 t13_0 t14_0 t15_0 t16_0 t17_0 t18_0 t19_0 t20_0 t21_0 t22_0 t23_0 t24_0 t24_1 t25_0 t26_0 t26_1 t27_0 t27_1 t28_0) from Eq.trans (by rw [e223, e209, e208, e207, e206, e205, e204, e203, e202, e201, e200, e199, e198, e197, e196, e195, e194, e193, e192, e191, e190, e189, e188, e187, e186, e185, F_NH_addArgument_c130.eq_1]) hR210)⟩) d_1_22_140
          ·
            have b224 : q_F (x2.toInt = 6) := (q_eqI c96)
            refine lv_aload_n hx hb d_1_22_112 rfl (lv_at hl 0 rfl) ?_
            have hO225 := n_o0 hI
            refine q_get (ci := 0) (j := 13) (v := .ref (q 40)) C0 V i_NH rfl rfl hO225 (by decide) w_437 rfl d_1_22_113 ?_
            refine lv_iconst (v := 2) hx hb d_1_22_116 (by decide) ?_
            refine lv_iload_n hx hb d_1_22_117 rfl (lv_at hl 2 rfl) ?_
            refine lv_i2l hx hb d_1_22_118 rfl ?_
            obtain ⟨j226, e227⟩ := q_nm (x3.toInt64 : Int64)
            refine q_tl (v := j226) e227 ?_
            have b228 : q_F (j226.toInt = x3.toInt) := (by rw [← e227]; show (x3.toInt64 : Int64).toInt = x3.toInt; exact q_i2l rfl)
            refine lv_iconst (v := 0) hx hb d_1_22_119 (by decide) ?_
            refine q_gov V (q_runV (As := [.int 2, .long j226, .int 0]) (rest := []) (d := 1) (mc := 0) (ms := 0) (ci := 11) C0 V rfl LV_NH_374 (X_Pri_addNumber l D g q ws  2 j226 0 hI t0_0 t0_1 t0_2 t0_3 hT0 t1_0 hT1 t2_0 hT2 t3_0 hT3 (by have y0 : (2 : Int32).toInt = 2 := rfl; have y1 : (0 : Int32).toInt = 0 := rfl; omega) (by have y0 : (2 : Int32).toInt = 2 := rfl; have y1 : (0 : Int32).toInt = 0 := rfl; omega) _) rfl rfl hT0 rfl hl.1 rfl (Nat.le_of_ble_eq_true rfl) ⟨by decide, by decide⟩ ⟨Nat.le_of_ble_eq_true rfl, Nat.le_of_ble_eq_true rfl⟩ d_1_22_120) (fun u229 H locs hp230 V => ?_)
            obtain ⟨hI, hu253, y232, y233, y234, y235, f236, f238, f240, hO231, hA237, hA239, hA241, b242, b243, b244, b245, b246, b247, b248, b249, b250, b251, hE252⟩ := hp230
            replace hO231 : u229[40]? = (some (q 40, .inr (11, [.int y232, .ref (q 41), .ref (q 42), .ref (q 43), .ref (q 44), .ref (q 1), .ref (q 47), .ref (q 36), .ref (q 45), .int y233, .int y234, .int y235])) : Option (Nat × va_E)) := hO231
            replace hA237 : u229[41]? = (some (q 41, .inl (g 0, 9, .inl f236)) : Option (Nat × va_E)) := hA237
            replace hA239 : u229[42]? = (some (q 42, .inl (g 1, 9, .inr (.inl f238))) : Option (Nat × va_E)) := hA239
            replace hA241 : u229[43]? = (some (q 43, .inl (g 0, 9, .inl f240)) : Option (Nat × va_E)) := hA241
            obtain ⟨p254, e255⟩ : ∃ z, z = (F_Pri_addNumber (2 : Int32) j226 (0 : Int32) t0_0 t0_1 t0_2 t0_3 t1_0 t2_0 t3_0) := ⟨_, rfl⟩
            have e256 : y232 = p254.1 := congrArg (fun z => z.1) (hE252.trans e255.symm)
            have e257 : y233 = p254.2.1 := congrArg (fun z => z.2.1) (hE252.trans e255.symm)
            have e258 : y234 = p254.2.2.1 := congrArg (fun z => z.2.2.1) (hE252.trans e255.symm)
            have e259 : y235 = p254.2.2.2.1 := congrArg (fun z => z.2.2.2.1) (hE252.trans e255.symm)
            have e260 : f236 = p254.2.2.2.2.1 := congrArg (fun z => z.2.2.2.2.1) (hE252.trans e255.symm)
            have e261 : f238 = p254.2.2.2.2.2.1 := congrArg (fun z => z.2.2.2.2.2.1) (hE252.trans e255.symm)
            have e262 : f240 = p254.2.2.2.2.2.2 := congrArg (fun z => z.2.2.2.2.2.2) (hE252.trans e255.symm)
            replace b242 : q_F (1 ≤ y232.toInt) := b242
            replace b243 : q_F (y232.toInt ≤ 9) := b243
            replace b244 : q_F (t0_0.toInt ≤ y232.toInt) := b244
            replace b245 : q_F (y232.toInt ≤ t0_0.toInt + 1) := b245
            replace b246 : q_F (t0_1.toInt ≤ y233.toInt) := b246
            replace b247 : q_F (y233.toInt ≤ t0_1.toInt) := b247
            replace b248 : q_F (t0_2.toInt ≤ y234.toInt) := b248
            replace b249 : q_F (y234.toInt ≤ t0_2.toInt) := b249
            replace b250 : q_F (t0_3.toInt ≤ y235.toInt) := b250
            replace b251 : q_F (y235.toInt ≤ t0_3.toInt) := b251
            replace hT4 := (hu253 _ (by decide)).trans hT4
            replace hT5 := (hu253 _ (by decide)).trans hT5
            replace hT6 := (hu253 _ (by decide)).trans hT6
            replace hT7 := (hu253 _ (by decide)).trans hT7
            replace hT8 := (hu253 _ (by decide)).trans hT8
            replace hT9 := (hu253 _ (by decide)).trans hT9
            replace hT10 := (hu253 _ (by decide)).trans hT10
            replace hT11 := (hu253 _ (by decide)).trans hT11
            replace hT12 := (hu253 _ (by decide)).trans hT12
            replace hT13 := (hu253 _ (by decide)).trans hT13
            replace hT14 := (hu253 _ (by decide)).trans hT14
            replace hT15 := (hu253 _ (by decide)).trans hT15
            replace hT16 := (hu253 _ (by decide)).trans hT16
            replace hT17 := (hu253 _ (by decide)).trans hT17
            replace hT18 := (hu253 _ (by decide)).trans hT18
            replace hT19 := (hu253 _ (by decide)).trans hT19
            replace hT20 := (hu253 _ (by decide)).trans hT20
            replace hT21 := (hu253 _ (by decide)).trans hT21
            replace hT22 := (hu253 _ (by decide)).trans hT22
            replace hT23 := (hu253 _ (by decide)).trans hT23
            replace hT24 := (hu253 _ (by have z0 := yk3; simp only [List.mem_cons, List.not_mem_nil, or_false, not_or]; omega)).trans hT24
            replace hT25 := (hu253 _ (by have z0 := yk3; simp only [List.mem_cons, List.not_mem_nil, or_false, not_or]; omega)).trans hT25
            replace hT26 := (hu253 _ (by have z0 := yd3; simp only [List.mem_cons, List.not_mem_nil, or_false, not_or]; omega)).trans hT26
            replace hT27 := (hu253 _ (by have z0 := yd3; simp only [List.mem_cons, List.not_mem_nil, or_false, not_or]; omega)).trans hT27
            replace hT28 := (hu253 _ (by have z0 := yd3; simp only [List.mem_cons, List.not_mem_nil, or_false, not_or]; omega)).trans hT28
            replace hO225 := (hu253 _ (by decide)).trans hO225
            replace hF := q_uc hF hu253 (by simp)
            have hR263 := (show F_NH_addArgument_c120 x2 x3 t0_0 t0_1 t0_2 t0_3 t1_0 t2_0 t3_0 t4_0 t5_0 t6_0 t7_0 t8_0 t9_0 t10_0 t11_0 t12_0 t13_0 t14_0 t15_0 t16_0 t17_0 t18_0 t19_0 t20_0 t21_0 t22_0 t23_0 t24_0 t24_1 t25_0 t26_0 t26_1 t27_0 t27_1 t28_0 p254 = (F_NH_addArgument x2 x3 t0_0 t0_1 t0_2 t0_3 t1_0 t2_0 t3_0 t4_0 t5_0 t6_0 t7_0 t8_0 t9_0 t10_0 t11_0 t12_0 t13_0 t14_0 t15_0 t16_0 t17_0 t18_0 t19_0 t20_0 t21_0 t22_0 t23_0 t24_0 t24_1 t25_0 t26_0 t26_1 t27_0 t27_1 t28_0) from (by rw [e255, ← e227, F_NH_addArgument.eq_1, if_neg c88, if_neg c90, if_neg c92, if_neg c94, if_pos c96]))
            have hS264 := (show True ∧ S_NH_addArgument_c120 x2 x3 t0_0 t0_1 t0_2 t0_3 t1_0 t2_0 t3_0 t4_0 t5_0 t6_0 t7_0 t8_0 t9_0 t10_0 t11_0 t12_0 t13_0 t14_0 t15_0 t16_0 t17_0 t18_0 t19_0 t20_0 t21_0 t22_0 t23_0 t24_0 t24_1 t25_0 t26_0 t26_1 t27_0 t27_1 t28_0 p254 from (by rw [e255, ← e227]; have h := hS; rw [S_NH_addArgument.eq_1] at h; rw [if_neg c88] at h; rw [if_neg c90] at h; rw [if_neg c92] at h; rw [if_neg c94] at h; rw [if_pos c96] at h; with_reducible exact h))
            refine lv_goto (tgt := 140) hx hb d_1_22_123 (by decide) ?_
            exact q_retv C0 V (⟨hI, hF, y232, y233, y234, y235, f236, f238, f240, t4_0, t6_0, t7_0, t8_0, t9_0, t10_0, t11_0, t12_0, t13_0, t14_0, t15_0, t16_0, t17_0, t18_0, t19_0, t20_0, t21_0, t22_0, t23_0, hO231, hA237, hA239, hA241, hT4, hT6, hT7, hT8, hT9, hT10, hT11, hT12, hT13, hT14, hT15, hT16, hT17, hT18, hT19, hT20, hT21, hT22, hT23, (show 1 ≤ y232.toInt from (by have t1 : 1 ≤ y232.toInt := b242; omega)), (show y232.toInt ≤ 9 from (by have t1 : y232.toInt ≤ 9 := b243; omega)), (show 0 ≤ y233.toInt + 1 from (by have t1 : -1 ≤ t0_1.toInt ∧ t0_1.toInt ≤ 1000000 := btt0_1; have t2 : t0_1.toInt ≤ y233.toInt := b246; omega)), (show y233.toInt ≤ 1000000 from (by have t1 : -1 ≤ t0_1.toInt ∧ t0_1.toInt ≤ 1000000 := btt0_1; have t2 : y233.toInt ≤ t0_1.toInt := b247; omega)), (show 0 ≤ y235.toInt + 1 from (by have t1 : -1 ≤ t0_3.toInt ∧ t0_3.toInt ≤ 8 := btt0_3; have t2 : t0_3.toInt ≤ y235.toInt := b250; omega)), (show y235.toInt ≤ 8 from (by have t1 : -1 ≤ t0_3.toInt ∧ t0_3.toInt ≤ 8 := btt0_3; have t2 : y235.toInt ≤ t0_3.toInt := b251; omega)), (show 0 ≤ t4_0.toInt from (by have t1 : 0 ≤ t4_0.toInt ∧ t4_0.toInt ≤ 4100 := btt4_0; omega)), (show t4_0.toInt ≤ 4100 from (by have t1 : 0 ≤ t4_0.toInt ∧ t4_0.toInt ≤ 4100 := btt4_0; omega)), (show 0 ≤ t6_0.toInt from (by have t1 : 0 ≤ t6_0.toInt ∧ t6_0.toInt ≤ 64 := btt6_0; omega)), (show t6_0.toInt ≤ 64 from (by have t1 : 0 ≤ t6_0.toInt ∧ t6_0.toInt ≤ 64 := btt6_0; omega)), (show 0 ≤ t8_0.toInt from (by have t1 : 0 ≤ t8_0.toInt ∧ t8_0.toInt ≤ 64 := btt8_0; omega)), (show t8_0.toInt ≤ 64 from (by have t1 : 0 ≤ t8_0.toInt ∧ t8_0.toInt ≤ 64 := btt8_0; omega)), (show 0 ≤ t10_0.toInt from (by have t1 : 0 ≤ t10_0.toInt ∧ t10_0.toInt ≤ 64 := btt10_0; omega)), (show t10_0.toInt ≤ 64 from (by have t1 : 0 ≤ t10_0.toInt ∧ t10_0.toInt ≤ 64 := btt10_0; omega)), (show 0 ≤ t12_0.toInt from (by have t1 : 0 ≤ t12_0.toInt ∧ t12_0.toInt ≤ 64 := btt12_0; omega)), (show t12_0.toInt ≤ 64 from (by have t1 : 0 ≤ t12_0.toInt ∧ t12_0.toInt ≤ 64 := btt12_0; omega)), (show 0 ≤ t14_0.toInt from (by have t1 : 0 ≤ t14_0.toInt ∧ t14_0.toInt ≤ 64 := btt14_0; omega)), (show t14_0.toInt ≤ 64 from (by have t1 : 0 ≤ t14_0.toInt ∧ t14_0.toInt ≤ 64 := btt14_0; omega)), (show 0 ≤ t16_0.toInt from (by have t1 : 0 ≤ t16_0.toInt ∧ t16_0.toInt ≤ 64 := btt16_0; omega)), (show t16_0.toInt ≤ 64 from (by have t1 : 0 ≤ t16_0.toInt ∧ t16_0.toInt ≤ 64 := btt16_0; omega)), (show 0 ≤ t18_0.toInt from (by have t1 : 0 ≤ t18_0.toInt ∧ t18_0.toInt ≤ 64 := btt18_0; omega)), (show t18_0.toInt ≤ 64 from (by have t1 : 0 ≤ t18_0.toInt ∧ t18_0.toInt ≤ 64 := btt18_0; omega)), (show 0 ≤ t20_0.toInt from (by have t1 : 0 ≤ t20_0.toInt ∧ t20_0.toInt ≤ 64 := btt20_0; omega)), (show t20_0.toInt ≤ 64 from (by have t1 : 0 ≤ t20_0.toInt ∧ t20_0.toInt ≤ 64 := btt20_0; omega)), (show 0 ≤ t22_0.toInt from (by have t1 : 0 ≤ t22_0.toInt ∧ t22_0.toInt ≤ 64 := btt22_0; omega)), (show t22_0.toInt ≤ 64 from (by have t1 : 0 ≤ t22_0.toInt ∧ t22_0.toInt ≤ 64 := btt22_0; omega)), (show t0_0.toInt ≤ y232.toInt from (by have t1 : t0_0.toInt ≤ y232.toInt := b244; omega)), (show y232.toInt ≤ t0_0.toInt + 1 from (by have t1 : y232.toInt ≤ t0_0.toInt + 1 := b245; omega)), (show t0_1.toInt ≤ y233.toInt from (by have t1 : t0_1.toInt ≤ y233.toInt := b246; omega)), (show y233.toInt ≤ t0_1.toInt from (by have t1 : y233.toInt ≤ t0_1.toInt := b247; omega)), (show t0_2.toInt ≤ y234.toInt from (by have t1 : t0_2.toInt ≤ y234.toInt := b248; omega)), (show y234.toInt ≤ t0_2.toInt from (by have t1 : y234.toInt ≤ t0_2.toInt := b249; omega)), (show t0_3.toInt ≤ y235.toInt from (by have t1 : t0_3.toInt ≤ y235.toInt := b250; omega)), (show y235.toInt ≤ t0_3.toInt from (by have t1 : y235.toInt ≤ t0_3.toInt := b251; omega)), (show t4_0.toInt ≤ t4_0.toInt + 64 from (by omega)), (show t4_0.toInt ≤ t4_0.toInt from (by omega)), (show (y232, y233, y234, y235, f236, f238, f240, t4_0, t6_0, t7_0, t8_0, t9_0, t10_0, t11_0, t12_0, t13_0, t14_0, t15_0, t16_0, t17_0, t18_0, t19_0, t20_0, t21_0, t22_0, t23_0) = (F_NH_addArgument x2 x3 t0_0 t0_1 t0_2 t0_3 t1_0 t2_0 t3_0 t4_0 t5_0 t6_0 t7_0 t8_0 t9_0 t10_0 t11_0 t12_0 t13_0 t14_0 t15_0 t16_0 t17_0 t18_0 t19_0 t20_0 t21_0 t22_0 t23_0 t24_0 t24_1 t25_0 t26_0 t26_1 t27_0 t27_1 t28_0) from Eq.trans (by rw [e262, e261, e260, e259, e258, e257, e256, F_NH_addArgument_c120.eq_1]) hR263)⟩) d_1_22_140
        ·
          have b268 : q_F (x2.toInt = 5) := (q_eqI c94)
          refine lv_aload_n hx hb d_1_22_85 rfl (lv_at hl 0 rfl) ?_
          have hO269 := n_o0 hI
          refine q_get (ci := 0) (j := 13) (v := .ref (q 40)) C0 V i_NH rfl rfl hO269 (by decide) w_437 rfl d_1_22_86 ?_
          refine lv_iconst (v := 1) hx hb d_1_22_89 (by decide) ?_
          refine lv_iload_n hx hb d_1_22_90 rfl (lv_at hl 2 rfl) ?_
          refine lv_if_ne (tgt := 98) hx hb d_1_22_91 (by decide) (fun c270 => ?_) (fun c270 => ?_)
          ·
            have b271 : q_F (x3.toInt ≠ 0) := (q_neI c270)
            refine lv_lconst (v := 1) hx hb d_1_22_98 (by decide) ?_
            refine lv_iconst (v := 0) hx hb d_1_22_99 (by decide) ?_
            refine q_gov V (q_runV (As := [.int 1, .long 1, .int 0]) (rest := []) (d := 1) (mc := 0) (ms := 0) (ci := 11) C0 V rfl LV_NH_374 (X_Pri_addNumber l D g q ws  1 1 0 hI t0_0 t0_1 t0_2 t0_3 hT0 t1_0 hT1 t2_0 hT2 t3_0 hT3 (by have y0 : (1 : Int32).toInt = 1 := rfl; have y1 : (1 : Int64).toInt = 1 := rfl; have y2 : (0 : Int32).toInt = 0 := rfl; omega) (by have y0 : (1 : Int32).toInt = 1 := rfl; have y1 : (1 : Int64).toInt = 1 := rfl; have y2 : (0 : Int32).toInt = 0 := rfl; omega) _) rfl rfl hT0 rfl hl.1 rfl (Nat.le_of_ble_eq_true rfl) ⟨by decide, by decide⟩ ⟨Nat.le_of_ble_eq_true rfl, Nat.le_of_ble_eq_true rfl⟩ d_1_22_100) (fun u272 H locs hp273 V => ?_)
            obtain ⟨hI, hu296, y275, y276, y277, y278, f279, f281, f283, hO274, hA280, hA282, hA284, b285, b286, b287, b288, b289, b290, b291, b292, b293, b294, hE295⟩ := hp273
            replace hO274 : u272[40]? = (some (q 40, .inr (11, [.int y275, .ref (q 41), .ref (q 42), .ref (q 43), .ref (q 44), .ref (q 1), .ref (q 47), .ref (q 36), .ref (q 45), .int y276, .int y277, .int y278])) : Option (Nat × va_E)) := hO274
            replace hA280 : u272[41]? = (some (q 41, .inl (g 0, 9, .inl f279)) : Option (Nat × va_E)) := hA280
            replace hA282 : u272[42]? = (some (q 42, .inl (g 1, 9, .inr (.inl f281))) : Option (Nat × va_E)) := hA282
            replace hA284 : u272[43]? = (some (q 43, .inl (g 0, 9, .inl f283)) : Option (Nat × va_E)) := hA284
            obtain ⟨p297, e298⟩ : ∃ z, z = (F_Pri_addNumber (1 : Int32) (1 : Int64) (0 : Int32) t0_0 t0_1 t0_2 t0_3 t1_0 t2_0 t3_0) := ⟨_, rfl⟩
            have e299 : y275 = p297.1 := congrArg (fun z => z.1) (hE295.trans e298.symm)
            have e300 : y276 = p297.2.1 := congrArg (fun z => z.2.1) (hE295.trans e298.symm)
            have e301 : y277 = p297.2.2.1 := congrArg (fun z => z.2.2.1) (hE295.trans e298.symm)
            have e302 : y278 = p297.2.2.2.1 := congrArg (fun z => z.2.2.2.1) (hE295.trans e298.symm)
            have e303 : f279 = p297.2.2.2.2.1 := congrArg (fun z => z.2.2.2.2.1) (hE295.trans e298.symm)
            have e304 : f281 = p297.2.2.2.2.2.1 := congrArg (fun z => z.2.2.2.2.2.1) (hE295.trans e298.symm)
            have e305 : f283 = p297.2.2.2.2.2.2 := congrArg (fun z => z.2.2.2.2.2.2) (hE295.trans e298.symm)
            replace b285 : q_F (1 ≤ y275.toInt) := b285
            replace b286 : q_F (y275.toInt ≤ 9) := b286
            replace b287 : q_F (t0_0.toInt ≤ y275.toInt) := b287
            replace b288 : q_F (y275.toInt ≤ t0_0.toInt + 1) := b288
            replace b289 : q_F (t0_1.toInt ≤ y276.toInt) := b289
            replace b290 : q_F (y276.toInt ≤ t0_1.toInt) := b290
            replace b291 : q_F (t0_2.toInt ≤ y277.toInt) := b291
            replace b292 : q_F (y277.toInt ≤ t0_2.toInt) := b292
            replace b293 : q_F (t0_3.toInt ≤ y278.toInt) := b293
            replace b294 : q_F (y278.toInt ≤ t0_3.toInt) := b294
            replace hT4 := (hu296 _ (by decide)).trans hT4
            replace hT5 := (hu296 _ (by decide)).trans hT5
            replace hT6 := (hu296 _ (by decide)).trans hT6
            replace hT7 := (hu296 _ (by decide)).trans hT7
            replace hT8 := (hu296 _ (by decide)).trans hT8
            replace hT9 := (hu296 _ (by decide)).trans hT9
            replace hT10 := (hu296 _ (by decide)).trans hT10
            replace hT11 := (hu296 _ (by decide)).trans hT11
            replace hT12 := (hu296 _ (by decide)).trans hT12
            replace hT13 := (hu296 _ (by decide)).trans hT13
            replace hT14 := (hu296 _ (by decide)).trans hT14
            replace hT15 := (hu296 _ (by decide)).trans hT15
            replace hT16 := (hu296 _ (by decide)).trans hT16
            replace hT17 := (hu296 _ (by decide)).trans hT17
            replace hT18 := (hu296 _ (by decide)).trans hT18
            replace hT19 := (hu296 _ (by decide)).trans hT19
            replace hT20 := (hu296 _ (by decide)).trans hT20
            replace hT21 := (hu296 _ (by decide)).trans hT21
            replace hT22 := (hu296 _ (by decide)).trans hT22
            replace hT23 := (hu296 _ (by decide)).trans hT23
            replace hT24 := (hu296 _ (by have z0 := yk3; simp only [List.mem_cons, List.not_mem_nil, or_false, not_or]; omega)).trans hT24
            replace hT25 := (hu296 _ (by have z0 := yk3; simp only [List.mem_cons, List.not_mem_nil, or_false, not_or]; omega)).trans hT25
            replace hT26 := (hu296 _ (by have z0 := yd3; simp only [List.mem_cons, List.not_mem_nil, or_false, not_or]; omega)).trans hT26
            replace hT27 := (hu296 _ (by have z0 := yd3; simp only [List.mem_cons, List.not_mem_nil, or_false, not_or]; omega)).trans hT27
            replace hT28 := (hu296 _ (by have z0 := yd3; simp only [List.mem_cons, List.not_mem_nil, or_false, not_or]; omega)).trans hT28
            replace hO269 := (hu296 _ (by decide)).trans hO269
            replace hF := q_uc hF hu296 (by simp)
            have hR306 := (show F_NH_addArgument_c100 x2 x3 t0_0 t0_1 t0_2 t0_3 t1_0 t2_0 t3_0 t4_0 t5_0 t6_0 t7_0 t8_0 t9_0 t10_0 t11_0 t12_0 t13_0 t14_0 t15_0 t16_0 t17_0 t18_0 t19_0 t20_0 t21_0 t22_0 t23_0 t24_0 t24_1 t25_0 t26_0 t26_1 t27_0 t27_1 t28_0 p297 = (F_NH_addArgument x2 x3 t0_0 t0_1 t0_2 t0_3 t1_0 t2_0 t3_0 t4_0 t5_0 t6_0 t7_0 t8_0 t9_0 t10_0 t11_0 t12_0 t13_0 t14_0 t15_0 t16_0 t17_0 t18_0 t19_0 t20_0 t21_0 t22_0 t23_0 t24_0 t24_1 t25_0 t26_0 t26_1 t27_0 t27_1 t28_0) from (by rw [e298, F_NH_addArgument.eq_1, if_neg c88, if_neg c90, if_neg c92, if_pos c94, if_neg c270]))
            have hS307 := (show True ∧ S_NH_addArgument_c100 x2 x3 t0_0 t0_1 t0_2 t0_3 t1_0 t2_0 t3_0 t4_0 t5_0 t6_0 t7_0 t8_0 t9_0 t10_0 t11_0 t12_0 t13_0 t14_0 t15_0 t16_0 t17_0 t18_0 t19_0 t20_0 t21_0 t22_0 t23_0 t24_0 t24_1 t25_0 t26_0 t26_1 t27_0 t27_1 t28_0 p297 from (by rw [e298]; have h := hS; rw [S_NH_addArgument.eq_1] at h; rw [if_neg c88] at h; rw [if_neg c90] at h; rw [if_neg c92] at h; rw [if_pos c94] at h; rw [if_neg c270] at h; with_reducible exact h))
            refine lv_goto (tgt := 140) hx hb d_1_22_103 (by decide) ?_
            exact q_retv C0 V (⟨hI, hF, y275, y276, y277, y278, f279, f281, f283, t4_0, t6_0, t7_0, t8_0, t9_0, t10_0, t11_0, t12_0, t13_0, t14_0, t15_0, t16_0, t17_0, t18_0, t19_0, t20_0, t21_0, t22_0, t23_0, hO274, hA280, hA282, hA284, hT4, hT6, hT7, hT8, hT9, hT10, hT11, hT12, hT13, hT14, hT15, hT16, hT17, hT18, hT19, hT20, hT21, hT22, hT23, (show 1 ≤ y275.toInt from (by have t1 : 1 ≤ y275.toInt := b285; omega)), (show y275.toInt ≤ 9 from (by have t1 : y275.toInt ≤ 9 := b286; omega)), (show 0 ≤ y276.toInt + 1 from (by have t1 : -1 ≤ t0_1.toInt ∧ t0_1.toInt ≤ 1000000 := btt0_1; have t2 : t0_1.toInt ≤ y276.toInt := b289; omega)), (show y276.toInt ≤ 1000000 from (by have t1 : -1 ≤ t0_1.toInt ∧ t0_1.toInt ≤ 1000000 := btt0_1; have t2 : y276.toInt ≤ t0_1.toInt := b290; omega)), (show 0 ≤ y278.toInt + 1 from (by have t1 : -1 ≤ t0_3.toInt ∧ t0_3.toInt ≤ 8 := btt0_3; have t2 : t0_3.toInt ≤ y278.toInt := b293; omega)), (show y278.toInt ≤ 8 from (by have t1 : -1 ≤ t0_3.toInt ∧ t0_3.toInt ≤ 8 := btt0_3; have t2 : y278.toInt ≤ t0_3.toInt := b294; omega)), (show 0 ≤ t4_0.toInt from (by have t1 : 0 ≤ t4_0.toInt ∧ t4_0.toInt ≤ 4100 := btt4_0; omega)), (show t4_0.toInt ≤ 4100 from (by have t1 : 0 ≤ t4_0.toInt ∧ t4_0.toInt ≤ 4100 := btt4_0; omega)), (show 0 ≤ t6_0.toInt from (by have t1 : 0 ≤ t6_0.toInt ∧ t6_0.toInt ≤ 64 := btt6_0; omega)), (show t6_0.toInt ≤ 64 from (by have t1 : 0 ≤ t6_0.toInt ∧ t6_0.toInt ≤ 64 := btt6_0; omega)), (show 0 ≤ t8_0.toInt from (by have t1 : 0 ≤ t8_0.toInt ∧ t8_0.toInt ≤ 64 := btt8_0; omega)), (show t8_0.toInt ≤ 64 from (by have t1 : 0 ≤ t8_0.toInt ∧ t8_0.toInt ≤ 64 := btt8_0; omega)), (show 0 ≤ t10_0.toInt from (by have t1 : 0 ≤ t10_0.toInt ∧ t10_0.toInt ≤ 64 := btt10_0; omega)), (show t10_0.toInt ≤ 64 from (by have t1 : 0 ≤ t10_0.toInt ∧ t10_0.toInt ≤ 64 := btt10_0; omega)), (show 0 ≤ t12_0.toInt from (by have t1 : 0 ≤ t12_0.toInt ∧ t12_0.toInt ≤ 64 := btt12_0; omega)), (show t12_0.toInt ≤ 64 from (by have t1 : 0 ≤ t12_0.toInt ∧ t12_0.toInt ≤ 64 := btt12_0; omega)), (show 0 ≤ t14_0.toInt from (by have t1 : 0 ≤ t14_0.toInt ∧ t14_0.toInt ≤ 64 := btt14_0; omega)), (show t14_0.toInt ≤ 64 from (by have t1 : 0 ≤ t14_0.toInt ∧ t14_0.toInt ≤ 64 := btt14_0; omega)), (show 0 ≤ t16_0.toInt from (by have t1 : 0 ≤ t16_0.toInt ∧ t16_0.toInt ≤ 64 := btt16_0; omega)), (show t16_0.toInt ≤ 64 from (by have t1 : 0 ≤ t16_0.toInt ∧ t16_0.toInt ≤ 64 := btt16_0; omega)), (show 0 ≤ t18_0.toInt from (by have t1 : 0 ≤ t18_0.toInt ∧ t18_0.toInt ≤ 64 := btt18_0; omega)), (show t18_0.toInt ≤ 64 from (by have t1 : 0 ≤ t18_0.toInt ∧ t18_0.toInt ≤ 64 := btt18_0; omega)), (show 0 ≤ t20_0.toInt from (by have t1 : 0 ≤ t20_0.toInt ∧ t20_0.toInt ≤ 64 := btt20_0; omega)), (show t20_0.toInt ≤ 64 from (by have t1 : 0 ≤ t20_0.toInt ∧ t20_0.toInt ≤ 64 := btt20_0; omega)), (show 0 ≤ t22_0.toInt from (by have t1 : 0 ≤ t22_0.toInt ∧ t22_0.toInt ≤ 64 := btt22_0; omega)), (show t22_0.toInt ≤ 64 from (by have t1 : 0 ≤ t22_0.toInt ∧ t22_0.toInt ≤ 64 := btt22_0; omega)), (show t0_0.toInt ≤ y275.toInt from (by have t1 : t0_0.toInt ≤ y275.toInt := b287; omega)), (show y275.toInt ≤ t0_0.toInt + 1 from (by have t1 : y275.toInt ≤ t0_0.toInt + 1 := b288; omega)), (show t0_1.toInt ≤ y276.toInt from (by have t1 : t0_1.toInt ≤ y276.toInt := b289; omega)), (show y276.toInt ≤ t0_1.toInt from (by have t1 : y276.toInt ≤ t0_1.toInt := b290; omega)), (show t0_2.toInt ≤ y277.toInt from (by have t1 : t0_2.toInt ≤ y277.toInt := b291; omega)), (show y277.toInt ≤ t0_2.toInt from (by have t1 : y277.toInt ≤ t0_2.toInt := b292; omega)), (show t0_3.toInt ≤ y278.toInt from (by have t1 : t0_3.toInt ≤ y278.toInt := b293; omega)), (show y278.toInt ≤ t0_3.toInt from (by have t1 : y278.toInt ≤ t0_3.toInt := b294; omega)), (show t4_0.toInt ≤ t4_0.toInt + 64 from (by omega)), (show t4_0.toInt ≤ t4_0.toInt from (by omega)), (show (y275, y276, y277, y278, f279, f281, f283, t4_0, t6_0, t7_0, t8_0, t9_0, t10_0, t11_0, t12_0, t13_0, t14_0, t15_0, t16_0, t17_0, t18_0, t19_0, t20_0, t21_0, t22_0, t23_0) = (F_NH_addArgument x2 x3 t0_0 t0_1 t0_2 t0_3 t1_0 t2_0 t3_0 t4_0 t5_0 t6_0 t7_0 t8_0 t9_0 t10_0 t11_0 t12_0 t13_0 t14_0 t15_0 t16_0 t17_0 t18_0 t19_0 t20_0 t21_0 t22_0 t23_0 t24_0 t24_1 t25_0 t26_0 t26_1 t27_0 t27_1 t28_0) from Eq.trans (by rw [e305, e304, e303, e302, e301, e300, e299, F_NH_addArgument_c100.eq_1]) hR306)⟩) d_1_22_140
          ·
            have b311 : q_F (x3.toInt = 0) := (q_eqI c270)
            refine lv_lconst (v := 0) hx hb d_1_22_94 (by decide) ?_
            refine lv_goto (tgt := 99) hx hb d_1_22_95 (by decide) ?_
            refine lv_iconst (v := 0) hx hb d_1_22_99 (by decide) ?_
            refine q_gov V (q_runV (As := [.int 1, .long 0, .int 0]) (rest := []) (d := 1) (mc := 0) (ms := 0) (ci := 11) C0 V rfl LV_NH_374 (X_Pri_addNumber l D g q ws  1 0 0 hI t0_0 t0_1 t0_2 t0_3 hT0 t1_0 hT1 t2_0 hT2 t3_0 hT3 (by have y0 : (1 : Int32).toInt = 1 := rfl; have y1 : (0 : Int64).toInt = 0 := rfl; have y2 : (0 : Int32).toInt = 0 := rfl; omega) (by have y0 : (1 : Int32).toInt = 1 := rfl; have y1 : (0 : Int64).toInt = 0 := rfl; have y2 : (0 : Int32).toInt = 0 := rfl; omega) _) rfl rfl hT0 rfl hl.1 rfl (Nat.le_of_ble_eq_true rfl) ⟨by decide, by decide⟩ ⟨Nat.le_of_ble_eq_true rfl, Nat.le_of_ble_eq_true rfl⟩ d_1_22_100) (fun u312 H locs hp313 V => ?_)
            obtain ⟨hI, hu336, y315, y316, y317, y318, f319, f321, f323, hO314, hA320, hA322, hA324, b325, b326, b327, b328, b329, b330, b331, b332, b333, b334, hE335⟩ := hp313
            replace hO314 : u312[40]? = (some (q 40, .inr (11, [.int y315, .ref (q 41), .ref (q 42), .ref (q 43), .ref (q 44), .ref (q 1), .ref (q 47), .ref (q 36), .ref (q 45), .int y316, .int y317, .int y318])) : Option (Nat × va_E)) := hO314
            replace hA320 : u312[41]? = (some (q 41, .inl (g 0, 9, .inl f319)) : Option (Nat × va_E)) := hA320
            replace hA322 : u312[42]? = (some (q 42, .inl (g 1, 9, .inr (.inl f321))) : Option (Nat × va_E)) := hA322
            replace hA324 : u312[43]? = (some (q 43, .inl (g 0, 9, .inl f323)) : Option (Nat × va_E)) := hA324
            obtain ⟨p337, e338⟩ : ∃ z, z = (F_Pri_addNumber (1 : Int32) (0 : Int64) (0 : Int32) t0_0 t0_1 t0_2 t0_3 t1_0 t2_0 t3_0) := ⟨_, rfl⟩
            have e339 : y315 = p337.1 := congrArg (fun z => z.1) (hE335.trans e338.symm)
            have e340 : y316 = p337.2.1 := congrArg (fun z => z.2.1) (hE335.trans e338.symm)
            have e341 : y317 = p337.2.2.1 := congrArg (fun z => z.2.2.1) (hE335.trans e338.symm)
            have e342 : y318 = p337.2.2.2.1 := congrArg (fun z => z.2.2.2.1) (hE335.trans e338.symm)
            have e343 : f319 = p337.2.2.2.2.1 := congrArg (fun z => z.2.2.2.2.1) (hE335.trans e338.symm)
            have e344 : f321 = p337.2.2.2.2.2.1 := congrArg (fun z => z.2.2.2.2.2.1) (hE335.trans e338.symm)
            have e345 : f323 = p337.2.2.2.2.2.2 := congrArg (fun z => z.2.2.2.2.2.2) (hE335.trans e338.symm)
            replace b325 : q_F (1 ≤ y315.toInt) := b325
            replace b326 : q_F (y315.toInt ≤ 9) := b326
            replace b327 : q_F (t0_0.toInt ≤ y315.toInt) := b327
            replace b328 : q_F (y315.toInt ≤ t0_0.toInt + 1) := b328
            replace b329 : q_F (t0_1.toInt ≤ y316.toInt) := b329
            replace b330 : q_F (y316.toInt ≤ t0_1.toInt) := b330
            replace b331 : q_F (t0_2.toInt ≤ y317.toInt) := b331
            replace b332 : q_F (y317.toInt ≤ t0_2.toInt) := b332
            replace b333 : q_F (t0_3.toInt ≤ y318.toInt) := b333
            replace b334 : q_F (y318.toInt ≤ t0_3.toInt) := b334
            replace hT4 := (hu336 _ (by decide)).trans hT4
            replace hT5 := (hu336 _ (by decide)).trans hT5
            replace hT6 := (hu336 _ (by decide)).trans hT6
            replace hT7 := (hu336 _ (by decide)).trans hT7
            replace hT8 := (hu336 _ (by decide)).trans hT8
            replace hT9 := (hu336 _ (by decide)).trans hT9
            replace hT10 := (hu336 _ (by decide)).trans hT10
            replace hT11 := (hu336 _ (by decide)).trans hT11
            replace hT12 := (hu336 _ (by decide)).trans hT12
            replace hT13 := (hu336 _ (by decide)).trans hT13
            replace hT14 := (hu336 _ (by decide)).trans hT14
            replace hT15 := (hu336 _ (by decide)).trans hT15
            replace hT16 := (hu336 _ (by decide)).trans hT16
            replace hT17 := (hu336 _ (by decide)).trans hT17
            replace hT18 := (hu336 _ (by decide)).trans hT18
            replace hT19 := (hu336 _ (by decide)).trans hT19
            replace hT20 := (hu336 _ (by decide)).trans hT20
            replace hT21 := (hu336 _ (by decide)).trans hT21
            replace hT22 := (hu336 _ (by decide)).trans hT22
            replace hT23 := (hu336 _ (by decide)).trans hT23
            replace hT24 := (hu336 _ (by have z0 := yk3; simp only [List.mem_cons, List.not_mem_nil, or_false, not_or]; omega)).trans hT24
            replace hT25 := (hu336 _ (by have z0 := yk3; simp only [List.mem_cons, List.not_mem_nil, or_false, not_or]; omega)).trans hT25
            replace hT26 := (hu336 _ (by have z0 := yd3; simp only [List.mem_cons, List.not_mem_nil, or_false, not_or]; omega)).trans hT26
            replace hT27 := (hu336 _ (by have z0 := yd3; simp only [List.mem_cons, List.not_mem_nil, or_false, not_or]; omega)).trans hT27
            replace hT28 := (hu336 _ (by have z0 := yd3; simp only [List.mem_cons, List.not_mem_nil, or_false, not_or]; omega)).trans hT28
            replace hO269 := (hu336 _ (by decide)).trans hO269
            replace hF := q_uc hF hu336 (by simp)
            have hR346 := (show F_NH_addArgument_c100_4 x2 x3 t0_0 t0_1 t0_2 t0_3 t1_0 t2_0 t3_0 t4_0 t5_0 t6_0 t7_0 t8_0 t9_0 t10_0 t11_0 t12_0 t13_0 t14_0 t15_0 t16_0 t17_0 t18_0 t19_0 t20_0 t21_0 t22_0 t23_0 t24_0 t24_1 t25_0 t26_0 t26_1 t27_0 t27_1 t28_0 p337 = (F_NH_addArgument x2 x3 t0_0 t0_1 t0_2 t0_3 t1_0 t2_0 t3_0 t4_0 t5_0 t6_0 t7_0 t8_0 t9_0 t10_0 t11_0 t12_0 t13_0 t14_0 t15_0 t16_0 t17_0 t18_0 t19_0 t20_0 t21_0 t22_0 t23_0 t24_0 t24_1 t25_0 t26_0 t26_1 t27_0 t27_1 t28_0) from (by rw [e338, F_NH_addArgument.eq_1, if_neg c88, if_neg c90, if_neg c92, if_pos c94, if_pos c270]))
            have hS347 := (show True ∧ S_NH_addArgument_c100_4 x2 x3 t0_0 t0_1 t0_2 t0_3 t1_0 t2_0 t3_0 t4_0 t5_0 t6_0 t7_0 t8_0 t9_0 t10_0 t11_0 t12_0 t13_0 t14_0 t15_0 t16_0 t17_0 t18_0 t19_0 t20_0 t21_0 t22_0 t23_0 t24_0 t24_1 t25_0 t26_0 t26_1 t27_0 t27_1 t28_0 p337 from (by rw [e338]; have h := hS; rw [S_NH_addArgument.eq_1] at h; rw [if_neg c88] at h; rw [if_neg c90] at h; rw [if_neg c92] at h; rw [if_pos c94] at h; rw [if_pos c270] at h; with_reducible exact h))
            refine lv_goto (tgt := 140) hx hb d_1_22_103 (by decide) ?_
            exact q_retv C0 V (⟨hI, hF, y315, y316, y317, y318, f319, f321, f323, t4_0, t6_0, t7_0, t8_0, t9_0, t10_0, t11_0, t12_0, t13_0, t14_0, t15_0, t16_0, t17_0, t18_0, t19_0, t20_0, t21_0, t22_0, t23_0, hO314, hA320, hA322, hA324, hT4, hT6, hT7, hT8, hT9, hT10, hT11, hT12, hT13, hT14, hT15, hT16, hT17, hT18, hT19, hT20, hT21, hT22, hT23, (show 1 ≤ y315.toInt from (by have t1 : 1 ≤ y315.toInt := b325; omega)), (show y315.toInt ≤ 9 from (by have t1 : y315.toInt ≤ 9 := b326; omega)), (show 0 ≤ y316.toInt + 1 from (by have t1 : -1 ≤ t0_1.toInt ∧ t0_1.toInt ≤ 1000000 := btt0_1; have t2 : t0_1.toInt ≤ y316.toInt := b329; omega)), (show y316.toInt ≤ 1000000 from (by have t1 : -1 ≤ t0_1.toInt ∧ t0_1.toInt ≤ 1000000 := btt0_1; have t2 : y316.toInt ≤ t0_1.toInt := b330; omega)), (show 0 ≤ y318.toInt + 1 from (by have t1 : -1 ≤ t0_3.toInt ∧ t0_3.toInt ≤ 8 := btt0_3; have t2 : t0_3.toInt ≤ y318.toInt := b333; omega)), (show y318.toInt ≤ 8 from (by have t1 : -1 ≤ t0_3.toInt ∧ t0_3.toInt ≤ 8 := btt0_3; have t2 : y318.toInt ≤ t0_3.toInt := b334; omega)), (show 0 ≤ t4_0.toInt from (by have t1 : 0 ≤ t4_0.toInt ∧ t4_0.toInt ≤ 4100 := btt4_0; omega)), (show t4_0.toInt ≤ 4100 from (by have t1 : 0 ≤ t4_0.toInt ∧ t4_0.toInt ≤ 4100 := btt4_0; omega)), (show 0 ≤ t6_0.toInt from (by have t1 : 0 ≤ t6_0.toInt ∧ t6_0.toInt ≤ 64 := btt6_0; omega)), (show t6_0.toInt ≤ 64 from (by have t1 : 0 ≤ t6_0.toInt ∧ t6_0.toInt ≤ 64 := btt6_0; omega)), (show 0 ≤ t8_0.toInt from (by have t1 : 0 ≤ t8_0.toInt ∧ t8_0.toInt ≤ 64 := btt8_0; omega)), (show t8_0.toInt ≤ 64 from (by have t1 : 0 ≤ t8_0.toInt ∧ t8_0.toInt ≤ 64 := btt8_0; omega)), (show 0 ≤ t10_0.toInt from (by have t1 : 0 ≤ t10_0.toInt ∧ t10_0.toInt ≤ 64 := btt10_0; omega)), (show t10_0.toInt ≤ 64 from (by have t1 : 0 ≤ t10_0.toInt ∧ t10_0.toInt ≤ 64 := btt10_0; omega)), (show 0 ≤ t12_0.toInt from (by have t1 : 0 ≤ t12_0.toInt ∧ t12_0.toInt ≤ 64 := btt12_0; omega)), (show t12_0.toInt ≤ 64 from (by have t1 : 0 ≤ t12_0.toInt ∧ t12_0.toInt ≤ 64 := btt12_0; omega)), (show 0 ≤ t14_0.toInt from (by have t1 : 0 ≤ t14_0.toInt ∧ t14_0.toInt ≤ 64 := btt14_0; omega)), (show t14_0.toInt ≤ 64 from (by have t1 : 0 ≤ t14_0.toInt ∧ t14_0.toInt ≤ 64 := btt14_0; omega)), (show 0 ≤ t16_0.toInt from (by have t1 : 0 ≤ t16_0.toInt ∧ t16_0.toInt ≤ 64 := btt16_0; omega)), (show t16_0.toInt ≤ 64 from (by have t1 : 0 ≤ t16_0.toInt ∧ t16_0.toInt ≤ 64 := btt16_0; omega)), (show 0 ≤ t18_0.toInt from (by have t1 : 0 ≤ t18_0.toInt ∧ t18_0.toInt ≤ 64 := btt18_0; omega)), (show t18_0.toInt ≤ 64 from (by have t1 : 0 ≤ t18_0.toInt ∧ t18_0.toInt ≤ 64 := btt18_0; omega)), (show 0 ≤ t20_0.toInt from (by have t1 : 0 ≤ t20_0.toInt ∧ t20_0.toInt ≤ 64 := btt20_0; omega)), (show t20_0.toInt ≤ 64 from (by have t1 : 0 ≤ t20_0.toInt ∧ t20_0.toInt ≤ 64 := btt20_0; omega)), (show 0 ≤ t22_0.toInt from (by have t1 : 0 ≤ t22_0.toInt ∧ t22_0.toInt ≤ 64 := btt22_0; omega)), (show t22_0.toInt ≤ 64 from (by have t1 : 0 ≤ t22_0.toInt ∧ t22_0.toInt ≤ 64 := btt22_0; omega)), (show t0_0.toInt ≤ y315.toInt from (by have t1 : t0_0.toInt ≤ y315.toInt := b327; omega)), (show y315.toInt ≤ t0_0.toInt + 1 from (by have t1 : y315.toInt ≤ t0_0.toInt + 1 := b328; omega)), (show t0_1.toInt ≤ y316.toInt from (by have t1 : t0_1.toInt ≤ y316.toInt := b329; omega)), (show y316.toInt ≤ t0_1.toInt from (by have t1 : y316.toInt ≤ t0_1.toInt := b330; omega)), (show t0_2.toInt ≤ y317.toInt from (by have t1 : t0_2.toInt ≤ y317.toInt := b331; omega)), (show y317.toInt ≤ t0_2.toInt from (by have t1 : y317.toInt ≤ t0_2.toInt := b332; omega)), (show t0_3.toInt ≤ y318.toInt from (by have t1 : t0_3.toInt ≤ y318.toInt := b333; omega)), (show y318.toInt ≤ t0_3.toInt from (by have t1 : y318.toInt ≤ t0_3.toInt := b334; omega)), (show t4_0.toInt ≤ t4_0.toInt + 64 from (by omega)), (show t4_0.toInt ≤ t4_0.toInt from (by omega)), (show (y315, y316, y317, y318, f319, f321, f323, t4_0, t6_0, t7_0, t8_0, t9_0, t10_0, t11_0, t12_0, t13_0, t14_0, t15_0, t16_0, t17_0, t18_0, t19_0, t20_0, t21_0, t22_0, t23_0) = (F_NH_addArgument x2 x3 t0_0 t0_1 t0_2 t0_3 t1_0 t2_0 t3_0 t4_0 t5_0 t6_0 t7_0 t8_0 t9_0 t10_0 t11_0 t12_0 t13_0 t14_0 t15_0 t16_0 t17_0 t18_0 t19_0 t20_0 t21_0 t22_0 t23_0 t24_0 t24_1 t25_0 t26_0 t26_1 t27_0 t27_1 t28_0) from Eq.trans (by rw [e345, e344, e343, e342, e341, e340, e339, F_NH_addArgument_c100_4.eq_1]) hR346)⟩) d_1_22_140
      ·
        have b351 : q_F (x2.toInt = 4) := (q_eqI c92)
        refine lv_aload_n hx hb d_1_22_67 rfl (lv_at hl 0 rfl) ?_
        have hO352 := n_o0 hI
        refine q_get (ci := 0) (j := 13) (v := .ref (q 40)) C0 V i_NH rfl rfl hO352 (by decide) w_437 rfl d_1_22_68 ?_
        refine lv_iconst (v := 0) hx hb d_1_22_71 (by decide) ?_
        refine lv_lconst (v := 0) hx hb d_1_22_72 (by decide) ?_
        refine lv_iconst (v := 0) hx hb d_1_22_73 (by decide) ?_
        refine q_gov V (q_runV (As := [.int 0, .long 0, .int 0]) (rest := []) (d := 1) (mc := 0) (ms := 0) (ci := 11) C0 V rfl LV_NH_374 (X_Pri_addNumber l D g q ws  0 0 0 hI t0_0 t0_1 t0_2 t0_3 hT0 t1_0 hT1 t2_0 hT2 t3_0 hT3 (by have y0 : (0 : Int32).toInt = 0 := rfl; have y1 : (0 : Int64).toInt = 0 := rfl; have y2 : (0 : Int32).toInt = 0 := rfl; omega) (by have y0 : (0 : Int32).toInt = 0 := rfl; have y1 : (0 : Int64).toInt = 0 := rfl; have y2 : (0 : Int32).toInt = 0 := rfl; omega) _) rfl rfl hT0 rfl hl.1 rfl (Nat.le_of_ble_eq_true rfl) ⟨by decide, by decide⟩ ⟨Nat.le_of_ble_eq_true rfl, Nat.le_of_ble_eq_true rfl⟩ d_1_22_74) (fun u353 H locs hp354 V => ?_)
        obtain ⟨hI, hu377, y356, y357, y358, y359, f360, f362, f364, hO355, hA361, hA363, hA365, b366, b367, b368, b369, b370, b371, b372, b373, b374, b375, hE376⟩ := hp354
        replace hO355 : u353[40]? = (some (q 40, .inr (11, [.int y356, .ref (q 41), .ref (q 42), .ref (q 43), .ref (q 44), .ref (q 1), .ref (q 47), .ref (q 36), .ref (q 45), .int y357, .int y358, .int y359])) : Option (Nat × va_E)) := hO355
        replace hA361 : u353[41]? = (some (q 41, .inl (g 0, 9, .inl f360)) : Option (Nat × va_E)) := hA361
        replace hA363 : u353[42]? = (some (q 42, .inl (g 1, 9, .inr (.inl f362))) : Option (Nat × va_E)) := hA363
        replace hA365 : u353[43]? = (some (q 43, .inl (g 0, 9, .inl f364)) : Option (Nat × va_E)) := hA365
        obtain ⟨p378, e379⟩ : ∃ z, z = (F_Pri_addNumber (0 : Int32) (0 : Int64) (0 : Int32) t0_0 t0_1 t0_2 t0_3 t1_0 t2_0 t3_0) := ⟨_, rfl⟩
        have e380 : y356 = p378.1 := congrArg (fun z => z.1) (hE376.trans e379.symm)
        have e381 : y357 = p378.2.1 := congrArg (fun z => z.2.1) (hE376.trans e379.symm)
        have e382 : y358 = p378.2.2.1 := congrArg (fun z => z.2.2.1) (hE376.trans e379.symm)
        have e383 : y359 = p378.2.2.2.1 := congrArg (fun z => z.2.2.2.1) (hE376.trans e379.symm)
        have e384 : f360 = p378.2.2.2.2.1 := congrArg (fun z => z.2.2.2.2.1) (hE376.trans e379.symm)
        have e385 : f362 = p378.2.2.2.2.2.1 := congrArg (fun z => z.2.2.2.2.2.1) (hE376.trans e379.symm)
        have e386 : f364 = p378.2.2.2.2.2.2 := congrArg (fun z => z.2.2.2.2.2.2) (hE376.trans e379.symm)
        replace b366 : q_F (1 ≤ y356.toInt) := b366
        replace b367 : q_F (y356.toInt ≤ 9) := b367
        replace b368 : q_F (t0_0.toInt ≤ y356.toInt) := b368
        replace b369 : q_F (y356.toInt ≤ t0_0.toInt + 1) := b369
        replace b370 : q_F (t0_1.toInt ≤ y357.toInt) := b370
        replace b371 : q_F (y357.toInt ≤ t0_1.toInt) := b371
        replace b372 : q_F (t0_2.toInt ≤ y358.toInt) := b372
        replace b373 : q_F (y358.toInt ≤ t0_2.toInt) := b373
        replace b374 : q_F (t0_3.toInt ≤ y359.toInt) := b374
        replace b375 : q_F (y359.toInt ≤ t0_3.toInt) := b375
        replace hT4 := (hu377 _ (by decide)).trans hT4
        replace hT5 := (hu377 _ (by decide)).trans hT5
        replace hT6 := (hu377 _ (by decide)).trans hT6
        replace hT7 := (hu377 _ (by decide)).trans hT7
        replace hT8 := (hu377 _ (by decide)).trans hT8
        replace hT9 := (hu377 _ (by decide)).trans hT9
        replace hT10 := (hu377 _ (by decide)).trans hT10
        replace hT11 := (hu377 _ (by decide)).trans hT11
        replace hT12 := (hu377 _ (by decide)).trans hT12
        replace hT13 := (hu377 _ (by decide)).trans hT13
        replace hT14 := (hu377 _ (by decide)).trans hT14
        replace hT15 := (hu377 _ (by decide)).trans hT15
        replace hT16 := (hu377 _ (by decide)).trans hT16
        replace hT17 := (hu377 _ (by decide)).trans hT17
        replace hT18 := (hu377 _ (by decide)).trans hT18
        replace hT19 := (hu377 _ (by decide)).trans hT19
        replace hT20 := (hu377 _ (by decide)).trans hT20
        replace hT21 := (hu377 _ (by decide)).trans hT21
        replace hT22 := (hu377 _ (by decide)).trans hT22
        replace hT23 := (hu377 _ (by decide)).trans hT23
        replace hT24 := (hu377 _ (by have z0 := yk3; simp only [List.mem_cons, List.not_mem_nil, or_false, not_or]; omega)).trans hT24
        replace hT25 := (hu377 _ (by have z0 := yk3; simp only [List.mem_cons, List.not_mem_nil, or_false, not_or]; omega)).trans hT25
        replace hT26 := (hu377 _ (by have z0 := yd3; simp only [List.mem_cons, List.not_mem_nil, or_false, not_or]; omega)).trans hT26
        replace hT27 := (hu377 _ (by have z0 := yd3; simp only [List.mem_cons, List.not_mem_nil, or_false, not_or]; omega)).trans hT27
        replace hT28 := (hu377 _ (by have z0 := yd3; simp only [List.mem_cons, List.not_mem_nil, or_false, not_or]; omega)).trans hT28
        replace hO352 := (hu377 _ (by decide)).trans hO352
        replace hF := q_uc hF hu377 (by simp)
        have hR387 := (show F_NH_addArgument_c74 x2 x3 t0_0 t0_1 t0_2 t0_3 t1_0 t2_0 t3_0 t4_0 t5_0 t6_0 t7_0 t8_0 t9_0 t10_0 t11_0 t12_0 t13_0 t14_0 t15_0 t16_0 t17_0 t18_0 t19_0 t20_0 t21_0 t22_0 t23_0 t24_0 t24_1 t25_0 t26_0 t26_1 t27_0 t27_1 t28_0 p378 = (F_NH_addArgument x2 x3 t0_0 t0_1 t0_2 t0_3 t1_0 t2_0 t3_0 t4_0 t5_0 t6_0 t7_0 t8_0 t9_0 t10_0 t11_0 t12_0 t13_0 t14_0 t15_0 t16_0 t17_0 t18_0 t19_0 t20_0 t21_0 t22_0 t23_0 t24_0 t24_1 t25_0 t26_0 t26_1 t27_0 t27_1 t28_0) from (by rw [e379, F_NH_addArgument.eq_1, if_neg c88, if_neg c90, if_pos c92]))
        have hS388 := (show True ∧ S_NH_addArgument_c74 x2 x3 t0_0 t0_1 t0_2 t0_3 t1_0 t2_0 t3_0 t4_0 t5_0 t6_0 t7_0 t8_0 t9_0 t10_0 t11_0 t12_0 t13_0 t14_0 t15_0 t16_0 t17_0 t18_0 t19_0 t20_0 t21_0 t22_0 t23_0 t24_0 t24_1 t25_0 t26_0 t26_1 t27_0 t27_1 t28_0 p378 from (by rw [e379]; have h := hS; rw [S_NH_addArgument.eq_1] at h; rw [if_neg c88] at h; rw [if_neg c90] at h; rw [if_pos c92] at h; with_reducible exact h))
        refine lv_goto (tgt := 140) hx hb d_1_22_77 (by decide) ?_
        exact q_retv C0 V (⟨hI, hF, y356, y357, y358, y359, f360, f362, f364, t4_0, t6_0, t7_0, t8_0, t9_0, t10_0, t11_0, t12_0, t13_0, t14_0, t15_0, t16_0, t17_0, t18_0, t19_0, t20_0, t21_0, t22_0, t23_0, hO355, hA361, hA363, hA365, hT4, hT6, hT7, hT8, hT9, hT10, hT11, hT12, hT13, hT14, hT15, hT16, hT17, hT18, hT19, hT20, hT21, hT22, hT23, (show 1 ≤ y356.toInt from (by have t1 : 1 ≤ y356.toInt := b366; omega)), (show y356.toInt ≤ 9 from (by have t1 : y356.toInt ≤ 9 := b367; omega)), (show 0 ≤ y357.toInt + 1 from (by have t1 : -1 ≤ t0_1.toInt ∧ t0_1.toInt ≤ 1000000 := btt0_1; have t2 : t0_1.toInt ≤ y357.toInt := b370; omega)), (show y357.toInt ≤ 1000000 from (by have t1 : -1 ≤ t0_1.toInt ∧ t0_1.toInt ≤ 1000000 := btt0_1; have t2 : y357.toInt ≤ t0_1.toInt := b371; omega)), (show 0 ≤ y359.toInt + 1 from (by have t1 : -1 ≤ t0_3.toInt ∧ t0_3.toInt ≤ 8 := btt0_3; have t2 : t0_3.toInt ≤ y359.toInt := b374; omega)), (show y359.toInt ≤ 8 from (by have t1 : -1 ≤ t0_3.toInt ∧ t0_3.toInt ≤ 8 := btt0_3; have t2 : y359.toInt ≤ t0_3.toInt := b375; omega)), (show 0 ≤ t4_0.toInt from (by have t1 : 0 ≤ t4_0.toInt ∧ t4_0.toInt ≤ 4100 := btt4_0; omega)), (show t4_0.toInt ≤ 4100 from (by have t1 : 0 ≤ t4_0.toInt ∧ t4_0.toInt ≤ 4100 := btt4_0; omega)), (show 0 ≤ t6_0.toInt from (by have t1 : 0 ≤ t6_0.toInt ∧ t6_0.toInt ≤ 64 := btt6_0; omega)), (show t6_0.toInt ≤ 64 from (by have t1 : 0 ≤ t6_0.toInt ∧ t6_0.toInt ≤ 64 := btt6_0; omega)), (show 0 ≤ t8_0.toInt from (by have t1 : 0 ≤ t8_0.toInt ∧ t8_0.toInt ≤ 64 := btt8_0; omega)), (show t8_0.toInt ≤ 64 from (by have t1 : 0 ≤ t8_0.toInt ∧ t8_0.toInt ≤ 64 := btt8_0; omega)), (show 0 ≤ t10_0.toInt from (by have t1 : 0 ≤ t10_0.toInt ∧ t10_0.toInt ≤ 64 := btt10_0; omega)), (show t10_0.toInt ≤ 64 from (by have t1 : 0 ≤ t10_0.toInt ∧ t10_0.toInt ≤ 64 := btt10_0; omega)), (show 0 ≤ t12_0.toInt from (by have t1 : 0 ≤ t12_0.toInt ∧ t12_0.toInt ≤ 64 := btt12_0; omega)), (show t12_0.toInt ≤ 64 from (by have t1 : 0 ≤ t12_0.toInt ∧ t12_0.toInt ≤ 64 := btt12_0; omega)), (show 0 ≤ t14_0.toInt from (by have t1 : 0 ≤ t14_0.toInt ∧ t14_0.toInt ≤ 64 := btt14_0; omega)), (show t14_0.toInt ≤ 64 from (by have t1 : 0 ≤ t14_0.toInt ∧ t14_0.toInt ≤ 64 := btt14_0; omega)), (show 0 ≤ t16_0.toInt from (by have t1 : 0 ≤ t16_0.toInt ∧ t16_0.toInt ≤ 64 := btt16_0; omega)), (show t16_0.toInt ≤ 64 from (by have t1 : 0 ≤ t16_0.toInt ∧ t16_0.toInt ≤ 64 := btt16_0; omega)), (show 0 ≤ t18_0.toInt from (by have t1 : 0 ≤ t18_0.toInt ∧ t18_0.toInt ≤ 64 := btt18_0; omega)), (show t18_0.toInt ≤ 64 from (by have t1 : 0 ≤ t18_0.toInt ∧ t18_0.toInt ≤ 64 := btt18_0; omega)), (show 0 ≤ t20_0.toInt from (by have t1 : 0 ≤ t20_0.toInt ∧ t20_0.toInt ≤ 64 := btt20_0; omega)), (show t20_0.toInt ≤ 64 from (by have t1 : 0 ≤ t20_0.toInt ∧ t20_0.toInt ≤ 64 := btt20_0; omega)), (show 0 ≤ t22_0.toInt from (by have t1 : 0 ≤ t22_0.toInt ∧ t22_0.toInt ≤ 64 := btt22_0; omega)), (show t22_0.toInt ≤ 64 from (by have t1 : 0 ≤ t22_0.toInt ∧ t22_0.toInt ≤ 64 := btt22_0; omega)), (show t0_0.toInt ≤ y356.toInt from (by have t1 : t0_0.toInt ≤ y356.toInt := b368; omega)), (show y356.toInt ≤ t0_0.toInt + 1 from (by have t1 : y356.toInt ≤ t0_0.toInt + 1 := b369; omega)), (show t0_1.toInt ≤ y357.toInt from (by have t1 : t0_1.toInt ≤ y357.toInt := b370; omega)), (show y357.toInt ≤ t0_1.toInt from (by have t1 : y357.toInt ≤ t0_1.toInt := b371; omega)), (show t0_2.toInt ≤ y358.toInt from (by have t1 : t0_2.toInt ≤ y358.toInt := b372; omega)), (show y358.toInt ≤ t0_2.toInt from (by have t1 : y358.toInt ≤ t0_2.toInt := b373; omega)), (show t0_3.toInt ≤ y359.toInt from (by have t1 : t0_3.toInt ≤ y359.toInt := b374; omega)), (show y359.toInt ≤ t0_3.toInt from (by have t1 : y359.toInt ≤ t0_3.toInt := b375; omega)), (show t4_0.toInt ≤ t4_0.toInt + 64 from (by omega)), (show t4_0.toInt ≤ t4_0.toInt from (by omega)), (show (y356, y357, y358, y359, f360, f362, f364, t4_0, t6_0, t7_0, t8_0, t9_0, t10_0, t11_0, t12_0, t13_0, t14_0, t15_0, t16_0, t17_0, t18_0, t19_0, t20_0, t21_0, t22_0, t23_0) = (F_NH_addArgument x2 x3 t0_0 t0_1 t0_2 t0_3 t1_0 t2_0 t3_0 t4_0 t5_0 t6_0 t7_0 t8_0 t9_0 t10_0 t11_0 t12_0 t13_0 t14_0 t15_0 t16_0 t17_0 t18_0 t19_0 t20_0 t21_0 t22_0 t23_0 t24_0 t24_1 t25_0 t26_0 t26_1 t27_0 t27_1 t28_0) from Eq.trans (by rw [e386, e385, e384, e383, e382, e381, e380, F_NH_addArgument_c74.eq_1]) hR387)⟩) d_1_22_140
    ·
      have b392 : q_F (x2.toInt = 1) := (q_eqI c90)
      refine lv_aload_n hx hb d_1_22_30 rfl (lv_at hl 0 rfl) ?_
      have hO393 := n_o0 hI
      refine q_get (ci := 0) (j := 13) (v := .ref (q 40)) C0 V i_NH rfl rfl hO393 (by decide) w_437 rfl d_1_22_31 ?_
      refine lv_iconst (v := 5) hx hb d_1_22_34 (by decide) ?_
      refine lv_aload_n hx hb d_1_22_35 rfl (lv_at hl 0 rfl) ?_
      refine q_get (ci := 0) (j := 3) (v := .ref (q 6)) C0 V i_NH rfl rfl hO393 (by decide) w_427 rfl d_1_22_36 ?_
      refine lv_iload_n hx hb d_1_22_39 rfl (lv_at hl 2 rfl) ?_
      have hX394 := n_fx hI (n_s6 g q)
      have ob395 : q_F (0 ≤ x3.toInt) := (by have h := hS; rw [S_NH_addArgument.eq_1] at h; rw [if_neg c88] at h; rw [if_pos c90] at h; exact h.2.1)
      have ob396 : q_F (x3.toInt ≤ 9) := (by have h := hS; rw [S_NH_addArgument.eq_1] at h; rw [if_neg c88] at h; rw [if_pos c90] at h; replace h := q_s2 h; exact h.2.1)
      have hj397 : x3.toNatClampNeg < 10 := by have z := q_clI (i := x3) (x := x3.toInt) rfl (by have t1 : 0 ≤ x3.toInt := ob395; omega); have t1 : 0 ≤ x3.toInt := ob395; have t2 : x3.toInt ≤ 9 := ob396; omega
      have hq398 := gd3x3 hj397
      refine q_aald (t := 5) (q := q d3) C0 V hX394 rfl (q_ix (x := x3.toInt) rfl (by have t1 : 0 ≤ x3.toInt := ob395; omega) (by have t1 : 0 ≤ x3.toInt := ob395; have t2 : x3.toInt ≤ 9 := ob396; omega)) (by rw [hq398]; exact n_fdv hj397) d_1_22_40 ?_
      refine q_get (ci := 3) (j := 0) (v := .ref (q (d3 + 1))) C0 V i_Dec rfl rfl hT26 (by decide) w_174 rfl d_1_22_41 ?_
      refine q_gol V (q_runV (As := []) (rest := [.int 5, .ref (q 40)]) (d := 2) (mc := 0) (ms := 0) (ci := 2) C0 V rfl LV_NH_370 (X_Big_toLong l D g q ws (d3 + 1) 108 hBd3.2 (Or.inr (by have z := yd3; omega))  hI t27_0 t27_1 hT27 t28_0 hT28  _) rfl rfl hT27 rfl hl.1 rfl (Nat.le_of_ble_eq_true rfl) ⟨by decide, by decide⟩ ⟨Nat.le_of_ble_eq_true rfl, Nat.le_of_ble_eq_true rfl⟩ d_1_22_44) (fun j401 u399 H locs hp400 V => ?_)
      obtain ⟨rfl, hE402⟩ := hp400
      have e403 : j401 = (F_Big_toLong (108 : Int32) t27_0 t27_1 t28_0) := hE402
      refine lv_aload_n hx hb d_1_22_47 rfl (lv_at hl 0 rfl) ?_
      refine q_get (ci := 0) (j := 3) (v := .ref (q 6)) C0 V i_NH rfl rfl hO393 (by decide) w_427 rfl d_1_22_48 ?_
      refine lv_iload_n hx hb d_1_22_51 rfl (lv_at hl 2 rfl) ?_
      have hX404 := n_fx hI (n_s6 g q)
      have hj405 : x3.toNatClampNeg < 10 := by have z := q_clI (i := x3) (x := x3.toInt) rfl (by have t1 : 0 ≤ x3.toInt := ob395; omega); have t1 : 0 ≤ x3.toInt := ob395; have t2 : x3.toInt ≤ 9 := ob396; omega
      have hq406 := gd3x3 hj405
      refine q_aald (t := 5) (q := q d3) C0 V hX404 rfl (q_ix (x := x3.toInt) rfl (by have t1 : 0 ≤ x3.toInt := ob395; omega) (by have t1 : 0 ≤ x3.toInt := ob395; have t2 : x3.toInt ≤ 9 := ob396; omega)) (by rw [hq406]; exact n_fdv hj405) d_1_22_52 ?_
      refine q_get (ci := 3) (j := 1) (v := .int t26_0) C0 V i_Dec rfl rfl hT26 (by decide) w_178 rfl d_1_22_53 ?_
      refine q_gov V (q_runV (As := [.int 5, .long j401, .int t26_0]) (rest := []) (d := 1) (mc := 0) (ms := 0) (ci := 11) C0 V rfl LV_NH_374 (X_Pri_addNumber l D g q ws  5 j401 t26_0 hI t0_0 t0_1 t0_2 t0_3 hT0 t1_0 hT1 t2_0 hT2 t3_0 hT3 (by have y0 : (5 : Int32).toInt = 5 := rfl; have t1 : -10000 ≤ t26_0.toInt ∧ t26_0.toInt ≤ 10000 := btt26_0; omega) (by have y0 : (5 : Int32).toInt = 5 := rfl; have t1 : -10000 ≤ t26_0.toInt ∧ t26_0.toInt ≤ 10000 := btt26_0; omega) _) rfl rfl hT0 rfl hl.1 rfl (Nat.le_of_ble_eq_true rfl) ⟨by decide, by decide⟩ ⟨Nat.le_of_ble_eq_true rfl, Nat.le_of_ble_eq_true rfl⟩ d_1_22_56) (fun u407 H locs hp408 V => ?_)
      obtain ⟨hI, hu431, y410, y411, y412, y413, f414, f416, f418, hO409, hA415, hA417, hA419, b420, b421, b422, b423, b424, b425, b426, b427, b428, b429, hE430⟩ := hp408
      replace hO409 : u407[40]? = (some (q 40, .inr (11, [.int y410, .ref (q 41), .ref (q 42), .ref (q 43), .ref (q 44), .ref (q 1), .ref (q 47), .ref (q 36), .ref (q 45), .int y411, .int y412, .int y413])) : Option (Nat × va_E)) := hO409
      replace hA415 : u407[41]? = (some (q 41, .inl (g 0, 9, .inl f414)) : Option (Nat × va_E)) := hA415
      replace hA417 : u407[42]? = (some (q 42, .inl (g 1, 9, .inr (.inl f416))) : Option (Nat × va_E)) := hA417
      replace hA419 : u407[43]? = (some (q 43, .inl (g 0, 9, .inl f418)) : Option (Nat × va_E)) := hA419
      obtain ⟨p432, e433⟩ : ∃ z, z = (F_Pri_addNumber (5 : Int32) j401 t26_0 t0_0 t0_1 t0_2 t0_3 t1_0 t2_0 t3_0) := ⟨_, rfl⟩
      have e434 : y410 = p432.1 := congrArg (fun z => z.1) (hE430.trans e433.symm)
      have e435 : y411 = p432.2.1 := congrArg (fun z => z.2.1) (hE430.trans e433.symm)
      have e436 : y412 = p432.2.2.1 := congrArg (fun z => z.2.2.1) (hE430.trans e433.symm)
      have e437 : y413 = p432.2.2.2.1 := congrArg (fun z => z.2.2.2.1) (hE430.trans e433.symm)
      have e438 : f414 = p432.2.2.2.2.1 := congrArg (fun z => z.2.2.2.2.1) (hE430.trans e433.symm)
      have e439 : f416 = p432.2.2.2.2.2.1 := congrArg (fun z => z.2.2.2.2.2.1) (hE430.trans e433.symm)
      have e440 : f418 = p432.2.2.2.2.2.2 := congrArg (fun z => z.2.2.2.2.2.2) (hE430.trans e433.symm)
      replace b420 : q_F (1 ≤ y410.toInt) := b420
      replace b421 : q_F (y410.toInt ≤ 9) := b421
      replace b422 : q_F (t0_0.toInt ≤ y410.toInt) := b422
      replace b423 : q_F (y410.toInt ≤ t0_0.toInt + 1) := b423
      replace b424 : q_F (t0_1.toInt ≤ y411.toInt) := b424
      replace b425 : q_F (y411.toInt ≤ t0_1.toInt) := b425
      replace b426 : q_F (t0_2.toInt ≤ y412.toInt) := b426
      replace b427 : q_F (y412.toInt ≤ t0_2.toInt) := b427
      replace b428 : q_F (t0_3.toInt ≤ y413.toInt) := b428
      replace b429 : q_F (y413.toInt ≤ t0_3.toInt) := b429
      replace hT4 := (hu431 _ (by decide)).trans hT4
      replace hT5 := (hu431 _ (by decide)).trans hT5
      replace hT6 := (hu431 _ (by decide)).trans hT6
      replace hT7 := (hu431 _ (by decide)).trans hT7
      replace hT8 := (hu431 _ (by decide)).trans hT8
      replace hT9 := (hu431 _ (by decide)).trans hT9
      replace hT10 := (hu431 _ (by decide)).trans hT10
      replace hT11 := (hu431 _ (by decide)).trans hT11
      replace hT12 := (hu431 _ (by decide)).trans hT12
      replace hT13 := (hu431 _ (by decide)).trans hT13
      replace hT14 := (hu431 _ (by decide)).trans hT14
      replace hT15 := (hu431 _ (by decide)).trans hT15
      replace hT16 := (hu431 _ (by decide)).trans hT16
      replace hT17 := (hu431 _ (by decide)).trans hT17
      replace hT18 := (hu431 _ (by decide)).trans hT18
      replace hT19 := (hu431 _ (by decide)).trans hT19
      replace hT20 := (hu431 _ (by decide)).trans hT20
      replace hT21 := (hu431 _ (by decide)).trans hT21
      replace hT22 := (hu431 _ (by decide)).trans hT22
      replace hT23 := (hu431 _ (by decide)).trans hT23
      replace hT24 := (hu431 _ (by have z0 := yk3; simp only [List.mem_cons, List.not_mem_nil, or_false, not_or]; omega)).trans hT24
      replace hT25 := (hu431 _ (by have z0 := yk3; simp only [List.mem_cons, List.not_mem_nil, or_false, not_or]; omega)).trans hT25
      replace hT26 := (hu431 _ (by have z0 := yd3; simp only [List.mem_cons, List.not_mem_nil, or_false, not_or]; omega)).trans hT26
      replace hT27 := (hu431 _ (by have z0 := yd3; simp only [List.mem_cons, List.not_mem_nil, or_false, not_or]; omega)).trans hT27
      replace hT28 := (hu431 _ (by have z0 := yd3; simp only [List.mem_cons, List.not_mem_nil, or_false, not_or]; omega)).trans hT28
      replace hO393 := (hu431 _ (by decide)).trans hO393
      replace hF := q_uc hF hu431 (by simp)
      have hR441 := (show F_NH_addArgument_c56 x2 x3 t0_0 t0_1 t0_2 t0_3 t1_0 t2_0 t3_0 t4_0 t5_0 t6_0 t7_0 t8_0 t9_0 t10_0 t11_0 t12_0 t13_0 t14_0 t15_0 t16_0 t17_0 t18_0 t19_0 t20_0 t21_0 t22_0 t23_0 t24_0 t24_1 t25_0 t26_0 t26_1 t27_0 t27_1 t28_0 p432 = (F_NH_addArgument x2 x3 t0_0 t0_1 t0_2 t0_3 t1_0 t2_0 t3_0 t4_0 t5_0 t6_0 t7_0 t8_0 t9_0 t10_0 t11_0 t12_0 t13_0 t14_0 t15_0 t16_0 t17_0 t18_0 t19_0 t20_0 t21_0 t22_0 t23_0 t24_0 t24_1 t25_0 t26_0 t26_1 t27_0 t27_1 t28_0) from (by rw [e433, e403, F_NH_addArgument.eq_1, if_neg c88, if_pos c90]))
      have hS442 := (show True ∧ S_NH_addArgument_c56 x2 x3 t0_0 t0_1 t0_2 t0_3 t1_0 t2_0 t3_0 t4_0 t5_0 t6_0 t7_0 t8_0 t9_0 t10_0 t11_0 t12_0 t13_0 t14_0 t15_0 t16_0 t17_0 t18_0 t19_0 t20_0 t21_0 t22_0 t23_0 t24_0 t24_1 t25_0 t26_0 t26_1 t27_0 t27_1 t28_0 p432 from (by rw [e433, e403]; have h := hS; rw [S_NH_addArgument.eq_1] at h; rw [if_neg c88] at h; rw [if_pos c90] at h; replace h := q_s2 h; replace h := q_s2 h; with_reducible exact h))
      refine lv_goto (tgt := 140) hx hb d_1_22_59 (by decide) ?_
      exact q_retv C0 V (⟨hI, hF, y410, y411, y412, y413, f414, f416, f418, t4_0, t6_0, t7_0, t8_0, t9_0, t10_0, t11_0, t12_0, t13_0, t14_0, t15_0, t16_0, t17_0, t18_0, t19_0, t20_0, t21_0, t22_0, t23_0, hO409, hA415, hA417, hA419, hT4, hT6, hT7, hT8, hT9, hT10, hT11, hT12, hT13, hT14, hT15, hT16, hT17, hT18, hT19, hT20, hT21, hT22, hT23, (show 1 ≤ y410.toInt from (by have t1 : 1 ≤ y410.toInt := b420; omega)), (show y410.toInt ≤ 9 from (by have t1 : y410.toInt ≤ 9 := b421; omega)), (show 0 ≤ y411.toInt + 1 from (by have t1 : -1 ≤ t0_1.toInt ∧ t0_1.toInt ≤ 1000000 := btt0_1; have t2 : t0_1.toInt ≤ y411.toInt := b424; omega)), (show y411.toInt ≤ 1000000 from (by have t1 : -1 ≤ t0_1.toInt ∧ t0_1.toInt ≤ 1000000 := btt0_1; have t2 : y411.toInt ≤ t0_1.toInt := b425; omega)), (show 0 ≤ y413.toInt + 1 from (by have t1 : -1 ≤ t0_3.toInt ∧ t0_3.toInt ≤ 8 := btt0_3; have t2 : t0_3.toInt ≤ y413.toInt := b428; omega)), (show y413.toInt ≤ 8 from (by have t1 : -1 ≤ t0_3.toInt ∧ t0_3.toInt ≤ 8 := btt0_3; have t2 : y413.toInt ≤ t0_3.toInt := b429; omega)), (show 0 ≤ t4_0.toInt from (by have t1 : 0 ≤ t4_0.toInt ∧ t4_0.toInt ≤ 4100 := btt4_0; omega)), (show t4_0.toInt ≤ 4100 from (by have t1 : 0 ≤ t4_0.toInt ∧ t4_0.toInt ≤ 4100 := btt4_0; omega)), (show 0 ≤ t6_0.toInt from (by have t1 : 0 ≤ t6_0.toInt ∧ t6_0.toInt ≤ 64 := btt6_0; omega)), (show t6_0.toInt ≤ 64 from (by have t1 : 0 ≤ t6_0.toInt ∧ t6_0.toInt ≤ 64 := btt6_0; omega)), (show 0 ≤ t8_0.toInt from (by have t1 : 0 ≤ t8_0.toInt ∧ t8_0.toInt ≤ 64 := btt8_0; omega)), (show t8_0.toInt ≤ 64 from (by have t1 : 0 ≤ t8_0.toInt ∧ t8_0.toInt ≤ 64 := btt8_0; omega)), (show 0 ≤ t10_0.toInt from (by have t1 : 0 ≤ t10_0.toInt ∧ t10_0.toInt ≤ 64 := btt10_0; omega)), (show t10_0.toInt ≤ 64 from (by have t1 : 0 ≤ t10_0.toInt ∧ t10_0.toInt ≤ 64 := btt10_0; omega)), (show 0 ≤ t12_0.toInt from (by have t1 : 0 ≤ t12_0.toInt ∧ t12_0.toInt ≤ 64 := btt12_0; omega)), (show t12_0.toInt ≤ 64 from (by have t1 : 0 ≤ t12_0.toInt ∧ t12_0.toInt ≤ 64 := btt12_0; omega)), (show 0 ≤ t14_0.toInt from (by have t1 : 0 ≤ t14_0.toInt ∧ t14_0.toInt ≤ 64 := btt14_0; omega)), (show t14_0.toInt ≤ 64 from (by have t1 : 0 ≤ t14_0.toInt ∧ t14_0.toInt ≤ 64 := btt14_0; omega)), (show 0 ≤ t16_0.toInt from (by have t1 : 0 ≤ t16_0.toInt ∧ t16_0.toInt ≤ 64 := btt16_0; omega)), (show t16_0.toInt ≤ 64 from (by have t1 : 0 ≤ t16_0.toInt ∧ t16_0.toInt ≤ 64 := btt16_0; omega)), (show 0 ≤ t18_0.toInt from (by have t1 : 0 ≤ t18_0.toInt ∧ t18_0.toInt ≤ 64 := btt18_0; omega)), (show t18_0.toInt ≤ 64 from (by have t1 : 0 ≤ t18_0.toInt ∧ t18_0.toInt ≤ 64 := btt18_0; omega)), (show 0 ≤ t20_0.toInt from (by have t1 : 0 ≤ t20_0.toInt ∧ t20_0.toInt ≤ 64 := btt20_0; omega)), (show t20_0.toInt ≤ 64 from (by have t1 : 0 ≤ t20_0.toInt ∧ t20_0.toInt ≤ 64 := btt20_0; omega)), (show 0 ≤ t22_0.toInt from (by have t1 : 0 ≤ t22_0.toInt ∧ t22_0.toInt ≤ 64 := btt22_0; omega)), (show t22_0.toInt ≤ 64 from (by have t1 : 0 ≤ t22_0.toInt ∧ t22_0.toInt ≤ 64 := btt22_0; omega)), (show t0_0.toInt ≤ y410.toInt from (by have t1 : t0_0.toInt ≤ y410.toInt := b422; omega)), (show y410.toInt ≤ t0_0.toInt + 1 from (by have t1 : y410.toInt ≤ t0_0.toInt + 1 := b423; omega)), (show t0_1.toInt ≤ y411.toInt from (by have t1 : t0_1.toInt ≤ y411.toInt := b424; omega)), (show y411.toInt ≤ t0_1.toInt from (by have t1 : y411.toInt ≤ t0_1.toInt := b425; omega)), (show t0_2.toInt ≤ y412.toInt from (by have t1 : t0_2.toInt ≤ y412.toInt := b426; omega)), (show y412.toInt ≤ t0_2.toInt from (by have t1 : y412.toInt ≤ t0_2.toInt := b427; omega)), (show t0_3.toInt ≤ y413.toInt from (by have t1 : t0_3.toInt ≤ y413.toInt := b428; omega)), (show y413.toInt ≤ t0_3.toInt from (by have t1 : y413.toInt ≤ t0_3.toInt := b429; omega)), (show t4_0.toInt ≤ t4_0.toInt + 64 from (by omega)), (show t4_0.toInt ≤ t4_0.toInt from (by omega)), (show (y410, y411, y412, y413, f414, f416, f418, t4_0, t6_0, t7_0, t8_0, t9_0, t10_0, t11_0, t12_0, t13_0, t14_0, t15_0, t16_0, t17_0, t18_0, t19_0, t20_0, t21_0, t22_0, t23_0) = (F_NH_addArgument x2 x3 t0_0 t0_1 t0_2 t0_3 t1_0 t2_0 t3_0 t4_0 t5_0 t6_0 t7_0 t8_0 t9_0 t10_0 t11_0 t12_0 t13_0 t14_0 t15_0 t16_0 t17_0 t18_0 t19_0 t20_0 t21_0 t22_0 t23_0 t24_0 t24_1 t25_0 t26_0 t26_1 t27_0 t27_1 t28_0) from Eq.trans (by rw [e440, e439, e438, e437, e436, e435, e434, F_NH_addArgument_c56.eq_1]) hR441)⟩) d_1_22_140
  ·
    have b446 : q_F (x2.toInt = 0) := (q_eqI c88)
    refine lv_aload_n hx hb d_1_22_4 rfl (lv_at hl 0 rfl) ?_
    have hO447 := n_o0 hI
    refine q_get (ci := 0) (j := 13) (v := .ref (q 40)) C0 V i_NH rfl rfl hO447 (by decide) w_437 rfl d_1_22_5 ?_
    refine lv_iconst (v := 3) hx hb d_1_22_8 (by decide) ?_
    refine lv_aload_n hx hb d_1_22_9 rfl (lv_at hl 0 rfl) ?_
    refine q_get (ci := 0) (j := 2) (v := .ref (q 5)) C0 V i_NH rfl rfl hO447 (by decide) w_426 rfl d_1_22_10 ?_
    refine lv_iload_n hx hb d_1_22_13 rfl (lv_at hl 2 rfl) ?_
    have hX448 := n_fx hI (n_s5 g q)
    have ob449 : q_F (0 ≤ x3.toInt) := (by have h := hS; rw [S_NH_addArgument.eq_1] at h; rw [if_pos c88] at h; exact h.2.1)
    have ob450 : q_F (x3.toInt ≤ 9) := (by have h := hS; rw [S_NH_addArgument.eq_1] at h; rw [if_pos c88] at h; replace h := q_s2 h; exact h.2.1)
    have hj451 : x3.toNatClampNeg < 10 := by have z := q_clI (i := x3) (x := x3.toInt) rfl (by have t1 : 0 ≤ x3.toInt := ob449; omega); have t1 : 0 ≤ x3.toInt := ob449; have t2 : x3.toInt ≤ 9 := ob450; omega
    have hq452 := gk3x3 hj451
    refine q_aald (t := 4) (q := q k3) C0 V hX448 rfl (q_ix (x := x3.toInt) rfl (by have t1 : 0 ≤ x3.toInt := ob449; omega) (by have t1 : 0 ≤ x3.toInt := ob449; have t2 : x3.toInt ≤ 9 := ob450; omega)) (by rw [hq452]; exact n_fwv hj451) d_1_22_14 ?_
    refine q_gol V (q_runV (As := []) (rest := [.int 3, .ref (q 40)]) (d := 2) (mc := 0) (ms := 0) (ci := 2) C0 V rfl LV_NH_370 (X_Big_toLong l D g q ws k3 68 hBk3 (Or.inr yk3)  hI t24_0 t24_1 hT24 t25_0 hT25  _) rfl rfl hT24 rfl hl.1 rfl (Nat.le_of_ble_eq_true rfl) ⟨by decide, by decide⟩ ⟨Nat.le_of_ble_eq_true rfl, Nat.le_of_ble_eq_true rfl⟩ d_1_22_15) (fun j455 u453 H locs hp454 V => ?_)
    obtain ⟨rfl, hE456⟩ := hp454
    have e457 : j455 = (F_Big_toLong (68 : Int32) t24_0 t24_1 t25_0) := hE456
    refine lv_iconst (v := 0) hx hb d_1_22_18 (by decide) ?_
    refine q_gov V (q_runV (As := [.int 3, .long j455, .int 0]) (rest := []) (d := 1) (mc := 0) (ms := 0) (ci := 11) C0 V rfl LV_NH_374 (X_Pri_addNumber l D g q ws  3 j455 0 hI t0_0 t0_1 t0_2 t0_3 hT0 t1_0 hT1 t2_0 hT2 t3_0 hT3 (by have y0 : (3 : Int32).toInt = 3 := rfl; have y1 : (0 : Int32).toInt = 0 := rfl; omega) (by have y0 : (3 : Int32).toInt = 3 := rfl; have y1 : (0 : Int32).toInt = 0 := rfl; omega) _) rfl rfl hT0 rfl hl.1 rfl (Nat.le_of_ble_eq_true rfl) ⟨by decide, by decide⟩ ⟨Nat.le_of_ble_eq_true rfl, Nat.le_of_ble_eq_true rfl⟩ d_1_22_19) (fun u458 H locs hp459 V => ?_)
    obtain ⟨hI, hu482, y461, y462, y463, y464, f465, f467, f469, hO460, hA466, hA468, hA470, b471, b472, b473, b474, b475, b476, b477, b478, b479, b480, hE481⟩ := hp459
    replace hO460 : u458[40]? = (some (q 40, .inr (11, [.int y461, .ref (q 41), .ref (q 42), .ref (q 43), .ref (q 44), .ref (q 1), .ref (q 47), .ref (q 36), .ref (q 45), .int y462, .int y463, .int y464])) : Option (Nat × va_E)) := hO460
    replace hA466 : u458[41]? = (some (q 41, .inl (g 0, 9, .inl f465)) : Option (Nat × va_E)) := hA466
    replace hA468 : u458[42]? = (some (q 42, .inl (g 1, 9, .inr (.inl f467))) : Option (Nat × va_E)) := hA468
    replace hA470 : u458[43]? = (some (q 43, .inl (g 0, 9, .inl f469)) : Option (Nat × va_E)) := hA470
    obtain ⟨p483, e484⟩ : ∃ z, z = (F_Pri_addNumber (3 : Int32) j455 (0 : Int32) t0_0 t0_1 t0_2 t0_3 t1_0 t2_0 t3_0) := ⟨_, rfl⟩
    have e485 : y461 = p483.1 := congrArg (fun z => z.1) (hE481.trans e484.symm)
    have e486 : y462 = p483.2.1 := congrArg (fun z => z.2.1) (hE481.trans e484.symm)
    have e487 : y463 = p483.2.2.1 := congrArg (fun z => z.2.2.1) (hE481.trans e484.symm)
    have e488 : y464 = p483.2.2.2.1 := congrArg (fun z => z.2.2.2.1) (hE481.trans e484.symm)
    have e489 : f465 = p483.2.2.2.2.1 := congrArg (fun z => z.2.2.2.2.1) (hE481.trans e484.symm)
    have e490 : f467 = p483.2.2.2.2.2.1 := congrArg (fun z => z.2.2.2.2.2.1) (hE481.trans e484.symm)
    have e491 : f469 = p483.2.2.2.2.2.2 := congrArg (fun z => z.2.2.2.2.2.2) (hE481.trans e484.symm)
    replace b471 : q_F (1 ≤ y461.toInt) := b471
    replace b472 : q_F (y461.toInt ≤ 9) := b472
    replace b473 : q_F (t0_0.toInt ≤ y461.toInt) := b473
    replace b474 : q_F (y461.toInt ≤ t0_0.toInt + 1) := b474
    replace b475 : q_F (t0_1.toInt ≤ y462.toInt) := b475
    replace b476 : q_F (y462.toInt ≤ t0_1.toInt) := b476
    replace b477 : q_F (t0_2.toInt ≤ y463.toInt) := b477
    replace b478 : q_F (y463.toInt ≤ t0_2.toInt) := b478
    replace b479 : q_F (t0_3.toInt ≤ y464.toInt) := b479
    replace b480 : q_F (y464.toInt ≤ t0_3.toInt) := b480
    replace hT4 := (hu482 _ (by decide)).trans hT4
    replace hT5 := (hu482 _ (by decide)).trans hT5
    replace hT6 := (hu482 _ (by decide)).trans hT6
    replace hT7 := (hu482 _ (by decide)).trans hT7
    replace hT8 := (hu482 _ (by decide)).trans hT8
    replace hT9 := (hu482 _ (by decide)).trans hT9
    replace hT10 := (hu482 _ (by decide)).trans hT10
    replace hT11 := (hu482 _ (by decide)).trans hT11
    replace hT12 := (hu482 _ (by decide)).trans hT12
    replace hT13 := (hu482 _ (by decide)).trans hT13
    replace hT14 := (hu482 _ (by decide)).trans hT14
    replace hT15 := (hu482 _ (by decide)).trans hT15
    replace hT16 := (hu482 _ (by decide)).trans hT16
    replace hT17 := (hu482 _ (by decide)).trans hT17
    replace hT18 := (hu482 _ (by decide)).trans hT18
    replace hT19 := (hu482 _ (by decide)).trans hT19
    replace hT20 := (hu482 _ (by decide)).trans hT20
    replace hT21 := (hu482 _ (by decide)).trans hT21
    replace hT22 := (hu482 _ (by decide)).trans hT22
    replace hT23 := (hu482 _ (by decide)).trans hT23
    replace hT24 := (hu482 _ (by have z0 := yk3; simp only [List.mem_cons, List.not_mem_nil, or_false, not_or]; omega)).trans hT24
    replace hT25 := (hu482 _ (by have z0 := yk3; simp only [List.mem_cons, List.not_mem_nil, or_false, not_or]; omega)).trans hT25
    replace hT26 := (hu482 _ (by have z0 := yd3; simp only [List.mem_cons, List.not_mem_nil, or_false, not_or]; omega)).trans hT26
    replace hT27 := (hu482 _ (by have z0 := yd3; simp only [List.mem_cons, List.not_mem_nil, or_false, not_or]; omega)).trans hT27
    replace hT28 := (hu482 _ (by have z0 := yd3; simp only [List.mem_cons, List.not_mem_nil, or_false, not_or]; omega)).trans hT28
    replace hO447 := (hu482 _ (by decide)).trans hO447
    replace hF := q_uc hF hu482 (by simp)
    have hR492 := (show F_NH_addArgument_c19 x2 x3 t0_0 t0_1 t0_2 t0_3 t1_0 t2_0 t3_0 t4_0 t5_0 t6_0 t7_0 t8_0 t9_0 t10_0 t11_0 t12_0 t13_0 t14_0 t15_0 t16_0 t17_0 t18_0 t19_0 t20_0 t21_0 t22_0 t23_0 t24_0 t24_1 t25_0 t26_0 t26_1 t27_0 t27_1 t28_0 p483 = (F_NH_addArgument x2 x3 t0_0 t0_1 t0_2 t0_3 t1_0 t2_0 t3_0 t4_0 t5_0 t6_0 t7_0 t8_0 t9_0 t10_0 t11_0 t12_0 t13_0 t14_0 t15_0 t16_0 t17_0 t18_0 t19_0 t20_0 t21_0 t22_0 t23_0 t24_0 t24_1 t25_0 t26_0 t26_1 t27_0 t27_1 t28_0) from (by rw [e484, e457, F_NH_addArgument.eq_1, if_pos c88]))
    have hS493 := (show True ∧ S_NH_addArgument_c19 x2 x3 t0_0 t0_1 t0_2 t0_3 t1_0 t2_0 t3_0 t4_0 t5_0 t6_0 t7_0 t8_0 t9_0 t10_0 t11_0 t12_0 t13_0 t14_0 t15_0 t16_0 t17_0 t18_0 t19_0 t20_0 t21_0 t22_0 t23_0 t24_0 t24_1 t25_0 t26_0 t26_1 t27_0 t27_1 t28_0 p483 from (by rw [e484, e457]; have h := hS; rw [S_NH_addArgument.eq_1] at h; rw [if_pos c88] at h; replace h := q_s2 h; replace h := q_s2 h; with_reducible exact h))
    refine lv_goto (tgt := 140) hx hb d_1_22_22 (by decide) ?_
    exact q_retv C0 V (⟨hI, hF, y461, y462, y463, y464, f465, f467, f469, t4_0, t6_0, t7_0, t8_0, t9_0, t10_0, t11_0, t12_0, t13_0, t14_0, t15_0, t16_0, t17_0, t18_0, t19_0, t20_0, t21_0, t22_0, t23_0, hO460, hA466, hA468, hA470, hT4, hT6, hT7, hT8, hT9, hT10, hT11, hT12, hT13, hT14, hT15, hT16, hT17, hT18, hT19, hT20, hT21, hT22, hT23, (show 1 ≤ y461.toInt from (by have t1 : 1 ≤ y461.toInt := b471; omega)), (show y461.toInt ≤ 9 from (by have t1 : y461.toInt ≤ 9 := b472; omega)), (show 0 ≤ y462.toInt + 1 from (by have t1 : -1 ≤ t0_1.toInt ∧ t0_1.toInt ≤ 1000000 := btt0_1; have t2 : t0_1.toInt ≤ y462.toInt := b475; omega)), (show y462.toInt ≤ 1000000 from (by have t1 : -1 ≤ t0_1.toInt ∧ t0_1.toInt ≤ 1000000 := btt0_1; have t2 : y462.toInt ≤ t0_1.toInt := b476; omega)), (show 0 ≤ y464.toInt + 1 from (by have t1 : -1 ≤ t0_3.toInt ∧ t0_3.toInt ≤ 8 := btt0_3; have t2 : t0_3.toInt ≤ y464.toInt := b479; omega)), (show y464.toInt ≤ 8 from (by have t1 : -1 ≤ t0_3.toInt ∧ t0_3.toInt ≤ 8 := btt0_3; have t2 : y464.toInt ≤ t0_3.toInt := b480; omega)), (show 0 ≤ t4_0.toInt from (by have t1 : 0 ≤ t4_0.toInt ∧ t4_0.toInt ≤ 4100 := btt4_0; omega)), (show t4_0.toInt ≤ 4100 from (by have t1 : 0 ≤ t4_0.toInt ∧ t4_0.toInt ≤ 4100 := btt4_0; omega)), (show 0 ≤ t6_0.toInt from (by have t1 : 0 ≤ t6_0.toInt ∧ t6_0.toInt ≤ 64 := btt6_0; omega)), (show t6_0.toInt ≤ 64 from (by have t1 : 0 ≤ t6_0.toInt ∧ t6_0.toInt ≤ 64 := btt6_0; omega)), (show 0 ≤ t8_0.toInt from (by have t1 : 0 ≤ t8_0.toInt ∧ t8_0.toInt ≤ 64 := btt8_0; omega)), (show t8_0.toInt ≤ 64 from (by have t1 : 0 ≤ t8_0.toInt ∧ t8_0.toInt ≤ 64 := btt8_0; omega)), (show 0 ≤ t10_0.toInt from (by have t1 : 0 ≤ t10_0.toInt ∧ t10_0.toInt ≤ 64 := btt10_0; omega)), (show t10_0.toInt ≤ 64 from (by have t1 : 0 ≤ t10_0.toInt ∧ t10_0.toInt ≤ 64 := btt10_0; omega)), (show 0 ≤ t12_0.toInt from (by have t1 : 0 ≤ t12_0.toInt ∧ t12_0.toInt ≤ 64 := btt12_0; omega)), (show t12_0.toInt ≤ 64 from (by have t1 : 0 ≤ t12_0.toInt ∧ t12_0.toInt ≤ 64 := btt12_0; omega)), (show 0 ≤ t14_0.toInt from (by have t1 : 0 ≤ t14_0.toInt ∧ t14_0.toInt ≤ 64 := btt14_0; omega)), (show t14_0.toInt ≤ 64 from (by have t1 : 0 ≤ t14_0.toInt ∧ t14_0.toInt ≤ 64 := btt14_0; omega)), (show 0 ≤ t16_0.toInt from (by have t1 : 0 ≤ t16_0.toInt ∧ t16_0.toInt ≤ 64 := btt16_0; omega)), (show t16_0.toInt ≤ 64 from (by have t1 : 0 ≤ t16_0.toInt ∧ t16_0.toInt ≤ 64 := btt16_0; omega)), (show 0 ≤ t18_0.toInt from (by have t1 : 0 ≤ t18_0.toInt ∧ t18_0.toInt ≤ 64 := btt18_0; omega)), (show t18_0.toInt ≤ 64 from (by have t1 : 0 ≤ t18_0.toInt ∧ t18_0.toInt ≤ 64 := btt18_0; omega)), (show 0 ≤ t20_0.toInt from (by have t1 : 0 ≤ t20_0.toInt ∧ t20_0.toInt ≤ 64 := btt20_0; omega)), (show t20_0.toInt ≤ 64 from (by have t1 : 0 ≤ t20_0.toInt ∧ t20_0.toInt ≤ 64 := btt20_0; omega)), (show 0 ≤ t22_0.toInt from (by have t1 : 0 ≤ t22_0.toInt ∧ t22_0.toInt ≤ 64 := btt22_0; omega)), (show t22_0.toInt ≤ 64 from (by have t1 : 0 ≤ t22_0.toInt ∧ t22_0.toInt ≤ 64 := btt22_0; omega)), (show t0_0.toInt ≤ y461.toInt from (by have t1 : t0_0.toInt ≤ y461.toInt := b473; omega)), (show y461.toInt ≤ t0_0.toInt + 1 from (by have t1 : y461.toInt ≤ t0_0.toInt + 1 := b474; omega)), (show t0_1.toInt ≤ y462.toInt from (by have t1 : t0_1.toInt ≤ y462.toInt := b475; omega)), (show y462.toInt ≤ t0_1.toInt from (by have t1 : y462.toInt ≤ t0_1.toInt := b476; omega)), (show t0_2.toInt ≤ y463.toInt from (by have t1 : t0_2.toInt ≤ y463.toInt := b477; omega)), (show y463.toInt ≤ t0_2.toInt from (by have t1 : y463.toInt ≤ t0_2.toInt := b478; omega)), (show t0_3.toInt ≤ y464.toInt from (by have t1 : t0_3.toInt ≤ y464.toInt := b479; omega)), (show y464.toInt ≤ t0_3.toInt from (by have t1 : y464.toInt ≤ t0_3.toInt := b480; omega)), (show t4_0.toInt ≤ t4_0.toInt + 64 from (by omega)), (show t4_0.toInt ≤ t4_0.toInt from (by omega)), (show (y461, y462, y463, y464, f465, f467, f469, t4_0, t6_0, t7_0, t8_0, t9_0, t10_0, t11_0, t12_0, t13_0, t14_0, t15_0, t16_0, t17_0, t18_0, t19_0, t20_0, t21_0, t22_0, t23_0) = (F_NH_addArgument x2 x3 t0_0 t0_1 t0_2 t0_3 t1_0 t2_0 t3_0 t4_0 t5_0 t6_0 t7_0 t8_0 t9_0 t10_0 t11_0 t12_0 t13_0 t14_0 t15_0 t16_0 t17_0 t18_0 t19_0 t20_0 t21_0 t22_0 t23_0 t24_0 t24_1 t25_0 t26_0 t26_1 t27_0 t27_1 t28_0) from Eq.trans (by rw [e491, e490, e489, e488, e487, e486, e485, F_NH_addArgument_c19.eq_1]) hR492)⟩) d_1_22_140
