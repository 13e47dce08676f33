/-! NumberHouse, exactly: r4.convert -/
theorem d_1_16_0 : decode prog_1_method_16_code 0 = .ok (.iload_n 1, 1) := by decide +kernel
theorem d_1_16_1 : decode prog_1_method_16_code 1 = .ok (.iload_n 2, 1) := by decide +kernel
theorem d_1_16_2 : decode prog_1_method_16_code 2 = .ok (.invokestatic 118, 3) := by decide +kernel
theorem d_1_16_5 : decode prog_1_method_16_code 5 = .ok (.iload_n 3, 1) := by decide +kernel
theorem d_1_16_6 : decode prog_1_method_16_code 6 = .ok (.iload 4, 2) := by decide +kernel
theorem d_1_16_8 : decode prog_1_method_16_code 8 = .ok (.invokestatic 118, 3) := by decide +kernel
theorem d_1_16_11 : decode prog_1_method_16_code 11 = .ok (.iload_n 3, 1) := by decide +kernel
theorem d_1_16_12 : decode prog_1_method_16_code 12 = .ok (.ifCond .ne 18, 3) := by decide +kernel
theorem d_1_16_30 : decode prog_1_method_16_code 30 = .ok (.iload_n 3, 1) := by decide +kernel
theorem d_1_16_31 : decode prog_1_method_16_code 31 = .ok (.iconst 1, 1) := by decide +kernel
theorem d_1_16_32 : decode prog_1_method_16_code 32 = .ok (.if_icmp .ne 18, 3) := by decide +kernel
theorem d_1_16_50 : decode prog_1_method_16_code 50 = .ok (.aload_n 0, 1) := by decide +kernel
theorem d_1_16_51 : decode prog_1_method_16_code 51 = .ok (.iload_n 3, 1) := by decide +kernel
theorem d_1_16_52 : decode prog_1_method_16_code 52 = .ok (.invokevirtual 157, 3) := by decide +kernel
theorem d_1_16_55 : decode prog_1_method_16_code 55 = .ok (.iload 4, 2) := by decide +kernel
theorem d_1_16_57 : decode prog_1_method_16_code 57 = .ok (.aload_n 0, 1) := by decide +kernel
theorem d_1_16_58 : decode prog_1_method_16_code 58 = .ok (.iload_n 1, 1) := by decide +kernel
theorem d_1_16_59 : decode prog_1_method_16_code 59 = .ok (.iload_n 2, 1) := by decide +kernel
theorem d_1_16_60 : decode prog_1_method_16_code 60 = .ok (.aload_n 0, 1) := by decide +kernel
theorem d_1_16_61 : decode prog_1_method_16_code 61 = .ok (.iload_n 3, 1) := by decide +kernel
theorem d_1_16_62 : decode prog_1_method_16_code 62 = .ok (.invokevirtual 130, 3) := by decide +kernel
theorem d_1_16_65 : decode prog_1_method_16_code 65 = .ok (.invokevirtual 323, 3) := by decide +kernel
set_option maxRecDepth 100000 in
theorem w_1520 : (Cond.code ({ cls := "NumberHouse", name := "madeFloat", desc := "(IILNumberHouse$Floats;)J" } : MethodName) prog_1_method_27_code (5 : Nat) (some .long)) ∈ q_tbl := q_of7 80 rfl (by decide +kernel)
set_option maxRecDepth 100000 in
theorem w_1517 : (Cond.methodLink "NumberHouse" (323 : Nat) ({ cls := "NumberHouse", name := "madeFloat", desc := "(IILNumberHouse$Floats;)J" } : MethodName)) ∈ q_tbl := q_of7 77 rfl (by decide +kernel)
set_option maxRecDepth 100000 in
theorem w_1519 : (Cond.instanceMethod ({ cls := "NumberHouse", name := "madeFloat", desc := "(IILNumberHouse$Floats;)J" } : MethodName)) ∈ q_tbl := q_of7 79 rfl (by decide +kernel)
theorem ws_35 : Cond.selects "NumberHouse" (⟨"NumberHouse", "madeFloat", "(IILNumberHouse$Floats;)J"⟩ : MethodName) (⟨"NumberHouse", "madeFloat", "(IILNumberHouse$Floats;)J"⟩ : MethodName) ∈ q_tbl := q_ofs 35 (by decide +kernel) (by decide +kernel)
theorem LV_NH_323 : q_LV "NumberHouse" 323 y_NH_madeFloat prog_1_method_27_code 5 (some .long) 3 := ⟨w_1520, w_1, w_1517, w_1519, ws_35, ⟨by decide, by decide, by decide +kernel⟩⟩
theorem d_1_16_68 : decode prog_1_method_16_code 68 = .ok (.lastore, 1) := by decide +kernel
theorem d_1_16_69 : decode prog_1_method_16_code 69 = .ok (.return_, 1) := by decide +kernel
theorem d_1_16_35 : decode prog_1_method_16_code 35 = .ok (.aload_n 0, 1) := by decide +kernel
theorem d_1_16_36 : decode prog_1_method_16_code 36 = .ok (.iload_n 1, 1) := by decide +kernel
theorem d_1_16_37 : decode prog_1_method_16_code 37 = .ok (.iload_n 2, 1) := by decide +kernel
theorem d_1_16_38 : decode prog_1_method_16_code 38 = .ok (.invokevirtual 320, 3) := by decide +kernel
set_option maxRecDepth 100000 in
theorem w_1511 : (Cond.code ({ cls := "NumberHouse", name := "makeDecimal", desc := "(II)V" } : MethodName) prog_1_method_26_code (6 : Nat) (none : Option ClassFile.FieldType)) ∈ q_tbl := q_of7 71 rfl (by decide +kernel)
set_option maxRecDepth 100000 in
theorem w_1508 : (Cond.methodLink "NumberHouse" (320 : Nat) ({ cls := "NumberHouse", name := "makeDecimal", desc := "(II)V" } : MethodName)) ∈ q_tbl := q_of7 68 rfl (by decide +kernel)
set_option maxRecDepth 100000 in
theorem w_1510 : (Cond.instanceMethod ({ cls := "NumberHouse", name := "makeDecimal", desc := "(II)V" } : MethodName)) ∈ q_tbl := q_of7 70 rfl (by decide +kernel)
theorem ws_34 : Cond.selects "NumberHouse" (⟨"NumberHouse", "makeDecimal", "(II)V"⟩ : MethodName) (⟨"NumberHouse", "makeDecimal", "(II)V"⟩ : MethodName) ∈ q_tbl := q_ofs 34 (by decide +kernel) (by decide +kernel)
theorem LV_NH_320 : q_LV "NumberHouse" 320 y_NH_makeDecimal prog_1_method_26_code 6 none 2 := ⟨w_1511, w_1, w_1508, w_1510, ws_34, ⟨by decide, by decide, by decide +kernel⟩⟩
theorem d_1_16_41 : decode prog_1_method_16_code 41 = .ok (.aload_n 0, 1) := by decide +kernel
theorem d_1_16_42 : decode prog_1_method_16_code 42 = .ok (.iload 4, 2) := by decide +kernel
theorem d_1_16_44 : decode prog_1_method_16_code 44 = .ok (.invokevirtual 281, 3) := by decide +kernel
theorem d_1_16_47 : decode prog_1_method_16_code 47 = .ok (.goto 22, 3) := by decide +kernel
theorem d_1_16_15 : decode prog_1_method_16_code 15 = .ok (.aload_n 0, 1) := by decide +kernel
theorem d_1_16_16 : decode prog_1_method_16_code 16 = .ok (.iload_n 1, 1) := by decide +kernel
theorem d_1_16_17 : decode prog_1_method_16_code 17 = .ok (.iload_n 2, 1) := by decide +kernel
theorem d_1_16_18 : decode prog_1_method_16_code 18 = .ok (.invokevirtual 317, 3) := by decide +kernel
set_option maxRecDepth 100000 in
theorem w_1499 : (Cond.code ({ cls := "NumberHouse", name := "makeWhole", desc := "(II)V" } : MethodName) prog_1_method_25_code (6 : Nat) (none : Option ClassFile.FieldType)) ∈ q_tbl := q_of7 59 rfl (by decide +kernel)
set_option maxRecDepth 100000 in
theorem w_1496 : (Cond.methodLink "NumberHouse" (317 : Nat) ({ cls := "NumberHouse", name := "makeWhole", desc := "(II)V" } : MethodName)) ∈ q_tbl := q_of7 56 rfl (by decide +kernel)
set_option maxRecDepth 100000 in
theorem w_1498 : (Cond.instanceMethod ({ cls := "NumberHouse", name := "makeWhole", desc := "(II)V" } : MethodName)) ∈ q_tbl := q_of7 58 rfl (by decide +kernel)
theorem ws_33 : Cond.selects "NumberHouse" (⟨"NumberHouse", "makeWhole", "(II)V"⟩ : MethodName) (⟨"NumberHouse", "makeWhole", "(II)V"⟩ : MethodName) ∈ q_tbl := q_ofs 33 (by decide +kernel) (by decide +kernel)
theorem LV_NH_317 : q_LV "NumberHouse" 317 y_NH_makeWhole prog_1_method_25_code 6 none 2 := ⟨w_1499, w_1, w_1496, w_1498, ws_33, ⟨by decide, by decide, by decide +kernel⟩⟩
theorem d_1_16_21 : decode prog_1_method_16_code 21 = .ok (.aload_n 0, 1) := by decide +kernel
theorem d_1_16_22 : decode prog_1_method_16_code 22 = .ok (.iload 4, 2) := by decide +kernel
theorem d_1_16_24 : decode prog_1_method_16_code 24 = .ok (.invokevirtual 243, 3) := by decide +kernel
theorem d_1_16_27 : decode prog_1_method_16_code 27 = .ok (.goto 42, 3) := by decide +kernel
def y_NH_convert : MethodName := ⟨"NumberHouse", "convert", "(IIII)V"⟩
def F_NH_convert_c65 (x2 : Int32) (x3 : Int32) (x4 : Int32) (x5 : Int32) (t0_0 : Int64) (t0_1 : Int32) (t1_0 : Int32) (t1_1 : Int32) (t2_0 : (Nat → Int32)) (t3_0 : Int32) (t3_1 : Int32) (t4_0 : (Nat → Int32)) (t5_0 : Int32) (t5_1 : Int32) (t6_0 : (Nat → Int32)) (t7_0 : Int32) (t7_1 : Int32) (t8_0 : (Nat → Int32)) (t9_0 : Int32) (t9_1 : Int32) (t10_0 : (Nat → Int32)) (t11_0 : (Nat → Int64)) (t12_0 : (Nat → Int64)) (t13_0 : Int32) (t13_1 : Int32) (t14_0 : (Nat → Int32)) (t15_0 : Int32) (t15_1 : Int32) (t16_0 : Int32) (t16_1 : Int32) (t17_0 : (Nat → Int32)) (t18_0 : Int32) (t18_1 : Int32) (t19_0 : (Nat → Int32)) (t20_0 : Int32) (t20_1 : Int32) (t21_0 : Int32) (t21_1 : Int32) (t22_0 : (Nat → Int32)) (p202 : (Int64 × Int32 × Int32 × (Nat → Int32) × Int32 × Int32 × (Nat → Int32) × Int32 × Int32 × (Nat → Int32) × Int32 × Int32 × (Nat → Int32) × Int32 × Int32 × (Nat → Int32))) : Int32 × Int64 × Int32 × Int32 × Int32 × (Nat → Int32) × Int32 × Int32 × (Nat → Int32) × Int32 × Int32 × (Nat → Int32) × Int32 × Int32 × (Nat → Int32) × Int32 × Int32 × (Nat → Int32) × (Nat → Int64) × (Nat → Int64) × Int32 × Int32 × (Nat → Int32) × Int32 × Int32 × Int32 × Int32 × (Nat → Int32) := ((0 : Int32), t0_0, t0_1, (p202.2.1 : Int32), (p202.2.2.1 : Int32), (p202.2.2.2.1 : (Nat → Int32)), (p202.2.2.2.2.1 : Int32), (p202.2.2.2.2.2.1 : Int32), (p202.2.2.2.2.2.2.1 : (Nat → Int32)), (p202.2.2.2.2.2.2.2.1 : Int32), (p202.2.2.2.2.2.2.2.2.1 : Int32), (p202.2.2.2.2.2.2.2.2.2.1 : (Nat → Int32)), (p202.2.2.2.2.2.2.2.2.2.2.1 : Int32), (p202.2.2.2.2.2.2.2.2.2.2.2.1 : Int32), (p202.2.2.2.2.2.2.2.2.2.2.2.2.1 : (Nat → Int32)), (p202.2.2.2.2.2.2.2.2.2.2.2.2.2.1 : Int32), (p202.2.2.2.2.2.2.2.2.2.2.2.2.2.2.1 : Int32), (p202.2.2.2.2.2.2.2.2.2.2.2.2.2.2.2 : (Nat → Int32)), (vp_updL t11_0 x5.toNatClampNeg (p202.1 : Int64) : (Nat → Int64)), t12_0, t18_0, t18_1, t19_0, t20_0, t20_1, t21_0, t21_1, t22_0)
def F_NH_convert_c65_2 (x2 : Int32) (x3 : Int32) (x4 : Int32) (x5 : Int32) (t0_0 : Int64) (t0_1 : Int32) (t1_0 : Int32) (t1_1 : Int32) (t2_0 : (Nat → Int32)) (t3_0 : Int32) (t3_1 : Int32) (t4_0 : (Nat → Int32)) (t5_0 : Int32) (t5_1 : Int32) (t6_0 : (Nat → Int32)) (t7_0 : Int32) (t7_1 : Int32) (t8_0 : (Nat → Int32)) (t9_0 : Int32) (t9_1 : Int32) (t10_0 : (Nat → Int32)) (t11_0 : (Nat → Int64)) (t12_0 : (Nat → Int64)) (t13_0 : Int32) (t13_1 : Int32) (t14_0 : (Nat → Int32)) (t15_0 : Int32) (t15_1 : Int32) (t16_0 : Int32) (t16_1 : Int32) (t17_0 : (Nat → Int32)) (t18_0 : Int32) (t18_1 : Int32) (t19_0 : (Nat → Int32)) (t20_0 : Int32) (t20_1 : Int32) (t21_0 : Int32) (t21_1 : Int32) (t22_0 : (Nat → Int32)) (p307 : (Int64 × Int32 × Int32 × (Nat → Int32) × Int32 × Int32 × (Nat → Int32) × Int32 × Int32 × (Nat → Int32) × Int32 × Int32 × (Nat → Int32) × Int32 × Int32 × (Nat → Int32))) : Int32 × Int64 × Int32 × Int32 × Int32 × (Nat → Int32) × Int32 × Int32 × (Nat → Int32) × Int32 × Int32 × (Nat → Int32) × Int32 × Int32 × (Nat → Int32) × Int32 × Int32 × (Nat → Int32) × (Nat → Int64) × (Nat → Int64) × Int32 × Int32 × (Nat → Int32) × Int32 × Int32 × Int32 × Int32 × (Nat → Int32) := ((0 : Int32), t0_0, t0_1, (p307.2.1 : Int32), (p307.2.2.1 : Int32), (p307.2.2.2.1 : (Nat → Int32)), (p307.2.2.2.2.1 : Int32), (p307.2.2.2.2.2.1 : Int32), (p307.2.2.2.2.2.2.1 : (Nat → Int32)), (p307.2.2.2.2.2.2.2.1 : Int32), (p307.2.2.2.2.2.2.2.2.1 : Int32), (p307.2.2.2.2.2.2.2.2.2.1 : (Nat → Int32)), (p307.2.2.2.2.2.2.2.2.2.2.1 : Int32), (p307.2.2.2.2.2.2.2.2.2.2.2.1 : Int32), (p307.2.2.2.2.2.2.2.2.2.2.2.2.1 : (Nat → Int32)), (p307.2.2.2.2.2.2.2.2.2.2.2.2.2.1 : Int32), (p307.2.2.2.2.2.2.2.2.2.2.2.2.2.2.1 : Int32), (p307.2.2.2.2.2.2.2.2.2.2.2.2.2.2.2 : (Nat → Int32)), (vp_updL t11_0 x5.toNatClampNeg (p307.1 : Int64) : (Nat → Int64)), t12_0, t18_0, t18_1, t19_0, t20_0, t20_1, t21_0, t21_1, t22_0)
def F_NH_convert_c65_3 (x2 : Int32) (x3 : Int32) (x4 : Int32) (x5 : Int32) (t0_0 : Int64) (t0_1 : Int32) (t1_0 : Int32) (t1_1 : Int32) (t2_0 : (Nat → Int32)) (t3_0 : Int32) (t3_1 : Int32) (t4_0 : (Nat → Int32)) (t5_0 : Int32) (t5_1 : Int32) (t6_0 : (Nat → Int32)) (t7_0 : Int32) (t7_1 : Int32) (t8_0 : (Nat → Int32)) (t9_0 : Int32) (t9_1 : Int32) (t10_0 : (Nat → Int32)) (t11_0 : (Nat → Int64)) (t12_0 : (Nat → Int64)) (t13_0 : Int32) (t13_1 : Int32) (t14_0 : (Nat → Int32)) (t15_0 : Int32) (t15_1 : Int32) (t16_0 : Int32) (t16_1 : Int32) (t17_0 : (Nat → Int32)) (t18_0 : Int32) (t18_1 : Int32) (t19_0 : (Nat → Int32)) (t20_0 : Int32) (t20_1 : Int32) (t21_0 : Int32) (t21_1 : Int32) (t22_0 : (Nat → Int32)) (p419 : (Int64 × Int32 × Int32 × (Nat → Int32) × Int32 × Int32 × (Nat → Int32) × Int32 × Int32 × (Nat → Int32) × Int32 × Int32 × (Nat → Int32) × Int32 × Int32 × (Nat → Int32))) : Int32 × Int64 × Int32 × Int32 × Int32 × (Nat → Int32) × Int32 × Int32 × (Nat → Int32) × Int32 × Int32 × (Nat → Int32) × Int32 × Int32 × (Nat → Int32) × Int32 × Int32 × (Nat → Int32) × (Nat → Int64) × (Nat → Int64) × Int32 × Int32 × (Nat → Int32) × Int32 × Int32 × Int32 × Int32 × (Nat → Int32) := ((0 : Int32), t0_0, t0_1, (p419.2.1 : Int32), (p419.2.2.1 : Int32), (p419.2.2.2.1 : (Nat → Int32)), (p419.2.2.2.2.1 : Int32), (p419.2.2.2.2.2.1 : Int32), (p419.2.2.2.2.2.2.1 : (Nat → Int32)), (p419.2.2.2.2.2.2.2.1 : Int32), (p419.2.2.2.2.2.2.2.2.1 : Int32), (p419.2.2.2.2.2.2.2.2.2.1 : (Nat → Int32)), (p419.2.2.2.2.2.2.2.2.2.2.1 : Int32), (p419.2.2.2.2.2.2.2.2.2.2.2.1 : Int32), (p419.2.2.2.2.2.2.2.2.2.2.2.2.1 : (Nat → Int32)), (p419.2.2.2.2.2.2.2.2.2.2.2.2.2.1 : Int32), (p419.2.2.2.2.2.2.2.2.2.2.2.2.2.2.1 : Int32), (p419.2.2.2.2.2.2.2.2.2.2.2.2.2.2.2 : (Nat → Int32)), t11_0, (vp_updL t12_0 x5.toNatClampNeg (p419.1 : Int64) : (Nat → Int64)), t18_0, t18_1, t19_0, t20_0, t20_1, t21_0, t21_1, t22_0)
def F_NH_convert_c65_4 (x2 : Int32) (x3 : Int32) (x4 : Int32) (x5 : Int32) (t0_0 : Int64) (t0_1 : Int32) (t1_0 : Int32) (t1_1 : Int32) (t2_0 : (Nat → Int32)) (t3_0 : Int32) (t3_1 : Int32) (t4_0 : (Nat → Int32)) (t5_0 : Int32) (t5_1 : Int32) (t6_0 : (Nat → Int32)) (t7_0 : Int32) (t7_1 : Int32) (t8_0 : (Nat → Int32)) (t9_0 : Int32) (t9_1 : Int32) (t10_0 : (Nat → Int32)) (t11_0 : (Nat → Int64)) (t12_0 : (Nat → Int64)) (t13_0 : Int32) (t13_1 : Int32) (t14_0 : (Nat → Int32)) (t15_0 : Int32) (t15_1 : Int32) (t16_0 : Int32) (t16_1 : Int32) (t17_0 : (Nat → Int32)) (t18_0 : Int32) (t18_1 : Int32) (t19_0 : (Nat → Int32)) (t20_0 : Int32) (t20_1 : Int32) (t21_0 : Int32) (t21_1 : Int32) (t22_0 : (Nat → Int32)) (p524 : (Int64 × Int32 × Int32 × (Nat → Int32) × Int32 × Int32 × (Nat → Int32) × Int32 × Int32 × (Nat → Int32) × Int32 × Int32 × (Nat → Int32) × Int32 × Int32 × (Nat → Int32))) : Int32 × Int64 × Int32 × Int32 × Int32 × (Nat → Int32) × Int32 × Int32 × (Nat → Int32) × Int32 × Int32 × (Nat → Int32) × Int32 × Int32 × (Nat → Int32) × Int32 × Int32 × (Nat → Int32) × (Nat → Int64) × (Nat → Int64) × Int32 × Int32 × (Nat → Int32) × Int32 × Int32 × Int32 × Int32 × (Nat → Int32) := ((0 : Int32), t0_0, t0_1, (p524.2.1 : Int32), (p524.2.2.1 : Int32), (p524.2.2.2.1 : (Nat → Int32)), (p524.2.2.2.2.1 : Int32), (p524.2.2.2.2.2.1 : Int32), (p524.2.2.2.2.2.2.1 : (Nat → Int32)), (p524.2.2.2.2.2.2.2.1 : Int32), (p524.2.2.2.2.2.2.2.2.1 : Int32), (p524.2.2.2.2.2.2.2.2.2.1 : (Nat → Int32)), (p524.2.2.2.2.2.2.2.2.2.2.1 : Int32), (p524.2.2.2.2.2.2.2.2.2.2.2.1 : Int32), (p524.2.2.2.2.2.2.2.2.2.2.2.2.1 : (Nat → Int32)), (p524.2.2.2.2.2.2.2.2.2.2.2.2.2.1 : Int32), (p524.2.2.2.2.2.2.2.2.2.2.2.2.2.2.1 : Int32), (p524.2.2.2.2.2.2.2.2.2.2.2.2.2.2.2 : (Nat → Int32)), t11_0, (vp_updL t12_0 x5.toNatClampNeg (p524.1 : Int64) : (Nat → Int64)), t18_0, t18_1, t19_0, t20_0, t20_1, t21_0, t21_1, t22_0)
def F_NH_convert_c44 (x2 : Int32) (x3 : Int32) (x4 : Int32) (x5 : Int32) (t0_0 : Int64) (t0_1 : Int32) (t1_0 : Int32) (t1_1 : Int32) (t2_0 : (Nat → Int32)) (t3_0 : Int32) (t3_1 : Int32) (t4_0 : (Nat → Int32)) (t5_0 : Int32) (t5_1 : Int32) (t6_0 : (Nat → Int32)) (t7_0 : Int32) (t7_1 : Int32) (t8_0 : (Nat → Int32)) (t9_0 : Int32) (t9_1 : Int32) (t10_0 : (Nat → Int32)) (t11_0 : (Nat → Int64)) (t12_0 : (Nat → Int64)) (t13_0 : Int32) (t13_1 : Int32) (t14_0 : (Nat → Int32)) (t15_0 : Int32) (t15_1 : Int32) (t16_0 : Int32) (t16_1 : Int32) (t17_0 : (Nat → Int32)) (t18_0 : Int32) (t18_1 : Int32) (t19_0 : (Nat → Int32)) (t20_0 : Int32) (t20_1 : Int32) (t21_0 : Int32) (t21_1 : Int32) (t22_0 : (Nat → Int32)) (p571 : (Int32 × Int64 × Int32 × Int32 × Int32 × (Nat → Int32))) (y585 : Int64) (y586 : Int32) (y588 : Int32) (y589 : Int32) (f590 : (Nat → Int32)) (p638 : (Int32 × Int32 × Int32 × (Nat → Int32) × Int32 × Int32 × Int32 × Int32 × (Nat → Int32))) : Int32 × Int64 × Int32 × Int32 × Int32 × (Nat → Int32) × Int32 × Int32 × (Nat → Int32) × Int32 × Int32 × (Nat → Int32) × Int32 × Int32 × (Nat → Int32) × Int32 × Int32 × (Nat → Int32) × (Nat → Int64) × (Nat → Int64) × Int32 × Int32 × (Nat → Int32) × Int32 × Int32 × Int32 × Int32 × (Nat → Int32) := if p638.1 = (0 : Int32) then (((0 : Int32), y585, y586, y588, y589, f590, t3_0, t3_1, t4_0, (p638.2.1 : Int32), (p638.2.2.1 : Int32), (p638.2.2.2.1 : (Nat → Int32)), t7_0, t7_1, t8_0, t9_0, t9_1, t10_0, t11_0, t12_0, t18_0, t18_1, t19_0, (p638.2.2.2.2.1 : Int32), (p638.2.2.2.2.2.1 : Int32), (p638.2.2.2.2.2.2.1 : Int32), (p638.2.2.2.2.2.2.2.1 : Int32), (p638.2.2.2.2.2.2.2.2 : (Nat → Int32)))) else ((p638.1, y585, y586, y588, y589, f590, t3_0, t3_1, t4_0, (p638.2.1 : Int32), (p638.2.2.1 : Int32), (p638.2.2.2.1 : (Nat → Int32)), t7_0, t7_1, t8_0, t9_0, t9_1, t10_0, t11_0, t12_0, t18_0, t18_1, t19_0, (p638.2.2.2.2.1 : Int32), (p638.2.2.2.2.2.1 : Int32), (p638.2.2.2.2.2.2.1 : Int32), (p638.2.2.2.2.2.2.2.1 : Int32), (p638.2.2.2.2.2.2.2.2 : (Nat → Int32))))
def F_NH_convert_c38 (x2 : Int32) (x3 : Int32) (x4 : Int32) (x5 : Int32) (t0_0 : Int64) (t0_1 : Int32) (t1_0 : Int32) (t1_1 : Int32) (t2_0 : (Nat → Int32)) (t3_0 : Int32) (t3_1 : Int32) (t4_0 : (Nat → Int32)) (t5_0 : Int32) (t5_1 : Int32) (t6_0 : (Nat → Int32)) (t7_0 : Int32) (t7_1 : Int32) (t8_0 : (Nat → Int32)) (t9_0 : Int32) (t9_1 : Int32) (t10_0 : (Nat → Int32)) (t11_0 : (Nat → Int64)) (t12_0 : (Nat → Int64)) (t13_0 : Int32) (t13_1 : Int32) (t14_0 : (Nat → Int32)) (t15_0 : Int32) (t15_1 : Int32) (t16_0 : Int32) (t16_1 : Int32) (t17_0 : (Nat → Int32)) (t18_0 : Int32) (t18_1 : Int32) (t19_0 : (Nat → Int32)) (t20_0 : Int32) (t20_1 : Int32) (t21_0 : Int32) (t21_1 : Int32) (t22_0 : (Nat → Int32)) (p571 : (Int32 × Int64 × Int32 × Int32 × Int32 × (Nat → Int32))) : Int32 × Int64 × Int32 × Int32 × Int32 × (Nat → Int32) × Int32 × Int32 × (Nat → Int32) × Int32 × Int32 × (Nat → Int32) × Int32 × Int32 × (Nat → Int32) × Int32 × Int32 × (Nat → Int32) × (Nat → Int64) × (Nat → Int64) × Int32 × Int32 × (Nat → Int32) × Int32 × Int32 × Int32 × Int32 × (Nat → Int32) := if p571.1 = (0 : Int32) then (F_NH_convert_c44 x2 x3 x4 x5 t0_0 t0_1 t1_0 t1_1 t2_0 t3_0 t3_1 t4_0 t5_0 t5_1 t6_0 t7_0 t7_1 t8_0 t9_0 t9_1 t10_0 t11_0 t12_0 t13_0 t13_1 t14_0 t15_0 t15_1 t16_0 t16_1 t17_0 t18_0 t18_1 t19_0 t20_0 t20_1 t21_0 t21_1 t22_0 p571 (p571.2.1 : Int64) (p571.2.2.1 : Int32) (p571.2.2.2.1 : Int32) (p571.2.2.2.2.1 : Int32) (p571.2.2.2.2.2 : (Nat → Int32)) ((F_NH_keepDecimal x5 (p571.2.1 : Int64) (p571.2.2.1 : Int32) (p571.2.2.2.1 : Int32) (p571.2.2.2.2.1 : Int32) (p571.2.2.2.2.2 : (Nat → Int32)) t5_0 t5_1 t6_0 t20_0 t20_1 t21_0 t21_1 t22_0) : (Int32 × Int32 × Int32 × (Nat → Int32) × Int32 × Int32 × Int32 × Int32 × (Nat → Int32)))) else ((p571.1, (p571.2.1 : Int64), (p571.2.2.1 : Int32), (p571.2.2.2.1 : Int32), (p571.2.2.2.2.1 : Int32), (p571.2.2.2.2.2 : (Nat → Int32)), t3_0, t3_1, t4_0, t5_0, t5_1, t6_0, t7_0, t7_1, t8_0, t9_0, t9_1, t10_0, t11_0, t12_0, t18_0, t18_1, t19_0, t20_0, t20_1, t21_0, t21_1, t22_0))
def F_NH_convert_c24 (x2 : Int32) (x3 : Int32) (x4 : Int32) (x5 : Int32) (t0_0 : Int64) (t0_1 : Int32) (t1_0 : Int32) (t1_1 : Int32) (t2_0 : (Nat → Int32)) (t3_0 : Int32) (t3_1 : Int32) (t4_0 : (Nat → Int32)) (t5_0 : Int32) (t5_1 : Int32) (t6_0 : (Nat → Int32)) (t7_0 : Int32) (t7_1 : Int32) (t8_0 : (Nat → Int32)) (t9_0 : Int32) (t9_1 : Int32) (t10_0 : (Nat → Int32)) (t11_0 : (Nat → Int64)) (t12_0 : (Nat → Int64)) (t13_0 : Int32) (t13_1 : Int32) (t14_0 : (Nat → Int32)) (t15_0 : Int32) (t15_1 : Int32) (t16_0 : Int32) (t16_1 : Int32) (t17_0 : (Nat → Int32)) (t18_0 : Int32) (t18_1 : Int32) (t19_0 : (Nat → Int32)) (t20_0 : Int32) (t20_1 : Int32) (t21_0 : Int32) (t21_1 : Int32) (t22_0 : (Nat → Int32)) (p717 : (Int32 × Int32 × Int32 × (Nat → Int32))) (y729 : Int32) (y730 : Int32) (f731 : (Nat → Int32)) (p760 : (Int32 × Int32 × Int32 × (Nat → Int32))) : Int32 × Int64 × Int32 × Int32 × Int32 × (Nat → Int32) × Int32 × Int32 × (Nat → Int32) × Int32 × Int32 × (Nat → Int32) × Int32 × Int32 × (Nat → Int32) × Int32 × Int32 × (Nat → Int32) × (Nat → Int64) × (Nat → Int64) × Int32 × Int32 × (Nat → Int32) × Int32 × Int32 × Int32 × Int32 × (Nat → Int32) := if p760.1 = (0 : Int32) then (((0 : Int32), t0_0, t0_1, y729, y730, f731, t3_0, t3_1, t4_0, t5_0, t5_1, t6_0, t7_0, t7_1, t8_0, t9_0, t9_1, t10_0, t11_0, t12_0, (p760.2.1 : Int32), (p760.2.2.1 : Int32), (p760.2.2.2 : (Nat → Int32)), t20_0, t20_1, t21_0, t21_1, t22_0)) else ((p760.1, t0_0, t0_1, y729, y730, f731, t3_0, t3_1, t4_0, t5_0, t5_1, t6_0, t7_0, t7_1, t8_0, t9_0, t9_1, t10_0, t11_0, t12_0, (p760.2.1 : Int32), (p760.2.2.1 : Int32), (p760.2.2.2 : (Nat → Int32)), t20_0, t20_1, t21_0, t21_1, t22_0))
def F_NH_convert_c18 (x2 : Int32) (x3 : Int32) (x4 : Int32) (x5 : Int32) (t0_0 : Int64) (t0_1 : Int32) (t1_0 : Int32) (t1_1 : Int32) (t2_0 : (Nat → Int32)) (t3_0 : Int32) (t3_1 : Int32) (t4_0 : (Nat → Int32)) (t5_0 : Int32) (t5_1 : Int32) (t6_0 : (Nat → Int32)) (t7_0 : Int32) (t7_1 : Int32) (t8_0 : (Nat → Int32)) (t9_0 : Int32) (t9_1 : Int32) (t10_0 : (Nat → Int32)) (t11_0 : (Nat → Int64)) (t12_0 : (Nat → Int64)) (t13_0 : Int32) (t13_1 : Int32) (t14_0 : (Nat → Int32)) (t15_0 : Int32) (t15_1 : Int32) (t16_0 : Int32) (t16_1 : Int32) (t17_0 : (Nat → Int32)) (t18_0 : Int32) (t18_1 : Int32) (t19_0 : (Nat → Int32)) (t20_0 : Int32) (t20_1 : Int32) (t21_0 : Int32) (t21_1 : Int32) (t22_0 : (Nat → Int32)) (p717 : (Int32 × Int32 × Int32 × (Nat → Int32))) : Int32 × Int64 × Int32 × Int32 × Int32 × (Nat → Int32) × Int32 × Int32 × (Nat → Int32) × Int32 × Int32 × (Nat → Int32) × Int32 × Int32 × (Nat → Int32) × Int32 × Int32 × (Nat → Int32) × (Nat → Int64) × (Nat → Int64) × Int32 × Int32 × (Nat → Int32) × Int32 × Int32 × Int32 × Int32 × (Nat → Int32) := if p717.1 = (0 : Int32) then (F_NH_convert_c24 x2 x3 x4 x5 t0_0 t0_1 t1_0 t1_1 t2_0 t3_0 t3_1 t4_0 t5_0 t5_1 t6_0 t7_0 t7_1 t8_0 t9_0 t9_1 t10_0 t11_0 t12_0 t13_0 t13_1 t14_0 t15_0 t15_1 t16_0 t16_1 t17_0 t18_0 t18_1 t19_0 t20_0 t20_1 t21_0 t21_1 t22_0 p717 (p717.2.1 : Int32) (p717.2.2.1 : Int32) (p717.2.2.2 : (Nat → Int32)) ((F_NH_keepWhole x5 (p717.2.1 : Int32) (p717.2.2.1 : Int32) (p717.2.2.2 : (Nat → Int32)) t18_0 t18_1 t19_0) : (Int32 × Int32 × Int32 × (Nat → Int32)))) else ((p717.1, t0_0, t0_1, (p717.2.1 : Int32), (p717.2.2.1 : Int32), (p717.2.2.2 : (Nat → Int32)), t3_0, t3_1, t4_0, t5_0, t5_1, t6_0, t7_0, t7_1, t8_0, t9_0, t9_1, t10_0, t11_0, t12_0, t18_0, t18_1, t19_0, t20_0, t20_1, t21_0, t21_1, t22_0))
def F_NH_convert (x2 : Int32) (x3 : Int32) (x4 : Int32) (x5 : Int32) (t0_0 : Int64) (t0_1 : Int32) (t1_0 : Int32) (t1_1 : Int32) (t2_0 : (Nat → Int32)) (t3_0 : Int32) (t3_1 : Int32) (t4_0 : (Nat → Int32)) (t5_0 : Int32) (t5_1 : Int32) (t6_0 : (Nat → Int32)) (t7_0 : Int32) (t7_1 : Int32) (t8_0 : (Nat → Int32)) (t9_0 : Int32) (t9_1 : Int32) (t10_0 : (Nat → Int32)) (t11_0 : (Nat → Int64)) (t12_0 : (Nat → Int64)) (t13_0 : Int32) (t13_1 : Int32) (t14_0 : (Nat → Int32)) (t15_0 : Int32) (t15_1 : Int32) (t16_0 : Int32) (t16_1 : Int32) (t17_0 : (Nat → Int32)) (t18_0 : Int32) (t18_1 : Int32) (t19_0 : (Nat → Int32)) (t20_0 : Int32) (t20_1 : Int32) (t21_0 : Int32) (t21_1 : Int32) (t22_0 : (Nat → Int32)) : Int32 × Int64 × Int32 × Int32 × Int32 × (Nat → Int32) × Int32 × Int32 × (Nat → Int32) × Int32 × Int32 × (Nat → Int32) × Int32 × Int32 × (Nat → Int32) × Int32 × Int32 × (Nat → Int32) × (Nat → Int64) × (Nat → Int64) × Int32 × Int32 × (Nat → Int32) × Int32 × Int32 × Int32 × Int32 × (Nat → Int32) := if (F_NH_needRegister x2 x3) = (0 : Int32) then (if (F_NH_needRegister x4 x5) = (0 : Int32) then (if x4 = (0 : Int32) then (F_NH_convert_c18 x2 x3 x4 x5 t0_0 t0_1 t1_0 t1_1 t2_0 t3_0 t3_1 t4_0 t5_0 t5_1 t6_0 t7_0 t7_1 t8_0 t9_0 t9_1 t10_0 t11_0 t12_0 t13_0 t13_1 t14_0 t15_0 t15_1 t16_0 t16_1 t17_0 t18_0 t18_1 t19_0 t20_0 t20_1 t21_0 t21_1 t22_0 ((F_NH_makeWhole x2 x3 t0_0 t0_1 t1_0 t1_1 t2_0 t11_0 t12_0 t13_0 t13_1 t14_0 t15_0 t15_1 t16_0 t16_1 t17_0) : (Int32 × Int32 × Int32 × (Nat → Int32)))) else (if x4 = (1 : Int32) then (F_NH_convert_c38 x2 x3 x4 x5 t0_0 t0_1 t1_0 t1_1 t2_0 t3_0 t3_1 t4_0 t5_0 t5_1 t6_0 t7_0 t7_1 t8_0 t9_0 t9_1 t10_0 t11_0 t12_0 t13_0 t13_1 t14_0 t15_0 t15_1 t16_0 t16_1 t17_0 t18_0 t18_1 t19_0 t20_0 t20_1 t21_0 t21_1 t22_0 ((F_NH_makeDecimal x2 x3 t0_0 t0_1 t1_0 t1_1 t2_0 t11_0 t12_0 t13_0 t13_1 t14_0 t15_0 t15_1 t16_0 t16_1 t17_0) : (Int32 × Int64 × Int32 × Int32 × Int32 × (Nat → Int32)))) else (if x4 = (2 : Int32) then (if x4 = (2 : Int32) then (F_NH_convert_c65 x2 x3 x4 x5 t0_0 t0_1 t1_0 t1_1 t2_0 t3_0 t3_1 t4_0 t5_0 t5_1 t6_0 t7_0 t7_1 t8_0 t9_0 t9_1 t10_0 t11_0 t12_0 t13_0 t13_1 t14_0 t15_0 t15_1 t16_0 t16_1 t17_0 t18_0 t18_1 t19_0 t20_0 t20_1 t21_0 t21_1 t22_0 ((F_NH_madeFloat_w x2 x3 t1_0 t1_1 t2_0 t3_0 t3_1 t4_0 t5_0 t5_1 t6_0 t7_0 t7_1 t8_0 t9_0 t9_1 t10_0 t11_0 t12_0 t13_0 t13_1 t14_0 t15_0 t15_1 t16_0 t16_1 t17_0) : (Int64 × Int32 × Int32 × (Nat → Int32) × Int32 × Int32 × (Nat → Int32) × Int32 × Int32 × (Nat → Int32) × Int32 × Int32 × (Nat → Int32) × Int32 × Int32 × (Nat → Int32)))) else (F_NH_convert_c65_2 x2 x3 x4 x5 t0_0 t0_1 t1_0 t1_1 t2_0 t3_0 t3_1 t4_0 t5_0 t5_1 t6_0 t7_0 t7_1 t8_0 t9_0 t9_1 t10_0 t11_0 t12_0 t13_0 t13_1 t14_0 t15_0 t15_1 t16_0 t16_1 t17_0 t18_0 t18_1 t19_0 t20_0 t20_1 t21_0 t21_1 t22_0 ((F_NH_madeFloat_n x2 x3 t1_0 t1_1 t2_0 t3_0 t3_1 t4_0 t5_0 t5_1 t6_0 t7_0 t7_1 t8_0 t9_0 t9_1 t10_0 t11_0 t12_0 t13_0 t13_1 t14_0 t15_0 t15_1 t16_0 t16_1 t17_0) : (Int64 × Int32 × Int32 × (Nat → Int32) × Int32 × Int32 × (Nat → Int32) × Int32 × Int32 × (Nat → Int32) × Int32 × Int32 × (Nat → Int32) × Int32 × Int32 × (Nat → Int32))))) else (if x4 = (2 : Int32) then (F_NH_convert_c65_3 x2 x3 x4 x5 t0_0 t0_1 t1_0 t1_1 t2_0 t3_0 t3_1 t4_0 t5_0 t5_1 t6_0 t7_0 t7_1 t8_0 t9_0 t9_1 t10_0 t11_0 t12_0 t13_0 t13_1 t14_0 t15_0 t15_1 t16_0 t16_1 t17_0 t18_0 t18_1 t19_0 t20_0 t20_1 t21_0 t21_1 t22_0 ((F_NH_madeFloat_w x2 x3 t1_0 t1_1 t2_0 t3_0 t3_1 t4_0 t5_0 t5_1 t6_0 t7_0 t7_1 t8_0 t9_0 t9_1 t10_0 t11_0 t12_0 t13_0 t13_1 t14_0 t15_0 t15_1 t16_0 t16_1 t17_0) : (Int64 × Int32 × Int32 × (Nat → Int32) × Int32 × Int32 × (Nat → Int32) × Int32 × Int32 × (Nat → Int32) × Int32 × Int32 × (Nat → Int32) × Int32 × Int32 × (Nat → Int32)))) else (F_NH_convert_c65_4 x2 x3 x4 x5 t0_0 t0_1 t1_0 t1_1 t2_0 t3_0 t3_1 t4_0 t5_0 t5_1 t6_0 t7_0 t7_1 t8_0 t9_0 t9_1 t10_0 t11_0 t12_0 t13_0 t13_1 t14_0 t15_0 t15_1 t16_0 t16_1 t17_0 t18_0 t18_1 t19_0 t20_0 t20_1 t21_0 t21_1 t22_0 ((F_NH_madeFloat_n x2 x3 t1_0 t1_1 t2_0 t3_0 t3_1 t4_0 t5_0 t5_1 t6_0 t7_0 t7_1 t8_0 t9_0 t9_1 t10_0 t11_0 t12_0 t13_0 t13_1 t14_0 t15_0 t15_1 t16_0 t16_1 t17_0) : (Int64 × Int32 × Int32 × (Nat → Int32) × Int32 × Int32 × (Nat → Int32) × Int32 × Int32 × (Nat → Int32) × Int32 × Int32 × (Nat → Int32) × Int32 × Int32 × (Nat → Int32)))))))) else (((F_NH_needRegister x4 x5), t0_0, t0_1, t1_0, t1_1, t2_0, t3_0, t3_1, t4_0, t5_0, t5_1, t6_0, t7_0, t7_1, t8_0, t9_0, t9_1, t10_0, t11_0, t12_0, t18_0, t18_1, t19_0, t20_0, t20_1, t21_0, t21_1, t22_0))) else (((F_NH_needRegister x2 x3), t0_0, t0_1, t1_0, t1_1, t2_0, t3_0, t3_1, t4_0, t5_0, t5_1, t6_0, t7_0, t7_1, t8_0, t9_0, t9_1, t10_0, t11_0, t12_0, t18_0, t18_1, t19_0, t20_0, t20_1, t21_0, t21_1, t22_0))
def S_NH_convert_c65 (x2 : Int32) (x3 : Int32) (x4 : Int32) (x5 : Int32) (t0_0 : Int64) (t0_1 : Int32) (t1_0 : Int32) (t1_1 : Int32) (t2_0 : (Nat → Int32)) (t3_0 : Int32) (t3_1 : Int32) (t4_0 : (Nat → Int32)) (t5_0 : Int32) (t5_1 : Int32) (t6_0 : (Nat → Int32)) (t7_0 : Int32) (t7_1 : Int32) (t8_0 : (Nat → Int32)) (t9_0 : Int32) (t9_1 : Int32) (t10_0 : (Nat → Int32)) (t11_0 : (Nat → Int64)) (t12_0 : (Nat → Int64)) (t13_0 : Int32) (t13_1 : Int32) (t14_0 : (Nat → Int32)) (t15_0 : Int32) (t15_1 : Int32) (t16_0 : Int32) (t16_1 : Int32) (t17_0 : (Nat → Int32)) (t18_0 : Int32) (t18_1 : Int32) (t19_0 : (Nat → Int32)) (t20_0 : Int32) (t20_1 : Int32) (t21_0 : Int32) (t21_1 : Int32) (t22_0 : (Nat → Int32)) (p202 : (Int64 × Int32 × Int32 × (Nat → Int32) × Int32 × Int32 × (Nat → Int32) × Int32 × Int32 × (Nat → Int32) × Int32 × Int32 × (Nat → Int32) × Int32 × Int32 × (Nat → Int32))) : Prop := (0 ≤ x5.toInt) ∧ ((x5.toInt ≤ 9) ∧ (True))
def S_NH_convert_c65_2 (x2 : Int32) (x3 : Int32) (x4 : Int32) (x5 : Int32) (t0_0 : Int64) (t0_1 : Int32) (t1_0 : Int32) (t1_1 : Int32) (t2_0 : (Nat → Int32)) (t3_0 : Int32) (t3_1 : Int32) (t4_0 : (Nat → Int32)) (t5_0 : Int32) (t5_1 : Int32) (t6_0 : (Nat → Int32)) (t7_0 : Int32) (t7_1 : Int32) (t8_0 : (Nat → Int32)) (t9_0 : Int32) (t9_1 : Int32) (t10_0 : (Nat → Int32)) (t11_0 : (Nat → Int64)) (t12_0 : (Nat → Int64)) (t13_0 : Int32) (t13_1 : Int32) (t14_0 : (Nat → Int32)) (t15_0 : Int32) (t15_1 : Int32) (t16_0 : Int32) (t16_1 : Int32) (t17_0 : (Nat → Int32)) (t18_0 : Int32) (t18_1 : Int32) (t19_0 : (Nat → Int32)) (t20_0 : Int32) (t20_1 : Int32) (t21_0 : Int32) (t21_1 : Int32) (t22_0 : (Nat → Int32)) (p307 : (Int64 × Int32 × Int32 × (Nat → Int32) × Int32 × Int32 × (Nat → Int32) × Int32 × Int32 × (Nat → Int32) × Int32 × Int32 × (Nat → Int32) × Int32 × Int32 × (Nat → Int32))) : Prop := (0 ≤ x5.toInt) ∧ ((x5.toInt ≤ 9) ∧ (True))
def S_NH_convert_c65_3 (x2 : Int32) (x3 : Int32) (x4 : Int32) (x5 : Int32) (t0_0 : Int64) (t0_1 : Int32) (t1_0 : Int32) (t1_1 : Int32) (t2_0 : (Nat → Int32)) (t3_0 : Int32) (t3_1 : Int32) (t4_0 : (Nat → Int32)) (t5_0 : Int32) (t5_1 : Int32) (t6_0 : (Nat → Int32)) (t7_0 : Int32) (t7_1 : Int32) (t8_0 : (Nat → Int32)) (t9_0 : Int32) (t9_1 : Int32) (t10_0 : (Nat → Int32)) (t11_0 : (Nat → Int64)) (t12_0 : (Nat → Int64)) (t13_0 : Int32) (t13_1 : Int32) (t14_0 : (Nat → Int32)) (t15_0 : Int32) (t15_1 : Int32) (t16_0 : Int32) (t16_1 : Int32) (t17_0 : (Nat → Int32)) (t18_0 : Int32) (t18_1 : Int32) (t19_0 : (Nat → Int32)) (t20_0 : Int32) (t20_1 : Int32) (t21_0 : Int32) (t21_1 : Int32) (t22_0 : (Nat → Int32)) (p419 : (Int64 × Int32 × Int32 × (Nat → Int32) × Int32 × Int32 × (Nat → Int32) × Int32 × Int32 × (Nat → Int32) × Int32 × Int32 × (Nat → Int32) × Int32 × Int32 × (Nat → Int32))) : Prop := (0 ≤ x5.toInt) ∧ ((x5.toInt ≤ 9) ∧ (True))
def S_NH_convert_c65_4 (x2 : Int32) (x3 : Int32) (x4 : Int32) (x5 : Int32) (t0_0 : Int64) (t0_1 : Int32) (t1_0 : Int32) (t1_1 : Int32) (t2_0 : (Nat → Int32)) (t3_0 : Int32) (t3_1 : Int32) (t4_0 : (Nat → Int32)) (t5_0 : Int32) (t5_1 : Int32) (t6_0 : (Nat → Int32)) (t7_0 : Int32) (t7_1 : Int32) (t8_0 : (Nat → Int32)) (t9_0 : Int32) (t9_1 : Int32) (t10_0 : (Nat → Int32)) (t11_0 : (Nat → Int64)) (t12_0 : (Nat → Int64)) (t13_0 : Int32) (t13_1 : Int32) (t14_0 : (Nat → Int32)) (t15_0 : Int32) (t15_1 : Int32) (t16_0 : Int32) (t16_1 : Int32) (t17_0 : (Nat → Int32)) (t18_0 : Int32) (t18_1 : Int32) (t19_0 : (Nat → Int32)) (t20_0 : Int32) (t20_1 : Int32) (t21_0 : Int32) (t21_1 : Int32) (t22_0 : (Nat → Int32)) (p524 : (Int64 × Int32 × Int32 × (Nat → Int32) × Int32 × Int32 × (Nat → Int32) × Int32 × Int32 × (Nat → Int32) × Int32 × Int32 × (Nat → Int32) × Int32 × Int32 × (Nat → Int32))) : Prop := (0 ≤ x5.toInt) ∧ ((x5.toInt ≤ 9) ∧ (True))
def S_NH_convert_c44 (x2 : Int32) (x3 : Int32) (x4 : Int32) (x5 : Int32) (t0_0 : Int64) (t0_1 : Int32) (t1_0 : Int32) (t1_1 : Int32) (t2_0 : (Nat → Int32)) (t3_0 : Int32) (t3_1 : Int32) (t4_0 : (Nat → Int32)) (t5_0 : Int32) (t5_1 : Int32) (t6_0 : (Nat → Int32)) (t7_0 : Int32) (t7_1 : Int32) (t8_0 : (Nat → Int32)) (t9_0 : Int32) (t9_1 : Int32) (t10_0 : (Nat → Int32)) (t11_0 : (Nat → Int64)) (t12_0 : (Nat → Int64)) (t13_0 : Int32) (t13_1 : Int32) (t14_0 : (Nat → Int32)) (t15_0 : Int32) (t15_1 : Int32) (t16_0 : Int32) (t16_1 : Int32) (t17_0 : (Nat → Int32)) (t18_0 : Int32) (t18_1 : Int32) (t19_0 : (Nat → Int32)) (t20_0 : Int32) (t20_1 : Int32) (t21_0 : Int32) (t21_1 : Int32) (t22_0 : (Nat → Int32)) (p571 : (Int32 × Int64 × Int32 × Int32 × Int32 × (Nat → Int32))) (y585 : Int64) (y586 : Int32) (y588 : Int32) (y589 : Int32) (f590 : (Nat → Int32)) (p638 : (Int32 × Int32 × Int32 × (Nat → Int32) × Int32 × Int32 × Int32 × Int32 × (Nat → Int32))) : Prop := if p638.1 = (0 : Int32) then (True) else (True)
def S_NH_convert_c38 (x2 : Int32) (x3 : Int32) (x4 : Int32) (x5 : Int32) (t0_0 : Int64) (t0_1 : Int32) (t1_0 : Int32) (t1_1 : Int32) (t2_0 : (Nat → Int32)) (t3_0 : Int32) (t3_1 : Int32) (t4_0 : (Nat → Int32)) (t5_0 : Int32) (t5_1 : Int32) (t6_0 : (Nat → Int32)) (t7_0 : Int32) (t7_1 : Int32) (t8_0 : (Nat → Int32)) (t9_0 : Int32) (t9_1 : Int32) (t10_0 : (Nat → Int32)) (t11_0 : (Nat → Int64)) (t12_0 : (Nat → Int64)) (t13_0 : Int32) (t13_1 : Int32) (t14_0 : (Nat → Int32)) (t15_0 : Int32) (t15_1 : Int32) (t16_0 : Int32) (t16_1 : Int32) (t17_0 : (Nat → Int32)) (t18_0 : Int32) (t18_1 : Int32) (t19_0 : (Nat → Int32)) (t20_0 : Int32) (t20_1 : Int32) (t21_0 : Int32) (t21_1 : Int32) (t22_0 : (Nat → Int32)) (p571 : (Int32 × Int64 × Int32 × Int32 × Int32 × (Nat → Int32))) : Prop := if p571.1 = (0 : Int32) then ((True ∧ S_NH_keepDecimal x5 (p571.2.1 : Int64) (p571.2.2.1 : Int32) (p571.2.2.2.1 : Int32) (p571.2.2.2.2.1 : Int32) (p571.2.2.2.2.2 : (Nat → Int32)) t5_0 t5_1 t6_0 t20_0 t20_1 t21_0 t21_1 t22_0) ∧ (S_NH_convert_c44 x2 x3 x4 x5 t0_0 t0_1 t1_0 t1_1 t2_0 t3_0 t3_1 t4_0 t5_0 t5_1 t6_0 t7_0 t7_1 t8_0 t9_0 t9_1 t10_0 t11_0 t12_0 t13_0 t13_1 t14_0 t15_0 t15_1 t16_0 t16_1 t17_0 t18_0 t18_1 t19_0 t20_0 t20_1 t21_0 t21_1 t22_0 p571 (p571.2.1 : Int64) (p571.2.2.1 : Int32) (p571.2.2.2.1 : Int32) (p571.2.2.2.2.1 : Int32) (p571.2.2.2.2.2 : (Nat → Int32)) ((F_NH_keepDecimal x5 (p571.2.1 : Int64) (p571.2.2.1 : Int32) (p571.2.2.2.1 : Int32) (p571.2.2.2.2.1 : Int32) (p571.2.2.2.2.2 : (Nat → Int32)) t5_0 t5_1 t6_0 t20_0 t20_1 t21_0 t21_1 t22_0) : (Int32 × Int32 × Int32 × (Nat → Int32) × Int32 × Int32 × Int32 × Int32 × (Nat → Int32))))) else (True)
def S_NH_convert_c24 (x2 : Int32) (x3 : Int32) (x4 : Int32) (x5 : Int32) (t0_0 : Int64) (t0_1 : Int32) (t1_0 : Int32) (t1_1 : Int32) (t2_0 : (Nat → Int32)) (t3_0 : Int32) (t3_1 : Int32) (t4_0 : (Nat → Int32)) (t5_0 : Int32) (t5_1 : Int32) (t6_0 : (Nat → Int32)) (t7_0 : Int32) (t7_1 : Int32) (t8_0 : (Nat → Int32)) (t9_0 : Int32) (t9_1 : Int32) (t10_0 : (Nat → Int32)) (t11_0 : (Nat → Int64)) (t12_0 : (Nat → Int64)) (t13_0 : Int32) (t13_1 : Int32) (t14_0 : (Nat → Int32)) (t15_0 : Int32) (t15_1 : Int32) (t16_0 : Int32) (t16_1 : Int32) (t17_0 : (Nat → Int32)) (t18_0 : Int32) (t18_1 : Int32) (t19_0 : (Nat → Int32)) (t20_0 : Int32) (t20_1 : Int32) (t21_0 : Int32) (t21_1 : Int32) (t22_0 : (Nat → Int32)) (p717 : (Int32 × Int32 × Int32 × (Nat → Int32))) (y729 : Int32) (y730 : Int32) (f731 : (Nat → Int32)) (p760 : (Int32 × Int32 × Int32 × (Nat → Int32))) : Prop := if p760.1 = (0 : Int32) then (True) else (True)
def S_NH_convert_c18 (x2 : Int32) (x3 : Int32) (x4 : Int32) (x5 : Int32) (t0_0 : Int64) (t0_1 : Int32) (t1_0 : Int32) (t1_1 : Int32) (t2_0 : (Nat → Int32)) (t3_0 : Int32) (t3_1 : Int32) (t4_0 : (Nat → Int32)) (t5_0 : Int32) (t5_1 : Int32) (t6_0 : (Nat → Int32)) (t7_0 : Int32) (t7_1 : Int32) (t8_0 : (Nat → Int32)) (t9_0 : Int32) (t9_1 : Int32) (t10_0 : (Nat → Int32)) (t11_0 : (Nat → Int64)) (t12_0 : (Nat → Int64)) (t13_0 : Int32) (t13_1 : Int32) (t14_0 : (Nat → Int32)) (t15_0 : Int32) (t15_1 : Int32) (t16_0 : Int32) (t16_1 : Int32) (t17_0 : (Nat → Int32)) (t18_0 : Int32) (t18_1 : Int32) (t19_0 : (Nat → Int32)) (t20_0 : Int32) (t20_1 : Int32) (t21_0 : Int32) (t21_1 : Int32) (t22_0 : (Nat → Int32)) (p717 : (Int32 × Int32 × Int32 × (Nat → Int32))) : Prop := if p717.1 = (0 : Int32) then ((True ∧ S_NH_keepWhole x5 (p717.2.1 : Int32) (p717.2.2.1 : Int32) (p717.2.2.2 : (Nat → Int32)) t18_0 t18_1 t19_0) ∧ (S_NH_convert_c24 x2 x3 x4 x5 t0_0 t0_1 t1_0 t1_1 t2_0 t3_0 t3_1 t4_0 t5_0 t5_1 t6_0 t7_0 t7_1 t8_0 t9_0 t9_1 t10_0 t11_0 t12_0 t13_0 t13_1 t14_0 t15_0 t15_1 t16_0 t16_1 t17_0 t18_0 t18_1 t19_0 t20_0 t20_1 t21_0 t21_1 t22_0 p717 (p717.2.1 : Int32) (p717.2.2.1 : Int32) (p717.2.2.2 : (Nat → Int32)) ((F_NH_keepWhole x5 (p717.2.1 : Int32) (p717.2.2.1 : Int32) (p717.2.2.2 : (Nat → Int32)) t18_0 t18_1 t19_0) : (Int32 × Int32 × Int32 × (Nat → Int32))))) else (True)
def S_NH_convert (x2 : Int32) (x3 : Int32) (x4 : Int32) (x5 : Int32) (t0_0 : Int64) (t0_1 : Int32) (t1_0 : Int32) (t1_1 : Int32) (t2_0 : (Nat → Int32)) (t3_0 : Int32) (t3_1 : Int32) (t4_0 : (Nat → Int32)) (t5_0 : Int32) (t5_1 : Int32) (t6_0 : (Nat → Int32)) (t7_0 : Int32) (t7_1 : Int32) (t8_0 : (Nat → Int32)) (t9_0 : Int32) (t9_1 : Int32) (t10_0 : (Nat → Int32)) (t11_0 : (Nat → Int64)) (t12_0 : (Nat → Int64)) (t13_0 : Int32) (t13_1 : Int32) (t14_0 : (Nat → Int32)) (t15_0 : Int32) (t15_1 : Int32) (t16_0 : Int32) (t16_1 : Int32) (t17_0 : (Nat → Int32)) (t18_0 : Int32) (t18_1 : Int32) (t19_0 : (Nat → Int32)) (t20_0 : Int32) (t20_1 : Int32) (t21_0 : Int32) (t21_1 : Int32) (t22_0 : (Nat → Int32)) : Prop := if (F_NH_needRegister x2 x3) = (0 : Int32) then (if (F_NH_needRegister x4 x5) = (0 : Int32) then (if x4 = (0 : Int32) then ((True ∧ S_NH_makeWhole x2 x3 t0_0 t0_1 t1_0 t1_1 t2_0 t11_0 t12_0 t13_0 t13_1 t14_0 t15_0 t15_1 t16_0 t16_1 t17_0) ∧ (S_NH_convert_c18 x2 x3 x4 x5 t0_0 t0_1 t1_0 t1_1 t2_0 t3_0 t3_1 t4_0 t5_0 t5_1 t6_0 t7_0 t7_1 t8_0 t9_0 t9_1 t10_0 t11_0 t12_0 t13_0 t13_1 t14_0 t15_0 t15_1 t16_0 t16_1 t17_0 t18_0 t18_1 t19_0 t20_0 t20_1 t21_0 t21_1 t22_0 ((F_NH_makeWhole x2 x3 t0_0 t0_1 t1_0 t1_1 t2_0 t11_0 t12_0 t13_0 t13_1 t14_0 t15_0 t15_1 t16_0 t16_1 t17_0) : (Int32 × Int32 × Int32 × (Nat → Int32))))) else (if x4 = (1 : Int32) then ((True ∧ S_NH_makeDecimal x2 x3 t0_0 t0_1 t1_0 t1_1 t2_0 t11_0 t12_0 t13_0 t13_1 t14_0 t15_0 t15_1 t16_0 t16_1 t17_0) ∧ (S_NH_convert_c38 x2 x3 x4 x5 t0_0 t0_1 t1_0 t1_1 t2_0 t3_0 t3_1 t4_0 t5_0 t5_1 t6_0 t7_0 t7_1 t8_0 t9_0 t9_1 t10_0 t11_0 t12_0 t13_0 t13_1 t14_0 t15_0 t15_1 t16_0 t16_1 t17_0 t18_0 t18_1 t19_0 t20_0 t20_1 t21_0 t21_1 t22_0 ((F_NH_makeDecimal x2 x3 t0_0 t0_1 t1_0 t1_1 t2_0 t11_0 t12_0 t13_0 t13_1 t14_0 t15_0 t15_1 t16_0 t16_1 t17_0) : (Int32 × Int64 × Int32 × Int32 × Int32 × (Nat → Int32))))) else (if x4 = (2 : Int32) then (if x4 = (2 : Int32) then ((True ∧ S_NH_madeFloat_w x2 x3 t1_0 t1_1 t2_0 t3_0 t3_1 t4_0 t5_0 t5_1 t6_0 t7_0 t7_1 t8_0 t9_0 t9_1 t10_0 t11_0 t12_0 t13_0 t13_1 t14_0 t15_0 t15_1 t16_0 t16_1 t17_0) ∧ (S_NH_convert_c65 x2 x3 x4 x5 t0_0 t0_1 t1_0 t1_1 t2_0 t3_0 t3_1 t4_0 t5_0 t5_1 t6_0 t7_0 t7_1 t8_0 t9_0 t9_1 t10_0 t11_0 t12_0 t13_0 t13_1 t14_0 t15_0 t15_1 t16_0 t16_1 t17_0 t18_0 t18_1 t19_0 t20_0 t20_1 t21_0 t21_1 t22_0 ((F_NH_madeFloat_w x2 x3 t1_0 t1_1 t2_0 t3_0 t3_1 t4_0 t5_0 t5_1 t6_0 t7_0 t7_1 t8_0 t9_0 t9_1 t10_0 t11_0 t12_0 t13_0 t13_1 t14_0 t15_0 t15_1 t16_0 t16_1 t17_0) : (Int64 × Int32 × Int32 × (Nat → Int32) × Int32 × Int32 × (Nat → Int32) × Int32 × Int32 × (Nat → Int32) × Int32 × Int32 × (Nat → Int32) × Int32 × Int32 × (Nat → Int32))))) else ((True ∧ S_NH_madeFloat_n x2 x3 t1_0 t1_1 t2_0 t3_0 t3_1 t4_0 t5_0 t5_1 t6_0 t7_0 t7_1 t8_0 t9_0 t9_1 t10_0 t11_0 t12_0 t13_0 t13_1 t14_0 t15_0 t15_1 t16_0 t16_1 t17_0) ∧ (S_NH_convert_c65_2 x2 x3 x4 x5 t0_0 t0_1 t1_0 t1_1 t2_0 t3_0 t3_1 t4_0 t5_0 t5_1 t6_0 t7_0 t7_1 t8_0 t9_0 t9_1 t10_0 t11_0 t12_0 t13_0 t13_1 t14_0 t15_0 t15_1 t16_0 t16_1 t17_0 t18_0 t18_1 t19_0 t20_0 t20_1 t21_0 t21_1 t22_0 ((F_NH_madeFloat_n x2 x3 t1_0 t1_1 t2_0 t3_0 t3_1 t4_0 t5_0 t5_1 t6_0 t7_0 t7_1 t8_0 t9_0 t9_1 t10_0 t11_0 t12_0 t13_0 t13_1 t14_0 t15_0 t15_1 t16_0 t16_1 t17_0) : (Int64 × Int32 × Int32 × (Nat → Int32) × Int32 × Int32 × (Nat → Int32) × Int32 × Int32 × (Nat → Int32) × Int32 × Int32 × (Nat → Int32) × Int32 × Int32 × (Nat → Int32)))))) else (if x4 = (2 : Int32) then ((True ∧ S_NH_madeFloat_w x2 x3 t1_0 t1_1 t2_0 t3_0 t3_1 t4_0 t5_0 t5_1 t6_0 t7_0 t7_1 t8_0 t9_0 t9_1 t10_0 t11_0 t12_0 t13_0 t13_1 t14_0 t15_0 t15_1 t16_0 t16_1 t17_0) ∧ (S_NH_convert_c65_3 x2 x3 x4 x5 t0_0 t0_1 t1_0 t1_1 t2_0 t3_0 t3_1 t4_0 t5_0 t5_1 t6_0 t7_0 t7_1 t8_0 t9_0 t9_1 t10_0 t11_0 t12_0 t13_0 t13_1 t14_0 t15_0 t15_1 t16_0 t16_1 t17_0 t18_0 t18_1 t19_0 t20_0 t20_1 t21_0 t21_1 t22_0 ((F_NH_madeFloat_w x2 x3 t1_0 t1_1 t2_0 t3_0 t3_1 t4_0 t5_0 t5_1 t6_0 t7_0 t7_1 t8_0 t9_0 t9_1 t10_0 t11_0 t12_0 t13_0 t13_1 t14_0 t15_0 t15_1 t16_0 t16_1 t17_0) : (Int64 × Int32 × Int32 × (Nat → Int32) × Int32 × Int32 × (Nat → Int32) × Int32 × Int32 × (Nat → Int32) × Int32 × Int32 × (Nat → Int32) × Int32 × Int32 × (Nat → Int32))))) else ((True ∧ S_NH_madeFloat_n x2 x3 t1_0 t1_1 t2_0 t3_0 t3_1 t4_0 t5_0 t5_1 t6_0 t7_0 t7_1 t8_0 t9_0 t9_1 t10_0 t11_0 t12_0 t13_0 t13_1 t14_0 t15_0 t15_1 t16_0 t16_1 t17_0) ∧ (S_NH_convert_c65_4 x2 x3 x4 x5 t0_0 t0_1 t1_0 t1_1 t2_0 t3_0 t3_1 t4_0 t5_0 t5_1 t6_0 t7_0 t7_1 t8_0 t9_0 t9_1 t10_0 t11_0 t12_0 t13_0 t13_1 t14_0 t15_0 t15_1 t16_0 t16_1 t17_0 t18_0 t18_1 t19_0 t20_0 t20_1 t21_0 t21_1 t22_0 ((F_NH_madeFloat_n x2 x3 t1_0 t1_1 t2_0 t3_0 t3_1 t4_0 t5_0 t5_1 t6_0 t7_0 t7_1 t8_0 t9_0 t9_1 t10_0 t11_0 t12_0 t13_0 t13_1 t14_0 t15_0 t15_1 t16_0 t16_1 t17_0) : (Int64 × Int32 × Int32 × (Nat → Int32) × Int32 × Int32 × (Nat → Int32) × Int32 × Int32 × (Nat → Int32) × Int32 × Int32 × (Nat → Int32) × Int32 × Int32 × (Nat → Int32))))))))) else (True)) else (True)
set_option maxRecDepth 100000 in
set_option maxHeartbeats 4000000 in
theorem X_NH_convert (l : Launch) (D : va_G) (g : Nat → ClassId) (q : Nat → Nat) (ws : va_W) (x2 : Int32) (x3 : Int32) (x4 : Int32) (x5 : Int32) (k3 : Nat) (hBk3 : q_isBig (nsh g q) g q k3 68) (yk3 : 66 ≤ k3) (gk3x3 : x3.toNatClampNeg < 10 → k3 = 66 + 5 * x3.toNatClampNeg) (d3 : Nat) (hBd3 : q_isDec (nsh g q) g q d3 108) (yd3 : 66 ≤ d3) (gd3x3 : x3.toNatClampNeg < 10 → d3 = 68 + 5 * x3.toNatClampNeg) (k5 : Nat) (hBk5 : q_isBig (nsh g q) g q k5 68) (yk5 : 66 ≤ k5) (gk5x5 : x5.toNatClampNeg < 10 → k5 = 66 + 5 * x5.toNatClampNeg) (d5 : Nat) (hBd5 : q_isDec (nsh g q) g q d5 108) (yd5 : 66 ≤ d5) (gd5x5 : x5.toNatClampNeg < 10 → d5 = 68 + 5 * x5.toNatClampNeg) (ne_k3_d3 : k3 ≠ d3) (ne_k3_d3p1 : k3 ≠ d3 + 1) (ne_k3_d3p2 : k3 ≠ d3 + 2) (ne_d3_k3p1 : d3 ≠ k3 + 1) (ne_k5_d5 : k5 ≠ d5) (ne_k5_d5p1 : k5 ≠ d5 + 1) (ne_k5_d5p2 : k5 ≠ d5 + 2) (ne_d5_k5p1 : d5 ≠ k5 + 1) (hlt : l.stackTraces = false) (hI : q_I (nsh g q) q ws) (t0_0 : Int64) (t0_1 : Int32) (hT0 : ws[30]? = (some (q 30, .inr (5, [.ref (q 31), .long t0_0, .ref (q 9), .int t0_1])) : Option (Nat × va_E))) (t1_0 : Int32) (t1_1 : Int32) (hT1 : ws[10]? = (some (q 10, .inr (2, [.ref (q 11), .int t1_0, .int t1_1])) : Option (Nat × va_E))) (t2_0 : (Nat → Int32)) (hT2 : ws[11]? = (some (q 11, .inl (g 0, (220 : Int32).toNatClampNeg, .inl t2_0)) : Option (Nat × va_E))) (t3_0 : Int32) (t3_1 : Int32) (hT3 : ws[12]? = (some (q 12, .inr (2, [.ref (q 13), .int t3_0, .int t3_1])) : Option (Nat × va_E))) (t4_0 : (Nat → Int32)) (hT4 : ws[13]? = (some (q 13, .inl (g 0, (220 : Int32).toNatClampNeg, .inl t4_0)) : Option (Nat × va_E))) (t5_0 : Int32) (t5_1 : Int32) (hT5 : ws[20]? = (some (q 20, .inr (2, [.ref (q 21), .int t5_0, .int t5_1])) : Option (Nat × va_E))) (t6_0 : (Nat → Int32)) (hT6 : ws[21]? = (some (q 21, .inl (g 0, (220 : Int32).toNatClampNeg, .inl t6_0)) : Option (Nat × va_E))) (t7_0 : Int32) (t7_1 : Int32) (hT7 : ws[22]? = (some (q 22, .inr (2, [.ref (q 23), .int t7_0, .int t7_1])) : Option (Nat × va_E))) (t8_0 : (Nat → Int32)) (hT8 : ws[23]? = (some (q 23, .inl (g 0, (220 : Int32).toNatClampNeg, .inl t8_0)) : Option (Nat × va_E))) (t9_0 : Int32) (t9_1 : Int32) (hT9 : ws[24]? = (some (q 24, .inr (2, [.ref (q 25), .int t9_0, .int t9_1])) : Option (Nat × va_E))) (t10_0 : (Nat → Int32)) (hT10 : ws[25]? = (some (q 25, .inl (g 0, (220 : Int32).toNatClampNeg, .inl t10_0)) : Option (Nat × va_E))) (t11_0 : (Nat → Int64)) (hT11 : ws[7]? = (some (q 7, .inl (g 1, 10, .inr (.inl t11_0))) : Option (Nat × va_E))) (t12_0 : (Nat → Int64)) (hT12 : ws[8]? = (some (q 8, .inl (g 1, 10, .inr (.inl t12_0))) : Option (Nat × va_E))) (t13_0 : Int32) (t13_1 : Int32) (hT13 : ws[k3]? = (some (q k3, .inr (2, [.ref (q (k3 + 1)), .int t13_0, .int t13_1])) : Option (Nat × va_E))) (t14_0 : (Nat → Int32)) (hT14 : ws[k3 + 1]? = (some (q (k3 + 1), .inl (g 0, (68 : Int32).toNatClampNeg, .inl t14_0)) : Option (Nat × va_E))) (t15_0 : Int32) (t15_1 : Int32) (hT15 : ws[d3]? = (some (q d3, .inr (3, [.ref (q (d3 + 1)), .int t15_0, .int t15_1])) : Option (Nat × va_E))) (t16_0 : Int32) (t16_1 : Int32) (hT16 : ws[d3 + 1]? = (some (q (d3 + 1), .inr (2, [.ref (q (d3 + 2)), .int t16_0, .int t16_1])) : Option (Nat × va_E))) (t17_0 : (Nat → Int32)) (hT17 : ws[d3 + 2]? = (some (q (d3 + 2), .inl (g 0, (108 : Int32).toNatClampNeg, .inl t17_0)) : Option (Nat × va_E))) (t18_0 : Int32) (t18_1 : Int32) (hT18 : ws[k5]? = (some (q k5, .inr (2, [.ref (q (k5 + 1)), .int t18_0, .int t18_1])) : Option (Nat × va_E))) (t19_0 : (Nat → Int32)) (hT19 : ws[k5 + 1]? = (some (q (k5 + 1), .inl (g 0, (68 : Int32).toNatClampNeg, .inl t19_0)) : Option (Nat × va_E))) (t20_0 : Int32) (t20_1 : Int32) (hT20 : ws[d5]? = (some (q d5, .inr (3, [.ref (q (d5 + 1)), .int t20_0, .int t20_1])) : Option (Nat × va_E))) (t21_0 : Int32) (t21_1 : Int32) (hT21 : ws[d5 + 1]? = (some (q (d5 + 1), .inr (2, [.ref (q (d5 + 2)), .int t21_0, .int t21_1])) : Option (Nat × va_E))) (t22_0 : (Nat → Int32)) (hT22 : ws[d5 + 2]? = (some (q (d5 + 2), .inl (g 0, (108 : Int32).toNatClampNeg, .inl t22_0)) : Option (Nat × va_E))) (hS : True ∧ S_NH_convert x2 x3 x4 x5 t0_0 t0_1 t1_0 t1_1 t2_0 t3_0 t3_1 t4_0 t5_0 t5_1 t6_0 t7_0 t7_1 t8_0 t9_0 t9_1 t10_0 t11_0 t12_0 t13_0 t13_1 t14_0 t15_0 t15_1 t16_0 t16_1 t17_0 t18_0 t18_1 t19_0 t20_0 t20_1 t21_0 t21_1 t22_0) : ∀ sz, q_Mx l y_NH_convert prog_1_method_16_code 5 none 9 4 24 D g [.ref (q 0), .int x2, .int x3, .int x4, .int x5] ws sz (va_Qv (fun u => q_I (nsh g q) q u ∧ q_un ws u [7, 8, 10, 11, 12, 13, 20, 21, 22, 23, 24, 25, 30, d5, d5 + 1, d5 + 2, k5, k5 + 1] ∧ ∃ (u0_0 : Int64) (u0_1 : Int32) (u1_0 : Int32) (u1_1 : Int32) (u2_0 : (Nat → Int32)) (u3_0 : Int32) (u3_1 : Int32) (u4_0 : (Nat → Int32)) (u5_0 : Int32) (u5_1 : Int32) (u6_0 : (Nat → Int32)) (u7_0 : Int32) (u7_1 : Int32) (u8_0 : (Nat → Int32)) (u9_0 : Int32) (u9_1 : Int32) (u10_0 : (Nat → Int32)) (u11_0 : (Nat → Int64)) (u12_0 : (Nat → Int64)) (u18_0 : Int32) (u18_1 : Int32) (u19_0 : (Nat → Int32)) (u20_0 : Int32) (u20_1 : Int32) (u21_0 : Int32) (u21_1 : Int32) (u22_0 : (Nat → Int32)), u[30]? = (some (q 30, .inr (5, [.ref (q 31), .long u0_0, .ref (q 9), .int u0_1])) : Option (Nat × va_E)) ∧ u[10]? = (some (q 10, .inr (2, [.ref (q 11), .int u1_0, .int u1_1])) : Option (Nat × va_E)) ∧ u[11]? = (some (q 11, .inl (g 0, (220 : Int32).toNatClampNeg, .inl u2_0)) : Option (Nat × va_E)) ∧ u[12]? = (some (q 12, .inr (2, [.ref (q 13), .int u3_0, .int u3_1])) : Option (Nat × va_E)) ∧ u[13]? = (some (q 13, .inl (g 0, (220 : Int32).toNatClampNeg, .inl u4_0)) : Option (Nat × va_E)) ∧ u[20]? = (some (q 20, .inr (2, [.ref (q 21), .int u5_0, .int u5_1])) : Option (Nat × va_E)) ∧ u[21]? = (some (q 21, .inl (g 0, (220 : Int32).toNatClampNeg, .inl u6_0)) : Option (Nat × va_E)) ∧ u[22]? = (some (q 22, .inr (2, [.ref (q 23), .int u7_0, .int u7_1])) : Option (Nat × va_E)) ∧ u[23]? = (some (q 23, .inl (g 0, (220 : Int32).toNatClampNeg, .inl u8_0)) : Option (Nat × va_E)) ∧ u[24]? = (some (q 24, .inr (2, [.ref (q 25), .int u9_0, .int u9_1])) : Option (Nat × va_E)) ∧ u[25]? = (some (q 25, .inl (g 0, (220 : Int32).toNatClampNeg, .inl u10_0)) : Option (Nat × va_E)) ∧ u[7]? = (some (q 7, .inl (g 1, 10, .inr (.inl u11_0))) : Option (Nat × va_E)) ∧ u[8]? = (some (q 8, .inl (g 1, 10, .inr (.inl u12_0))) : Option (Nat × va_E)) ∧ u[k5]? = (some (q k5, .inr (2, [.ref (q (k5 + 1)), .int u18_0, .int u18_1])) : Option (Nat × va_E)) ∧ u[k5 + 1]? = (some (q (k5 + 1), .inl (g 0, (68 : Int32).toNatClampNeg, .inl u19_0)) : Option (Nat × va_E)) ∧ u[d5]? = (some (q d5, .inr (3, [.ref (q (d5 + 1)), .int u20_0, .int u20_1])) : Option (Nat × va_E)) ∧ u[d5 + 1]? = (some (q (d5 + 1), .inr (2, [.ref (q (d5 + 2)), .int u21_0, .int u21_1])) : Option (Nat × va_E)) ∧ u[d5 + 2]? = (some (q (d5 + 2), .inl (g 0, (108 : Int32).toNatClampNeg, .inl u22_0)) : Option (Nat × va_E)) ∧ (0 ≤ u0_1.toInt) ∧ (u0_1.toInt ≤ 1) ∧ (0 ≤ u1_0.toInt) ∧ (u1_0.toInt ≤ 220) ∧ (0 ≤ u1_1.toInt) ∧ (u1_1.toInt ≤ 1) ∧ (0 ≤ u3_0.toInt) ∧ (u3_0.toInt ≤ 220) ∧ (0 ≤ u3_1.toInt) ∧ (u3_1.toInt ≤ 1) ∧ (0 ≤ u5_0.toInt) ∧ (u5_0.toInt ≤ 220) ∧ (0 ≤ u5_1.toInt) ∧ (u5_1.toInt ≤ 1) ∧ (0 ≤ u7_0.toInt) ∧ (u7_0.toInt ≤ 220) ∧ (0 ≤ u7_1.toInt) ∧ (u7_1.toInt ≤ 2) ∧ (0 ≤ u9_0.toInt) ∧ (u9_0.toInt ≤ 220) ∧ (0 ≤ u9_1.toInt) ∧ (u9_1.toInt ≤ 1) ∧ (0 ≤ u18_0.toInt) ∧ (u18_0.toInt ≤ 68) ∧ (0 ≤ u18_1.toInt) ∧ (u18_1.toInt ≤ 1) ∧ (0 ≤ u20_0.toInt + 10000) ∧ (u20_0.toInt ≤ 10000) ∧ (1 ≤ u20_1.toInt) ∧ (u20_1.toInt ≤ 1000) ∧ (0 ≤ u21_0.toInt) ∧ (u21_0.toInt ≤ 108) ∧ (0 ≤ u21_1.toInt) ∧ (u21_1.toInt ≤ 1) ∧ (x5.toInt ≤ u0_1.toInt + 10) ∧ (u0_1.toInt ≤ x5.toInt + 2) ∧ (t0_1.toInt ≤ u0_1.toInt) ∧ (u0_1.toInt ≤ t0_1.toInt) ∧ (x3.toInt ≤ u1_0.toInt + 9) ∧ (u1_0.toInt ≤ x3.toInt + 220) ∧ (x5.toInt ≤ u1_0.toInt + 10) ∧ (u1_0.toInt ≤ x5.toInt + 221) ∧ (x3.toInt ≤ u1_1.toInt + 9) ∧ (u1_1.toInt ≤ x3.toInt + 1) ∧ (x5.toInt ≤ u1_1.toInt + 10) ∧ (u1_1.toInt ≤ x5.toInt + 2) ∧ (x5.toInt ≤ u3_0.toInt + 10) ∧ (u3_0.toInt ≤ x5.toInt + 221) ∧ (x5.toInt ≤ u3_1.toInt + 10) ∧ (u3_1.toInt ≤ x5.toInt + 2) ∧ (u3_1.toInt ≤ t3_1.toInt) ∧ (x5.toInt ≤ u5_0.toInt + 10) ∧ (u5_0.toInt ≤ x5.toInt + 221) ∧ (x5.toInt ≤ u5_1.toInt + 10) ∧ (u5_1.toInt ≤ x5.toInt + 2) ∧ (x5.toInt ≤ u7_0.toInt + 10) ∧ (u7_0.toInt ≤ x5.toInt + 221) ∧ (u7_1.toInt ≤ x3.toInt + 2) ∧ (x5.toInt ≤ u7_1.toInt + 10) ∧ (u7_1.toInt ≤ x5.toInt + 2) ∧ (u7_1.toInt ≤ t16_1.toInt + 1) ∧ (x5.toInt ≤ u9_0.toInt + 10) ∧ (u9_0.toInt ≤ x5.toInt + 221) ∧ (x5.toInt ≤ u9_1.toInt + 10) ∧ (u9_1.toInt ≤ x5.toInt + 2) ∧ (x5.toInt ≤ u18_0.toInt + 10) ∧ (u18_0.toInt ≤ x5.toInt + 69) ∧ (x5.toInt ≤ u18_1.toInt + 10) ∧ (u18_1.toInt ≤ x5.toInt + 2) ∧ (x5.toInt ≤ u20_0.toInt + 10010) ∧ (u20_0.toInt ≤ x5.toInt + 10001) ∧ (x5.toInt ≤ u20_1.toInt + 9) ∧ (u20_1.toInt ≤ x5.toInt + 1001) ∧ (x5.toInt ≤ u21_0.toInt + 10) ∧ (u21_0.toInt ≤ x5.toInt + 109) ∧ (x5.toInt ≤ u21_1.toInt + 10) ∧ (u21_1.toInt ≤ x5.toInt + 2) ∧ ((0 : Int32), u0_0, u0_1, u1_0, u1_1, u2_0, u3_0, u3_1, u4_0, u5_0, u5_1, u6_0, u7_0, u7_1, u8_0, u9_0, u9_1, u10_0, u11_0, u12_0, u18_0, u18_1, u19_0, u20_0, u20_1, u21_0, u21_1, u22_0) = (F_NH_convert x2 x3 x4 x5 t0_0 t0_1 t1_0 t1_1 t2_0 t3_0 t3_1 t4_0 t5_0 t5_1 t6_0 t7_0 t7_1 t8_0 t9_0 t9_1 t10_0 t11_0 t12_0 t13_0 t13_1 t14_0 t15_0 t15_1 t16_0 t16_1 t17_0 t18_0 t18_1 t19_0 t20_0 t20_1 t21_0 t21_1 t22_0)) (q_B D g (va_A ws sz)) (va_A ws sz)) (fun E u => ∃ c : Int32, E = qE c ∧ c ≠ 0 ∧ q_I (nsh g q) q u ∧ q_un ws u [7, 8, 10, 11, 12, 13, 20, 21, 22, 23, 24, 25, 30, d5, d5 + 1, d5 + 2, k5, k5 + 1] ∧ ∃ (u0_0 : Int64) (u0_1 : Int32) (u1_0 : Int32) (u1_1 : Int32) (u2_0 : (Nat → Int32)) (u3_0 : Int32) (u3_1 : Int32) (u4_0 : (Nat → Int32)) (u5_0 : Int32) (u5_1 : Int32) (u6_0 : (Nat → Int32)) (u7_0 : Int32) (u7_1 : Int32) (u8_0 : (Nat → Int32)) (u9_0 : Int32) (u9_1 : Int32) (u10_0 : (Nat → Int32)) (u11_0 : (Nat → Int64)) (u12_0 : (Nat → Int64)) (u18_0 : Int32) (u18_1 : Int32) (u19_0 : (Nat → Int32)) (u20_0 : Int32) (u20_1 : Int32) (u21_0 : Int32) (u21_1 : Int32) (u22_0 : (Nat → Int32)), u[30]? = (some (q 30, .inr (5, [.ref (q 31), .long u0_0, .ref (q 9), .int u0_1])) : Option (Nat × va_E)) ∧ u[10]? = (some (q 10, .inr (2, [.ref (q 11), .int u1_0, .int u1_1])) : Option (Nat × va_E)) ∧ u[11]? = (some (q 11, .inl (g 0, (220 : Int32).toNatClampNeg, .inl u2_0)) : Option (Nat × va_E)) ∧ u[12]? = (some (q 12, .inr (2, [.ref (q 13), .int u3_0, .int u3_1])) : Option (Nat × va_E)) ∧ u[13]? = (some (q 13, .inl (g 0, (220 : Int32).toNatClampNeg, .inl u4_0)) : Option (Nat × va_E)) ∧ u[20]? = (some (q 20, .inr (2, [.ref (q 21), .int u5_0, .int u5_1])) : Option (Nat × va_E)) ∧ u[21]? = (some (q 21, .inl (g 0, (220 : Int32).toNatClampNeg, .inl u6_0)) : Option (Nat × va_E)) ∧ u[22]? = (some (q 22, .inr (2, [.ref (q 23), .int u7_0, .int u7_1])) : Option (Nat × va_E)) ∧ u[23]? = (some (q 23, .inl (g 0, (220 : Int32).toNatClampNeg, .inl u8_0)) : Option (Nat × va_E)) ∧ u[24]? = (some (q 24, .inr (2, [.ref (q 25), .int u9_0, .int u9_1])) : Option (Nat × va_E)) ∧ u[25]? = (some (q 25, .inl (g 0, (220 : Int32).toNatClampNeg, .inl u10_0)) : Option (Nat × va_E)) ∧ u[7]? = (some (q 7, .inl (g 1, 10, .inr (.inl u11_0))) : Option (Nat × va_E)) ∧ u[8]? = (some (q 8, .inl (g 1, 10, .inr (.inl u12_0))) : Option (Nat × va_E)) ∧ u[k5]? = (some (q k5, .inr (2, [.ref (q (k5 + 1)), .int u18_0, .int u18_1])) : Option (Nat × va_E)) ∧ u[k5 + 1]? = (some (q (k5 + 1), .inl (g 0, (68 : Int32).toNatClampNeg, .inl u19_0)) : Option (Nat × va_E)) ∧ u[d5]? = (some (q d5, .inr (3, [.ref (q (d5 + 1)), .int u20_0, .int u20_1])) : Option (Nat × va_E)) ∧ u[d5 + 1]? = (some (q (d5 + 1), .inr (2, [.ref (q (d5 + 2)), .int u21_0, .int u21_1])) : Option (Nat × va_E)) ∧ u[d5 + 2]? = (some (q (d5 + 2), .inl (g 0, (108 : Int32).toNatClampNeg, .inl u22_0)) : Option (Nat × va_E)) ∧ (c, u0_0, u0_1, u1_0, u1_1, u2_0, u3_0, u3_1, u4_0, u5_0, u5_1, u6_0, u7_0, u7_1, u8_0, u9_0, u9_1, u10_0, u11_0, u12_0, u18_0, u18_1, u19_0, u20_0, u20_1, u21_0, u21_1, u22_0) = (F_NH_convert x2 x3 x4 x5 t0_0 t0_1 t1_0 t1_1 t2_0 t3_0 t3_1 t4_0 t5_0 t5_1 t6_0 t7_0 t7_1 t8_0 t9_0 t9_1 t10_0 t11_0 t12_0 t13_0 t13_1 t14_0 t15_0 t15_1 t16_0 t16_1 t17_0 t18_0 t18_1 t19_0 t20_0 t20_1 t21_0 t21_1 t22_0)) := by
  intro sz
  refine q_intoX (by decide) (Nat.le_of_ble_eq_true rfl) ?_
  intro p e s m below meth c ls hsz C0 V hno hl
  have hx := C0.1
  have hb := C0.2.1
  have btt0_1 := n_w30 hI hT0
  replace btt0_1 : q_F (0 ≤ t0_1.toInt ∧ t0_1.toInt ≤ 1) := btt0_1
  have btt1_1 := (q_bigW hI (n_b10 g q) hT1).2
  clear btt1_1
  obtain ⟨btt3_0, btt3_1⟩ := q_bigW hI (n_b12 g q) hT3
  replace btt3_0 : q_F (0 ≤ t3_0.toInt ∧ t3_0.toInt ≤ 220) := btt3_0
  replace btt3_1 : q_F (0 ≤ t3_1.toInt ∧ t3_1.toInt ≤ 1) := btt3_1
  obtain ⟨btt5_0, btt5_1⟩ := q_bigW hI (n_b20 g q) hT5
  replace btt5_0 : q_F (0 ≤ t5_0.toInt ∧ t5_0.toInt ≤ 220) := btt5_0
  replace btt5_1 : q_F (0 ≤ t5_1.toInt ∧ t5_1.toInt ≤ 1) := btt5_1
  obtain ⟨btt7_0, btt7_1⟩ := q_bigW hI (n_b22 g q) hT7
  replace btt7_0 : q_F (0 ≤ t7_0.toInt ∧ t7_0.toInt ≤ 220) := btt7_0
  replace btt7_1 : q_F (0 ≤ t7_1.toInt ∧ t7_1.toInt ≤ 1) := btt7_1
  obtain ⟨btt9_0, btt9_1⟩ := q_bigW hI (n_b24 g q) hT9
  replace btt9_0 : q_F (0 ≤ t9_0.toInt ∧ t9_0.toInt ≤ 220) := btt9_0
  replace btt9_1 : q_F (0 ≤ t9_1.toInt ∧ t9_1.toInt ≤ 1) := btt9_1
  have btt13_1 := (q_bigW hI hBk3 hT13).2
  clear btt13_1
  have btt15_1 := (n_deW hI hBd3 hT15).2
  clear btt15_1
  have btt16_1 := (q_bigW hI hBd3.2 hT16).2
  replace btt16_1 : q_F (0 ≤ t16_1.toInt ∧ t16_1.toInt ≤ 1) := btt16_1
  obtain ⟨btt18_0, btt18_1⟩ := q_bigW hI hBk5 hT18
  replace btt18_0 : q_F (0 ≤ t18_0.toInt ∧ t18_0.toInt ≤ 68) := btt18_0
  replace btt18_1 : q_F (0 ≤ t18_1.toInt ∧ t18_1.toInt ≤ 1) := btt18_1
  obtain ⟨btt20_0, btt20_1⟩ := n_deW hI hBd5 hT20
  replace btt20_0 : q_F (-10000 ≤ t20_0.toInt ∧ t20_0.toInt ≤ 10000) := btt20_0
  replace btt20_1 : q_F (1 ≤ t20_1.toInt ∧ t20_1.toInt ≤ 1000) := btt20_1
  obtain ⟨btt21_0, btt21_1⟩ := q_bigW hI hBd5.2 hT21
  replace btt21_0 : q_F (0 ≤ t21_0.toInt ∧ t21_0.toInt ≤ 108) := btt21_0
  replace btt21_1 : q_F (0 ≤ t21_1.toInt ∧ t21_1.toInt ≤ 1) := btt21_1
  have hF : q_un ws ws [7, 8, 10, 11, 12, 13, 20, 21, 22, 23, 24, 25, 30, d5, d5 + 1, d5 + 2, k5, k5 + 1] := q_u0
  have hl : lv_has ls 5 [(0, .ref (q 0)), (1, .int x2), (2, .int x3), (3, .int x4), (4, .int x5)] := hl
  refine lv_iload_n hx hb d_1_16_0 rfl (lv_at hl 1 rfl) ?_
  refine lv_iload_n hx hb d_1_16_1 rfl (lv_at hl 2 rfl) ?_
  refine q_goxv V (q_runSX (As := [.int x2, .int x3]) (rest := []) (d := 8) (mc := 1) (ms := 6) C0 V rfl LS_NH_118 (X_NH_needRegister l D g q ws  x2 x3 hlt hI   _) rfl hl.1 rfl (Nat.le_of_ble_eq_true rfl) ⟨by decide, by decide⟩ ⟨Nat.le_of_ble_eq_true rfl, Nat.le_of_ble_eq_true rfl⟩ d_1_16_2) (fun qx Ex ce u91 H locs hp92 V hce hcv hcl => ?_) (fun u91 H locs hp92 V => ?_)
  ·
    obtain ⟨cx94, he95, hc96, rfl, hE93⟩ := hp92
    have c97 : ¬ (F_NH_needRegister x2 x3) = (0 : Int32) := fun z => hc96 (((hE93) : cx94 = _).trans z)
    exact q_outT hno C0 V (⟨(F_NH_needRegister x2 x3), (he95.trans (congrArg qE ((hE93) : cx94 = _))), c97, hI, hF, t0_0, t0_1, t1_0, t1_1, t2_0, t3_0, t3_1, t4_0, t5_0, t5_1, t6_0, t7_0, t7_1, t8_0, t9_0, t9_1, t10_0, t11_0, t12_0, t18_0, t18_1, t19_0, t20_0, t20_1, t21_0, t21_1, t22_0, hT0, hT1, hT2, hT3, hT4, hT5, hT6, hT7, hT8, hT9, hT10, hT11, hT12, hT18, hT19, hT20, hT21, hT22, (show ((F_NH_needRegister x2 x3), t0_0, t0_1, t1_0, t1_1, t2_0, t3_0, t3_1, t4_0, t5_0, t5_1, t6_0, t7_0, t7_1, t8_0, t9_0, t9_1, t10_0, t11_0, t12_0, t18_0, t18_1, t19_0, t20_0, t20_1, t21_0, t21_1, t22_0) = (F_NH_convert x2 x3 x4 x5 t0_0 t0_1 t1_0 t1_1 t2_0 t3_0 t3_1 t4_0 t5_0 t5_1 t6_0 t7_0 t7_1 t8_0 t9_0 t9_1 t10_0 t11_0 t12_0 t13_0 t13_1 t14_0 t15_0 t15_1 t16_0 t16_1 t17_0 t18_0 t18_1 t19_0 t20_0 t20_1 t21_0 t21_1 t22_0) from (by rw [F_NH_convert.eq_1, if_neg c97]))⟩) hce hcv hcl (Nat.le_of_ble_eq_true rfl) (Nat.le_of_ble_eq_true rfl)
  ·
    obtain ⟨rfl, hE98⟩ := hp92
    have c97 : (F_NH_needRegister x2 x3) = (0 : Int32) := ((hE98) : (0 : Int32) = _).symm
    refine lv_iload_n hx hb d_1_16_5 rfl (lv_at hl 3 rfl) ?_
    refine lv_iload hx hb d_1_16_6 (lv_at hl 4 rfl) ?_
    refine q_goxv V (q_runSX (As := [.int x4, .int x5]) (rest := []) (d := 8) (mc := 1) (ms := 6) C0 V rfl LS_NH_118 (X_NH_needRegister l D g q ws  x4 x5 hlt hI   _) rfl hl.1 rfl (Nat.le_of_ble_eq_true rfl) ⟨by decide, by decide⟩ ⟨Nat.le_of_ble_eq_true rfl, Nat.le_of_ble_eq_true rfl⟩ d_1_16_8) (fun qx Ex ce u100 H locs hp101 V hce hcv hcl => ?_) (fun u100 H locs hp101 V => ?_)
    ·
      obtain ⟨cx103, he104, hc105, rfl, hE102⟩ := hp101
      have c106 : ¬ (F_NH_needRegister x4 x5) = (0 : Int32) := fun z => hc105 (((hE102) : cx103 = _).trans z)
      exact q_outT hno C0 V (⟨(F_NH_needRegister x4 x5), (he104.trans (congrArg qE ((hE102) : cx103 = _))), c106, hI, hF, t0_0, t0_1, t1_0, t1_1, t2_0, t3_0, t3_1, t4_0, t5_0, t5_1, t6_0, t7_0, t7_1, t8_0, t9_0, t9_1, t10_0, t11_0, t12_0, t18_0, t18_1, t19_0, t20_0, t20_1, t21_0, t21_1, t22_0, hT0, hT1, hT2, hT3, hT4, hT5, hT6, hT7, hT8, hT9, hT10, hT11, hT12, hT18, hT19, hT20, hT21, hT22, (show ((F_NH_needRegister x4 x5), t0_0, t0_1, t1_0, t1_1, t2_0, t3_0, t3_1, t4_0, t5_0, t5_1, t6_0, t7_0, t7_1, t8_0, t9_0, t9_1, t10_0, t11_0, t12_0, t18_0, t18_1, t19_0, t20_0, t20_1, t21_0, t21_1, t22_0) = (F_NH_convert x2 x3 x4 x5 t0_0 t0_1 t1_0 t1_1 t2_0 t3_0 t3_1 t4_0 t5_0 t5_1 t6_0 t7_0 t7_1 t8_0 t9_0 t9_1 t10_0 t11_0 t12_0 t13_0 t13_1 t14_0 t15_0 t15_1 t16_0 t16_1 t17_0 t18_0 t18_1 t19_0 t20_0 t20_1 t21_0 t21_1 t22_0) from (by rw [F_NH_convert.eq_1, if_pos c97, if_neg c106]))⟩) hce hcv hcl (Nat.le_of_ble_eq_true rfl) (Nat.le_of_ble_eq_true rfl)
    ·
      obtain ⟨rfl, hE107⟩ := hp101
      have c106 : (F_NH_needRegister x4 x5) = (0 : Int32) := ((hE107) : (0 : Int32) = _).symm
      refine lv_iload_n hx hb d_1_16_11 rfl (lv_at hl 3 rfl) ?_
      refine lv_if_ne (tgt := 30) hx hb d_1_16_12 (by decide) (fun c109 => ?_) (fun c109 => ?_)
      ·
        refine lv_iload_n hx hb d_1_16_30 rfl (lv_at hl 3 rfl) ?_
        refine lv_iconst (v := 1) hx hb d_1_16_31 (by decide) ?_
        refine lv_icmp_ne (tgt := 50) hx hb d_1_16_32 (by decide) (fun c111 => ?_) (fun c111 => ?_)
        ·
          refine lv_aload_n hx hb d_1_16_50 rfl (lv_at hl 0 rfl) ?_
          refine lv_iload_n hx hb d_1_16_51 rfl (lv_at hl 3 rfl) ?_
          have hO113 := n_o0 hI
          refine q_gor (post := fun r u => ws = u ∧ r = q (F_NH_floatRow x4)) V (q_runV (As := [.int x4]) (rest := []) (d := 1) (mc := 0) (ms := 0) (ci := 0) C0 V rfl LV_NH_157 (X_NH_floatRow l D g q ws  x4 hI   _) rfl rfl hO113 rfl hl.1 rfl (Nat.le_of_ble_eq_true rfl) ⟨by decide, by decide⟩ ⟨Nat.le_of_ble_eq_true rfl, Nat.le_of_ble_eq_true rfl⟩ d_1_16_52) (fun a116 u114 H locs hp115 V => ?_)
          obtain ⟨rfl, hr117⟩ := hp115
          by_cases c118 : x4 = (2 : Int32)
          ·
            have hr119 : a116 = q 7 := hr117.trans (congrArg q (by unfold F_NH_floatRow; rw [if_pos c118]))
            subst hr119
            refine lv_iload hx hb d_1_16_55 (lv_at hl 4 rfl) ?_
            refine lv_aload_n hx hb d_1_16_57 rfl (lv_at hl 0 rfl) ?_
            refine lv_iload_n hx hb d_1_16_58 rfl (lv_at hl 1 rfl) ?_
            refine lv_iload_n hx hb d_1_16_59 rfl (lv_at hl 2 rfl) ?_
            refine lv_aload_n hx hb d_1_16_60 rfl (lv_at hl 0 rfl) ?_
            refine lv_iload_n hx hb d_1_16_61 rfl (lv_at hl 3 rfl) ?_
            refine q_gor (post := fun r u => ws = u ∧ r = q (F_NH_floatsOf x4)) V (q_runV (As := [.int x4]) (rest := [.int x3, .int x2, .ref (q 0), .int x5, .ref (q 7)]) (d := 1) (mc := 0) (ms := 0) (ci := 0) C0 V rfl LV_NH_130 (X_NH_floatsOf l D g q ws  x4 hI   _) rfl rfl hO113 rfl hl.1 rfl (Nat.le_of_ble_eq_true rfl) ⟨by decide, by decide⟩ ⟨Nat.le_of_ble_eq_true rfl, Nat.le_of_ble_eq_true rfl⟩ d_1_16_62) (fun a123 u121 H locs hp122 V => ?_)
            obtain ⟨rfl, hr124⟩ := hp122
            by_cases c125 : x4 = (2 : Int32)
            ·
              have hr126 : a123 = q 34 := hr124.trans (congrArg q (by unfold F_NH_floatsOf; rw [if_pos c125]))
              subst hr126
              have ob128 : True ∧ S_NH_madeFloat_w x2 x3 t1_0 t1_1 t2_0 t3_0 t3_1 t4_0 t5_0 t5_1 t6_0 t7_0 t7_1 t8_0 t9_0 t9_1 t10_0 t11_0 t12_0 t13_0 t13_1 t14_0 t15_0 t15_1 t16_0 t16_1 t17_0 := (by have h := hS; rw [S_NH_convert.eq_1] at h; rw [if_pos c97] at h; rw [if_pos c106] at h; rw [if_neg c109] at h; rw [if_neg c111] at h; rw [if_pos c118] at h; rw [if_pos c125] at h; with_reducible exact h.2.1)
              refine q_gol V (q_runV (As := [.int x2, .int x3, .ref (q 34)]) (rest := [.int x5, .ref (q 7)]) (d := 6) (mc := 0) (ms := 0) (ci := 0) C0 V rfl LV_NH_323 (X_NH_madeFloat_w l D g q ws  x2 x3 k3 hBk3 yk3 gk3x3 d3 hBd3 yd3 gd3x3 (by have z := ne_k3_d3; omega) (by have z := ne_k3_d3p1; omega) (by have z := ne_k3_d3p2; omega) (by have z := ne_d3_k3p1; omega) hI t1_0 t1_1 hT1 t2_0 hT2 t3_0 t3_1 hT3 t4_0 hT4 t5_0 t5_1 hT5 t6_0 hT6 t7_0 t7_1 hT7 t8_0 hT8 t9_0 t9_1 hT9 t10_0 hT10 t11_0 hT11 t12_0 hT12 t13_0 t13_1 hT13 t14_0 hT14 t15_0 t15_1 hT15 t16_0 t16_1 hT16 t17_0 hT17 ob128 _) rfl rfl hO113 rfl hl.1 rfl (Nat.le_of_ble_eq_true rfl) ⟨by decide, by decide⟩ ⟨Nat.le_of_ble_eq_true rfl, Nat.le_of_ble_eq_true rfl⟩ d_1_16_65) (fun j131 u129 H locs hp130 V => ?_)
              obtain ⟨hI, hZ9⟩ := hp130
              obtain ⟨hu201, hZ9⟩ := hZ9
              obtain ⟨y133, hZ9⟩ := hZ9
              obtain ⟨y134, hZ9⟩ := hZ9
              obtain ⟨f135, hZ9⟩ := hZ9
              obtain ⟨y138, hZ9⟩ := hZ9
              obtain ⟨y139, hZ9⟩ := hZ9
              obtain ⟨f140, hZ9⟩ := hZ9
              obtain ⟨y143, hZ9⟩ := hZ9
              obtain ⟨y144, hZ9⟩ := hZ9
              obtain ⟨f145, hZ9⟩ := hZ9
              obtain ⟨y148, hZ9⟩ := hZ9
              obtain ⟨y149, hZ9⟩ := hZ9
              obtain ⟨f150, hZ9⟩ := hZ9
              obtain ⟨y153, hZ9⟩ := hZ9
              obtain ⟨y154, hZ9⟩ := hZ9
              obtain ⟨f155, hZ9⟩ := hZ9
              obtain ⟨hO132, hZ9⟩ := hZ9
              obtain ⟨hA136, hZ9⟩ := hZ9
              obtain ⟨hO137, hZ9⟩ := hZ9
              obtain ⟨hA141, hZ9⟩ := hZ9
              obtain ⟨hO142, hZ9⟩ := hZ9
              obtain ⟨hA146, hZ9⟩ := hZ9
              obtain ⟨hO147, hZ9⟩ := hZ9
              obtain ⟨hA151, hZ9⟩ := hZ9
              obtain ⟨hO152, hZ9⟩ := hZ9
              obtain ⟨hA156, hZ9⟩ := hZ9
              obtain ⟨b157, hZ9⟩ := hZ9
              obtain ⟨b158, hZ9⟩ := hZ9
              obtain ⟨b159, hZ9⟩ := hZ9
              obtain ⟨b160, hZ9⟩ := hZ9
              obtain ⟨b161, hZ9⟩ := hZ9
              obtain ⟨b162, hZ9⟩ := hZ9
              obtain ⟨b163, hZ9⟩ := hZ9
              obtain ⟨b164, hZ9⟩ := hZ9
              obtain ⟨b165, hZ9⟩ := hZ9
              obtain ⟨b166, hZ9⟩ := hZ9
              obtain ⟨b167, hZ9⟩ := hZ9
              obtain ⟨b168, hZ9⟩ := hZ9
              obtain ⟨b169, hZ9⟩ := hZ9
              obtain ⟨b170, hZ9⟩ := hZ9
              obtain ⟨b171, hZ9⟩ := hZ9
              obtain ⟨b172, hZ9⟩ := hZ9
              obtain ⟨b173, hZ9⟩ := hZ9
              obtain ⟨b174, hZ9⟩ := hZ9
              obtain ⟨b175, hZ9⟩ := hZ9
              obtain ⟨b176, hZ9⟩ := hZ9
              obtain ⟨b177, hZ9⟩ := hZ9
              obtain ⟨b178, hZ9⟩ := hZ9
              replace hZ9 := hZ9.2
              obtain ⟨b180, hZ9⟩ := hZ9
              obtain ⟨b181, hZ9⟩ := hZ9
              replace hZ9 := hZ9.2.2.2.2
              obtain ⟨b186, hZ9⟩ := hZ9
              replace hZ9 := hZ9.2.2.2.2.2.2.2
              obtain ⟨b194, hZ9⟩ := hZ9
              obtain ⟨b195, hZ9⟩ := hZ9
              replace hZ9 := hZ9.2.2.2
              obtain ⟨-, hE200⟩ := hZ9
              replace hO132 : u129[10]? = (some (q 10, .inr (2, [.ref (q 11), .int y133, .int y134])) : Option (Nat × va_E)) := hO132
              replace hA136 : u129[11]? = (some (q 11, .inl (g 0, (220 : Int32).toNatClampNeg, .inl f135)) : Option (Nat × va_E)) := hA136
              replace hO137 : u129[12]? = (some (q 12, .inr (2, [.ref (q 13), .int y138, .int y139])) : Option (Nat × va_E)) := hO137
              replace hA141 : u129[13]? = (some (q 13, .inl (g 0, (220 : Int32).toNatClampNeg, .inl f140)) : Option (Nat × va_E)) := hA141
              replace hO142 : u129[20]? = (some (q 20, .inr (2, [.ref (q 21), .int y143, .int y144])) : Option (Nat × va_E)) := hO142
              replace hA146 : u129[21]? = (some (q 21, .inl (g 0, (220 : Int32).toNatClampNeg, .inl f145)) : Option (Nat × va_E)) := hA146
              replace hO147 : u129[22]? = (some (q 22, .inr (2, [.ref (q 23), .int y148, .int y149])) : Option (Nat × va_E)) := hO147
              replace hA151 : u129[23]? = (some (q 23, .inl (g 0, (220 : Int32).toNatClampNeg, .inl f150)) : Option (Nat × va_E)) := hA151
              replace hO152 : u129[24]? = (some (q 24, .inr (2, [.ref (q 25), .int y153, .int y154])) : Option (Nat × va_E)) := hO152
              replace hA156 : u129[25]? = (some (q 25, .inl (g 0, (220 : Int32).toNatClampNeg, .inl f155)) : Option (Nat × va_E)) := hA156
              obtain ⟨p202, e203⟩ : ∃ z, z = (F_NH_madeFloat_w x2 x3 t1_0 t1_1 t2_0 t3_0 t3_1 t4_0 t5_0 t5_1 t6_0 t7_0 t7_1 t8_0 t9_0 t9_1 t10_0 t11_0 t12_0 t13_0 t13_1 t14_0 t15_0 t15_1 t16_0 t16_1 t17_0) := ⟨_, rfl⟩
              have e204 : j131 = p202.1 := congrArg (fun z => z.1) (hE200.trans e203.symm)
              have e205 : y133 = p202.2.1 := congrArg (fun z => z.2.1) (hE200.trans e203.symm)
              have e206 : y134 = p202.2.2.1 := congrArg (fun z => z.2.2.1) (hE200.trans e203.symm)
              have e207 : f135 = p202.2.2.2.1 := congrArg (fun z => z.2.2.2.1) (hE200.trans e203.symm)
              have e208 : y138 = p202.2.2.2.2.1 := congrArg (fun z => z.2.2.2.2.1) (hE200.trans e203.symm)
              have e209 : y139 = p202.2.2.2.2.2.1 := congrArg (fun z => z.2.2.2.2.2.1) (hE200.trans e203.symm)
              have e210 : f140 = p202.2.2.2.2.2.2.1 := congrArg (fun z => z.2.2.2.2.2.2.1) (hE200.trans e203.symm)
              have e211 : y143 = p202.2.2.2.2.2.2.2.1 := congrArg (fun z => z.2.2.2.2.2.2.2.1) (hE200.trans e203.symm)
              have e212 : y144 = p202.2.2.2.2.2.2.2.2.1 := congrArg (fun z => z.2.2.2.2.2.2.2.2.1) (hE200.trans e203.symm)
              have e213 : f145 = p202.2.2.2.2.2.2.2.2.2.1 := congrArg (fun z => z.2.2.2.2.2.2.2.2.2.1) (hE200.trans e203.symm)
              have e214 : y148 = p202.2.2.2.2.2.2.2.2.2.2.1 := congrArg (fun z => z.2.2.2.2.2.2.2.2.2.2.1) (hE200.trans e203.symm)
              have e215 : y149 = p202.2.2.2.2.2.2.2.2.2.2.2.1 := congrArg (fun z => z.2.2.2.2.2.2.2.2.2.2.2.1) (hE200.trans e203.symm)
              have e216 : f150 = p202.2.2.2.2.2.2.2.2.2.2.2.2.1 := congrArg (fun z => z.2.2.2.2.2.2.2.2.2.2.2.2.1) (hE200.trans e203.symm)
              have e217 : y153 = p202.2.2.2.2.2.2.2.2.2.2.2.2.2.1 := congrArg (fun z => z.2.2.2.2.2.2.2.2.2.2.2.2.2.1) (hE200.trans e203.symm)
              have e218 : y154 = p202.2.2.2.2.2.2.2.2.2.2.2.2.2.2.1 := congrArg (fun z => z.2.2.2.2.2.2.2.2.2.2.2.2.2.2.1) (hE200.trans e203.symm)
              have e219 : f155 = p202.2.2.2.2.2.2.2.2.2.2.2.2.2.2.2 := congrArg (fun z => z.2.2.2.2.2.2.2.2.2.2.2.2.2.2.2) (hE200.trans e203.symm)
              replace b157 : q_F (0 ≤ y133.toInt) := b157
              replace b158 : q_F (y133.toInt ≤ 220) := b158
              replace b159 : q_F (0 ≤ y134.toInt) := b159
              replace b160 : q_F (y134.toInt ≤ 1) := b160
              replace b161 : q_F (0 ≤ y138.toInt) := b161
              replace b162 : q_F (y138.toInt ≤ 220) := b162
              replace b163 : q_F (0 ≤ y139.toInt) := b163
              replace b164 : q_F (y139.toInt ≤ 1) := b164
              replace b165 : q_F (0 ≤ y143.toInt) := b165
              replace b166 : q_F (y143.toInt ≤ 220) := b166
              replace b167 : q_F (0 ≤ y144.toInt) := b167
              replace b168 : q_F (y144.toInt ≤ 1) := b168
              replace b169 : q_F (0 ≤ y148.toInt) := b169
              replace b170 : q_F (y148.toInt ≤ 220) := b170
              replace b171 : q_F (0 ≤ y149.toInt) := b171
              replace b172 : q_F (y149.toInt ≤ 2) := b172
              replace b173 : q_F (0 ≤ y153.toInt) := b173
              replace b174 : q_F (y153.toInt ≤ 220) := b174
              replace b175 : q_F (0 ≤ y154.toInt) := b175
              replace b176 : q_F (y154.toInt ≤ 1) := b176
              replace b177 : q_F (x3.toInt ≤ y133.toInt + 9) := b177
              replace b178 : q_F (y133.toInt ≤ x3.toInt + 220) := b178
              replace b180 : q_F (x3.toInt ≤ y134.toInt + 9) := b180
              replace b181 : q_F (y134.toInt ≤ x3.toInt + 1) := b181
              replace b186 : q_F (y139.toInt ≤ t3_1.toInt) := b186
              replace b194 : q_F (y149.toInt ≤ x3.toInt + 2) := b194
              replace b195 : q_F (y149.toInt ≤ t16_1.toInt + 1) := b195
              replace hT0 := (hu201 _ (by decide)).trans hT0
              replace hT11 := (hu201 _ (by decide)).trans hT11
              replace hT12 := (hu201 _ (by decide)).trans hT12
              replace hT18 := (hu201 _ (by have z0 := yk5; simp only [List.mem_cons, List.not_mem_nil, or_false, not_or]; omega)).trans hT18
              replace hT19 := (hu201 _ (by have z0 := yk5; simp only [List.mem_cons, List.not_mem_nil, or_false, not_or]; omega)).trans hT19
              replace hT20 := (hu201 _ (by have z0 := yd5; simp only [List.mem_cons, List.not_mem_nil, or_false, not_or]; omega)).trans hT20
              replace hT21 := (hu201 _ (by have z0 := yd5; simp only [List.mem_cons, List.not_mem_nil, or_false, not_or]; omega)).trans hT21
              replace hT22 := (hu201 _ (by have z0 := yd5; simp only [List.mem_cons, List.not_mem_nil, or_false, not_or]; omega)).trans hT22
              replace hF := q_uc hF hu201 (by simp)
              have hR220 := (show F_NH_convert_c65 x2 x3 x4 x5 t0_0 t0_1 t1_0 t1_1 t2_0 t3_0 t3_1 t4_0 t5_0 t5_1 t6_0 t7_0 t7_1 t8_0 t9_0 t9_1 t10_0 t11_0 t12_0 t13_0 t13_1 t14_0 t15_0 t15_1 t16_0 t16_1 t17_0 t18_0 t18_1 t19_0 t20_0 t20_1 t21_0 t21_1 t22_0 p202 = (F_NH_convert x2 x3 x4 x5 t0_0 t0_1 t1_0 t1_1 t2_0 t3_0 t3_1 t4_0 t5_0 t5_1 t6_0 t7_0 t7_1 t8_0 t9_0 t9_1 t10_0 t11_0 t12_0 t13_0 t13_1 t14_0 t15_0 t15_1 t16_0 t16_1 t17_0 t18_0 t18_1 t19_0 t20_0 t20_1 t21_0 t21_1 t22_0) from (by rw [e203, F_NH_convert.eq_1, if_pos c97, if_pos c106, if_neg c109, if_neg c111, if_pos c118, if_pos c125]))
              have hS221 := (show True ∧ S_NH_convert_c65 x2 x3 x4 x5 t0_0 t0_1 t1_0 t1_1 t2_0 t3_0 t3_1 t4_0 t5_0 t5_1 t6_0 t7_0 t7_1 t8_0 t9_0 t9_1 t10_0 t11_0 t12_0 t13_0 t13_1 t14_0 t15_0 t15_1 t16_0 t16_1 t17_0 t18_0 t18_1 t19_0 t20_0 t20_1 t21_0 t21_1 t22_0 p202 from (by rw [e203]; have h := hS; rw [S_NH_convert.eq_1] at h; rw [if_pos c97] at h; rw [if_pos c106] at h; rw [if_neg c109] at h; rw [if_neg c111] at h; rw [if_pos c118] at h; rw [if_pos c125] at h; replace h := q_s2 h; with_reducible exact h))
              have ob225 : q_F (0 ≤ x5.toInt) := (by have h := hS221; rw [S_NH_convert_c65.eq_1] at h; exact h.2.1)
              have ob226 : q_F (x5.toInt ≤ 9) := (by have h := hS221; rw [S_NH_convert_c65.eq_1] at h; replace h := q_s2 h; exact h.2.1)
              refine q_last C0 V hT11 (q_ix (x := x5.toInt) rfl (by first | with_reducible exact q_fe ob225 | (have t1 : 0 ≤ x5.toInt := ob225; omega)) (by have t1 : 0 ≤ x5.toInt := ob225; have t2 : x5.toInt ≤ 9 := ob226; omega)) d_1_16_68 (fun H locs w227 hu228 hT11 V => ?_)
              replace hI := n_al' hI (n_s7 g q) hu228 hT11
              replace hT0 := (hu228 _ (by decide)).trans hT0
              replace hO132 := (hu228 _ (by decide)).trans hO132
              replace hA136 := (hu228 _ (by decide)).trans hA136
              replace hO137 := (hu228 _ (by decide)).trans hO137
              replace hA141 := (hu228 _ (by decide)).trans hA141
              replace hO142 := (hu228 _ (by decide)).trans hO142
              replace hA146 := (hu228 _ (by decide)).trans hA146
              replace hO147 := (hu228 _ (by decide)).trans hO147
              replace hA151 := (hu228 _ (by decide)).trans hA151
              replace hO152 := (hu228 _ (by decide)).trans hO152
              replace hA156 := (hu228 _ (by decide)).trans hA156
              replace hT12 := (hu228 _ (by decide)).trans hT12
              replace hT18 := (hu228 _ (by have z0 := yk5; omega)).trans hT18
              replace hT19 := (hu228 _ (by have z0 := yk5; omega)).trans hT19
              replace hT20 := (hu228 _ (by have z0 := yd5; omega)).trans hT20
              replace hT21 := (hu228 _ (by have z0 := yd5; omega)).trans hT21
              replace hT22 := (hu228 _ (by have z0 := yd5; omega)).trans hT22
              replace hF := q_us hF hu228 (by simp)
              obtain ⟨f229, e230⟩ := q_nm (vp_updL t11_0 x5.toNatClampNeg j131 : (Nat → Int64))
              rw [e230] at hT11
              refine W.widen (k := 4) (n := 24) (Nat.le_of_ble_eq_true rfl) (Nat.le_of_ble_eq_true rfl) ?_
              exact q_retX (q_retv C0 V (⟨hI, hF, t0_0, t0_1, y133, y134, f135, y138, y139, f140, y143, y144, f145, y148, y149, f150, y153, y154, f155, f229, t12_0, t18_0, t18_1, t19_0, t20_0, t20_1, t21_0, t21_1, t22_0, hT0, hO132, hA136, hO137, hA141, hO142, hA146, hO147, hA151, hO152, hA156, hT11, hT12, hT18, hT19, hT20, hT21, hT22, (show 0 ≤ t0_1.toInt from (by first | with_reducible exact (q_fe btt0_1).2 | with_reducible exact (q_fe btt0_1).1 | (have t1 : 0 ≤ t0_1.toInt ∧ t0_1.toInt ≤ 1 := btt0_1; omega))), (show t0_1.toInt ≤ 1 from (by first | with_reducible exact (q_fe btt0_1).2 | with_reducible exact (q_fe btt0_1).1 | (have t1 : 0 ≤ t0_1.toInt ∧ t0_1.toInt ≤ 1 := btt0_1; omega))), (show 0 ≤ y133.toInt from (by first | with_reducible exact q_fe b157 | (have t1 : 0 ≤ y133.toInt := b157; omega))), (show y133.toInt ≤ 220 from (by first | with_reducible exact q_fe b158 | (have t1 : y133.toInt ≤ 220 := b158; omega))), (show 0 ≤ y134.toInt from (by first | with_reducible exact q_fe b159 | (have t1 : 0 ≤ y134.toInt := b159; omega))), (show y134.toInt ≤ 1 from (by first | with_reducible exact q_fe b160 | (have t1 : y134.toInt ≤ 1 := b160; omega))), (show 0 ≤ y138.toInt from (by first | with_reducible exact q_fe b161 | (have t1 : 0 ≤ y138.toInt := b161; omega))), (show y138.toInt ≤ 220 from (by first | with_reducible exact q_fe b162 | (have t1 : y138.toInt ≤ 220 := b162; omega))), (show 0 ≤ y139.toInt from (by first | with_reducible exact q_fe b163 | (have t1 : 0 ≤ y139.toInt := b163; omega))), (show y139.toInt ≤ 1 from (by first | with_reducible exact q_fe b164 | (have t1 : y139.toInt ≤ 1 := b164; omega))), (show 0 ≤ y143.toInt from (by first | with_reducible exact q_fe b165 | (have t1 : 0 ≤ y143.toInt := b165; omega))), (show y143.toInt ≤ 220 from (by first | with_reducible exact q_fe b166 | (have t1 : y143.toInt ≤ 220 := b166; omega))), (show 0 ≤ y144.toInt from (by first | with_reducible exact q_fe b167 | (have t1 : 0 ≤ y144.toInt := b167; omega))), (show y144.toInt ≤ 1 from (by first | with_reducible exact q_fe b168 | (have t1 : y144.toInt ≤ 1 := b168; omega))), (show 0 ≤ y148.toInt from (by first | with_reducible exact q_fe b169 | (have t1 : 0 ≤ y148.toInt := b169; omega))), (show y148.toInt ≤ 220 from (by first | with_reducible exact q_fe b170 | (have t1 : y148.toInt ≤ 220 := b170; omega))), (show 0 ≤ y149.toInt from (by first | with_reducible exact q_fe b171 | (have t1 : 0 ≤ y149.toInt := b171; omega))), (show y149.toInt ≤ 2 from (by first | with_reducible exact q_fe b172 | (have t1 : y149.toInt ≤ 2 := b172; omega))), (show 0 ≤ y153.toInt from (by first | with_reducible exact q_fe b173 | (have t1 : 0 ≤ y153.toInt := b173; omega))), (show y153.toInt ≤ 220 from (by first | with_reducible exact q_fe b174 | (have t1 : y153.toInt ≤ 220 := b174; omega))), (show 0 ≤ y154.toInt from (by first | with_reducible exact q_fe b175 | (have t1 : 0 ≤ y154.toInt := b175; omega))), (show y154.toInt ≤ 1 from (by first | with_reducible exact q_fe b176 | (have t1 : y154.toInt ≤ 1 := b176; omega))), (show 0 ≤ t18_0.toInt from (by first | with_reducible exact (q_fe btt18_0).2 | with_reducible exact (q_fe btt18_0).1 | (have t1 : 0 ≤ t18_0.toInt ∧ t18_0.toInt ≤ 68 := btt18_0; omega))), (show t18_0.toInt ≤ 68 from (by first | with_reducible exact (q_fe btt18_0).2 | with_reducible exact (q_fe btt18_0).1 | (have t1 : 0 ≤ t18_0.toInt ∧ t18_0.toInt ≤ 68 := btt18_0; omega))), (show 0 ≤ t18_1.toInt from (by first | with_reducible exact (q_fe btt18_1).2 | with_reducible exact (q_fe btt18_1).1 | (have t1 : 0 ≤ t18_1.toInt ∧ t18_1.toInt ≤ 1 := btt18_1; omega))), (show t18_1.toInt ≤ 1 from (by first | with_reducible exact (q_fe btt18_1).2 | with_reducible exact (q_fe btt18_1).1 | (have t1 : 0 ≤ t18_1.toInt ∧ t18_1.toInt ≤ 1 := btt18_1; omega))), (show 0 ≤ t20_0.toInt + 10000 from (by first | with_reducible exact (q_fe btt20_0).2 | with_reducible exact (q_fe btt20_0).1 | (have t1 : -10000 ≤ t20_0.toInt ∧ t20_0.toInt ≤ 10000 := btt20_0; omega))), (show t20_0.toInt ≤ 10000 from (by first | with_reducible exact (q_fe btt20_0).2 | with_reducible exact (q_fe btt20_0).1 | (have t1 : -10000 ≤ t20_0.toInt ∧ t20_0.toInt ≤ 10000 := btt20_0; omega))), (show 1 ≤ t20_1.toInt from (by first | with_reducible exact (q_fe btt20_1).2 | with_reducible exact (q_fe btt20_1).1 | (have t1 : 1 ≤ t20_1.toInt ∧ t20_1.toInt ≤ 1000 := btt20_1; omega))), (show t20_1.toInt ≤ 1000 from (by first | with_reducible exact (q_fe btt20_1).2 | with_reducible exact (q_fe btt20_1).1 | (have t1 : 1 ≤ t20_1.toInt ∧ t20_1.toInt ≤ 1000 := btt20_1; omega))), (show 0 ≤ t21_0.toInt from (by first | with_reducible exact (q_fe btt21_0).2 | with_reducible exact (q_fe btt21_0).1 | (have t1 : 0 ≤ t21_0.toInt ∧ t21_0.toInt ≤ 108 := btt21_0; omega))), (show t21_0.toInt ≤ 108 from (by first | with_reducible exact (q_fe btt21_0).2 | with_reducible exact (q_fe btt21_0).1 | (have t1 : 0 ≤ t21_0.toInt ∧ t21_0.toInt ≤ 108 := btt21_0; omega))), (show 0 ≤ t21_1.toInt from (by first | with_reducible exact (q_fe btt21_1).2 | with_reducible exact (q_fe btt21_1).1 | (have t1 : 0 ≤ t21_1.toInt ∧ t21_1.toInt ≤ 1 := btt21_1; omega))), (show t21_1.toInt ≤ 1 from (by first | with_reducible exact (q_fe btt21_1).2 | with_reducible exact (q_fe btt21_1).1 | (have t1 : 0 ≤ t21_1.toInt ∧ t21_1.toInt ≤ 1 := btt21_1; omega))), (show x5.toInt ≤ t0_1.toInt + 10 from (by have t1 : 0 ≤ t0_1.toInt ∧ t0_1.toInt ≤ 1 := btt0_1; have t2 : x5.toInt ≤ 9 := ob226; omega)), (show t0_1.toInt ≤ x5.toInt + 2 from (by have t1 : 0 ≤ t0_1.toInt ∧ t0_1.toInt ≤ 1 := btt0_1; have t2 : 0 ≤ x5.toInt := ob225; omega)), (show t0_1.toInt ≤ t0_1.toInt from (by omega)), (show t0_1.toInt ≤ t0_1.toInt from (by omega)), (show x3.toInt ≤ y133.toInt + 9 from (by first | with_reducible exact q_fe b177 | (have t1 : x3.toInt ≤ y133.toInt + 9 := b177; omega))), (show y133.toInt ≤ x3.toInt + 220 from (by first | with_reducible exact q_fe b178 | (have t1 : y133.toInt ≤ x3.toInt + 220 := b178; omega))), (show x5.toInt ≤ y133.toInt + 10 from (by have t1 : 0 ≤ y133.toInt := b157; have t2 : x5.toInt ≤ 9 := ob226; omega)), (show y133.toInt ≤ x5.toInt + 221 from (by have t1 : y133.toInt ≤ 220 := b158; have t2 : 0 ≤ x5.toInt := ob225; omega)), (show x3.toInt ≤ y134.toInt + 9 from (by first | with_reducible exact q_fe b180 | (have t1 : x3.toInt ≤ y134.toInt + 9 := b180; omega))), (show y134.toInt ≤ x3.toInt + 1 from (by first | with_reducible exact q_fe b181 | (have t1 : y134.toInt ≤ x3.toInt + 1 := b181; omega))), (show x5.toInt ≤ y134.toInt + 10 from (by have t1 : 0 ≤ y134.toInt := b159; have t2 : x5.toInt ≤ 9 := ob226; omega)), (show y134.toInt ≤ x5.toInt + 2 from (by have t1 : y134.toInt ≤ 1 := b160; have t2 : 0 ≤ x5.toInt := ob225; omega)), (show x5.toInt ≤ y138.toInt + 10 from (by have t1 : 0 ≤ y138.toInt := b161; have t2 : x5.toInt ≤ 9 := ob226; omega)), (show y138.toInt ≤ x5.toInt + 221 from (by have t1 : y138.toInt ≤ 220 := b162; have t2 : 0 ≤ x5.toInt := ob225; omega)), (show x5.toInt ≤ y139.toInt + 10 from (by have t1 : 0 ≤ y139.toInt := b163; have t2 : x5.toInt ≤ 9 := ob226; omega)), (show y139.toInt ≤ x5.toInt + 2 from (by have t1 : y139.toInt ≤ 1 := b164; have t2 : 0 ≤ x5.toInt := ob225; omega)), (show y139.toInt ≤ t3_1.toInt from (by first | with_reducible exact q_fe b186 | (have t1 : y139.toInt ≤ t3_1.toInt := b186; omega))), (show x5.toInt ≤ y143.toInt + 10 from (by have t1 : 0 ≤ y143.toInt := b165; have t2 : x5.toInt ≤ 9 := ob226; omega)), (show y143.toInt ≤ x5.toInt + 221 from (by have t1 : y143.toInt ≤ 220 := b166; have t2 : 0 ≤ x5.toInt := ob225; omega)), (show x5.toInt ≤ y144.toInt + 10 from (by have t1 : 0 ≤ y144.toInt := b167; have t2 : x5.toInt ≤ 9 := ob226; omega)), (show y144.toInt ≤ x5.toInt + 2 from (by have t1 : y144.toInt ≤ 1 := b168; have t2 : 0 ≤ x5.toInt := ob225; omega)), (show x5.toInt ≤ y148.toInt + 10 from (by have t1 : 0 ≤ y148.toInt := b169; have t2 : x5.toInt ≤ 9 := ob226; omega)), (show y148.toInt ≤ x5.toInt + 221 from (by have t1 : y148.toInt ≤ 220 := b170; have t2 : 0 ≤ x5.toInt := ob225; omega)), (show y149.toInt ≤ x3.toInt + 2 from (by first | with_reducible exact q_fe b194 | (have t1 : y149.toInt ≤ x3.toInt + 2 := b194; omega))), (show x5.toInt ≤ y149.toInt + 10 from (by have t1 : 0 ≤ y149.toInt := b171; have t2 : x5.toInt ≤ 9 := ob226; omega)), (show y149.toInt ≤ x5.toInt + 2 from (by have t1 : y149.toInt ≤ 2 := b172; have t2 : 0 ≤ x5.toInt := ob225; omega)), (show y149.toInt ≤ t16_1.toInt + 1 from (by first | with_reducible exact q_fe b195 | (have t1 : y149.toInt ≤ t16_1.toInt + 1 := b195; omega))), (show x5.toInt ≤ y153.toInt + 10 from (by have t1 : 0 ≤ y153.toInt := b173; have t2 : x5.toInt ≤ 9 := ob226; omega)), (show y153.toInt ≤ x5.toInt + 221 from (by have t1 : y153.toInt ≤ 220 := b174; have t2 : 0 ≤ x5.toInt := ob225; omega)), (show x5.toInt ≤ y154.toInt + 10 from (by have t1 : 0 ≤ y154.toInt := b175; have t2 : x5.toInt ≤ 9 := ob226; omega)), (show y154.toInt ≤ x5.toInt + 2 from (by have t1 : y154.toInt ≤ 1 := b176; have t2 : 0 ≤ x5.toInt := ob225; omega)), (show x5.toInt ≤ t18_0.toInt + 10 from (by have t1 : 0 ≤ t18_0.toInt ∧ t18_0.toInt ≤ 68 := btt18_0; have t2 : x5.toInt ≤ 9 := ob226; omega)), (show t18_0.toInt ≤ x5.toInt + 69 from (by have t1 : 0 ≤ t18_0.toInt ∧ t18_0.toInt ≤ 68 := btt18_0; have t2 : 0 ≤ x5.toInt := ob225; omega)), (show x5.toInt ≤ t18_1.toInt + 10 from (by have t1 : 0 ≤ t18_1.toInt ∧ t18_1.toInt ≤ 1 := btt18_1; have t2 : x5.toInt ≤ 9 := ob226; omega)), (show t18_1.toInt ≤ x5.toInt + 2 from (by have t1 : 0 ≤ t18_1.toInt ∧ t18_1.toInt ≤ 1 := btt18_1; have t2 : 0 ≤ x5.toInt := ob225; omega)), (show x5.toInt ≤ t20_0.toInt + 10010 from (by have t1 : -10000 ≤ t20_0.toInt ∧ t20_0.toInt ≤ 10000 := btt20_0; have t2 : x5.toInt ≤ 9 := ob226; omega)), (show t20_0.toInt ≤ x5.toInt + 10001 from (by have t1 : -10000 ≤ t20_0.toInt ∧ t20_0.toInt ≤ 10000 := btt20_0; have t2 : 0 ≤ x5.toInt := ob225; omega)), (show x5.toInt ≤ t20_1.toInt + 9 from (by have t1 : 1 ≤ t20_1.toInt ∧ t20_1.toInt ≤ 1000 := btt20_1; have t2 : x5.toInt ≤ 9 := ob226; omega)), (show t20_1.toInt ≤ x5.toInt + 1001 from (by have t1 : 1 ≤ t20_1.toInt ∧ t20_1.toInt ≤ 1000 := btt20_1; have t2 : 0 ≤ x5.toInt := ob225; omega)), (show x5.toInt ≤ t21_0.toInt + 10 from (by have t1 : 0 ≤ t21_0.toInt ∧ t21_0.toInt ≤ 108 := btt21_0; have t2 : x5.toInt ≤ 9 := ob226; omega)), (show t21_0.toInt ≤ x5.toInt + 109 from (by have t1 : 0 ≤ t21_0.toInt ∧ t21_0.toInt ≤ 108 := btt21_0; have t2 : 0 ≤ x5.toInt := ob225; omega)), (show x5.toInt ≤ t21_1.toInt + 10 from (by have t1 : 0 ≤ t21_1.toInt ∧ t21_1.toInt ≤ 1 := btt21_1; have t2 : x5.toInt ≤ 9 := ob226; omega)), (show t21_1.toInt ≤ x5.toInt + 2 from (by have t1 : 0 ≤ t21_1.toInt ∧ t21_1.toInt ≤ 1 := btt21_1; have t2 : 0 ≤ x5.toInt := ob225; omega)), (show ((0 : Int32), t0_0, t0_1, y133, y134, f135, y138, y139, f140, y143, y144, f145, y148, y149, f150, y153, y154, f155, f229, t12_0, t18_0, t18_1, t19_0, t20_0, t20_1, t21_0, t21_1, t22_0) = (F_NH_convert x2 x3 x4 x5 t0_0 t0_1 t1_0 t1_1 t2_0 t3_0 t3_1 t4_0 t5_0 t5_1 t6_0 t7_0 t7_1 t8_0 t9_0 t9_1 t10_0 t11_0 t12_0 t13_0 t13_1 t14_0 t15_0 t15_1 t16_0 t16_1 t17_0 t18_0 t18_1 t19_0 t20_0 t20_1 t21_0 t21_1 t22_0) from Eq.trans (by rw [← e230, e219, e218, e217, e216, e215, e214, e213, e212, e211, e210, e209, e208, e207, e206, e205, e204, F_NH_convert_c65.eq_1]) hR220)⟩) d_1_16_69)
            ·
              have hr231 : a123 = q 35 := hr124.trans (congrArg q (by unfold F_NH_floatsOf; rw [if_neg c125]))
              subst hr231
              have ob233 : True ∧ S_NH_madeFloat_n x2 x3 t1_0 t1_1 t2_0 t3_0 t3_1 t4_0 t5_0 t5_1 t6_0 t7_0 t7_1 t8_0 t9_0 t9_1 t10_0 t11_0 t12_0 t13_0 t13_1 t14_0 t15_0 t15_1 t16_0 t16_1 t17_0 := (by have h := hS; rw [S_NH_convert.eq_1] at h; rw [if_pos c97] at h; rw [if_pos c106] at h; rw [if_neg c109] at h; rw [if_neg c111] at h; rw [if_pos c118] at h; rw [if_neg c125] at h; with_reducible exact h.2.1)
              refine q_gol V (q_runV (As := [.int x2, .int x3, .ref (q 35)]) (rest := [.int x5, .ref (q 7)]) (d := 6) (mc := 0) (ms := 0) (ci := 0) C0 V rfl LV_NH_323 (X_NH_madeFloat_n l D g q ws  x2 x3 k3 hBk3 yk3 gk3x3 d3 hBd3 yd3 gd3x3 (by have z := ne_k3_d3; omega) (by have z := ne_k3_d3p1; omega) (by have z := ne_k3_d3p2; omega) (by have z := ne_d3_k3p1; omega) hI t1_0 t1_1 hT1 t2_0 hT2 t3_0 t3_1 hT3 t4_0 hT4 t5_0 t5_1 hT5 t6_0 hT6 t7_0 t7_1 hT7 t8_0 hT8 t9_0 t9_1 hT9 t10_0 hT10 t11_0 hT11 t12_0 hT12 t13_0 t13_1 hT13 t14_0 hT14 t15_0 t15_1 hT15 t16_0 t16_1 hT16 t17_0 hT17 ob233 _) rfl rfl hO113 rfl hl.1 rfl (Nat.le_of_ble_eq_true rfl) ⟨by decide, by decide⟩ ⟨Nat.le_of_ble_eq_true rfl, Nat.le_of_ble_eq_true rfl⟩ d_1_16_65) (fun j236 u234 H locs hp235 V => ?_)
              obtain ⟨hI, hZ9⟩ := hp235
              obtain ⟨hu306, hZ9⟩ := hZ9
              obtain ⟨y238, hZ9⟩ := hZ9
              obtain ⟨y239, hZ9⟩ := hZ9
              obtain ⟨f240, hZ9⟩ := hZ9
              obtain ⟨y243, hZ9⟩ := hZ9
              obtain ⟨y244, hZ9⟩ := hZ9
              obtain ⟨f245, hZ9⟩ := hZ9
              obtain ⟨y248, hZ9⟩ := hZ9
              obtain ⟨y249, hZ9⟩ := hZ9
              obtain ⟨f250, hZ9⟩ := hZ9
              obtain ⟨y253, hZ9⟩ := hZ9
              obtain ⟨y254, hZ9⟩ := hZ9
              obtain ⟨f255, hZ9⟩ := hZ9
              obtain ⟨y258, hZ9⟩ := hZ9
              obtain ⟨y259, hZ9⟩ := hZ9
              obtain ⟨f260, hZ9⟩ := hZ9
              obtain ⟨hO237, hZ9⟩ := hZ9
              obtain ⟨hA241, hZ9⟩ := hZ9
              obtain ⟨hO242, hZ9⟩ := hZ9
              obtain ⟨hA246, hZ9⟩ := hZ9
              obtain ⟨hO247, hZ9⟩ := hZ9
              obtain ⟨hA251, hZ9⟩ := hZ9
              obtain ⟨hO252, hZ9⟩ := hZ9
              obtain ⟨hA256, hZ9⟩ := hZ9
              obtain ⟨hO257, hZ9⟩ := hZ9
              obtain ⟨hA261, hZ9⟩ := hZ9
              obtain ⟨b262, hZ9⟩ := hZ9
              obtain ⟨b263, hZ9⟩ := hZ9
              obtain ⟨b264, hZ9⟩ := hZ9
              obtain ⟨b265, hZ9⟩ := hZ9
              obtain ⟨b266, hZ9⟩ := hZ9
              obtain ⟨b267, hZ9⟩ := hZ9
              obtain ⟨b268, hZ9⟩ := hZ9
              obtain ⟨b269, hZ9⟩ := hZ9
              obtain ⟨b270, hZ9⟩ := hZ9
              obtain ⟨b271, hZ9⟩ := hZ9
              obtain ⟨b272, hZ9⟩ := hZ9
              obtain ⟨b273, hZ9⟩ := hZ9
              obtain ⟨b274, hZ9⟩ := hZ9
              obtain ⟨b275, hZ9⟩ := hZ9
              obtain ⟨b276, hZ9⟩ := hZ9
              obtain ⟨b277, hZ9⟩ := hZ9
              obtain ⟨b278, hZ9⟩ := hZ9
              obtain ⟨b279, hZ9⟩ := hZ9
              obtain ⟨b280, hZ9⟩ := hZ9
              obtain ⟨b281, hZ9⟩ := hZ9
              obtain ⟨b282, hZ9⟩ := hZ9
              obtain ⟨b283, hZ9⟩ := hZ9
              replace hZ9 := hZ9.2
              obtain ⟨b285, hZ9⟩ := hZ9
              obtain ⟨b286, hZ9⟩ := hZ9
              replace hZ9 := hZ9.2.2.2.2
              obtain ⟨b291, hZ9⟩ := hZ9
              replace hZ9 := hZ9.2.2.2.2.2.2.2
              obtain ⟨b299, hZ9⟩ := hZ9
              obtain ⟨b300, hZ9⟩ := hZ9
              replace hZ9 := hZ9.2.2.2
              obtain ⟨-, hE305⟩ := hZ9
              replace hO237 : u234[10]? = (some (q 10, .inr (2, [.ref (q 11), .int y238, .int y239])) : Option (Nat × va_E)) := hO237
              replace hA241 : u234[11]? = (some (q 11, .inl (g 0, (220 : Int32).toNatClampNeg, .inl f240)) : Option (Nat × va_E)) := hA241
              replace hO242 : u234[12]? = (some (q 12, .inr (2, [.ref (q 13), .int y243, .int y244])) : Option (Nat × va_E)) := hO242
              replace hA246 : u234[13]? = (some (q 13, .inl (g 0, (220 : Int32).toNatClampNeg, .inl f245)) : Option (Nat × va_E)) := hA246
              replace hO247 : u234[20]? = (some (q 20, .inr (2, [.ref (q 21), .int y248, .int y249])) : Option (Nat × va_E)) := hO247
              replace hA251 : u234[21]? = (some (q 21, .inl (g 0, (220 : Int32).toNatClampNeg, .inl f250)) : Option (Nat × va_E)) := hA251
              replace hO252 : u234[22]? = (some (q 22, .inr (2, [.ref (q 23), .int y253, .int y254])) : Option (Nat × va_E)) := hO252
              replace hA256 : u234[23]? = (some (q 23, .inl (g 0, (220 : Int32).toNatClampNeg, .inl f255)) : Option (Nat × va_E)) := hA256
              replace hO257 : u234[24]? = (some (q 24, .inr (2, [.ref (q 25), .int y258, .int y259])) : Option (Nat × va_E)) := hO257
              replace hA261 : u234[25]? = (some (q 25, .inl (g 0, (220 : Int32).toNatClampNeg, .inl f260)) : Option (Nat × va_E)) := hA261
              obtain ⟨p307, e308⟩ : ∃ z, z = (F_NH_madeFloat_n x2 x3 t1_0 t1_1 t2_0 t3_0 t3_1 t4_0 t5_0 t5_1 t6_0 t7_0 t7_1 t8_0 t9_0 t9_1 t10_0 t11_0 t12_0 t13_0 t13_1 t14_0 t15_0 t15_1 t16_0 t16_1 t17_0) := ⟨_, rfl⟩
              have e309 : j236 = p307.1 := congrArg (fun z => z.1) (hE305.trans e308.symm)
              have e310 : y238 = p307.2.1 := congrArg (fun z => z.2.1) (hE305.trans e308.symm)
              have e311 : y239 = p307.2.2.1 := congrArg (fun z => z.2.2.1) (hE305.trans e308.symm)
              have e312 : f240 = p307.2.2.2.1 := congrArg (fun z => z.2.2.2.1) (hE305.trans e308.symm)
              have e313 : y243 = p307.2.2.2.2.1 := congrArg (fun z => z.2.2.2.2.1) (hE305.trans e308.symm)
              have e314 : y244 = p307.2.2.2.2.2.1 := congrArg (fun z => z.2.2.2.2.2.1) (hE305.trans e308.symm)
              have e315 : f245 = p307.2.2.2.2.2.2.1 := congrArg (fun z => z.2.2.2.2.2.2.1) (hE305.trans e308.symm)
              have e316 : y248 = p307.2.2.2.2.2.2.2.1 := congrArg (fun z => z.2.2.2.2.2.2.2.1) (hE305.trans e308.symm)
              have e317 : y249 = p307.2.2.2.2.2.2.2.2.1 := congrArg (fun z => z.2.2.2.2.2.2.2.2.1) (hE305.trans e308.symm)
              have e318 : f250 = p307.2.2.2.2.2.2.2.2.2.1 := congrArg (fun z => z.2.2.2.2.2.2.2.2.2.1) (hE305.trans e308.symm)
              have e319 : y253 = p307.2.2.2.2.2.2.2.2.2.2.1 := congrArg (fun z => z.2.2.2.2.2.2.2.2.2.2.1) (hE305.trans e308.symm)
              have e320 : y254 = p307.2.2.2.2.2.2.2.2.2.2.2.1 := congrArg (fun z => z.2.2.2.2.2.2.2.2.2.2.2.1) (hE305.trans e308.symm)
              have e321 : f255 = p307.2.2.2.2.2.2.2.2.2.2.2.2.1 := congrArg (fun z => z.2.2.2.2.2.2.2.2.2.2.2.2.1) (hE305.trans e308.symm)
              have e322 : y258 = p307.2.2.2.2.2.2.2.2.2.2.2.2.2.1 := congrArg (fun z => z.2.2.2.2.2.2.2.2.2.2.2.2.2.1) (hE305.trans e308.symm)
              have e323 : y259 = p307.2.2.2.2.2.2.2.2.2.2.2.2.2.2.1 := congrArg (fun z => z.2.2.2.2.2.2.2.2.2.2.2.2.2.2.1) (hE305.trans e308.symm)
              have e324 : f260 = p307.2.2.2.2.2.2.2.2.2.2.2.2.2.2.2 := congrArg (fun z => z.2.2.2.2.2.2.2.2.2.2.2.2.2.2.2) (hE305.trans e308.symm)
              replace b262 : q_F (0 ≤ y238.toInt) := b262
              replace b263 : q_F (y238.toInt ≤ 220) := b263
              replace b264 : q_F (0 ≤ y239.toInt) := b264
              replace b265 : q_F (y239.toInt ≤ 1) := b265
              replace b266 : q_F (0 ≤ y243.toInt) := b266
              replace b267 : q_F (y243.toInt ≤ 220) := b267
              replace b268 : q_F (0 ≤ y244.toInt) := b268
              replace b269 : q_F (y244.toInt ≤ 1) := b269
              replace b270 : q_F (0 ≤ y248.toInt) := b270
              replace b271 : q_F (y248.toInt ≤ 220) := b271
              replace b272 : q_F (0 ≤ y249.toInt) := b272
              replace b273 : q_F (y249.toInt ≤ 1) := b273
              replace b274 : q_F (0 ≤ y253.toInt) := b274
              replace b275 : q_F (y253.toInt ≤ 220) := b275
              replace b276 : q_F (0 ≤ y254.toInt) := b276
              replace b277 : q_F (y254.toInt ≤ 2) := b277
              replace b278 : q_F (0 ≤ y258.toInt) := b278
              replace b279 : q_F (y258.toInt ≤ 220) := b279
              replace b280 : q_F (0 ≤ y259.toInt) := b280
              replace b281 : q_F (y259.toInt ≤ 1) := b281
              replace b282 : q_F (x3.toInt ≤ y238.toInt + 9) := b282
              replace b283 : q_F (y238.toInt ≤ x3.toInt + 220) := b283
              replace b285 : q_F (x3.toInt ≤ y239.toInt + 9) := b285
              replace b286 : q_F (y239.toInt ≤ x3.toInt + 1) := b286
              replace b291 : q_F (y244.toInt ≤ t3_1.toInt) := b291
              replace b299 : q_F (y254.toInt ≤ x3.toInt + 2) := b299
              replace b300 : q_F (y254.toInt ≤ t16_1.toInt + 1) := b300
              replace hT0 := (hu306 _ (by decide)).trans hT0
              replace hT11 := (hu306 _ (by decide)).trans hT11
              replace hT12 := (hu306 _ (by decide)).trans hT12
              replace hT18 := (hu306 _ (by have z0 := yk5; simp only [List.mem_cons, List.not_mem_nil, or_false, not_or]; omega)).trans hT18
              replace hT19 := (hu306 _ (by have z0 := yk5; simp only [List.mem_cons, List.not_mem_nil, or_false, not_or]; omega)).trans hT19
              replace hT20 := (hu306 _ (by have z0 := yd5; simp only [List.mem_cons, List.not_mem_nil, or_false, not_or]; omega)).trans hT20
              replace hT21 := (hu306 _ (by have z0 := yd5; simp only [List.mem_cons, List.not_mem_nil, or_false, not_or]; omega)).trans hT21
              replace hT22 := (hu306 _ (by have z0 := yd5; simp only [List.mem_cons, List.not_mem_nil, or_false, not_or]; omega)).trans hT22
              replace hF := q_uc hF hu306 (by simp)
              have hR325 := (show F_NH_convert_c65_2 x2 x3 x4 x5 t0_0 t0_1 t1_0 t1_1 t2_0 t3_0 t3_1 t4_0 t5_0 t5_1 t6_0 t7_0 t7_1 t8_0 t9_0 t9_1 t10_0 t11_0 t12_0 t13_0 t13_1 t14_0 t15_0 t15_1 t16_0 t16_1 t17_0 t18_0 t18_1 t19_0 t20_0 t20_1 t21_0 t21_1 t22_0 p307 = (F_NH_convert x2 x3 x4 x5 t0_0 t0_1 t1_0 t1_1 t2_0 t3_0 t3_1 t4_0 t5_0 t5_1 t6_0 t7_0 t7_1 t8_0 t9_0 t9_1 t10_0 t11_0 t12_0 t13_0 t13_1 t14_0 t15_0 t15_1 t16_0 t16_1 t17_0 t18_0 t18_1 t19_0 t20_0 t20_1 t21_0 t21_1 t22_0) from (by rw [e308, F_NH_convert.eq_1, if_pos c97, if_pos c106, if_neg c109, if_neg c111, if_pos c118, if_neg c125]))
              have hS326 := (show True ∧ S_NH_convert_c65_2 x2 x3 x4 x5 t0_0 t0_1 t1_0 t1_1 t2_0 t3_0 t3_1 t4_0 t5_0 t5_1 t6_0 t7_0 t7_1 t8_0 t9_0 t9_1 t10_0 t11_0 t12_0 t13_0 t13_1 t14_0 t15_0 t15_1 t16_0 t16_1 t17_0 t18_0 t18_1 t19_0 t20_0 t20_1 t21_0 t21_1 t22_0 p307 from (by rw [e308]; have h := hS; rw [S_NH_convert.eq_1] at h; rw [if_pos c97] at h; rw [if_pos c106] at h; rw [if_neg c109] at h; rw [if_neg c111] at h; rw [if_pos c118] at h; rw [if_neg c125] at h; replace h := q_s2 h; with_reducible exact h))
              have ob330 : q_F (0 ≤ x5.toInt) := (by have h := hS326; rw [S_NH_convert_c65_2.eq_1] at h; exact h.2.1)
              have ob331 : q_F (x5.toInt ≤ 9) := (by have h := hS326; rw [S_NH_convert_c65_2.eq_1] at h; replace h := q_s2 h; exact h.2.1)
              refine q_last C0 V hT11 (q_ix (x := x5.toInt) rfl (by first | with_reducible exact q_fe ob330 | (have t1 : 0 ≤ x5.toInt := ob330; omega)) (by have t1 : 0 ≤ x5.toInt := ob330; have t2 : x5.toInt ≤ 9 := ob331; omega)) d_1_16_68 (fun H locs w332 hu333 hT11 V => ?_)
              replace hI := n_al' hI (n_s7 g q) hu333 hT11
              replace hT0 := (hu333 _ (by decide)).trans hT0
              replace hO237 := (hu333 _ (by decide)).trans hO237
              replace hA241 := (hu333 _ (by decide)).trans hA241
              replace hO242 := (hu333 _ (by decide)).trans hO242
              replace hA246 := (hu333 _ (by decide)).trans hA246
              replace hO247 := (hu333 _ (by decide)).trans hO247
              replace hA251 := (hu333 _ (by decide)).trans hA251
              replace hO252 := (hu333 _ (by decide)).trans hO252
              replace hA256 := (hu333 _ (by decide)).trans hA256
              replace hO257 := (hu333 _ (by decide)).trans hO257
              replace hA261 := (hu333 _ (by decide)).trans hA261
              replace hT12 := (hu333 _ (by decide)).trans hT12
              replace hT18 := (hu333 _ (by have z0 := yk5; omega)).trans hT18
              replace hT19 := (hu333 _ (by have z0 := yk5; omega)).trans hT19
              replace hT20 := (hu333 _ (by have z0 := yd5; omega)).trans hT20
              replace hT21 := (hu333 _ (by have z0 := yd5; omega)).trans hT21
              replace hT22 := (hu333 _ (by have z0 := yd5; omega)).trans hT22
              replace hF := q_us hF hu333 (by simp)
              obtain ⟨f334, e335⟩ := q_nm (vp_updL t11_0 x5.toNatClampNeg j236 : (Nat → Int64))
              rw [e335] at hT11
              refine W.widen (k := 4) (n := 24) (Nat.le_of_ble_eq_true rfl) (Nat.le_of_ble_eq_true rfl) ?_
              exact q_retX (q_retv C0 V (⟨hI, hF, t0_0, t0_1, y238, y239, f240, y243, y244, f245, y248, y249, f250, y253, y254, f255, y258, y259, f260, f334, t12_0, t18_0, t18_1, t19_0, t20_0, t20_1, t21_0, t21_1, t22_0, hT0, hO237, hA241, hO242, hA246, hO247, hA251, hO252, hA256, hO257, hA261, hT11, hT12, hT18, hT19, hT20, hT21, hT22, (show 0 ≤ t0_1.toInt from (by first | with_reducible exact (q_fe btt0_1).2 | with_reducible exact (q_fe btt0_1).1 | (have t1 : 0 ≤ t0_1.toInt ∧ t0_1.toInt ≤ 1 := btt0_1; omega))), (show t0_1.toInt ≤ 1 from (by first | with_reducible exact (q_fe btt0_1).2 | with_reducible exact (q_fe btt0_1).1 | (have t1 : 0 ≤ t0_1.toInt ∧ t0_1.toInt ≤ 1 := btt0_1; omega))), (show 0 ≤ y238.toInt from (by first | with_reducible exact q_fe b262 | (have t1 : 0 ≤ y238.toInt := b262; omega))), (show y238.toInt ≤ 220 from (by first | with_reducible exact q_fe b263 | (have t1 : y238.toInt ≤ 220 := b263; omega))), (show 0 ≤ y239.toInt from (by first | with_reducible exact q_fe b264 | (have t1 : 0 ≤ y239.toInt := b264; omega))), (show y239.toInt ≤ 1 from (by first | with_reducible exact q_fe b265 | (have t1 : y239.toInt ≤ 1 := b265; omega))), (show 0 ≤ y243.toInt from (by first | with_reducible exact q_fe b266 | (have t1 : 0 ≤ y243.toInt := b266; omega))), (show y243.toInt ≤ 220 from (by first | with_reducible exact q_fe b267 | (have t1 : y243.toInt ≤ 220 := b267; omega))), (show 0 ≤ y244.toInt from (by first | with_reducible exact q_fe b268 | (have t1 : 0 ≤ y244.toInt := b268; omega))), (show y244.toInt ≤ 1 from (by first | with_reducible exact q_fe b269 | (have t1 : y244.toInt ≤ 1 := b269; omega))), (show 0 ≤ y248.toInt from (by first | with_reducible exact q_fe b270 | (have t1 : 0 ≤ y248.toInt := b270; omega))), (show y248.toInt ≤ 220 from (by first | with_reducible exact q_fe b271 | (have t1 : y248.toInt ≤ 220 := b271; omega))), (show 0 ≤ y249.toInt from (by first | with_reducible exact q_fe b272 | (have t1 : 0 ≤ y249.toInt := b272; omega))), (show y249.toInt ≤ 1 from (by first | with_reducible exact q_fe b273 | (have t1 : y249.toInt ≤ 1 := b273; omega))), (show 0 ≤ y253.toInt from (by first | with_reducible exact q_fe b274 | (have t1 : 0 ≤ y253.toInt := b274; omega))), (show y253.toInt ≤ 220 from (by first | with_reducible exact q_fe b275 | (have t1 : y253.toInt ≤ 220 := b275; omega))), (show 0 ≤ y254.toInt from (by first | with_reducible exact q_fe b276 | (have t1 : 0 ≤ y254.toInt := b276; omega))), (show y254.toInt ≤ 2 from (by first | with_reducible exact q_fe b277 | (have t1 : y254.toInt ≤ 2 := b277; omega))), (show 0 ≤ y258.toInt from (by first | with_reducible exact q_fe b278 | (have t1 : 0 ≤ y258.toInt := b278; omega))), (show y258.toInt ≤ 220 from (by first | with_reducible exact q_fe b279 | (have t1 : y258.toInt ≤ 220 := b279; omega))), (show 0 ≤ y259.toInt from (by first | with_reducible exact q_fe b280 | (have t1 : 0 ≤ y259.toInt := b280; omega))), (show y259.toInt ≤ 1 from (by first | with_reducible exact q_fe b281 | (have t1 : y259.toInt ≤ 1 := b281; omega))), (show 0 ≤ t18_0.toInt from (by first | with_reducible exact (q_fe btt18_0).2 | with_reducible exact (q_fe btt18_0).1 | (have t1 : 0 ≤ t18_0.toInt ∧ t18_0.toInt ≤ 68 := btt18_0; omega))), (show t18_0.toInt ≤ 68 from (by first | with_reducible exact (q_fe btt18_0).2 | with_reducible exact (q_fe btt18_0).1 | (have t1 : 0 ≤ t18_0.toInt ∧ t18_0.toInt ≤ 68 := btt18_0; omega))), (show 0 ≤ t18_1.toInt from (by first | with_reducible exact (q_fe btt18_1).2 | with_reducible exact (q_fe btt18_1).1 | (have t1 : 0 ≤ t18_1.toInt ∧ t18_1.toInt ≤ 1 := btt18_1; omega))), (show t18_1.toInt ≤ 1 from (by first | with_reducible exact (q_fe btt18_1).2 | with_reducible exact (q_fe btt18_1).1 | (have t1 : 0 ≤ t18_1.toInt ∧ t18_1.toInt ≤ 1 := btt18_1; omega))), (show 0 ≤ t20_0.toInt + 10000 from (by first | with_reducible exact (q_fe btt20_0).2 | with_reducible exact (q_fe btt20_0).1 | (have t1 : -10000 ≤ t20_0.toInt ∧ t20_0.toInt ≤ 10000 := btt20_0; omega))), (show t20_0.toInt ≤ 10000 from (by first | with_reducible exact (q_fe btt20_0).2 | with_reducible exact (q_fe btt20_0).1 | (have t1 : -10000 ≤ t20_0.toInt ∧ t20_0.toInt ≤ 10000 := btt20_0; omega))), (show 1 ≤ t20_1.toInt from (by first | with_reducible exact (q_fe btt20_1).2 | with_reducible exact (q_fe btt20_1).1 | (have t1 : 1 ≤ t20_1.toInt ∧ t20_1.toInt ≤ 1000 := btt20_1; omega))), (show t20_1.toInt ≤ 1000 from (by first | with_reducible exact (q_fe btt20_1).2 | with_reducible exact (q_fe btt20_1).1 | (have t1 : 1 ≤ t20_1.toInt ∧ t20_1.toInt ≤ 1000 := btt20_1; omega))), (show 0 ≤ t21_0.toInt from (by first | with_reducible exact (q_fe btt21_0).2 | with_reducible exact (q_fe btt21_0).1 | (have t1 : 0 ≤ t21_0.toInt ∧ t21_0.toInt ≤ 108 := btt21_0; omega))), (show t21_0.toInt ≤ 108 from (by first | with_reducible exact (q_fe btt21_0).2 | with_reducible exact (q_fe btt21_0).1 | (have t1 : 0 ≤ t21_0.toInt ∧ t21_0.toInt ≤ 108 := btt21_0; omega))), (show 0 ≤ t21_1.toInt from (by first | with_reducible exact (q_fe btt21_1).2 | with_reducible exact (q_fe btt21_1).1 | (have t1 : 0 ≤ t21_1.toInt ∧ t21_1.toInt ≤ 1 := btt21_1; omega))), (show t21_1.toInt ≤ 1 from (by first | with_reducible exact (q_fe btt21_1).2 | with_reducible exact (q_fe btt21_1).1 | (have t1 : 0 ≤ t21_1.toInt ∧ t21_1.toInt ≤ 1 := btt21_1; omega))), (show x5.toInt ≤ t0_1.toInt + 10 from (by have t1 : 0 ≤ t0_1.toInt ∧ t0_1.toInt ≤ 1 := btt0_1; have t2 : x5.toInt ≤ 9 := ob331; omega)), (show t0_1.toInt ≤ x5.toInt + 2 from (by have t1 : 0 ≤ t0_1.toInt ∧ t0_1.toInt ≤ 1 := btt0_1; have t2 : 0 ≤ x5.toInt := ob330; omega)), (show t0_1.toInt ≤ t0_1.toInt from (by omega)), (show t0_1.toInt ≤ t0_1.toInt from (by omega)), (show x3.toInt ≤ y238.toInt + 9 from (by first | with_reducible exact q_fe b282 | (have t1 : x3.toInt ≤ y238.toInt + 9 := b282; omega))), (show y238.toInt ≤ x3.toInt + 220 from (by first | with_reducible exact q_fe b283 | (have t1 : y238.toInt ≤ x3.toInt + 220 := b283; omega))), (show x5.toInt ≤ y238.toInt + 10 from (by have t1 : 0 ≤ y238.toInt := b262; have t2 : x5.toInt ≤ 9 := ob331; omega)), (show y238.toInt ≤ x5.toInt + 221 from (by have t1 : y238.toInt ≤ 220 := b263; have t2 : 0 ≤ x5.toInt := ob330; omega)), (show x3.toInt ≤ y239.toInt + 9 from (by first | with_reducible exact q_fe b285 | (have t1 : x3.toInt ≤ y239.toInt + 9 := b285; omega))), (show y239.toInt ≤ x3.toInt + 1 from (by first | with_reducible exact q_fe b286 | (have t1 : y239.toInt ≤ x3.toInt + 1 := b286; omega))), (show x5.toInt ≤ y239.toInt + 10 from (by have t1 : 0 ≤ y239.toInt := b264; have t2 : x5.toInt ≤ 9 := ob331; omega)), (show y239.toInt ≤ x5.toInt + 2 from (by have t1 : y239.toInt ≤ 1 := b265; have t2 : 0 ≤ x5.toInt := ob330; omega)), (show x5.toInt ≤ y243.toInt + 10 from (by have t1 : 0 ≤ y243.toInt := b266; have t2 : x5.toInt ≤ 9 := ob331; omega)), (show y243.toInt ≤ x5.toInt + 221 from (by have t1 : y243.toInt ≤ 220 := b267; have t2 : 0 ≤ x5.toInt := ob330; omega)), (show x5.toInt ≤ y244.toInt + 10 from (by have t1 : 0 ≤ y244.toInt := b268; have t2 : x5.toInt ≤ 9 := ob331; omega)), (show y244.toInt ≤ x5.toInt + 2 from (by have t1 : y244.toInt ≤ 1 := b269; have t2 : 0 ≤ x5.toInt := ob330; omega)), (show y244.toInt ≤ t3_1.toInt from (by first | with_reducible exact q_fe b291 | (have t1 : y244.toInt ≤ t3_1.toInt := b291; omega))), (show x5.toInt ≤ y248.toInt + 10 from (by have t1 : 0 ≤ y248.toInt := b270; have t2 : x5.toInt ≤ 9 := ob331; omega)), (show y248.toInt ≤ x5.toInt + 221 from (by have t1 : y248.toInt ≤ 220 := b271; have t2 : 0 ≤ x5.toInt := ob330; omega)), (show x5.toInt ≤ y249.toInt + 10 from (by have t1 : 0 ≤ y249.toInt := b272; have t2 : x5.toInt ≤ 9 := ob331; omega)), (show y249.toInt ≤ x5.toInt + 2 from (by have t1 : y249.toInt ≤ 1 := b273; have t2 : 0 ≤ x5.toInt := ob330; omega)), (show x5.toInt ≤ y253.toInt + 10 from (by have t1 : 0 ≤ y253.toInt := b274; have t2 : x5.toInt ≤ 9 := ob331; omega)), (show y253.toInt ≤ x5.toInt + 221 from (by have t1 : y253.toInt ≤ 220 := b275; have t2 : 0 ≤ x5.toInt := ob330; omega)), (show y254.toInt ≤ x3.toInt + 2 from (by first | with_reducible exact q_fe b299 | (have t1 : y254.toInt ≤ x3.toInt + 2 := b299; omega))), (show x5.toInt ≤ y254.toInt + 10 from (by have t1 : 0 ≤ y254.toInt := b276; have t2 : x5.toInt ≤ 9 := ob331; omega)), (show y254.toInt ≤ x5.toInt + 2 from (by have t1 : y254.toInt ≤ 2 := b277; have t2 : 0 ≤ x5.toInt := ob330; omega)), (show y254.toInt ≤ t16_1.toInt + 1 from (by first | with_reducible exact q_fe b300 | (have t1 : y254.toInt ≤ t16_1.toInt + 1 := b300; omega))), (show x5.toInt ≤ y258.toInt + 10 from (by have t1 : 0 ≤ y258.toInt := b278; have t2 : x5.toInt ≤ 9 := ob331; omega)), (show y258.toInt ≤ x5.toInt + 221 from (by have t1 : y258.toInt ≤ 220 := b279; have t2 : 0 ≤ x5.toInt := ob330; omega)), (show x5.toInt ≤ y259.toInt + 10 from (by have t1 : 0 ≤ y259.toInt := b280; have t2 : x5.toInt ≤ 9 := ob331; omega)), (show y259.toInt ≤ x5.toInt + 2 from (by have t1 : y259.toInt ≤ 1 := b281; have t2 : 0 ≤ x5.toInt := ob330; omega)), (show x5.toInt ≤ t18_0.toInt + 10 from (by have t1 : 0 ≤ t18_0.toInt ∧ t18_0.toInt ≤ 68 := btt18_0; have t2 : x5.toInt ≤ 9 := ob331; omega)), (show t18_0.toInt ≤ x5.toInt + 69 from (by have t1 : 0 ≤ t18_0.toInt ∧ t18_0.toInt ≤ 68 := btt18_0; have t2 : 0 ≤ x5.toInt := ob330; omega)), (show x5.toInt ≤ t18_1.toInt + 10 from (by have t1 : 0 ≤ t18_1.toInt ∧ t18_1.toInt ≤ 1 := btt18_1; have t2 : x5.toInt ≤ 9 := ob331; omega)), (show t18_1.toInt ≤ x5.toInt + 2 from (by have t1 : 0 ≤ t18_1.toInt ∧ t18_1.toInt ≤ 1 := btt18_1; have t2 : 0 ≤ x5.toInt := ob330; omega)), (show x5.toInt ≤ t20_0.toInt + 10010 from (by have t1 : -10000 ≤ t20_0.toInt ∧ t20_0.toInt ≤ 10000 := btt20_0; have t2 : x5.toInt ≤ 9 := ob331; omega)), (show t20_0.toInt ≤ x5.toInt + 10001 from (by have t1 : -10000 ≤ t20_0.toInt ∧ t20_0.toInt ≤ 10000 := btt20_0; have t2 : 0 ≤ x5.toInt := ob330; omega)), (show x5.toInt ≤ t20_1.toInt + 9 from (by have t1 : 1 ≤ t20_1.toInt ∧ t20_1.toInt ≤ 1000 := btt20_1; have t2 : x5.toInt ≤ 9 := ob331; omega)), (show t20_1.toInt ≤ x5.toInt + 1001 from (by have t1 : 1 ≤ t20_1.toInt ∧ t20_1.toInt ≤ 1000 := btt20_1; have t2 : 0 ≤ x5.toInt := ob330; omega)), (show x5.toInt ≤ t21_0.toInt + 10 from (by have t1 : 0 ≤ t21_0.toInt ∧ t21_0.toInt ≤ 108 := btt21_0; have t2 : x5.toInt ≤ 9 := ob331; omega)), (show t21_0.toInt ≤ x5.toInt + 109 from (by have t1 : 0 ≤ t21_0.toInt ∧ t21_0.toInt ≤ 108 := btt21_0; have t2 : 0 ≤ x5.toInt := ob330; omega)), (show x5.toInt ≤ t21_1.toInt + 10 from (by have t1 : 0 ≤ t21_1.toInt ∧ t21_1.toInt ≤ 1 := btt21_1; have t2 : x5.toInt ≤ 9 := ob331; omega)), (show t21_1.toInt ≤ x5.toInt + 2 from (by have t1 : 0 ≤ t21_1.toInt ∧ t21_1.toInt ≤ 1 := btt21_1; have t2 : 0 ≤ x5.toInt := ob330; omega)), (show ((0 : Int32), t0_0, t0_1, y238, y239, f240, y243, y244, f245, y248, y249, f250, y253, y254, f255, y258, y259, f260, f334, t12_0, t18_0, t18_1, t19_0, t20_0, t20_1, t21_0, t21_1, t22_0) = (F_NH_convert x2 x3 x4 x5 t0_0 t0_1 t1_0 t1_1 t2_0 t3_0 t3_1 t4_0 t5_0 t5_1 t6_0 t7_0 t7_1 t8_0 t9_0 t9_1 t10_0 t11_0 t12_0 t13_0 t13_1 t14_0 t15_0 t15_1 t16_0 t16_1 t17_0 t18_0 t18_1 t19_0 t20_0 t20_1 t21_0 t21_1 t22_0) from Eq.trans (by rw [← e335, e324, e323, e322, e321, e320, e319, e318, e317, e316, e315, e314, e313, e312, e311, e310, e309, F_NH_convert_c65_2.eq_1]) hR325)⟩) d_1_16_69)
          ·
            have hr336 : a116 = q 8 := hr117.trans (congrArg q (by unfold F_NH_floatRow; rw [if_neg c118]))
            subst hr336
            refine lv_iload hx hb d_1_16_55 (lv_at hl 4 rfl) ?_
            refine lv_aload_n hx hb d_1_16_57 rfl (lv_at hl 0 rfl) ?_
            refine lv_iload_n hx hb d_1_16_58 rfl (lv_at hl 1 rfl) ?_
            refine lv_iload_n hx hb d_1_16_59 rfl (lv_at hl 2 rfl) ?_
            refine lv_aload_n hx hb d_1_16_60 rfl (lv_at hl 0 rfl) ?_
            refine lv_iload_n hx hb d_1_16_61 rfl (lv_at hl 3 rfl) ?_
            refine q_gor (post := fun r u => ws = u ∧ r = q (F_NH_floatsOf x4)) V (q_runV (As := [.int x4]) (rest := [.int x3, .int x2, .ref (q 0), .int x5, .ref (q 8)]) (d := 1) (mc := 0) (ms := 0) (ci := 0) C0 V rfl LV_NH_130 (X_NH_floatsOf l D g q ws  x4 hI   _) rfl rfl hO113 rfl hl.1 rfl (Nat.le_of_ble_eq_true rfl) ⟨by decide, by decide⟩ ⟨Nat.le_of_ble_eq_true rfl, Nat.le_of_ble_eq_true rfl⟩ d_1_16_62) (fun a340 u338 H locs hp339 V => ?_)
            obtain ⟨rfl, hr341⟩ := hp339
            by_cases c342 : x4 = (2 : Int32)
            ·
              have hr343 : a340 = q 34 := hr341.trans (congrArg q (by unfold F_NH_floatsOf; rw [if_pos c342]))
              subst hr343
              have ob345 : True ∧ S_NH_madeFloat_w x2 x3 t1_0 t1_1 t2_0 t3_0 t3_1 t4_0 t5_0 t5_1 t6_0 t7_0 t7_1 t8_0 t9_0 t9_1 t10_0 t11_0 t12_0 t13_0 t13_1 t14_0 t15_0 t15_1 t16_0 t16_1 t17_0 := (by have h := hS; rw [S_NH_convert.eq_1] at h; rw [if_pos c97] at h; rw [if_pos c106] at h; rw [if_neg c109] at h; rw [if_neg c111] at h; rw [if_neg c118] at h; rw [if_pos c342] at h; with_reducible exact h.2.1)
              refine q_gol V (q_runV (As := [.int x2, .int x3, .ref (q 34)]) (rest := [.int x5, .ref (q 8)]) (d := 6) (mc := 0) (ms := 0) (ci := 0) C0 V rfl LV_NH_323 (X_NH_madeFloat_w l D g q ws  x2 x3 k3 hBk3 yk3 gk3x3 d3 hBd3 yd3 gd3x3 (by have z := ne_k3_d3; omega) (by have z := ne_k3_d3p1; omega) (by have z := ne_k3_d3p2; omega) (by have z := ne_d3_k3p1; omega) hI t1_0 t1_1 hT1 t2_0 hT2 t3_0 t3_1 hT3 t4_0 hT4 t5_0 t5_1 hT5 t6_0 hT6 t7_0 t7_1 hT7 t8_0 hT8 t9_0 t9_1 hT9 t10_0 hT10 t11_0 hT11 t12_0 hT12 t13_0 t13_1 hT13 t14_0 hT14 t15_0 t15_1 hT15 t16_0 t16_1 hT16 t17_0 hT17 ob345 _) rfl rfl hO113 rfl hl.1 rfl (Nat.le_of_ble_eq_true rfl) ⟨by decide, by decide⟩ ⟨Nat.le_of_ble_eq_true rfl, Nat.le_of_ble_eq_true rfl⟩ d_1_16_65) (fun j348 u346 H locs hp347 V => ?_)
              obtain ⟨hI, hZ9⟩ := hp347
              obtain ⟨hu418, hZ9⟩ := hZ9
              obtain ⟨y350, hZ9⟩ := hZ9
              obtain ⟨y351, hZ9⟩ := hZ9
              obtain ⟨f352, hZ9⟩ := hZ9
              obtain ⟨y355, hZ9⟩ := hZ9
              obtain ⟨y356, hZ9⟩ := hZ9
              obtain ⟨f357, hZ9⟩ := hZ9
              obtain ⟨y360, hZ9⟩ := hZ9
              obtain ⟨y361, hZ9⟩ := hZ9
              obtain ⟨f362, hZ9⟩ := hZ9
              obtain ⟨y365, hZ9⟩ := hZ9
              obtain ⟨y366, hZ9⟩ := hZ9
              obtain ⟨f367, hZ9⟩ := hZ9
              obtain ⟨y370, hZ9⟩ := hZ9
              obtain ⟨y371, hZ9⟩ := hZ9
              obtain ⟨f372, hZ9⟩ := hZ9
              obtain ⟨hO349, hZ9⟩ := hZ9
              obtain ⟨hA353, hZ9⟩ := hZ9
              obtain ⟨hO354, hZ9⟩ := hZ9
              obtain ⟨hA358, hZ9⟩ := hZ9
              obtain ⟨hO359, hZ9⟩ := hZ9
              obtain ⟨hA363, hZ9⟩ := hZ9
              obtain ⟨hO364, hZ9⟩ := hZ9
              obtain ⟨hA368, hZ9⟩ := hZ9
              obtain ⟨hO369, hZ9⟩ := hZ9
              obtain ⟨hA373, hZ9⟩ := hZ9
              obtain ⟨b374, hZ9⟩ := hZ9
              obtain ⟨b375, hZ9⟩ := hZ9
              obtain ⟨b376, hZ9⟩ := hZ9
              obtain ⟨b377, hZ9⟩ := hZ9
              obtain ⟨b378, hZ9⟩ := hZ9
              obtain ⟨b379, hZ9⟩ := hZ9
              obtain ⟨b380, hZ9⟩ := hZ9
              obtain ⟨b381, hZ9⟩ := hZ9
              obtain ⟨b382, hZ9⟩ := hZ9
              obtain ⟨b383, hZ9⟩ := hZ9
              obtain ⟨b384, hZ9⟩ := hZ9
              obtain ⟨b385, hZ9⟩ := hZ9
              obtain ⟨b386, hZ9⟩ := hZ9
              obtain ⟨b387, hZ9⟩ := hZ9
              obtain ⟨b388, hZ9⟩ := hZ9
              obtain ⟨b389, hZ9⟩ := hZ9
              obtain ⟨b390, hZ9⟩ := hZ9
              obtain ⟨b391, hZ9⟩ := hZ9
              obtain ⟨b392, hZ9⟩ := hZ9
              obtain ⟨b393, hZ9⟩ := hZ9
              obtain ⟨b394, hZ9⟩ := hZ9
              obtain ⟨b395, hZ9⟩ := hZ9
              replace hZ9 := hZ9.2
              obtain ⟨b397, hZ9⟩ := hZ9
              obtain ⟨b398, hZ9⟩ := hZ9
              replace hZ9 := hZ9.2.2.2.2
              obtain ⟨b403, hZ9⟩ := hZ9
              replace hZ9 := hZ9.2.2.2.2.2.2.2
              obtain ⟨b411, hZ9⟩ := hZ9
              obtain ⟨b412, hZ9⟩ := hZ9
              replace hZ9 := hZ9.2.2.2
              obtain ⟨-, hE417⟩ := hZ9
              replace hO349 : u346[10]? = (some (q 10, .inr (2, [.ref (q 11), .int y350, .int y351])) : Option (Nat × va_E)) := hO349
              replace hA353 : u346[11]? = (some (q 11, .inl (g 0, (220 : Int32).toNatClampNeg, .inl f352)) : Option (Nat × va_E)) := hA353
              replace hO354 : u346[12]? = (some (q 12, .inr (2, [.ref (q 13), .int y355, .int y356])) : Option (Nat × va_E)) := hO354
              replace hA358 : u346[13]? = (some (q 13, .inl (g 0, (220 : Int32).toNatClampNeg, .inl f357)) : Option (Nat × va_E)) := hA358
              replace hO359 : u346[20]? = (some (q 20, .inr (2, [.ref (q 21), .int y360, .int y361])) : Option (Nat × va_E)) := hO359
              replace hA363 : u346[21]? = (some (q 21, .inl (g 0, (220 : Int32).toNatClampNeg, .inl f362)) : Option (Nat × va_E)) := hA363
              replace hO364 : u346[22]? = (some (q 22, .inr (2, [.ref (q 23), .int y365, .int y366])) : Option (Nat × va_E)) := hO364
              replace hA368 : u346[23]? = (some (q 23, .inl (g 0, (220 : Int32).toNatClampNeg, .inl f367)) : Option (Nat × va_E)) := hA368
              replace hO369 : u346[24]? = (some (q 24, .inr (2, [.ref (q 25), .int y370, .int y371])) : Option (Nat × va_E)) := hO369
              replace hA373 : u346[25]? = (some (q 25, .inl (g 0, (220 : Int32).toNatClampNeg, .inl f372)) : Option (Nat × va_E)) := hA373
              obtain ⟨p419, e420⟩ : ∃ z, z = (F_NH_madeFloat_w x2 x3 t1_0 t1_1 t2_0 t3_0 t3_1 t4_0 t5_0 t5_1 t6_0 t7_0 t7_1 t8_0 t9_0 t9_1 t10_0 t11_0 t12_0 t13_0 t13_1 t14_0 t15_0 t15_1 t16_0 t16_1 t17_0) := ⟨_, rfl⟩
              have e421 : j348 = p419.1 := congrArg (fun z => z.1) (hE417.trans e420.symm)
              have e422 : y350 = p419.2.1 := congrArg (fun z => z.2.1) (hE417.trans e420.symm)
              have e423 : y351 = p419.2.2.1 := congrArg (fun z => z.2.2.1) (hE417.trans e420.symm)
              have e424 : f352 = p419.2.2.2.1 := congrArg (fun z => z.2.2.2.1) (hE417.trans e420.symm)
              have e425 : y355 = p419.2.2.2.2.1 := congrArg (fun z => z.2.2.2.2.1) (hE417.trans e420.symm)
              have e426 : y356 = p419.2.2.2.2.2.1 := congrArg (fun z => z.2.2.2.2.2.1) (hE417.trans e420.symm)
              have e427 : f357 = p419.2.2.2.2.2.2.1 := congrArg (fun z => z.2.2.2.2.2.2.1) (hE417.trans e420.symm)
              have e428 : y360 = p419.2.2.2.2.2.2.2.1 := congrArg (fun z => z.2.2.2.2.2.2.2.1) (hE417.trans e420.symm)
              have e429 : y361 = p419.2.2.2.2.2.2.2.2.1 := congrArg (fun z => z.2.2.2.2.2.2.2.2.1) (hE417.trans e420.symm)
              have e430 : f362 = p419.2.2.2.2.2.2.2.2.2.1 := congrArg (fun z => z.2.2.2.2.2.2.2.2.2.1) (hE417.trans e420.symm)
              have e431 : y365 = p419.2.2.2.2.2.2.2.2.2.2.1 := congrArg (fun z => z.2.2.2.2.2.2.2.2.2.2.1) (hE417.trans e420.symm)
              have e432 : y366 = p419.2.2.2.2.2.2.2.2.2.2.2.1 := congrArg (fun z => z.2.2.2.2.2.2.2.2.2.2.2.1) (hE417.trans e420.symm)
              have e433 : f367 = p419.2.2.2.2.2.2.2.2.2.2.2.2.1 := congrArg (fun z => z.2.2.2.2.2.2.2.2.2.2.2.2.1) (hE417.trans e420.symm)
              have e434 : y370 = p419.2.2.2.2.2.2.2.2.2.2.2.2.2.1 := congrArg (fun z => z.2.2.2.2.2.2.2.2.2.2.2.2.2.1) (hE417.trans e420.symm)
              have e435 : y371 = p419.2.2.2.2.2.2.2.2.2.2.2.2.2.2.1 := congrArg (fun z => z.2.2.2.2.2.2.2.2.2.2.2.2.2.2.1) (hE417.trans e420.symm)
              have e436 : f372 = p419.2.2.2.2.2.2.2.2.2.2.2.2.2.2.2 := congrArg (fun z => z.2.2.2.2.2.2.2.2.2.2.2.2.2.2.2) (hE417.trans e420.symm)
              replace b374 : q_F (0 ≤ y350.toInt) := b374
              replace b375 : q_F (y350.toInt ≤ 220) := b375
              replace b376 : q_F (0 ≤ y351.toInt) := b376
              replace b377 : q_F (y351.toInt ≤ 1) := b377
              replace b378 : q_F (0 ≤ y355.toInt) := b378
              replace b379 : q_F (y355.toInt ≤ 220) := b379
              replace b380 : q_F (0 ≤ y356.toInt) := b380
              replace b381 : q_F (y356.toInt ≤ 1) := b381
              replace b382 : q_F (0 ≤ y360.toInt) := b382
              replace b383 : q_F (y360.toInt ≤ 220) := b383
              replace b384 : q_F (0 ≤ y361.toInt) := b384
              replace b385 : q_F (y361.toInt ≤ 1) := b385
              replace b386 : q_F (0 ≤ y365.toInt) := b386
              replace b387 : q_F (y365.toInt ≤ 220) := b387
              replace b388 : q_F (0 ≤ y366.toInt) := b388
              replace b389 : q_F (y366.toInt ≤ 2) := b389
              replace b390 : q_F (0 ≤ y370.toInt) := b390
              replace b391 : q_F (y370.toInt ≤ 220) := b391
              replace b392 : q_F (0 ≤ y371.toInt) := b392
              replace b393 : q_F (y371.toInt ≤ 1) := b393
              replace b394 : q_F (x3.toInt ≤ y350.toInt + 9) := b394
              replace b395 : q_F (y350.toInt ≤ x3.toInt + 220) := b395
              replace b397 : q_F (x3.toInt ≤ y351.toInt + 9) := b397
              replace b398 : q_F (y351.toInt ≤ x3.toInt + 1) := b398
              replace b403 : q_F (y356.toInt ≤ t3_1.toInt) := b403
              replace b411 : q_F (y366.toInt ≤ x3.toInt + 2) := b411
              replace b412 : q_F (y366.toInt ≤ t16_1.toInt + 1) := b412
              replace hT0 := (hu418 _ (by decide)).trans hT0
              replace hT11 := (hu418 _ (by decide)).trans hT11
              replace hT12 := (hu418 _ (by decide)).trans hT12
              replace hT18 := (hu418 _ (by have z0 := yk5; simp only [List.mem_cons, List.not_mem_nil, or_false, not_or]; omega)).trans hT18
              replace hT19 := (hu418 _ (by have z0 := yk5; simp only [List.mem_cons, List.not_mem_nil, or_false, not_or]; omega)).trans hT19
              replace hT20 := (hu418 _ (by have z0 := yd5; simp only [List.mem_cons, List.not_mem_nil, or_false, not_or]; omega)).trans hT20
              replace hT21 := (hu418 _ (by have z0 := yd5; simp only [List.mem_cons, List.not_mem_nil, or_false, not_or]; omega)).trans hT21
              replace hT22 := (hu418 _ (by have z0 := yd5; simp only [List.mem_cons, List.not_mem_nil, or_false, not_or]; omega)).trans hT22
              replace hF := q_uc hF hu418 (by simp)
              have hR437 := (show F_NH_convert_c65_3 x2 x3 x4 x5 t0_0 t0_1 t1_0 t1_1 t2_0 t3_0 t3_1 t4_0 t5_0 t5_1 t6_0 t7_0 t7_1 t8_0 t9_0 t9_1 t10_0 t11_0 t12_0 t13_0 t13_1 t14_0 t15_0 t15_1 t16_0 t16_1 t17_0 t18_0 t18_1 t19_0 t20_0 t20_1 t21_0 t21_1 t22_0 p419 = (F_NH_convert x2 x3 x4 x5 t0_0 t0_1 t1_0 t1_1 t2_0 t3_0 t3_1 t4_0 t5_0 t5_1 t6_0 t7_0 t7_1 t8_0 t9_0 t9_1 t10_0 t11_0 t12_0 t13_0 t13_1 t14_0 t15_0 t15_1 t16_0 t16_1 t17_0 t18_0 t18_1 t19_0 t20_0 t20_1 t21_0 t21_1 t22_0) from (by rw [e420, F_NH_convert.eq_1, if_pos c97, if_pos c106, if_neg c109, if_neg c111, if_neg c118, if_pos c342]))
              have hS438 := (show True ∧ S_NH_convert_c65_3 x2 x3 x4 x5 t0_0 t0_1 t1_0 t1_1 t2_0 t3_0 t3_1 t4_0 t5_0 t5_1 t6_0 t7_0 t7_1 t8_0 t9_0 t9_1 t10_0 t11_0 t12_0 t13_0 t13_1 t14_0 t15_0 t15_1 t16_0 t16_1 t17_0 t18_0 t18_1 t19_0 t20_0 t20_1 t21_0 t21_1 t22_0 p419 from (by rw [e420]; have h := hS; rw [S_NH_convert.eq_1] at h; rw [if_pos c97] at h; rw [if_pos c106] at h; rw [if_neg c109] at h; rw [if_neg c111] at h; rw [if_neg c118] at h; rw [if_pos c342] at h; replace h := q_s2 h; with_reducible exact h))
              have ob442 : q_F (0 ≤ x5.toInt) := (by have h := hS438; rw [S_NH_convert_c65_3.eq_1] at h; exact h.2.1)
              have ob443 : q_F (x5.toInt ≤ 9) := (by have h := hS438; rw [S_NH_convert_c65_3.eq_1] at h; replace h := q_s2 h; exact h.2.1)
              refine q_last C0 V hT12 (q_ix (x := x5.toInt) rfl (by first | with_reducible exact q_fe ob442 | (have t1 : 0 ≤ x5.toInt := ob442; omega)) (by have t1 : 0 ≤ x5.toInt := ob442; have t2 : x5.toInt ≤ 9 := ob443; omega)) d_1_16_68 (fun H locs w444 hu445 hT12 V => ?_)
              replace hI := n_al' hI (n_s8 g q) hu445 hT12
              replace hT0 := (hu445 _ (by decide)).trans hT0
              replace hO349 := (hu445 _ (by decide)).trans hO349
              replace hA353 := (hu445 _ (by decide)).trans hA353
              replace hO354 := (hu445 _ (by decide)).trans hO354
              replace hA358 := (hu445 _ (by decide)).trans hA358
              replace hO359 := (hu445 _ (by decide)).trans hO359
              replace hA363 := (hu445 _ (by decide)).trans hA363
              replace hO364 := (hu445 _ (by decide)).trans hO364
              replace hA368 := (hu445 _ (by decide)).trans hA368
              replace hO369 := (hu445 _ (by decide)).trans hO369
              replace hA373 := (hu445 _ (by decide)).trans hA373
              replace hT11 := (hu445 _ (by decide)).trans hT11
              replace hT18 := (hu445 _ (by have z0 := yk5; omega)).trans hT18
              replace hT19 := (hu445 _ (by have z0 := yk5; omega)).trans hT19
              replace hT20 := (hu445 _ (by have z0 := yd5; omega)).trans hT20
              replace hT21 := (hu445 _ (by have z0 := yd5; omega)).trans hT21
              replace hT22 := (hu445 _ (by have z0 := yd5; omega)).trans hT22
              replace hF := q_us hF hu445 (by simp)
              obtain ⟨f446, e447⟩ := q_nm (vp_updL t12_0 x5.toNatClampNeg j348 : (Nat → Int64))
              rw [e447] at hT12
              refine W.widen (k := 4) (n := 24) (Nat.le_of_ble_eq_true rfl) (Nat.le_of_ble_eq_true rfl) ?_
              exact q_retX (q_retv C0 V (⟨hI, hF, t0_0, t0_1, y350, y351, f352, y355, y356, f357, y360, y361, f362, y365, y366, f367, y370, y371, f372, t11_0, f446, t18_0, t18_1, t19_0, t20_0, t20_1, t21_0, t21_1, t22_0, hT0, hO349, hA353, hO354, hA358, hO359, hA363, hO364, hA368, hO369, hA373, hT11, hT12, hT18, hT19, hT20, hT21, hT22, (show 0 ≤ t0_1.toInt from (by first | with_reducible exact (q_fe btt0_1).2 | with_reducible exact (q_fe btt0_1).1 | (have t1 : 0 ≤ t0_1.toInt ∧ t0_1.toInt ≤ 1 := btt0_1; omega))), (show t0_1.toInt ≤ 1 from (by first | with_reducible exact (q_fe btt0_1).2 | with_reducible exact (q_fe btt0_1).1 | (have t1 : 0 ≤ t0_1.toInt ∧ t0_1.toInt ≤ 1 := btt0_1; omega))), (show 0 ≤ y350.toInt from (by first | with_reducible exact q_fe b374 | (have t1 : 0 ≤ y350.toInt := b374; omega))), (show y350.toInt ≤ 220 from (by first | with_reducible exact q_fe b375 | (have t1 : y350.toInt ≤ 220 := b375; omega))), (show 0 ≤ y351.toInt from (by first | with_reducible exact q_fe b376 | (have t1 : 0 ≤ y351.toInt := b376; omega))), (show y351.toInt ≤ 1 from (by first | with_reducible exact q_fe b377 | (have t1 : y351.toInt ≤ 1 := b377; omega))), (show 0 ≤ y355.toInt from (by first | with_reducible exact q_fe b378 | (have t1 : 0 ≤ y355.toInt := b378; omega))), (show y355.toInt ≤ 220 from (by first | with_reducible exact q_fe b379 | (have t1 : y355.toInt ≤ 220 := b379; omega))), (show 0 ≤ y356.toInt from (by first | with_reducible exact q_fe b380 | (have t1 : 0 ≤ y356.toInt := b380; omega))), (show y356.toInt ≤ 1 from (by first | with_reducible exact q_fe b381 | (have t1 : y356.toInt ≤ 1 := b381; omega))), (show 0 ≤ y360.toInt from (by first | with_reducible exact q_fe b382 | (have t1 : 0 ≤ y360.toInt := b382; omega))), (show y360.toInt ≤ 220 from (by first | with_reducible exact q_fe b383 | (have t1 : y360.toInt ≤ 220 := b383; omega))), (show 0 ≤ y361.toInt from (by first | with_reducible exact q_fe b384 | (have t1 : 0 ≤ y361.toInt := b384; omega))), (show y361.toInt ≤ 1 from (by first | with_reducible exact q_fe b385 | (have t1 : y361.toInt ≤ 1 := b385; omega))), (show 0 ≤ y365.toInt from (by first | with_reducible exact q_fe b386 | (have t1 : 0 ≤ y365.toInt := b386; omega))), (show y365.toInt ≤ 220 from (by first | with_reducible exact q_fe b387 | (have t1 : y365.toInt ≤ 220 := b387; omega))), (show 0 ≤ y366.toInt from (by first | with_reducible exact q_fe b388 | (have t1 : 0 ≤ y366.toInt := b388; omega))), (show y366.toInt ≤ 2 from (by first | with_reducible exact q_fe b389 | (have t1 : y366.toInt ≤ 2 := b389; omega))), (show 0 ≤ y370.toInt from (by first | with_reducible exact q_fe b390 | (have t1 : 0 ≤ y370.toInt := b390; omega))), (show y370.toInt ≤ 220 from (by first | with_reducible exact q_fe b391 | (have t1 : y370.toInt ≤ 220 := b391; omega))), (show 0 ≤ y371.toInt from (by first | with_reducible exact q_fe b392 | (have t1 : 0 ≤ y371.toInt := b392; omega))), (show y371.toInt ≤ 1 from (by first | with_reducible exact q_fe b393 | (have t1 : y371.toInt ≤ 1 := b393; omega))), (show 0 ≤ t18_0.toInt from (by first | with_reducible exact (q_fe btt18_0).2 | with_reducible exact (q_fe btt18_0).1 | (have t1 : 0 ≤ t18_0.toInt ∧ t18_0.toInt ≤ 68 := btt18_0; omega))), (show t18_0.toInt ≤ 68 from (by first | with_reducible exact (q_fe btt18_0).2 | with_reducible exact (q_fe btt18_0).1 | (have t1 : 0 ≤ t18_0.toInt ∧ t18_0.toInt ≤ 68 := btt18_0; omega))), (show 0 ≤ t18_1.toInt from (by first | with_reducible exact (q_fe btt18_1).2 | with_reducible exact (q_fe btt18_1).1 | (have t1 : 0 ≤ t18_1.toInt ∧ t18_1.toInt ≤ 1 := btt18_1; omega))), (show t18_1.toInt ≤ 1 from (by first | with_reducible exact (q_fe btt18_1).2 | with_reducible exact (q_fe btt18_1).1 | (have t1 : 0 ≤ t18_1.toInt ∧ t18_1.toInt ≤ 1 := btt18_1; omega))), (show 0 ≤ t20_0.toInt + 10000 from (by first | with_reducible exact (q_fe btt20_0).2 | with_reducible exact (q_fe btt20_0).1 | (have t1 : -10000 ≤ t20_0.toInt ∧ t20_0.toInt ≤ 10000 := btt20_0; omega))), (show t20_0.toInt ≤ 10000 from (by first | with_reducible exact (q_fe btt20_0).2 | with_reducible exact (q_fe btt20_0).1 | (have t1 : -10000 ≤ t20_0.toInt ∧ t20_0.toInt ≤ 10000 := btt20_0; omega))), (show 1 ≤ t20_1.toInt from (by first | with_reducible exact (q_fe btt20_1).2 | with_reducible exact (q_fe btt20_1).1 | (have t1 : 1 ≤ t20_1.toInt ∧ t20_1.toInt ≤ 1000 := btt20_1; omega))), (show t20_1.toInt ≤ 1000 from (by first | with_reducible exact (q_fe btt20_1).2 | with_reducible exact (q_fe btt20_1).1 | (have t1 : 1 ≤ t20_1.toInt ∧ t20_1.toInt ≤ 1000 := btt20_1; omega))), (show 0 ≤ t21_0.toInt from (by first | with_reducible exact (q_fe btt21_0).2 | with_reducible exact (q_fe btt21_0).1 | (have t1 : 0 ≤ t21_0.toInt ∧ t21_0.toInt ≤ 108 := btt21_0; omega))), (show t21_0.toInt ≤ 108 from (by first | with_reducible exact (q_fe btt21_0).2 | with_reducible exact (q_fe btt21_0).1 | (have t1 : 0 ≤ t21_0.toInt ∧ t21_0.toInt ≤ 108 := btt21_0; omega))), (show 0 ≤ t21_1.toInt from (by first | with_reducible exact (q_fe btt21_1).2 | with_reducible exact (q_fe btt21_1).1 | (have t1 : 0 ≤ t21_1.toInt ∧ t21_1.toInt ≤ 1 := btt21_1; omega))), (show t21_1.toInt ≤ 1 from (by first | with_reducible exact (q_fe btt21_1).2 | with_reducible exact (q_fe btt21_1).1 | (have t1 : 0 ≤ t21_1.toInt ∧ t21_1.toInt ≤ 1 := btt21_1; omega))), (show x5.toInt ≤ t0_1.toInt + 10 from (by have t1 : 0 ≤ t0_1.toInt ∧ t0_1.toInt ≤ 1 := btt0_1; have t2 : x5.toInt ≤ 9 := ob443; omega)), (show t0_1.toInt ≤ x5.toInt + 2 from (by have t1 : 0 ≤ t0_1.toInt ∧ t0_1.toInt ≤ 1 := btt0_1; have t2 : 0 ≤ x5.toInt := ob442; omega)), (show t0_1.toInt ≤ t0_1.toInt from (by omega)), (show t0_1.toInt ≤ t0_1.toInt from (by omega)), (show x3.toInt ≤ y350.toInt + 9 from (by first | with_reducible exact q_fe b394 | (have t1 : x3.toInt ≤ y350.toInt + 9 := b394; omega))), (show y350.toInt ≤ x3.toInt + 220 from (by first | with_reducible exact q_fe b395 | (have t1 : y350.toInt ≤ x3.toInt + 220 := b395; omega))), (show x5.toInt ≤ y350.toInt + 10 from (by have t1 : 0 ≤ y350.toInt := b374; have t2 : x5.toInt ≤ 9 := ob443; omega)), (show y350.toInt ≤ x5.toInt + 221 from (by have t1 : y350.toInt ≤ 220 := b375; have t2 : 0 ≤ x5.toInt := ob442; omega)), (show x3.toInt ≤ y351.toInt + 9 from (by first | with_reducible exact q_fe b397 | (have t1 : x3.toInt ≤ y351.toInt + 9 := b397; omega))), (show y351.toInt ≤ x3.toInt + 1 from (by first | with_reducible exact q_fe b398 | (have t1 : y351.toInt ≤ x3.toInt + 1 := b398; omega))), (show x5.toInt ≤ y351.toInt + 10 from (by have t1 : 0 ≤ y351.toInt := b376; have t2 : x5.toInt ≤ 9 := ob443; omega)), (show y351.toInt ≤ x5.toInt + 2 from (by have t1 : y351.toInt ≤ 1 := b377; have t2 : 0 ≤ x5.toInt := ob442; omega)), (show x5.toInt ≤ y355.toInt + 10 from (by have t1 : 0 ≤ y355.toInt := b378; have t2 : x5.toInt ≤ 9 := ob443; omega)), (show y355.toInt ≤ x5.toInt + 221 from (by have t1 : y355.toInt ≤ 220 := b379; have t2 : 0 ≤ x5.toInt := ob442; omega)), (show x5.toInt ≤ y356.toInt + 10 from (by have t1 : 0 ≤ y356.toInt := b380; have t2 : x5.toInt ≤ 9 := ob443; omega)), (show y356.toInt ≤ x5.toInt + 2 from (by have t1 : y356.toInt ≤ 1 := b381; have t2 : 0 ≤ x5.toInt := ob442; omega)), (show y356.toInt ≤ t3_1.toInt from (by first | with_reducible exact q_fe b403 | (have t1 : y356.toInt ≤ t3_1.toInt := b403; omega))), (show x5.toInt ≤ y360.toInt + 10 from (by have t1 : 0 ≤ y360.toInt := b382; have t2 : x5.toInt ≤ 9 := ob443; omega)), (show y360.toInt ≤ x5.toInt + 221 from (by have t1 : y360.toInt ≤ 220 := b383; have t2 : 0 ≤ x5.toInt := ob442; omega)), (show x5.toInt ≤ y361.toInt + 10 from (by have t1 : 0 ≤ y361.toInt := b384; have t2 : x5.toInt ≤ 9 := ob443; omega)), (show y361.toInt ≤ x5.toInt + 2 from (by have t1 : y361.toInt ≤ 1 := b385; have t2 : 0 ≤ x5.toInt := ob442; omega)), (show x5.toInt ≤ y365.toInt + 10 from (by have t1 : 0 ≤ y365.toInt := b386; have t2 : x5.toInt ≤ 9 := ob443; omega)), (show y365.toInt ≤ x5.toInt + 221 from (by have t1 : y365.toInt ≤ 220 := b387; have t2 : 0 ≤ x5.toInt := ob442; omega)), (show y366.toInt ≤ x3.toInt + 2 from (by first | with_reducible exact q_fe b411 | (have t1 : y366.toInt ≤ x3.toInt + 2 := b411; omega))), (show x5.toInt ≤ y366.toInt + 10 from (by have t1 : 0 ≤ y366.toInt := b388; have t2 : x5.toInt ≤ 9 := ob443; omega)), (show y366.toInt ≤ x5.toInt + 2 from (by have t1 : y366.toInt ≤ 2 := b389; have t2 : 0 ≤ x5.toInt := ob442; omega)), (show y366.toInt ≤ t16_1.toInt + 1 from (by first | with_reducible exact q_fe b412 | (have t1 : y366.toInt ≤ t16_1.toInt + 1 := b412; omega))), (show x5.toInt ≤ y370.toInt + 10 from (by have t1 : 0 ≤ y370.toInt := b390; have t2 : x5.toInt ≤ 9 := ob443; omega)), (show y370.toInt ≤ x5.toInt + 221 from (by have t1 : y370.toInt ≤ 220 := b391; have t2 : 0 ≤ x5.toInt := ob442; omega)), (show x5.toInt ≤ y371.toInt + 10 from (by have t1 : 0 ≤ y371.toInt := b392; have t2 : x5.toInt ≤ 9 := ob443; omega)), (show y371.toInt ≤ x5.toInt + 2 from (by have t1 : y371.toInt ≤ 1 := b393; have t2 : 0 ≤ x5.toInt := ob442; omega)), (show x5.toInt ≤ t18_0.toInt + 10 from (by have t1 : 0 ≤ t18_0.toInt ∧ t18_0.toInt ≤ 68 := btt18_0; have t2 : x5.toInt ≤ 9 := ob443; omega)), (show t18_0.toInt ≤ x5.toInt + 69 from (by have t1 : 0 ≤ t18_0.toInt ∧ t18_0.toInt ≤ 68 := btt18_0; have t2 : 0 ≤ x5.toInt := ob442; omega)), (show x5.toInt ≤ t18_1.toInt + 10 from (by have t1 : 0 ≤ t18_1.toInt ∧ t18_1.toInt ≤ 1 := btt18_1; have t2 : x5.toInt ≤ 9 := ob443; omega)), (show t18_1.toInt ≤ x5.toInt + 2 from (by have t1 : 0 ≤ t18_1.toInt ∧ t18_1.toInt ≤ 1 := btt18_1; have t2 : 0 ≤ x5.toInt := ob442; omega)), (show x5.toInt ≤ t20_0.toInt + 10010 from (by have t1 : -10000 ≤ t20_0.toInt ∧ t20_0.toInt ≤ 10000 := btt20_0; have t2 : x5.toInt ≤ 9 := ob443; omega)), (show t20_0.toInt ≤ x5.toInt + 10001 from (by have t1 : -10000 ≤ t20_0.toInt ∧ t20_0.toInt ≤ 10000 := btt20_0; have t2 : 0 ≤ x5.toInt := ob442; omega)), (show x5.toInt ≤ t20_1.toInt + 9 from (by have t1 : 1 ≤ t20_1.toInt ∧ t20_1.toInt ≤ 1000 := btt20_1; have t2 : x5.toInt ≤ 9 := ob443; omega)), (show t20_1.toInt ≤ x5.toInt + 1001 from (by have t1 : 1 ≤ t20_1.toInt ∧ t20_1.toInt ≤ 1000 := btt20_1; have t2 : 0 ≤ x5.toInt := ob442; omega)), (show x5.toInt ≤ t21_0.toInt + 10 from (by have t1 : 0 ≤ t21_0.toInt ∧ t21_0.toInt ≤ 108 := btt21_0; have t2 : x5.toInt ≤ 9 := ob443; omega)), (show t21_0.toInt ≤ x5.toInt + 109 from (by have t1 : 0 ≤ t21_0.toInt ∧ t21_0.toInt ≤ 108 := btt21_0; have t2 : 0 ≤ x5.toInt := ob442; omega)), (show x5.toInt ≤ t21_1.toInt + 10 from (by have t1 : 0 ≤ t21_1.toInt ∧ t21_1.toInt ≤ 1 := btt21_1; have t2 : x5.toInt ≤ 9 := ob443; omega)), (show t21_1.toInt ≤ x5.toInt + 2 from (by have t1 : 0 ≤ t21_1.toInt ∧ t21_1.toInt ≤ 1 := btt21_1; have t2 : 0 ≤ x5.toInt := ob442; omega)), (show ((0 : Int32), t0_0, t0_1, y350, y351, f352, y355, y356, f357, y360, y361, f362, y365, y366, f367, y370, y371, f372, t11_0, f446, t18_0, t18_1, t19_0, t20_0, t20_1, t21_0, t21_1, t22_0) = (F_NH_convert x2 x3 x4 x5 t0_0 t0_1 t1_0 t1_1 t2_0 t3_0 t3_1 t4_0 t5_0 t5_1 t6_0 t7_0 t7_1 t8_0 t9_0 t9_1 t10_0 t11_0 t12_0 t13_0 t13_1 t14_0 t15_0 t15_1 t16_0 t16_1 t17_0 t18_0 t18_1 t19_0 t20_0 t20_1 t21_0 t21_1 t22_0) from Eq.trans (by rw [← e447, e436, e435, e434, e433, e432, e431, e430, e429, e428, e427, e426, e425, e424, e423, e422, e421, F_NH_convert_c65_3.eq_1]) hR437)⟩) d_1_16_69)
            ·
              have hr448 : a340 = q 35 := hr341.trans (congrArg q (by unfold F_NH_floatsOf; rw [if_neg c342]))
              subst hr448
              have ob450 : True ∧ S_NH_madeFloat_n x2 x3 t1_0 t1_1 t2_0 t3_0 t3_1 t4_0 t5_0 t5_1 t6_0 t7_0 t7_1 t8_0 t9_0 t9_1 t10_0 t11_0 t12_0 t13_0 t13_1 t14_0 t15_0 t15_1 t16_0 t16_1 t17_0 := (by have h := hS; rw [S_NH_convert.eq_1] at h; rw [if_pos c97] at h; rw [if_pos c106] at h; rw [if_neg c109] at h; rw [if_neg c111] at h; rw [if_neg c118] at h; rw [if_neg c342] at h; with_reducible exact h.2.1)
              refine q_gol V (q_runV (As := [.int x2, .int x3, .ref (q 35)]) (rest := [.int x5, .ref (q 8)]) (d := 6) (mc := 0) (ms := 0) (ci := 0) C0 V rfl LV_NH_323 (X_NH_madeFloat_n l D g q ws  x2 x3 k3 hBk3 yk3 gk3x3 d3 hBd3 yd3 gd3x3 (by have z := ne_k3_d3; omega) (by have z := ne_k3_d3p1; omega) (by have z := ne_k3_d3p2; omega) (by have z := ne_d3_k3p1; omega) hI t1_0 t1_1 hT1 t2_0 hT2 t3_0 t3_1 hT3 t4_0 hT4 t5_0 t5_1 hT5 t6_0 hT6 t7_0 t7_1 hT7 t8_0 hT8 t9_0 t9_1 hT9 t10_0 hT10 t11_0 hT11 t12_0 hT12 t13_0 t13_1 hT13 t14_0 hT14 t15_0 t15_1 hT15 t16_0 t16_1 hT16 t17_0 hT17 ob450 _) rfl rfl hO113 rfl hl.1 rfl (Nat.le_of_ble_eq_true rfl) ⟨by decide, by decide⟩ ⟨Nat.le_of_ble_eq_true rfl, Nat.le_of_ble_eq_true rfl⟩ d_1_16_65) (fun j453 u451 H locs hp452 V => ?_)
              obtain ⟨hI, hZ9⟩ := hp452
              obtain ⟨hu523, hZ9⟩ := hZ9
              obtain ⟨y455, hZ9⟩ := hZ9
              obtain ⟨y456, hZ9⟩ := hZ9
              obtain ⟨f457, hZ9⟩ := hZ9
              obtain ⟨y460, hZ9⟩ := hZ9
              obtain ⟨y461, hZ9⟩ := hZ9
              obtain ⟨f462, hZ9⟩ := hZ9
              obtain ⟨y465, hZ9⟩ := hZ9
              obtain ⟨y466, hZ9⟩ := hZ9
              obtain ⟨f467, hZ9⟩ := hZ9
              obtain ⟨y470, hZ9⟩ := hZ9
              obtain ⟨y471, hZ9⟩ := hZ9
              obtain ⟨f472, hZ9⟩ := hZ9
              obtain ⟨y475, hZ9⟩ := hZ9
              obtain ⟨y476, hZ9⟩ := hZ9
              obtain ⟨f477, hZ9⟩ := hZ9
              obtain ⟨hO454, hZ9⟩ := hZ9
              obtain ⟨hA458, hZ9⟩ := hZ9
              obtain ⟨hO459, hZ9⟩ := hZ9
              obtain ⟨hA463, hZ9⟩ := hZ9
              obtain ⟨hO464, hZ9⟩ := hZ9
              obtain ⟨hA468, hZ9⟩ := hZ9
              obtain ⟨hO469, hZ9⟩ := hZ9
              obtain ⟨hA473, hZ9⟩ := hZ9
              obtain ⟨hO474, hZ9⟩ := hZ9
              obtain ⟨hA478, hZ9⟩ := hZ9
              obtain ⟨b479, hZ9⟩ := hZ9
              obtain ⟨b480, hZ9⟩ := hZ9
              obtain ⟨b481, hZ9⟩ := hZ9
              obtain ⟨b482, hZ9⟩ := hZ9
              obtain ⟨b483, hZ9⟩ := hZ9
              obtain ⟨b484, hZ9⟩ := hZ9
              obtain ⟨b485, hZ9⟩ := hZ9
              obtain ⟨b486, hZ9⟩ := hZ9
              obtain ⟨b487, hZ9⟩ := hZ9
              obtain ⟨b488, hZ9⟩ := hZ9
              obtain ⟨b489, hZ9⟩ := hZ9
              obtain ⟨b490, hZ9⟩ := hZ9
              obtain ⟨b491, hZ9⟩ := hZ9
              obtain ⟨b492, hZ9⟩ := hZ9
              obtain ⟨b493, hZ9⟩ := hZ9
              obtain ⟨b494, hZ9⟩ := hZ9
              obtain ⟨b495, hZ9⟩ := hZ9
              obtain ⟨b496, hZ9⟩ := hZ9
              obtain ⟨b497, hZ9⟩ := hZ9
              obtain ⟨b498, hZ9⟩ := hZ9
              obtain ⟨b499, hZ9⟩ := hZ9
              obtain ⟨b500, hZ9⟩ := hZ9
              replace hZ9 := hZ9.2
              obtain ⟨b502, hZ9⟩ := hZ9
              obtain ⟨b503, hZ9⟩ := hZ9
              replace hZ9 := hZ9.2.2.2.2
              obtain ⟨b508, hZ9⟩ := hZ9
              replace hZ9 := hZ9.2.2.2.2.2.2.2
              obtain ⟨b516, hZ9⟩ := hZ9
              obtain ⟨b517, hZ9⟩ := hZ9
              replace hZ9 := hZ9.2.2.2
              obtain ⟨-, hE522⟩ := hZ9
              replace hO454 : u451[10]? = (some (q 10, .inr (2, [.ref (q 11), .int y455, .int y456])) : Option (Nat × va_E)) := hO454
              replace hA458 : u451[11]? = (some (q 11, .inl (g 0, (220 : Int32).toNatClampNeg, .inl f457)) : Option (Nat × va_E)) := hA458
              replace hO459 : u451[12]? = (some (q 12, .inr (2, [.ref (q 13), .int y460, .int y461])) : Option (Nat × va_E)) := hO459
              replace hA463 : u451[13]? = (some (q 13, .inl (g 0, (220 : Int32).toNatClampNeg, .inl f462)) : Option (Nat × va_E)) := hA463
              replace hO464 : u451[20]? = (some (q 20, .inr (2, [.ref (q 21), .int y465, .int y466])) : Option (Nat × va_E)) := hO464
              replace hA468 : u451[21]? = (some (q 21, .inl (g 0, (220 : Int32).toNatClampNeg, .inl f467)) : Option (Nat × va_E)) := hA468
              replace hO469 : u451[22]? = (some (q 22, .inr (2, [.ref (q 23), .int y470, .int y471])) : Option (Nat × va_E)) := hO469
              replace hA473 : u451[23]? = (some (q 23, .inl (g 0, (220 : Int32).toNatClampNeg, .inl f472)) : Option (Nat × va_E)) := hA473
              replace hO474 : u451[24]? = (some (q 24, .inr (2, [.ref (q 25), .int y475, .int y476])) : Option (Nat × va_E)) := hO474
              replace hA478 : u451[25]? = (some (q 25, .inl (g 0, (220 : Int32).toNatClampNeg, .inl f477)) : Option (Nat × va_E)) := hA478
              obtain ⟨p524, e525⟩ : ∃ z, z = (F_NH_madeFloat_n x2 x3 t1_0 t1_1 t2_0 t3_0 t3_1 t4_0 t5_0 t5_1 t6_0 t7_0 t7_1 t8_0 t9_0 t9_1 t10_0 t11_0 t12_0 t13_0 t13_1 t14_0 t15_0 t15_1 t16_0 t16_1 t17_0) := ⟨_, rfl⟩
              have e526 : j453 = p524.1 := congrArg (fun z => z.1) (hE522.trans e525.symm)
              have e527 : y455 = p524.2.1 := congrArg (fun z => z.2.1) (hE522.trans e525.symm)
              have e528 : y456 = p524.2.2.1 := congrArg (fun z => z.2.2.1) (hE522.trans e525.symm)
              have e529 : f457 = p524.2.2.2.1 := congrArg (fun z => z.2.2.2.1) (hE522.trans e525.symm)
              have e530 : y460 = p524.2.2.2.2.1 := congrArg (fun z => z.2.2.2.2.1) (hE522.trans e525.symm)
              have e531 : y461 = p524.2.2.2.2.2.1 := congrArg (fun z => z.2.2.2.2.2.1) (hE522.trans e525.symm)
              have e532 : f462 = p524.2.2.2.2.2.2.1 := congrArg (fun z => z.2.2.2.2.2.2.1) (hE522.trans e525.symm)
              have e533 : y465 = p524.2.2.2.2.2.2.2.1 := congrArg (fun z => z.2.2.2.2.2.2.2.1) (hE522.trans e525.symm)
              have e534 : y466 = p524.2.2.2.2.2.2.2.2.1 := congrArg (fun z => z.2.2.2.2.2.2.2.2.1) (hE522.trans e525.symm)
              have e535 : f467 = p524.2.2.2.2.2.2.2.2.2.1 := congrArg (fun z => z.2.2.2.2.2.2.2.2.2.1) (hE522.trans e525.symm)
              have e536 : y470 = p524.2.2.2.2.2.2.2.2.2.2.1 := congrArg (fun z => z.2.2.2.2.2.2.2.2.2.2.1) (hE522.trans e525.symm)
              have e537 : y471 = p524.2.2.2.2.2.2.2.2.2.2.2.1 := congrArg (fun z => z.2.2.2.2.2.2.2.2.2.2.2.1) (hE522.trans e525.symm)
              have e538 : f472 = p524.2.2.2.2.2.2.2.2.2.2.2.2.1 := congrArg (fun z => z.2.2.2.2.2.2.2.2.2.2.2.2.1) (hE522.trans e525.symm)
              have e539 : y475 = p524.2.2.2.2.2.2.2.2.2.2.2.2.2.1 := congrArg (fun z => z.2.2.2.2.2.2.2.2.2.2.2.2.2.1) (hE522.trans e525.symm)
              have e540 : y476 = p524.2.2.2.2.2.2.2.2.2.2.2.2.2.2.1 := congrArg (fun z => z.2.2.2.2.2.2.2.2.2.2.2.2.2.2.1) (hE522.trans e525.symm)
              have e541 : f477 = p524.2.2.2.2.2.2.2.2.2.2.2.2.2.2.2 := congrArg (fun z => z.2.2.2.2.2.2.2.2.2.2.2.2.2.2.2) (hE522.trans e525.symm)
              replace b479 : q_F (0 ≤ y455.toInt) := b479
              replace b480 : q_F (y455.toInt ≤ 220) := b480
              replace b481 : q_F (0 ≤ y456.toInt) := b481
              replace b482 : q_F (y456.toInt ≤ 1) := b482
              replace b483 : q_F (0 ≤ y460.toInt) := b483
              replace b484 : q_F (y460.toInt ≤ 220) := b484
              replace b485 : q_F (0 ≤ y461.toInt) := b485
              replace b486 : q_F (y461.toInt ≤ 1) := b486
              replace b487 : q_F (0 ≤ y465.toInt) := b487
              replace b488 : q_F (y465.toInt ≤ 220) := b488
              replace b489 : q_F (0 ≤ y466.toInt) := b489
              replace b490 : q_F (y466.toInt ≤ 1) := b490
              replace b491 : q_F (0 ≤ y470.toInt) := b491
              replace b492 : q_F (y470.toInt ≤ 220) := b492
              replace b493 : q_F (0 ≤ y471.toInt) := b493
              replace b494 : q_F (y471.toInt ≤ 2) := b494
              replace b495 : q_F (0 ≤ y475.toInt) := b495
              replace b496 : q_F (y475.toInt ≤ 220) := b496
              replace b497 : q_F (0 ≤ y476.toInt) := b497
              replace b498 : q_F (y476.toInt ≤ 1) := b498
              replace b499 : q_F (x3.toInt ≤ y455.toInt + 9) := b499
              replace b500 : q_F (y455.toInt ≤ x3.toInt + 220) := b500
              replace b502 : q_F (x3.toInt ≤ y456.toInt + 9) := b502
              replace b503 : q_F (y456.toInt ≤ x3.toInt + 1) := b503
              replace b508 : q_F (y461.toInt ≤ t3_1.toInt) := b508
              replace b516 : q_F (y471.toInt ≤ x3.toInt + 2) := b516
              replace b517 : q_F (y471.toInt ≤ t16_1.toInt + 1) := b517
              replace hT0 := (hu523 _ (by decide)).trans hT0
              replace hT11 := (hu523 _ (by decide)).trans hT11
              replace hT12 := (hu523 _ (by decide)).trans hT12
              replace hT18 := (hu523 _ (by have z0 := yk5; simp only [List.mem_cons, List.not_mem_nil, or_false, not_or]; omega)).trans hT18
              replace hT19 := (hu523 _ (by have z0 := yk5; simp only [List.mem_cons, List.not_mem_nil, or_false, not_or]; omega)).trans hT19
              replace hT20 := (hu523 _ (by have z0 := yd5; simp only [List.mem_cons, List.not_mem_nil, or_false, not_or]; omega)).trans hT20
              replace hT21 := (hu523 _ (by have z0 := yd5; simp only [List.mem_cons, List.not_mem_nil, or_false, not_or]; omega)).trans hT21
              replace hT22 := (hu523 _ (by have z0 := yd5; simp only [List.mem_cons, List.not_mem_nil, or_false, not_or]; omega)).trans hT22
              replace hF := q_uc hF hu523 (by simp)
              have hR542 := (show F_NH_convert_c65_4 x2 x3 x4 x5 t0_0 t0_1 t1_0 t1_1 t2_0 t3_0 t3_1 t4_0 t5_0 t5_1 t6_0 t7_0 t7_1 t8_0 t9_0 t9_1 t10_0 t11_0 t12_0 t13_0 t13_1 t14_0 t15_0 t15_1 t16_0 t16_1 t17_0 t18_0 t18_1 t19_0 t20_0 t20_1 t21_0 t21_1 t22_0 p524 = (F_NH_convert x2 x3 x4 x5 t0_0 t0_1 t1_0 t1_1 t2_0 t3_0 t3_1 t4_0 t5_0 t5_1 t6_0 t7_0 t7_1 t8_0 t9_0 t9_1 t10_0 t11_0 t12_0 t13_0 t13_1 t14_0 t15_0 t15_1 t16_0 t16_1 t17_0 t18_0 t18_1 t19_0 t20_0 t20_1 t21_0 t21_1 t22_0) from (by rw [e525, F_NH_convert.eq_1, if_pos c97, if_pos c106, if_neg c109, if_neg c111, if_neg c118, if_neg c342]))
              have hS543 := (show True ∧ S_NH_convert_c65_4 x2 x3 x4 x5 t0_0 t0_1 t1_0 t1_1 t2_0 t3_0 t3_1 t4_0 t5_0 t5_1 t6_0 t7_0 t7_1 t8_0 t9_0 t9_1 t10_0 t11_0 t12_0 t13_0 t13_1 t14_0 t15_0 t15_1 t16_0 t16_1 t17_0 t18_0 t18_1 t19_0 t20_0 t20_1 t21_0 t21_1 t22_0 p524 from (by rw [e525]; have h := hS; rw [S_NH_convert.eq_1] at h; rw [if_pos c97] at h; rw [if_pos c106] at h; rw [if_neg c109] at h; rw [if_neg c111] at h; rw [if_neg c118] at h; rw [if_neg c342] at h; replace h := q_s2 h; with_reducible exact h))
              have ob547 : q_F (0 ≤ x5.toInt) := (by have h := hS543; rw [S_NH_convert_c65_4.eq_1] at h; exact h.2.1)
              have ob548 : q_F (x5.toInt ≤ 9) := (by have h := hS543; rw [S_NH_convert_c65_4.eq_1] at h; replace h := q_s2 h; exact h.2.1)
              refine q_last C0 V hT12 (q_ix (x := x5.toInt) rfl (by first | with_reducible exact q_fe ob547 | (have t1 : 0 ≤ x5.toInt := ob547; omega)) (by have t1 : 0 ≤ x5.toInt := ob547; have t2 : x5.toInt ≤ 9 := ob548; omega)) d_1_16_68 (fun H locs w549 hu550 hT12 V => ?_)
              replace hI := n_al' hI (n_s8 g q) hu550 hT12
              replace hT0 := (hu550 _ (by decide)).trans hT0
              replace hO454 := (hu550 _ (by decide)).trans hO454
              replace hA458 := (hu550 _ (by decide)).trans hA458
              replace hO459 := (hu550 _ (by decide)).trans hO459
              replace hA463 := (hu550 _ (by decide)).trans hA463
              replace hO464 := (hu550 _ (by decide)).trans hO464
              replace hA468 := (hu550 _ (by decide)).trans hA468
              replace hO469 := (hu550 _ (by decide)).trans hO469
              replace hA473 := (hu550 _ (by decide)).trans hA473
              replace hO474 := (hu550 _ (by decide)).trans hO474
              replace hA478 := (hu550 _ (by decide)).trans hA478
              replace hT11 := (hu550 _ (by decide)).trans hT11
              replace hT18 := (hu550 _ (by have z0 := yk5; omega)).trans hT18
              replace hT19 := (hu550 _ (by have z0 := yk5; omega)).trans hT19
              replace hT20 := (hu550 _ (by have z0 := yd5; omega)).trans hT20
              replace hT21 := (hu550 _ (by have z0 := yd5; omega)).trans hT21
              replace hT22 := (hu550 _ (by have z0 := yd5; omega)).trans hT22
              replace hF := q_us hF hu550 (by simp)
              obtain ⟨f551, e552⟩ := q_nm (vp_updL t12_0 x5.toNatClampNeg j453 : (Nat → Int64))
              rw [e552] at hT12
              refine W.widen (k := 4) (n := 24) (Nat.le_of_ble_eq_true rfl) (Nat.le_of_ble_eq_true rfl) ?_
              exact q_retX (q_retv C0 V (⟨hI, hF, t0_0, t0_1, y455, y456, f457, y460, y461, f462, y465, y466, f467, y470, y471, f472, y475, y476, f477, t11_0, f551, t18_0, t18_1, t19_0, t20_0, t20_1, t21_0, t21_1, t22_0, hT0, hO454, hA458, hO459, hA463, hO464, hA468, hO469, hA473, hO474, hA478, hT11, hT12, hT18, hT19, hT20, hT21, hT22, (show 0 ≤ t0_1.toInt from (by first | with_reducible exact (q_fe btt0_1).2 | with_reducible exact (q_fe btt0_1).1 | (have t1 : 0 ≤ t0_1.toInt ∧ t0_1.toInt ≤ 1 := btt0_1; omega))), (show t0_1.toInt ≤ 1 from (by first | with_reducible exact (q_fe btt0_1).2 | with_reducible exact (q_fe btt0_1).1 | (have t1 : 0 ≤ t0_1.toInt ∧ t0_1.toInt ≤ 1 := btt0_1; omega))), (show 0 ≤ y455.toInt from (by first | with_reducible exact q_fe b479 | (have t1 : 0 ≤ y455.toInt := b479; omega))), (show y455.toInt ≤ 220 from (by first | with_reducible exact q_fe b480 | (have t1 : y455.toInt ≤ 220 := b480; omega))), (show 0 ≤ y456.toInt from (by first | with_reducible exact q_fe b481 | (have t1 : 0 ≤ y456.toInt := b481; omega))), (show y456.toInt ≤ 1 from (by first | with_reducible exact q_fe b482 | (have t1 : y456.toInt ≤ 1 := b482; omega))), (show 0 ≤ y460.toInt from (by first | with_reducible exact q_fe b483 | (have t1 : 0 ≤ y460.toInt := b483; omega))), (show y460.toInt ≤ 220 from (by first | with_reducible exact q_fe b484 | (have t1 : y460.toInt ≤ 220 := b484; omega))), (show 0 ≤ y461.toInt from (by first | with_reducible exact q_fe b485 | (have t1 : 0 ≤ y461.toInt := b485; omega))), (show y461.toInt ≤ 1 from (by first | with_reducible exact q_fe b486 | (have t1 : y461.toInt ≤ 1 := b486; omega))), (show 0 ≤ y465.toInt from (by first | with_reducible exact q_fe b487 | (have t1 : 0 ≤ y465.toInt := b487; omega))), (show y465.toInt ≤ 220 from (by first | with_reducible exact q_fe b488 | (have t1 : y465.toInt ≤ 220 := b488; omega))), (show 0 ≤ y466.toInt from (by first | with_reducible exact q_fe b489 | (have t1 : 0 ≤ y466.toInt := b489; omega))), (show y466.toInt ≤ 1 from (by first | with_reducible exact q_fe b490 | (have t1 : y466.toInt ≤ 1 := b490; omega))), (show 0 ≤ y470.toInt from (by first | with_reducible exact q_fe b491 | (have t1 : 0 ≤ y470.toInt := b491; omega))), (show y470.toInt ≤ 220 from (by first | with_reducible exact q_fe b492 | (have t1 : y470.toInt ≤ 220 := b492; omega))), (show 0 ≤ y471.toInt from (by first | with_reducible exact q_fe b493 | (have t1 : 0 ≤ y471.toInt := b493; omega))), (show y471.toInt ≤ 2 from (by first | with_reducible exact q_fe b494 | (have t1 : y471.toInt ≤ 2 := b494; omega))), (show 0 ≤ y475.toInt from (by first | with_reducible exact q_fe b495 | (have t1 : 0 ≤ y475.toInt := b495; omega))), (show y475.toInt ≤ 220 from (by first | with_reducible exact q_fe b496 | (have t1 : y475.toInt ≤ 220 := b496; omega))), (show 0 ≤ y476.toInt from (by first | with_reducible exact q_fe b497 | (have t1 : 0 ≤ y476.toInt := b497; omega))), (show y476.toInt ≤ 1 from (by first | with_reducible exact q_fe b498 | (have t1 : y476.toInt ≤ 1 := b498; omega))), (show 0 ≤ t18_0.toInt from (by first | with_reducible exact (q_fe btt18_0).2 | with_reducible exact (q_fe btt18_0).1 | (have t1 : 0 ≤ t18_0.toInt ∧ t18_0.toInt ≤ 68 := btt18_0; omega))), (show t18_0.toInt ≤ 68 from (by first | with_reducible exact (q_fe btt18_0).2 | with_reducible exact (q_fe btt18_0).1 | (have t1 : 0 ≤ t18_0.toInt ∧ t18_0.toInt ≤ 68 := btt18_0; omega))), (show 0 ≤ t18_1.toInt from (by first | with_reducible exact (q_fe btt18_1).2 | with_reducible exact (q_fe btt18_1).1 | (have t1 : 0 ≤ t18_1.toInt ∧ t18_1.toInt ≤ 1 := btt18_1; omega))), (show t18_1.toInt ≤ 1 from (by first | with_reducible exact (q_fe btt18_1).2 | with_reducible exact (q_fe btt18_1).1 | (have t1 : 0 ≤ t18_1.toInt ∧ t18_1.toInt ≤ 1 := btt18_1; omega))), (show 0 ≤ t20_0.toInt + 10000 from (by first | with_reducible exact (q_fe btt20_0).2 | with_reducible exact (q_fe btt20_0).1 | (have t1 : -10000 ≤ t20_0.toInt ∧ t20_0.toInt ≤ 10000 := btt20_0; omega))), (show t20_0.toInt ≤ 10000 from (by first | with_reducible exact (q_fe btt20_0).2 | with_reducible exact (q_fe btt20_0).1 | (have t1 : -10000 ≤ t20_0.toInt ∧ t20_0.toInt ≤ 10000 := btt20_0; omega))), (show 1 ≤ t20_1.toInt from (by first | with_reducible exact (q_fe btt20_1).2 | with_reducible exact (q_fe btt20_1).1 | (have t1 : 1 ≤ t20_1.toInt ∧ t20_1.toInt ≤ 1000 := btt20_1; omega))), (show t20_1.toInt ≤ 1000 from (by first | with_reducible exact (q_fe btt20_1).2 | with_reducible exact (q_fe btt20_1).1 | (have t1 : 1 ≤ t20_1.toInt ∧ t20_1.toInt ≤ 1000 := btt20_1; omega))), (show 0 ≤ t21_0.toInt from (by first | with_reducible exact (q_fe btt21_0).2 | with_reducible exact (q_fe btt21_0).1 | (have t1 : 0 ≤ t21_0.toInt ∧ t21_0.toInt ≤ 108 := btt21_0; omega))), (show t21_0.toInt ≤ 108 from (by first | with_reducible exact (q_fe btt21_0).2 | with_reducible exact (q_fe btt21_0).1 | (have t1 : 0 ≤ t21_0.toInt ∧ t21_0.toInt ≤ 108 := btt21_0; omega))), (show 0 ≤ t21_1.toInt from (by first | with_reducible exact (q_fe btt21_1).2 | with_reducible exact (q_fe btt21_1).1 | (have t1 : 0 ≤ t21_1.toInt ∧ t21_1.toInt ≤ 1 := btt21_1; omega))), (show t21_1.toInt ≤ 1 from (by first | with_reducible exact (q_fe btt21_1).2 | with_reducible exact (q_fe btt21_1).1 | (have t1 : 0 ≤ t21_1.toInt ∧ t21_1.toInt ≤ 1 := btt21_1; omega))), (show x5.toInt ≤ t0_1.toInt + 10 from (by have t1 : 0 ≤ t0_1.toInt ∧ t0_1.toInt ≤ 1 := btt0_1; have t2 : x5.toInt ≤ 9 := ob548; omega)), (show t0_1.toInt ≤ x5.toInt + 2 from (by have t1 : 0 ≤ t0_1.toInt ∧ t0_1.toInt ≤ 1 := btt0_1; have t2 : 0 ≤ x5.toInt := ob547; omega)), (show t0_1.toInt ≤ t0_1.toInt from (by omega)), (show t0_1.toInt ≤ t0_1.toInt from (by omega)), (show x3.toInt ≤ y455.toInt + 9 from (by first | with_reducible exact q_fe b499 | (have t1 : x3.toInt ≤ y455.toInt + 9 := b499; omega))), (show y455.toInt ≤ x3.toInt + 220 from (by first | with_reducible exact q_fe b500 | (have t1 : y455.toInt ≤ x3.toInt + 220 := b500; omega))), (show x5.toInt ≤ y455.toInt + 10 from (by have t1 : 0 ≤ y455.toInt := b479; have t2 : x5.toInt ≤ 9 := ob548; omega)), (show y455.toInt ≤ x5.toInt + 221 from (by have t1 : y455.toInt ≤ 220 := b480; have t2 : 0 ≤ x5.toInt := ob547; omega)), (show x3.toInt ≤ y456.toInt + 9 from (by first | with_reducible exact q_fe b502 | (have t1 : x3.toInt ≤ y456.toInt + 9 := b502; omega))), (show y456.toInt ≤ x3.toInt + 1 from (by first | with_reducible exact q_fe b503 | (have t1 : y456.toInt ≤ x3.toInt + 1 := b503; omega))), (show x5.toInt ≤ y456.toInt + 10 from (by have t1 : 0 ≤ y456.toInt := b481; have t2 : x5.toInt ≤ 9 := ob548; omega)), (show y456.toInt ≤ x5.toInt + 2 from (by have t1 : y456.toInt ≤ 1 := b482; have t2 : 0 ≤ x5.toInt := ob547; omega)), (show x5.toInt ≤ y460.toInt + 10 from (by have t1 : 0 ≤ y460.toInt := b483; have t2 : x5.toInt ≤ 9 := ob548; omega)), (show y460.toInt ≤ x5.toInt + 221 from (by have t1 : y460.toInt ≤ 220 := b484; have t2 : 0 ≤ x5.toInt := ob547; omega)), (show x5.toInt ≤ y461.toInt + 10 from (by have t1 : 0 ≤ y461.toInt := b485; have t2 : x5.toInt ≤ 9 := ob548; omega)), (show y461.toInt ≤ x5.toInt + 2 from (by have t1 : y461.toInt ≤ 1 := b486; have t2 : 0 ≤ x5.toInt := ob547; omega)), (show y461.toInt ≤ t3_1.toInt from (by first | with_reducible exact q_fe b508 | (have t1 : y461.toInt ≤ t3_1.toInt := b508; omega))), (show x5.toInt ≤ y465.toInt + 10 from (by have t1 : 0 ≤ y465.toInt := b487; have t2 : x5.toInt ≤ 9 := ob548; omega)), (show y465.toInt ≤ x5.toInt + 221 from (by have t1 : y465.toInt ≤ 220 := b488; have t2 : 0 ≤ x5.toInt := ob547; omega)), (show x5.toInt ≤ y466.toInt + 10 from (by have t1 : 0 ≤ y466.toInt := b489; have t2 : x5.toInt ≤ 9 := ob548; omega)), (show y466.toInt ≤ x5.toInt + 2 from (by have t1 : y466.toInt ≤ 1 := b490; have t2 : 0 ≤ x5.toInt := ob547; omega)), (show x5.toInt ≤ y470.toInt + 10 from (by have t1 : 0 ≤ y470.toInt := b491; have t2 : x5.toInt ≤ 9 := ob548; omega)), (show y470.toInt ≤ x5.toInt + 221 from (by have t1 : y470.toInt ≤ 220 := b492; have t2 : 0 ≤ x5.toInt := ob547; omega)), (show y471.toInt ≤ x3.toInt + 2 from (by first | with_reducible exact q_fe b516 | (have t1 : y471.toInt ≤ x3.toInt + 2 := b516; omega))), (show x5.toInt ≤ y471.toInt + 10 from (by have t1 : 0 ≤ y471.toInt := b493; have t2 : x5.toInt ≤ 9 := ob548; omega)), (show y471.toInt ≤ x5.toInt + 2 from (by have t1 : y471.toInt ≤ 2 := b494; have t2 : 0 ≤ x5.toInt := ob547; omega)), (show y471.toInt ≤ t16_1.toInt + 1 from (by first | with_reducible exact q_fe b517 | (have t1 : y471.toInt ≤ t16_1.toInt + 1 := b517; omega))), (show x5.toInt ≤ y475.toInt + 10 from (by have t1 : 0 ≤ y475.toInt := b495; have t2 : x5.toInt ≤ 9 := ob548; omega)), (show y475.toInt ≤ x5.toInt + 221 from (by have t1 : y475.toInt ≤ 220 := b496; have t2 : 0 ≤ x5.toInt := ob547; omega)), (show x5.toInt ≤ y476.toInt + 10 from (by have t1 : 0 ≤ y476.toInt := b497; have t2 : x5.toInt ≤ 9 := ob548; omega)), (show y476.toInt ≤ x5.toInt + 2 from (by have t1 : y476.toInt ≤ 1 := b498; have t2 : 0 ≤ x5.toInt := ob547; omega)), (show x5.toInt ≤ t18_0.toInt + 10 from (by have t1 : 0 ≤ t18_0.toInt ∧ t18_0.toInt ≤ 68 := btt18_0; have t2 : x5.toInt ≤ 9 := ob548; omega)), (show t18_0.toInt ≤ x5.toInt + 69 from (by have t1 : 0 ≤ t18_0.toInt ∧ t18_0.toInt ≤ 68 := btt18_0; have t2 : 0 ≤ x5.toInt := ob547; omega)), (show x5.toInt ≤ t18_1.toInt + 10 from (by have t1 : 0 ≤ t18_1.toInt ∧ t18_1.toInt ≤ 1 := btt18_1; have t2 : x5.toInt ≤ 9 := ob548; omega)), (show t18_1.toInt ≤ x5.toInt + 2 from (by have t1 : 0 ≤ t18_1.toInt ∧ t18_1.toInt ≤ 1 := btt18_1; have t2 : 0 ≤ x5.toInt := ob547; omega)), (show x5.toInt ≤ t20_0.toInt + 10010 from (by have t1 : -10000 ≤ t20_0.toInt ∧ t20_0.toInt ≤ 10000 := btt20_0; have t2 : x5.toInt ≤ 9 := ob548; omega)), (show t20_0.toInt ≤ x5.toInt + 10001 from (by have t1 : -10000 ≤ t20_0.toInt ∧ t20_0.toInt ≤ 10000 := btt20_0; have t2 : 0 ≤ x5.toInt := ob547; omega)), (show x5.toInt ≤ t20_1.toInt + 9 from (by have t1 : 1 ≤ t20_1.toInt ∧ t20_1.toInt ≤ 1000 := btt20_1; have t2 : x5.toInt ≤ 9 := ob548; omega)), (show t20_1.toInt ≤ x5.toInt + 1001 from (by have t1 : 1 ≤ t20_1.toInt ∧ t20_1.toInt ≤ 1000 := btt20_1; have t2 : 0 ≤ x5.toInt := ob547; omega)), (show x5.toInt ≤ t21_0.toInt + 10 from (by have t1 : 0 ≤ t21_0.toInt ∧ t21_0.toInt ≤ 108 := btt21_0; have t2 : x5.toInt ≤ 9 := ob548; omega)), (show t21_0.toInt ≤ x5.toInt + 109 from (by have t1 : 0 ≤ t21_0.toInt ∧ t21_0.toInt ≤ 108 := btt21_0; have t2 : 0 ≤ x5.toInt := ob547; omega)), (show x5.toInt ≤ t21_1.toInt + 10 from (by have t1 : 0 ≤ t21_1.toInt ∧ t21_1.toInt ≤ 1 := btt21_1; have t2 : x5.toInt ≤ 9 := ob548; omega)), (show t21_1.toInt ≤ x5.toInt + 2 from (by have t1 : 0 ≤ t21_1.toInt ∧ t21_1.toInt ≤ 1 := btt21_1; have t2 : 0 ≤ x5.toInt := ob547; omega)), (show ((0 : Int32), t0_0, t0_1, y455, y456, f457, y460, y461, f462, y465, y466, f467, y470, y471, f472, y475, y476, f477, t11_0, f551, t18_0, t18_1, t19_0, t20_0, t20_1, t21_0, t21_1, t22_0) = (F_NH_convert x2 x3 x4 x5 t0_0 t0_1 t1_0 t1_1 t2_0 t3_0 t3_1 t4_0 t5_0 t5_1 t6_0 t7_0 t7_1 t8_0 t9_0 t9_1 t10_0 t11_0 t12_0 t13_0 t13_1 t14_0 t15_0 t15_1 t16_0 t16_1 t17_0 t18_0 t18_1 t19_0 t20_0 t20_1 t21_0 t21_1 t22_0) from Eq.trans (by rw [← e552, e541, e540, e539, e538, e537, e536, e535, e534, e533, e532, e531, e530, e529, e528, e527, e526, F_NH_convert_c65_4.eq_1]) hR542)⟩) d_1_16_69)
        ·
          refine lv_aload_n hx hb d_1_16_35 rfl (lv_at hl 0 rfl) ?_
          refine lv_iload_n hx hb d_1_16_36 rfl (lv_at hl 1 rfl) ?_
          refine lv_iload_n hx hb d_1_16_37 rfl (lv_at hl 2 rfl) ?_
          have ob554 : True ∧ S_NH_makeDecimal x2 x3 t0_0 t0_1 t1_0 t1_1 t2_0 t11_0 t12_0 t13_0 t13_1 t14_0 t15_0 t15_1 t16_0 t16_1 t17_0 := (by have h := hS; rw [S_NH_convert.eq_1] at h; rw [if_pos c97] at h; rw [if_pos c106] at h; rw [if_neg c109] at h; rw [if_pos c111] at h; with_reducible exact h.2.1)
          have hO555 := n_o0 hI
          refine q_goxv V (q_runVX (As := [.int x2, .int x3]) (rest := []) (d := 8) (mc := 1) (ms := 6) (ci := 0) C0 V rfl LV_NH_320 (X_NH_makeDecimal l D g q ws  x2 x3 k3 hBk3 yk3 gk3x3 d3 hBd3 yd3 gd3x3 (by have z := ne_k3_d3; omega) (by have z := ne_k3_d3p1; omega) (by have z := ne_k3_d3p2; omega) (by have z := ne_d3_k3p1; omega) hlt hI t0_0 t0_1 hT0 t1_0 t1_1 hT1 t2_0 hT2 t11_0 hT11 t12_0 hT12 t13_0 t13_1 hT13 t14_0 hT14 t15_0 t15_1 hT15 t16_0 t16_1 hT16 t17_0 hT17 ob554 _) rfl rfl hO555 rfl hl.1 rfl (Nat.le_of_ble_eq_true rfl) ⟨by decide, by decide⟩ ⟨Nat.le_of_ble_eq_true rfl, Nat.le_of_ble_eq_true rfl⟩ d_1_16_38) (fun qx Ex ce u556 H locs hp557 V hce hcv hcl => ?_) (fun u556 H locs hp557 V => ?_)
          ·
            obtain ⟨cx567, hZ9⟩ := hp557
            obtain ⟨he568, hZ9⟩ := hZ9
            obtain ⟨hc569, hZ9⟩ := hZ9
            obtain ⟨hI, hZ9⟩ := hZ9
            obtain ⟨hu570, hZ9⟩ := hZ9
            obtain ⟨y559, hZ9⟩ := hZ9
            obtain ⟨y560, hZ9⟩ := hZ9
            obtain ⟨y562, hZ9⟩ := hZ9
            obtain ⟨y563, hZ9⟩ := hZ9
            obtain ⟨f564, hZ9⟩ := hZ9
            obtain ⟨hO558, hZ9⟩ := hZ9
            obtain ⟨hO561, hZ9⟩ := hZ9
            obtain ⟨hA565, hE566⟩ := hZ9
            replace hO558 : u556[30]? = (some (q 30, .inr (5, [.ref (q 31), .long y559, .ref (q 9), .int y560])) : Option (Nat × va_E)) := hO558
            replace hO561 : u556[10]? = (some (q 10, .inr (2, [.ref (q 11), .int y562, .int y563])) : Option (Nat × va_E)) := hO561
            replace hA565 : u556[11]? = (some (q 11, .inl (g 0, (220 : Int32).toNatClampNeg, .inl f564)) : Option (Nat × va_E)) := hA565
            obtain ⟨p571, e572⟩ : ∃ z, z = (F_NH_makeDecimal x2 x3 t0_0 t0_1 t1_0 t1_1 t2_0 t11_0 t12_0 t13_0 t13_1 t14_0 t15_0 t15_1 t16_0 t16_1 t17_0) := ⟨_, rfl⟩
            have c573 : ¬ p571.1 = (0 : Int32) := fun z => hc569 (((congrArg (fun z => z.1) (hE566.trans e572.symm)) : cx567 = _).trans z)
            have e574 : y559 = p571.2.1 := congrArg (fun z => z.2.1) (hE566.trans e572.symm)
            have e575 : y560 = p571.2.2.1 := congrArg (fun z => z.2.2.1) (hE566.trans e572.symm)
            have e576 : y562 = p571.2.2.2.1 := congrArg (fun z => z.2.2.2.1) (hE566.trans e572.symm)
            have e577 : y563 = p571.2.2.2.2.1 := congrArg (fun z => z.2.2.2.2.1) (hE566.trans e572.symm)
            have e578 : f564 = p571.2.2.2.2.2 := congrArg (fun z => z.2.2.2.2.2) (hE566.trans e572.symm)
            replace hT3 := (hu570 _ (by decide)).trans hT3
            replace hT4 := (hu570 _ (by decide)).trans hT4
            replace hT5 := (hu570 _ (by decide)).trans hT5
            replace hT6 := (hu570 _ (by decide)).trans hT6
            replace hT7 := (hu570 _ (by decide)).trans hT7
            replace hT8 := (hu570 _ (by decide)).trans hT8
            replace hT9 := (hu570 _ (by decide)).trans hT9
            replace hT10 := (hu570 _ (by decide)).trans hT10
            replace hT11 := (hu570 _ (by decide)).trans hT11
            replace hT12 := (hu570 _ (by decide)).trans hT12
            replace hT18 := (hu570 _ (by have z0 := yk5; simp only [List.mem_cons, List.not_mem_nil, or_false, not_or]; omega)).trans hT18
            replace hT19 := (hu570 _ (by have z0 := yk5; simp only [List.mem_cons, List.not_mem_nil, or_false, not_or]; omega)).trans hT19
            replace hT20 := (hu570 _ (by have z0 := yd5; simp only [List.mem_cons, List.not_mem_nil, or_false, not_or]; omega)).trans hT20
            replace hT21 := (hu570 _ (by have z0 := yd5; simp only [List.mem_cons, List.not_mem_nil, or_false, not_or]; omega)).trans hT21
            replace hT22 := (hu570 _ (by have z0 := yd5; simp only [List.mem_cons, List.not_mem_nil, or_false, not_or]; omega)).trans hT22
            replace hF := q_uc hF hu570 (by simp)
            have hR579 := (show F_NH_convert_c38 x2 x3 x4 x5 t0_0 t0_1 t1_0 t1_1 t2_0 t3_0 t3_1 t4_0 t5_0 t5_1 t6_0 t7_0 t7_1 t8_0 t9_0 t9_1 t10_0 t11_0 t12_0 t13_0 t13_1 t14_0 t15_0 t15_1 t16_0 t16_1 t17_0 t18_0 t18_1 t19_0 t20_0 t20_1 t21_0 t21_1 t22_0 p571 = (F_NH_convert x2 x3 x4 x5 t0_0 t0_1 t1_0 t1_1 t2_0 t3_0 t3_1 t4_0 t5_0 t5_1 t6_0 t7_0 t7_1 t8_0 t9_0 t9_1 t10_0 t11_0 t12_0 t13_0 t13_1 t14_0 t15_0 t15_1 t16_0 t16_1 t17_0 t18_0 t18_1 t19_0 t20_0 t20_1 t21_0 t21_1 t22_0) from (by rw [e572, F_NH_convert.eq_1, if_pos c97, if_pos c106, if_neg c109, if_pos c111]))
            have hS580 := (show True ∧ S_NH_convert_c38 x2 x3 x4 x5 t0_0 t0_1 t1_0 t1_1 t2_0 t3_0 t3_1 t4_0 t5_0 t5_1 t6_0 t7_0 t7_1 t8_0 t9_0 t9_1 t10_0 t11_0 t12_0 t13_0 t13_1 t14_0 t15_0 t15_1 t16_0 t16_1 t17_0 t18_0 t18_1 t19_0 t20_0 t20_1 t21_0 t21_1 t22_0 p571 from (by rw [e572]; have h := hS; rw [S_NH_convert.eq_1] at h; rw [if_pos c97] at h; rw [if_pos c106] at h; rw [if_neg c109] at h; rw [if_pos c111] at h; replace h := q_s2 h; with_reducible exact h))
            exact q_outT hno C0 V (⟨p571.1, (he568.trans (congrArg qE ((congrArg (fun z => z.1) (hE566.trans e572.symm)) : cx567 = _))), c573, hI, hF, y559, y560, y562, y563, f564, t3_0, t3_1, t4_0, t5_0, t5_1, t6_0, t7_0, t7_1, t8_0, t9_0, t9_1, t10_0, t11_0, t12_0, t18_0, t18_1, t19_0, t20_0, t20_1, t21_0, t21_1, t22_0, hO558, hO561, hA565, hT3, hT4, hT5, hT6, hT7, hT8, hT9, hT10, hT11, hT12, hT18, hT19, hT20, hT21, hT22, (show (p571.1, y559, y560, y562, y563, f564, t3_0, t3_1, t4_0, t5_0, t5_1, t6_0, t7_0, t7_1, t8_0, t9_0, t9_1, t10_0, t11_0, t12_0, t18_0, t18_1, t19_0, t20_0, t20_1, t21_0, t21_1, t22_0) = (F_NH_convert x2 x3 x4 x5 t0_0 t0_1 t1_0 t1_1 t2_0 t3_0 t3_1 t4_0 t5_0 t5_1 t6_0 t7_0 t7_1 t8_0 t9_0 t9_1 t10_0 t11_0 t12_0 t13_0 t13_1 t14_0 t15_0 t15_1 t16_0 t16_1 t17_0 t18_0 t18_1 t19_0 t20_0 t20_1 t21_0 t21_1 t22_0) from Eq.trans (by rw [e578, e577, e576, e575, e574, F_NH_convert_c38.eq_1, if_neg c573]) hR579)⟩) hce hcv hcl (Nat.le_of_ble_eq_true rfl) (Nat.le_of_ble_eq_true rfl)
          ·
            obtain ⟨hI, hZ9⟩ := hp557
            obtain ⟨hu610, hZ9⟩ := hZ9
            obtain ⟨y585, hZ9⟩ := hZ9
            obtain ⟨y586, hZ9⟩ := hZ9
            obtain ⟨y588, hZ9⟩ := hZ9
            obtain ⟨y589, hZ9⟩ := hZ9
            obtain ⟨f590, hZ9⟩ := hZ9
            obtain ⟨hO584, hZ9⟩ := hZ9
            obtain ⟨hO587, hZ9⟩ := hZ9
            obtain ⟨hA591, hZ9⟩ := hZ9
            replace hZ9 := hZ9.2.2
            obtain ⟨b594, hZ9⟩ := hZ9
            obtain ⟨b595, hZ9⟩ := hZ9
            obtain ⟨b596, hZ9⟩ := hZ9
            obtain ⟨b597, hZ9⟩ := hZ9
            replace hZ9 := hZ9.2.2.2.2
            obtain ⟨b602, hZ9⟩ := hZ9
            obtain ⟨b603, hZ9⟩ := hZ9
            obtain ⟨b604, hZ9⟩ := hZ9
            obtain ⟨b605, hZ9⟩ := hZ9
            obtain ⟨b606, hZ9⟩ := hZ9
            obtain ⟨b607, hZ9⟩ := hZ9
            obtain ⟨-, hE609⟩ := hZ9
            replace hO584 : u556[30]? = (some (q 30, .inr (5, [.ref (q 31), .long y585, .ref (q 9), .int y586])) : Option (Nat × va_E)) := hO584
            replace hO587 : u556[10]? = (some (q 10, .inr (2, [.ref (q 11), .int y588, .int y589])) : Option (Nat × va_E)) := hO587
            replace hA591 : u556[11]? = (some (q 11, .inl (g 0, (220 : Int32).toNatClampNeg, .inl f590)) : Option (Nat × va_E)) := hA591
            obtain ⟨p571, e572⟩ : ∃ z, z = (F_NH_makeDecimal x2 x3 t0_0 t0_1 t1_0 t1_1 t2_0 t11_0 t12_0 t13_0 t13_1 t14_0 t15_0 t15_1 t16_0 t16_1 t17_0) := ⟨_, rfl⟩
            have c573 : p571.1 = (0 : Int32) := ((congrArg (fun z => z.1) (hE609.trans e572.symm)) : (0 : Int32) = _).symm
            have e612 : y585 = p571.2.1 := congrArg (fun z => z.2.1) (hE609.trans e572.symm)
            have e613 : y586 = p571.2.2.1 := congrArg (fun z => z.2.2.1) (hE609.trans e572.symm)
            have e614 : y588 = p571.2.2.2.1 := congrArg (fun z => z.2.2.2.1) (hE609.trans e572.symm)
            have e615 : y589 = p571.2.2.2.2.1 := congrArg (fun z => z.2.2.2.2.1) (hE609.trans e572.symm)
            have e616 : f590 = p571.2.2.2.2.2 := congrArg (fun z => z.2.2.2.2.2) (hE609.trans e572.symm)
            replace b594 : q_F (0 ≤ y588.toInt) := b594
            replace b595 : q_F (y588.toInt ≤ 220) := b595
            replace b596 : q_F (0 ≤ y589.toInt) := b596
            replace b597 : q_F (y589.toInt ≤ 1) := b597
            replace b602 : q_F (t0_1.toInt ≤ y586.toInt) := b602
            replace b603 : q_F (y586.toInt ≤ t0_1.toInt) := b603
            replace b604 : q_F (x3.toInt ≤ y588.toInt + 9) := b604
            replace b605 : q_F (y588.toInt ≤ x3.toInt + 220) := b605
            replace b606 : q_F (x3.toInt ≤ y589.toInt + 9) := b606
            replace b607 : q_F (y589.toInt ≤ x3.toInt + 1) := b607
            replace hT3 := (hu610 _ (by decide)).trans hT3
            replace hT4 := (hu610 _ (by decide)).trans hT4
            replace hT5 := (hu610 _ (by decide)).trans hT5
            replace hT6 := (hu610 _ (by decide)).trans hT6
            replace hT7 := (hu610 _ (by decide)).trans hT7
            replace hT8 := (hu610 _ (by decide)).trans hT8
            replace hT9 := (hu610 _ (by decide)).trans hT9
            replace hT10 := (hu610 _ (by decide)).trans hT10
            replace hT11 := (hu610 _ (by decide)).trans hT11
            replace hT12 := (hu610 _ (by decide)).trans hT12
            replace hT18 := (hu610 _ (by have z0 := yk5; simp only [List.mem_cons, List.not_mem_nil, or_false, not_or]; omega)).trans hT18
            replace hT19 := (hu610 _ (by have z0 := yk5; simp only [List.mem_cons, List.not_mem_nil, or_false, not_or]; omega)).trans hT19
            replace hT20 := (hu610 _ (by have z0 := yd5; simp only [List.mem_cons, List.not_mem_nil, or_false, not_or]; omega)).trans hT20
            replace hT21 := (hu610 _ (by have z0 := yd5; simp only [List.mem_cons, List.not_mem_nil, or_false, not_or]; omega)).trans hT21
            replace hT22 := (hu610 _ (by have z0 := yd5; simp only [List.mem_cons, List.not_mem_nil, or_false, not_or]; omega)).trans hT22
            replace hO555 := (hu610 _ (by decide)).trans hO555
            replace hF := q_uc hF hu610 (by simp)
            have hR579 := (show F_NH_convert_c38 x2 x3 x4 x5 t0_0 t0_1 t1_0 t1_1 t2_0 t3_0 t3_1 t4_0 t5_0 t5_1 t6_0 t7_0 t7_1 t8_0 t9_0 t9_1 t10_0 t11_0 t12_0 t13_0 t13_1 t14_0 t15_0 t15_1 t16_0 t16_1 t17_0 t18_0 t18_1 t19_0 t20_0 t20_1 t21_0 t21_1 t22_0 p571 = (F_NH_convert x2 x3 x4 x5 t0_0 t0_1 t1_0 t1_1 t2_0 t3_0 t3_1 t4_0 t5_0 t5_1 t6_0 t7_0 t7_1 t8_0 t9_0 t9_1 t10_0 t11_0 t12_0 t13_0 t13_1 t14_0 t15_0 t15_1 t16_0 t16_1 t17_0 t18_0 t18_1 t19_0 t20_0 t20_1 t21_0 t21_1 t22_0) from (by rw [e572, F_NH_convert.eq_1, if_pos c97, if_pos c106, if_neg c109, if_pos c111]))
            have hS580 := (show True ∧ S_NH_convert_c38 x2 x3 x4 x5 t0_0 t0_1 t1_0 t1_1 t2_0 t3_0 t3_1 t4_0 t5_0 t5_1 t6_0 t7_0 t7_1 t8_0 t9_0 t9_1 t10_0 t11_0 t12_0 t13_0 t13_1 t14_0 t15_0 t15_1 t16_0 t16_1 t17_0 t18_0 t18_1 t19_0 t20_0 t20_1 t21_0 t21_1 t22_0 p571 from (by rw [e572]; have h := hS; rw [S_NH_convert.eq_1] at h; rw [if_pos c97] at h; rw [if_pos c106] at h; rw [if_neg c109] at h; rw [if_pos c111] at h; replace h := q_s2 h; with_reducible exact h))
            refine lv_aload_n hx hb d_1_16_41 rfl (lv_at hl 0 rfl) ?_
            refine lv_iload hx hb d_1_16_42 (lv_at hl 4 rfl) ?_
            have ob617 : True ∧ S_NH_keepDecimal x5 y585 y586 y588 y589 f590 t5_0 t5_1 t6_0 t20_0 t20_1 t21_0 t21_1 t22_0 := (by rw [e616, e615, e614, e613, e612]; have h := hS580; rw [S_NH_convert_c38.eq_1] at h; rw [if_pos c573] at h; with_reducible exact h.2.1)
            refine q_goxv V (q_runVX (As := [.int x5]) (rest := []) (d := 8) (mc := 1) (ms := 6) (ci := 0) C0 V rfl LV_NH_281 (X_NH_keepDecimal l D g q u556  x5 d5 hBd5 yd5 gd5x5 hlt hI y585 y586 hO584 y588 y589 hO587 f590 hA591 t5_0 t5_1 hT5 t6_0 hT6 t20_0 t20_1 hT20 t21_0 t21_1 hT21 t22_0 hT22 ob617 _) rfl rfl hO555 rfl hl.1 rfl (Nat.le_of_ble_eq_true rfl) ⟨by decide, by decide⟩ ⟨Nat.le_of_ble_eq_true rfl, Nat.le_of_ble_eq_true rfl⟩ d_1_16_44) (fun qx Ex ce u618 H locs hp619 V hce hcv hcl => ?_) (fun u618 H locs hp619 V => ?_)
            ·
              obtain ⟨cx634, hZ9⟩ := hp619
              obtain ⟨he635, hZ9⟩ := hZ9
              obtain ⟨hc636, hZ9⟩ := hZ9
              obtain ⟨hI, hZ9⟩ := hZ9
              obtain ⟨hu637, hZ9⟩ := hZ9
              obtain ⟨y621, hZ9⟩ := hZ9
              obtain ⟨y622, hZ9⟩ := hZ9
              obtain ⟨f623, hZ9⟩ := hZ9
              obtain ⟨y626, hZ9⟩ := hZ9
              obtain ⟨y627, hZ9⟩ := hZ9
              obtain ⟨y629, hZ9⟩ := hZ9
              obtain ⟨y630, hZ9⟩ := hZ9
              obtain ⟨f631, hZ9⟩ := hZ9
              obtain ⟨hO620, hZ9⟩ := hZ9
              obtain ⟨hA624, hZ9⟩ := hZ9
              obtain ⟨hO625, hZ9⟩ := hZ9
              obtain ⟨hO628, hZ9⟩ := hZ9
              obtain ⟨hA632, hE633⟩ := hZ9
              replace hO620 : u618[20]? = (some (q 20, .inr (2, [.ref (q 21), .int y621, .int y622])) : Option (Nat × va_E)) := hO620
              replace hA624 : u618[21]? = (some (q 21, .inl (g 0, (220 : Int32).toNatClampNeg, .inl f623)) : Option (Nat × va_E)) := hA624
              replace hO625 : u618[d5]? = (some (q d5, .inr (3, [.ref (q (d5 + 1)), .int y626, .int y627])) : Option (Nat × va_E)) := hO625
              replace hO628 : u618[d5 + 1]? = (some (q (d5 + 1), .inr (2, [.ref (q (d5 + 2)), .int y629, .int y630])) : Option (Nat × va_E)) := hO628
              replace hA632 : u618[d5 + 2]? = (some (q (d5 + 2), .inl (g 0, (108 : Int32).toNatClampNeg, .inl f631)) : Option (Nat × va_E)) := hA632
              obtain ⟨p638, e639⟩ : ∃ z, z = (F_NH_keepDecimal x5 y585 y586 y588 y589 f590 t5_0 t5_1 t6_0 t20_0 t20_1 t21_0 t21_1 t22_0) := ⟨_, rfl⟩
              have c640 : ¬ p638.1 = (0 : Int32) := fun z => hc636 (((congrArg (fun z => z.1) (hE633.trans e639.symm)) : cx634 = _).trans z)
              have e641 : y621 = p638.2.1 := congrArg (fun z => z.2.1) (hE633.trans e639.symm)
              have e642 : y622 = p638.2.2.1 := congrArg (fun z => z.2.2.1) (hE633.trans e639.symm)
              have e643 : f623 = p638.2.2.2.1 := congrArg (fun z => z.2.2.2.1) (hE633.trans e639.symm)
              have e644 : y626 = p638.2.2.2.2.1 := congrArg (fun z => z.2.2.2.2.1) (hE633.trans e639.symm)
              have e645 : y627 = p638.2.2.2.2.2.1 := congrArg (fun z => z.2.2.2.2.2.1) (hE633.trans e639.symm)
              have e646 : y629 = p638.2.2.2.2.2.2.1 := congrArg (fun z => z.2.2.2.2.2.2.1) (hE633.trans e639.symm)
              have e647 : y630 = p638.2.2.2.2.2.2.2.1 := congrArg (fun z => z.2.2.2.2.2.2.2.1) (hE633.trans e639.symm)
              have e648 : f631 = p638.2.2.2.2.2.2.2.2 := congrArg (fun z => z.2.2.2.2.2.2.2.2) (hE633.trans e639.symm)
              replace hO584 := (hu637 _ (by have z0 := yd5; simp only [List.mem_cons, List.not_mem_nil, or_false, not_or]; omega)).trans hO584
              replace hO587 := (hu637 _ (by have z0 := yd5; simp only [List.mem_cons, List.not_mem_nil, or_false, not_or]; omega)).trans hO587
              replace hA591 := (hu637 _ (by have z0 := yd5; simp only [List.mem_cons, List.not_mem_nil, or_false, not_or]; omega)).trans hA591
              replace hT3 := (hu637 _ (by have z0 := yd5; simp only [List.mem_cons, List.not_mem_nil, or_false, not_or]; omega)).trans hT3
              replace hT4 := (hu637 _ (by have z0 := yd5; simp only [List.mem_cons, List.not_mem_nil, or_false, not_or]; omega)).trans hT4
              replace hT7 := (hu637 _ (by have z0 := yd5; simp only [List.mem_cons, List.not_mem_nil, or_false, not_or]; omega)).trans hT7
              replace hT8 := (hu637 _ (by have z0 := yd5; simp only [List.mem_cons, List.not_mem_nil, or_false, not_or]; omega)).trans hT8
              replace hT9 := (hu637 _ (by have z0 := yd5; simp only [List.mem_cons, List.not_mem_nil, or_false, not_or]; omega)).trans hT9
              replace hT10 := (hu637 _ (by have z0 := yd5; simp only [List.mem_cons, List.not_mem_nil, or_false, not_or]; omega)).trans hT10
              replace hT11 := (hu637 _ (by have z0 := yd5; simp only [List.mem_cons, List.not_mem_nil, or_false, not_or]; omega)).trans hT11
              replace hT12 := (hu637 _ (by have z0 := yd5; simp only [List.mem_cons, List.not_mem_nil, or_false, not_or]; omega)).trans hT12
              replace hT18 := (hu637 _ (q_nc (by have z0 := yk5; omega) (q_nc (by have z0 := yk5; omega) (q_nc (by have z := ne_k5_d5; omega) (q_nc (by have z := ne_k5_d5p1; omega) (q_nc (by have z := ne_k5_d5p2; omega) List.not_mem_nil)))))).trans hT18
              replace hT19 := (hu637 _ (q_nc (by have z0 := yk5; omega) (q_nc (by have z0 := yk5; omega) (q_nc (by have z := ne_d5_k5p1; omega) (q_nc (by have z := ne_k5_d5; omega) (q_nc (by have z := ne_k5_d5p1; omega) List.not_mem_nil)))))).trans hT19
              replace hF := q_uc hF hu637 (by simp)
              have hR649 := (show F_NH_convert_c44 x2 x3 x4 x5 t0_0 t0_1 t1_0 t1_1 t2_0 t3_0 t3_1 t4_0 t5_0 t5_1 t6_0 t7_0 t7_1 t8_0 t9_0 t9_1 t10_0 t11_0 t12_0 t13_0 t13_1 t14_0 t15_0 t15_1 t16_0 t16_1 t17_0 t18_0 t18_1 t19_0 t20_0 t20_1 t21_0 t21_1 t22_0 p571 y585 y586 y588 y589 f590 p638 = (F_NH_convert x2 x3 x4 x5 t0_0 t0_1 t1_0 t1_1 t2_0 t3_0 t3_1 t4_0 t5_0 t5_1 t6_0 t7_0 t7_1 t8_0 t9_0 t9_1 t10_0 t11_0 t12_0 t13_0 t13_1 t14_0 t15_0 t15_1 t16_0 t16_1 t17_0 t18_0 t18_1 t19_0 t20_0 t20_1 t21_0 t21_1 t22_0) from Eq.trans (by rw [e639, e616, e615, e614, e613, e612, F_NH_convert_c38.eq_1, if_pos c573]) hR579)
              have hS650 := (show True ∧ S_NH_convert_c44 x2 x3 x4 x5 t0_0 t0_1 t1_0 t1_1 t2_0 t3_0 t3_1 t4_0 t5_0 t5_1 t6_0 t7_0 t7_1 t8_0 t9_0 t9_1 t10_0 t11_0 t12_0 t13_0 t13_1 t14_0 t15_0 t15_1 t16_0 t16_1 t17_0 t18_0 t18_1 t19_0 t20_0 t20_1 t21_0 t21_1 t22_0 p571 y585 y586 y588 y589 f590 p638 from (by rw [e639, e616, e615, e614, e613, e612]; have h := hS580; rw [S_NH_convert_c38.eq_1] at h; rw [if_pos c573] at h; replace h := q_s2 h; with_reducible exact h))
              exact q_outT hno C0 V (⟨p638.1, (he635.trans (congrArg qE ((congrArg (fun z => z.1) (hE633.trans e639.symm)) : cx634 = _))), c640, hI, hF, y585, y586, y588, y589, f590, t3_0, t3_1, t4_0, y621, y622, f623, t7_0, t7_1, t8_0, t9_0, t9_1, t10_0, t11_0, t12_0, t18_0, t18_1, t19_0, y626, y627, y629, y630, f631, hO584, hO587, hA591, hT3, hT4, hO620, hA624, hT7, hT8, hT9, hT10, hT11, hT12, hT18, hT19, hO625, hO628, hA632, (show (p638.1, y585, y586, y588, y589, f590, t3_0, t3_1, t4_0, y621, y622, f623, t7_0, t7_1, t8_0, t9_0, t9_1, t10_0, t11_0, t12_0, t18_0, t18_1, t19_0, y626, y627, y629, y630, f631) = (F_NH_convert x2 x3 x4 x5 t0_0 t0_1 t1_0 t1_1 t2_0 t3_0 t3_1 t4_0 t5_0 t5_1 t6_0 t7_0 t7_1 t8_0 t9_0 t9_1 t10_0 t11_0 t12_0 t13_0 t13_1 t14_0 t15_0 t15_1 t16_0 t16_1 t17_0 t18_0 t18_1 t19_0 t20_0 t20_1 t21_0 t21_1 t22_0) from Eq.trans (by rw [e648, e647, e646, e645, e644, e643, e642, e641, F_NH_convert_c44.eq_1, if_neg c640]) hR649)⟩) hce hcv hcl (Nat.le_of_ble_eq_true rfl) (Nat.le_of_ble_eq_true rfl)
            ·
              obtain ⟨hI, hZ9⟩ := hp619
              obtain ⟨hu692, hZ9⟩ := hZ9
              obtain ⟨y655, hZ9⟩ := hZ9
              obtain ⟨y656, hZ9⟩ := hZ9
              obtain ⟨f657, hZ9⟩ := hZ9
              obtain ⟨y660, hZ9⟩ := hZ9
              obtain ⟨y661, hZ9⟩ := hZ9
              obtain ⟨y663, hZ9⟩ := hZ9
              obtain ⟨y664, hZ9⟩ := hZ9
              obtain ⟨f665, hZ9⟩ := hZ9
              obtain ⟨hO654, hZ9⟩ := hZ9
              obtain ⟨hA658, hZ9⟩ := hZ9
              obtain ⟨hO659, hZ9⟩ := hZ9
              obtain ⟨hO662, hZ9⟩ := hZ9
              obtain ⟨hA666, hZ9⟩ := hZ9
              obtain ⟨b667, hZ9⟩ := hZ9
              obtain ⟨b668, hZ9⟩ := hZ9
              obtain ⟨b669, hZ9⟩ := hZ9
              obtain ⟨b670, hZ9⟩ := hZ9
              obtain ⟨b671, hZ9⟩ := hZ9
              obtain ⟨b672, hZ9⟩ := hZ9
              obtain ⟨b673, hZ9⟩ := hZ9
              obtain ⟨b674, hZ9⟩ := hZ9
              obtain ⟨b675, hZ9⟩ := hZ9
              obtain ⟨b676, hZ9⟩ := hZ9
              obtain ⟨b677, hZ9⟩ := hZ9
              obtain ⟨b678, hZ9⟩ := hZ9
              obtain ⟨b679, hZ9⟩ := hZ9
              obtain ⟨b680, hZ9⟩ := hZ9
              obtain ⟨b681, hZ9⟩ := hZ9
              obtain ⟨b682, hZ9⟩ := hZ9
              obtain ⟨b683, hZ9⟩ := hZ9
              obtain ⟨b684, hZ9⟩ := hZ9
              obtain ⟨b685, hZ9⟩ := hZ9
              obtain ⟨b686, hZ9⟩ := hZ9
              obtain ⟨b687, hZ9⟩ := hZ9
              obtain ⟨b688, hZ9⟩ := hZ9
              obtain ⟨b689, hZ9⟩ := hZ9
              obtain ⟨b690, hE691⟩ := hZ9
              replace hO654 : u618[20]? = (some (q 20, .inr (2, [.ref (q 21), .int y655, .int y656])) : Option (Nat × va_E)) := hO654
              replace hA658 : u618[21]? = (some (q 21, .inl (g 0, (220 : Int32).toNatClampNeg, .inl f657)) : Option (Nat × va_E)) := hA658
              replace hO659 : u618[d5]? = (some (q d5, .inr (3, [.ref (q (d5 + 1)), .int y660, .int y661])) : Option (Nat × va_E)) := hO659
              replace hO662 : u618[d5 + 1]? = (some (q (d5 + 1), .inr (2, [.ref (q (d5 + 2)), .int y663, .int y664])) : Option (Nat × va_E)) := hO662
              replace hA666 : u618[d5 + 2]? = (some (q (d5 + 2), .inl (g 0, (108 : Int32).toNatClampNeg, .inl f665)) : Option (Nat × va_E)) := hA666
              obtain ⟨p638, e639⟩ : ∃ z, z = (F_NH_keepDecimal x5 y585 y586 y588 y589 f590 t5_0 t5_1 t6_0 t20_0 t20_1 t21_0 t21_1 t22_0) := ⟨_, rfl⟩
              have c640 : p638.1 = (0 : Int32) := ((congrArg (fun z => z.1) (hE691.trans e639.symm)) : (0 : Int32) = _).symm
              have e694 : y655 = p638.2.1 := congrArg (fun z => z.2.1) (hE691.trans e639.symm)
              have e695 : y656 = p638.2.2.1 := congrArg (fun z => z.2.2.1) (hE691.trans e639.symm)
              have e696 : f657 = p638.2.2.2.1 := congrArg (fun z => z.2.2.2.1) (hE691.trans e639.symm)
              have e697 : y660 = p638.2.2.2.2.1 := congrArg (fun z => z.2.2.2.2.1) (hE691.trans e639.symm)
              have e698 : y661 = p638.2.2.2.2.2.1 := congrArg (fun z => z.2.2.2.2.2.1) (hE691.trans e639.symm)
              have e699 : y663 = p638.2.2.2.2.2.2.1 := congrArg (fun z => z.2.2.2.2.2.2.1) (hE691.trans e639.symm)
              have e700 : y664 = p638.2.2.2.2.2.2.2.1 := congrArg (fun z => z.2.2.2.2.2.2.2.1) (hE691.trans e639.symm)
              have e701 : f665 = p638.2.2.2.2.2.2.2.2 := congrArg (fun z => z.2.2.2.2.2.2.2.2) (hE691.trans e639.symm)
              replace b667 : q_F (0 ≤ y655.toInt) := b667
              replace b668 : q_F (y655.toInt ≤ 220) := b668
              replace b669 : q_F (0 ≤ y656.toInt) := b669
              replace b670 : q_F (y656.toInt ≤ 1) := b670
              replace b671 : q_F (0 ≤ y660.toInt + 10000) := b671
              replace b672 : q_F (y660.toInt ≤ 10000) := b672
              replace b673 : q_F (1 ≤ y661.toInt) := b673
              replace b674 : q_F (y661.toInt ≤ 1000) := b674
              replace b675 : q_F (0 ≤ y663.toInt) := b675
              replace b676 : q_F (y663.toInt ≤ 108) := b676
              replace b677 : q_F (0 ≤ y664.toInt) := b677
              replace b678 : q_F (y664.toInt ≤ 1) := b678
              replace b679 : q_F (x5.toInt ≤ y655.toInt + 9) := b679
              replace b680 : q_F (y655.toInt ≤ x5.toInt + 220) := b680
              replace b681 : q_F (x5.toInt ≤ y656.toInt + 9) := b681
              replace b682 : q_F (y656.toInt ≤ x5.toInt + 1) := b682
              replace b683 : q_F (x5.toInt ≤ y660.toInt + 10009) := b683
              replace b684 : q_F (y660.toInt ≤ x5.toInt + 10000) := b684
              replace b685 : q_F (x5.toInt ≤ y661.toInt + 8) := b685
              replace b686 : q_F (y661.toInt ≤ x5.toInt + 1000) := b686
              replace b687 : q_F (x5.toInt ≤ y663.toInt + 9) := b687
              replace b688 : q_F (y663.toInt ≤ x5.toInt + 108) := b688
              replace b689 : q_F (x5.toInt ≤ y664.toInt + 9) := b689
              replace b690 : q_F (y664.toInt ≤ x5.toInt + 1) := b690
              replace hO584 := (hu692 _ (by have z0 := yd5; simp only [List.mem_cons, List.not_mem_nil, or_false, not_or]; omega)).trans hO584
              replace hO587 := (hu692 _ (by have z0 := yd5; simp only [List.mem_cons, List.not_mem_nil, or_false, not_or]; omega)).trans hO587
              replace hA591 := (hu692 _ (by have z0 := yd5; simp only [List.mem_cons, List.not_mem_nil, or_false, not_or]; omega)).trans hA591
              replace hT3 := (hu692 _ (by have z0 := yd5; simp only [List.mem_cons, List.not_mem_nil, or_false, not_or]; omega)).trans hT3
              replace hT4 := (hu692 _ (by have z0 := yd5; simp only [List.mem_cons, List.not_mem_nil, or_false, not_or]; omega)).trans hT4
              replace hT7 := (hu692 _ (by have z0 := yd5; simp only [List.mem_cons, List.not_mem_nil, or_false, not_or]; omega)).trans hT7
              replace hT8 := (hu692 _ (by have z0 := yd5; simp only [List.mem_cons, List.not_mem_nil, or_false, not_or]; omega)).trans hT8
              replace hT9 := (hu692 _ (by have z0 := yd5; simp only [List.mem_cons, List.not_mem_nil, or_false, not_or]; omega)).trans hT9
              replace hT10 := (hu692 _ (by have z0 := yd5; simp only [List.mem_cons, List.not_mem_nil, or_false, not_or]; omega)).trans hT10
              replace hT11 := (hu692 _ (by have z0 := yd5; simp only [List.mem_cons, List.not_mem_nil, or_false, not_or]; omega)).trans hT11
              replace hT12 := (hu692 _ (by have z0 := yd5; simp only [List.mem_cons, List.not_mem_nil, or_false, not_or]; omega)).trans hT12
              replace hT18 := (hu692 _ (q_nc (by have z0 := yk5; omega) (q_nc (by have z0 := yk5; omega) (q_nc (by have z := ne_k5_d5; omega) (q_nc (by have z := ne_k5_d5p1; omega) (q_nc (by have z := ne_k5_d5p2; omega) List.not_mem_nil)))))).trans hT18
              replace hT19 := (hu692 _ (q_nc (by have z0 := yk5; omega) (q_nc (by have z0 := yk5; omega) (q_nc (by have z := ne_d5_k5p1; omega) (q_nc (by have z := ne_k5_d5; omega) (q_nc (by have z := ne_k5_d5p1; omega) List.not_mem_nil)))))).trans hT19
              replace hF := q_uc hF hu692 (by simp)
              have hR649 := (show F_NH_convert_c44 x2 x3 x4 x5 t0_0 t0_1 t1_0 t1_1 t2_0 t3_0 t3_1 t4_0 t5_0 t5_1 t6_0 t7_0 t7_1 t8_0 t9_0 t9_1 t10_0 t11_0 t12_0 t13_0 t13_1 t14_0 t15_0 t15_1 t16_0 t16_1 t17_0 t18_0 t18_1 t19_0 t20_0 t20_1 t21_0 t21_1 t22_0 p571 y585 y586 y588 y589 f590 p638 = (F_NH_convert x2 x3 x4 x5 t0_0 t0_1 t1_0 t1_1 t2_0 t3_0 t3_1 t4_0 t5_0 t5_1 t6_0 t7_0 t7_1 t8_0 t9_0 t9_1 t10_0 t11_0 t12_0 t13_0 t13_1 t14_0 t15_0 t15_1 t16_0 t16_1 t17_0 t18_0 t18_1 t19_0 t20_0 t20_1 t21_0 t21_1 t22_0) from Eq.trans (by rw [e639, e616, e615, e614, e613, e612, F_NH_convert_c38.eq_1, if_pos c573]) hR579)
              have hS650 := (show True ∧ S_NH_convert_c44 x2 x3 x4 x5 t0_0 t0_1 t1_0 t1_1 t2_0 t3_0 t3_1 t4_0 t5_0 t5_1 t6_0 t7_0 t7_1 t8_0 t9_0 t9_1 t10_0 t11_0 t12_0 t13_0 t13_1 t14_0 t15_0 t15_1 t16_0 t16_1 t17_0 t18_0 t18_1 t19_0 t20_0 t20_1 t21_0 t21_1 t22_0 p571 y585 y586 y588 y589 f590 p638 from (by rw [e639, e616, e615, e614, e613, e612]; have h := hS580; rw [S_NH_convert_c38.eq_1] at h; rw [if_pos c573] at h; replace h := q_s2 h; with_reducible exact h))
              refine lv_goto (tgt := 69) hx hb d_1_16_47 (by decide) ?_
              exact q_retX (q_retv C0 V (⟨hI, hF, y585, y586, y588, y589, f590, t3_0, t3_1, t4_0, y655, y656, f657, t7_0, t7_1, t8_0, t9_0, t9_1, t10_0, t11_0, t12_0, t18_0, t18_1, t19_0, y660, y661, y663, y664, f665, hO584, hO587, hA591, hT3, hT4, hO654, hA658, hT7, hT8, hT9, hT10, hT11, hT12, hT18, hT19, hO659, hO662, hA666, (show 0 ≤ y586.toInt from (by have t1 : 0 ≤ t0_1.toInt ∧ t0_1.toInt ≤ 1 := btt0_1; have t2 : t0_1.toInt ≤ y586.toInt := b602; omega)), (show y586.toInt ≤ 1 from (by have t1 : 0 ≤ t0_1.toInt ∧ t0_1.toInt ≤ 1 := btt0_1; have t2 : y586.toInt ≤ t0_1.toInt := b603; omega)), (show 0 ≤ y588.toInt from (by first | with_reducible exact q_fe b594 | (have t1 : 0 ≤ y588.toInt := b594; omega))), (show y588.toInt ≤ 220 from (by first | with_reducible exact q_fe b595 | (have t1 : y588.toInt ≤ 220 := b595; omega))), (show 0 ≤ y589.toInt from (by first | with_reducible exact q_fe b596 | (have t1 : 0 ≤ y589.toInt := b596; omega))), (show y589.toInt ≤ 1 from (by first | with_reducible exact q_fe b597 | (have t1 : y589.toInt ≤ 1 := b597; omega))), (show 0 ≤ t3_0.toInt from (by first | with_reducible exact (q_fe btt3_0).2 | with_reducible exact (q_fe btt3_0).1 | (have t1 : 0 ≤ t3_0.toInt ∧ t3_0.toInt ≤ 220 := btt3_0; omega))), (show t3_0.toInt ≤ 220 from (by first | with_reducible exact (q_fe btt3_0).2 | with_reducible exact (q_fe btt3_0).1 | (have t1 : 0 ≤ t3_0.toInt ∧ t3_0.toInt ≤ 220 := btt3_0; omega))), (show 0 ≤ t3_1.toInt from (by first | with_reducible exact (q_fe btt3_1).2 | with_reducible exact (q_fe btt3_1).1 | (have t1 : 0 ≤ t3_1.toInt ∧ t3_1.toInt ≤ 1 := btt3_1; omega))), (show t3_1.toInt ≤ 1 from (by first | with_reducible exact (q_fe btt3_1).2 | with_reducible exact (q_fe btt3_1).1 | (have t1 : 0 ≤ t3_1.toInt ∧ t3_1.toInt ≤ 1 := btt3_1; omega))), (show 0 ≤ y655.toInt from (by first | with_reducible exact q_fe b667 | (have t1 : 0 ≤ y655.toInt := b667; omega))), (show y655.toInt ≤ 220 from (by first | with_reducible exact q_fe b668 | (have t1 : y655.toInt ≤ 220 := b668; omega))), (show 0 ≤ y656.toInt from (by first | with_reducible exact q_fe b669 | (have t1 : 0 ≤ y656.toInt := b669; omega))), (show y656.toInt ≤ 1 from (by first | with_reducible exact q_fe b670 | (have t1 : y656.toInt ≤ 1 := b670; omega))), (show 0 ≤ t7_0.toInt from (by first | with_reducible exact (q_fe btt7_0).2 | with_reducible exact (q_fe btt7_0).1 | (have t1 : 0 ≤ t7_0.toInt ∧ t7_0.toInt ≤ 220 := btt7_0; omega))), (show t7_0.toInt ≤ 220 from (by first | with_reducible exact (q_fe btt7_0).2 | with_reducible exact (q_fe btt7_0).1 | (have t1 : 0 ≤ t7_0.toInt ∧ t7_0.toInt ≤ 220 := btt7_0; omega))), (show 0 ≤ t7_1.toInt from (by first | with_reducible exact (q_fe btt7_1).2 | with_reducible exact (q_fe btt7_1).1 | (have t1 : 0 ≤ t7_1.toInt ∧ t7_1.toInt ≤ 1 := btt7_1; omega))), (show t7_1.toInt ≤ 2 from (by first | with_reducible exact (q_fe btt7_1).2 | with_reducible exact (q_fe btt7_1).1 | (have t1 : 0 ≤ t7_1.toInt ∧ t7_1.toInt ≤ 1 := btt7_1; omega))), (show 0 ≤ t9_0.toInt from (by first | with_reducible exact (q_fe btt9_0).2 | with_reducible exact (q_fe btt9_0).1 | (have t1 : 0 ≤ t9_0.toInt ∧ t9_0.toInt ≤ 220 := btt9_0; omega))), (show t9_0.toInt ≤ 220 from (by first | with_reducible exact (q_fe btt9_0).2 | with_reducible exact (q_fe btt9_0).1 | (have t1 : 0 ≤ t9_0.toInt ∧ t9_0.toInt ≤ 220 := btt9_0; omega))), (show 0 ≤ t9_1.toInt from (by first | with_reducible exact (q_fe btt9_1).2 | with_reducible exact (q_fe btt9_1).1 | (have t1 : 0 ≤ t9_1.toInt ∧ t9_1.toInt ≤ 1 := btt9_1; omega))), (show t9_1.toInt ≤ 1 from (by first | with_reducible exact (q_fe btt9_1).2 | with_reducible exact (q_fe btt9_1).1 | (have t1 : 0 ≤ t9_1.toInt ∧ t9_1.toInt ≤ 1 := btt9_1; omega))), (show 0 ≤ t18_0.toInt from (by first | with_reducible exact (q_fe btt18_0).2 | with_reducible exact (q_fe btt18_0).1 | (have t1 : 0 ≤ t18_0.toInt ∧ t18_0.toInt ≤ 68 := btt18_0; omega))), (show t18_0.toInt ≤ 68 from (by first | with_reducible exact (q_fe btt18_0).2 | with_reducible exact (q_fe btt18_0).1 | (have t1 : 0 ≤ t18_0.toInt ∧ t18_0.toInt ≤ 68 := btt18_0; omega))), (show 0 ≤ t18_1.toInt from (by first | with_reducible exact (q_fe btt18_1).2 | with_reducible exact (q_fe btt18_1).1 | (have t1 : 0 ≤ t18_1.toInt ∧ t18_1.toInt ≤ 1 := btt18_1; omega))), (show t18_1.toInt ≤ 1 from (by first | with_reducible exact (q_fe btt18_1).2 | with_reducible exact (q_fe btt18_1).1 | (have t1 : 0 ≤ t18_1.toInt ∧ t18_1.toInt ≤ 1 := btt18_1; omega))), (show 0 ≤ y660.toInt + 10000 from (by first | with_reducible exact q_fe b671 | (have t1 : 0 ≤ y660.toInt + 10000 := b671; omega))), (show y660.toInt ≤ 10000 from (by first | with_reducible exact q_fe b672 | (have t1 : y660.toInt ≤ 10000 := b672; omega))), (show 1 ≤ y661.toInt from (by first | with_reducible exact q_fe b673 | (have t1 : 1 ≤ y661.toInt := b673; omega))), (show y661.toInt ≤ 1000 from (by first | with_reducible exact q_fe b674 | (have t1 : y661.toInt ≤ 1000 := b674; omega))), (show 0 ≤ y663.toInt from (by first | with_reducible exact q_fe b675 | (have t1 : 0 ≤ y663.toInt := b675; omega))), (show y663.toInt ≤ 108 from (by first | with_reducible exact q_fe b676 | (have t1 : y663.toInt ≤ 108 := b676; omega))), (show 0 ≤ y664.toInt from (by first | with_reducible exact q_fe b677 | (have t1 : 0 ≤ y664.toInt := b677; omega))), (show y664.toInt ≤ 1 from (by first | with_reducible exact q_fe b678 | (have t1 : y664.toInt ≤ 1 := b678; omega))), (show x5.toInt ≤ y586.toInt + 10 from (by have t1 : 0 ≤ t0_1.toInt ∧ t0_1.toInt ≤ 1 := btt0_1; have t2 : t0_1.toInt ≤ y586.toInt := b602; have t3 : y656.toInt ≤ 1 := b670; have t4 : x5.toInt ≤ y656.toInt + 9 := b681; omega)), (show y586.toInt ≤ x5.toInt + 2 from (by have t1 : 0 ≤ t0_1.toInt ∧ t0_1.toInt ≤ 1 := btt0_1; have t2 : y586.toInt ≤ t0_1.toInt := b603; have t3 : 0 ≤ y656.toInt := b669; have t4 : y656.toInt ≤ x5.toInt + 1 := b682; omega)), (show t0_1.toInt ≤ y586.toInt from (by first | with_reducible exact q_fe b602 | (have t1 : t0_1.toInt ≤ y586.toInt := b602; omega))), (show y586.toInt ≤ t0_1.toInt from (by first | with_reducible exact q_fe b603 | (have t1 : y586.toInt ≤ t0_1.toInt := b603; omega))), (show x3.toInt ≤ y588.toInt + 9 from (by first | with_reducible exact q_fe b604 | (have t1 : x3.toInt ≤ y588.toInt + 9 := b604; omega))), (show y588.toInt ≤ x3.toInt + 220 from (by first | with_reducible exact q_fe b605 | (have t1 : y588.toInt ≤ x3.toInt + 220 := b605; omega))), (show x5.toInt ≤ y588.toInt + 10 from (by have t1 : 0 ≤ y588.toInt := b594; have t2 : y656.toInt ≤ 1 := b670; have t3 : x5.toInt ≤ y656.toInt + 9 := b681; omega)), (show y588.toInt ≤ x5.toInt + 221 from (by have t1 : y588.toInt ≤ 220 := b595; have t2 : 0 ≤ y656.toInt := b669; have t3 : y656.toInt ≤ x5.toInt + 1 := b682; omega)), (show x3.toInt ≤ y589.toInt + 9 from (by first | with_reducible exact q_fe b606 | (have t1 : x3.toInt ≤ y589.toInt + 9 := b606; omega))), (show y589.toInt ≤ x3.toInt + 1 from (by first | with_reducible exact q_fe b607 | (have t1 : y589.toInt ≤ x3.toInt + 1 := b607; omega))), (show x5.toInt ≤ y589.toInt + 10 from (by have t1 : 0 ≤ y589.toInt := b596; have t2 : y656.toInt ≤ 1 := b670; have t3 : x5.toInt ≤ y656.toInt + 9 := b681; omega)), (show y589.toInt ≤ x5.toInt + 2 from (by have t1 : y589.toInt ≤ 1 := b597; have t2 : 0 ≤ y656.toInt := b669; have t3 : y656.toInt ≤ x5.toInt + 1 := b682; omega)), (show x5.toInt ≤ t3_0.toInt + 10 from (by have t1 : 0 ≤ t3_0.toInt ∧ t3_0.toInt ≤ 220 := btt3_0; have t2 : y656.toInt ≤ 1 := b670; have t3 : x5.toInt ≤ y656.toInt + 9 := b681; omega)), (show t3_0.toInt ≤ x5.toInt + 221 from (by have t1 : 0 ≤ t3_0.toInt ∧ t3_0.toInt ≤ 220 := btt3_0; have t2 : 0 ≤ y656.toInt := b669; have t3 : y656.toInt ≤ x5.toInt + 1 := b682; omega)), (show x5.toInt ≤ t3_1.toInt + 10 from (by have t1 : 0 ≤ t3_1.toInt ∧ t3_1.toInt ≤ 1 := btt3_1; have t2 : y656.toInt ≤ 1 := b670; have t3 : x5.toInt ≤ y656.toInt + 9 := b681; omega)), (show t3_1.toInt ≤ x5.toInt + 2 from (by have t1 : 0 ≤ t3_1.toInt ∧ t3_1.toInt ≤ 1 := btt3_1; have t2 : 0 ≤ y656.toInt := b669; have t3 : y656.toInt ≤ x5.toInt + 1 := b682; omega)), (show t3_1.toInt ≤ t3_1.toInt from (by omega)), (show x5.toInt ≤ y655.toInt + 10 from (by first | with_reducible exact q_fe b679 | (have t1 : x5.toInt ≤ y655.toInt + 9 := b679; omega))), (show y655.toInt ≤ x5.toInt + 221 from (by first | with_reducible exact q_fe b680 | (have t1 : y655.toInt ≤ x5.toInt + 220 := b680; omega))), (show x5.toInt ≤ y656.toInt + 10 from (by first | with_reducible exact q_fe b681 | (have t1 : x5.toInt ≤ y656.toInt + 9 := b681; omega))), (show y656.toInt ≤ x5.toInt + 2 from (by first | with_reducible exact q_fe b682 | (have t1 : y656.toInt ≤ x5.toInt + 1 := b682; omega))), (show x5.toInt ≤ t7_0.toInt + 10 from (by have t1 : 0 ≤ t7_0.toInt ∧ t7_0.toInt ≤ 220 := btt7_0; have t2 : y656.toInt ≤ 1 := b670; have t3 : x5.toInt ≤ y656.toInt + 9 := b681; omega)), (show t7_0.toInt ≤ x5.toInt + 221 from (by have t1 : 0 ≤ t7_0.toInt ∧ t7_0.toInt ≤ 220 := btt7_0; have t2 : 0 ≤ y656.toInt := b669; have t3 : y656.toInt ≤ x5.toInt + 1 := b682; omega)), (show t7_1.toInt ≤ x3.toInt + 2 from (by have t1 : 0 ≤ t7_1.toInt ∧ t7_1.toInt ≤ 1 := btt7_1; have t2 : 0 ≤ y589.toInt := b596; have t3 : y589.toInt ≤ x3.toInt + 1 := b607; omega)), (show x5.toInt ≤ t7_1.toInt + 10 from (by have t1 : 0 ≤ t7_1.toInt ∧ t7_1.toInt ≤ 1 := btt7_1; have t2 : y656.toInt ≤ 1 := b670; have t3 : x5.toInt ≤ y656.toInt + 9 := b681; omega)), (show t7_1.toInt ≤ x5.toInt + 2 from (by have t1 : 0 ≤ t7_1.toInt ∧ t7_1.toInt ≤ 1 := btt7_1; have t2 : 0 ≤ y656.toInt := b669; have t3 : y656.toInt ≤ x5.toInt + 1 := b682; omega)), (show t7_1.toInt ≤ t16_1.toInt + 1 from (by have t1 : 0 ≤ t7_1.toInt ∧ t7_1.toInt ≤ 1 := btt7_1; have t2 : 0 ≤ t16_1.toInt ∧ t16_1.toInt ≤ 1 := btt16_1; omega)), (show x5.toInt ≤ t9_0.toInt + 10 from (by have t1 : 0 ≤ t9_0.toInt ∧ t9_0.toInt ≤ 220 := btt9_0; have t2 : y656.toInt ≤ 1 := b670; have t3 : x5.toInt ≤ y656.toInt + 9 := b681; omega)), (show t9_0.toInt ≤ x5.toInt + 221 from (by have t1 : 0 ≤ t9_0.toInt ∧ t9_0.toInt ≤ 220 := btt9_0; have t2 : 0 ≤ y656.toInt := b669; have t3 : y656.toInt ≤ x5.toInt + 1 := b682; omega)), (show x5.toInt ≤ t9_1.toInt + 10 from (by have t1 : 0 ≤ t9_1.toInt ∧ t9_1.toInt ≤ 1 := btt9_1; have t2 : y656.toInt ≤ 1 := b670; have t3 : x5.toInt ≤ y656.toInt + 9 := b681; omega)), (show t9_1.toInt ≤ x5.toInt + 2 from (by have t1 : 0 ≤ t9_1.toInt ∧ t9_1.toInt ≤ 1 := btt9_1; have t2 : 0 ≤ y656.toInt := b669; have t3 : y656.toInt ≤ x5.toInt + 1 := b682; omega)), (show x5.toInt ≤ t18_0.toInt + 10 from (by have t1 : 0 ≤ t18_0.toInt ∧ t18_0.toInt ≤ 68 := btt18_0; have t2 : y656.toInt ≤ 1 := b670; have t3 : x5.toInt ≤ y656.toInt + 9 := b681; omega)), (show t18_0.toInt ≤ x5.toInt + 69 from (by have t1 : 0 ≤ t18_0.toInt ∧ t18_0.toInt ≤ 68 := btt18_0; have t2 : 0 ≤ y656.toInt := b669; have t3 : y656.toInt ≤ x5.toInt + 1 := b682; omega)), (show x5.toInt ≤ t18_1.toInt + 10 from (by have t1 : 0 ≤ t18_1.toInt ∧ t18_1.toInt ≤ 1 := btt18_1; have t2 : y656.toInt ≤ 1 := b670; have t3 : x5.toInt ≤ y656.toInt + 9 := b681; omega)), (show t18_1.toInt ≤ x5.toInt + 2 from (by have t1 : 0 ≤ t18_1.toInt ∧ t18_1.toInt ≤ 1 := btt18_1; have t2 : 0 ≤ y656.toInt := b669; have t3 : y656.toInt ≤ x5.toInt + 1 := b682; omega)), (show x5.toInt ≤ y660.toInt + 10010 from (by first | with_reducible exact q_fe b683 | (have t1 : x5.toInt ≤ y660.toInt + 10009 := b683; omega))), (show y660.toInt ≤ x5.toInt + 10001 from (by first | with_reducible exact q_fe b684 | (have t1 : y660.toInt ≤ x5.toInt + 10000 := b684; omega))), (show x5.toInt ≤ y661.toInt + 9 from (by first | with_reducible exact q_fe b685 | (have t1 : x5.toInt ≤ y661.toInt + 8 := b685; omega))), (show y661.toInt ≤ x5.toInt + 1001 from (by first | with_reducible exact q_fe b686 | (have t1 : y661.toInt ≤ x5.toInt + 1000 := b686; omega))), (show x5.toInt ≤ y663.toInt + 10 from (by first | with_reducible exact q_fe b687 | (have t1 : x5.toInt ≤ y663.toInt + 9 := b687; omega))), (show y663.toInt ≤ x5.toInt + 109 from (by first | with_reducible exact q_fe b688 | (have t1 : y663.toInt ≤ x5.toInt + 108 := b688; omega))), (show x5.toInt ≤ y664.toInt + 10 from (by first | with_reducible exact q_fe b689 | (have t1 : x5.toInt ≤ y664.toInt + 9 := b689; omega))), (show y664.toInt ≤ x5.toInt + 2 from (by first | with_reducible exact q_fe b690 | (have t1 : y664.toInt ≤ x5.toInt + 1 := b690; omega))), (show ((0 : Int32), y585, y586, y588, y589, f590, t3_0, t3_1, t4_0, y655, y656, f657, t7_0, t7_1, t8_0, t9_0, t9_1, t10_0, t11_0, t12_0, t18_0, t18_1, t19_0, y660, y661, y663, y664, f665) = (F_NH_convert x2 x3 x4 x5 t0_0 t0_1 t1_0 t1_1 t2_0 t3_0 t3_1 t4_0 t5_0 t5_1 t6_0 t7_0 t7_1 t8_0 t9_0 t9_1 t10_0 t11_0 t12_0 t13_0 t13_1 t14_0 t15_0 t15_1 t16_0 t16_1 t17_0 t18_0 t18_1 t19_0 t20_0 t20_1 t21_0 t21_1 t22_0) from Eq.trans (by rw [e701, e700, e699, e698, e697, e696, e695, e694, F_NH_convert_c44.eq_1, if_pos c640]) hR649)⟩) d_1_16_69)
      ·
        refine lv_aload_n hx hb d_1_16_15 rfl (lv_at hl 0 rfl) ?_
        refine lv_iload_n hx hb d_1_16_16 rfl (lv_at hl 1 rfl) ?_
        refine lv_iload_n hx hb d_1_16_17 rfl (lv_at hl 2 rfl) ?_
        have ob703 : True ∧ S_NH_makeWhole x2 x3 t0_0 t0_1 t1_0 t1_1 t2_0 t11_0 t12_0 t13_0 t13_1 t14_0 t15_0 t15_1 t16_0 t16_1 t17_0 := (by have h := hS; rw [S_NH_convert.eq_1] at h; rw [if_pos c97] at h; rw [if_pos c106] at h; rw [if_pos c109] at h; with_reducible exact h.2.1)
        have hO704 := n_o0 hI
        refine q_goxv V (q_runVX (As := [.int x2, .int x3]) (rest := []) (d := 8) (mc := 1) (ms := 6) (ci := 0) C0 V rfl LV_NH_317 (X_NH_makeWhole l D g q ws  x2 x3 k3 hBk3 yk3 gk3x3 d3 hBd3 yd3 gd3x3 (by have z := ne_k3_d3; omega) (by have z := ne_k3_d3p1; omega) (by have z := ne_k3_d3p2; omega) (by have z := ne_d3_k3p1; omega) hlt hI t0_0 t0_1 hT0 t1_0 t1_1 hT1 t2_0 hT2 t11_0 hT11 t12_0 hT12 t13_0 t13_1 hT13 t14_0 hT14 t15_0 t15_1 hT15 t16_0 t16_1 hT16 t17_0 hT17 ob703 _) rfl rfl hO704 rfl hl.1 rfl (Nat.le_of_ble_eq_true rfl) ⟨by decide, by decide⟩ ⟨Nat.le_of_ble_eq_true rfl, Nat.le_of_ble_eq_true rfl⟩ d_1_16_18) (fun qx Ex ce u705 H locs hp706 V hce hcv hcl => ?_) (fun u705 H locs hp706 V => ?_)
        ·
          obtain ⟨cx713, hZ9⟩ := hp706
          obtain ⟨he714, hZ9⟩ := hZ9
          obtain ⟨hc715, hZ9⟩ := hZ9
          obtain ⟨hI, hZ9⟩ := hZ9
          obtain ⟨hu716, hZ9⟩ := hZ9
          obtain ⟨y708, hZ9⟩ := hZ9
          obtain ⟨y709, hZ9⟩ := hZ9
          obtain ⟨f710, hZ9⟩ := hZ9
          obtain ⟨hO707, hZ9⟩ := hZ9
          obtain ⟨hA711, hE712⟩ := hZ9
          replace hO707 : u705[10]? = (some (q 10, .inr (2, [.ref (q 11), .int y708, .int y709])) : Option (Nat × va_E)) := hO707
          replace hA711 : u705[11]? = (some (q 11, .inl (g 0, (220 : Int32).toNatClampNeg, .inl f710)) : Option (Nat × va_E)) := hA711
          obtain ⟨p717, e718⟩ : ∃ z, z = (F_NH_makeWhole x2 x3 t0_0 t0_1 t1_0 t1_1 t2_0 t11_0 t12_0 t13_0 t13_1 t14_0 t15_0 t15_1 t16_0 t16_1 t17_0) := ⟨_, rfl⟩
          have c719 : ¬ p717.1 = (0 : Int32) := fun z => hc715 (((congrArg (fun z => z.1) (hE712.trans e718.symm)) : cx713 = _).trans z)
          have e720 : y708 = p717.2.1 := congrArg (fun z => z.2.1) (hE712.trans e718.symm)
          have e721 : y709 = p717.2.2.1 := congrArg (fun z => z.2.2.1) (hE712.trans e718.symm)
          have e722 : f710 = p717.2.2.2 := congrArg (fun z => z.2.2.2) (hE712.trans e718.symm)
          replace hT0 := (hu716 _ (by decide)).trans hT0
          replace hT3 := (hu716 _ (by decide)).trans hT3
          replace hT4 := (hu716 _ (by decide)).trans hT4
          replace hT5 := (hu716 _ (by decide)).trans hT5
          replace hT6 := (hu716 _ (by decide)).trans hT6
          replace hT7 := (hu716 _ (by decide)).trans hT7
          replace hT8 := (hu716 _ (by decide)).trans hT8
          replace hT9 := (hu716 _ (by decide)).trans hT9
          replace hT10 := (hu716 _ (by decide)).trans hT10
          replace hT11 := (hu716 _ (by decide)).trans hT11
          replace hT12 := (hu716 _ (by decide)).trans hT12
          replace hT18 := (hu716 _ (by have z0 := yk5; simp only [List.mem_cons, List.not_mem_nil, or_false, not_or]; omega)).trans hT18
          replace hT19 := (hu716 _ (by have z0 := yk5; simp only [List.mem_cons, List.not_mem_nil, or_false, not_or]; omega)).trans hT19
          replace hT20 := (hu716 _ (by have z0 := yd5; simp only [List.mem_cons, List.not_mem_nil, or_false, not_or]; omega)).trans hT20
          replace hT21 := (hu716 _ (by have z0 := yd5; simp only [List.mem_cons, List.not_mem_nil, or_false, not_or]; omega)).trans hT21
          replace hT22 := (hu716 _ (by have z0 := yd5; simp only [List.mem_cons, List.not_mem_nil, or_false, not_or]; omega)).trans hT22
          replace hF := q_uc hF hu716 (by simp)
          have hR723 := (show F_NH_convert_c18 x2 x3 x4 x5 t0_0 t0_1 t1_0 t1_1 t2_0 t3_0 t3_1 t4_0 t5_0 t5_1 t6_0 t7_0 t7_1 t8_0 t9_0 t9_1 t10_0 t11_0 t12_0 t13_0 t13_1 t14_0 t15_0 t15_1 t16_0 t16_1 t17_0 t18_0 t18_1 t19_0 t20_0 t20_1 t21_0 t21_1 t22_0 p717 = (F_NH_convert x2 x3 x4 x5 t0_0 t0_1 t1_0 t1_1 t2_0 t3_0 t3_1 t4_0 t5_0 t5_1 t6_0 t7_0 t7_1 t8_0 t9_0 t9_1 t10_0 t11_0 t12_0 t13_0 t13_1 t14_0 t15_0 t15_1 t16_0 t16_1 t17_0 t18_0 t18_1 t19_0 t20_0 t20_1 t21_0 t21_1 t22_0) from (by rw [e718, F_NH_convert.eq_1, if_pos c97, if_pos c106, if_pos c109]))
          have hS724 := (show True ∧ S_NH_convert_c18 x2 x3 x4 x5 t0_0 t0_1 t1_0 t1_1 t2_0 t3_0 t3_1 t4_0 t5_0 t5_1 t6_0 t7_0 t7_1 t8_0 t9_0 t9_1 t10_0 t11_0 t12_0 t13_0 t13_1 t14_0 t15_0 t15_1 t16_0 t16_1 t17_0 t18_0 t18_1 t19_0 t20_0 t20_1 t21_0 t21_1 t22_0 p717 from (by rw [e718]; have h := hS; rw [S_NH_convert.eq_1] at h; rw [if_pos c97] at h; rw [if_pos c106] at h; rw [if_pos c109] at h; replace h := q_s2 h; with_reducible exact h))
          exact q_outT hno C0 V (⟨p717.1, (he714.trans (congrArg qE ((congrArg (fun z => z.1) (hE712.trans e718.symm)) : cx713 = _))), c719, hI, hF, t0_0, t0_1, y708, y709, f710, t3_0, t3_1, t4_0, t5_0, t5_1, t6_0, t7_0, t7_1, t8_0, t9_0, t9_1, t10_0, t11_0, t12_0, t18_0, t18_1, t19_0, t20_0, t20_1, t21_0, t21_1, t22_0, hT0, hO707, hA711, hT3, hT4, hT5, hT6, hT7, hT8, hT9, hT10, hT11, hT12, hT18, hT19, hT20, hT21, hT22, (show (p717.1, t0_0, t0_1, y708, y709, f710, t3_0, t3_1, t4_0, t5_0, t5_1, t6_0, t7_0, t7_1, t8_0, t9_0, t9_1, t10_0, t11_0, t12_0, t18_0, t18_1, t19_0, t20_0, t20_1, t21_0, t21_1, t22_0) = (F_NH_convert x2 x3 x4 x5 t0_0 t0_1 t1_0 t1_1 t2_0 t3_0 t3_1 t4_0 t5_0 t5_1 t6_0 t7_0 t7_1 t8_0 t9_0 t9_1 t10_0 t11_0 t12_0 t13_0 t13_1 t14_0 t15_0 t15_1 t16_0 t16_1 t17_0 t18_0 t18_1 t19_0 t20_0 t20_1 t21_0 t21_1 t22_0) from Eq.trans (by rw [e722, e721, e720, F_NH_convert_c18.eq_1, if_neg c719]) hR723)⟩) hce hcv hcl (Nat.le_of_ble_eq_true rfl) (Nat.le_of_ble_eq_true rfl)
        ·
          obtain ⟨hI, hZ9⟩ := hp706
          obtain ⟨hu742, hZ9⟩ := hZ9
          obtain ⟨y729, hZ9⟩ := hZ9
          obtain ⟨y730, hZ9⟩ := hZ9
          obtain ⟨f731, hZ9⟩ := hZ9
          obtain ⟨hO728, hZ9⟩ := hZ9
          obtain ⟨hA732, hZ9⟩ := hZ9
          obtain ⟨b733, hZ9⟩ := hZ9
          obtain ⟨b734, hZ9⟩ := hZ9
          obtain ⟨b735, hZ9⟩ := hZ9
          obtain ⟨b736, hZ9⟩ := hZ9
          obtain ⟨b737, hZ9⟩ := hZ9
          obtain ⟨b738, hZ9⟩ := hZ9
          obtain ⟨b739, hZ9⟩ := hZ9
          obtain ⟨b740, hE741⟩ := hZ9
          replace hO728 : u705[10]? = (some (q 10, .inr (2, [.ref (q 11), .int y729, .int y730])) : Option (Nat × va_E)) := hO728
          replace hA732 : u705[11]? = (some (q 11, .inl (g 0, (220 : Int32).toNatClampNeg, .inl f731)) : Option (Nat × va_E)) := hA732
          obtain ⟨p717, e718⟩ : ∃ z, z = (F_NH_makeWhole x2 x3 t0_0 t0_1 t1_0 t1_1 t2_0 t11_0 t12_0 t13_0 t13_1 t14_0 t15_0 t15_1 t16_0 t16_1 t17_0) := ⟨_, rfl⟩
          have c719 : p717.1 = (0 : Int32) := ((congrArg (fun z => z.1) (hE741.trans e718.symm)) : (0 : Int32) = _).symm
          have e744 : y729 = p717.2.1 := congrArg (fun z => z.2.1) (hE741.trans e718.symm)
          have e745 : y730 = p717.2.2.1 := congrArg (fun z => z.2.2.1) (hE741.trans e718.symm)
          have e746 : f731 = p717.2.2.2 := congrArg (fun z => z.2.2.2) (hE741.trans e718.symm)
          replace b733 : q_F (0 ≤ y729.toInt) := b733
          replace b734 : q_F (y729.toInt ≤ 220) := b734
          replace b735 : q_F (0 ≤ y730.toInt) := b735
          replace b736 : q_F (y730.toInt ≤ 1) := b736
          replace b737 : q_F (x3.toInt ≤ y729.toInt + 9) := b737
          replace b738 : q_F (y729.toInt ≤ x3.toInt + 220) := b738
          replace b739 : q_F (x3.toInt ≤ y730.toInt + 9) := b739
          replace b740 : q_F (y730.toInt ≤ x3.toInt + 1) := b740
          replace hT0 := (hu742 _ (by decide)).trans hT0
          replace hT3 := (hu742 _ (by decide)).trans hT3
          replace hT4 := (hu742 _ (by decide)).trans hT4
          replace hT5 := (hu742 _ (by decide)).trans hT5
          replace hT6 := (hu742 _ (by decide)).trans hT6
          replace hT7 := (hu742 _ (by decide)).trans hT7
          replace hT8 := (hu742 _ (by decide)).trans hT8
          replace hT9 := (hu742 _ (by decide)).trans hT9
          replace hT10 := (hu742 _ (by decide)).trans hT10
          replace hT11 := (hu742 _ (by decide)).trans hT11
          replace hT12 := (hu742 _ (by decide)).trans hT12
          replace hT18 := (hu742 _ (by have z0 := yk5; simp only [List.mem_cons, List.not_mem_nil, or_false, not_or]; omega)).trans hT18
          replace hT19 := (hu742 _ (by have z0 := yk5; simp only [List.mem_cons, List.not_mem_nil, or_false, not_or]; omega)).trans hT19
          replace hT20 := (hu742 _ (by have z0 := yd5; simp only [List.mem_cons, List.not_mem_nil, or_false, not_or]; omega)).trans hT20
          replace hT21 := (hu742 _ (by have z0 := yd5; simp only [List.mem_cons, List.not_mem_nil, or_false, not_or]; omega)).trans hT21
          replace hT22 := (hu742 _ (by have z0 := yd5; simp only [List.mem_cons, List.not_mem_nil, or_false, not_or]; omega)).trans hT22
          replace hO704 := (hu742 _ (by decide)).trans hO704
          replace hF := q_uc hF hu742 (by simp)
          have hR723 := (show F_NH_convert_c18 x2 x3 x4 x5 t0_0 t0_1 t1_0 t1_1 t2_0 t3_0 t3_1 t4_0 t5_0 t5_1 t6_0 t7_0 t7_1 t8_0 t9_0 t9_1 t10_0 t11_0 t12_0 t13_0 t13_1 t14_0 t15_0 t15_1 t16_0 t16_1 t17_0 t18_0 t18_1 t19_0 t20_0 t20_1 t21_0 t21_1 t22_0 p717 = (F_NH_convert x2 x3 x4 x5 t0_0 t0_1 t1_0 t1_1 t2_0 t3_0 t3_1 t4_0 t5_0 t5_1 t6_0 t7_0 t7_1 t8_0 t9_0 t9_1 t10_0 t11_0 t12_0 t13_0 t13_1 t14_0 t15_0 t15_1 t16_0 t16_1 t17_0 t18_0 t18_1 t19_0 t20_0 t20_1 t21_0 t21_1 t22_0) from (by rw [e718, F_NH_convert.eq_1, if_pos c97, if_pos c106, if_pos c109]))
          have hS724 := (show True ∧ S_NH_convert_c18 x2 x3 x4 x5 t0_0 t0_1 t1_0 t1_1 t2_0 t3_0 t3_1 t4_0 t5_0 t5_1 t6_0 t7_0 t7_1 t8_0 t9_0 t9_1 t10_0 t11_0 t12_0 t13_0 t13_1 t14_0 t15_0 t15_1 t16_0 t16_1 t17_0 t18_0 t18_1 t19_0 t20_0 t20_1 t21_0 t21_1 t22_0 p717 from (by rw [e718]; have h := hS; rw [S_NH_convert.eq_1] at h; rw [if_pos c97] at h; rw [if_pos c106] at h; rw [if_pos c109] at h; replace h := q_s2 h; with_reducible exact h))
          refine lv_aload_n hx hb d_1_16_21 rfl (lv_at hl 0 rfl) ?_
          refine lv_iload hx hb d_1_16_22 (lv_at hl 4 rfl) ?_
          have ob747 : True ∧ S_NH_keepWhole x5 y729 y730 f731 t18_0 t18_1 t19_0 := (by rw [e746, e745, e744]; have h := hS724; rw [S_NH_convert_c18.eq_1] at h; rw [if_pos c719] at h; with_reducible exact h.2.1)
          refine q_goxv V (q_runVX (As := [.int x5]) (rest := []) (d := 8) (mc := 1) (ms := 6) (ci := 0) C0 V rfl LV_NH_243 (X_NH_keepWhole l D g q u705  x5 k5 hBk5 yk5 gk5x5 hlt hI y729 y730 hO728 f731 hA732 t18_0 t18_1 hT18 t19_0 hT19 ob747 _) rfl rfl hO704 rfl hl.1 rfl (Nat.le_of_ble_eq_true rfl) ⟨by decide, by decide⟩ ⟨Nat.le_of_ble_eq_true rfl, Nat.le_of_ble_eq_true rfl⟩ d_1_16_24) (fun qx Ex ce u748 H locs hp749 V hce hcv hcl => ?_) (fun u748 H locs hp749 V => ?_)
          ·
            obtain ⟨cx756, hZ9⟩ := hp749
            obtain ⟨he757, hZ9⟩ := hZ9
            obtain ⟨hc758, hZ9⟩ := hZ9
            obtain ⟨hI, hZ9⟩ := hZ9
            obtain ⟨hu759, hZ9⟩ := hZ9
            obtain ⟨y751, hZ9⟩ := hZ9
            obtain ⟨y752, hZ9⟩ := hZ9
            obtain ⟨f753, hZ9⟩ := hZ9
            obtain ⟨hO750, hZ9⟩ := hZ9
            obtain ⟨hA754, hE755⟩ := hZ9
            replace hO750 : u748[k5]? = (some (q k5, .inr (2, [.ref (q (k5 + 1)), .int y751, .int y752])) : Option (Nat × va_E)) := hO750
            replace hA754 : u748[k5 + 1]? = (some (q (k5 + 1), .inl (g 0, (68 : Int32).toNatClampNeg, .inl f753)) : Option (Nat × va_E)) := hA754
            obtain ⟨p760, e761⟩ : ∃ z, z = (F_NH_keepWhole x5 y729 y730 f731 t18_0 t18_1 t19_0) := ⟨_, rfl⟩
            have c762 : ¬ p760.1 = (0 : Int32) := fun z => hc758 (((congrArg (fun z => z.1) (hE755.trans e761.symm)) : cx756 = _).trans z)
            have e763 : y751 = p760.2.1 := congrArg (fun z => z.2.1) (hE755.trans e761.symm)
            have e764 : y752 = p760.2.2.1 := congrArg (fun z => z.2.2.1) (hE755.trans e761.symm)
            have e765 : f753 = p760.2.2.2 := congrArg (fun z => z.2.2.2) (hE755.trans e761.symm)
            replace hT0 := (hu759 _ (by have z0 := yk5; simp only [List.mem_cons, List.not_mem_nil, or_false, not_or]; omega)).trans hT0
            replace hO728 := (hu759 _ (by have z0 := yk5; simp only [List.mem_cons, List.not_mem_nil, or_false, not_or]; omega)).trans hO728
            replace hA732 := (hu759 _ (by have z0 := yk5; simp only [List.mem_cons, List.not_mem_nil, or_false, not_or]; omega)).trans hA732
            replace hT3 := (hu759 _ (by have z0 := yk5; simp only [List.mem_cons, List.not_mem_nil, or_false, not_or]; omega)).trans hT3
            replace hT4 := (hu759 _ (by have z0 := yk5; simp only [List.mem_cons, List.not_mem_nil, or_false, not_or]; omega)).trans hT4
            replace hT5 := (hu759 _ (by have z0 := yk5; simp only [List.mem_cons, List.not_mem_nil, or_false, not_or]; omega)).trans hT5
            replace hT6 := (hu759 _ (by have z0 := yk5; simp only [List.mem_cons, List.not_mem_nil, or_false, not_or]; omega)).trans hT6
            replace hT7 := (hu759 _ (by have z0 := yk5; simp only [List.mem_cons, List.not_mem_nil, or_false, not_or]; omega)).trans hT7
            replace hT8 := (hu759 _ (by have z0 := yk5; simp only [List.mem_cons, List.not_mem_nil, or_false, not_or]; omega)).trans hT8
            replace hT9 := (hu759 _ (by have z0 := yk5; simp only [List.mem_cons, List.not_mem_nil, or_false, not_or]; omega)).trans hT9
            replace hT10 := (hu759 _ (by have z0 := yk5; simp only [List.mem_cons, List.not_mem_nil, or_false, not_or]; omega)).trans hT10
            replace hT11 := (hu759 _ (by have z0 := yk5; simp only [List.mem_cons, List.not_mem_nil, or_false, not_or]; omega)).trans hT11
            replace hT12 := (hu759 _ (by have z0 := yk5; simp only [List.mem_cons, List.not_mem_nil, or_false, not_or]; omega)).trans hT12
            replace hT20 := (hu759 _ (q_nc (by have z := ne_k5_d5; omega) (q_nc (by have z := ne_d5_k5p1; omega) List.not_mem_nil))).trans hT20
            replace hT21 := (hu759 _ (q_nc (by have z := ne_k5_d5p1; omega) (q_nc (by have z := ne_k5_d5; omega) List.not_mem_nil))).trans hT21
            replace hT22 := (hu759 _ (q_nc (by have z := ne_k5_d5p2; omega) (q_nc (by have z := ne_k5_d5p1; omega) List.not_mem_nil))).trans hT22
            replace hF := q_uc hF hu759 (by simp)
            have hR766 := (show F_NH_convert_c24 x2 x3 x4 x5 t0_0 t0_1 t1_0 t1_1 t2_0 t3_0 t3_1 t4_0 t5_0 t5_1 t6_0 t7_0 t7_1 t8_0 t9_0 t9_1 t10_0 t11_0 t12_0 t13_0 t13_1 t14_0 t15_0 t15_1 t16_0 t16_1 t17_0 t18_0 t18_1 t19_0 t20_0 t20_1 t21_0 t21_1 t22_0 p717 y729 y730 f731 p760 = (F_NH_convert x2 x3 x4 x5 t0_0 t0_1 t1_0 t1_1 t2_0 t3_0 t3_1 t4_0 t5_0 t5_1 t6_0 t7_0 t7_1 t8_0 t9_0 t9_1 t10_0 t11_0 t12_0 t13_0 t13_1 t14_0 t15_0 t15_1 t16_0 t16_1 t17_0 t18_0 t18_1 t19_0 t20_0 t20_1 t21_0 t21_1 t22_0) from Eq.trans (by rw [e761, e746, e745, e744, F_NH_convert_c18.eq_1, if_pos c719]) hR723)
            have hS767 := (show True ∧ S_NH_convert_c24 x2 x3 x4 x5 t0_0 t0_1 t1_0 t1_1 t2_0 t3_0 t3_1 t4_0 t5_0 t5_1 t6_0 t7_0 t7_1 t8_0 t9_0 t9_1 t10_0 t11_0 t12_0 t13_0 t13_1 t14_0 t15_0 t15_1 t16_0 t16_1 t17_0 t18_0 t18_1 t19_0 t20_0 t20_1 t21_0 t21_1 t22_0 p717 y729 y730 f731 p760 from (by rw [e761, e746, e745, e744]; have h := hS724; rw [S_NH_convert_c18.eq_1] at h; rw [if_pos c719] at h; replace h := q_s2 h; with_reducible exact h))
            exact q_outT hno C0 V (⟨p760.1, (he757.trans (congrArg qE ((congrArg (fun z => z.1) (hE755.trans e761.symm)) : cx756 = _))), c762, hI, hF, t0_0, t0_1, y729, y730, f731, t3_0, t3_1, t4_0, t5_0, t5_1, t6_0, t7_0, t7_1, t8_0, t9_0, t9_1, t10_0, t11_0, t12_0, y751, y752, f753, t20_0, t20_1, t21_0, t21_1, t22_0, hT0, hO728, hA732, hT3, hT4, hT5, hT6, hT7, hT8, hT9, hT10, hT11, hT12, hO750, hA754, hT20, hT21, hT22, (show (p760.1, t0_0, t0_1, y729, y730, f731, t3_0, t3_1, t4_0, t5_0, t5_1, t6_0, t7_0, t7_1, t8_0, t9_0, t9_1, t10_0, t11_0, t12_0, y751, y752, f753, t20_0, t20_1, t21_0, t21_1, t22_0) = (F_NH_convert x2 x3 x4 x5 t0_0 t0_1 t1_0 t1_1 t2_0 t3_0 t3_1 t4_0 t5_0 t5_1 t6_0 t7_0 t7_1 t8_0 t9_0 t9_1 t10_0 t11_0 t12_0 t13_0 t13_1 t14_0 t15_0 t15_1 t16_0 t16_1 t17_0 t18_0 t18_1 t19_0 t20_0 t20_1 t21_0 t21_1 t22_0) from Eq.trans (by rw [e765, e764, e763, F_NH_convert_c24.eq_1, if_neg c762]) hR766)⟩) hce hcv hcl (Nat.le_of_ble_eq_true rfl) (Nat.le_of_ble_eq_true rfl)
          ·
            obtain ⟨hI, hZ9⟩ := hp749
            obtain ⟨hu786, hZ9⟩ := hZ9
            obtain ⟨y772, hZ9⟩ := hZ9
            obtain ⟨y773, hZ9⟩ := hZ9
            obtain ⟨f774, hZ9⟩ := hZ9
            obtain ⟨hO771, hZ9⟩ := hZ9
            obtain ⟨hA775, hZ9⟩ := hZ9
            obtain ⟨b776, hZ9⟩ := hZ9
            obtain ⟨b777, hZ9⟩ := hZ9
            obtain ⟨b778, hZ9⟩ := hZ9
            obtain ⟨b779, hZ9⟩ := hZ9
            obtain ⟨b780, hZ9⟩ := hZ9
            obtain ⟨b781, hZ9⟩ := hZ9
            obtain ⟨b782, hZ9⟩ := hZ9
            obtain ⟨b783, hZ9⟩ := hZ9
            obtain ⟨b784, hE785⟩ := hZ9
            replace hO771 : u748[k5]? = (some (q k5, .inr (2, [.ref (q (k5 + 1)), .int y772, .int y773])) : Option (Nat × va_E)) := hO771
            replace hA775 : u748[k5 + 1]? = (some (q (k5 + 1), .inl (g 0, (68 : Int32).toNatClampNeg, .inl f774)) : Option (Nat × va_E)) := hA775
            obtain ⟨p760, e761⟩ : ∃ z, z = (F_NH_keepWhole x5 y729 y730 f731 t18_0 t18_1 t19_0) := ⟨_, rfl⟩
            have c762 : p760.1 = (0 : Int32) := ((congrArg (fun z => z.1) (hE785.trans e761.symm)) : (0 : Int32) = _).symm
            have e788 : y772 = p760.2.1 := congrArg (fun z => z.2.1) (hE785.trans e761.symm)
            have e789 : y773 = p760.2.2.1 := congrArg (fun z => z.2.2.1) (hE785.trans e761.symm)
            have e790 : f774 = p760.2.2.2 := congrArg (fun z => z.2.2.2) (hE785.trans e761.symm)
            replace b776 : q_F (0 ≤ y772.toInt) := b776
            replace b777 : q_F (y772.toInt ≤ 68) := b777
            replace b778 : q_F (x5.toInt ≤ y772.toInt + 9) := b778
            replace b779 : q_F (y772.toInt ≤ x5.toInt + 68) := b779
            replace b780 : q_F (y772.toInt ≤ y729.toInt) := b780
            replace b781 : q_F (x5.toInt ≤ y773.toInt + 9) := b781
            replace b782 : q_F (y773.toInt ≤ x5.toInt + 1) := b782
            replace b783 : q_F (y730.toInt ≤ y773.toInt) := b783
            replace b784 : q_F (y773.toInt ≤ y730.toInt) := b784
            replace hT0 := (hu786 _ (by have z0 := yk5; simp only [List.mem_cons, List.not_mem_nil, or_false, not_or]; omega)).trans hT0
            replace hO728 := (hu786 _ (by have z0 := yk5; simp only [List.mem_cons, List.not_mem_nil, or_false, not_or]; omega)).trans hO728
            replace hA732 := (hu786 _ (by have z0 := yk5; simp only [List.mem_cons, List.not_mem_nil, or_false, not_or]; omega)).trans hA732
            replace hT3 := (hu786 _ (by have z0 := yk5; simp only [List.mem_cons, List.not_mem_nil, or_false, not_or]; omega)).trans hT3
            replace hT4 := (hu786 _ (by have z0 := yk5; simp only [List.mem_cons, List.not_mem_nil, or_false, not_or]; omega)).trans hT4
            replace hT5 := (hu786 _ (by have z0 := yk5; simp only [List.mem_cons, List.not_mem_nil, or_false, not_or]; omega)).trans hT5
            replace hT6 := (hu786 _ (by have z0 := yk5; simp only [List.mem_cons, List.not_mem_nil, or_false, not_or]; omega)).trans hT6
            replace hT7 := (hu786 _ (by have z0 := yk5; simp only [List.mem_cons, List.not_mem_nil, or_false, not_or]; omega)).trans hT7
            replace hT8 := (hu786 _ (by have z0 := yk5; simp only [List.mem_cons, List.not_mem_nil, or_false, not_or]; omega)).trans hT8
            replace hT9 := (hu786 _ (by have z0 := yk5; simp only [List.mem_cons, List.not_mem_nil, or_false, not_or]; omega)).trans hT9
            replace hT10 := (hu786 _ (by have z0 := yk5; simp only [List.mem_cons, List.not_mem_nil, or_false, not_or]; omega)).trans hT10
            replace hT11 := (hu786 _ (by have z0 := yk5; simp only [List.mem_cons, List.not_mem_nil, or_false, not_or]; omega)).trans hT11
            replace hT12 := (hu786 _ (by have z0 := yk5; simp only [List.mem_cons, List.not_mem_nil, or_false, not_or]; omega)).trans hT12
            replace hT20 := (hu786 _ (q_nc (by have z := ne_k5_d5; omega) (q_nc (by have z := ne_d5_k5p1; omega) List.not_mem_nil))).trans hT20
            replace hT21 := (hu786 _ (q_nc (by have z := ne_k5_d5p1; omega) (q_nc (by have z := ne_k5_d5; omega) List.not_mem_nil))).trans hT21
            replace hT22 := (hu786 _ (q_nc (by have z := ne_k5_d5p2; omega) (q_nc (by have z := ne_k5_d5p1; omega) List.not_mem_nil))).trans hT22
            replace hF := q_uc hF hu786 (by simp)
            have hR766 := (show F_NH_convert_c24 x2 x3 x4 x5 t0_0 t0_1 t1_0 t1_1 t2_0 t3_0 t3_1 t4_0 t5_0 t5_1 t6_0 t7_0 t7_1 t8_0 t9_0 t9_1 t10_0 t11_0 t12_0 t13_0 t13_1 t14_0 t15_0 t15_1 t16_0 t16_1 t17_0 t18_0 t18_1 t19_0 t20_0 t20_1 t21_0 t21_1 t22_0 p717 y729 y730 f731 p760 = (F_NH_convert x2 x3 x4 x5 t0_0 t0_1 t1_0 t1_1 t2_0 t3_0 t3_1 t4_0 t5_0 t5_1 t6_0 t7_0 t7_1 t8_0 t9_0 t9_1 t10_0 t11_0 t12_0 t13_0 t13_1 t14_0 t15_0 t15_1 t16_0 t16_1 t17_0 t18_0 t18_1 t19_0 t20_0 t20_1 t21_0 t21_1 t22_0) from Eq.trans (by rw [e761, e746, e745, e744, F_NH_convert_c18.eq_1, if_pos c719]) hR723)
            have hS767 := (show True ∧ S_NH_convert_c24 x2 x3 x4 x5 t0_0 t0_1 t1_0 t1_1 t2_0 t3_0 t3_1 t4_0 t5_0 t5_1 t6_0 t7_0 t7_1 t8_0 t9_0 t9_1 t10_0 t11_0 t12_0 t13_0 t13_1 t14_0 t15_0 t15_1 t16_0 t16_1 t17_0 t18_0 t18_1 t19_0 t20_0 t20_1 t21_0 t21_1 t22_0 p717 y729 y730 f731 p760 from (by rw [e761, e746, e745, e744]; have h := hS724; rw [S_NH_convert_c18.eq_1] at h; rw [if_pos c719] at h; replace h := q_s2 h; with_reducible exact h))
            refine lv_goto (tgt := 69) hx hb d_1_16_27 (by decide) ?_
            exact q_retX (q_retv C0 V (⟨hI, hF, t0_0, t0_1, y729, y730, f731, t3_0, t3_1, t4_0, t5_0, t5_1, t6_0, t7_0, t7_1, t8_0, t9_0, t9_1, t10_0, t11_0, t12_0, y772, y773, f774, t20_0, t20_1, t21_0, t21_1, t22_0, hT0, hO728, hA732, hT3, hT4, hT5, hT6, hT7, hT8, hT9, hT10, hT11, hT12, hO771, hA775, hT20, hT21, hT22, (show 0 ≤ t0_1.toInt from (by first | with_reducible exact (q_fe btt0_1).2 | with_reducible exact (q_fe btt0_1).1 | (have t1 : 0 ≤ t0_1.toInt ∧ t0_1.toInt ≤ 1 := btt0_1; omega))), (show t0_1.toInt ≤ 1 from (by first | with_reducible exact (q_fe btt0_1).2 | with_reducible exact (q_fe btt0_1).1 | (have t1 : 0 ≤ t0_1.toInt ∧ t0_1.toInt ≤ 1 := btt0_1; omega))), (show 0 ≤ y729.toInt from (by first | with_reducible exact q_fe b733 | (have t1 : 0 ≤ y729.toInt := b733; omega))), (show y729.toInt ≤ 220 from (by first | with_reducible exact q_fe b734 | (have t1 : y729.toInt ≤ 220 := b734; omega))), (show 0 ≤ y730.toInt from (by first | with_reducible exact q_fe b735 | (have t1 : 0 ≤ y730.toInt := b735; omega))), (show y730.toInt ≤ 1 from (by first | with_reducible exact q_fe b736 | (have t1 : y730.toInt ≤ 1 := b736; omega))), (show 0 ≤ t3_0.toInt from (by first | with_reducible exact (q_fe btt3_0).2 | with_reducible exact (q_fe btt3_0).1 | (have t1 : 0 ≤ t3_0.toInt ∧ t3_0.toInt ≤ 220 := btt3_0; omega))), (show t3_0.toInt ≤ 220 from (by first | with_reducible exact (q_fe btt3_0).2 | with_reducible exact (q_fe btt3_0).1 | (have t1 : 0 ≤ t3_0.toInt ∧ t3_0.toInt ≤ 220 := btt3_0; omega))), (show 0 ≤ t3_1.toInt from (by first | with_reducible exact (q_fe btt3_1).2 | with_reducible exact (q_fe btt3_1).1 | (have t1 : 0 ≤ t3_1.toInt ∧ t3_1.toInt ≤ 1 := btt3_1; omega))), (show t3_1.toInt ≤ 1 from (by first | with_reducible exact (q_fe btt3_1).2 | with_reducible exact (q_fe btt3_1).1 | (have t1 : 0 ≤ t3_1.toInt ∧ t3_1.toInt ≤ 1 := btt3_1; omega))), (show 0 ≤ t5_0.toInt from (by first | with_reducible exact (q_fe btt5_0).2 | with_reducible exact (q_fe btt5_0).1 | (have t1 : 0 ≤ t5_0.toInt ∧ t5_0.toInt ≤ 220 := btt5_0; omega))), (show t5_0.toInt ≤ 220 from (by first | with_reducible exact (q_fe btt5_0).2 | with_reducible exact (q_fe btt5_0).1 | (have t1 : 0 ≤ t5_0.toInt ∧ t5_0.toInt ≤ 220 := btt5_0; omega))), (show 0 ≤ t5_1.toInt from (by first | with_reducible exact (q_fe btt5_1).2 | with_reducible exact (q_fe btt5_1).1 | (have t1 : 0 ≤ t5_1.toInt ∧ t5_1.toInt ≤ 1 := btt5_1; omega))), (show t5_1.toInt ≤ 1 from (by first | with_reducible exact (q_fe btt5_1).2 | with_reducible exact (q_fe btt5_1).1 | (have t1 : 0 ≤ t5_1.toInt ∧ t5_1.toInt ≤ 1 := btt5_1; omega))), (show 0 ≤ t7_0.toInt from (by first | with_reducible exact (q_fe btt7_0).2 | with_reducible exact (q_fe btt7_0).1 | (have t1 : 0 ≤ t7_0.toInt ∧ t7_0.toInt ≤ 220 := btt7_0; omega))), (show t7_0.toInt ≤ 220 from (by first | with_reducible exact (q_fe btt7_0).2 | with_reducible exact (q_fe btt7_0).1 | (have t1 : 0 ≤ t7_0.toInt ∧ t7_0.toInt ≤ 220 := btt7_0; omega))), (show 0 ≤ t7_1.toInt from (by first | with_reducible exact (q_fe btt7_1).2 | with_reducible exact (q_fe btt7_1).1 | (have t1 : 0 ≤ t7_1.toInt ∧ t7_1.toInt ≤ 1 := btt7_1; omega))), (show t7_1.toInt ≤ 2 from (by first | with_reducible exact (q_fe btt7_1).2 | with_reducible exact (q_fe btt7_1).1 | (have t1 : 0 ≤ t7_1.toInt ∧ t7_1.toInt ≤ 1 := btt7_1; omega))), (show 0 ≤ t9_0.toInt from (by first | with_reducible exact (q_fe btt9_0).2 | with_reducible exact (q_fe btt9_0).1 | (have t1 : 0 ≤ t9_0.toInt ∧ t9_0.toInt ≤ 220 := btt9_0; omega))), (show t9_0.toInt ≤ 220 from (by first | with_reducible exact (q_fe btt9_0).2 | with_reducible exact (q_fe btt9_0).1 | (have t1 : 0 ≤ t9_0.toInt ∧ t9_0.toInt ≤ 220 := btt9_0; omega))), (show 0 ≤ t9_1.toInt from (by first | with_reducible exact (q_fe btt9_1).2 | with_reducible exact (q_fe btt9_1).1 | (have t1 : 0 ≤ t9_1.toInt ∧ t9_1.toInt ≤ 1 := btt9_1; omega))), (show t9_1.toInt ≤ 1 from (by first | with_reducible exact (q_fe btt9_1).2 | with_reducible exact (q_fe btt9_1).1 | (have t1 : 0 ≤ t9_1.toInt ∧ t9_1.toInt ≤ 1 := btt9_1; omega))), (show 0 ≤ y772.toInt from (by first | with_reducible exact q_fe b776 | (have t1 : 0 ≤ y772.toInt := b776; omega))), (show y772.toInt ≤ 68 from (by first | with_reducible exact q_fe b777 | (have t1 : y772.toInt ≤ 68 := b777; omega))), (show 0 ≤ y773.toInt from (by have t1 : 0 ≤ y730.toInt := b735; have t2 : y730.toInt ≤ y773.toInt := b783; omega)), (show y773.toInt ≤ 1 from (by have t1 : y730.toInt ≤ 1 := b736; have t2 : y773.toInt ≤ y730.toInt := b784; omega)), (show 0 ≤ t20_0.toInt + 10000 from (by first | with_reducible exact (q_fe btt20_0).2 | with_reducible exact (q_fe btt20_0).1 | (have t1 : -10000 ≤ t20_0.toInt ∧ t20_0.toInt ≤ 10000 := btt20_0; omega))), (show t20_0.toInt ≤ 10000 from (by first | with_reducible exact (q_fe btt20_0).2 | with_reducible exact (q_fe btt20_0).1 | (have t1 : -10000 ≤ t20_0.toInt ∧ t20_0.toInt ≤ 10000 := btt20_0; omega))), (show 1 ≤ t20_1.toInt from (by first | with_reducible exact (q_fe btt20_1).2 | with_reducible exact (q_fe btt20_1).1 | (have t1 : 1 ≤ t20_1.toInt ∧ t20_1.toInt ≤ 1000 := btt20_1; omega))), (show t20_1.toInt ≤ 1000 from (by first | with_reducible exact (q_fe btt20_1).2 | with_reducible exact (q_fe btt20_1).1 | (have t1 : 1 ≤ t20_1.toInt ∧ t20_1.toInt ≤ 1000 := btt20_1; omega))), (show 0 ≤ t21_0.toInt from (by first | with_reducible exact (q_fe btt21_0).2 | with_reducible exact (q_fe btt21_0).1 | (have t1 : 0 ≤ t21_0.toInt ∧ t21_0.toInt ≤ 108 := btt21_0; omega))), (show t21_0.toInt ≤ 108 from (by first | with_reducible exact (q_fe btt21_0).2 | with_reducible exact (q_fe btt21_0).1 | (have t1 : 0 ≤ t21_0.toInt ∧ t21_0.toInt ≤ 108 := btt21_0; omega))), (show 0 ≤ t21_1.toInt from (by first | with_reducible exact (q_fe btt21_1).2 | with_reducible exact (q_fe btt21_1).1 | (have t1 : 0 ≤ t21_1.toInt ∧ t21_1.toInt ≤ 1 := btt21_1; omega))), (show t21_1.toInt ≤ 1 from (by first | with_reducible exact (q_fe btt21_1).2 | with_reducible exact (q_fe btt21_1).1 | (have t1 : 0 ≤ t21_1.toInt ∧ t21_1.toInt ≤ 1 := btt21_1; omega))), (show x5.toInt ≤ t0_1.toInt + 10 from (by have t1 : 0 ≤ t0_1.toInt ∧ t0_1.toInt ≤ 1 := btt0_1; have t2 : y730.toInt ≤ 1 := b736; have t3 : x5.toInt ≤ y773.toInt + 9 := b781; have t4 : y773.toInt ≤ y730.toInt := b784; omega)), (show t0_1.toInt ≤ x5.toInt + 2 from (by have t1 : 0 ≤ t0_1.toInt ∧ t0_1.toInt ≤ 1 := btt0_1; have t2 : 0 ≤ y730.toInt := b735; have t3 : y773.toInt ≤ x5.toInt + 1 := b782; have t4 : y730.toInt ≤ y773.toInt := b783; omega)), (show t0_1.toInt ≤ t0_1.toInt from (by omega)), (show t0_1.toInt ≤ t0_1.toInt from (by omega)), (show x3.toInt ≤ y729.toInt + 9 from (by first | with_reducible exact q_fe b737 | (have t1 : x3.toInt ≤ y729.toInt + 9 := b737; omega))), (show y729.toInt ≤ x3.toInt + 220 from (by first | with_reducible exact q_fe b738 | (have t1 : y729.toInt ≤ x3.toInt + 220 := b738; omega))), (show x5.toInt ≤ y729.toInt + 10 from (by have t1 : x5.toInt ≤ y772.toInt + 9 := b778; have t2 : y772.toInt ≤ y729.toInt := b780; omega)), (show y729.toInt ≤ x5.toInt + 221 from (by have t1 : y729.toInt ≤ 220 := b734; have t2 : 0 ≤ y730.toInt := b735; have t3 : y773.toInt ≤ x5.toInt + 1 := b782; have t4 : y730.toInt ≤ y773.toInt := b783; omega)), (show x3.toInt ≤ y730.toInt + 9 from (by first | with_reducible exact q_fe b739 | (have t1 : x3.toInt ≤ y730.toInt + 9 := b739; omega))), (show y730.toInt ≤ x3.toInt + 1 from (by first | with_reducible exact q_fe b740 | (have t1 : y730.toInt ≤ x3.toInt + 1 := b740; omega))), (show x5.toInt ≤ y730.toInt + 10 from (by have t1 : x5.toInt ≤ y773.toInt + 9 := b781; have t2 : y773.toInt ≤ y730.toInt := b784; omega)), (show y730.toInt ≤ x5.toInt + 2 from (by have t1 : y773.toInt ≤ x5.toInt + 1 := b782; have t2 : y730.toInt ≤ y773.toInt := b783; omega)), (show x5.toInt ≤ t3_0.toInt + 10 from (by have t1 : 0 ≤ t3_0.toInt ∧ t3_0.toInt ≤ 220 := btt3_0; have t2 : y730.toInt ≤ 1 := b736; have t3 : x5.toInt ≤ y773.toInt + 9 := b781; have t4 : y773.toInt ≤ y730.toInt := b784; omega)), (show t3_0.toInt ≤ x5.toInt + 221 from (by have t1 : 0 ≤ t3_0.toInt ∧ t3_0.toInt ≤ 220 := btt3_0; have t2 : 0 ≤ y730.toInt := b735; have t3 : y773.toInt ≤ x5.toInt + 1 := b782; have t4 : y730.toInt ≤ y773.toInt := b783; omega)), (show x5.toInt ≤ t3_1.toInt + 10 from (by have t1 : 0 ≤ t3_1.toInt ∧ t3_1.toInt ≤ 1 := btt3_1; have t2 : y730.toInt ≤ 1 := b736; have t3 : x5.toInt ≤ y773.toInt + 9 := b781; have t4 : y773.toInt ≤ y730.toInt := b784; omega)), (show t3_1.toInt ≤ x5.toInt + 2 from (by have t1 : 0 ≤ t3_1.toInt ∧ t3_1.toInt ≤ 1 := btt3_1; have t2 : 0 ≤ y730.toInt := b735; have t3 : y773.toInt ≤ x5.toInt + 1 := b782; have t4 : y730.toInt ≤ y773.toInt := b783; omega)), (show t3_1.toInt ≤ t3_1.toInt from (by omega)), (show x5.toInt ≤ t5_0.toInt + 10 from (by have t1 : 0 ≤ t5_0.toInt ∧ t5_0.toInt ≤ 220 := btt5_0; have t2 : y730.toInt ≤ 1 := b736; have t3 : x5.toInt ≤ y773.toInt + 9 := b781; have t4 : y773.toInt ≤ y730.toInt := b784; omega)), (show t5_0.toInt ≤ x5.toInt + 221 from (by have t1 : 0 ≤ t5_0.toInt ∧ t5_0.toInt ≤ 220 := btt5_0; have t2 : 0 ≤ y730.toInt := b735; have t3 : y773.toInt ≤ x5.toInt + 1 := b782; have t4 : y730.toInt ≤ y773.toInt := b783; omega)), (show x5.toInt ≤ t5_1.toInt + 10 from (by have t1 : 0 ≤ t5_1.toInt ∧ t5_1.toInt ≤ 1 := btt5_1; have t2 : y730.toInt ≤ 1 := b736; have t3 : x5.toInt ≤ y773.toInt + 9 := b781; have t4 : y773.toInt ≤ y730.toInt := b784; omega)), (show t5_1.toInt ≤ x5.toInt + 2 from (by have t1 : 0 ≤ t5_1.toInt ∧ t5_1.toInt ≤ 1 := btt5_1; have t2 : 0 ≤ y730.toInt := b735; have t3 : y773.toInt ≤ x5.toInt + 1 := b782; have t4 : y730.toInt ≤ y773.toInt := b783; omega)), (show x5.toInt ≤ t7_0.toInt + 10 from (by have t1 : 0 ≤ t7_0.toInt ∧ t7_0.toInt ≤ 220 := btt7_0; have t2 : y730.toInt ≤ 1 := b736; have t3 : x5.toInt ≤ y773.toInt + 9 := b781; have t4 : y773.toInt ≤ y730.toInt := b784; omega)), (show t7_0.toInt ≤ x5.toInt + 221 from (by have t1 : 0 ≤ t7_0.toInt ∧ t7_0.toInt ≤ 220 := btt7_0; have t2 : 0 ≤ y730.toInt := b735; have t3 : y773.toInt ≤ x5.toInt + 1 := b782; have t4 : y730.toInt ≤ y773.toInt := b783; omega)), (show t7_1.toInt ≤ x3.toInt + 2 from (by have t1 : 0 ≤ t7_1.toInt ∧ t7_1.toInt ≤ 1 := btt7_1; have t2 : 0 ≤ y730.toInt := b735; have t3 : y730.toInt ≤ x3.toInt + 1 := b740; omega)), (show x5.toInt ≤ t7_1.toInt + 10 from (by have t1 : 0 ≤ t7_1.toInt ∧ t7_1.toInt ≤ 1 := btt7_1; have t2 : y730.toInt ≤ 1 := b736; have t3 : x5.toInt ≤ y773.toInt + 9 := b781; have t4 : y773.toInt ≤ y730.toInt := b784; omega)), (show t7_1.toInt ≤ x5.toInt + 2 from (by have t1 : 0 ≤ t7_1.toInt ∧ t7_1.toInt ≤ 1 := btt7_1; have t2 : 0 ≤ y730.toInt := b735; have t3 : y773.toInt ≤ x5.toInt + 1 := b782; have t4 : y730.toInt ≤ y773.toInt := b783; omega)), (show t7_1.toInt ≤ t16_1.toInt + 1 from (by have t1 : 0 ≤ t7_1.toInt ∧ t7_1.toInt ≤ 1 := btt7_1; have t2 : 0 ≤ t16_1.toInt ∧ t16_1.toInt ≤ 1 := btt16_1; omega)), (show x5.toInt ≤ t9_0.toInt + 10 from (by have t1 : 0 ≤ t9_0.toInt ∧ t9_0.toInt ≤ 220 := btt9_0; have t2 : y730.toInt ≤ 1 := b736; have t3 : x5.toInt ≤ y773.toInt + 9 := b781; have t4 : y773.toInt ≤ y730.toInt := b784; omega)), (show t9_0.toInt ≤ x5.toInt + 221 from (by have t1 : 0 ≤ t9_0.toInt ∧ t9_0.toInt ≤ 220 := btt9_0; have t2 : 0 ≤ y730.toInt := b735; have t3 : y773.toInt ≤ x5.toInt + 1 := b782; have t4 : y730.toInt ≤ y773.toInt := b783; omega)), (show x5.toInt ≤ t9_1.toInt + 10 from (by have t1 : 0 ≤ t9_1.toInt ∧ t9_1.toInt ≤ 1 := btt9_1; have t2 : y730.toInt ≤ 1 := b736; have t3 : x5.toInt ≤ y773.toInt + 9 := b781; have t4 : y773.toInt ≤ y730.toInt := b784; omega)), (show t9_1.toInt ≤ x5.toInt + 2 from (by have t1 : 0 ≤ t9_1.toInt ∧ t9_1.toInt ≤ 1 := btt9_1; have t2 : 0 ≤ y730.toInt := b735; have t3 : y773.toInt ≤ x5.toInt + 1 := b782; have t4 : y730.toInt ≤ y773.toInt := b783; omega)), (show x5.toInt ≤ y772.toInt + 10 from (by first | with_reducible exact q_fe b778 | (have t1 : x5.toInt ≤ y772.toInt + 9 := b778; omega))), (show y772.toInt ≤ x5.toInt + 69 from (by first | with_reducible exact q_fe b779 | (have t1 : y772.toInt ≤ x5.toInt + 68 := b779; omega))), (show x5.toInt ≤ y773.toInt + 10 from (by first | with_reducible exact q_fe b781 | (have t1 : x5.toInt ≤ y773.toInt + 9 := b781; omega))), (show y773.toInt ≤ x5.toInt + 2 from (by first | with_reducible exact q_fe b782 | (have t1 : y773.toInt ≤ x5.toInt + 1 := b782; omega))), (show x5.toInt ≤ t20_0.toInt + 10010 from (by have t1 : -10000 ≤ t20_0.toInt ∧ t20_0.toInt ≤ 10000 := btt20_0; have t2 : y730.toInt ≤ 1 := b736; have t3 : x5.toInt ≤ y773.toInt + 9 := b781; have t4 : y773.toInt ≤ y730.toInt := b784; omega)), (show t20_0.toInt ≤ x5.toInt + 10001 from (by have t1 : -10000 ≤ t20_0.toInt ∧ t20_0.toInt ≤ 10000 := btt20_0; have t2 : 0 ≤ y730.toInt := b735; have t3 : y773.toInt ≤ x5.toInt + 1 := b782; have t4 : y730.toInt ≤ y773.toInt := b783; omega)), (show x5.toInt ≤ t20_1.toInt + 9 from (by have t1 : 1 ≤ t20_1.toInt ∧ t20_1.toInt ≤ 1000 := btt20_1; have t2 : y730.toInt ≤ 1 := b736; have t3 : x5.toInt ≤ y773.toInt + 9 := b781; have t4 : y773.toInt ≤ y730.toInt := b784; omega)), (show t20_1.toInt ≤ x5.toInt + 1001 from (by have t1 : 1 ≤ t20_1.toInt ∧ t20_1.toInt ≤ 1000 := btt20_1; have t2 : 0 ≤ y730.toInt := b735; have t3 : y773.toInt ≤ x5.toInt + 1 := b782; have t4 : y730.toInt ≤ y773.toInt := b783; omega)), (show x5.toInt ≤ t21_0.toInt + 10 from (by have t1 : 0 ≤ t21_0.toInt ∧ t21_0.toInt ≤ 108 := btt21_0; have t2 : y730.toInt ≤ 1 := b736; have t3 : x5.toInt ≤ y773.toInt + 9 := b781; have t4 : y773.toInt ≤ y730.toInt := b784; omega)), (show t21_0.toInt ≤ x5.toInt + 109 from (by have t1 : 0 ≤ t21_0.toInt ∧ t21_0.toInt ≤ 108 := btt21_0; have t2 : 0 ≤ y730.toInt := b735; have t3 : y773.toInt ≤ x5.toInt + 1 := b782; have t4 : y730.toInt ≤ y773.toInt := b783; omega)), (show x5.toInt ≤ t21_1.toInt + 10 from (by have t1 : 0 ≤ t21_1.toInt ∧ t21_1.toInt ≤ 1 := btt21_1; have t2 : y730.toInt ≤ 1 := b736; have t3 : x5.toInt ≤ y773.toInt + 9 := b781; have t4 : y773.toInt ≤ y730.toInt := b784; omega)), (show t21_1.toInt ≤ x5.toInt + 2 from (by have t1 : 0 ≤ t21_1.toInt ∧ t21_1.toInt ≤ 1 := btt21_1; have t2 : 0 ≤ y730.toInt := b735; have t3 : y773.toInt ≤ x5.toInt + 1 := b782; have t4 : y730.toInt ≤ y773.toInt := b783; omega)), (show ((0 : Int32), t0_0, t0_1, y729, y730, f731, t3_0, t3_1, t4_0, t5_0, t5_1, t6_0, t7_0, t7_1, t8_0, t9_0, t9_1, t10_0, t11_0, t12_0, y772, y773, f774, t20_0, t20_1, t21_0, t21_1, t22_0) = (F_NH_convert x2 x3 x4 x5 t0_0 t0_1 t1_0 t1_1 t2_0 t3_0 t3_1 t4_0 t5_0 t5_1 t6_0 t7_0 t7_1 t8_0 t9_0 t9_1 t10_0 t11_0 t12_0 t13_0 t13_1 t14_0 t15_0 t15_1 t16_0 t16_1 t17_0 t18_0 t18_1 t19_0 t20_0 t20_1 t21_0 t21_1 t22_0) from Eq.trans (by rw [e790, e789, e788, F_NH_convert_c24.eq_1, if_pos c762]) hR766)⟩) d_1_16_69)

/-! NumberHouse, exactly: s0.feed -/
theorem d_1_2_0 : decode prog_1_method_2_code 0 = .ok (.iload_n 1, 1) := by decide +kernel
theorem d_1_2_1 : decode prog_1_method_2_code 1 = .ok (.iconst 1, 1) := by decide +kernel
theorem d_1_2_16 : decode prog_1_method_2_code 16 = .ok (.invokestatic 104, 3) := by decide +kernel
theorem d_1_2_19 : decode prog_1_method_2_code 19 = .ok (.aload_n 0, 1) := by decide +kernel
theorem d_1_2_20 : decode prog_1_method_2_code 20 = .ok (.getfield 14, 3) := by decide +kernel
theorem d_1_2_23 : decode prog_1_method_2_code 23 = .ok (.getfield 108, 3) := by decide +kernel
set_option maxRecDepth 100000 in
theorem w_56 : (Cond.fieldLink "NumberHouse" (108 : Nat) "NumberHouse$Sheet" "size" "I") ∈ q_tbl := q_of1 56 rfl (by decide +kernel)
theorem d_1_2_26 : decode prog_1_method_2_code 26 = .ok (.iload_n 1, 1) := by decide +kernel
theorem d_1_2_27 : decode prog_1_method_2_code 27 = .ok (.iadd, 1) := by decide +kernel
theorem d_1_2_28 : decode prog_1_method_2_code 28 = .ok (.sipush 4100, 3) := by decide +kernel
theorem d_1_2_31 : decode prog_1_method_2_code 31 = .ok (.if_icmp .le 5, 3) := by decide +kernel
theorem d_1_2_36 : decode prog_1_method_2_code 36 = .ok (.iconst 0, 1) := by decide +kernel
theorem d_1_2_37 : decode prog_1_method_2_code 37 = .ok (.istore 4, 2) := by decide +kernel
theorem d_1_2_39 : decode prog_1_method_2_code 39 = .ok (.iload 4, 2) := by decide +kernel
theorem d_1_2_41 : decode prog_1_method_2_code 41 = .ok (.iload_n 1, 1) := by decide +kernel
theorem d_1_2_42 : decode prog_1_method_2_code 42 = .ok (.if_icmp .ge 28, 3) := by decide +kernel
theorem d_1_2_70 : decode prog_1_method_2_code 70 = .ok (.aload_n 0, 1) := by decide +kernel
theorem d_1_2_71 : decode prog_1_method_2_code 71 = .ok (.getfield 14, 3) := by decide +kernel
theorem d_1_2_74 : decode prog_1_method_2_code 74 = .ok (.getfield 108, 3) := by decide +kernel
theorem d_1_2_77 : decode prog_1_method_2_code 77 = .ok (.ireturn, 1) := by decide +kernel
theorem d_1_2_45 : decode prog_1_method_2_code 45 = .ok (.aload_n 0, 1) := by decide +kernel
theorem d_1_2_46 : decode prog_1_method_2_code 46 = .ok (.getfield 14, 3) := by decide +kernel
theorem d_1_2_49 : decode prog_1_method_2_code 49 = .ok (.lload_n 2, 1) := by decide +kernel
theorem d_1_2_50 : decode prog_1_method_2_code 50 = .ok (.bipush 8, 2) := by decide +kernel
theorem d_1_2_52 : decode prog_1_method_2_code 52 = .ok (.iload 4, 2) := by decide +kernel
theorem d_1_2_54 : decode prog_1_method_2_code 54 = .ok (.imul, 1) := by decide +kernel
theorem d_1_2_55 : decode prog_1_method_2_code 55 = .ok (.lushr, 1) := by decide +kernel
theorem d_1_2_56 : decode prog_1_method_2_code 56 = .ok (.l2i, 1) := by decide +kernel
theorem d_1_2_57 : decode prog_1_method_2_code 57 = .ok (.sipush 255, 3) := by decide +kernel
theorem d_1_2_60 : decode prog_1_method_2_code 60 = .ok (.iand, 1) := by decide +kernel
theorem d_1_2_61 : decode prog_1_method_2_code 61 = .ok (.invokevirtual 112, 3) := by decide +kernel
set_option maxRecDepth 100000 in
theorem w_561 : (Cond.methodLink "NumberHouse" (112 : Nat) ({ cls := "NumberHouse$Sheet", name := "add", desc := "(I)V" } : MethodName)) ∈ q_tbl := q_of3 81 rfl (by decide +kernel)
theorem LV_NH_112 : q_LV "NumberHouse" 112 y_She_add prog_11_method_3_code 3 none 1 := ⟨w_564, w_2, w_561, w_562, w_563, ⟨by decide, by decide, by decide +kernel⟩⟩
theorem d_1_2_64 : decode prog_1_method_2_code 64 = .ok (.iinc 4 1, 3) := by decide +kernel
theorem d_1_2_67 : decode prog_1_method_2_code 67 = .ok (.goto (-28), 3) := by decide +kernel
theorem d_1_2_34 : decode prog_1_method_2_code 34 = .ok (.iconst (-1), 1) := by decide +kernel
theorem d_1_2_35 : decode prog_1_method_2_code 35 = .ok (.ireturn, 1) := by decide +kernel
theorem d_1_2_15 : decode prog_1_method_2_code 15 = .ok (.iconst 0, 1) := by decide +kernel
theorem d_1_2_2 : decode prog_1_method_2_code 2 = .ok (.if_icmp .lt 13, 3) := by decide +kernel
theorem d_1_2_5 : decode prog_1_method_2_code 5 = .ok (.iload_n 1, 1) := by decide +kernel
theorem d_1_2_6 : decode prog_1_method_2_code 6 = .ok (.bipush 8, 2) := by decide +kernel
theorem d_1_2_8 : decode prog_1_method_2_code 8 = .ok (.if_icmp .gt 7, 3) := by decide +kernel
theorem d_1_2_11 : decode prog_1_method_2_code 11 = .ok (.iconst 1, 1) := by decide +kernel
theorem d_1_2_12 : decode prog_1_method_2_code 12 = .ok (.goto 4, 3) := by decide +kernel
def y_NH_feed : MethodName := ⟨"NumberHouse", "feed", "(IJ)I"⟩
def F_NH_feed_c61 (K_F_NH_feed_L39 : Int32 → Int32 → (Nat → Int64) → (Int32 × Int32 × Int32 × (Nat → Int64))) (x2 : Int32) (x3 : Int64) (t0_0 : Int32) (t1_0 : (Nat → Int64)) (lx6 : Int32) (lx32 : Int32) (lx33 : Int32) (lx34 : (Nat → Int64)) (p74 : (Int32 × (Nat → Int64))) : Int32 × Int32 × Int32 × (Nat → Int64) := K_F_NH_feed_L39 (lx32 + 1 : Int32) (p74.1 : Int32) (p74.2 : (Nat → Int64))
def F_NH_feed_L39 (x2 : Int32) (x3 : Int64) (t0_0 : Int32) (t1_0 : (Nat → Int64)) (lx6 : Int32) : Nat → Int32 → Int32 → (Nat → Int64) → (Int32 × Int32 × Int32 × (Nat → Int64))
  | 0, _, _, _ => default
  | fm + 1, lx32, lx33, lx34 => if x2 ≤ lx32 then (((0 : Int32), lx33, lx33, lx34)) else (F_NH_feed_c61 (F_NH_feed_L39 x2 x3 t0_0 t1_0 lx6 fm) x2 x3 t0_0 t1_0 lx6 lx32 lx33 lx34 ((F_She_add_p (4100 : Int32) (513 : Int32) (4100 : Int32) ((((x3.toUInt64 >>> ((8 * lx32 : Int32).toInt64.toUInt64 &&& Int64.toUInt64 63)).toInt64 : Int64).toInt32 : Int32) &&& 255 : Int32) lx33 lx34) : (Int32 × (Nat → Int64))))
def F_NH_feed_J16 (x2 : Int32) (x3 : Int64) (t0_0 : Int32) (t1_0 : (Nat → Int64)) (lx6 : Int32) : Int32 × Int32 × Int32 × (Nat → Int64) := if (F_NH_need lx6) = (0 : Int32) then (if (t0_0 + x2 : Int32) ≤ (4100 : Int32) then (F_NH_feed_L39 x2 x3 t0_0 t1_0 lx6 ((4100 - (0 : Int32).toInt).toNat + 1) 0 t0_0 t1_0) else (((0 : Int32), (-1 : Int32), t0_0, t1_0))) else (((F_NH_need lx6), (0 : Int32), t0_0, t1_0))
def F_NH_feed_J15 (x2 : Int32) (x3 : Int64) (t0_0 : Int32) (t1_0 : (Nat → Int64)) : Int32 × Int32 × Int32 × (Nat → Int64) := F_NH_feed_J16 x2 x3 t0_0 t1_0 0
def F_NH_feed (x2 : Int32) (x3 : Int64) (t0_0 : Int32) (t1_0 : (Nat → Int64)) : Int32 × Int32 × Int32 × (Nat → Int64) := if x2 < (1 : Int32) then (F_NH_feed_J15 x2 x3 t0_0 t1_0) else (if (8 : Int32) < x2 then (F_NH_feed_J15 x2 x3 t0_0 t1_0) else (F_NH_feed_J16 x2 x3 t0_0 t1_0 1))
def S_NH_feed_c61 (K_S_NH_feed_L39 : Int32 → Int32 → (Nat → Int64) → Prop) (x2 : Int32) (x3 : Int64) (t0_0 : Int32) (t1_0 : (Nat → Int64)) (lx6 : Int32) (lx32 : Int32) (lx33 : Int32) (lx34 : (Nat → Int64)) (p74 : (Int32 × (Nat → Int64))) : Prop := K_S_NH_feed_L39 (lx32 + 1 : Int32) (p74.1 : Int32) (p74.2 : (Nat → Int64))
def S_NH_feed_L39 (x2 : Int32) (x3 : Int64) (t0_0 : Int32) (t1_0 : (Nat → Int64)) (lx6 : Int32) : Nat → Int32 → Int32 → (Nat → Int64) → Prop
  | 0, _, _, _ => False
  | fm + 1, lx32, lx33, lx34 => if x2 ≤ lx32 then (True) else ((lx33.toInt ≤ 4099) ∧ (S_NH_feed_c61 (S_NH_feed_L39 x2 x3 t0_0 t1_0 lx6 fm) x2 x3 t0_0 t1_0 lx6 lx32 lx33 lx34 ((F_She_add_p (4100 : Int32) (513 : Int32) (4100 : Int32) ((((x3.toUInt64 >>> ((8 * lx32 : Int32).toInt64.toUInt64 &&& Int64.toUInt64 63)).toInt64 : Int64).toInt32 : Int32) &&& 255 : Int32) lx33 lx34) : (Int32 × (Nat → Int64)))))
def S_NH_feed_J16 (x2 : Int32) (x3 : Int64) (t0_0 : Int32) (t1_0 : (Nat → Int64)) (lx6 : Int32) : Prop := if (F_NH_need lx6) = (0 : Int32) then (if (t0_0 + x2 : Int32) ≤ (4100 : Int32) then (S_NH_feed_L39 x2 x3 t0_0 t1_0 lx6 ((4100 - (0 : Int32).toInt).toNat + 1) 0 t0_0 t1_0) else (True)) else (True)
def S_NH_feed_J15 (x2 : Int32) (x3 : Int64) (t0_0 : Int32) (t1_0 : (Nat → Int64)) : Prop := S_NH_feed_J16 x2 x3 t0_0 t1_0 0
def S_NH_feed (x2 : Int32) (x3 : Int64) (t0_0 : Int32) (t1_0 : (Nat → Int64)) : Prop := if x2 < (1 : Int32) then (S_NH_feed_J15 x2 x3 t0_0 t1_0) else (if (8 : Int32) < x2 then (S_NH_feed_J15 x2 x3 t0_0 t1_0) else (S_NH_feed_J16 x2 x3 t0_0 t1_0 1))
set_option maxRecDepth 100000 in
set_option maxHeartbeats 4000000 in
theorem X_NH_feed (l : Launch) (D : va_G) (g : Nat → ClassId) (q : Nat → Nat) (ws : va_W) (x2 : Int32) (x3 : Int64) (hlt : l.stackTraces = false) (hI : q_I (nsh g q) q ws) (t0_0 : Int32) (hT0 : ws[1]? = (some (q 1, .inr (1, [.ref (q 2), .int 4100, .int t0_0])) : Option (Nat × va_E))) (t1_0 : (Nat → Int64)) (hT1 : ws[2]? = (some (q 2, .inl (g 1, (513 : Int32).toNatClampNeg, .inr (.inl t1_0))) : Option (Nat × va_E))) (hS : True ∧ S_NH_feed x2 x3 t0_0 t1_0) : ∀ sz, q_Mx l y_NH_feed prog_1_method_2_code 5 (some .int) 8 1 6 D g [.ref (q 0), .int x2, .long x3] ws sz (va_Qi (fun r u => q_I (nsh g q) q u ∧ q_un ws u [1, 2] ∧ ∃ (u0_0 : Int32) (u1_0 : (Nat → Int64)), u[1]? = (some (q 1, .inr (1, [.ref (q 2), .int 4100, .int u0_0])) : Option (Nat × va_E)) ∧ u[2]? = (some (q 2, .inl (g 1, (513 : Int32).toNatClampNeg, .inr (.inl u1_0))) : Option (Nat × va_E)) ∧ (0 ≤ r.toInt + 1) ∧ (u0_0.toInt ≤ 4100) ∧ (t0_0.toInt ≤ u0_0.toInt) ∧ (r.toInt ≤ u0_0.toInt) ∧ ((0 : Int32), r, u0_0, u1_0) = (F_NH_feed x2 x3 t0_0 t1_0)) (q_B D g (va_A ws sz)) (va_A ws sz)) (fun E u => ∃ c : Int32, E = qE c ∧ c ≠ 0 ∧ q_I (nsh g q) q u ∧ q_un ws u [1, 2] ∧ ∃ (u0_0 : Int32) (u1_0 : (Nat → Int64)), u[1]? = (some (q 1, .inr (1, [.ref (q 2), .int 4100, .int u0_0])) : Option (Nat × va_E)) ∧ u[2]? = (some (q 2, .inl (g 1, (513 : Int32).toNatClampNeg, .inr (.inl u1_0))) : Option (Nat × va_E)) ∧ (c, (0 : Int32), u0_0, u1_0) = (F_NH_feed x2 x3 t0_0 t1_0)) := by
  intro sz
  refine q_intoX (by decide) (Nat.le_of_ble_eq_true rfl) ?_
  intro p e s m below meth c ls hsz C0 V hno hl
  have hx := C0.1
  have hb := C0.2.1
  have btt0_0 := n_shW hI (n_h1 g q) hT0
  replace btt0_0 : q_F (0 ≤ t0_0.toInt ∧ t0_0.toInt ≤ 4100) := btt0_0
  have hF : q_un ws ws [1, 2] := q_u0
  have hl : lv_has ls 5 [(0, .ref (q 0)), (1, .int x2), (2, .long x3)] := hl
  refine lv_iload_n hx hb d_1_2_0 rfl (lv_at hl 1 rfl) ?_
  refine lv_iconst (v := 1) hx hb d_1_2_1 (by decide) ?_
  refine q_join (X := Int32) (fun z H locs ls _ => q_F (0 ≤ z.toInt) ∧ q_F (z.toInt ≤ 1) ∧ q_Wd D g (va_A ws sz) s ws H locs ∧ lv_has ls 5 [(0, .ref (q 0)), (1, .int x2), (2, .long x3)] ∧ F_NH_feed_J16 x2 x3 t0_0 t1_0 z = (F_NH_feed x2 x3 t0_0 t1_0) ∧ True ∧ S_NH_feed_J16 x2 x3 t0_0 t1_0 z) (fun z => [.int z]) 16 0 0 ?_ ?_
  ·
    rintro lx6 H locs ls _ hZ9
    obtain ⟨i10, hZ9⟩ := hZ9
    obtain ⟨i11, hZ9⟩ := hZ9
    obtain ⟨V, hZ9⟩ := hZ9
    obtain ⟨hl, hZ9⟩ := hZ9
    obtain ⟨hR12, hS13⟩ := hZ9
    replace i10 : q_F (0 ≤ lx6.toInt) := i10
    replace i11 : q_F (lx6.toInt ≤ 1) := i11
    replace hl : lv_has ls 5 [(0, .ref (q 0)), (1, .int x2), (2, .long x3)] := hl
    refine q_goxv V (q_runSX (As := [.int lx6]) (rest := []) (d := 7) (mc := 1) (ms := 6) C0 V rfl LS_NH_104 (X_NH_need l D g q ws  lx6 hlt hI  ⟨(by first | with_reducible exact q_fe i10 | (have t1 : 0 ≤ lx6.toInt := i10; omega)), (by first | with_reducible exact q_fe i11 | (have t1 : lx6.toInt ≤ 1 := i11; omega))⟩ _) rfl hl.1 rfl (Nat.le_of_ble_eq_true rfl) ⟨by decide, by decide⟩ ⟨Nat.le_of_ble_eq_true rfl, Nat.le_of_ble_eq_true rfl⟩ d_1_2_16) (fun qx Ex ce u17 H locs hp18 V hce hcv hcl => ?_) (fun u17 H locs hp18 V => ?_)
    ·
      obtain ⟨cx20, he21, hc22, rfl, hE19⟩ := hp18
      have c23 : ¬ (F_NH_need lx6) = (0 : Int32) := fun z => hc22 (((hE19) : cx20 = _).trans z)
      exact q_outT hno C0 V (⟨(F_NH_need lx6), (he21.trans (congrArg qE ((hE19) : cx20 = _))), c23, hI, hF, t0_0, t1_0, hT0, hT1, (show ((F_NH_need lx6), (0 : Int32), t0_0, t1_0) = (F_NH_feed x2 x3 t0_0 t1_0) from Eq.trans (by rw [F_NH_feed_J16.eq_1, if_neg c23]) hR12)⟩) hce hcv hcl (Nat.le_of_ble_eq_true rfl) (Nat.le_of_ble_eq_true rfl)
    ·
      obtain ⟨rfl, hE24⟩ := hp18
      have c23 : (F_NH_need lx6) = (0 : Int32) := ((hE24) : (0 : Int32) = _).symm
      refine lv_aload_n hx hb d_1_2_19 rfl (lv_at hl 0 rfl) ?_
      have hO26 := n_o0 hI
      refine q_get (ci := 0) (j := 0) (v := .ref (q 1)) C0 V i_NH rfl rfl hO26 (by decide) w_424 rfl d_1_2_20 ?_
      refine q_get (ci := 1) (j := 2) (v := .int t0_0) C0 V i_She rfl rfl hT0 (by decide) w_56 rfl d_1_2_23 ?_
      refine lv_iload_n hx hb d_1_2_26 rfl (lv_at hl 1 rfl) ?_
      refine lv_iadd hx hb d_1_2_27 ?_
      obtain ⟨a27, e28⟩ := q_nm (t0_0 + x2 : Int32)
      refine q_ti (v := a27) e28 ?_
      refine lv_sipush (v := 4100) hx hb d_1_2_28 (by decide) ?_
      refine lv_icmp_le (tgt := 36) hx hb d_1_2_31 (by decide) (fun c29 => ?_) (fun c29 => ?_)
      ·
        refine lv_iconst (v := 0) hx hb d_1_2_36 (by decide) ?_
        refine lv_istore (lv' := [(4, .int 0), (0, .ref (q 0)), (1, .int x2), (2, .long x3)]) hx hb d_1_2_37 hl (by decide) rfl (fun ls hl => ?_)
        refine q_loop (X := Int32 × Int32 × (Nat → Int64)) (fun z H locs ls w40 => q_F (z.2.1.toInt ≤ 4100) ∧ q_F (t0_0.toInt ≤ z.1.toInt + z.2.1.toInt) ∧ q_F (z.2.1.toInt ≤ z.1.toInt + t0_0.toInt) ∧ q_F (z.1.toInt + t0_0.toInt ≤ z.2.1.toInt) ∧ q_Wd D g (va_A ws sz) s w40 H locs ∧ lv_has ls 5 [(4, .int z.1), (0, .ref (q 0)), (1, .int x2), (2, .long x3)] ∧ q_I (nsh g q) q w40 ∧ q_un ws w40 [1, 2] ∧ w40[1]? = (some (q 1, .inr (1, [.ref (q 2), .int 4100, .int z.2.1])) : Option (Nat × va_E)) ∧ w40[2]? = (some (q 2, .inl (g 1, (513 : Int32).toNatClampNeg, .inr (.inl z.2.2))) : Option (Nat × va_E)) ∧ (∃ n, (4100 - z.1.toInt).toNat < n ∧ F_NH_feed_L39 x2 x3 t0_0 t1_0 lx6 n z.1 z.2.1 z.2.2 = (F_NH_feed x2 x3 t0_0 t1_0) ∧ True ∧ S_NH_feed_L39 x2 x3 t0_0 t1_0 lx6 n z.1 z.2.1 z.2.2)) (fun z => (4100 - z.1.toInt).toNat) ?_ ((0 : Int32), (t0_0 : Int32), (t1_0 : (Nat → Int64))) _ _ _ ws ⟨(show q_F (t0_0.toInt ≤ 4100) from (show t0_0.toInt ≤ 4100 from by have t1 : 0 ≤ t0_0.toInt ∧ t0_0.toInt ≤ 4100 := btt0_0; omega)), (show q_F (t0_0.toInt ≤ 0 + t0_0.toInt) from (show t0_0.toInt ≤ 0 + t0_0.toInt from by omega)), (show q_F (t0_0.toInt ≤ 0 + t0_0.toInt) from (show t0_0.toInt ≤ 0 + t0_0.toInt from by omega)), (show q_F (0 + t0_0.toInt ≤ t0_0.toInt) from (show 0 + t0_0.toInt ≤ t0_0.toInt from by omega)), V, q_lw hl (q_lw1 0 rfl (q_lw1 1 rfl (q_lw1 2 rfl (q_lw1 3 rfl q_lw0)))), hI, hF, hT0, hT1, ⟨((4100 - (0 : Int32).toInt).toNat + 1), Nat.lt_succ_self _, (show F_NH_feed_L39 x2 x3 t0_0 t1_0 lx6 ((4100 - (0 : Int32).toInt).toNat + 1) 0 t0_0 t1_0 = (F_NH_feed x2 x3 t0_0 t1_0) from Eq.trans (by have c29x := c29; rw [← e28] at c29x; rw [F_NH_feed_J16.eq_1, if_pos c23, if_pos c29x]) hR12), (show True ∧ S_NH_feed_L39 x2 x3 t0_0 t1_0 lx6 ((4100 - (0 : Int32).toInt).toNat + 1) 0 t0_0 t1_0 from (by have h := hS13; rw [S_NH_feed_J16.eq_1] at h; rw [if_pos c23] at h; have c29x := c29; rw [← e28] at c29x; rw [if_pos c29x] at h; with_reducible exact h))⟩⟩
        rintro ⟨lx32, lx33, lx34⟩ H locs ls w40 ⟨i35, i36, i37, i38, V, hl, hI, hF, hO41, hO42, ⟨fu45, hf46, hR43, hS44⟩⟩ ih39
        obtain ⟨fm47, rfl⟩ : ∃ m, fu45 = m + 1 := ⟨fu45 - 1, by omega⟩
        replace i35 : q_F (lx33.toInt ≤ 4100) := i35
        replace i36 : q_F (t0_0.toInt ≤ lx32.toInt + lx33.toInt) := i36
        replace i37 : q_F (lx33.toInt ≤ lx32.toInt + t0_0.toInt) := i37
        replace i38 : q_F (lx32.toInt + t0_0.toInt ≤ lx33.toInt) := i38
        replace hl : lv_has ls 5 [(4, .int lx32), (0, .ref (q 0)), (1, .int x2), (2, .long x3)] := hl
        replace hO41 : w40[1]? = (some (q 1, .inr (1, [.ref (q 2), .int 4100, .int lx33])) : Option (Nat × va_E)) := hO41
        replace hO42 : w40[2]? = (some (q 2, .inl (g 1, (513 : Int32).toNatClampNeg, .inr (.inl lx34))) : Option (Nat × va_E)) := hO42
        refine lv_iload hx hb d_1_2_39 (lv_at hl 0 rfl) ?_
        refine lv_iload_n hx hb d_1_2_41 rfl (lv_at hl 2 rfl) ?_
        refine lv_icmp_ge (tgt := 70) hx hb d_1_2_42 (by decide) (fun c48 => ?_) (fun c48 => ?_)
        ·
          refine lv_aload_n hx hb d_1_2_70 rfl (lv_at hl 1 rfl) ?_
          have hO50 := n_o0 hI
          refine q_get (ci := 0) (j := 0) (v := .ref (q 1)) C0 V i_NH rfl rfl hO50 (by decide) w_424 rfl d_1_2_71 ?_
          refine q_get (ci := 1) (j := 2) (v := .int lx33) C0 V i_She rfl rfl hO41 (by decide) w_56 rfl d_1_2_74 ?_
          exact q_retX (q_reti C0 V (⟨hI, hF, lx33, lx34, hO41, hO42, (show 0 ≤ lx33.toInt + 1 from (by have t1 : 0 ≤ t0_0.toInt ∧ t0_0.toInt ≤ 4100 := btt0_0; have t2 : t0_0.toInt ≤ lx32.toInt + lx33.toInt := i36; have t3 : lx32.toInt + t0_0.toInt ≤ lx33.toInt := i38; omega)), (show lx33.toInt ≤ 4100 from (by first | with_reducible exact q_fe i35 | (have t1 : lx33.toInt ≤ 4100 := i35; omega))), (show t0_0.toInt ≤ lx33.toInt from (by have t1 : t0_0.toInt ≤ lx32.toInt + lx33.toInt := i36; have t2 : lx32.toInt + t0_0.toInt ≤ lx33.toInt := i38; omega)), (show lx33.toInt ≤ lx33.toInt from (by omega)), (show ((0 : Int32), lx33, lx33, lx34) = (F_NH_feed x2 x3 t0_0 t1_0) from Eq.trans (by rw [F_NH_feed_L39.eq_2, if_pos c48]) hR43)⟩) d_1_2_77)
        ·
          refine lv_aload_n hx hb d_1_2_45 rfl (lv_at hl 1 rfl) ?_
          have hO52 := n_o0 hI
          refine q_get (ci := 0) (j := 0) (v := .ref (q 1)) C0 V i_NH rfl rfl hO52 (by decide) w_424 rfl d_1_2_46 ?_
          refine lv_lload_n hx hb d_1_2_49 rfl (lv_at hl 3 rfl) ?_
          refine lv_bipush (v := 8) hx hb d_1_2_50 (by decide) ?_
          refine lv_iload hx hb d_1_2_52 (lv_at hl 0 rfl) ?_
          refine lv_imul hx hb d_1_2_54 ?_
          obtain ⟨a53, e54⟩ := q_nm (8 * lx32 : Int32)
          refine q_ti (v := a53) e54 ?_
          have b55 : q_F (a53.toInt = 8 * lx32.toInt) := (by rw [← e54]; show (8 * lx32 : Int32).toInt = 8 * lx32.toInt; exact q_mulI (x := 8) (y := lx32.toInt) (by decide) rfl (by have t1 : t0_0.toInt ≤ lx32.toInt + lx33.toInt := i36; have t2 : lx33.toInt ≤ lx32.toInt + t0_0.toInt := i37; have t3 : 0 ≤ t0_0.toInt ∧ t0_0.toInt ≤ 4100 := btt0_0; have t4 : lx33.toInt ≤ 4100 := i35; have t5 : lx32.toInt + t0_0.toInt ≤ lx33.toInt := i38; omega) (by have t1 : t0_0.toInt ≤ lx32.toInt + lx33.toInt := i36; have t2 : lx33.toInt ≤ lx32.toInt + t0_0.toInt := i37; have t3 : 0 ≤ t0_0.toInt ∧ t0_0.toInt ≤ 4100 := btt0_0; have t4 : lx33.toInt ≤ 4100 := i35; have t5 : lx32.toInt + t0_0.toInt ≤ lx33.toInt := i38; omega))
          refine lv_lushr hx hb d_1_2_55 rfl ?_
          obtain ⟨j56, e57⟩ := q_nm ((x3.toUInt64 >>> (a53.toInt64.toUInt64 &&& Int64.toUInt64 63)).toInt64 : Int64)
          refine q_tl (v := j56) e57 ?_
          refine lv_l2i hx hb d_1_2_56 rfl ?_
          obtain ⟨a58, e59⟩ := q_nm (j56.toInt32 : Int32)
          refine q_ti (v := a58) e59 ?_
          refine lv_sipush (v := 255) hx hb d_1_2_57 (by decide) ?_
          refine lv_iand hx hb d_1_2_60 ?_
          obtain ⟨a60, e61⟩ := q_nm (a58 &&& 255 : Int32)
          refine q_ti (v := a60) e61 ?_
          have ob63 : q_F (lx33.toInt ≤ 4099) := (by have h := hS44; rw [S_NH_feed_L39.eq_2] at h; rw [if_neg c48] at h; exact h.2.1)
          refine q_gov V (q_runV (As := [.int a60]) (rest := []) (d := 1) (mc := 0) (ms := 0) (ci := 1) C0 V rfl LV_NH_112 (X_She_add_p l D g q w40 1 4100 513 4100 (n_h1 g q) a60 hI lx33 hO41 lx34 hO42 (by have y0 : (4100 : Int32).toInt = 4100 := rfl; have y1 : (513 : Int32).toInt = 513 := rfl; have y2 : (4100 : Int32).toInt = 4100 := rfl; have t1 : lx33.toInt ≤ 4099 := ob63; omega) _) rfl rfl hO41 rfl hl.1 rfl (Nat.le_of_ble_eq_true rfl) ⟨by decide, by decide⟩ ⟨Nat.le_of_ble_eq_true rfl, Nat.le_of_ble_eq_true rfl⟩ d_1_2_61) (fun u64 H locs hp65 V => ?_)
          obtain ⟨hI, hZ9⟩ := hp65
          obtain ⟨hu73, hZ9⟩ := hZ9
          obtain ⟨y67, hZ9⟩ := hZ9
          obtain ⟨f68, hZ9⟩ := hZ9
          obtain ⟨hO66, hZ9⟩ := hZ9
          obtain ⟨hA69, hZ9⟩ := hZ9
          obtain ⟨b70, hZ9⟩ := hZ9
          obtain ⟨b71, hE72⟩ := hZ9
          replace hO66 : u64[1]? = (some (q 1, .inr (1, [.ref (q 2), .int 4100, .int y67])) : Option (Nat × va_E)) := hO66
          replace hA69 : u64[2]? = (some (q 2, .inl (g 1, (513 : Int32).toNatClampNeg, .inr (.inl f68))) : Option (Nat × va_E)) := hA69
          obtain ⟨p74, e75⟩ : ∃ z, z = (F_She_add_p (4100 : Int32) (513 : Int32) (4100 : Int32) a60 lx33 lx34) := ⟨_, rfl⟩
          have e76 : y67 = p74.1 := congrArg (fun z => z.1) (hE72.trans e75.symm)
          have e77 : f68 = p74.2 := congrArg (fun z => z.2) (hE72.trans e75.symm)
          replace b70 : q_F (lx33.toInt + 1 ≤ y67.toInt) := b70
          replace b71 : q_F (y67.toInt ≤ lx33.toInt + 1) := b71
          replace hF := q_uc hF hu73 (by simp)
          have hR78 := (show F_NH_feed_c61 (F_NH_feed_L39 x2 x3 t0_0 t1_0 lx6 fm47) x2 x3 t0_0 t1_0 lx6 lx32 lx33 lx34 p74 = (F_NH_feed x2 x3 t0_0 t1_0) from Eq.trans (by rw [e75, ← e61, ← e59, ← e57, ← e54, F_NH_feed_L39.eq_2, if_neg c48]) hR43)
          have hS79 := (show True ∧ S_NH_feed_c61 (S_NH_feed_L39 x2 x3 t0_0 t1_0 lx6 fm47) x2 x3 t0_0 t1_0 lx6 lx32 lx33 lx34 p74 from (by rw [e75, ← e61, ← e59, ← e57, ← e54]; have h := hS44; rw [S_NH_feed_L39.eq_2] at h; rw [if_neg c48] at h; replace h := q_s2 h; with_reducible exact h))
          obtain ⟨a83, e84⟩ := q_nm (lx32 + 1 : Int32)
          have b85 : q_F (a83.toInt = lx32.toInt + 1) := (by rw [← e84]; exact q_addI (y := 1) rfl (by decide) (by have t1 : t0_0.toInt ≤ lx32.toInt + lx33.toInt := i36; have t2 : lx33.toInt ≤ lx32.toInt + t0_0.toInt := i37; have t3 : a53.toInt = 8 * lx32.toInt := b55; have _ := q_lo32 (x := a53); have _ := q_hi32 (x := a53); omega) (by have t1 : t0_0.toInt ≤ lx32.toInt + lx33.toInt := i36; have t2 : lx33.toInt ≤ lx32.toInt + t0_0.toInt := i37; have t3 : a53.toInt = 8 * lx32.toInt := b55; have _ := q_lo32 (x := a53); have _ := q_hi32 (x := a53); omega))
          refine lv_iinc (v := a83) (lv' := [(4, .int a83), (0, .ref (q 0)), (1, .int x2), (2, .long x3)]) hx hb d_1_2_64 hl (k := 0) rfl (e84) (by decide) rfl (fun ls hl => ?_)
          refine lv_goto (tgt := 39) hx hb d_1_2_67 (by decide) ?_
          exact ih39 ((a83 : Int32), (y67 : Int32), (f68 : (Nat → Int64))) _ _ _ _ (show (4100 - a83.toInt).toNat < (4100 - lx32.toInt).toNat from by have t1 : a83.toInt = lx32.toInt + 1 := b85; have t2 : 0 ≤ t0_0.toInt ∧ t0_0.toInt ≤ 4100 := btt0_0; have t3 : lx33.toInt ≤ 4100 := i35; have t4 : lx32.toInt + t0_0.toInt ≤ lx33.toInt := i38; have t5 : lx33.toInt ≤ 4099 := ob63; omega) ⟨(show q_F (y67.toInt ≤ 4100) from (show y67.toInt ≤ 4100 from by have t1 : lx33.toInt ≤ 4099 := ob63; have t2 : y67.toInt ≤ lx33.toInt + 1 := b71; omega)), (show q_F (t0_0.toInt ≤ a83.toInt + y67.toInt) from (show t0_0.toInt ≤ a83.toInt + y67.toInt from by have t1 : t0_0.toInt ≤ lx32.toInt + lx33.toInt := i36; have t2 : lx33.toInt + 1 ≤ y67.toInt := b70; have t3 : a83.toInt = lx32.toInt + 1 := b85; omega)), (show q_F (y67.toInt ≤ a83.toInt + t0_0.toInt) from (show y67.toInt ≤ a83.toInt + t0_0.toInt from by have t1 : lx33.toInt ≤ lx32.toInt + t0_0.toInt := i37; have t2 : y67.toInt ≤ lx33.toInt + 1 := b71; have t3 : a83.toInt = lx32.toInt + 1 := b85; omega)), (show q_F (a83.toInt + t0_0.toInt ≤ y67.toInt) from (show a83.toInt + t0_0.toInt ≤ y67.toInt from by have t1 : lx32.toInt + t0_0.toInt ≤ lx33.toInt := i38; have t2 : lx33.toInt + 1 ≤ y67.toInt := b70; have t3 : a83.toInt = lx32.toInt + 1 := b85; omega)), V, q_lw hl (q_lw1 0 rfl (q_lw1 1 rfl (q_lw1 2 rfl (q_lw1 3 rfl q_lw0)))), hI, hF, hO66, hA69, ⟨fm47, Nat.lt_of_lt_of_le (show (4100 - a83.toInt).toNat < (4100 - lx32.toInt).toNat from by have t1 : a83.toInt = lx32.toInt + 1 := b85; have t2 : 0 ≤ t0_0.toInt ∧ t0_0.toInt ≤ 4100 := btt0_0; have t3 : lx33.toInt ≤ 4100 := i35; have t4 : lx32.toInt + t0_0.toInt ≤ lx33.toInt := i38; have t5 : lx33.toInt ≤ 4099 := ob63; omega) (Nat.le_of_lt_succ hf46), (show F_NH_feed_L39 x2 x3 t0_0 t1_0 lx6 fm47 a83 y67 f68 = (F_NH_feed x2 x3 t0_0 t1_0) from Eq.trans (by rw [← e84, e77, e76, F_NH_feed_c61.eq_1]) hR78), (show True ∧ S_NH_feed_L39 x2 x3 t0_0 t1_0 lx6 fm47 a83 y67 f68 from (by rw [← e84, e77, e76]; have h := hS79; rw [S_NH_feed_c61.eq_1] at h; with_reducible exact h))⟩⟩
      ·
        refine lv_iconst (v := (-1)) hx hb d_1_2_34 (by decide) ?_
        exact q_retX (q_reti C0 V (⟨hI, hF, t0_0, t1_0, hT0, hT1, (show 0 ≤ (-1 : Int32).toInt + 1 from (by have z4 : (-1 : Int32).toInt = -1 := rfl; omega)), (show t0_0.toInt ≤ 4100 from (by have z4 : (-1 : Int32).toInt = -1 := rfl; have t1 : 0 ≤ t0_0.toInt ∧ t0_0.toInt ≤ 4100 := btt0_0; omega)), (show t0_0.toInt ≤ t0_0.toInt from (by have z4 : (-1 : Int32).toInt = -1 := rfl; omega)), (show (-1 : Int32).toInt ≤ t0_0.toInt from (by have z4 : (-1 : Int32).toInt = -1 := rfl; have t1 : 0 ≤ t0_0.toInt ∧ t0_0.toInt ≤ 4100 := btt0_0; omega)), (show ((0 : Int32), (-1 : Int32), t0_0, t1_0) = (F_NH_feed x2 x3 t0_0 t1_0) from Eq.trans (by have c29x := c29; rw [← e28] at c29x; rw [F_NH_feed_J16.eq_1, if_pos c23, if_neg c29x]) hR12)⟩) d_1_2_35)
  ·
    intro J9
    refine q_join (X := Unit) (fun z H locs ls _ => q_Wd D g (va_A ws sz) s ws H locs ∧ lv_has ls 5 [(0, .ref (q 0)), (1, .int x2), (2, .long x3)] ∧ F_NH_feed_J15 x2 x3 t0_0 t1_0 = (F_NH_feed x2 x3 t0_0 t1_0) ∧ True ∧ S_NH_feed_J15 x2 x3 t0_0 t1_0) (fun z => []) 15 0 0 ?_ ?_
    ·
      rintro _ H locs ls _ ⟨V, hl, hR90, hS91⟩
      replace hl : lv_has ls 5 [(0, .ref (q 0)), (1, .int x2), (2, .long x3)] := hl
      refine lv_iconst (v := 0) hx hb d_1_2_15 (by decide) ?_
      exact J9 ((0 : Int32)) _ _ _ ws ⟨(show q_F (0 ≤ 0) from (show 0 ≤ 0 from by omega)), (show q_F (0 ≤ 1) from (show 0 ≤ 1 from by omega)), V, q_lw hl (q_lw1 0 rfl (q_lw1 1 rfl (q_lw1 2 rfl q_lw0))), (show F_NH_feed_J16 x2 x3 t0_0 t1_0 0 = (F_NH_feed x2 x3 t0_0 t1_0) from Eq.trans (by rw [F_NH_feed_J15.eq_1]) hR90), (show True ∧ S_NH_feed_J16 x2 x3 t0_0 t1_0 0 from (by have h := hS91; rw [S_NH_feed_J15.eq_1] at h; with_reducible exact h))⟩
    ·
      intro J89
      refine lv_icmp_lt (tgt := 15) hx hb d_1_2_2 (by decide) (fun c95 => ?_) (fun c95 => ?_)
      ·
        exact J89 (()) _ _ _ ws ⟨V, q_lw hl (q_lw1 0 rfl (q_lw1 1 rfl (q_lw1 2 rfl q_lw0))), (show F_NH_feed_J15 x2 x3 t0_0 t1_0 = (F_NH_feed x2 x3 t0_0 t1_0) from (by rw [F_NH_feed.eq_1, if_pos c95])), (show True ∧ S_NH_feed_J15 x2 x3 t0_0 t1_0 from (by have h := hS; rw [S_NH_feed.eq_1] at h; rw [if_pos c95] at h; with_reducible exact h))⟩
      ·
        refine lv_iload_n hx hb d_1_2_5 rfl (lv_at hl 1 rfl) ?_
        refine lv_bipush (v := 8) hx hb d_1_2_6 (by decide) ?_
        refine lv_icmp_gt (tgt := 15) hx hb d_1_2_8 (by decide) (fun c98 => ?_) (fun c98 => ?_)
        ·
          exact J89 (()) _ _ _ ws ⟨V, q_lw hl (q_lw1 0 rfl (q_lw1 1 rfl (q_lw1 2 rfl q_lw0))), (show F_NH_feed_J15 x2 x3 t0_0 t1_0 = (F_NH_feed x2 x3 t0_0 t1_0) from (by rw [F_NH_feed.eq_1, if_neg c95, if_pos c98])), (show True ∧ S_NH_feed_J15 x2 x3 t0_0 t1_0 from (by have h := hS; rw [S_NH_feed.eq_1] at h; rw [if_neg c95] at h; rw [if_pos c98] at h; with_reducible exact h))⟩
        ·
          refine lv_iconst (v := 1) hx hb d_1_2_11 (by decide) ?_
          refine lv_goto (tgt := 16) hx hb d_1_2_12 (by decide) ?_
          exact J9 ((1 : Int32)) _ _ _ ws ⟨(show q_F (0 ≤ 1) from (show 0 ≤ 1 from by omega)), (show q_F (1 ≤ 1) from (show 1 ≤ 1 from by omega)), V, q_lw hl (q_lw1 0 rfl (q_lw1 1 rfl (q_lw1 2 rfl q_lw0))), (show F_NH_feed_J16 x2 x3 t0_0 t1_0 1 = (F_NH_feed x2 x3 t0_0 t1_0) from (by rw [F_NH_feed.eq_1, if_neg c95, if_neg c98])), (show True ∧ S_NH_feed_J16 x2 x3 t0_0 t1_0 1 from (by have h := hS; rw [S_NH_feed.eq_1] at h; rw [if_neg c95] at h; rw [if_neg c98] at h; with_reducible exact h))⟩

/-! NumberHouse, exactly: s1.wipe -/
theorem d_1_3_0 : decode prog_1_method_3_code 0 = .ok (.aload_n 0, 1) := by decide +kernel
theorem d_1_3_1 : decode prog_1_method_3_code 1 = .ok (.getfield 14, 3) := by decide +kernel
theorem d_1_3_4 : decode prog_1_method_3_code 4 = .ok (.getfield 108, 3) := by decide +kernel
theorem d_1_3_7 : decode prog_1_method_3_code 7 = .ok (.istore_n 1, 1) := by decide +kernel
theorem d_1_3_8 : decode prog_1_method_3_code 8 = .ok (.aload_n 0, 1) := by decide +kernel
theorem d_1_3_9 : decode prog_1_method_3_code 9 = .ok (.getfield 14, 3) := by decide +kernel
theorem d_1_3_12 : decode prog_1_method_3_code 12 = .ok (.invokevirtual 115, 3) := by decide +kernel
theorem d_1_3_15 : decode prog_1_method_3_code 15 = .ok (.iload_n 1, 1) := by decide +kernel
theorem d_1_3_16 : decode prog_1_method_3_code 16 = .ok (.ireturn, 1) := by decide +kernel
def y_NH_wipe : MethodName := ⟨"NumberHouse", "wipe", "()I"⟩
def F_NH_wipe (t0_0 : Int32) (t1_0 : (Nat → Int64)) : Int32 × Int32 := (t0_0, ((F_She_clear (4100 : Int32) (513 : Int32) (4100 : Int32) t0_0) : Int32))
set_option maxRecDepth 100000 in
set_option maxHeartbeats 4000000 in
theorem X_NH_wipe (l : Launch) (D : va_G) (g : Nat → ClassId) (q : Nat → Nat) (ws : va_W) (hI : q_I (nsh g q) q ws) (t0_0 : Int32) (hT0 : ws[1]? = (some (q 1, .inr (1, [.ref (q 2), .int 4100, .int t0_0])) : Option (Nat × va_E))) (t1_0 : (Nat → Int64)) (hT1 : ws[2]? = (some (q 2, .inl (g 1, (513 : Int32).toNatClampNeg, .inr (.inl t1_0))) : Option (Nat × va_E))) : q_mI l y_NH_wipe prog_1_method_3_code 2 (.int) 2 0 0 D g [.ref (q 0)] ws (fun r u => q_I (nsh g q) q u ∧ q_un ws u [1] ∧ ∃ (u0_0 : Int32), u[1]? = (some (q 1, .inr (1, [.ref (q 2), .int 4100, .int u0_0])) : Option (Nat × va_E)) ∧ (0 ≤ u0_0.toInt) ∧ (u0_0.toInt ≤ 0) ∧ (t0_0.toInt ≤ r.toInt) ∧ (r.toInt ≤ t0_0.toInt) ∧ (r, u0_0) = (F_NH_wipe t0_0 t1_0)) := by
  intro sz
  refine q_into (by decide) (Nat.le_of_ble_eq_true rfl) ?_
  intro p e s m below meth c ls hsz C0 V hl
  have hx := C0.1
  have hb := C0.2.1
  have btt0_0 := n_shW hI (n_h1 g q) hT0
  clear btt0_0
  have hF : q_un ws ws [1] := q_u0
  have hl : lv_has ls 2 [(0, .ref (q 0))] := hl
  refine lv_aload_n hx hb d_1_3_0 rfl (lv_at hl 0 rfl) ?_
  have hO6 := n_o0 hI
  refine q_get (ci := 0) (j := 0) (v := .ref (q 1)) C0 V i_NH rfl rfl hO6 (by decide) w_424 rfl d_1_3_1 ?_
  refine q_get (ci := 1) (j := 2) (v := .int t0_0) C0 V i_She rfl rfl hT0 (by decide) w_56 rfl d_1_3_4 ?_
  refine lv_istore_n (lv' := [(1, .int t0_0), (0, .ref (q 0))]) hx hb d_1_3_7 rfl hl (by decide) rfl (fun ls hl => ?_)
  refine lv_aload_n hx hb d_1_3_8 rfl (lv_at hl 1 rfl) ?_
  refine q_get (ci := 0) (j := 0) (v := .ref (q 1)) C0 V i_NH rfl rfl hO6 (by decide) w_424 rfl d_1_3_9 ?_
  refine q_gov V (q_runV (As := []) (rest := []) (d := 1) (mc := 0) (ms := 0) (ci := 1) C0 V rfl LV_NH_115 (X_She_clear l D g q ws 1 4100 513 4100 (n_h1 g q)  hI t0_0 hT0  _) rfl rfl hT0 rfl hl.1 rfl (Nat.le_of_ble_eq_true rfl) ⟨by decide, by decide⟩ ⟨Nat.le_of_ble_eq_true rfl, Nat.le_of_ble_eq_true rfl⟩ d_1_3_12) (fun u7 H locs hp8 V => ?_)
  obtain ⟨hI, hZ9⟩ := hp8
  obtain ⟨hu14, hZ9⟩ := hZ9
  obtain ⟨y10, hZ9⟩ := hZ9
  obtain ⟨hO9, hZ9⟩ := hZ9
  obtain ⟨b11, hZ9⟩ := hZ9
  obtain ⟨b12, hE13⟩ := hZ9
  replace hO9 : u7[1]? = (some (q 1, .inr (1, [.ref (q 2), .int 4100, .int y10])) : Option (Nat × va_E)) := hO9
  have e15 : y10 = (F_She_clear (4100 : Int32) (513 : Int32) (4100 : Int32) t0_0) := hE13
  replace b11 : q_F (0 ≤ y10.toInt) := b11
  replace b12 : q_F (y10.toInt ≤ 0) := b12
  replace hF := q_uc hF hu14 (by simp)
  refine lv_iload_n hx hb d_1_3_15 rfl (lv_at hl 0 rfl) ?_
  exact q_reti C0 V (⟨hI, hF, y10, hO9, (show 0 ≤ y10.toInt from (by first | with_reducible exact q_fe b11 | (have t1 : 0 ≤ y10.toInt := b11; omega))), (show y10.toInt ≤ 0 from (by first | with_reducible exact q_fe b12 | (have t1 : y10.toInt ≤ 0 := b12; omega))), (show t0_0.toInt ≤ t0_0.toInt from (by omega)), (show t0_0.toInt ≤ t0_0.toInt from (by omega)), (show (t0_0, y10) = (F_NH_wipe t0_0 t1_0) from (by rw [e15, F_NH_wipe.eq_1]))⟩) d_1_3_16

/-! NumberHouse, exactly: s2.paperAt -/
theorem d_1_21_0 : decode prog_1_method_21_code 0 = .ok (.lconst 0, 1) := by decide +kernel
theorem d_1_21_1 : decode prog_1_method_21_code 1 = .ok (.lstore_n 2, 1) := by decide +kernel
theorem d_1_21_2 : decode prog_1_method_21_code 2 = .ok (.iconst 0, 1) := by decide +kernel
theorem d_1_21_3 : decode prog_1_method_21_code 3 = .ok (.istore 4, 2) := by decide +kernel
theorem d_1_21_5 : decode prog_1_method_21_code 5 = .ok (.iload 4, 2) := by decide +kernel
theorem d_1_21_7 : decode prog_1_method_21_code 7 = .ok (.bipush 8, 2) := by decide +kernel
theorem d_1_21_9 : decode prog_1_method_21_code 9 = .ok (.if_icmp .ge 32, 3) := by decide +kernel
theorem d_1_21_41 : decode prog_1_method_21_code 41 = .ok (.lload_n 2, 1) := by decide +kernel
theorem d_1_21_42 : decode prog_1_method_21_code 42 = .ok (.lreturn, 1) := by decide +kernel
theorem d_1_21_12 : decode prog_1_method_21_code 12 = .ok (.lload_n 2, 1) := by decide +kernel
theorem d_1_21_13 : decode prog_1_method_21_code 13 = .ok (.aload_n 0, 1) := by decide +kernel
theorem d_1_21_14 : decode prog_1_method_21_code 14 = .ok (.getfield 18, 3) := by decide +kernel
theorem d_1_21_17 : decode prog_1_method_21_code 17 = .ok (.iload_n 1, 1) := by decide +kernel
theorem d_1_21_18 : decode prog_1_method_21_code 18 = .ok (.i2l, 1) := by decide +kernel
theorem d_1_21_19 : decode prog_1_method_21_code 19 = .ok (.iload 4, 2) := by decide +kernel
theorem d_1_21_21 : decode prog_1_method_21_code 21 = .ok (.i2l, 1) := by decide +kernel
theorem d_1_21_22 : decode prog_1_method_21_code 22 = .ok (.ladd, 1) := by decide +kernel
theorem d_1_21_23 : decode prog_1_method_21_code 23 = .ok (.invokevirtual 366, 3) := by decide +kernel
set_option maxRecDepth 100000 in
theorem w_479 : (Cond.methodLink "NumberHouse" (366 : Nat) ({ cls := "NumberHouse$Sheet", name := "at", desc := "(J)I" } : MethodName)) ∈ q_tbl := q_of2 239 rfl (by decide +kernel)
theorem LV_NH_366 : q_LV "NumberHouse" 366 y_She_at prog_11_method_8_code 3 (some .int) 1 := ⟨w_482, w_2, w_479, w_480, w_481, ⟨by decide, by decide, by decide +kernel⟩⟩
theorem d_1_21_26 : decode prog_1_method_21_code 26 = .ok (.i2l, 1) := by decide +kernel
theorem d_1_21_27 : decode prog_1_method_21_code 27 = .ok (.bipush 8, 2) := by decide +kernel
theorem d_1_21_29 : decode prog_1_method_21_code 29 = .ok (.iload 4, 2) := by decide +kernel
theorem d_1_21_31 : decode prog_1_method_21_code 31 = .ok (.imul, 1) := by decide +kernel
theorem d_1_21_32 : decode prog_1_method_21_code 32 = .ok (.lshl, 1) := by decide +kernel
theorem d_1_21_33 : decode prog_1_method_21_code 33 = .ok (.lor, 1) := by decide +kernel
theorem d_1_21_34 : decode prog_1_method_21_code 34 = .ok (.lstore_n 2, 1) := by decide +kernel
theorem d_1_21_35 : decode prog_1_method_21_code 35 = .ok (.iinc 4 1, 3) := by decide +kernel
theorem d_1_21_38 : decode prog_1_method_21_code 38 = .ok (.goto (-33), 3) := by decide +kernel
def y_NH_paperAt : MethodName := ⟨"NumberHouse", "paperAt", "(I)J"⟩
def F_NH_paperAt_L5 (x2 : Int32) (t0_0 : Int32) (t1_0 : (Nat → Int64)) : Nat → Int32 → Int64 → Int64
  | 0, _, _ => default
  | fm + 1, lx8, lx9 => if (8 : Int32) ≤ lx8 then (lx9) else (F_NH_paperAt_L5 x2 t0_0 t1_0 fm (lx8 + 1 : Int32) (lx9 ||| ((((F_She_at_p (11008 : Int32) (1376 : Int32) (1000000 : Int32) ((x2.toInt64 : Int64) + (lx8.toInt64 : Int64) : Int64) t0_0 t1_0) : Int32).toInt64 : Int64) <<< ((8 * lx8 : Int32).toInt64 &&& 63) : Int64) : Int64))
def F_NH_paperAt (x2 : Int32) (t0_0 : Int32) (t1_0 : (Nat → Int64)) : Int64 := F_NH_paperAt_L5 x2 t0_0 t1_0 ((8 - (0 : Int32).toInt).toNat + 1) 0 0
set_option maxRecDepth 100000 in
set_option maxHeartbeats 4000000 in
theorem X_NH_paperAt (l : Launch) (D : va_G) (g : Nat → ClassId) (q : Nat → Nat) (ws : va_W) (x2 : Int32) (hI : q_I (nsh g q) q ws) (t0_0 : Int32) (hT0 : ws[3]? = (some (q 3, .inr (1, [.ref (q 4), .int 11008, .int t0_0])) : Option (Nat × va_E))) (t1_0 : (Nat → Int64)) (hT1 : ws[4]? = (some (q 4, .inl (g 1, (1376 : Int32).toNatClampNeg, .inr (.inl t1_0))) : Option (Nat × va_E))) : q_mL l y_NH_paperAt prog_1_method_21_code 5 2 0 0 D g [.ref (q 0), .int x2] ws (fun r u => ws = u ∧ r = (F_NH_paperAt x2 t0_0 t1_0)) := by
  intro sz
  refine q_into (by decide) (Nat.le_of_ble_eq_true rfl) ?_
  intro p e s m below meth c ls hsz C0 V hl
  have hx := C0.1
  have hb := C0.2.1
  have btt0_0 := n_shW hI (n_h3 g q) hT0
  clear btt0_0
  have hl : lv_has ls 5 [(0, .ref (q 0)), (1, .int x2)] := hl
  refine lv_lconst (v := 0) hx hb d_1_21_0 (by decide) ?_
  refine lv_lstore_n (lv' := [(2, .long 0), (0, .ref (q 0)), (1, .int x2)]) hx hb d_1_21_1 rfl hl (by decide) rfl (fun ls hl => ?_)
  refine lv_iconst (v := 0) hx hb d_1_21_2 (by decide) ?_
  refine lv_istore (lv' := [(4, .int 0), (2, .long 0), (0, .ref (q 0)), (1, .int x2)]) hx hb d_1_21_3 hl (by decide) rfl (fun ls hl => ?_)
  refine q_loop (X := Int32 × Int64) (fun z H locs ls _ => q_F (0 ≤ z.1.toInt) ∧ q_F (z.1.toInt ≤ 8) ∧ q_Wd D g (va_A ws sz) s ws H locs ∧ lv_has ls 5 [(4, .int z.1), (2, .long z.2), (0, .ref (q 0)), (1, .int x2)] ∧ (∃ n, (8 - z.1.toInt).toNat < n ∧ F_NH_paperAt_L5 x2 t0_0 t1_0 n z.1 z.2 = (F_NH_paperAt x2 t0_0 t1_0))) (fun z => (8 - z.1.toInt).toNat) ?_ ((0 : Int32), (0 : Int64)) _ _ _ ws ⟨(show q_F (0 ≤ 0) from (show 0 ≤ 0 from by omega)), (show q_F (0 ≤ 8) from (show 0 ≤ 8 from by omega)), V, q_lw hl (q_lw1 0 rfl (q_lw1 1 rfl (q_lw1 2 rfl (q_lw1 3 rfl q_lw0)))), ⟨((8 - (0 : Int32).toInt).toNat + 1), Nat.lt_succ_self _, (show F_NH_paperAt_L5 x2 t0_0 t1_0 ((8 - (0 : Int32).toInt).toNat + 1) 0 0 = (F_NH_paperAt x2 t0_0 t1_0) from (by rw [F_NH_paperAt.eq_1]))⟩⟩
  rintro ⟨lx8, lx9⟩ H locs ls _ ⟨i10, i11, V, hl, ⟨fu15, hf16, hR13⟩⟩ ih12
  obtain ⟨fm17, rfl⟩ : ∃ m, fu15 = m + 1 := ⟨fu15 - 1, by omega⟩
  replace i10 : q_F (0 ≤ lx8.toInt) := i10
  replace i11 : q_F (lx8.toInt ≤ 8) := i11
  replace hl : lv_has ls 5 [(4, .int lx8), (2, .long lx9), (0, .ref (q 0)), (1, .int x2)] := hl
  refine lv_iload hx hb d_1_21_5 (lv_at hl 0 rfl) ?_
  refine lv_bipush (v := 8) hx hb d_1_21_7 (by decide) ?_
  refine lv_icmp_ge (tgt := 41) hx hb d_1_21_9 (by decide) (fun c18 => ?_) (fun c18 => ?_)
  ·
    refine lv_lload_n hx hb d_1_21_41 rfl (lv_at hl 1 rfl) ?_
    exact q_retl C0 V (⟨rfl, (show lx9 = (F_NH_paperAt x2 t0_0 t1_0) from Eq.trans (by rw [F_NH_paperAt_L5.eq_2, if_pos c18]) hR13)⟩) d_1_21_42
  ·
    have b20 : q_F (lx8.toInt < 8) := (q_nleI c18)
    refine lv_lload_n hx hb d_1_21_12 rfl (lv_at hl 1 rfl) ?_
    refine lv_aload_n hx hb d_1_21_13 rfl (lv_at hl 2 rfl) ?_
    have hO21 := n_o0 hI
    refine q_get (ci := 0) (j := 1) (v := .ref (q 3)) C0 V i_NH rfl rfl hO21 (by decide) w_425 rfl d_1_21_14 ?_
    refine lv_iload_n hx hb d_1_21_17 rfl (lv_at hl 3 rfl) ?_
    refine lv_i2l hx hb d_1_21_18 rfl ?_
    obtain ⟨j22, e23⟩ := q_nm (x2.toInt64 : Int64)
    refine q_tl (v := j22) e23 ?_
    refine lv_iload hx hb d_1_21_19 (lv_at hl 0 rfl) ?_
    refine lv_i2l hx hb d_1_21_21 rfl ?_
    obtain ⟨j25, e26⟩ := q_nm (lx8.toInt64 : Int64)
    refine q_tl (v := j25) e26 ?_
    refine lv_ladd hx hb d_1_21_22 ?_
    obtain ⟨j28, e29⟩ := q_nm (j22 + j25 : Int64)
    refine q_tl (v := j28) e29 ?_
    refine q_goi V (q_runV (As := [.long j28]) (rest := [.long lx9]) (d := 1) (mc := 0) (ms := 0) (ci := 1) C0 V rfl LV_NH_366 (X_She_at_p l D g q ws 3 11008 1376 1000000 (n_h3 g q) j28 hI t0_0 hT0 t1_0 hT1  _) rfl rfl hT0 rfl hl.1 rfl (Nat.le_of_ble_eq_true rfl) ⟨by decide, by decide⟩ ⟨Nat.le_of_ble_eq_true rfl, Nat.le_of_ble_eq_true rfl⟩ d_1_21_23) (fun a33 u31 H locs hp32 V => ?_)
    obtain ⟨rfl, b34, b35, b36, hE37⟩ := hp32
    have e38 : a33 = (F_She_at_p (11008 : Int32) (1376 : Int32) (1000000 : Int32) j28 t0_0 t1_0) := hE37
    clear b34
    clear b35
    clear b36
    refine lv_i2l hx hb d_1_21_26 rfl ?_
    obtain ⟨j39, e40⟩ := q_nm (a33.toInt64 : Int64)
    refine q_tl (v := j39) e40 ?_
    refine lv_bipush (v := 8) hx hb d_1_21_27 (by decide) ?_
    refine lv_iload hx hb d_1_21_29 (lv_at hl 0 rfl) ?_
    refine lv_imul hx hb d_1_21_31 ?_
    obtain ⟨a42, e43⟩ := q_nm (8 * lx8 : Int32)
    refine q_ti (v := a42) e43 ?_
    refine lv_lshl hx hb d_1_21_32 rfl ?_
    obtain ⟨j45, e46⟩ := q_nm (j39 <<< (a42.toInt64 &&& 63) : Int64)
    refine q_tl (v := j45) e46 ?_
    refine lv_lor hx hb d_1_21_33 ?_
    obtain ⟨j47, e48⟩ := q_nm (lx9 ||| j45 : Int64)
    refine q_tl (v := j47) e48 ?_
    refine lv_lstore_n (lv' := [(2, .long j47), (4, .int lx8), (0, .ref (q 0)), (1, .int x2)]) hx hb d_1_21_34 rfl hl (by decide) rfl (fun ls hl => ?_)
    obtain ⟨a49, e50⟩ := q_nm (lx8 + 1 : Int32)
    have b51 : q_F (a49.toInt = lx8.toInt + 1) := (by rw [← e50]; exact q_addI (y := 1) rfl (by decide) (by have t1 : 0 ≤ lx8.toInt := i10; have t2 : lx8.toInt ≤ 8 := i11; omega) (by have t1 : 0 ≤ lx8.toInt := i10; have t2 : lx8.toInt ≤ 8 := i11; omega))
    refine lv_iinc (v := a49) (lv' := [(4, .int a49), (2, .long j47), (0, .ref (q 0)), (1, .int x2)]) hx hb d_1_21_35 hl (k := 1) rfl (e50) (by decide) rfl (fun ls hl => ?_)
    refine lv_goto (tgt := 5) hx hb d_1_21_38 (by decide) ?_
    exact ih12 ((a49 : Int32), (j47 : Int64)) _ _ _ ws (show (8 - a49.toInt).toNat < (8 - lx8.toInt).toNat from by have t1 : a49.toInt = lx8.toInt + 1 := b51; have t2 : lx8.toInt ≤ 8 := i11; have t3 : lx8.toInt < 8 := b20; omega) ⟨(show q_F (0 ≤ a49.toInt) from (show 0 ≤ a49.toInt from by have t1 : 0 ≤ lx8.toInt := i10; have t2 : a49.toInt = lx8.toInt + 1 := b51; omega)), (show q_F (a49.toInt ≤ 8) from (show a49.toInt ≤ 8 from by have t1 : lx8.toInt < 8 := b20; have t2 : a49.toInt = lx8.toInt + 1 := b51; omega)), V, q_lw hl (q_lw1 0 rfl (q_lw1 1 rfl (q_lw1 2 rfl (q_lw1 3 rfl q_lw0)))), ⟨fm17, Nat.lt_of_lt_of_le (show (8 - a49.toInt).toNat < (8 - lx8.toInt).toNat from by have t1 : a49.toInt = lx8.toInt + 1 := b51; have t2 : lx8.toInt ≤ 8 := i11; have t3 : lx8.toInt < 8 := b20; omega) (Nat.le_of_lt_succ hf16), (show F_NH_paperAt_L5 x2 t0_0 t1_0 fm17 a49 j47 = (F_NH_paperAt x2 t0_0 t1_0) from Eq.trans (by rw [← e50, ← e48, ← e46, ← e43, ← e40, e38, ← e29, ← e26, ← e23, F_NH_paperAt_L5.eq_2, if_neg c18]) hR13)⟩⟩

