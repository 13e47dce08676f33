/-! NumberHouse, exactly: t2.format -/
theorem d_1_20_0 : decode prog_1_method_20_code 0 = .ok (.aload_n 0, 1) := by decide +kernel
theorem d_1_20_1 : decode prog_1_method_20_code 1 = .ok (.getfield 14, 3) := by decide +kernel
theorem d_1_20_4 : decode prog_1_method_20_code 4 = .ok (.getfield 108, 3) := by decide +kernel
theorem d_1_20_7 : decode prog_1_method_20_code 7 = .ok (.sipush 256, 3) := by decide +kernel
theorem d_1_20_10 : decode prog_1_method_20_code 10 = .ok (.if_icmp .le 14, 3) := by decide +kernel
theorem d_1_20_24 : decode prog_1_method_20_code 24 = .ok (.aload_n 0, 1) := by decide +kernel
theorem d_1_20_25 : decode prog_1_method_20_code 25 = .ok (.getfield 98, 3) := by decide +kernel
theorem d_1_20_28 : decode prog_1_method_20_code 28 = .ok (.aload_n 0, 1) := by decide +kernel
theorem d_1_20_29 : decode prog_1_method_20_code 29 = .ok (.getfield 18, 3) := by decide +kernel
theorem d_1_20_32 : decode prog_1_method_20_code 32 = .ok (.invokevirtual 362, 3) := by decide +kernel
set_option maxRecDepth 100000 in
theorem w_1734 : (Cond.code ({ cls := "NumberHouse$Printer", name := "run", desc := "(LNumberHouse$Sheet;)I" } : MethodName) prog_9_method_5_code (6 : Nat) (some .int)) ∈ q_tbl := q_of8 54 rfl (by decide +kernel)
set_option maxRecDepth 100000 in
theorem w_1731 : (Cond.methodLink "NumberHouse" (362 : Nat) ({ cls := "NumberHouse$Printer", name := "run", desc := "(LNumberHouse$Sheet;)I" } : MethodName)) ∈ q_tbl := q_of8 51 rfl (by decide +kernel)
set_option maxRecDepth 100000 in
theorem w_1732 : (Cond.instanceMethod ({ cls := "NumberHouse$Printer", name := "run", desc := "(LNumberHouse$Sheet;)I" } : MethodName)) ∈ q_tbl := q_of8 52 rfl (by decide +kernel)
set_option maxRecDepth 100000 in
theorem w_1733 : (Cond.selects "NumberHouse$Printer" ({ cls := "NumberHouse$Printer", name := "run", desc := "(LNumberHouse$Sheet;)I" } : MethodName) ({ cls := "NumberHouse$Printer", name := "run", desc := "(LNumberHouse$Sheet;)I" } : MethodName)) ∈ q_tbl := q_of8 53 rfl (by decide +kernel)
theorem LV_NH_362 : q_LV "NumberHouse" 362 y_Pri_run prog_9_method_5_code 6 (some .int) 1 := ⟨w_1734, w_12, w_1731, w_1732, w_1733, ⟨by decide, by decide, by decide +kernel⟩⟩
theorem d_1_20_35 : decode prog_1_method_20_code 35 = .ok (.istore_n 1, 1) := by decide +kernel
theorem d_1_20_36 : decode prog_1_method_20_code 36 = .ok (.iload_n 1, 1) := by decide +kernel
theorem d_1_20_37 : decode prog_1_method_20_code 37 = .ok (.ifCond .lt 10, 3) := by decide +kernel
theorem d_1_20_47 : decode prog_1_method_20_code 47 = .ok (.iload_n 1, 1) := by decide +kernel
theorem d_1_20_48 : decode prog_1_method_20_code 48 = .ok (.ireturn, 1) := by decide +kernel
theorem d_1_20_40 : decode prog_1_method_20_code 40 = .ok (.aload_n 0, 1) := by decide +kernel
theorem d_1_20_41 : decode prog_1_method_20_code 41 = .ok (.getfield 14, 3) := by decide +kernel
theorem d_1_20_44 : decode prog_1_method_20_code 44 = .ok (.invokevirtual 115, 3) := by decide +kernel
theorem d_1_20_13 : decode prog_1_method_20_code 13 = .ok (.new 350, 3) := by decide +kernel
theorem d_1_20_16 : decode prog_1_method_20_code 16 = .ok (.dup, 1) := by decide +kernel
theorem d_1_20_17 : decode prog_1_method_20_code 17 = .ok (.ldc_w 360, 3) := by decide +kernel
theorem d_1_20_20 : decode prog_1_method_20_code 20 = .ok (.invokespecial 354, 3) := by decide +kernel
theorem d_1_20_23 : decode prog_1_method_20_code 23 = .ok (.athrow, 1) := by decide +kernel
set_option maxRecDepth 100000 in
theorem wo_1730 : (Cond.stringRef "NumberHouse" (360 : Nat) "the tape has more than 256 bytes") ∈ q_odd := q_oo8 50 rfl (by decide +kernel)
def y_NH_format : MethodName := ⟨"NumberHouse", "format", "()I"⟩
def F_NH_format_c32 (t0_0 : Int32) (t1_0 : (Nat → Int64)) (t2_0 : Int32) (t3_0 : (Nat → Int64)) (t4_0 : Int32) (t4_1 : Int32) (t4_2 : Int32) (t4_3 : Int32) (t5_0 : (Nat → Int32)) (t6_0 : (Nat → Int64)) (t7_0 : (Nat → Int32)) (t8_0 : Int32) (t8_1 : Int32) (t9_0 : (Nat → Int32)) (t10_0 : Int32) (t11_0 : (Nat → Int64)) (t12_0 : Int32) (t12_1 : Int32) (t12_2 : Int32) (t12_3 : Int32) (t12_4 : Int32) (t12_5 : Int32) (t12_6 : Int32) (t13_0 : Int32) (t14_0 : (Nat → Int64)) (t15_0 : Int32) (t16_0 : (Nat → Int64)) (t17_0 : Int32) (t18_0 : (Nat → Int64)) (t19_0 : Int32) (t20_0 : (Nat → Int64)) (t21_0 : Int32) (t22_0 : (Nat → Int64)) (t23_0 : Int32) (t24_0 : (Nat → Int64)) (t25_0 : Int32) (t26_0 : (Nat → Int64)) (t27_0 : Int32) (t28_0 : (Nat → Int64)) (t29_0 : Int32) (t30_0 : (Nat → Int64)) (p147 : (Int32 × Int32 × (Nat → Int64) × Int32 × Int32 × Int32 × Int32 × Int32 × Int32 × (Nat → Int32) × Int32 × (Nat → Int64) × Int32 × Int32 × Int32 × Int32 × Int32 × Int32 × Int32)) : Int32 × Int32 × Int32 × Int32 × (Nat → Int64) × Int32 × Int32 × Int32 × Int32 × Int32 × Int32 × (Nat → Int32) × Int32 × (Nat → Int64) × Int32 × Int32 × Int32 × Int32 × Int32 × Int32 × Int32 := if (p147.1 : Int32) < (0 : Int32) then (((0 : Int32), (p147.1 : Int32), t0_0, (p147.2.1 : Int32), (p147.2.2.1 : (Nat → Int64)), (p147.2.2.2.1 : Int32), (p147.2.2.2.2.1 : Int32), (p147.2.2.2.2.2.1 : Int32), (p147.2.2.2.2.2.2.1 : Int32), (p147.2.2.2.2.2.2.2.1 : Int32), (p147.2.2.2.2.2.2.2.2.1 : Int32), (p147.2.2.2.2.2.2.2.2.2.1 : (Nat → Int32)), (p147.2.2.2.2.2.2.2.2.2.2.1 : Int32), (p147.2.2.2.2.2.2.2.2.2.2.2.1 : (Nat → Int64)), (p147.2.2.2.2.2.2.2.2.2.2.2.2.1 : Int32), (p147.2.2.2.2.2.2.2.2.2.2.2.2.2.1 : Int32), (p147.2.2.2.2.2.2.2.2.2.2.2.2.2.2.1 : Int32), (p147.2.2.2.2.2.2.2.2.2.2.2.2.2.2.2.1 : Int32), (p147.2.2.2.2.2.2.2.2.2.2.2.2.2.2.2.2.1 : Int32), (p147.2.2.2.2.2.2.2.2.2.2.2.2.2.2.2.2.2.1 : Int32), (p147.2.2.2.2.2.2.2.2.2.2.2.2.2.2.2.2.2.2 : Int32))) else (((0 : Int32), (p147.1 : Int32), ((F_She_clear (4100 : Int32) (513 : Int32) (4100 : Int32) t0_0) : Int32), (p147.2.1 : Int32), (p147.2.2.1 : (Nat → Int64)), (p147.2.2.2.1 : Int32), (p147.2.2.2.2.1 : Int32), (p147.2.2.2.2.2.1 : Int32), (p147.2.2.2.2.2.2.1 : Int32), (p147.2.2.2.2.2.2.2.1 : Int32), (p147.2.2.2.2.2.2.2.2.1 : Int32), (p147.2.2.2.2.2.2.2.2.2.1 : (Nat → Int32)), (p147.2.2.2.2.2.2.2.2.2.2.1 : Int32), (p147.2.2.2.2.2.2.2.2.2.2.2.1 : (Nat → Int64)), (p147.2.2.2.2.2.2.2.2.2.2.2.2.1 : Int32), (p147.2.2.2.2.2.2.2.2.2.2.2.2.2.1 : Int32), (p147.2.2.2.2.2.2.2.2.2.2.2.2.2.2.1 : Int32), (p147.2.2.2.2.2.2.2.2.2.2.2.2.2.2.2.1 : Int32), (p147.2.2.2.2.2.2.2.2.2.2.2.2.2.2.2.2.1 : Int32), (p147.2.2.2.2.2.2.2.2.2.2.2.2.2.2.2.2.2.1 : Int32), (p147.2.2.2.2.2.2.2.2.2.2.2.2.2.2.2.2.2.2 : Int32)))
def F_NH_format (t0_0 : Int32) (t1_0 : (Nat → Int64)) (t2_0 : Int32) (t3_0 : (Nat → Int64)) (t4_0 : Int32) (t4_1 : Int32) (t4_2 : Int32) (t4_3 : Int32) (t5_0 : (Nat → Int32)) (t6_0 : (Nat → Int64)) (t7_0 : (Nat → Int32)) (t8_0 : Int32) (t8_1 : Int32) (t9_0 : (Nat → Int32)) (t10_0 : Int32) (t11_0 : (Nat → Int64)) (t12_0 : Int32) (t12_1 : Int32) (t12_2 : Int32) (t12_3 : Int32) (t12_4 : Int32) (t12_5 : Int32) (t12_6 : Int32) (t13_0 : Int32) (t14_0 : (Nat → Int64)) (t15_0 : Int32) (t16_0 : (Nat → Int64)) (t17_0 : Int32) (t18_0 : (Nat → Int64)) (t19_0 : Int32) (t20_0 : (Nat → Int64)) (t21_0 : Int32) (t22_0 : (Nat → Int64)) (t23_0 : Int32) (t24_0 : (Nat → Int64)) (t25_0 : Int32) (t26_0 : (Nat → Int64)) (t27_0 : Int32) (t28_0 : (Nat → Int64)) (t29_0 : Int32) (t30_0 : (Nat → Int64)) : Int32 × Int32 × Int32 × Int32 × (Nat → Int64) × Int32 × Int32 × Int32 × Int32 × Int32 × Int32 × (Nat → Int32) × Int32 × (Nat → Int64) × Int32 × Int32 × Int32 × Int32 × Int32 × Int32 × Int32 := if t0_0 ≤ (256 : Int32) then (F_NH_format_c32 t0_0 t1_0 t2_0 t3_0 t4_0 t4_1 t4_2 t4_3 t5_0 t6_0 t7_0 t8_0 t8_1 t9_0 t10_0 t11_0 t12_0 t12_1 t12_2 t12_3 t12_4 t12_5 t12_6 t13_0 t14_0 t15_0 t16_0 t17_0 t18_0 t19_0 t20_0 t21_0 t22_0 t23_0 t24_0 t25_0 t26_0 t27_0 t28_0 t29_0 t30_0 ((F_Pri_run t0_0 t1_0 t2_0 t3_0 t4_0 t4_1 t4_2 t4_3 t5_0 t6_0 t7_0 t8_0 t8_1 t9_0 t10_0 t11_0 t12_0 t12_1 t12_2 t12_3 t12_4 t12_5 t12_6 t13_0 t14_0 t15_0 t16_0 t17_0 t18_0 t19_0 t20_0 t21_0 t22_0 t23_0 t24_0 t25_0 t26_0 t27_0 t28_0 t29_0 t30_0) : (Int32 × Int32 × (Nat → Int64) × Int32 × Int32 × Int32 × Int32 × Int32 × Int32 × (Nat → Int32) × Int32 × (Nat → Int64) × Int32 × Int32 × Int32 × Int32 × Int32 × Int32 × Int32))) else (((3 : Int32), (0 : Int32), t0_0, t2_0, t3_0, t4_0, t4_1, t4_2, t4_3, t8_0, t8_1, t9_0, t10_0, t11_0, t12_0, t12_1, t12_2, t12_3, t12_4, t12_5, t12_6))
def S_NH_format_c32 (t0_0 : Int32) (t1_0 : (Nat → Int64)) (t2_0 : Int32) (t3_0 : (Nat → Int64)) (t4_0 : Int32) (t4_1 : Int32) (t4_2 : Int32) (t4_3 : Int32) (t5_0 : (Nat → Int32)) (t6_0 : (Nat → Int64)) (t7_0 : (Nat → Int32)) (t8_0 : Int32) (t8_1 : Int32) (t9_0 : (Nat → Int32)) (t10_0 : Int32) (t11_0 : (Nat → Int64)) (t12_0 : Int32) (t12_1 : Int32) (t12_2 : Int32) (t12_3 : Int32) (t12_4 : Int32) (t12_5 : Int32) (t12_6 : Int32) (t13_0 : Int32) (t14_0 : (Nat → Int64)) (t15_0 : Int32) (t16_0 : (Nat → Int64)) (t17_0 : Int32) (t18_0 : (Nat → Int64)) (t19_0 : Int32) (t20_0 : (Nat → Int64)) (t21_0 : Int32) (t22_0 : (Nat → Int64)) (t23_0 : Int32) (t24_0 : (Nat → Int64)) (t25_0 : Int32) (t26_0 : (Nat → Int64)) (t27_0 : Int32) (t28_0 : (Nat → Int64)) (t29_0 : Int32) (t30_0 : (Nat → Int64)) (p147 : (Int32 × Int32 × (Nat → Int64) × Int32 × Int32 × Int32 × Int32 × Int32 × Int32 × (Nat → Int32) × Int32 × (Nat → Int64) × Int32 × Int32 × Int32 × Int32 × Int32 × Int32 × Int32)) : Prop := if (p147.1 : Int32) < (0 : Int32) then (True) else (True)
def S_NH_format (t0_0 : Int32) (t1_0 : (Nat → Int64)) (t2_0 : Int32) (t3_0 : (Nat → Int64)) (t4_0 : Int32) (t4_1 : Int32) (t4_2 : Int32) (t4_3 : Int32) (t5_0 : (Nat → Int32)) (t6_0 : (Nat → Int64)) (t7_0 : (Nat → Int32)) (t8_0 : Int32) (t8_1 : Int32) (t9_0 : (Nat → Int32)) (t10_0 : Int32) (t11_0 : (Nat → Int64)) (t12_0 : Int32) (t12_1 : Int32) (t12_2 : Int32) (t12_3 : Int32) (t12_4 : Int32) (t12_5 : Int32) (t12_6 : Int32) (t13_0 : Int32) (t14_0 : (Nat → Int64)) (t15_0 : Int32) (t16_0 : (Nat → Int64)) (t17_0 : Int32) (t18_0 : (Nat → Int64)) (t19_0 : Int32) (t20_0 : (Nat → Int64)) (t21_0 : Int32) (t22_0 : (Nat → Int64)) (t23_0 : Int32) (t24_0 : (Nat → Int64)) (t25_0 : Int32) (t26_0 : (Nat → Int64)) (t27_0 : Int32) (t28_0 : (Nat → Int64)) (t29_0 : Int32) (t30_0 : (Nat → Int64)) : Prop := if t0_0 ≤ (256 : Int32) then ((True ∧ S_Pri_run t0_0 t1_0 t2_0 t3_0 t4_0 t4_1 t4_2 t4_3 t5_0 t6_0 t7_0 t8_0 t8_1 t9_0 t10_0 t11_0 t12_0 t12_1 t12_2 t12_3 t12_4 t12_5 t12_6 t13_0 t14_0 t15_0 t16_0 t17_0 t18_0 t19_0 t20_0 t21_0 t22_0 t23_0 t24_0 t25_0 t26_0 t27_0 t28_0 t29_0 t30_0) ∧ (S_NH_format_c32 t0_0 t1_0 t2_0 t3_0 t4_0 t4_1 t4_2 t4_3 t5_0 t6_0 t7_0 t8_0 t8_1 t9_0 t10_0 t11_0 t12_0 t12_1 t12_2 t12_3 t12_4 t12_5 t12_6 t13_0 t14_0 t15_0 t16_0 t17_0 t18_0 t19_0 t20_0 t21_0 t22_0 t23_0 t24_0 t25_0 t26_0 t27_0 t28_0 t29_0 t30_0 ((F_Pri_run t0_0 t1_0 t2_0 t3_0 t4_0 t4_1 t4_2 t4_3 t5_0 t6_0 t7_0 t8_0 t8_1 t9_0 t10_0 t11_0 t12_0 t12_1 t12_2 t12_3 t12_4 t12_5 t12_6 t13_0 t14_0 t15_0 t16_0 t17_0 t18_0 t19_0 t20_0 t21_0 t22_0 t23_0 t24_0 t25_0 t26_0 t27_0 t28_0 t29_0 t30_0) : (Int32 × Int32 × (Nat → Int64) × Int32 × Int32 × Int32 × Int32 × Int32 × Int32 × (Nat → Int32) × Int32 × (Nat → Int64) × Int32 × Int32 × Int32 × Int32 × Int32 × Int32 × Int32)))) else (True)
set_option maxRecDepth 100000 in
set_option maxHeartbeats 4000000 in
theorem X_NH_format (l : Launch) (D : va_G) (g : Nat → ClassId) (q : Nat → Nat) (ws : va_W) (hlt : l.stackTraces = false) (hI : q_I (nsh g q) q ws) (t0_0 : Int32) (hT0 : ws[1]? = (some (q 1, .inr (1, [.ref (q 2), .int 4100, .int t0_0])) : Option (Nat × va_E))) (t1_0 : (Nat → Int64)) (hT1 : ws[2]? = (some (q 2, .inl (g 1, (513 : Int32).toNatClampNeg, .inr (.inl t1_0))) : Option (Nat × va_E))) (t2_0 : Int32) (hT2 : ws[3]? = (some (q 3, .inr (1, [.ref (q 4), .int 11008, .int t2_0])) : Option (Nat × va_E))) (t3_0 : (Nat → Int64)) (hT3 : ws[4]? = (some (q 4, .inl (g 1, (1376 : Int32).toNatClampNeg, .inr (.inl t3_0))) : Option (Nat × va_E))) (t4_0 : Int32) (t4_1 : Int32) (t4_2 : Int32) (t4_3 : Int32) (hT4 : ws[40]? = (some (q 40, .inr (11, [.int t4_0, .ref (q 41), .ref (q 42), .ref (q 43), .ref (q 44), .ref (q 1), .ref (q 47), .ref (q 36), .ref (q 45), .int t4_1, .int t4_2, .int t4_3])) : Option (Nat × va_E))) (t5_0 : (Nat → Int32)) (hT5 : ws[41]? = (some (q 41, .inl (g 0, 9, .inl t5_0)) : Option (Nat × va_E))) (t6_0 : (Nat → Int64)) (hT6 : ws[42]? = (some (q 42, .inl (g 1, 9, .inr (.inl t6_0))) : Option (Nat × va_E))) (t7_0 : (Nat → Int32)) (hT7 : ws[43]? = (some (q 43, .inl (g 0, 9, .inl t7_0)) : Option (Nat × va_E))) (t8_0 : Int32) (t8_1 : Int32) (hT8 : ws[36]? = (some (q 36, .inr (7, [.int t8_0, .int t8_1, .ref (q 37)])) : Option (Nat × va_E))) (t9_0 : (Nat → Int32)) (hT9 : ws[37]? = (some (q 37, .inl (g 2, 1026, .inl t9_0)) : Option (Nat × va_E))) (t10_0 : Int32) (hT10 : ws[45]? = (some (q 45, .inr (1, [.ref (q 46), .int 4104, .int t10_0])) : Option (Nat × va_E))) (t11_0 : (Nat → Int64)) (hT11 : ws[46]? = (some (q 46, .inl (g 1, (513 : Int32).toNatClampNeg, .inr (.inl t11_0))) : Option (Nat × va_E))) (t12_0 : Int32) (t12_1 : Int32) (t12_2 : Int32) (t12_3 : Int32) (t12_4 : Int32) (t12_5 : Int32) (t12_6 : Int32) (hT12 : ws[47]? = (some (q 47, .inr (10, [.int t12_0, .int t12_1, .int t12_2, .int t12_3, .int t12_4, .int t12_5, .ref (q 1), .int t12_6])) : Option (Nat × va_E))) (t13_0 : Int32) (hT13 : ws[48]? = (some (q 48, .inr (1, [.ref (q 49), .int 64, .int t13_0])) : Option (Nat × va_E))) (t14_0 : (Nat → Int64)) (hT14 : ws[49]? = (some (q 49, .inl (g 1, (8 : Int32).toNatClampNeg, .inr (.inl t14_0))) : Option (Nat × va_E))) (t15_0 : Int32) (hT15 : ws[50]? = (some (q 50, .inr (1, [.ref (q 51), .int 64, .int t15_0])) : Option (Nat × va_E))) (t16_0 : (Nat → Int64)) (hT16 : ws[51]? = (some (q 51, .inl (g 1, (8 : Int32).toNatClampNeg, .inr (.inl t16_0))) : Option (Nat × va_E))) (t17_0 : Int32) (hT17 : ws[52]? = (some (q 52, .inr (1, [.ref (q 53), .int 64, .int t17_0])) : Option (Nat × va_E))) (t18_0 : (Nat → Int64)) (hT18 : ws[53]? = (some (q 53, .inl (g 1, (8 : Int32).toNatClampNeg, .inr (.inl t18_0))) : Option (Nat × va_E))) (t19_0 : Int32) (hT19 : ws[54]? = (some (q 54, .inr (1, [.ref (q 55), .int 64, .int t19_0])) : Option (Nat × va_E))) (t20_0 : (Nat → Int64)) (hT20 : ws[55]? = (some (q 55, .inl (g 1, (8 : Int32).toNatClampNeg, .inr (.inl t20_0))) : Option (Nat × va_E))) (t21_0 : Int32) (hT21 : ws[56]? = (some (q 56, .inr (1, [.ref (q 57), .int 64, .int t21_0])) : Option (Nat × va_E))) (t22_0 : (Nat → Int64)) (hT22 : ws[57]? = (some (q 57, .inl (g 1, (8 : Int32).toNatClampNeg, .inr (.inl t22_0))) : Option (Nat × va_E))) (t23_0 : Int32) (hT23 : ws[58]? = (some (q 58, .inr (1, [.ref (q 59), .int 64, .int t23_0])) : Option (Nat × va_E))) (t24_0 : (Nat → Int64)) (hT24 : ws[59]? = (some (q 59, .inl (g 1, (8 : Int32).toNatClampNeg, .inr (.inl t24_0))) : Option (Nat × va_E))) (t25_0 : Int32) (hT25 : ws[60]? = (some (q 60, .inr (1, [.ref (q 61), .int 64, .int t25_0])) : Option (Nat × va_E))) (t26_0 : (Nat → Int64)) (hT26 : ws[61]? = (some (q 61, .inl (g 1, (8 : Int32).toNatClampNeg, .inr (.inl t26_0))) : Option (Nat × va_E))) (t27_0 : Int32) (hT27 : ws[62]? = (some (q 62, .inr (1, [.ref (q 63), .int 64, .int t27_0])) : Option (Nat × va_E))) (t28_0 : (Nat → Int64)) (hT28 : ws[63]? = (some (q 63, .inl (g 1, (8 : Int32).toNatClampNeg, .inr (.inl t28_0))) : Option (Nat × va_E))) (t29_0 : Int32) (hT29 : ws[64]? = (some (q 64, .inr (1, [.ref (q 65), .int 64, .int t29_0])) : Option (Nat × va_E))) (t30_0 : (Nat → Int64)) (hT30 : ws[65]? = (some (q 65, .inl (g 1, (8 : Int32).toNatClampNeg, .inr (.inl t30_0))) : Option (Nat × va_E))) (hS : True ∧ S_NH_format t0_0 t1_0 t2_0 t3_0 t4_0 t4_1 t4_2 t4_3 t5_0 t6_0 t7_0 t8_0 t8_1 t9_0 t10_0 t11_0 t12_0 t12_1 t12_2 t12_3 t12_4 t12_5 t12_6 t13_0 t14_0 t15_0 t16_0 t17_0 t18_0 t19_0 t20_0 t21_0 t22_0 t23_0 t24_0 t25_0 t26_0 t27_0 t28_0 t29_0 t30_0) : ∀ sz, q_Mx l y_NH_format prog_1_method_20_code 2 (some .int) 10 1 6 D g [.ref (q 0)] ws sz (va_Qi (fun r u => q_I (nsh g q) q u ∧ q_un ws u [1, 3, 4, 36, 37, 40, 45, 46, 47] ∧ ∃ (u0_0 : Int32) (u2_0 : Int32) (u3_0 : (Nat → Int64)) (u4_0 : Int32) (u4_1 : Int32) (u4_2 : Int32) (u4_3 : Int32) (u8_0 : Int32) (u8_1 : Int32) (u9_0 : (Nat → Int32)) (u10_0 : Int32) (u11_0 : (Nat → Int64)) (u12_0 : Int32) (u12_1 : Int32) (u12_2 : Int32) (u12_3 : Int32) (u12_4 : Int32) (u12_5 : Int32) (u12_6 : Int32), u[1]? = (some (q 1, .inr (1, [.ref (q 2), .int 4100, .int u0_0])) : Option (Nat × va_E)) ∧ u[3]? = (some (q 3, .inr (1, [.ref (q 4), .int 11008, .int u2_0])) : Option (Nat × va_E)) ∧ u[4]? = (some (q 4, .inl (g 1, (1376 : Int32).toNatClampNeg, .inr (.inl u3_0))) : Option (Nat × va_E)) ∧ u[40]? = (some (q 40, .inr (11, [.int u4_0, .ref (q 41), .ref (q 42), .ref (q 43), .ref (q 44), .ref (q 1), .ref (q 47), .ref (q 36), .ref (q 45), .int u4_1, .int u4_2, .int u4_3])) : Option (Nat × va_E)) ∧ u[36]? = (some (q 36, .inr (7, [.int u8_0, .int u8_1, .ref (q 37)])) : Option (Nat × va_E)) ∧ u[37]? = (some (q 37, .inl (g 2, 1026, .inl u9_0)) : Option (Nat × va_E)) ∧ u[45]? = (some (q 45, .inr (1, [.ref (q 46), .int 4104, .int u10_0])) : Option (Nat × va_E)) ∧ u[46]? = (some (q 46, .inl (g 1, (513 : Int32).toNatClampNeg, .inr (.inl u11_0))) : Option (Nat × va_E)) ∧ u[47]? = (some (q 47, .inr (10, [.int u12_0, .int u12_1, .int u12_2, .int u12_3, .int u12_4, .int u12_5, .ref (q 1), .int u12_6])) : Option (Nat × va_E)) ∧ (r.toInt ≤ 2147482648) ∧ (0 ≤ u0_0.toInt) ∧ (u0_0.toInt ≤ 256) ∧ (0 ≤ u2_0.toInt) ∧ (u2_0.toInt ≤ 1000000) ∧ (0 ≤ u4_1.toInt + 1000000) ∧ (u4_1.toInt ≤ 1000000) ∧ (0 ≤ u10_0.toInt + 1000000) ∧ (u10_0.toInt ≤ 1000000) ∧ (0 ≤ u12_2.toInt + 1) ∧ (u12_2.toInt ≤ 9999) ∧ (0 ≤ u12_3.toInt + 1) ∧ (u12_3.toInt ≤ 9999) ∧ (0 ≤ u12_6.toInt) ∧ (u12_6.toInt ≤ 1) ∧ (t0_0.toInt ≤ u0_0.toInt + 256) ∧ (u0_0.toInt ≤ t0_0.toInt) ∧ (t0_0.toInt ≤ u2_0.toInt + 256) ∧ (t0_0.toInt ≤ u4_1.toInt + 1000256) ∧ (t0_0.toInt ≤ u10_0.toInt + 1000256) ∧ (t0_0.toInt ≤ u12_2.toInt + 257) ∧ (t0_0.toInt ≤ u12_3.toInt + 257) ∧ (t0_0.toInt ≤ u12_6.toInt + 256) ∧ (u2_0.toInt ≤ r.toInt + 12255) ∧ (u4_1.toInt ≤ r.toInt + 1000000) ∧ (u10_0.toInt ≤ r.toInt + 1000000) ∧ ((0 : Int32), r, u0_0, u2_0, u3_0, u4_0, u4_1, u4_2, u4_3, u8_0, u8_1, u9_0, u10_0, u11_0, u12_0, u12_1, u12_2, u12_3, u12_4, u12_5, u12_6) = (F_NH_format t0_0 t1_0 t2_0 t3_0 t4_0 t4_1 t4_2 t4_3 t5_0 t6_0 t7_0 t8_0 t8_1 t9_0 t10_0 t11_0 t12_0 t12_1 t12_2 t12_3 t12_4 t12_5 t12_6 t13_0 t14_0 t15_0 t16_0 t17_0 t18_0 t19_0 t20_0 t21_0 t22_0 t23_0 t24_0 t25_0 t26_0 t27_0 t28_0 t29_0 t30_0)) (q_B D g (va_A ws sz)) (va_A ws sz)) (fun E u => ∃ c : Int32, E = qE c ∧ c ≠ 0 ∧ q_I (nsh g q) q u ∧ q_un ws u [1, 3, 4, 36, 37, 40, 45, 46, 47] ∧ ∃ (u0_0 : Int32) (u2_0 : Int32) (u3_0 : (Nat → Int64)) (u4_0 : Int32) (u4_1 : Int32) (u4_2 : Int32) (u4_3 : Int32) (u8_0 : Int32) (u8_1 : Int32) (u9_0 : (Nat → Int32)) (u10_0 : Int32) (u11_0 : (Nat → Int64)) (u12_0 : Int32) (u12_1 : Int32) (u12_2 : Int32) (u12_3 : Int32) (u12_4 : Int32) (u12_5 : Int32) (u12_6 : Int32), u[1]? = (some (q 1, .inr (1, [.ref (q 2), .int 4100, .int u0_0])) : Option (Nat × va_E)) ∧ u[3]? = (some (q 3, .inr (1, [.ref (q 4), .int 11008, .int u2_0])) : Option (Nat × va_E)) ∧ u[4]? = (some (q 4, .inl (g 1, (1376 : Int32).toNatClampNeg, .inr (.inl u3_0))) : Option (Nat × va_E)) ∧ u[40]? = (some (q 40, .inr (11, [.int u4_0, .ref (q 41), .ref (q 42), .ref (q 43), .ref (q 44), .ref (q 1), .ref (q 47), .ref (q 36), .ref (q 45), .int u4_1, .int u4_2, .int u4_3])) : Option (Nat × va_E)) ∧ u[36]? = (some (q 36, .inr (7, [.int u8_0, .int u8_1, .ref (q 37)])) : Option (Nat × va_E)) ∧ u[37]? = (some (q 37, .inl (g 2, 1026, .inl u9_0)) : Option (Nat × va_E)) ∧ u[45]? = (some (q 45, .inr (1, [.ref (q 46), .int 4104, .int u10_0])) : Option (Nat × va_E)) ∧ u[46]? = (some (q 46, .inl (g 1, (513 : Int32).toNatClampNeg, .inr (.inl u11_0))) : Option (Nat × va_E)) ∧ u[47]? = (some (q 47, .inr (10, [.int u12_0, .int u12_1, .int u12_2, .int u12_3, .int u12_4, .int u12_5, .ref (q 1), .int u12_6])) : Option (Nat × va_E)) ∧ (c, (0 : Int32), u0_0, u2_0, u3_0, u4_0, u4_1, u4_2, u4_3, u8_0, u8_1, u9_0, u10_0, u11_0, u12_0, u12_1, u12_2, u12_3, u12_4, u12_5, u12_6) = (F_NH_format t0_0 t1_0 t2_0 t3_0 t4_0 t4_1 t4_2 t4_3 t5_0 t6_0 t7_0 t8_0 t8_1 t9_0 t10_0 t11_0 t12_0 t12_1 t12_2 t12_3 t12_4 t12_5 t12_6 t13_0 t14_0 t15_0 t16_0 t17_0 t18_0 t19_0 t20_0 t21_0 t22_0 t23_0 t24_0 t25_0 t26_0 t27_0 t28_0 t29_0 t30_0)) := by
  intro sz
  refine q_intoX (by decide) (Nat.le_of_ble_eq_true rfl) ?_
  intro p e s m below meth c ls hsz C0 V hno hl
  have hx := C0.1
  have hb := C0.2.1
  obtain ⟨yy0_0, hh0, btt0_0⟩ := n_shO hI (n_h1 g q)
  obtain ⟨rfl⟩ : t0_0 = yy0_0 := by have z := Option.some.inj (hT0.symm.trans hh0); simpa using z
  replace btt0_0 : q_F (0 ≤ t0_0.toInt ∧ t0_0.toInt ≤ 4100) := btt0_0
  obtain ⟨yy2_0, hh2, btt2_0⟩ := n_shO hI (n_h3 g q)
  obtain ⟨rfl⟩ : t2_0 = yy2_0 := by have z := Option.some.inj (hT2.symm.trans hh2); simpa using z
  replace btt2_0 : q_F (0 ≤ t2_0.toInt ∧ t2_0.toInt ≤ 1000000) := btt2_0
  obtain ⟨yy4_0, yy4_1, yy4_2, yy4_3, hh4, btt4_0, btt4_1, btt4_3⟩ := n_o40 hI
  obtain ⟨rfl, rfl, rfl, rfl⟩ : t4_0 = yy4_0 ∧ t4_1 = yy4_1 ∧ t4_2 = yy4_2 ∧ t4_3 = yy4_3 := by have z := Option.some.inj (hT4.symm.trans hh4); simpa using z
  replace btt4_0 : q_F (0 ≤ t4_0.toInt ∧ t4_0.toInt ≤ 9) := btt4_0
  replace btt4_1 : q_F (-1 ≤ t4_1.toInt ∧ t4_1.toInt ≤ 1000000) := btt4_1
  replace btt4_3 : q_F (-1 ≤ t4_3.toInt ∧ t4_3.toInt ≤ 8) := btt4_3
  obtain ⟨yy8_0, yy8_1, hh8, btt8_0, btt8_1⟩ := n_o36 hI
  obtain ⟨rfl, rfl⟩ : t8_0 = yy8_0 ∧ t8_1 = yy8_1 := by have z := Option.some.inj (hT8.symm.trans hh8); simpa using z
  replace btt8_0 : q_F (0 ≤ t8_0.toInt ∧ t8_0.toInt ≤ 1026) := btt8_0
  replace btt8_1 : q_F (-1000000 ≤ t8_1.toInt ∧ t8_1.toInt ≤ 1000000) := btt8_1
  obtain ⟨yy10_0, hh10, btt10_0⟩ := n_shO hI (n_h45 g q)
  obtain ⟨rfl⟩ : t10_0 = yy10_0 := by have z := Option.some.inj (hT10.symm.trans hh10); simpa using z
  replace btt10_0 : q_F (0 ≤ t10_0.toInt ∧ t10_0.toInt ≤ 1000000) := btt10_0
  obtain ⟨yy12_0, yy12_1, yy12_2, yy12_3, yy12_4, yy12_5, yy12_6, hh12, btt12_2, btt12_3, btt12_6⟩ := n_o47 hI
  obtain ⟨rfl, rfl, rfl, rfl, rfl, rfl, rfl⟩ : t12_0 = yy12_0 ∧ t12_1 = yy12_1 ∧ t12_2 = yy12_2 ∧ t12_3 = yy12_3 ∧ t12_4 = yy12_4 ∧ t12_5 = yy12_5 ∧ t12_6 = yy12_6 := by have z := Option.some.inj (hT12.symm.trans hh12); simpa using z
  replace btt12_2 : q_F (-1 ≤ t12_2.toInt ∧ t12_2.toInt ≤ 9999) := btt12_2
  replace btt12_3 : q_F (-1 ≤ t12_3.toInt ∧ t12_3.toInt ≤ 9999) := btt12_3
  replace btt12_6 : q_F (0 ≤ t12_6.toInt ∧ t12_6.toInt ≤ 1) := btt12_6
  obtain ⟨yy13_0, hh13, btt13_0⟩ := n_shO hI (n_h48 g q)
  obtain ⟨rfl⟩ : t13_0 = yy13_0 := by have z := Option.some.inj (hT13.symm.trans hh13); simpa using z
  replace btt13_0 : q_F (0 ≤ t13_0.toInt ∧ t13_0.toInt ≤ 64) := btt13_0
  obtain ⟨yy15_0, hh15, btt15_0⟩ := n_shO hI (n_h50 g q)
  obtain ⟨rfl⟩ : t15_0 = yy15_0 := by have z := Option.some.inj (hT15.symm.trans hh15); simpa using z
  replace btt15_0 : q_F (0 ≤ t15_0.toInt ∧ t15_0.toInt ≤ 64) := btt15_0
  obtain ⟨yy17_0, hh17, btt17_0⟩ := n_shO hI (n_h52 g q)
  obtain ⟨rfl⟩ : t17_0 = yy17_0 := by have z := Option.some.inj (hT17.symm.trans hh17); simpa using z
  replace btt17_0 : q_F (0 ≤ t17_0.toInt ∧ t17_0.toInt ≤ 64) := btt17_0
  obtain ⟨yy19_0, hh19, btt19_0⟩ := n_shO hI (n_h54 g q)
  obtain ⟨rfl⟩ : t19_0 = yy19_0 := by have z := Option.some.inj (hT19.symm.trans hh19); simpa using z
  replace btt19_0 : q_F (0 ≤ t19_0.toInt ∧ t19_0.toInt ≤ 64) := btt19_0
  obtain ⟨yy21_0, hh21, btt21_0⟩ := n_shO hI (n_h56 g q)
  obtain ⟨rfl⟩ : t21_0 = yy21_0 := by have z := Option.some.inj (hT21.symm.trans hh21); simpa using z
  replace btt21_0 : q_F (0 ≤ t21_0.toInt ∧ t21_0.toInt ≤ 64) := btt21_0
  obtain ⟨yy23_0, hh23, btt23_0⟩ := n_shO hI (n_h58 g q)
  obtain ⟨rfl⟩ : t23_0 = yy23_0 := by have z := Option.some.inj (hT23.symm.trans hh23); simpa using z
  replace btt23_0 : q_F (0 ≤ t23_0.toInt ∧ t23_0.toInt ≤ 64) := btt23_0
  obtain ⟨yy25_0, hh25, btt25_0⟩ := n_shO hI (n_h60 g q)
  obtain ⟨rfl⟩ : t25_0 = yy25_0 := by have z := Option.some.inj (hT25.symm.trans hh25); simpa using z
  replace btt25_0 : q_F (0 ≤ t25_0.toInt ∧ t25_0.toInt ≤ 64) := btt25_0
  obtain ⟨yy27_0, hh27, btt27_0⟩ := n_shO hI (n_h62 g q)
  obtain ⟨rfl⟩ : t27_0 = yy27_0 := by have z := Option.some.inj (hT27.symm.trans hh27); simpa using z
  replace btt27_0 : q_F (0 ≤ t27_0.toInt ∧ t27_0.toInt ≤ 64) := btt27_0
  obtain ⟨yy29_0, hh29, btt29_0⟩ := n_shO hI (n_h64 g q)
  obtain ⟨rfl⟩ : t29_0 = yy29_0 := by have z := Option.some.inj (hT29.symm.trans hh29); simpa using z
  replace btt29_0 : q_F (0 ≤ t29_0.toInt ∧ t29_0.toInt ≤ 64) := btt29_0
  have hF : q_un ws ws [1, 3, 4, 36, 37, 40, 45, 46, 47] := q_u0
  have hl : lv_has ls 2 [(0, .ref (q 0))] := hl
  refine lv_aload_n hx hb d_1_20_0 rfl (lv_at hl 0 rfl) ?_
  have hO96 := n_o0 hI
  refine q_get (ci := 0) (j := 0) (v := .ref (q 1)) C0 V i_NH rfl rfl hO96 (by decide) w_424 rfl d_1_20_1 ?_
  refine q_get (ci := 1) (j := 2) (v := .int t0_0) C0 V i_She rfl rfl hT0 (by decide) w_56 rfl d_1_20_4 ?_
  refine lv_sipush (v := 256) hx hb d_1_20_7 (by decide) ?_
  refine lv_icmp_le (tgt := 24) hx hb d_1_20_10 (by decide) (fun c97 => ?_) (fun c97 => ?_)
  ·
    have b98 : q_F (t0_0.toInt ≤ 256) := (q_leI c97)
    refine lv_aload_n hx hb d_1_20_24 rfl (lv_at hl 0 rfl) ?_
    refine q_get (ci := 0) (j := 13) (v := .ref (q 40)) C0 V i_NH rfl rfl hO96 (by decide) w_437 rfl d_1_20_25 ?_
    refine lv_aload_n hx hb d_1_20_28 rfl (lv_at hl 0 rfl) ?_
    refine q_get (ci := 0) (j := 1) (v := .ref (q 3)) C0 V i_NH rfl rfl hO96 (by decide) w_425 rfl d_1_20_29 ?_
    have ob99 : True ∧ S_Pri_run t0_0 t1_0 t2_0 t3_0 t4_0 t4_1 t4_2 t4_3 t5_0 t6_0 t7_0 t8_0 t8_1 t9_0 t10_0 t11_0 t12_0 t12_1 t12_2 t12_3 t12_4 t12_5 t12_6 t13_0 t14_0 t15_0 t16_0 t17_0 t18_0 t19_0 t20_0 t21_0 t22_0 t23_0 t24_0 t25_0 t26_0 t27_0 t28_0 t29_0 t30_0 := (by have h := hS; rw [S_NH_format.eq_1] at h; rw [if_pos c97] at h; with_reducible exact h.2.1)
    refine q_goi V (q_runV (As := [.ref (q 3)]) (rest := []) (d := 9) (mc := 0) (ms := 0) (ci := 11) C0 V rfl LV_NH_362 (X_Pri_run l D g q ws   hI t0_0 hT0 t1_0 hT1 t2_0 hT2 t3_0 hT3 t4_0 t4_1 t4_2 t4_3 hT4 t5_0 hT5 t6_0 hT6 t7_0 hT7 t8_0 t8_1 hT8 t9_0 hT9 t10_0 hT10 t11_0 hT11 t12_0 t12_1 t12_2 t12_3 t12_4 t12_5 t12_6 hT12 t13_0 hT13 t14_0 hT14 t15_0 hT15 t16_0 hT16 t17_0 hT17 t18_0 hT18 t19_0 hT19 t20_0 hT20 t21_0 hT21 t22_0 hT22 t23_0 hT23 t24_0 hT24 t25_0 hT25 t26_0 hT26 t27_0 hT27 t28_0 hT28 t29_0 hT29 t30_0 hT30 (by have t1 : t0_0.toInt ≤ 256 := b98; omega) ob99 _) rfl rfl hT4 rfl hl.1 rfl (Nat.le_of_ble_eq_true rfl) ⟨by decide, by decide⟩ ⟨Nat.le_of_ble_eq_true rfl, Nat.le_of_ble_eq_true rfl⟩ d_1_20_32) (fun a102 u100 H locs hp101 V => ?_)
    obtain ⟨hI, hu146, y104, f105, y108, y109, y110, y111, y113, y114, f115, y118, f119, y122, y123, y124, y125, y126, y127, y128, hO103, hA106, hO107, hO112, hA116, hO117, hA120, hO121, b129, b130, b131, b132, b133, b134, b135, b136, b137, b138, b139, b140, b141, b142, b143, b144, hE145⟩ := hp101
    replace hO103 : u100[3]? = (some (q 3, .inr (1, [.ref (q 4), .int 11008, .int y104])) : Option (Nat × va_E)) := hO103
    replace hA106 : u100[4]? = (some (q 4, .inl (g 1, (1376 : Int32).toNatClampNeg, .inr (.inl f105))) : Option (Nat × va_E)) := hA106
    replace hO107 : u100[40]? = (some (q 40, .inr (11, [.int y108, .ref (q 41), .ref (q 42), .ref (q 43), .ref (q 44), .ref (q 1), .ref (q 47), .ref (q 36), .ref (q 45), .int y109, .int y110, .int y111])) : Option (Nat × va_E)) := hO107
    replace hO112 : u100[36]? = (some (q 36, .inr (7, [.int y113, .int y114, .ref (q 37)])) : Option (Nat × va_E)) := hO112
    replace hA116 : u100[37]? = (some (q 37, .inl (g 2, 1026, .inl f115)) : Option (Nat × va_E)) := hA116
    replace hO117 : u100[45]? = (some (q 45, .inr (1, [.ref (q 46), .int 4104, .int y118])) : Option (Nat × va_E)) := hO117
    replace hA120 : u100[46]? = (some (q 46, .inl (g 1, (513 : Int32).toNatClampNeg, .inr (.inl f119))) : Option (Nat × va_E)) := hA120
    replace hO121 : u100[47]? = (some (q 47, .inr (10, [.int y122, .int y123, .int y124, .int y125, .int y126, .int y127, .ref (q 1), .int y128])) : Option (Nat × va_E)) := hO121
    obtain ⟨p147, e148⟩ : ∃ z, z = (F_Pri_run t0_0 t1_0 t2_0 t3_0 t4_0 t4_1 t4_2 t4_3 t5_0 t6_0 t7_0 t8_0 t8_1 t9_0 t10_0 t11_0 t12_0 t12_1 t12_2 t12_3 t12_4 t12_5 t12_6 t13_0 t14_0 t15_0 t16_0 t17_0 t18_0 t19_0 t20_0 t21_0 t22_0 t23_0 t24_0 t25_0 t26_0 t27_0 t28_0 t29_0 t30_0) := ⟨_, rfl⟩
    have e149 : a102 = p147.1 := congrArg (fun z => z.1) (hE145.trans e148.symm)
    have e150 : y104 = p147.2.1 := congrArg (fun z => z.2.1) (hE145.trans e148.symm)
    have e151 : f105 = p147.2.2.1 := congrArg (fun z => z.2.2.1) (hE145.trans e148.symm)
    have e152 : y108 = p147.2.2.2.1 := congrArg (fun z => z.2.2.2.1) (hE145.trans e148.symm)
    have e153 : y109 = p147.2.2.2.2.1 := congrArg (fun z => z.2.2.2.2.1) (hE145.trans e148.symm)
    have e154 : y110 = p147.2.2.2.2.2.1 := congrArg (fun z => z.2.2.2.2.2.1) (hE145.trans e148.symm)
    have e155 : y111 = p147.2.2.2.2.2.2.1 := congrArg (fun z => z.2.2.2.2.2.2.1) (hE145.trans e148.symm)
    have e156 : y113 = p147.2.2.2.2.2.2.2.1 := congrArg (fun z => z.2.2.2.2.2.2.2.1) (hE145.trans e148.symm)
    have e157 : y114 = p147.2.2.2.2.2.2.2.2.1 := congrArg (fun z => z.2.2.2.2.2.2.2.2.1) (hE145.trans e148.symm)
    have e158 : f115 = p147.2.2.2.2.2.2.2.2.2.1 := congrArg (fun z => z.2.2.2.2.2.2.2.2.2.1) (hE145.trans e148.symm)
    have e159 : y118 = p147.2.2.2.2.2.2.2.2.2.2.1 := congrArg (fun z => z.2.2.2.2.2.2.2.2.2.2.1) (hE145.trans e148.symm)
    have e160 : f119 = p147.2.2.2.2.2.2.2.2.2.2.2.1 := congrArg (fun z => z.2.2.2.2.2.2.2.2.2.2.2.1) (hE145.trans e148.symm)
    have e161 : y122 = p147.2.2.2.2.2.2.2.2.2.2.2.2.1 := congrArg (fun z => z.2.2.2.2.2.2.2.2.2.2.2.2.1) (hE145.trans e148.symm)
    have e162 : y123 = p147.2.2.2.2.2.2.2.2.2.2.2.2.2.1 := congrArg (fun z => z.2.2.2.2.2.2.2.2.2.2.2.2.2.1) (hE145.trans e148.symm)
    have e163 : y124 = p147.2.2.2.2.2.2.2.2.2.2.2.2.2.2.1 := congrArg (fun z => z.2.2.2.2.2.2.2.2.2.2.2.2.2.2.1) (hE145.trans e148.symm)
    have e164 : y125 = p147.2.2.2.2.2.2.2.2.2.2.2.2.2.2.2.1 := congrArg (fun z => z.2.2.2.2.2.2.2.2.2.2.2.2.2.2.2.1) (hE145.trans e148.symm)
    have e165 : y126 = p147.2.2.2.2.2.2.2.2.2.2.2.2.2.2.2.2.1 := congrArg (fun z => z.2.2.2.2.2.2.2.2.2.2.2.2.2.2.2.2.1) (hE145.trans e148.symm)
    have e166 : y127 = p147.2.2.2.2.2.2.2.2.2.2.2.2.2.2.2.2.2.1 := congrArg (fun z => z.2.2.2.2.2.2.2.2.2.2.2.2.2.2.2.2.2.1) (hE145.trans e148.symm)
    have e167 : y128 = p147.2.2.2.2.2.2.2.2.2.2.2.2.2.2.2.2.2.2 := congrArg (fun z => z.2.2.2.2.2.2.2.2.2.2.2.2.2.2.2.2.2.2) (hE145.trans e148.symm)
    replace b129 : q_F (a102.toInt ≤ 2147482648) := b129
    replace b130 : q_F (0 ≤ y104.toInt) := b130
    replace b131 : q_F (y104.toInt ≤ 1000000) := b131
    replace b132 : q_F (0 ≤ y109.toInt + 1000000) := b132
    replace b133 : q_F (y109.toInt ≤ 1000000) := b133
    replace b134 : q_F (0 ≤ y118.toInt + 1000000) := b134
    replace b135 : q_F (y118.toInt ≤ 1000000) := b135
    replace b136 : q_F (0 ≤ y124.toInt + 1) := b136
    replace b137 : q_F (y124.toInt ≤ 9999) := b137
    replace b138 : q_F (0 ≤ y125.toInt + 1) := b138
    replace b139 : q_F (y125.toInt ≤ 9999) := b139
    replace b140 : q_F (0 ≤ y128.toInt) := b140
    replace b141 : q_F (y128.toInt ≤ 1) := b141
    replace b142 : q_F (y104.toInt ≤ a102.toInt + 12255) := b142
    replace b143 : q_F (y109.toInt ≤ a102.toInt + 1000000) := b143
    replace b144 : q_F (y118.toInt ≤ a102.toInt + 1000000) := b144
    replace hT0 := (hu146 _ (by decide)).trans hT0
    replace hT1 := (hu146 _ (by decide)).trans hT1
    replace hT5 := (hu146 _ (by decide)).trans hT5
    replace hT6 := (hu146 _ (by decide)).trans hT6
    replace hT7 := (hu146 _ (by decide)).trans hT7
    replace hT13 := (hu146 _ (by decide)).trans hT13
    replace hT14 := (hu146 _ (by decide)).trans hT14
    replace hT15 := (hu146 _ (by decide)).trans hT15
    replace hT16 := (hu146 _ (by decide)).trans hT16
    replace hT17 := (hu146 _ (by decide)).trans hT17
    replace hT18 := (hu146 _ (by decide)).trans hT18
    replace hT19 := (hu146 _ (by decide)).trans hT19
    replace hT20 := (hu146 _ (by decide)).trans hT20
    replace hT21 := (hu146 _ (by decide)).trans hT21
    replace hT22 := (hu146 _ (by decide)).trans hT22
    replace hT23 := (hu146 _ (by decide)).trans hT23
    replace hT24 := (hu146 _ (by decide)).trans hT24
    replace hT25 := (hu146 _ (by decide)).trans hT25
    replace hT26 := (hu146 _ (by decide)).trans hT26
    replace hT27 := (hu146 _ (by decide)).trans hT27
    replace hT28 := (hu146 _ (by decide)).trans hT28
    replace hT29 := (hu146 _ (by decide)).trans hT29
    replace hT30 := (hu146 _ (by decide)).trans hT30
    replace hO96 := (hu146 _ (by decide)).trans hO96
    replace hF := q_uc hF hu146 (by simp)
    have hR168 := (show F_NH_format_c32 t0_0 t1_0 t2_0 t3_0 t4_0 t4_1 t4_2 t4_3 t5_0 t6_0 t7_0 t8_0 t8_1 t9_0 t10_0 t11_0 t12_0 t12_1 t12_2 t12_3 t12_4 t12_5 t12_6 t13_0 t14_0 t15_0 t16_0 t17_0 t18_0 t19_0 t20_0 t21_0 t22_0 t23_0 t24_0 t25_0 t26_0 t27_0 t28_0 t29_0 t30_0 p147 = (F_NH_format t0_0 t1_0 t2_0 t3_0 t4_0 t4_1 t4_2 t4_3 t5_0 t6_0 t7_0 t8_0 t8_1 t9_0 t10_0 t11_0 t12_0 t12_1 t12_2 t12_3 t12_4 t12_5 t12_6 t13_0 t14_0 t15_0 t16_0 t17_0 t18_0 t19_0 t20_0 t21_0 t22_0 t23_0 t24_0 t25_0 t26_0 t27_0 t28_0 t29_0 t30_0) from (by rw [e148, F_NH_format.eq_1, if_pos c97]))
    have hS169 := (show True ∧ S_NH_format_c32 t0_0 t1_0 t2_0 t3_0 t4_0 t4_1 t4_2 t4_3 t5_0 t6_0 t7_0 t8_0 t8_1 t9_0 t10_0 t11_0 t12_0 t12_1 t12_2 t12_3 t12_4 t12_5 t12_6 t13_0 t14_0 t15_0 t16_0 t17_0 t18_0 t19_0 t20_0 t21_0 t22_0 t23_0 t24_0 t25_0 t26_0 t27_0 t28_0 t29_0 t30_0 p147 from (by rw [e148]; have h := hS; rw [S_NH_format.eq_1] at h; rw [if_pos c97] at h; replace h := q_s2 h; with_reducible exact h))
    refine lv_istore_n (lv' := [(1, .int a102), (0, .ref (q 0))]) hx hb d_1_20_35 rfl hl (by decide) rfl (fun ls hl => ?_)
    refine lv_iload_n hx hb d_1_20_36 rfl (lv_at hl 0 rfl) ?_
    refine lv_if_lt (tgt := 47) hx hb d_1_20_37 (by decide) (fun c173 => ?_) (fun c173 => ?_)
    ·
      have b174 : q_F (a102.toInt < 0) := (q_ltI c173)
      refine lv_iload_n hx hb d_1_20_47 rfl (lv_at hl 0 rfl) ?_
      refine W.widen (k := 1) (n := 6) (Nat.le_of_ble_eq_true rfl) (Nat.le_of_ble_eq_true rfl) ?_
      exact q_retX (q_reti C0 V (⟨hI, hF, t0_0, y104, f105, y108, y109, y110, y111, y113, y114, f115, y118, f119, y122, y123, y124, y125, y126, y127, y128, hT0, hO103, hA106, hO107, hO112, hA116, hO117, hA120, hO121, (show a102.toInt ≤ 2147482648 from (by have t1 : a102.toInt ≤ 2147482648 := b129; omega)), (show 0 ≤ t0_0.toInt from (by have t1 : 0 ≤ t0_0.toInt ∧ t0_0.toInt ≤ 4100 := btt0_0; omega)), (show t0_0.toInt ≤ 256 from (by have t1 : t0_0.toInt ≤ 256 := b98; omega)), (show 0 ≤ y104.toInt from (by have t1 : 0 ≤ y104.toInt := b130; omega)), (show y104.toInt ≤ 1000000 from (by have t1 : y104.toInt ≤ 1000000 := b131; omega)), (show 0 ≤ y109.toInt + 1000000 from (by have t1 : 0 ≤ y109.toInt + 1000000 := b132; omega)), (show y109.toInt ≤ 1000000 from (by have t1 : y109.toInt ≤ 1000000 := b133; omega)), (show 0 ≤ y118.toInt + 1000000 from (by have t1 : 0 ≤ y118.toInt + 1000000 := b134; omega)), (show y118.toInt ≤ 1000000 from (by have t1 : y118.toInt ≤ 1000000 := b135; omega)), (show 0 ≤ y124.toInt + 1 from (by have t1 : 0 ≤ y124.toInt + 1 := b136; omega)), (show y124.toInt ≤ 9999 from (by have t1 : y124.toInt ≤ 9999 := b137; omega)), (show 0 ≤ y125.toInt + 1 from (by have t1 : 0 ≤ y125.toInt + 1 := b138; omega)), (show y125.toInt ≤ 9999 from (by have t1 : y125.toInt ≤ 9999 := b139; omega)), (show 0 ≤ y128.toInt from (by have t1 : 0 ≤ y128.toInt := b140; omega)), (show y128.toInt ≤ 1 from (by have t1 : y128.toInt ≤ 1 := b141; omega)), (show t0_0.toInt ≤ t0_0.toInt + 256 from (by omega)), (show t0_0.toInt ≤ t0_0.toInt from (by omega)), (show t0_0.toInt ≤ y104.toInt + 256 from (by have t1 : t0_0.toInt ≤ 256 := b98; have t2 : 0 ≤ y104.toInt := b130; omega)), (show t0_0.toInt ≤ y109.toInt + 1000256 from (by have t1 : t0_0.toInt ≤ 256 := b98; have t2 : 0 ≤ y109.toInt + 1000000 := b132; omega)), (show t0_0.toInt ≤ y118.toInt + 1000256 from (by have t1 : t0_0.toInt ≤ 256 := b98; have t2 : 0 ≤ y118.toInt + 1000000 := b134; omega)), (show t0_0.toInt ≤ y124.toInt + 257 from (by have t1 : t0_0.toInt ≤ 256 := b98; have t2 : 0 ≤ y124.toInt + 1 := b136; omega)), (show t0_0.toInt ≤ y125.toInt + 257 from (by have t1 : t0_0.toInt ≤ 256 := b98; have t2 : 0 ≤ y125.toInt + 1 := b138; omega)), (show t0_0.toInt ≤ y128.toInt + 256 from (by have t1 : t0_0.toInt ≤ 256 := b98; have t2 : 0 ≤ y128.toInt := b140; omega)), (show y104.toInt ≤ a102.toInt + 12255 from (by have t1 : y104.toInt ≤ a102.toInt + 12255 := b142; omega)), (show y109.toInt ≤ a102.toInt + 1000000 from (by have t1 : y109.toInt ≤ a102.toInt + 1000000 := b143; omega)), (show y118.toInt ≤ a102.toInt + 1000000 from (by have t1 : y118.toInt ≤ a102.toInt + 1000000 := b144; omega)), (show ((0 : Int32), a102, t0_0, y104, f105, y108, y109, y110, y111, y113, y114, f115, y118, f119, y122, y123, y124, y125, y126, y127, y128) = (F_NH_format t0_0 t1_0 t2_0 t3_0 t4_0 t4_1 t4_2 t4_3 t5_0 t6_0 t7_0 t8_0 t8_1 t9_0 t10_0 t11_0 t12_0 t12_1 t12_2 t12_3 t12_4 t12_5 t12_6 t13_0 t14_0 t15_0 t16_0 t17_0 t18_0 t19_0 t20_0 t21_0 t22_0 t23_0 t24_0 t25_0 t26_0 t27_0 t28_0 t29_0 t30_0) from Eq.trans (by have c173x := c173; rw [e149] at c173x; rw [e167, e166, e165, e164, e163, e162, e161, e160, e159, e158, e157, e156, e155, e154, e153, e152, e151, e150, e149, F_NH_format_c32.eq_1, if_pos c173x]) hR168)⟩) d_1_20_48)
    ·
      have b175 : q_F (0 ≤ a102.toInt) := (q_nltI c173)
      refine lv_aload_n hx hb d_1_20_40 rfl (lv_at hl 1 rfl) ?_
      refine q_get (ci := 0) (j := 0) (v := .ref (q 1)) C0 V i_NH rfl rfl hO96 (by decide) w_424 rfl d_1_20_41 ?_
      refine q_gov V (q_runV (As := []) (rest := []) (d := 1) (mc := 0) (ms := 0) (ci := 1) C0 V rfl LV_NH_115 (X_She_clear l D g q u100 1 4100 513 4100 (n_h1 g q)  hI t0_0 hT0  _) rfl rfl hT0 rfl hl.1 rfl (Nat.le_of_ble_eq_true rfl) ⟨by decide, by decide⟩ ⟨Nat.le_of_ble_eq_true rfl, Nat.le_of_ble_eq_true rfl⟩ d_1_20_44) (fun u176 H locs hp177 V => ?_)
      obtain ⟨hI, hu183, y179, hO178, b180, b181, hE182⟩ := hp177
      replace hO178 : u176[1]? = (some (q 1, .inr (1, [.ref (q 2), .int 4100, .int y179])) : Option (Nat × va_E)) := hO178
      have e184 : y179 = (F_She_clear (4100 : Int32) (513 : Int32) (4100 : Int32) t0_0) := hE182
      replace b180 : q_F (0 ≤ y179.toInt) := b180
      replace b181 : q_F (y179.toInt ≤ 0) := b181
      replace hT1 := (hu183 _ (by decide)).trans hT1
      replace hO103 := (hu183 _ (by decide)).trans hO103
      replace hA106 := (hu183 _ (by decide)).trans hA106
      replace hO107 := (hu183 _ (by decide)).trans hO107
      replace hT5 := (hu183 _ (by decide)).trans hT5
      replace hT6 := (hu183 _ (by decide)).trans hT6
      replace hT7 := (hu183 _ (by decide)).trans hT7
      replace hO112 := (hu183 _ (by decide)).trans hO112
      replace hA116 := (hu183 _ (by decide)).trans hA116
      replace hO117 := (hu183 _ (by decide)).trans hO117
      replace hA120 := (hu183 _ (by decide)).trans hA120
      replace hO121 := (hu183 _ (by decide)).trans hO121
      replace hT13 := (hu183 _ (by decide)).trans hT13
      replace hT14 := (hu183 _ (by decide)).trans hT14
      replace hT15 := (hu183 _ (by decide)).trans hT15
      replace hT16 := (hu183 _ (by decide)).trans hT16
      replace hT17 := (hu183 _ (by decide)).trans hT17
      replace hT18 := (hu183 _ (by decide)).trans hT18
      replace hT19 := (hu183 _ (by decide)).trans hT19
      replace hT20 := (hu183 _ (by decide)).trans hT20
      replace hT21 := (hu183 _ (by decide)).trans hT21
      replace hT22 := (hu183 _ (by decide)).trans hT22
      replace hT23 := (hu183 _ (by decide)).trans hT23
      replace hT24 := (hu183 _ (by decide)).trans hT24
      replace hT25 := (hu183 _ (by decide)).trans hT25
      replace hT26 := (hu183 _ (by decide)).trans hT26
      replace hT27 := (hu183 _ (by decide)).trans hT27
      replace hT28 := (hu183 _ (by decide)).trans hT28
      replace hT29 := (hu183 _ (by decide)).trans hT29
      replace hT30 := (hu183 _ (by decide)).trans hT30
      replace hO96 := (hu183 _ (by decide)).trans hO96
      replace hF := q_uc hF hu183 (by simp)
      refine lv_iload_n hx hb d_1_20_47 rfl (lv_at hl 0 rfl) ?_
      refine W.widen (k := 1) (n := 6) (Nat.le_of_ble_eq_true rfl) (Nat.le_of_ble_eq_true rfl) ?_
      exact q_retX (q_reti C0 V (⟨hI, hF, y179, y104, f105, y108, y109, y110, y111, y113, y114, f115, y118, f119, y122, y123, y124, y125, y126, y127, y128, hO178, hO103, hA106, hO107, hO112, hA116, hO117, hA120, hO121, (show a102.toInt ≤ 2147482648 from (by have t1 : a102.toInt ≤ 2147482648 := b129; omega)), (show 0 ≤ y179.toInt from (by have t1 : 0 ≤ y179.toInt := b180; omega)), (show y179.toInt ≤ 256 from (by have t1 : y179.toInt ≤ 0 := b181; omega)), (show 0 ≤ y104.toInt from (by have t1 : 0 ≤ y104.toInt := b130; omega)), (show y104.toInt ≤ 1000000 from (by have t1 : y104.toInt ≤ 1000000 := b131; omega)), (show 0 ≤ y109.toInt + 1000000 from (by have t1 : 0 ≤ y109.toInt + 1000000 := b132; omega)), (show y109.toInt ≤ 1000000 from (by have t1 : y109.toInt ≤ 1000000 := b133; omega)), (show 0 ≤ y118.toInt + 1000000 from (by have t1 : 0 ≤ y118.toInt + 1000000 := b134; omega)), (show y118.toInt ≤ 1000000 from (by have t1 : y118.toInt ≤ 1000000 := b135; omega)), (show 0 ≤ y124.toInt + 1 from (by have t1 : 0 ≤ y124.toInt + 1 := b136; omega)), (show y124.toInt ≤ 9999 from (by have t1 : y124.toInt ≤ 9999 := b137; omega)), (show 0 ≤ y125.toInt + 1 from (by have t1 : 0 ≤ y125.toInt + 1 := b138; omega)), (show y125.toInt ≤ 9999 from (by have t1 : y125.toInt ≤ 9999 := b139; omega)), (show 0 ≤ y128.toInt from (by have t1 : 0 ≤ y128.toInt := b140; omega)), (show y128.toInt ≤ 1 from (by have t1 : y128.toInt ≤ 1 := b141; omega)), (show t0_0.toInt ≤ y179.toInt + 256 from (by have t1 : t0_0.toInt ≤ 256 := b98; have t2 : 0 ≤ y179.toInt := b180; omega)), (show y179.toInt ≤ t0_0.toInt from (by have t1 : 0 ≤ t0_0.toInt ∧ t0_0.toInt ≤ 4100 := btt0_0; have t2 : y179.toInt ≤ 0 := b181; omega)), (show t0_0.toInt ≤ y104.toInt + 256 from (by have t1 : t0_0.toInt ≤ 256 := b98; have t2 : 0 ≤ y104.toInt := b130; omega)), (show t0_0.toInt ≤ y109.toInt + 1000256 from (by have t1 : t0_0.toInt ≤ 256 := b98; have t2 : 0 ≤ y109.toInt + 1000000 := b132; omega)), (show t0_0.toInt ≤ y118.toInt + 1000256 from (by have t1 : t0_0.toInt ≤ 256 := b98; have t2 : 0 ≤ y118.toInt + 1000000 := b134; omega)), (show t0_0.toInt ≤ y124.toInt + 257 from (by have t1 : t0_0.toInt ≤ 256 := b98; have t2 : 0 ≤ y124.toInt + 1 := b136; omega)), (show t0_0.toInt ≤ y125.toInt + 257 from (by have t1 : t0_0.toInt ≤ 256 := b98; have t2 : 0 ≤ y125.toInt + 1 := b138; omega)), (show t0_0.toInt ≤ y128.toInt + 256 from (by have t1 : t0_0.toInt ≤ 256 := b98; have t2 : 0 ≤ y128.toInt := b140; omega)), (show y104.toInt ≤ a102.toInt + 12255 from (by have t1 : y104.toInt ≤ a102.toInt + 12255 := b142; omega)), (show y109.toInt ≤ a102.toInt + 1000000 from (by have t1 : y109.toInt ≤ a102.toInt + 1000000 := b143; omega)), (show y118.toInt ≤ a102.toInt + 1000000 from (by have t1 : y118.toInt ≤ a102.toInt + 1000000 := b144; omega)), (show ((0 : Int32), a102, y179, y104, f105, y108, y109, y110, y111, y113, y114, f115, y118, f119, y122, y123, y124, y125, y126, y127, y128) = (F_NH_format t0_0 t1_0 t2_0 t3_0 t4_0 t4_1 t4_2 t4_3 t5_0 t6_0 t7_0 t8_0 t8_1 t9_0 t10_0 t11_0 t12_0 t12_1 t12_2 t12_3 t12_4 t12_5 t12_6 t13_0 t14_0 t15_0 t16_0 t17_0 t18_0 t19_0 t20_0 t21_0 t22_0 t23_0 t24_0 t25_0 t26_0 t27_0 t28_0 t29_0 t30_0) from Eq.trans (by have c173x := c173; rw [e149] at c173x; rw [e184, e167, e166, e165, e164, e163, e162, e161, e160, e159, e158, e157, e156, e155, e154, e153, e152, e151, e150, e149, F_NH_format_c32.eq_1, if_neg c173x]) hR168)⟩) d_1_20_48)
  ·
    have b185 : q_F (256 < t0_0.toInt) := (q_nleI c97)
    exact q_throwW (names := ["java/lang/RuntimeException", "java/lang/Exception"]) C0 V hlt hno rfl hl.1 (by decide) (by decide) w_1688 w_36 wo_1730 w_1689 t_NH_354 d_1_20_13 d_1_20_16 d_1_20_17 d_1_20_20 d_1_20_23 (by decide) (by decide) (by decide) (by decide) ⟨(3 : Int32), qE3, (by decide), hI, hF, t0_0, t2_0, t3_0, t4_0, t4_1, t4_2, t4_3, t8_0, t8_1, t9_0, t10_0, t11_0, t12_0, t12_1, t12_2, t12_3, t12_4, t12_5, t12_6, hT0, hT2, hT3, hT4, hT8, hT9, hT10, hT11, hT12, (show ((3 : Int32), (0 : Int32), t0_0, t2_0, t3_0, t4_0, t4_1, t4_2, t4_3, t8_0, t8_1, t9_0, t10_0, t11_0, t12_0, t12_1, t12_2, t12_3, t12_4, t12_5, t12_6) = (F_NH_format t0_0 t1_0 t2_0 t3_0 t4_0 t4_1 t4_2 t4_3 t5_0 t6_0 t7_0 t8_0 t8_1 t9_0 t10_0 t11_0 t12_0 t12_1 t12_2 t12_3 t12_4 t12_5 t12_6 t13_0 t14_0 t15_0 t16_0 t17_0 t18_0 t19_0 t20_0 t21_0 t22_0 t23_0 t24_0 t25_0 t26_0 t27_0 t28_0 t29_0 t30_0) from (by rw [F_NH_format.eq_1, if_neg c97]))⟩
