theorem d_14_25_0 : decode prog_14_method_25_code 0 = .ok (.aload_n 0, 1) := by decide +kernel
theorem d_14_25_1 : decode prog_14_method_25_code 1 = .ok (.getfield 26, 3) := by decide +kernel
theorem d_14_25_4 : decode prog_14_method_25_code 4 = .ok (.iload_n 1, 1) := by decide +kernel
theorem d_14_25_5 : decode prog_14_method_25_code 5 = .ok (.iload_n 2, 1) := by decide +kernel
theorem d_14_25_6 : decode prog_14_method_25_code 6 = .ok (.iload_n 3, 1) := by decide +kernel
theorem d_14_25_7 : decode prog_14_method_25_code 7 = .ok (.iload 4, 2) := by decide +kernel
theorem d_14_25_9 : decode prog_14_method_25_code 9 = .ok (.iload 5, 2) := by decide +kernel
theorem d_14_25_11 : decode prog_14_method_25_code 11 = .ok (.invokevirtual 213, 3) := by decide +kernel
set_option maxRecDepth 100000 in
theorem w_2871 : (Cond.code ({ cls := "NumberHouseModel$DecimalRows", name := "divide", desc := "(IIIII)V" } : MethodName) prog_15_method_37_code (12 : Nat) (none : Option ClassFile.FieldType)) ∈ q_tbl := q_of12 231 rfl (by decide +kernel)
set_option maxRecDepth 100000 in
theorem w_2868 : (Cond.methodLink "NumberHouseModel" (213 : Nat) ({ cls := "NumberHouseModel$DecimalRows", name := "divide", desc := "(IIIII)V" } : MethodName)) ∈ q_tbl := q_of12 228 rfl (by decide +kernel)
set_option maxRecDepth 100000 in
theorem w_2869 : (Cond.instanceMethod ({ cls := "NumberHouseModel$DecimalRows", name := "divide", desc := "(IIIII)V" } : MethodName)) ∈ q_tbl := q_of12 229 rfl (by decide +kernel)
set_option maxRecDepth 100000 in
theorem w_2870 : (Cond.selects "NumberHouseModel$DecimalRows" ({ cls := "NumberHouseModel$DecimalRows", name := "divide", desc := "(IIIII)V" } : MethodName) ({ cls := "NumberHouseModel$DecimalRows", name := "divide", desc := "(IIIII)V" } : MethodName)) ∈ q_tbl := q_of12 230 rfl (by decide +kernel)
theorem LV_NM_213 : q_LV "NumberHouseModel" 213 y_DR_divide prog_15_method_37_code 12 none 5 := ⟨w_2871, w_16, w_2868, w_2869, w_2870, ⟨by decide, by decide, by decide +kernel⟩⟩
theorem d_14_25_14 : decode prog_14_method_25_code 14 = .ok (.aload_n 0, 1) := by decide +kernel
theorem d_14_25_15 : decode prog_14_method_25_code 15 = .ok (.aload_n 0, 1) := by decide +kernel
theorem d_14_25_16 : decode prog_14_method_25_code 16 = .ok (.getfield 26, 3) := by decide +kernel
theorem d_14_25_19 : decode prog_14_method_25_code 19 = .ok (.getfield 105, 3) := by decide +kernel
theorem d_14_25_22 : decode prog_14_method_25_code 22 = .ok (.putfield 58, 3) := by decide +kernel
theorem d_14_25_25 : decode prog_14_method_25_code 25 = .ok (.return_, 1) := by decide +kernel
def y_NM_divide : MethodName := ⟨"NumberHouseModel", "divide", "(IIIII)V"⟩
def F_NM_divide_c11 (x2 : Int32) (x3 : Int32) (x4 : Int32) (x5 : Int32) (x6 : Int32) (t0_0 : Int32) (t0_1 : Int32) (t0_2 : Int32) (t1_0 : Int32) (t1_1 : Int32) (t1_2 : Int32) (t1_3 : Int64) (t1_4 : Int32) (t1_5 : Int32) (t1_6 : Int32) (t1_7 : Int32) (t1_8 : Int32) (t1_9 : Int32) (t1_10 : Int32) (t2_0 : (Nat → Int32)) (t3_0 : (Nat → Int32)) (t4_0 : (Nat → Int32)) (t5_0 : (Nat → Int32)) (t6_0 : (Nat → Int32)) (t7_0 : (Nat → Int32)) (t8_0 : (Nat → Int32)) (p85 : (Int32 × Int32 × Int32 × Int64 × Int32 × Int32 × Int32 × Int32 × Int32 × Int32 × Int32 × (Nat → Int32) × (Nat → Int32) × (Nat → Int32) × (Nat → Int32) × (Nat → Int32) × (Nat → Int32) × (Nat → Int32))) : Int32 × Int32 × Int32 × Int32 × Int32 × Int32 × Int64 × Int32 × Int32 × Int32 × Int32 × Int32 × Int32 × Int32 × (Nat → Int32) × (Nat → Int32) × (Nat → Int32) × (Nat → Int32) × (Nat → Int32) × (Nat → Int32) × (Nat → Int32) := ((p85.1 : Int32), t0_1, t0_2, (p85.1 : Int32), (p85.2.1 : Int32), (p85.2.2.1 : Int32), (p85.2.2.2.1 : Int64), (p85.2.2.2.2.1 : Int32), (p85.2.2.2.2.2.1 : Int32), (p85.2.2.2.2.2.2.1 : Int32), (p85.2.2.2.2.2.2.2.1 : Int32), (p85.2.2.2.2.2.2.2.2.1 : Int32), (p85.2.2.2.2.2.2.2.2.2.1 : Int32), (p85.2.2.2.2.2.2.2.2.2.2.1 : Int32), (p85.2.2.2.2.2.2.2.2.2.2.2.1 : (Nat → Int32)), (p85.2.2.2.2.2.2.2.2.2.2.2.2.1 : (Nat → Int32)), (p85.2.2.2.2.2.2.2.2.2.2.2.2.2.1 : (Nat → Int32)), (p85.2.2.2.2.2.2.2.2.2.2.2.2.2.2.1 : (Nat → Int32)), (p85.2.2.2.2.2.2.2.2.2.2.2.2.2.2.2.1 : (Nat → Int32)), (p85.2.2.2.2.2.2.2.2.2.2.2.2.2.2.2.2.1 : (Nat → Int32)), (p85.2.2.2.2.2.2.2.2.2.2.2.2.2.2.2.2.2 : (Nat → Int32)))
def F_NM_divide (x2 : Int32) (x3 : Int32) (x4 : Int32) (x5 : Int32) (x6 : Int32) (t0_0 : Int32) (t0_1 : Int32) (t0_2 : Int32) (t1_0 : Int32) (t1_1 : Int32) (t1_2 : Int32) (t1_3 : Int64) (t1_4 : Int32) (t1_5 : Int32) (t1_6 : Int32) (t1_7 : Int32) (t1_8 : Int32) (t1_9 : Int32) (t1_10 : Int32) (t2_0 : (Nat → Int32)) (t3_0 : (Nat → Int32)) (t4_0 : (Nat → Int32)) (t5_0 : (Nat → Int32)) (t6_0 : (Nat → Int32)) (t7_0 : (Nat → Int32)) (t8_0 : (Nat → Int32)) : Int32 × Int32 × Int32 × Int32 × Int32 × Int32 × Int64 × Int32 × Int32 × Int32 × Int32 × Int32 × Int32 × Int32 × (Nat → Int32) × (Nat → Int32) × (Nat → Int32) × (Nat → Int32) × (Nat → Int32) × (Nat → Int32) × (Nat → Int32) := F_NM_divide_c11 x2 x3 x4 x5 x6 t0_0 t0_1 t0_2 t1_0 t1_1 t1_2 t1_3 t1_4 t1_5 t1_6 t1_7 t1_8 t1_9 t1_10 t2_0 t3_0 t4_0 t5_0 t6_0 t7_0 t8_0 ((F_DR_divide x2 x3 x4 x5 x6 t1_0 t1_1 t1_2 t1_3 t1_4 t1_5 t1_6 t1_7 t1_8 t1_9 t1_10 t2_0 t3_0 t4_0 t5_0 t6_0 t7_0 t8_0) : (Int32 × Int32 × Int32 × Int64 × Int32 × Int32 × Int32 × Int32 × Int32 × Int32 × Int32 × (Nat → Int32) × (Nat → Int32) × (Nat → Int32) × (Nat → Int32) × (Nat → Int32) × (Nat → Int32) × (Nat → Int32)))
def S_NM_divide_c11 (x2 : Int32) (x3 : Int32) (x4 : Int32) (x5 : Int32) (x6 : Int32) (t0_0 : Int32) (t0_1 : Int32) (t0_2 : Int32) (t1_0 : Int32) (t1_1 : Int32) (t1_2 : Int32) (t1_3 : Int64) (t1_4 : Int32) (t1_5 : Int32) (t1_6 : Int32) (t1_7 : Int32) (t1_8 : Int32) (t1_9 : Int32) (t1_10 : Int32) (t2_0 : (Nat → Int32)) (t3_0 : (Nat → Int32)) (t4_0 : (Nat → Int32)) (t5_0 : (Nat → Int32)) (t6_0 : (Nat → Int32)) (t7_0 : (Nat → Int32)) (t8_0 : (Nat → Int32)) (p85 : (Int32 × Int32 × Int32 × Int64 × Int32 × Int32 × Int32 × Int32 × Int32 × Int32 × Int32 × (Nat → Int32) × (Nat → Int32) × (Nat → Int32) × (Nat → Int32) × (Nat → Int32) × (Nat → Int32) × (Nat → Int32))) : Prop := True
def S_NM_divide (x2 : Int32) (x3 : Int32) (x4 : Int32) (x5 : Int32) (x6 : Int32) (t0_0 : Int32) (t0_1 : Int32) (t0_2 : Int32) (t1_0 : Int32) (t1_1 : Int32) (t1_2 : Int32) (t1_3 : Int64) (t1_4 : Int32) (t1_5 : Int32) (t1_6 : Int32) (t1_7 : Int32) (t1_8 : Int32) (t1_9 : Int32) (t1_10 : Int32) (t2_0 : (Nat → Int32)) (t3_0 : (Nat → Int32)) (t4_0 : (Nat → Int32)) (t5_0 : (Nat → Int32)) (t6_0 : (Nat → Int32)) (t7_0 : (Nat → Int32)) (t8_0 : (Nat → Int32)) : Prop := (True ∧ S_DR_divide x2 x3 x4 x5 x6 t1_0 t1_1 t1_2 t1_3 t1_4 t1_5 t1_6 t1_7 t1_8 t1_9 t1_10 t2_0 t3_0 t4_0 t5_0 t6_0 t7_0 t8_0) ∧ (S_NM_divide_c11 x2 x3 x4 x5 x6 t0_0 t0_1 t0_2 t1_0 t1_1 t1_2 t1_3 t1_4 t1_5 t1_6 t1_7 t1_8 t1_9 t1_10 t2_0 t3_0 t4_0 t5_0 t6_0 t7_0 t8_0 ((F_DR_divide x2 x3 x4 x5 x6 t1_0 t1_1 t1_2 t1_3 t1_4 t1_5 t1_6 t1_7 t1_8 t1_9 t1_10 t2_0 t3_0 t4_0 t5_0 t6_0 t7_0 t8_0) : (Int32 × Int32 × Int32 × Int64 × Int32 × Int32 × Int32 × Int32 × Int32 × Int32 × Int32 × (Nat → Int32) × (Nat → Int32) × (Nat → Int32) × (Nat → Int32) × (Nat → Int32) × (Nat → Int32) × (Nat → Int32))))
set_option maxRecDepth 100000 in
set_option maxHeartbeats 4000000 in
theorem X_NM_divide (l : Launch) (D : va_G) (g : Nat → ClassId) (q : Nat → Nat) (ws : va_W) (x2 : Int32) (x3 : Int32) (x4 : Int32) (x5 : Int32) (x6 : Int32) (hI : q_I (msh g q) q ws) (t0_0 : Int32) (t0_1 : Int32) (t0_2 : Int32) (hT0 : ws[116]? = (some (q 116, .inr (12, [.int t0_0, .ref (q 117), .int t0_1, .ref (q 118), .int t0_2, .ref (q 119), .ref (q 134), .ref (q 145), .ref (q 153), .ref (q 157), .ref (q 167), .ref (q 168)])) : Option (Nat × va_E))) (t1_0 : Int32) (t1_1 : Int32) (t1_2 : Int32) (t1_3 : Int64) (t1_4 : Int32) (t1_5 : Int32) (t1_6 : Int32) (t1_7 : Int32) (t1_8 : Int32) (t1_9 : Int32) (t1_10 : Int32) (hT1 : ws[134]? = (some (q 134, .inr (14, [.int t1_0, .ref (q 135), .int t1_1, .ref (q 136), .ref (q 137), .ref (q 138), .ref (q 139), .ref (q 140), .int t1_2, .long t1_3, .int t1_4, .int t1_5, .ref (q 141), .int t1_6, .ref (q 142), .int t1_7, .ref (q 143), .int t1_8, .ref (q 144), .int t1_9, .int t1_10])) : Option (Nat × va_E))) (t2_0 : (Nat → Int32)) (hT2 : ws[136]? = (some (q 136, .inl (g 0, (10000 : Int32).toNatClampNeg, .inl t2_0)) : Option (Nat × va_E))) (t3_0 : (Nat → Int32)) (hT3 : ws[137]? = (some (q 137, .inl (g 0, (10 : Int32).toNatClampNeg, .inl t3_0)) : Option (Nat × va_E))) (t4_0 : (Nat → Int32)) (hT4 : ws[138]? = (some (q 138, .inl (g 3, 10, .inl t4_0)) : Option (Nat × va_E))) (t5_0 : (Nat → Int32)) (hT5 : ws[139]? = (some (q 139, .inl (g 0, (10 : Int32).toNatClampNeg, .inl t5_0)) : Option (Nat × va_E))) (t6_0 : (Nat → Int32)) (hT6 : ws[140]? = (some (q 140, .inl (g 0, (4400 : Int32).toNatClampNeg, .inl t6_0)) : Option (Nat × va_E))) (t7_0 : (Nat → Int32)) (hT7 : ws[142]? = (some (q 142, .inl (g 0, (2200 : Int32).toNatClampNeg, .inl t7_0)) : Option (Nat × va_E))) (t8_0 : (Nat → Int32)) (hT8 : ws[143]? = (some (q 143, .inl (g 0, (2202 : Int32).toNatClampNeg, .inl t8_0)) : Option (Nat × va_E))) (hS : True ∧ S_NM_divide x2 x3 x4 x5 x6 t0_0 t0_1 t0_2 t1_0 t1_1 t1_2 t1_3 t1_4 t1_5 t1_6 t1_7 t1_8 t1_9 t1_10 t2_0 t3_0 t4_0 t5_0 t6_0 t7_0 t8_0) : q_mV l y_NM_divide prog_14_method_25_code 6 5 0 0 D g [.ref (q 116), .int x2, .int x3, .int x4, .int x5, .int x6] ws (fun u => q_I (msh g q) q u ∧ q_un ws u [116, 134, 136, 137, 138, 139, 140, 142, 143] ∧ ∃ (u0_0 : Int32) (u0_1 : Int32) (u0_2 : Int32) (u1_0 : Int32) (u1_1 : Int32) (u1_2 : Int32) (u1_3 : Int64) (u1_4 : Int32) (u1_5 : Int32) (u1_6 : Int32) (u1_7 : Int32) (u1_8 : Int32) (u1_9 : Int32) (u1_10 : Int32) (u2_0 : (Nat → Int32)) (u3_0 : (Nat → Int32)) (u4_0 : (Nat → Int32)) (u5_0 : (Nat → Int32)) (u6_0 : (Nat → Int32)) (u7_0 : (Nat → Int32)) (u8_0 : (Nat → Int32)), u[116]? = (some (q 116, .inr (12, [.int u0_0, .ref (q 117), .int u0_1, .ref (q 118), .int u0_2, .ref (q 119), .ref (q 134), .ref (q 145), .ref (q 153), .ref (q 157), .ref (q 167), .ref (q 168)])) : Option (Nat × va_E)) ∧ u[134]? = (some (q 134, .inr (14, [.int u1_0, .ref (q 135), .int u1_1, .ref (q 136), .ref (q 137), .ref (q 138), .ref (q 139), .ref (q 140), .int u1_2, .long u1_3, .int u1_4, .int u1_5, .ref (q 141), .int u1_6, .ref (q 142), .int u1_7, .ref (q 143), .int u1_8, .ref (q 144), .int u1_9, .int u1_10])) : Option (Nat × va_E)) ∧ u[136]? = (some (q 136, .inl (g 0, (10000 : Int32).toNatClampNeg, .inl u2_0)) : Option (Nat × va_E)) ∧ u[137]? = (some (q 137, .inl (g 0, (10 : Int32).toNatClampNeg, .inl u3_0)) : Option (Nat × va_E)) ∧ u[138]? = (some (q 138, .inl (g 3, 10, .inl u4_0)) : Option (Nat × va_E)) ∧ u[139]? = (some (q 139, .inl (g 0, (10 : Int32).toNatClampNeg, .inl u5_0)) : Option (Nat × va_E)) ∧ u[140]? = (some (q 140, .inl (g 0, (4400 : Int32).toNatClampNeg, .inl u6_0)) : Option (Nat × va_E)) ∧ u[142]? = (some (q 142, .inl (g 0, (2200 : Int32).toNatClampNeg, .inl u7_0)) : Option (Nat × va_E)) ∧ u[143]? = (some (q 143, .inl (g 0, (2202 : Int32).toNatClampNeg, .inl u8_0)) : Option (Nat × va_E)) ∧ (0 ≤ u1_4.toInt) ∧ (0 ≤ u1_5.toInt) ∧ (t0_1.toInt ≤ u0_1.toInt) ∧ (u0_1.toInt ≤ t0_1.toInt) ∧ (t0_2.toInt ≤ u0_2.toInt) ∧ (u0_2.toInt ≤ t0_2.toInt) ∧ (t1_1.toInt ≤ u1_1.toInt) ∧ (u1_1.toInt ≤ t1_1.toInt) ∧ (t1_6.toInt ≤ u1_6.toInt) ∧ (u1_6.toInt ≤ t1_6.toInt) ∧ (t1_8.toInt ≤ u1_8.toInt) ∧ (u1_8.toInt ≤ t1_8.toInt) ∧ (t1_9.toInt ≤ u1_9.toInt) ∧ (u1_9.toInt ≤ t1_9.toInt) ∧ (u1_0.toInt ≤ u0_0.toInt) ∧ (u0_0.toInt ≤ u1_0.toInt) ∧ (u0_0, u0_1, u0_2, u1_0, u1_1, u1_2, u1_3, u1_4, u1_5, u1_6, u1_7, u1_8, u1_9, u1_10, u2_0, u3_0, u4_0, u5_0, u6_0, u7_0, u8_0) = (F_NM_divide x2 x3 x4 x5 x6 t0_0 t0_1 t0_2 t1_0 t1_1 t1_2 t1_3 t1_4 t1_5 t1_6 t1_7 t1_8 t1_9 t1_10 t2_0 t3_0 t4_0 t5_0 t6_0 t7_0 t8_0)) := by
  intro sz
  refine q_into (by decide) (Nat.le_of_ble_eq_true rfl) ?_
  intro p e s m below meth c ls hsz C0 V hl
  have hx := C0.1
  have hb := C0.2.1
  obtain ⟨yy0_0, yy0_1, yy0_2, hh0, btt0_1, btt0_2⟩ := n_o116 hI
  obtain ⟨rfl, rfl, rfl⟩ : t0_0 = yy0_0 ∧ t0_1 = yy0_1 ∧ t0_2 = yy0_2 := by have z := Option.some.inj (hT0.symm.trans hh0); simpa using z
  replace btt0_1 : q_F (0 ≤ t0_1.toInt ∧ t0_1.toInt ≤ 4100) := btt0_1
  replace btt0_2 : q_F (0 ≤ t0_2.toInt ∧ t0_2.toInt ≤ 12200) := btt0_2
  obtain ⟨yy1_0, yy1_1, yy1_2, yy1_3, yy1_4, yy1_5, yy1_6, yy1_7, yy1_8, yy1_9, yy1_10, hh1, btt1_1, btt1_4, btt1_5, btt1_9⟩ := n_o134 hI
  obtain ⟨rfl, rfl, rfl, rfl, rfl, rfl, rfl, rfl, rfl, rfl, rfl⟩ : t1_0 = yy1_0 ∧ t1_1 = yy1_1 ∧ t1_2 = yy1_2 ∧ t1_3 = yy1_3 ∧ t1_4 = yy1_4 ∧ t1_5 = yy1_5 ∧ t1_6 = yy1_6 ∧ t1_7 = yy1_7 ∧ t1_8 = yy1_8 ∧ t1_9 = yy1_9 ∧ t1_10 = yy1_10 := by have z := Option.some.inj (hT1.symm.trans hh1); simpa using z
  replace btt1_1 : q_F (0 ≤ t1_1.toInt ∧ t1_1.toInt ≤ 4100) := btt1_1
  replace btt1_4 : q_F (0 ≤ t1_4.toInt ∧ t1_4.toInt ≤ 1) := btt1_4
  replace btt1_5 : q_F (0 ≤ t1_5.toInt ∧ t1_5.toInt ≤ 1) := btt1_5
  replace btt1_9 : q_F (0 ≤ t1_9.toInt ∧ t1_9.toInt ≤ 12200) := btt1_9
  have hF : q_un ws ws [116, 134, 136, 137, 138, 139, 140, 142, 143] := q_u0
  have hl : lv_has ls 6 [(0, .ref (q 116)), (1, .int x2), (2, .int x3), (3, .int x4), (4, .int x5), (5, .int x6)] := hl
  refine lv_aload_n hx hb d_14_25_0 rfl (lv_at hl 0 rfl) ?_
  refine q_get (ci := 12) (j := 6) (v := .ref (q 134)) C0 V i_NM rfl rfl hT0 (by decide) w_2304 rfl d_14_25_1 ?_
  refine lv_iload_n hx hb d_14_25_4 rfl (lv_at hl 1 rfl) ?_
  refine lv_iload_n hx hb d_14_25_5 rfl (lv_at hl 2 rfl) ?_
  refine lv_iload_n hx hb d_14_25_6 rfl (lv_at hl 3 rfl) ?_
  refine lv_iload hx hb d_14_25_7 (lv_at hl 4 rfl) ?_
  refine lv_iload hx hb d_14_25_9 (lv_at hl 5 rfl) ?_
  have ob44 : True ∧ S_DR_divide x2 x3 x4 x5 x6 t1_0 t1_1 t1_2 t1_3 t1_4 t1_5 t1_6 t1_7 t1_8 t1_9 t1_10 t2_0 t3_0 t4_0 t5_0 t6_0 t7_0 t8_0 := (by have h := hS; rw [S_NM_divide.eq_1] at h; with_reducible exact h.2.1)
  refine q_gov V (q_runV (As := [.int x2, .int x3, .int x4, .int x5, .int x6]) (rest := []) (d := 4) (mc := 0) (ms := 0) (ci := 14) C0 V rfl LV_NM_213 (X_DR_divide l D g q ws  x2 x3 x4 x5 x6 hI t1_0 t1_1 t1_2 t1_3 t1_4 t1_5 t1_6 t1_7 t1_8 t1_9 t1_10 hT1 t2_0 hT2 t3_0 hT3 t4_0 hT4 t5_0 hT5 t6_0 hT6 t7_0 hT7 t8_0 hT8 ob44 _) rfl rfl hT1 rfl hl.1 rfl (Nat.le_of_ble_eq_true rfl) ⟨by decide, by decide⟩ ⟨Nat.le_of_ble_eq_true rfl, Nat.le_of_ble_eq_true rfl⟩ d_14_25_11) (fun u45 H locs hp46 V => ?_)
  obtain ⟨hI, hu84, y48, y49, y50, y51, y52, y53, y54, y55, y56, y57, y58, f59, f61, f63, f65, f67, f69, f71, hO47, hA60, hA62, hA64, hA66, hA68, hA70, hA72, b73, b74, b75, b76, b77, b78, b79, b80, b81, b82, hE83⟩ := hp46
  replace hO47 : u45[134]? = (some (q 134, .inr (14, [.int y48, .ref (q 135), .int y49, .ref (q 136), .ref (q 137), .ref (q 138), .ref (q 139), .ref (q 140), .int y50, .long y51, .int y52, .int y53, .ref (q 141), .int y54, .ref (q 142), .int y55, .ref (q 143), .int y56, .ref (q 144), .int y57, .int y58])) : Option (Nat × va_E)) := hO47
  replace hA60 : u45[136]? = (some (q 136, .inl (g 0, (10000 : Int32).toNatClampNeg, .inl f59)) : Option (Nat × va_E)) := hA60
  replace hA62 : u45[137]? = (some (q 137, .inl (g 0, (10 : Int32).toNatClampNeg, .inl f61)) : Option (Nat × va_E)) := hA62
  replace hA64 : u45[138]? = (some (q 138, .inl (g 3, 10, .inl f63)) : Option (Nat × va_E)) := hA64
  replace hA66 : u45[139]? = (some (q 139, .inl (g 0, (10 : Int32).toNatClampNeg, .inl f65)) : Option (Nat × va_E)) := hA66
  replace hA68 : u45[140]? = (some (q 140, .inl (g 0, (4400 : Int32).toNatClampNeg, .inl f67)) : Option (Nat × va_E)) := hA68
  replace hA70 : u45[142]? = (some (q 142, .inl (g 0, (2200 : Int32).toNatClampNeg, .inl f69)) : Option (Nat × va_E)) := hA70
  replace hA72 : u45[143]? = (some (q 143, .inl (g 0, (2202 : Int32).toNatClampNeg, .inl f71)) : Option (Nat × va_E)) := hA72
  obtain ⟨p85, e86⟩ : ∃ z, z = (F_DR_divide x2 x3 x4 x5 x6 t1_0 t1_1 t1_2 t1_3 t1_4 t1_5 t1_6 t1_7 t1_8 t1_9 t1_10 t2_0 t3_0 t4_0 t5_0 t6_0 t7_0 t8_0) := ⟨_, rfl⟩
  have e87 : y48 = p85.1 := congrArg (fun z => z.1) (hE83.trans e86.symm)
  have e88 : y49 = p85.2.1 := congrArg (fun z => z.2.1) (hE83.trans e86.symm)
  have e89 : y50 = p85.2.2.1 := congrArg (fun z => z.2.2.1) (hE83.trans e86.symm)
  have e90 : y51 = p85.2.2.2.1 := congrArg (fun z => z.2.2.2.1) (hE83.trans e86.symm)
  have e91 : y52 = p85.2.2.2.2.1 := congrArg (fun z => z.2.2.2.2.1) (hE83.trans e86.symm)
  have e92 : y53 = p85.2.2.2.2.2.1 := congrArg (fun z => z.2.2.2.2.2.1) (hE83.trans e86.symm)
  have e93 : y54 = p85.2.2.2.2.2.2.1 := congrArg (fun z => z.2.2.2.2.2.2.1) (hE83.trans e86.symm)
  have e94 : y55 = p85.2.2.2.2.2.2.2.1 := congrArg (fun z => z.2.2.2.2.2.2.2.1) (hE83.trans e86.symm)
  have e95 : y56 = p85.2.2.2.2.2.2.2.2.1 := congrArg (fun z => z.2.2.2.2.2.2.2.2.1) (hE83.trans e86.symm)
  have e96 : y57 = p85.2.2.2.2.2.2.2.2.2.1 := congrArg (fun z => z.2.2.2.2.2.2.2.2.2.1) (hE83.trans e86.symm)
  have e97 : y58 = p85.2.2.2.2.2.2.2.2.2.2.1 := congrArg (fun z => z.2.2.2.2.2.2.2.2.2.2.1) (hE83.trans e86.symm)
  have e98 : f59 = p85.2.2.2.2.2.2.2.2.2.2.2.1 := congrArg (fun z => z.2.2.2.2.2.2.2.2.2.2.2.1) (hE83.trans e86.symm)
  have e99 : f61 = p85.2.2.2.2.2.2.2.2.2.2.2.2.1 := congrArg (fun z => z.2.2.2.2.2.2.2.2.2.2.2.2.1) (hE83.trans e86.symm)
  have e100 : f63 = p85.2.2.2.2.2.2.2.2.2.2.2.2.2.1 := congrArg (fun z => z.2.2.2.2.2.2.2.2.2.2.2.2.2.1) (hE83.trans e86.symm)
  have e101 : f65 = p85.2.2.2.2.2.2.2.2.2.2.2.2.2.2.1 := congrArg (fun z => z.2.2.2.2.2.2.2.2.2.2.2.2.2.2.1) (hE83.trans e86.symm)
  have e102 : f67 = p85.2.2.2.2.2.2.2.2.2.2.2.2.2.2.2.1 := congrArg (fun z => z.2.2.2.2.2.2.2.2.2.2.2.2.2.2.2.1) (hE83.trans e86.symm)
  have e103 : f69 = p85.2.2.2.2.2.2.2.2.2.2.2.2.2.2.2.2.1 := congrArg (fun z => z.2.2.2.2.2.2.2.2.2.2.2.2.2.2.2.2.1) (hE83.trans e86.symm)
  have e104 : f71 = p85.2.2.2.2.2.2.2.2.2.2.2.2.2.2.2.2.2 := congrArg (fun z => z.2.2.2.2.2.2.2.2.2.2.2.2.2.2.2.2.2) (hE83.trans e86.symm)
  replace b73 : q_F (0 ≤ y52.toInt) := b73
  replace b74 : q_F (0 ≤ y53.toInt) := b74
  replace b75 : q_F (t1_1.toInt ≤ y49.toInt) := b75
  replace b76 : q_F (y49.toInt ≤ t1_1.toInt) := b76
  replace b77 : q_F (t1_6.toInt ≤ y54.toInt) := b77
  replace b78 : q_F (y54.toInt ≤ t1_6.toInt) := b78
  replace b79 : q_F (t1_8.toInt ≤ y56.toInt) := b79
  replace b80 : q_F (y56.toInt ≤ t1_8.toInt) := b80
  replace b81 : q_F (t1_9.toInt ≤ y57.toInt) := b81
  replace b82 : q_F (y57.toInt ≤ t1_9.toInt) := b82
  replace hT0 := (hu84 _ (by decide)).trans hT0
  replace hF := q_uc hF hu84 (by simp)
  have hR105 := (show F_NM_divide_c11 x2 x3 x4 x5 x6 t0_0 t0_1 t0_2 t1_0 t1_1 t1_2 t1_3 t1_4 t1_5 t1_6 t1_7 t1_8 t1_9 t1_10 t2_0 t3_0 t4_0 t5_0 t6_0 t7_0 t8_0 p85 = (F_NM_divide x2 x3 x4 x5 x6 t0_0 t0_1 t0_2 t1_0 t1_1 t1_2 t1_3 t1_4 t1_5 t1_6 t1_7 t1_8 t1_9 t1_10 t2_0 t3_0 t4_0 t5_0 t6_0 t7_0 t8_0) from (by rw [e86, F_NM_divide.eq_1]))
  have hS106 := (show True ∧ S_NM_divide_c11 x2 x3 x4 x5 x6 t0_0 t0_1 t0_2 t1_0 t1_1 t1_2 t1_3 t1_4 t1_5 t1_6 t1_7 t1_8 t1_9 t1_10 t2_0 t3_0 t4_0 t5_0 t6_0 t7_0 t8_0 p85 from (by rw [e86]; have h := hS; rw [S_NM_divide.eq_1] at h; replace h := q_s2 h; with_reducible exact h))
  refine lv_aload_n hx hb d_14_25_14 rfl (lv_at hl 0 rfl) ?_
  refine lv_aload_n hx hb d_14_25_15 rfl (lv_at hl 0 rfl) ?_
  refine q_get (ci := 12) (j := 6) (v := .ref (q 134)) C0 V i_NM rfl rfl hT0 (by decide) w_2304 rfl d_14_25_16 ?_
  refine q_getN (ci := 14) (j := 0) (v := .int y48) C0 V i_DR rfl rfl hO47 (by decide) wo_1997 rfl d_14_25_19 ?_
  refine q_put (ci := 12) (j := 0) (v := .int y48) (ty := .int) C0 V i_NM o_NM n_NM rfl rfl hT0 (by decide) w_2298 rfl rfl rfl rfl (Nat.le_of_ble_eq_true rfl) d_14_25_22 (fun H locs w110 hu111 hT0 V => ?_)
  replace hT0 : w110[116]? = (some (q 116, .inr (12, [.int y48, .ref (q 117), .int t0_1, .ref (q 118), .int t0_2, .ref (q 119), .ref (q 134), .ref (q 145), .ref (q 153), .ref (q 157), .ref (q 167), .ref (q 168)])) : Option (Nat × va_E)) := hT0
  replace hI := n_p116 hI hu111 hT0 ⟨(by have t1 : 0 ≤ t0_1.toInt ∧ t0_1.toInt ≤ 4100 := btt0_1; omega), (by have t1 : 0 ≤ t0_1.toInt ∧ t0_1.toInt ≤ 4100 := btt0_1; omega)⟩ ⟨(by have t1 : 0 ≤ t0_2.toInt ∧ t0_2.toInt ≤ 12200 := btt0_2; omega), (by have t1 : 0 ≤ t0_2.toInt ∧ t0_2.toInt ≤ 12200 := btt0_2; omega)⟩
  replace hO47 := (hu111 _ (by decide)).trans hO47
  replace hA60 := (hu111 _ (by decide)).trans hA60
  replace hA62 := (hu111 _ (by decide)).trans hA62
  replace hA64 := (hu111 _ (by decide)).trans hA64
  replace hA66 := (hu111 _ (by decide)).trans hA66
  replace hA68 := (hu111 _ (by decide)).trans hA68
  replace hA70 := (hu111 _ (by decide)).trans hA70
  replace hA72 := (hu111 _ (by decide)).trans hA72
  replace hF := q_us hF hu111 (by simp)
  exact q_retv C0 V (⟨hI, hF, y48, t0_1, t0_2, y48, y49, y50, y51, y52, y53, y54, y55, y56, y57, y58, f59, f61, f63, f65, f67, f69, f71, hT0, hO47, hA60, hA62, hA64, hA66, hA68, hA70, hA72, (show 0 ≤ y52.toInt from (by have t1 : 0 ≤ y52.toInt := b73; omega)), (show 0 ≤ y53.toInt from (by have t1 : 0 ≤ y53.toInt := b74; omega)), (show t0_1.toInt ≤ t0_1.toInt from (by omega)), (show t0_1.toInt ≤ t0_1.toInt from (by omega)), (show t0_2.toInt ≤ t0_2.toInt from (by omega)), (show t0_2.toInt ≤ t0_2.toInt from (by omega)), (show t1_1.toInt ≤ y49.toInt from (by have t1 : t1_1.toInt ≤ y49.toInt := b75; omega)), (show y49.toInt ≤ t1_1.toInt from (by have t1 : y49.toInt ≤ t1_1.toInt := b76; omega)), (show t1_6.toInt ≤ y54.toInt from (by have t1 : t1_6.toInt ≤ y54.toInt := b77; omega)), (show y54.toInt ≤ t1_6.toInt from (by have t1 : y54.toInt ≤ t1_6.toInt := b78; omega)), (show t1_8.toInt ≤ y56.toInt from (by have t1 : t1_8.toInt ≤ y56.toInt := b79; omega)), (show y56.toInt ≤ t1_8.toInt from (by have t1 : y56.toInt ≤ t1_8.toInt := b80; omega)), (show t1_9.toInt ≤ y57.toInt from (by have t1 : t1_9.toInt ≤ y57.toInt := b81; omega)), (show y57.toInt ≤ t1_9.toInt from (by have t1 : y57.toInt ≤ t1_9.toInt := b82; omega)), (show y48.toInt ≤ y48.toInt from (by omega)), (show y48.toInt ≤ y48.toInt from (by omega)), (show (y48, t0_1, t0_2, y48, y49, y50, y51, y52, y53, y54, y55, y56, y57, y58, f59, f61, f63, f65, f67, f69, f71) = (F_NM_divide x2 x3 x4 x5 x6 t0_0 t0_1 t0_2 t1_0 t1_1 t1_2 t1_3 t1_4 t1_5 t1_6 t1_7 t1_8 t1_9 t1_10 t2_0 t3_0 t4_0 t5_0 t6_0 t7_0 t8_0) from Eq.trans (by rw [e104, e103, e102, e101, e100, e99, e98, e97, e96, e95, e94, e93, e92, e91, e90, e89, e88, e87, F_NM_divide_c11.eq_1]) hR105)⟩) d_14_25_25
theorem d_14_26_0 : decode prog_14_method_26_code 0 = .ok (.aload_n 0, 1) := by decide +kernel
theorem d_14_26_1 : decode prog_14_method_26_code 1 = .ok (.getfield 26, 3) := by decide +kernel
theorem d_14_26_4 : decode prog_14_method_26_code 4 = .ok (.iload_n 1, 1) := by decide +kernel
theorem d_14_26_5 : decode prog_14_method_26_code 5 = .ok (.iload_n 2, 1) := by decide +kernel
theorem d_14_26_6 : decode prog_14_method_26_code 6 = .ok (.iload_n 3, 1) := by decide +kernel
theorem d_14_26_7 : decode prog_14_method_26_code 7 = .ok (.iload 4, 2) := by decide +kernel
theorem d_14_26_9 : decode prog_14_method_26_code 9 = .ok (.iload 5, 2) := by decide +kernel
theorem d_14_26_11 : decode prog_14_method_26_code 11 = .ok (.invokevirtual 216, 3) := by decide +kernel
set_option maxRecDepth 100000 in
theorem w_2890 : (Cond.code ({ cls := "NumberHouseModel$DecimalRows", name := "quotient", desc := "(IIIII)V" } : MethodName) prog_15_method_38_code (12 : Nat) (none : Option ClassFile.FieldType)) ∈ q_tbl := q_of13 10 rfl (by decide +kernel)
set_option maxRecDepth 100000 in
theorem w_2887 : (Cond.methodLink "NumberHouseModel" (216 : Nat) ({ cls := "NumberHouseModel$DecimalRows", name := "quotient", desc := "(IIIII)V" } : MethodName)) ∈ q_tbl := q_of13 7 rfl (by decide +kernel)
set_option maxRecDepth 100000 in
theorem w_2888 : (Cond.instanceMethod ({ cls := "NumberHouseModel$DecimalRows", name := "quotient", desc := "(IIIII)V" } : MethodName)) ∈ q_tbl := q_of13 8 rfl (by decide +kernel)
set_option maxRecDepth 100000 in
theorem w_2889 : (Cond.selects "NumberHouseModel$DecimalRows" ({ cls := "NumberHouseModel$DecimalRows", name := "quotient", desc := "(IIIII)V" } : MethodName) ({ cls := "NumberHouseModel$DecimalRows", name := "quotient", desc := "(IIIII)V" } : MethodName)) ∈ q_tbl := q_of13 9 rfl (by decide +kernel)
theorem LV_NM_216 : q_LV "NumberHouseModel" 216 y_DR_quotient prog_15_method_38_code 12 none 5 := ⟨w_2890, w_16, w_2887, w_2888, w_2889, ⟨by decide, by decide, by decide +kernel⟩⟩
theorem d_14_26_14 : decode prog_14_method_26_code 14 = .ok (.aload_n 0, 1) := by decide +kernel
theorem d_14_26_15 : decode prog_14_method_26_code 15 = .ok (.aload_n 0, 1) := by decide +kernel
theorem d_14_26_16 : decode prog_14_method_26_code 16 = .ok (.getfield 26, 3) := by decide +kernel
theorem d_14_26_19 : decode prog_14_method_26_code 19 = .ok (.getfield 105, 3) := by decide +kernel
theorem d_14_26_22 : decode prog_14_method_26_code 22 = .ok (.putfield 58, 3) := by decide +kernel
theorem d_14_26_25 : decode prog_14_method_26_code 25 = .ok (.return_, 1) := by decide +kernel
def y_NM_quotient : MethodName := ⟨"NumberHouseModel", "quotient", "(IIIII)V"⟩
def F_NM_quotient_c11 (x2 : Int32) (x3 : Int32) (x4 : Int32) (x5 : Int32) (x6 : Int32) (t0_0 : Int32) (t0_1 : Int32) (t0_2 : Int32) (t1_0 : Int32) (t1_1 : Int32) (t1_2 : Int32) (t1_3 : Int64) (t1_4 : Int32) (t1_5 : Int32) (t1_6 : Int32) (t1_7 : Int32) (t1_8 : Int32) (t1_9 : Int32) (t1_10 : Int32) (t2_0 : (Nat → Int32)) (t3_0 : (Nat → Int32)) (t4_0 : (Nat → Int32)) (t5_0 : (Nat → Int32)) (t6_0 : (Nat → Int32)) (t7_0 : (Nat → Int32)) (t8_0 : (Nat → Int32)) (p86 : (Int32 × Int32 × Int32 × Int64 × Int32 × Int32 × Int32 × Int32 × Int32 × Int32 × Int32 × (Nat → Int32) × (Nat → Int32) × (Nat → Int32) × (Nat → Int32) × (Nat → Int32) × (Nat → Int32) × (Nat → Int32))) : Int32 × Int32 × Int32 × Int32 × Int32 × Int32 × Int64 × Int32 × Int32 × Int32 × Int32 × Int32 × Int32 × Int32 × (Nat → Int32) × (Nat → Int32) × (Nat → Int32) × (Nat → Int32) × (Nat → Int32) × (Nat → Int32) × (Nat → Int32) := ((p86.1 : Int32), t0_1, t0_2, (p86.1 : Int32), (p86.2.1 : Int32), (p86.2.2.1 : Int32), (p86.2.2.2.1 : Int64), (p86.2.2.2.2.1 : Int32), (p86.2.2.2.2.2.1 : Int32), (p86.2.2.2.2.2.2.1 : Int32), (p86.2.2.2.2.2.2.2.1 : Int32), (p86.2.2.2.2.2.2.2.2.1 : Int32), (p86.2.2.2.2.2.2.2.2.2.1 : Int32), (p86.2.2.2.2.2.2.2.2.2.2.1 : Int32), (p86.2.2.2.2.2.2.2.2.2.2.2.1 : (Nat → Int32)), (p86.2.2.2.2.2.2.2.2.2.2.2.2.1 : (Nat → Int32)), (p86.2.2.2.2.2.2.2.2.2.2.2.2.2.1 : (Nat → Int32)), (p86.2.2.2.2.2.2.2.2.2.2.2.2.2.2.1 : (Nat → Int32)), (p86.2.2.2.2.2.2.2.2.2.2.2.2.2.2.2.1 : (Nat → Int32)), (p86.2.2.2.2.2.2.2.2.2.2.2.2.2.2.2.2.1 : (Nat → Int32)), (p86.2.2.2.2.2.2.2.2.2.2.2.2.2.2.2.2.2 : (Nat → Int32)))
def F_NM_quotient (x2 : Int32) (x3 : Int32) (x4 : Int32) (x5 : Int32) (x6 : Int32) (t0_0 : Int32) (t0_1 : Int32) (t0_2 : Int32) (t1_0 : Int32) (t1_1 : Int32) (t1_2 : Int32) (t1_3 : Int64) (t1_4 : Int32) (t1_5 : Int32) (t1_6 : Int32) (t1_7 : Int32) (t1_8 : Int32) (t1_9 : Int32) (t1_10 : Int32) (t2_0 : (Nat → Int32)) (t3_0 : (Nat → Int32)) (t4_0 : (Nat → Int32)) (t5_0 : (Nat → Int32)) (t6_0 : (Nat → Int32)) (t7_0 : (Nat → Int32)) (t8_0 : (Nat → Int32)) : Int32 × Int32 × Int32 × Int32 × Int32 × Int32 × Int64 × Int32 × Int32 × Int32 × Int32 × Int32 × Int32 × Int32 × (Nat → Int32) × (Nat → Int32) × (Nat → Int32) × (Nat → Int32) × (Nat → Int32) × (Nat → Int32) × (Nat → Int32) := F_NM_quotient_c11 x2 x3 x4 x5 x6 t0_0 t0_1 t0_2 t1_0 t1_1 t1_2 t1_3 t1_4 t1_5 t1_6 t1_7 t1_8 t1_9 t1_10 t2_0 t3_0 t4_0 t5_0 t6_0 t7_0 t8_0 ((F_DR_quotient x2 x3 x4 x5 x6 t1_0 t1_1 t1_2 t1_3 t1_4 t1_5 t1_6 t1_7 t1_8 t1_9 t1_10 t2_0 t3_0 t4_0 t5_0 t6_0 t7_0 t8_0) : (Int32 × Int32 × Int32 × Int64 × Int32 × Int32 × Int32 × Int32 × Int32 × Int32 × Int32 × (Nat → Int32) × (Nat → Int32) × (Nat → Int32) × (Nat → Int32) × (Nat → Int32) × (Nat → Int32) × (Nat → Int32)))
def S_NM_quotient_c11 (x2 : Int32) (x3 : Int32) (x4 : Int32) (x5 : Int32) (x6 : Int32) (t0_0 : Int32) (t0_1 : Int32) (t0_2 : Int32) (t1_0 : Int32) (t1_1 : Int32) (t1_2 : Int32) (t1_3 : Int64) (t1_4 : Int32) (t1_5 : Int32) (t1_6 : Int32) (t1_7 : Int32) (t1_8 : Int32) (t1_9 : Int32) (t1_10 : Int32) (t2_0 : (Nat → Int32)) (t3_0 : (Nat → Int32)) (t4_0 : (Nat → Int32)) (t5_0 : (Nat → Int32)) (t6_0 : (Nat → Int32)) (t7_0 : (Nat → Int32)) (t8_0 : (Nat → Int32)) (p86 : (Int32 × Int32 × Int32 × Int64 × Int32 × Int32 × Int32 × Int32 × Int32 × Int32 × Int32 × (Nat → Int32) × (Nat → Int32) × (Nat → Int32) × (Nat → Int32) × (Nat → Int32) × (Nat → Int32) × (Nat → Int32))) : Prop := True
def S_NM_quotient (x2 : Int32) (x3 : Int32) (x4 : Int32) (x5 : Int32) (x6 : Int32) (t0_0 : Int32) (t0_1 : Int32) (t0_2 : Int32) (t1_0 : Int32) (t1_1 : Int32) (t1_2 : Int32) (t1_3 : Int64) (t1_4 : Int32) (t1_5 : Int32) (t1_6 : Int32) (t1_7 : Int32) (t1_8 : Int32) (t1_9 : Int32) (t1_10 : Int32) (t2_0 : (Nat → Int32)) (t3_0 : (Nat → Int32)) (t4_0 : (Nat → Int32)) (t5_0 : (Nat → Int32)) (t6_0 : (Nat → Int32)) (t7_0 : (Nat → Int32)) (t8_0 : (Nat → Int32)) : Prop := (True ∧ S_DR_quotient x2 x3 x4 x5 x6 t1_0 t1_1 t1_2 t1_3 t1_4 t1_5 t1_6 t1_7 t1_8 t1_9 t1_10 t2_0 t3_0 t4_0 t5_0 t6_0 t7_0 t8_0) ∧ (S_NM_quotient_c11 x2 x3 x4 x5 x6 t0_0 t0_1 t0_2 t1_0 t1_1 t1_2 t1_3 t1_4 t1_5 t1_6 t1_7 t1_8 t1_9 t1_10 t2_0 t3_0 t4_0 t5_0 t6_0 t7_0 t8_0 ((F_DR_quotient x2 x3 x4 x5 x6 t1_0 t1_1 t1_2 t1_3 t1_4 t1_5 t1_6 t1_7 t1_8 t1_9 t1_10 t2_0 t3_0 t4_0 t5_0 t6_0 t7_0 t8_0) : (Int32 × Int32 × Int32 × Int64 × Int32 × Int32 × Int32 × Int32 × Int32 × Int32 × Int32 × (Nat → Int32) × (Nat → Int32) × (Nat → Int32) × (Nat → Int32) × (Nat → Int32) × (Nat → Int32) × (Nat → Int32))))
set_option maxRecDepth 100000 in
set_option maxHeartbeats 4000000 in
theorem X_NM_quotient (l : Launch) (D : va_G) (g : Nat → ClassId) (q : Nat → Nat) (ws : va_W) (x2 : Int32) (x3 : Int32) (x4 : Int32) (x5 : Int32) (x6 : Int32) (hI : q_I (msh g q) q ws) (t0_0 : Int32) (t0_1 : Int32) (t0_2 : Int32) (hT0 : ws[116]? = (some (q 116, .inr (12, [.int t0_0, .ref (q 117), .int t0_1, .ref (q 118), .int t0_2, .ref (q 119), .ref (q 134), .ref (q 145), .ref (q 153), .ref (q 157), .ref (q 167), .ref (q 168)])) : Option (Nat × va_E))) (t1_0 : Int32) (t1_1 : Int32) (t1_2 : Int32) (t1_3 : Int64) (t1_4 : Int32) (t1_5 : Int32) (t1_6 : Int32) (t1_7 : Int32) (t1_8 : Int32) (t1_9 : Int32) (t1_10 : Int32) (hT1 : ws[134]? = (some (q 134, .inr (14, [.int t1_0, .ref (q 135), .int t1_1, .ref (q 136), .ref (q 137), .ref (q 138), .ref (q 139), .ref (q 140), .int t1_2, .long t1_3, .int t1_4, .int t1_5, .ref (q 141), .int t1_6, .ref (q 142), .int t1_7, .ref (q 143), .int t1_8, .ref (q 144), .int t1_9, .int t1_10])) : Option (Nat × va_E))) (t2_0 : (Nat → Int32)) (hT2 : ws[136]? = (some (q 136, .inl (g 0, (10000 : Int32).toNatClampNeg, .inl t2_0)) : Option (Nat × va_E))) (t3_0 : (Nat → Int32)) (hT3 : ws[137]? = (some (q 137, .inl (g 0, (10 : Int32).toNatClampNeg, .inl t3_0)) : Option (Nat × va_E))) (t4_0 : (Nat → Int32)) (hT4 : ws[138]? = (some (q 138, .inl (g 3, 10, .inl t4_0)) : Option (Nat × va_E))) (t5_0 : (Nat → Int32)) (hT5 : ws[139]? = (some (q 139, .inl (g 0, (10 : Int32).toNatClampNeg, .inl t5_0)) : Option (Nat × va_E))) (t6_0 : (Nat → Int32)) (hT6 : ws[140]? = (some (q 140, .inl (g 0, (4400 : Int32).toNatClampNeg, .inl t6_0)) : Option (Nat × va_E))) (t7_0 : (Nat → Int32)) (hT7 : ws[142]? = (some (q 142, .inl (g 0, (2200 : Int32).toNatClampNeg, .inl t7_0)) : Option (Nat × va_E))) (t8_0 : (Nat → Int32)) (hT8 : ws[143]? = (some (q 143, .inl (g 0, (2202 : Int32).toNatClampNeg, .inl t8_0)) : Option (Nat × va_E))) (hS : True ∧ S_NM_quotient x2 x3 x4 x5 x6 t0_0 t0_1 t0_2 t1_0 t1_1 t1_2 t1_3 t1_4 t1_5 t1_6 t1_7 t1_8 t1_9 t1_10 t2_0 t3_0 t4_0 t5_0 t6_0 t7_0 t8_0) : q_mV l y_NM_quotient prog_14_method_26_code 6 6 0 0 D g [.ref (q 116), .int x2, .int x3, .int x4, .int x5, .int x6] ws (fun u => q_I (msh g q) q u ∧ q_un ws u [116, 134, 136, 137, 138, 139, 140, 142, 143] ∧ ∃ (u0_0 : Int32) (u0_1 : Int32) (u0_2 : Int32) (u1_0 : Int32) (u1_1 : Int32) (u1_2 : Int32) (u1_3 : Int64) (u1_4 : Int32) (u1_5 : Int32) (u1_6 : Int32) (u1_7 : Int32) (u1_8 : Int32) (u1_9 : Int32) (u1_10 : Int32) (u2_0 : (Nat → Int32)) (u3_0 : (Nat → Int32)) (u4_0 : (Nat → Int32)) (u5_0 : (Nat → Int32)) (u6_0 : (Nat → Int32)) (u7_0 : (Nat → Int32)) (u8_0 : (Nat → Int32)), u[116]? = (some (q 116, .inr (12, [.int u0_0, .ref (q 117), .int u0_1, .ref (q 118), .int u0_2, .ref (q 119), .ref (q 134), .ref (q 145), .ref (q 153), .ref (q 157), .ref (q 167), .ref (q 168)])) : Option (Nat × va_E)) ∧ u[134]? = (some (q 134, .inr (14, [.int u1_0, .ref (q 135), .int u1_1, .ref (q 136), .ref (q 137), .ref (q 138), .ref (q 139), .ref (q 140), .int u1_2, .long u1_3, .int u1_4, .int u1_5, .ref (q 141), .int u1_6, .ref (q 142), .int u1_7, .ref (q 143), .int u1_8, .ref (q 144), .int u1_9, .int u1_10])) : Option (Nat × va_E)) ∧ u[136]? = (some (q 136, .inl (g 0, (10000 : Int32).toNatClampNeg, .inl u2_0)) : Option (Nat × va_E)) ∧ u[137]? = (some (q 137, .inl (g 0, (10 : Int32).toNatClampNeg, .inl u3_0)) : Option (Nat × va_E)) ∧ u[138]? = (some (q 138, .inl (g 3, 10, .inl u4_0)) : Option (Nat × va_E)) ∧ u[139]? = (some (q 139, .inl (g 0, (10 : Int32).toNatClampNeg, .inl u5_0)) : Option (Nat × va_E)) ∧ u[140]? = (some (q 140, .inl (g 0, (4400 : Int32).toNatClampNeg, .inl u6_0)) : Option (Nat × va_E)) ∧ u[142]? = (some (q 142, .inl (g 0, (2200 : Int32).toNatClampNeg, .inl u7_0)) : Option (Nat × va_E)) ∧ u[143]? = (some (q 143, .inl (g 0, (2202 : Int32).toNatClampNeg, .inl u8_0)) : Option (Nat × va_E)) ∧ (0 ≤ u1_4.toInt) ∧ (u1_4.toInt ≤ 1) ∧ (0 ≤ u1_5.toInt) ∧ (t0_1.toInt ≤ u0_1.toInt) ∧ (u0_1.toInt ≤ t0_1.toInt) ∧ (t0_2.toInt ≤ u0_2.toInt) ∧ (u0_2.toInt ≤ t0_2.toInt) ∧ (t1_1.toInt ≤ u1_1.toInt) ∧ (u1_1.toInt ≤ t1_1.toInt) ∧ (t1_6.toInt ≤ u1_6.toInt) ∧ (u1_6.toInt ≤ t1_6.toInt) ∧ (t1_8.toInt ≤ u1_8.toInt) ∧ (u1_8.toInt ≤ t1_8.toInt) ∧ (t1_9.toInt ≤ u1_9.toInt) ∧ (u1_9.toInt ≤ t1_9.toInt) ∧ (u1_0.toInt ≤ u0_0.toInt) ∧ (u0_0.toInt ≤ u1_0.toInt) ∧ (u0_0, u0_1, u0_2, u1_0, u1_1, u1_2, u1_3, u1_4, u1_5, u1_6, u1_7, u1_8, u1_9, u1_10, u2_0, u3_0, u4_0, u5_0, u6_0, u7_0, u8_0) = (F_NM_quotient x2 x3 x4 x5 x6 t0_0 t0_1 t0_2 t1_0 t1_1 t1_2 t1_3 t1_4 t1_5 t1_6 t1_7 t1_8 t1_9 t1_10 t2_0 t3_0 t4_0 t5_0 t6_0 t7_0 t8_0)) := by
  intro sz
  refine q_into (by decide) (Nat.le_of_ble_eq_true rfl) ?_
  intro p e s m below meth c ls hsz C0 V hl
  have hx := C0.1
  have hb := C0.2.1
  obtain ⟨yy0_0, yy0_1, yy0_2, hh0, btt0_1, btt0_2⟩ := n_o116 hI
  obtain ⟨rfl, rfl, rfl⟩ : t0_0 = yy0_0 ∧ t0_1 = yy0_1 ∧ t0_2 = yy0_2 := by have z := Option.some.inj (hT0.symm.trans hh0); simpa using z
  replace btt0_1 : q_F (0 ≤ t0_1.toInt ∧ t0_1.toInt ≤ 4100) := btt0_1
  replace btt0_2 : q_F (0 ≤ t0_2.toInt ∧ t0_2.toInt ≤ 12200) := btt0_2
  obtain ⟨yy1_0, yy1_1, yy1_2, yy1_3, yy1_4, yy1_5, yy1_6, yy1_7, yy1_8, yy1_9, yy1_10, hh1, btt1_1, btt1_4, btt1_5, btt1_9⟩ := n_o134 hI
  obtain ⟨rfl, rfl, rfl, rfl, rfl, rfl, rfl, rfl, rfl, rfl, rfl⟩ : t1_0 = yy1_0 ∧ t1_1 = yy1_1 ∧ t1_2 = yy1_2 ∧ t1_3 = yy1_3 ∧ t1_4 = yy1_4 ∧ t1_5 = yy1_5 ∧ t1_6 = yy1_6 ∧ t1_7 = yy1_7 ∧ t1_8 = yy1_8 ∧ t1_9 = yy1_9 ∧ t1_10 = yy1_10 := by have z := Option.some.inj (hT1.symm.trans hh1); simpa using z
  replace btt1_1 : q_F (0 ≤ t1_1.toInt ∧ t1_1.toInt ≤ 4100) := btt1_1
  replace btt1_4 : q_F (0 ≤ t1_4.toInt ∧ t1_4.toInt ≤ 1) := btt1_4
  replace btt1_5 : q_F (0 ≤ t1_5.toInt ∧ t1_5.toInt ≤ 1) := btt1_5
  replace btt1_9 : q_F (0 ≤ t1_9.toInt ∧ t1_9.toInt ≤ 12200) := btt1_9
  have hF : q_un ws ws [116, 134, 136, 137, 138, 139, 140, 142, 143] := q_u0
  have hl : lv_has ls 6 [(0, .ref (q 116)), (1, .int x2), (2, .int x3), (3, .int x4), (4, .int x5), (5, .int x6)] := hl
  refine lv_aload_n hx hb d_14_26_0 rfl (lv_at hl 0 rfl) ?_
  refine q_get (ci := 12) (j := 6) (v := .ref (q 134)) C0 V i_NM rfl rfl hT0 (by decide) w_2304 rfl d_14_26_1 ?_
  refine lv_iload_n hx hb d_14_26_4 rfl (lv_at hl 1 rfl) ?_
  refine lv_iload_n hx hb d_14_26_5 rfl (lv_at hl 2 rfl) ?_
  refine lv_iload_n hx hb d_14_26_6 rfl (lv_at hl 3 rfl) ?_
  refine lv_iload hx hb d_14_26_7 (lv_at hl 4 rfl) ?_
  refine lv_iload hx hb d_14_26_9 (lv_at hl 5 rfl) ?_
  have ob44 : True ∧ S_DR_quotient x2 x3 x4 x5 x6 t1_0 t1_1 t1_2 t1_3 t1_4 t1_5 t1_6 t1_7 t1_8 t1_9 t1_10 t2_0 t3_0 t4_0 t5_0 t6_0 t7_0 t8_0 := (by have h := hS; rw [S_NM_quotient.eq_1] at h; with_reducible exact h.2.1)
  refine q_gov V (q_runV (As := [.int x2, .int x3, .int x4, .int x5, .int x6]) (rest := []) (d := 5) (mc := 0) (ms := 0) (ci := 14) C0 V rfl LV_NM_216 (X_DR_quotient l D g q ws  x2 x3 x4 x5 x6 hI t1_0 t1_1 t1_2 t1_3 t1_4 t1_5 t1_6 t1_7 t1_8 t1_9 t1_10 hT1 t2_0 hT2 t3_0 hT3 t4_0 hT4 t5_0 hT5 t6_0 hT6 t7_0 hT7 t8_0 hT8 ob44 _) rfl rfl hT1 rfl hl.1 rfl (Nat.le_of_ble_eq_true rfl) ⟨by decide, by decide⟩ ⟨Nat.le_of_ble_eq_true rfl, Nat.le_of_ble_eq_true rfl⟩ d_14_26_11) (fun u45 H locs hp46 V => ?_)
  obtain ⟨hI, hu85, y48, y49, y50, y51, y52, y53, y54, y55, y56, y57, y58, f59, f61, f63, f65, f67, f69, f71, hO47, hA60, hA62, hA64, hA66, hA68, hA70, hA72, b73, b74, b75, b76, b77, b78, b79, b80, b81, b82, b83, hE84⟩ := hp46
  replace hO47 : u45[134]? = (some (q 134, .inr (14, [.int y48, .ref (q 135), .int y49, .ref (q 136), .ref (q 137), .ref (q 138), .ref (q 139), .ref (q 140), .int y50, .long y51, .int y52, .int y53, .ref (q 141), .int y54, .ref (q 142), .int y55, .ref (q 143), .int y56, .ref (q 144), .int y57, .int y58])) : Option (Nat × va_E)) := hO47
  replace hA60 : u45[136]? = (some (q 136, .inl (g 0, (10000 : Int32).toNatClampNeg, .inl f59)) : Option (Nat × va_E)) := hA60
  replace hA62 : u45[137]? = (some (q 137, .inl (g 0, (10 : Int32).toNatClampNeg, .inl f61)) : Option (Nat × va_E)) := hA62
  replace hA64 : u45[138]? = (some (q 138, .inl (g 3, 10, .inl f63)) : Option (Nat × va_E)) := hA64
  replace hA66 : u45[139]? = (some (q 139, .inl (g 0, (10 : Int32).toNatClampNeg, .inl f65)) : Option (Nat × va_E)) := hA66
  replace hA68 : u45[140]? = (some (q 140, .inl (g 0, (4400 : Int32).toNatClampNeg, .inl f67)) : Option (Nat × va_E)) := hA68
  replace hA70 : u45[142]? = (some (q 142, .inl (g 0, (2200 : Int32).toNatClampNeg, .inl f69)) : Option (Nat × va_E)) := hA70
  replace hA72 : u45[143]? = (some (q 143, .inl (g 0, (2202 : Int32).toNatClampNeg, .inl f71)) : Option (Nat × va_E)) := hA72
  obtain ⟨p86, e87⟩ : ∃ z, z = (F_DR_quotient x2 x3 x4 x5 x6 t1_0 t1_1 t1_2 t1_3 t1_4 t1_5 t1_6 t1_7 t1_8 t1_9 t1_10 t2_0 t3_0 t4_0 t5_0 t6_0 t7_0 t8_0) := ⟨_, rfl⟩
  have e88 : y48 = p86.1 := congrArg (fun z => z.1) (hE84.trans e87.symm)
  have e89 : y49 = p86.2.1 := congrArg (fun z => z.2.1) (hE84.trans e87.symm)
  have e90 : y50 = p86.2.2.1 := congrArg (fun z => z.2.2.1) (hE84.trans e87.symm)
  have e91 : y51 = p86.2.2.2.1 := congrArg (fun z => z.2.2.2.1) (hE84.trans e87.symm)
  have e92 : y52 = p86.2.2.2.2.1 := congrArg (fun z => z.2.2.2.2.1) (hE84.trans e87.symm)
  have e93 : y53 = p86.2.2.2.2.2.1 := congrArg (fun z => z.2.2.2.2.2.1) (hE84.trans e87.symm)
  have e94 : y54 = p86.2.2.2.2.2.2.1 := congrArg (fun z => z.2.2.2.2.2.2.1) (hE84.trans e87.symm)
  have e95 : y55 = p86.2.2.2.2.2.2.2.1 := congrArg (fun z => z.2.2.2.2.2.2.2.1) (hE84.trans e87.symm)
  have e96 : y56 = p86.2.2.2.2.2.2.2.2.1 := congrArg (fun z => z.2.2.2.2.2.2.2.2.1) (hE84.trans e87.symm)
  have e97 : y57 = p86.2.2.2.2.2.2.2.2.2.1 := congrArg (fun z => z.2.2.2.2.2.2.2.2.2.1) (hE84.trans e87.symm)
  have e98 : y58 = p86.2.2.2.2.2.2.2.2.2.2.1 := congrArg (fun z => z.2.2.2.2.2.2.2.2.2.2.1) (hE84.trans e87.symm)
  have e99 : f59 = p86.2.2.2.2.2.2.2.2.2.2.2.1 := congrArg (fun z => z.2.2.2.2.2.2.2.2.2.2.2.1) (hE84.trans e87.symm)
  have e100 : f61 = p86.2.2.2.2.2.2.2.2.2.2.2.2.1 := congrArg (fun z => z.2.2.2.2.2.2.2.2.2.2.2.2.1) (hE84.trans e87.symm)
  have e101 : f63 = p86.2.2.2.2.2.2.2.2.2.2.2.2.2.1 := congrArg (fun z => z.2.2.2.2.2.2.2.2.2.2.2.2.2.1) (hE84.trans e87.symm)
  have e102 : f65 = p86.2.2.2.2.2.2.2.2.2.2.2.2.2.2.1 := congrArg (fun z => z.2.2.2.2.2.2.2.2.2.2.2.2.2.2.1) (hE84.trans e87.symm)
  have e103 : f67 = p86.2.2.2.2.2.2.2.2.2.2.2.2.2.2.2.1 := congrArg (fun z => z.2.2.2.2.2.2.2.2.2.2.2.2.2.2.2.1) (hE84.trans e87.symm)
  have e104 : f69 = p86.2.2.2.2.2.2.2.2.2.2.2.2.2.2.2.2.1 := congrArg (fun z => z.2.2.2.2.2.2.2.2.2.2.2.2.2.2.2.2.1) (hE84.trans e87.symm)
  have e105 : f71 = p86.2.2.2.2.2.2.2.2.2.2.2.2.2.2.2.2.2 := congrArg (fun z => z.2.2.2.2.2.2.2.2.2.2.2.2.2.2.2.2.2) (hE84.trans e87.symm)
  replace b73 : q_F (0 ≤ y52.toInt) := b73
  replace b74 : q_F (y52.toInt ≤ 1) := b74
  replace b75 : q_F (0 ≤ y53.toInt) := b75
  replace b76 : q_F (t1_1.toInt ≤ y49.toInt) := b76
  replace b77 : q_F (y49.toInt ≤ t1_1.toInt) := b77
  replace b78 : q_F (t1_6.toInt ≤ y54.toInt) := b78
  replace b79 : q_F (y54.toInt ≤ t1_6.toInt) := b79
  replace b80 : q_F (t1_8.toInt ≤ y56.toInt) := b80
  replace b81 : q_F (y56.toInt ≤ t1_8.toInt) := b81
  replace b82 : q_F (t1_9.toInt ≤ y57.toInt) := b82
  replace b83 : q_F (y57.toInt ≤ t1_9.toInt) := b83
  replace hT0 := (hu85 _ (by decide)).trans hT0
  replace hF := q_uc hF hu85 (by simp)
  have hR106 := (show F_NM_quotient_c11 x2 x3 x4 x5 x6 t0_0 t0_1 t0_2 t1_0 t1_1 t1_2 t1_3 t1_4 t1_5 t1_6 t1_7 t1_8 t1_9 t1_10 t2_0 t3_0 t4_0 t5_0 t6_0 t7_0 t8_0 p86 = (F_NM_quotient x2 x3 x4 x5 x6 t0_0 t0_1 t0_2 t1_0 t1_1 t1_2 t1_3 t1_4 t1_5 t1_6 t1_7 t1_8 t1_9 t1_10 t2_0 t3_0 t4_0 t5_0 t6_0 t7_0 t8_0) from (by rw [e87, F_NM_quotient.eq_1]))
  have hS107 := (show True ∧ S_NM_quotient_c11 x2 x3 x4 x5 x6 t0_0 t0_1 t0_2 t1_0 t1_1 t1_2 t1_3 t1_4 t1_5 t1_6 t1_7 t1_8 t1_9 t1_10 t2_0 t3_0 t4_0 t5_0 t6_0 t7_0 t8_0 p86 from (by rw [e87]; have h := hS; rw [S_NM_quotient.eq_1] at h; replace h := q_s2 h; with_reducible exact h))
  refine lv_aload_n hx hb d_14_26_14 rfl (lv_at hl 0 rfl) ?_
  refine lv_aload_n hx hb d_14_26_15 rfl (lv_at hl 0 rfl) ?_
  refine q_get (ci := 12) (j := 6) (v := .ref (q 134)) C0 V i_NM rfl rfl hT0 (by decide) w_2304 rfl d_14_26_16 ?_
  refine q_getN (ci := 14) (j := 0) (v := .int y48) C0 V i_DR rfl rfl hO47 (by decide) wo_1997 rfl d_14_26_19 ?_
  refine q_put (ci := 12) (j := 0) (v := .int y48) (ty := .int) C0 V i_NM o_NM n_NM rfl rfl hT0 (by decide) w_2298 rfl rfl rfl rfl (Nat.le_of_ble_eq_true rfl) d_14_26_22 (fun H locs w111 hu112 hT0 V => ?_)
  replace hT0 : w111[116]? = (some (q 116, .inr (12, [.int y48, .ref (q 117), .int t0_1, .ref (q 118), .int t0_2, .ref (q 119), .ref (q 134), .ref (q 145), .ref (q 153), .ref (q 157), .ref (q 167), .ref (q 168)])) : Option (Nat × va_E)) := hT0
  replace hI := n_p116 hI hu112 hT0 ⟨(by have t1 : 0 ≤ t0_1.toInt ∧ t0_1.toInt ≤ 4100 := btt0_1; omega), (by have t1 : 0 ≤ t0_1.toInt ∧ t0_1.toInt ≤ 4100 := btt0_1; omega)⟩ ⟨(by have t1 : 0 ≤ t0_2.toInt ∧ t0_2.toInt ≤ 12200 := btt0_2; omega), (by have t1 : 0 ≤ t0_2.toInt ∧ t0_2.toInt ≤ 12200 := btt0_2; omega)⟩
  replace hO47 := (hu112 _ (by decide)).trans hO47
  replace hA60 := (hu112 _ (by decide)).trans hA60
  replace hA62 := (hu112 _ (by decide)).trans hA62
  replace hA64 := (hu112 _ (by decide)).trans hA64
  replace hA66 := (hu112 _ (by decide)).trans hA66
  replace hA68 := (hu112 _ (by decide)).trans hA68
  replace hA70 := (hu112 _ (by decide)).trans hA70
  replace hA72 := (hu112 _ (by decide)).trans hA72
  replace hF := q_us hF hu112 (by simp)
  exact q_retv C0 V (⟨hI, hF, y48, t0_1, t0_2, y48, y49, y50, y51, y52, y53, y54, y55, y56, y57, y58, f59, f61, f63, f65, f67, f69, f71, hT0, hO47, hA60, hA62, hA64, hA66, hA68, hA70, hA72, (show 0 ≤ y52.toInt from (by have t1 : 0 ≤ y52.toInt := b73; omega)), (show y52.toInt ≤ 1 from (by have t1 : y52.toInt ≤ 1 := b74; omega)), (show 0 ≤ y53.toInt from (by have t1 : 0 ≤ y53.toInt := b75; omega)), (show t0_1.toInt ≤ t0_1.toInt from (by omega)), (show t0_1.toInt ≤ t0_1.toInt from (by omega)), (show t0_2.toInt ≤ t0_2.toInt from (by omega)), (show t0_2.toInt ≤ t0_2.toInt from (by omega)), (show t1_1.toInt ≤ y49.toInt from (by have t1 : t1_1.toInt ≤ y49.toInt := b76; omega)), (show y49.toInt ≤ t1_1.toInt from (by have t1 : y49.toInt ≤ t1_1.toInt := b77; omega)), (show t1_6.toInt ≤ y54.toInt from (by have t1 : t1_6.toInt ≤ y54.toInt := b78; omega)), (show y54.toInt ≤ t1_6.toInt from (by have t1 : y54.toInt ≤ t1_6.toInt := b79; omega)), (show t1_8.toInt ≤ y56.toInt from (by have t1 : t1_8.toInt ≤ y56.toInt := b80; omega)), (show y56.toInt ≤ t1_8.toInt from (by have t1 : y56.toInt ≤ t1_8.toInt := b81; omega)), (show t1_9.toInt ≤ y57.toInt from (by have t1 : t1_9.toInt ≤ y57.toInt := b82; omega)), (show y57.toInt ≤ t1_9.toInt from (by have t1 : y57.toInt ≤ t1_9.toInt := b83; omega)), (show y48.toInt ≤ y48.toInt from (by omega)), (show y48.toInt ≤ y48.toInt from (by omega)), (show (y48, t0_1, t0_2, y48, y49, y50, y51, y52, y53, y54, y55, y56, y57, y58, f59, f61, f63, f65, f67, f69, f71) = (F_NM_quotient x2 x3 x4 x5 x6 t0_0 t0_1 t0_2 t1_0 t1_1 t1_2 t1_3 t1_4 t1_5 t1_6 t1_7 t1_8 t1_9 t1_10 t2_0 t3_0 t4_0 t5_0 t6_0 t7_0 t8_0) from Eq.trans (by rw [e105, e104, e103, e102, e101, e100, e99, e98, e97, e96, e95, e94, e93, e92, e91, e90, e89, e88, F_NM_quotient_c11.eq_1]) hR106)⟩) d_14_26_25
theorem d_14_27_0 : decode prog_14_method_27_code 0 = .ok (.aload_n 0, 1) := by decide +kernel
theorem d_14_27_1 : decode prog_14_method_27_code 1 = .ok (.iload_n 1, 1) := by decide +kernel
theorem d_14_27_15 : decode prog_14_method_27_code 15 = .ok (.putfield 58, 3) := by decide +kernel
theorem d_14_27_18 : decode prog_14_method_27_code 18 = .ok (.aload_n 0, 1) := by decide +kernel
theorem d_14_27_19 : decode prog_14_method_27_code 19 = .ok (.getfield 58, 3) := by decide +kernel
theorem d_14_27_22 : decode prog_14_method_27_code 22 = .ok (.ifCond .le 4, 3) := by decide +kernel
theorem d_14_27_26 : decode prog_14_method_27_code 26 = .ok (.iload_n 1, 1) := by decide +kernel
theorem d_14_27_27 : decode prog_14_method_27_code 27 = .ok (.ifCond .ne 19, 3) := by decide +kernel
theorem d_14_27_46 : decode prog_14_method_27_code 46 = .ok (.iload_n 1, 1) := by decide +kernel
theorem d_14_27_47 : decode prog_14_method_27_code 47 = .ok (.iconst 1, 1) := by decide +kernel
theorem d_14_27_48 : decode prog_14_method_27_code 48 = .ok (.if_icmp .ne 19, 3) := by decide +kernel
theorem d_14_27_67 : decode prog_14_method_27_code 67 = .ok (.aload_n 0, 1) := by decide +kernel
theorem d_14_27_68 : decode prog_14_method_27_code 68 = .ok (.getfield 26, 3) := by decide +kernel
theorem d_14_27_71 : decode prog_14_method_27_code 71 = .ok (.iload_n 2, 1) := by decide +kernel
theorem d_14_27_72 : decode prog_14_method_27_code 72 = .ok (.iload_n 3, 1) := by decide +kernel
theorem d_14_27_73 : decode prog_14_method_27_code 73 = .ok (.iload 4, 2) := by decide +kernel
theorem d_14_27_75 : decode prog_14_method_27_code 75 = .ok (.iload 5, 2) := by decide +kernel
theorem d_14_27_77 : decode prog_14_method_27_code 77 = .ok (.invokevirtual 225, 3) := by decide +kernel
set_option maxRecDepth 100000 in
theorem w_2910 : (Cond.code ({ cls := "NumberHouseModel$DecimalRows", name := "root", desc := "(IIII)V" } : MethodName) prog_15_method_42_code (11 : Nat) (none : Option ClassFile.FieldType)) ∈ q_tbl := q_of13 30 rfl (by decide +kernel)
set_option maxRecDepth 100000 in
theorem w_2907 : (Cond.methodLink "NumberHouseModel" (225 : Nat) ({ cls := "NumberHouseModel$DecimalRows", name := "root", desc := "(IIII)V" } : MethodName)) ∈ q_tbl := q_of13 27 rfl (by decide +kernel)
set_option maxRecDepth 100000 in
theorem w_2908 : (Cond.instanceMethod ({ cls := "NumberHouseModel$DecimalRows", name := "root", desc := "(IIII)V" } : MethodName)) ∈ q_tbl := q_of13 28 rfl (by decide +kernel)
set_option maxRecDepth 100000 in
theorem w_2909 : (Cond.selects "NumberHouseModel$DecimalRows" ({ cls := "NumberHouseModel$DecimalRows", name := "root", desc := "(IIII)V" } : MethodName) ({ cls := "NumberHouseModel$DecimalRows", name := "root", desc := "(IIII)V" } : MethodName)) ∈ q_tbl := q_of13 29 rfl (by decide +kernel)
theorem LV_NM_225 : q_LV "NumberHouseModel" 225 y_DR_root prog_15_method_42_code 11 none 4 := ⟨w_2910, w_16, w_2907, w_2908, w_2909, ⟨by decide, by decide, by decide +kernel⟩⟩
theorem d_14_27_80 : decode prog_14_method_27_code 80 = .ok (.aload_n 0, 1) := by decide +kernel
theorem d_14_27_81 : decode prog_14_method_27_code 81 = .ok (.aload_n 0, 1) := by decide +kernel
theorem d_14_27_82 : decode prog_14_method_27_code 82 = .ok (.getfield 26, 3) := by decide +kernel
theorem d_14_27_85 : decode prog_14_method_27_code 85 = .ok (.getfield 105, 3) := by decide +kernel
theorem d_14_27_88 : decode prog_14_method_27_code 88 = .ok (.putfield 58, 3) := by decide +kernel
theorem d_14_27_91 : decode prog_14_method_27_code 91 = .ok (.return_, 1) := by decide +kernel
theorem d_14_27_51 : decode prog_14_method_27_code 51 = .ok (.aload_n 0, 1) := by decide +kernel
theorem d_14_27_52 : decode prog_14_method_27_code 52 = .ok (.getfield 26, 3) := by decide +kernel
theorem d_14_27_55 : decode prog_14_method_27_code 55 = .ok (.iload_n 2, 1) := by decide +kernel
theorem d_14_27_56 : decode prog_14_method_27_code 56 = .ok (.iload_n 3, 1) := by decide +kernel
theorem d_14_27_57 : decode prog_14_method_27_code 57 = .ok (.iload 4, 2) := by decide +kernel
theorem d_14_27_59 : decode prog_14_method_27_code 59 = .ok (.iload 5, 2) := by decide +kernel
theorem d_14_27_61 : decode prog_14_method_27_code 61 = .ok (.invokevirtual 222, 3) := by decide +kernel
set_option maxRecDepth 100000 in
theorem w_2906 : (Cond.code ({ cls := "NumberHouseModel$DecimalRows", name := "round", desc := "(IIII)V" } : MethodName) prog_15_method_44_code (5 : Nat) (none : Option ClassFile.FieldType)) ∈ q_tbl := q_of13 26 rfl (by decide +kernel)
set_option maxRecDepth 100000 in
theorem w_2903 : (Cond.methodLink "NumberHouseModel" (222 : Nat) ({ cls := "NumberHouseModel$DecimalRows", name := "round", desc := "(IIII)V" } : MethodName)) ∈ q_tbl := q_of13 23 rfl (by decide +kernel)
set_option maxRecDepth 100000 in
theorem w_2904 : (Cond.instanceMethod ({ cls := "NumberHouseModel$DecimalRows", name := "round", desc := "(IIII)V" } : MethodName)) ∈ q_tbl := q_of13 24 rfl (by decide +kernel)
set_option maxRecDepth 100000 in
theorem w_2905 : (Cond.selects "NumberHouseModel$DecimalRows" ({ cls := "NumberHouseModel$DecimalRows", name := "round", desc := "(IIII)V" } : MethodName) ({ cls := "NumberHouseModel$DecimalRows", name := "round", desc := "(IIII)V" } : MethodName)) ∈ q_tbl := q_of13 25 rfl (by decide +kernel)
theorem LV_NM_222 : q_LV "NumberHouseModel" 222 y_DR_round prog_15_method_44_code 5 none 4 := ⟨w_2906, w_16, w_2903, w_2904, w_2905, ⟨by decide, by decide, by decide +kernel⟩⟩
theorem d_14_27_64 : decode prog_14_method_27_code 64 = .ok (.goto 16, 3) := by decide +kernel
theorem d_14_27_30 : decode prog_14_method_27_code 30 = .ok (.aload_n 0, 1) := by decide +kernel
theorem d_14_27_31 : decode prog_14_method_27_code 31 = .ok (.getfield 26, 3) := by decide +kernel
theorem d_14_27_34 : decode prog_14_method_27_code 34 = .ok (.iload_n 2, 1) := by decide +kernel
theorem d_14_27_35 : decode prog_14_method_27_code 35 = .ok (.iload_n 3, 1) := by decide +kernel
theorem d_14_27_36 : decode prog_14_method_27_code 36 = .ok (.iload 4, 2) := by decide +kernel
theorem d_14_27_38 : decode prog_14_method_27_code 38 = .ok (.iload 5, 2) := by decide +kernel
theorem d_14_27_40 : decode prog_14_method_27_code 40 = .ok (.invokevirtual 219, 3) := by decide +kernel
set_option maxRecDepth 100000 in
theorem w_2902 : (Cond.code ({ cls := "NumberHouseModel$DecimalRows", name := "toScale", desc := "(IIII)V" } : MethodName) prog_15_method_43_code (5 : Nat) (none : Option ClassFile.FieldType)) ∈ q_tbl := q_of13 22 rfl (by decide +kernel)
set_option maxRecDepth 100000 in
theorem w_2899 : (Cond.methodLink "NumberHouseModel" (219 : Nat) ({ cls := "NumberHouseModel$DecimalRows", name := "toScale", desc := "(IIII)V" } : MethodName)) ∈ q_tbl := q_of13 19 rfl (by decide +kernel)
set_option maxRecDepth 100000 in
theorem w_2900 : (Cond.instanceMethod ({ cls := "NumberHouseModel$DecimalRows", name := "toScale", desc := "(IIII)V" } : MethodName)) ∈ q_tbl := q_of13 20 rfl (by decide +kernel)
set_option maxRecDepth 100000 in
theorem w_2901 : (Cond.selects "NumberHouseModel$DecimalRows" ({ cls := "NumberHouseModel$DecimalRows", name := "toScale", desc := "(IIII)V" } : MethodName) ({ cls := "NumberHouseModel$DecimalRows", name := "toScale", desc := "(IIII)V" } : MethodName)) ∈ q_tbl := q_of13 21 rfl (by decide +kernel)
theorem LV_NM_219 : q_LV "NumberHouseModel" 219 y_DR_toScale prog_15_method_43_code 5 none 4 := ⟨w_2902, w_16, w_2899, w_2900, w_2901, ⟨by decide, by decide, by decide +kernel⟩⟩
theorem d_14_27_43 : decode prog_14_method_27_code 43 = .ok (.goto 37, 3) := by decide +kernel
theorem d_14_27_25 : decode prog_14_method_27_code 25 = .ok (.return_, 1) := by decide +kernel
theorem d_14_27_10 : decode prog_14_method_27_code 10 = .ok (.iconst 1, 1) := by decide +kernel
theorem d_14_27_11 : decode prog_14_method_27_code 11 = .ok (.goto 4, 3) := by decide +kernel
theorem d_14_27_2 : decode prog_14_method_27_code 2 = .ok (.ifCond .lt 8, 3) := by decide +kernel
theorem d_14_27_5 : decode prog_14_method_27_code 5 = .ok (.iload_n 1, 1) := by decide +kernel
theorem d_14_27_6 : decode prog_14_method_27_code 6 = .ok (.iconst 2, 1) := by decide +kernel
theorem d_14_27_7 : decode prog_14_method_27_code 7 = .ok (.if_icmp .le 7, 3) := by decide +kernel
theorem d_14_27_14 : decode prog_14_method_27_code 14 = .ok (.iconst 0, 1) := by decide +kernel
def y_NM_shape : MethodName := ⟨"NumberHouseModel", "shape", "(IIIII)V"⟩
def F_NM_shape_c77 (x2 : Int32) (x3 : Int32) (x4 : Int32) (x5 : Int32) (x6 : Int32) (t0_0 : Int32) (t0_1 : Int32) (t0_2 : Int32) (t1_0 : Int32) (t1_1 : Int32) (t1_2 : Int32) (t1_3 : Int64) (t1_4 : Int32) (t1_5 : Int32) (t1_6 : Int32) (t1_7 : Int32) (t1_8 : Int32) (t1_9 : Int32) (t1_10 : Int32) (t2_0 : (Nat → Int32)) (t3_0 : (Nat → Int32)) (t4_0 : (Nat → Int32)) (t5_0 : (Nat → Int32)) (t6_0 : (Nat → Int32)) (t7_0 : (Nat → Int32)) (t8_0 : (Nat → Int32)) (t9_0 : (Nat → Int32)) (lx47 : Int32) (p115 : (Int32 × Int32 × Int32 × Int64 × Int32 × Int32 × Int32 × Int32 × Int32 × Int32 × Int32 × (Nat → Int32) × (Nat → Int32) × (Nat → Int32) × (Nat → Int32) × (Nat → Int32) × (Nat → Int32) × (Nat → Int32) × (Nat → Int32))) : Int32 × Int32 × Int32 × Int32 × Int32 × Int32 × Int64 × Int32 × Int32 × Int32 × Int32 × Int32 × Int32 × Int32 × (Nat → Int32) × (Nat → Int32) × (Nat → Int32) × (Nat → Int32) × (Nat → Int32) × (Nat → Int32) × (Nat → Int32) × (Nat → Int32) := ((p115.1 : Int32), t0_1, t0_2, (p115.1 : Int32), (p115.2.1 : Int32), (p115.2.2.1 : Int32), (p115.2.2.2.1 : Int64), (p115.2.2.2.2.1 : Int32), (p115.2.2.2.2.2.1 : Int32), (p115.2.2.2.2.2.2.1 : Int32), (p115.2.2.2.2.2.2.2.1 : Int32), (p115.2.2.2.2.2.2.2.2.1 : Int32), (p115.2.2.2.2.2.2.2.2.2.1 : Int32), (p115.2.2.2.2.2.2.2.2.2.2.1 : Int32), (p115.2.2.2.2.2.2.2.2.2.2.2.1 : (Nat → Int32)), (p115.2.2.2.2.2.2.2.2.2.2.2.2.1 : (Nat → Int32)), (p115.2.2.2.2.2.2.2.2.2.2.2.2.2.1 : (Nat → Int32)), (p115.2.2.2.2.2.2.2.2.2.2.2.2.2.2.1 : (Nat → Int32)), (p115.2.2.2.2.2.2.2.2.2.2.2.2.2.2.2.1 : (Nat → Int32)), (p115.2.2.2.2.2.2.2.2.2.2.2.2.2.2.2.2.1 : (Nat → Int32)), (p115.2.2.2.2.2.2.2.2.2.2.2.2.2.2.2.2.2.1 : (Nat → Int32)), (p115.2.2.2.2.2.2.2.2.2.2.2.2.2.2.2.2.2.2 : (Nat → Int32)))
def F_NM_shape_c61 (x2 : Int32) (x3 : Int32) (x4 : Int32) (x5 : Int32) (x6 : Int32) (t0_0 : Int32) (t0_1 : Int32) (t0_2 : Int32) (t1_0 : Int32) (t1_1 : Int32) (t1_2 : Int32) (t1_3 : Int64) (t1_4 : Int32) (t1_5 : Int32) (t1_6 : Int32) (t1_7 : Int32) (t1_8 : Int32) (t1_9 : Int32) (t1_10 : Int32) (t2_0 : (Nat → Int32)) (t3_0 : (Nat → Int32)) (t4_0 : (Nat → Int32)) (t5_0 : (Nat → Int32)) (t6_0 : (Nat → Int32)) (t7_0 : (Nat → Int32)) (t8_0 : (Nat → Int32)) (t9_0 : (Nat → Int32)) (lx47 : Int32) (p185 : (Int32 × Int32 × Int32 × Int64 × Int32 × Int32 × Int32 × Int32 × Int32 × Int32 × Int32 × (Nat → Int32) × (Nat → Int32) × (Nat → Int32) × (Nat → Int32) × (Nat → Int32))) : Int32 × Int32 × Int32 × Int32 × Int32 × Int32 × Int64 × Int32 × Int32 × Int32 × Int32 × Int32 × Int32 × Int32 × (Nat → Int32) × (Nat → Int32) × (Nat → Int32) × (Nat → Int32) × (Nat → Int32) × (Nat → Int32) × (Nat → Int32) × (Nat → Int32) := ((p185.1 : Int32), t0_1, t0_2, (p185.1 : Int32), (p185.2.1 : Int32), (p185.2.2.1 : Int32), (p185.2.2.2.1 : Int64), (p185.2.2.2.2.1 : Int32), (p185.2.2.2.2.2.1 : Int32), (p185.2.2.2.2.2.2.1 : Int32), (p185.2.2.2.2.2.2.2.1 : Int32), (p185.2.2.2.2.2.2.2.2.1 : Int32), (p185.2.2.2.2.2.2.2.2.2.1 : Int32), (p185.2.2.2.2.2.2.2.2.2.2.1 : Int32), (p185.2.2.2.2.2.2.2.2.2.2.2.1 : (Nat → Int32)), (p185.2.2.2.2.2.2.2.2.2.2.2.2.1 : (Nat → Int32)), (p185.2.2.2.2.2.2.2.2.2.2.2.2.2.1 : (Nat → Int32)), (p185.2.2.2.2.2.2.2.2.2.2.2.2.2.2.1 : (Nat → Int32)), (p185.2.2.2.2.2.2.2.2.2.2.2.2.2.2.2 : (Nat → Int32)), t7_0, t8_0, t9_0)
def F_NM_shape_c40 (x2 : Int32) (x3 : Int32) (x4 : Int32) (x5 : Int32) (x6 : Int32) (t0_0 : Int32) (t0_1 : Int32) (t0_2 : Int32) (t1_0 : Int32) (t1_1 : Int32) (t1_2 : Int32) (t1_3 : Int64) (t1_4 : Int32) (t1_5 : Int32) (t1_6 : Int32) (t1_7 : Int32) (t1_8 : Int32) (t1_9 : Int32) (t1_10 : Int32) (t2_0 : (Nat → Int32)) (t3_0 : (Nat → Int32)) (t4_0 : (Nat → Int32)) (t5_0 : (Nat → Int32)) (t6_0 : (Nat → Int32)) (t7_0 : (Nat → Int32)) (t8_0 : (Nat → Int32)) (t9_0 : (Nat → Int32)) (lx47 : Int32) (p252 : (Int32 × Int32 × Int32 × Int64 × Int32 × Int32 × Int32 × Int32 × Int32 × Int32 × Int32 × (Nat → Int32) × (Nat → Int32) × (Nat → Int32) × (Nat → Int32) × (Nat → Int32))) : Int32 × Int32 × Int32 × Int32 × Int32 × Int32 × Int64 × Int32 × Int32 × Int32 × Int32 × Int32 × Int32 × Int32 × (Nat → Int32) × (Nat → Int32) × (Nat → Int32) × (Nat → Int32) × (Nat → Int32) × (Nat → Int32) × (Nat → Int32) × (Nat → Int32) := ((p252.1 : Int32), t0_1, t0_2, (p252.1 : Int32), (p252.2.1 : Int32), (p252.2.2.1 : Int32), (p252.2.2.2.1 : Int64), (p252.2.2.2.2.1 : Int32), (p252.2.2.2.2.2.1 : Int32), (p252.2.2.2.2.2.2.1 : Int32), (p252.2.2.2.2.2.2.2.1 : Int32), (p252.2.2.2.2.2.2.2.2.1 : Int32), (p252.2.2.2.2.2.2.2.2.2.1 : Int32), (p252.2.2.2.2.2.2.2.2.2.2.1 : Int32), (p252.2.2.2.2.2.2.2.2.2.2.2.1 : (Nat → Int32)), (p252.2.2.2.2.2.2.2.2.2.2.2.2.1 : (Nat → Int32)), (p252.2.2.2.2.2.2.2.2.2.2.2.2.2.1 : (Nat → Int32)), (p252.2.2.2.2.2.2.2.2.2.2.2.2.2.2.1 : (Nat → Int32)), (p252.2.2.2.2.2.2.2.2.2.2.2.2.2.2.2 : (Nat → Int32)), t7_0, t8_0, t9_0)
def F_NM_shape_J15 (x2 : Int32) (x3 : Int32) (x4 : Int32) (x5 : Int32) (x6 : Int32) (t0_0 : Int32) (t0_1 : Int32) (t0_2 : Int32) (t1_0 : Int32) (t1_1 : Int32) (t1_2 : Int32) (t1_3 : Int64) (t1_4 : Int32) (t1_5 : Int32) (t1_6 : Int32) (t1_7 : Int32) (t1_8 : Int32) (t1_9 : Int32) (t1_10 : Int32) (t2_0 : (Nat → Int32)) (t3_0 : (Nat → Int32)) (t4_0 : (Nat → Int32)) (t5_0 : (Nat → Int32)) (t6_0 : (Nat → Int32)) (t7_0 : (Nat → Int32)) (t8_0 : (Nat → Int32)) (t9_0 : (Nat → Int32)) (lx47 : Int32) : Int32 × Int32 × Int32 × Int32 × Int32 × Int32 × Int64 × Int32 × Int32 × Int32 × Int32 × Int32 × Int32 × Int32 × (Nat → Int32) × (Nat → Int32) × (Nat → Int32) × (Nat → Int32) × (Nat → Int32) × (Nat → Int32) × (Nat → Int32) × (Nat → Int32) := if lx47 ≤ (0 : Int32) then (if x2 = (0 : Int32) then (F_NM_shape_c40 x2 x3 x4 x5 x6 t0_0 t0_1 t0_2 t1_0 t1_1 t1_2 t1_3 t1_4 t1_5 t1_6 t1_7 t1_8 t1_9 t1_10 t2_0 t3_0 t4_0 t5_0 t6_0 t7_0 t8_0 t9_0 lx47 ((F_DR_toScale x3 x4 x5 x6 t1_0 t1_1 t1_2 t1_3 t1_4 t1_5 t1_6 t1_7 t1_8 t1_9 t1_10 t2_0 t3_0 t4_0 t5_0 t6_0) : (Int32 × Int32 × Int32 × Int64 × Int32 × Int32 × Int32 × Int32 × Int32 × Int32 × Int32 × (Nat → Int32) × (Nat → Int32) × (Nat → Int32) × (Nat → Int32) × (Nat → Int32)))) else (if x2 = (1 : Int32) then (F_NM_shape_c61 x2 x3 x4 x5 x6 t0_0 t0_1 t0_2 t1_0 t1_1 t1_2 t1_3 t1_4 t1_5 t1_6 t1_7 t1_8 t1_9 t1_10 t2_0 t3_0 t4_0 t5_0 t6_0 t7_0 t8_0 t9_0 lx47 ((F_DR_round x3 x4 x5 x6 t1_0 t1_1 t1_2 t1_3 t1_4 t1_5 t1_6 t1_7 t1_8 t1_9 t1_10 t2_0 t3_0 t4_0 t5_0 t6_0) : (Int32 × Int32 × Int32 × Int64 × Int32 × Int32 × Int32 × Int32 × Int32 × Int32 × Int32 × (Nat → Int32) × (Nat → Int32) × (Nat → Int32) × (Nat → Int32) × (Nat → Int32)))) else (F_NM_shape_c77 x2 x3 x4 x5 x6 t0_0 t0_1 t0_2 t1_0 t1_1 t1_2 t1_3 t1_4 t1_5 t1_6 t1_7 t1_8 t1_9 t1_10 t2_0 t3_0 t4_0 t5_0 t6_0 t7_0 t8_0 t9_0 lx47 ((F_DR_root x3 x4 x5 x6 t1_0 t1_1 t1_2 t1_3 t1_4 t1_5 t1_6 t1_7 t1_8 t1_9 t1_10 t2_0 t3_0 t4_0 t5_0 t6_0 t7_0 t8_0 t9_0) : (Int32 × Int32 × Int32 × Int64 × Int32 × Int32 × Int32 × Int32 × Int32 × Int32 × Int32 × (Nat → Int32) × (Nat → Int32) × (Nat → Int32) × (Nat → Int32) × (Nat → Int32) × (Nat → Int32) × (Nat → Int32) × (Nat → Int32)))))) else ((lx47, t0_1, t0_2, t1_0, t1_1, t1_2, t1_3, t1_4, t1_5, t1_6, t1_7, t1_8, t1_9, t1_10, t2_0, t3_0, t4_0, t5_0, t6_0, t7_0, t8_0, t9_0))
def F_NM_shape_J10 (x2 : Int32) (x3 : Int32) (x4 : Int32) (x5 : Int32) (x6 : Int32) (t0_0 : Int32) (t0_1 : Int32) (t0_2 : Int32) (t1_0 : Int32) (t1_1 : Int32) (t1_2 : Int32) (t1_3 : Int64) (t1_4 : Int32) (t1_5 : Int32) (t1_6 : Int32) (t1_7 : Int32) (t1_8 : Int32) (t1_9 : Int32) (t1_10 : Int32) (t2_0 : (Nat → Int32)) (t3_0 : (Nat → Int32)) (t4_0 : (Nat → Int32)) (t5_0 : (Nat → Int32)) (t6_0 : (Nat → Int32)) (t7_0 : (Nat → Int32)) (t8_0 : (Nat → Int32)) (t9_0 : (Nat → Int32)) : Int32 × Int32 × Int32 × Int32 × Int32 × Int32 × Int64 × Int32 × Int32 × Int32 × Int32 × Int32 × Int32 × Int32 × (Nat → Int32) × (Nat → Int32) × (Nat → Int32) × (Nat → Int32) × (Nat → Int32) × (Nat → Int32) × (Nat → Int32) × (Nat → Int32) := F_NM_shape_J15 x2 x3 x4 x5 x6 t0_0 t0_1 t0_2 t1_0 t1_1 t1_2 t1_3 t1_4 t1_5 t1_6 t1_7 t1_8 t1_9 t1_10 t2_0 t3_0 t4_0 t5_0 t6_0 t7_0 t8_0 t9_0 1
def F_NM_shape (x2 : Int32) (x3 : Int32) (x4 : Int32) (x5 : Int32) (x6 : Int32) (t0_0 : Int32) (t0_1 : Int32) (t0_2 : Int32) (t1_0 : Int32) (t1_1 : Int32) (t1_2 : Int32) (t1_3 : Int64) (t1_4 : Int32) (t1_5 : Int32) (t1_6 : Int32) (t1_7 : Int32) (t1_8 : Int32) (t1_9 : Int32) (t1_10 : Int32) (t2_0 : (Nat → Int32)) (t3_0 : (Nat → Int32)) (t4_0 : (Nat → Int32)) (t5_0 : (Nat → Int32)) (t6_0 : (Nat → Int32)) (t7_0 : (Nat → Int32)) (t8_0 : (Nat → Int32)) (t9_0 : (Nat → Int32)) : Int32 × Int32 × Int32 × Int32 × Int32 × Int32 × Int64 × Int32 × Int32 × Int32 × Int32 × Int32 × Int32 × Int32 × (Nat → Int32) × (Nat → Int32) × (Nat → Int32) × (Nat → Int32) × (Nat → Int32) × (Nat → Int32) × (Nat → Int32) × (Nat → Int32) := if x2 < (0 : Int32) then (F_NM_shape_J10 x2 x3 x4 x5 x6 t0_0 t0_1 t0_2 t1_0 t1_1 t1_2 t1_3 t1_4 t1_5 t1_6 t1_7 t1_8 t1_9 t1_10 t2_0 t3_0 t4_0 t5_0 t6_0 t7_0 t8_0 t9_0) else (if x2 ≤ (2 : Int32) then (F_NM_shape_J15 x2 x3 x4 x5 x6 t0_0 t0_1 t0_2 t1_0 t1_1 t1_2 t1_3 t1_4 t1_5 t1_6 t1_7 t1_8 t1_9 t1_10 t2_0 t3_0 t4_0 t5_0 t6_0 t7_0 t8_0 t9_0 0) else (F_NM_shape_J10 x2 x3 x4 x5 x6 t0_0 t0_1 t0_2 t1_0 t1_1 t1_2 t1_3 t1_4 t1_5 t1_6 t1_7 t1_8 t1_9 t1_10 t2_0 t3_0 t4_0 t5_0 t6_0 t7_0 t8_0 t9_0))
def S_NM_shape_c77 (x2 : Int32) (x3 : Int32) (x4 : Int32) (x5 : Int32) (x6 : Int32) (t0_0 : Int32) (t0_1 : Int32) (t0_2 : Int32) (t1_0 : Int32) (t1_1 : Int32) (t1_2 : Int32) (t1_3 : Int64) (t1_4 : Int32) (t1_5 : Int32) (t1_6 : Int32) (t1_7 : Int32) (t1_8 : Int32) (t1_9 : Int32) (t1_10 : Int32) (t2_0 : (Nat → Int32)) (t3_0 : (Nat → Int32)) (t4_0 : (Nat → Int32)) (t5_0 : (Nat → Int32)) (t6_0 : (Nat → Int32)) (t7_0 : (Nat → Int32)) (t8_0 : (Nat → Int32)) (t9_0 : (Nat → Int32)) (lx47 : Int32) (p115 : (Int32 × Int32 × Int32 × Int64 × Int32 × Int32 × Int32 × Int32 × Int32 × Int32 × Int32 × (Nat → Int32) × (Nat → Int32) × (Nat → Int32) × (Nat → Int32) × (Nat → Int32) × (Nat → Int32) × (Nat → Int32) × (Nat → Int32))) : Prop := True
def S_NM_shape_c61 (x2 : Int32) (x3 : Int32) (x4 : Int32) (x5 : Int32) (x6 : Int32) (t0_0 : Int32) (t0_1 : Int32) (t0_2 : Int32) (t1_0 : Int32) (t1_1 : Int32) (t1_2 : Int32) (t1_3 : Int64) (t1_4 : Int32) (t1_5 : Int32) (t1_6 : Int32) (t1_7 : Int32) (t1_8 : Int32) (t1_9 : Int32) (t1_10 : Int32) (t2_0 : (Nat → Int32)) (t3_0 : (Nat → Int32)) (t4_0 : (Nat → Int32)) (t5_0 : (Nat → Int32)) (t6_0 : (Nat → Int32)) (t7_0 : (Nat → Int32)) (t8_0 : (Nat → Int32)) (t9_0 : (Nat → Int32)) (lx47 : Int32) (p185 : (Int32 × Int32 × Int32 × Int64 × Int32 × Int32 × Int32 × Int32 × Int32 × Int32 × Int32 × (Nat → Int32) × (Nat → Int32) × (Nat → Int32) × (Nat → Int32) × (Nat → Int32))) : Prop := True
def S_NM_shape_c40 (x2 : Int32) (x3 : Int32) (x4 : Int32) (x5 : Int32) (x6 : Int32) (t0_0 : Int32) (t0_1 : Int32) (t0_2 : Int32) (t1_0 : Int32) (t1_1 : Int32) (t1_2 : Int32) (t1_3 : Int64) (t1_4 : Int32) (t1_5 : Int32) (t1_6 : Int32) (t1_7 : Int32) (t1_8 : Int32) (t1_9 : Int32) (t1_10 : Int32) (t2_0 : (Nat → Int32)) (t3_0 : (Nat → Int32)) (t4_0 : (Nat → Int32)) (t5_0 : (Nat → Int32)) (t6_0 : (Nat → Int32)) (t7_0 : (Nat → Int32)) (t8_0 : (Nat → Int32)) (t9_0 : (Nat → Int32)) (lx47 : Int32) (p252 : (Int32 × Int32 × Int32 × Int64 × Int32 × Int32 × Int32 × Int32 × Int32 × Int32 × Int32 × (Nat → Int32) × (Nat → Int32) × (Nat → Int32) × (Nat → Int32) × (Nat → Int32))) : Prop := True
def S_NM_shape_J15 (x2 : Int32) (x3 : Int32) (x4 : Int32) (x5 : Int32) (x6 : Int32) (t0_0 : Int32) (t0_1 : Int32) (t0_2 : Int32) (t1_0 : Int32) (t1_1 : Int32) (t1_2 : Int32) (t1_3 : Int64) (t1_4 : Int32) (t1_5 : Int32) (t1_6 : Int32) (t1_7 : Int32) (t1_8 : Int32) (t1_9 : Int32) (t1_10 : Int32) (t2_0 : (Nat → Int32)) (t3_0 : (Nat → Int32)) (t4_0 : (Nat → Int32)) (t5_0 : (Nat → Int32)) (t6_0 : (Nat → Int32)) (t7_0 : (Nat → Int32)) (t8_0 : (Nat → Int32)) (t9_0 : (Nat → Int32)) (lx47 : Int32) : Prop := if lx47 ≤ (0 : Int32) then (if x2 = (0 : Int32) then ((True ∧ S_DR_toScale x3 x4 x5 x6 t1_0 t1_1 t1_2 t1_3 t1_4 t1_5 t1_6 t1_7 t1_8 t1_9 t1_10 t2_0 t3_0 t4_0 t5_0 t6_0) ∧ (S_NM_shape_c40 x2 x3 x4 x5 x6 t0_0 t0_1 t0_2 t1_0 t1_1 t1_2 t1_3 t1_4 t1_5 t1_6 t1_7 t1_8 t1_9 t1_10 t2_0 t3_0 t4_0 t5_0 t6_0 t7_0 t8_0 t9_0 lx47 ((F_DR_toScale x3 x4 x5 x6 t1_0 t1_1 t1_2 t1_3 t1_4 t1_5 t1_6 t1_7 t1_8 t1_9 t1_10 t2_0 t3_0 t4_0 t5_0 t6_0) : (Int32 × Int32 × Int32 × Int64 × Int32 × Int32 × Int32 × Int32 × Int32 × Int32 × Int32 × (Nat → Int32) × (Nat → Int32) × (Nat → Int32) × (Nat → Int32) × (Nat → Int32))))) else (if x2 = (1 : Int32) then ((True ∧ S_DR_round x3 x4 x5 x6 t1_0 t1_1 t1_2 t1_3 t1_4 t1_5 t1_6 t1_7 t1_8 t1_9 t1_10 t2_0 t3_0 t4_0 t5_0 t6_0) ∧ (S_NM_shape_c61 x2 x3 x4 x5 x6 t0_0 t0_1 t0_2 t1_0 t1_1 t1_2 t1_3 t1_4 t1_5 t1_6 t1_7 t1_8 t1_9 t1_10 t2_0 t3_0 t4_0 t5_0 t6_0 t7_0 t8_0 t9_0 lx47 ((F_DR_round x3 x4 x5 x6 t1_0 t1_1 t1_2 t1_3 t1_4 t1_5 t1_6 t1_7 t1_8 t1_9 t1_10 t2_0 t3_0 t4_0 t5_0 t6_0) : (Int32 × Int32 × Int32 × Int64 × Int32 × Int32 × Int32 × Int32 × Int32 × Int32 × Int32 × (Nat → Int32) × (Nat → Int32) × (Nat → Int32) × (Nat → Int32) × (Nat → Int32))))) else ((True ∧ S_DR_root x3 x4 x5 x6 t1_0 t1_1 t1_2 t1_3 t1_4 t1_5 t1_6 t1_7 t1_8 t1_9 t1_10 t2_0 t3_0 t4_0 t5_0 t6_0 t7_0 t8_0 t9_0) ∧ (S_NM_shape_c77 x2 x3 x4 x5 x6 t0_0 t0_1 t0_2 t1_0 t1_1 t1_2 t1_3 t1_4 t1_5 t1_6 t1_7 t1_8 t1_9 t1_10 t2_0 t3_0 t4_0 t5_0 t6_0 t7_0 t8_0 t9_0 lx47 ((F_DR_root x3 x4 x5 x6 t1_0 t1_1 t1_2 t1_3 t1_4 t1_5 t1_6 t1_7 t1_8 t1_9 t1_10 t2_0 t3_0 t4_0 t5_0 t6_0 t7_0 t8_0 t9_0) : (Int32 × Int32 × Int32 × Int64 × Int32 × Int32 × Int32 × Int32 × Int32 × Int32 × Int32 × (Nat → Int32) × (Nat → Int32) × (Nat → Int32) × (Nat → Int32) × (Nat → Int32) × (Nat → Int32) × (Nat → Int32) × (Nat → Int32))))))) else (True)
def S_NM_shape_J10 (x2 : Int32) (x3 : Int32) (x4 : Int32) (x5 : Int32) (x6 : Int32) (t0_0 : Int32) (t0_1 : Int32) (t0_2 : Int32) (t1_0 : Int32) (t1_1 : Int32) (t1_2 : Int32) (t1_3 : Int64) (t1_4 : Int32) (t1_5 : Int32) (t1_6 : Int32) (t1_7 : Int32) (t1_8 : Int32) (t1_9 : Int32) (t1_10 : Int32) (t2_0 : (Nat → Int32)) (t3_0 : (Nat → Int32)) (t4_0 : (Nat → Int32)) (t5_0 : (Nat → Int32)) (t6_0 : (Nat → Int32)) (t7_0 : (Nat → Int32)) (t8_0 : (Nat → Int32)) (t9_0 : (Nat → Int32)) : Prop := S_NM_shape_J15 x2 x3 x4 x5 x6 t0_0 t0_1 t0_2 t1_0 t1_1 t1_2 t1_3 t1_4 t1_5 t1_6 t1_7 t1_8 t1_9 t1_10 t2_0 t3_0 t4_0 t5_0 t6_0 t7_0 t8_0 t9_0 1
def S_NM_shape (x2 : Int32) (x3 : Int32) (x4 : Int32) (x5 : Int32) (x6 : Int32) (t0_0 : Int32) (t0_1 : Int32) (t0_2 : Int32) (t1_0 : Int32) (t1_1 : Int32) (t1_2 : Int32) (t1_3 : Int64) (t1_4 : Int32) (t1_5 : Int32) (t1_6 : Int32) (t1_7 : Int32) (t1_8 : Int32) (t1_9 : Int32) (t1_10 : Int32) (t2_0 : (Nat → Int32)) (t3_0 : (Nat → Int32)) (t4_0 : (Nat → Int32)) (t5_0 : (Nat → Int32)) (t6_0 : (Nat → Int32)) (t7_0 : (Nat → Int32)) (t8_0 : (Nat → Int32)) (t9_0 : (Nat → Int32)) : Prop := if x2 < (0 : Int32) then (S_NM_shape_J10 x2 x3 x4 x5 x6 t0_0 t0_1 t0_2 t1_0 t1_1 t1_2 t1_3 t1_4 t1_5 t1_6 t1_7 t1_8 t1_9 t1_10 t2_0 t3_0 t4_0 t5_0 t6_0 t7_0 t8_0 t9_0) else (if x2 ≤ (2 : Int32) then (S_NM_shape_J15 x2 x3 x4 x5 x6 t0_0 t0_1 t0_2 t1_0 t1_1 t1_2 t1_3 t1_4 t1_5 t1_6 t1_7 t1_8 t1_9 t1_10 t2_0 t3_0 t4_0 t5_0 t6_0 t7_0 t8_0 t9_0 0) else (S_NM_shape_J10 x2 x3 x4 x5 x6 t0_0 t0_1 t0_2 t1_0 t1_1 t1_2 t1_3 t1_4 t1_5 t1_6 t1_7 t1_8 t1_9 t1_10 t2_0 t3_0 t4_0 t5_0 t6_0 t7_0 t8_0 t9_0))
set_option maxRecDepth 100000 in
set_option maxHeartbeats 4000000 in
theorem X_NM_shape (l : Launch) (D : va_G) (g : Nat → ClassId) (q : Nat → Nat) (ws : va_W) (x2 : Int32) (x3 : Int32) (x4 : Int32) (x5 : Int32) (x6 : Int32) (hI : q_I (msh g q) q ws) (t0_0 : Int32) (t0_1 : Int32) (t0_2 : Int32) (hT0 : ws[116]? = (some (q 116, .inr (12, [.int t0_0, .ref (q 117), .int t0_1, .ref (q 118), .int t0_2, .ref (q 119), .ref (q 134), .ref (q 145), .ref (q 153), .ref (q 157), .ref (q 167), .ref (q 168)])) : Option (Nat × va_E))) (t1_0 : Int32) (t1_1 : Int32) (t1_2 : Int32) (t1_3 : Int64) (t1_4 : Int32) (t1_5 : Int32) (t1_6 : Int32) (t1_7 : Int32) (t1_8 : Int32) (t1_9 : Int32) (t1_10 : Int32) (hT1 : ws[134]? = (some (q 134, .inr (14, [.int t1_0, .ref (q 135), .int t1_1, .ref (q 136), .ref (q 137), .ref (q 138), .ref (q 139), .ref (q 140), .int t1_2, .long t1_3, .int t1_4, .int t1_5, .ref (q 141), .int t1_6, .ref (q 142), .int t1_7, .ref (q 143), .int t1_8, .ref (q 144), .int t1_9, .int t1_10])) : Option (Nat × va_E))) (t2_0 : (Nat → Int32)) (hT2 : ws[136]? = (some (q 136, .inl (g 0, (10000 : Int32).toNatClampNeg, .inl t2_0)) : Option (Nat × va_E))) (t3_0 : (Nat → Int32)) (hT3 : ws[137]? = (some (q 137, .inl (g 0, (10 : Int32).toNatClampNeg, .inl t3_0)) : Option (Nat × va_E))) (t4_0 : (Nat → Int32)) (hT4 : ws[138]? = (some (q 138, .inl (g 3, 10, .inl t4_0)) : Option (Nat × va_E))) (t5_0 : (Nat → Int32)) (hT5 : ws[139]? = (some (q 139, .inl (g 0, (10 : Int32).toNatClampNeg, .inl t5_0)) : Option (Nat × va_E))) (t6_0 : (Nat → Int32)) (hT6 : ws[140]? = (some (q 140, .inl (g 0, (4400 : Int32).toNatClampNeg, .inl t6_0)) : Option (Nat × va_E))) (t7_0 : (Nat → Int32)) (hT7 : ws[141]? = (some (q 141, .inl (g 0, (4400 : Int32).toNatClampNeg, .inl t7_0)) : Option (Nat × va_E))) (t8_0 : (Nat → Int32)) (hT8 : ws[142]? = (some (q 142, .inl (g 0, (2200 : Int32).toNatClampNeg, .inl t8_0)) : Option (Nat × va_E))) (t9_0 : (Nat → Int32)) (hT9 : ws[143]? = (some (q 143, .inl (g 0, (2202 : Int32).toNatClampNeg, .inl t9_0)) : Option (Nat × va_E))) (hS : True ∧ S_NM_shape x2 x3 x4 x5 x6 t0_0 t0_1 t0_2 t1_0 t1_1 t1_2 t1_3 t1_4 t1_5 t1_6 t1_7 t1_8 t1_9 t1_10 t2_0 t3_0 t4_0 t5_0 t6_0 t7_0 t8_0 t9_0) : q_mV l y_NM_shape prog_14_method_27_code 6 6 0 0 D g [.ref (q 116), .int x2, .int x3, .int x4, .int x5, .int x6] ws (fun u => q_I (msh g q) q u ∧ q_un ws u [116, 134, 136, 137, 138, 139, 140, 141, 142, 143] ∧ ∃ (u0_0 : Int32) (u0_1 : Int32) (u0_2 : Int32) (u1_0 : Int32) (u1_1 : Int32) (u1_2 : Int32) (u1_3 : Int64) (u1_4 : Int32) (u1_5 : Int32) (u1_6 : Int32) (u1_7 : Int32) (u1_8 : Int32) (u1_9 : Int32) (u1_10 : Int32) (u2_0 : (Nat → Int32)) (u3_0 : (Nat → Int32)) (u4_0 : (Nat → Int32)) (u5_0 : (Nat → Int32)) (u6_0 : (Nat → Int32)) (u7_0 : (Nat → Int32)) (u8_0 : (Nat → Int32)) (u9_0 : (Nat → Int32)), u[116]? = (some (q 116, .inr (12, [.int u0_0, .ref (q 117), .int u0_1, .ref (q 118), .int u0_2, .ref (q 119), .ref (q 134), .ref (q 145), .ref (q 153), .ref (q 157), .ref (q 167), .ref (q 168)])) : Option (Nat × va_E)) ∧ u[134]? = (some (q 134, .inr (14, [.int u1_0, .ref (q 135), .int u1_1, .ref (q 136), .ref (q 137), .ref (q 138), .ref (q 139), .ref (q 140), .int u1_2, .long u1_3, .int u1_4, .int u1_5, .ref (q 141), .int u1_6, .ref (q 142), .int u1_7, .ref (q 143), .int u1_8, .ref (q 144), .int u1_9, .int u1_10])) : Option (Nat × va_E)) ∧ u[136]? = (some (q 136, .inl (g 0, (10000 : Int32).toNatClampNeg, .inl u2_0)) : Option (Nat × va_E)) ∧ u[137]? = (some (q 137, .inl (g 0, (10 : Int32).toNatClampNeg, .inl u3_0)) : Option (Nat × va_E)) ∧ u[138]? = (some (q 138, .inl (g 3, 10, .inl u4_0)) : Option (Nat × va_E)) ∧ u[139]? = (some (q 139, .inl (g 0, (10 : Int32).toNatClampNeg, .inl u5_0)) : Option (Nat × va_E)) ∧ u[140]? = (some (q 140, .inl (g 0, (4400 : Int32).toNatClampNeg, .inl u6_0)) : Option (Nat × va_E)) ∧ u[141]? = (some (q 141, .inl (g 0, (4400 : Int32).toNatClampNeg, .inl u7_0)) : Option (Nat × va_E)) ∧ u[142]? = (some (q 142, .inl (g 0, (2200 : Int32).toNatClampNeg, .inl u8_0)) : Option (Nat × va_E)) ∧ u[143]? = (some (q 143, .inl (g 0, (2202 : Int32).toNatClampNeg, .inl u9_0)) : Option (Nat × va_E)) ∧ (0 ≤ u1_4.toInt + 1) ∧ (u1_4.toInt ≤ 1) ∧ (0 ≤ u1_5.toInt) ∧ (u1_5.toInt ≤ 1) ∧ (t0_1.toInt ≤ u0_1.toInt) ∧ (u0_1.toInt ≤ t0_1.toInt) ∧ (t0_2.toInt ≤ u0_2.toInt) ∧ (u0_2.toInt ≤ t0_2.toInt) ∧ (t1_1.toInt ≤ u1_1.toInt) ∧ (u1_1.toInt ≤ t1_1.toInt) ∧ (t1_9.toInt ≤ u1_9.toInt) ∧ (u1_9.toInt ≤ t1_9.toInt) ∧ (u0_0, u0_1, u0_2, u1_0, u1_1, u1_2, u1_3, u1_4, u1_5, u1_6, u1_7, u1_8, u1_9, u1_10, u2_0, u3_0, u4_0, u5_0, u6_0, u7_0, u8_0, u9_0) = (F_NM_shape x2 x3 x4 x5 x6 t0_0 t0_1 t0_2 t1_0 t1_1 t1_2 t1_3 t1_4 t1_5 t1_6 t1_7 t1_8 t1_9 t1_10 t2_0 t3_0 t4_0 t5_0 t6_0 t7_0 t8_0 t9_0)) := by
  intro sz
  refine q_into (by decide) (Nat.le_of_ble_eq_true rfl) ?_
  intro p e s m below meth c ls hsz C0 V hl
  have hx := C0.1
  have hb := C0.2.1
  obtain ⟨yy0_0, yy0_1, yy0_2, hh0, btt0_1, btt0_2⟩ := n_o116 hI
  obtain ⟨rfl, rfl, rfl⟩ : t0_0 = yy0_0 ∧ t0_1 = yy0_1 ∧ t0_2 = yy0_2 := by have z := Option.some.inj (hT0.symm.trans hh0); simpa using z
  replace btt0_1 : q_F (0 ≤ t0_1.toInt ∧ t0_1.toInt ≤ 4100) := btt0_1
  replace btt0_2 : q_F (0 ≤ t0_2.toInt ∧ t0_2.toInt ≤ 12200) := btt0_2
  obtain ⟨yy1_0, yy1_1, yy1_2, yy1_3, yy1_4, yy1_5, yy1_6, yy1_7, yy1_8, yy1_9, yy1_10, hh1, btt1_1, btt1_4, btt1_5, btt1_9⟩ := n_o134 hI
  obtain ⟨rfl, rfl, rfl, rfl, rfl, rfl, rfl, rfl, rfl, rfl, rfl⟩ : t1_0 = yy1_0 ∧ t1_1 = yy1_1 ∧ t1_2 = yy1_2 ∧ t1_3 = yy1_3 ∧ t1_4 = yy1_4 ∧ t1_5 = yy1_5 ∧ t1_6 = yy1_6 ∧ t1_7 = yy1_7 ∧ t1_8 = yy1_8 ∧ t1_9 = yy1_9 ∧ t1_10 = yy1_10 := by have z := Option.some.inj (hT1.symm.trans hh1); simpa using z
  replace btt1_1 : q_F (0 ≤ t1_1.toInt ∧ t1_1.toInt ≤ 4100) := btt1_1
  replace btt1_4 : q_F (0 ≤ t1_4.toInt ∧ t1_4.toInt ≤ 1) := btt1_4
  replace btt1_5 : q_F (0 ≤ t1_5.toInt ∧ t1_5.toInt ≤ 1) := btt1_5
  replace btt1_9 : q_F (0 ≤ t1_9.toInt ∧ t1_9.toInt ≤ 12200) := btt1_9
  have hF : q_un ws ws [116, 134, 136, 137, 138, 139, 140, 141, 142, 143] := q_u0
  have hl : lv_has ls 6 [(0, .ref (q 116)), (1, .int x2), (2, .int x3), (3, .int x4), (4, .int x5), (5, .int x6)] := hl
  refine lv_aload_n hx hb d_14_27_0 rfl (lv_at hl 0 rfl) ?_
  refine lv_iload_n hx hb d_14_27_1 rfl (lv_at hl 1 rfl) ?_
  refine q_join (X := Int32) (fun z H locs ls _ => q_F (0 ≤ z.toInt) ∧ q_F (z.toInt ≤ 1) ∧ q_Wd D g (va_A ws sz) s ws H locs ∧ lv_has ls 6 [(0, .ref (q 116)), (1, .int x2), (2, .int x3), (3, .int x4), (4, .int x5), (5, .int x6)] ∧ F_NM_shape_J15 x2 x3 x4 x5 x6 t0_0 t0_1 t0_2 t1_0 t1_1 t1_2 t1_3 t1_4 t1_5 t1_6 t1_7 t1_8 t1_9 t1_10 t2_0 t3_0 t4_0 t5_0 t6_0 t7_0 t8_0 t9_0 z = (F_NM_shape x2 x3 x4 x5 x6 t0_0 t0_1 t0_2 t1_0 t1_1 t1_2 t1_3 t1_4 t1_5 t1_6 t1_7 t1_8 t1_9 t1_10 t2_0 t3_0 t4_0 t5_0 t6_0 t7_0 t8_0 t9_0) ∧ True ∧ S_NM_shape_J15 x2 x3 x4 x5 x6 t0_0 t0_1 t0_2 t1_0 t1_1 t1_2 t1_3 t1_4 t1_5 t1_6 t1_7 t1_8 t1_9 t1_10 t2_0 t3_0 t4_0 t5_0 t6_0 t7_0 t8_0 t9_0 z) (fun z => [.int z, .ref (q 116)]) 15 0 0 ?_ ?_
  ·
    rintro lx47 H locs ls _ ⟨i59, i60, V, hl, hR61, hS62⟩
    replace i59 : q_F (0 ≤ lx47.toInt) := i59
    replace i60 : q_F (lx47.toInt ≤ 1) := i60
    replace hl : lv_has ls 6 [(0, .ref (q 116)), (1, .int x2), (2, .int x3), (3, .int x4), (4, .int x5), (5, .int x6)] := hl
    refine q_put (ci := 12) (j := 0) (v := .int lx47) (ty := .int) C0 V i_NM o_NM n_NM rfl rfl hT0 (by decide) w_2298 rfl rfl rfl rfl (Nat.le_of_ble_eq_true rfl) d_14_27_15 (fun H locs w66 hu67 hT0 V => ?_)
    replace hT0 : w66[116]? = (some (q 116, .inr (12, [.int lx47, .ref (q 117), .int t0_1, .ref (q 118), .int t0_2, .ref (q 119), .ref (q 134), .ref (q 145), .ref (q 153), .ref (q 157), .ref (q 167), .ref (q 168)])) : Option (Nat × va_E)) := hT0
    replace hI := n_p116 hI hu67 hT0 ⟨(by have t1 : 0 ≤ t0_1.toInt ∧ t0_1.toInt ≤ 4100 := btt0_1; omega), (by have t1 : 0 ≤ t0_1.toInt ∧ t0_1.toInt ≤ 4100 := btt0_1; omega)⟩ ⟨(by have t1 : 0 ≤ t0_2.toInt ∧ t0_2.toInt ≤ 12200 := btt0_2; omega), (by have t1 : 0 ≤ t0_2.toInt ∧ t0_2.toInt ≤ 12200 := btt0_2; omega)⟩
    replace hT1 := (hu67 _ (by decide)).trans hT1
    replace hT2 := (hu67 _ (by decide)).trans hT2
    replace hT3 := (hu67 _ (by decide)).trans hT3
    replace hT4 := (hu67 _ (by decide)).trans hT4
    replace hT5 := (hu67 _ (by decide)).trans hT5
    replace hT6 := (hu67 _ (by decide)).trans hT6
    replace hT7 := (hu67 _ (by decide)).trans hT7
    replace hT8 := (hu67 _ (by decide)).trans hT8
    replace hT9 := (hu67 _ (by decide)).trans hT9
    replace hF := q_us hF hu67 (by simp)
    refine lv_aload_n hx hb d_14_27_18 rfl (lv_at hl 0 rfl) ?_
    refine q_get (ci := 12) (j := 0) (v := .int lx47) C0 V i_NM rfl rfl hT0 (by decide) w_2298 rfl d_14_27_19 ?_
    refine lv_if_le (tgt := 26) hx hb d_14_27_22 (by decide) (fun c68 => ?_) (fun c68 => ?_)
    ·
      have b69 : q_F (lx47.toInt ≤ 0) := (q_leI c68)
      refine lv_iload_n hx hb d_14_27_26 rfl (lv_at hl 1 rfl) ?_
      refine lv_if_ne (tgt := 46) hx hb d_14_27_27 (by decide) (fun c70 => ?_) (fun c70 => ?_)
      ·
        have b71 : q_F (x2.toInt ≠ 0) := (q_neI c70)
        refine lv_iload_n hx hb d_14_27_46 rfl (lv_at hl 1 rfl) ?_
        refine lv_iconst (v := 1) hx hb d_14_27_47 (by decide) ?_
        refine lv_icmp_ne (tgt := 67) hx hb d_14_27_48 (by decide) (fun c72 => ?_) (fun c72 => ?_)
        ·
          have b73 : q_F (x2.toInt ≠ 1) := (q_neI c72)
          refine lv_aload_n hx hb d_14_27_67 rfl (lv_at hl 0 rfl) ?_
          refine q_get (ci := 12) (j := 6) (v := .ref (q 134)) C0 V i_NM rfl rfl hT0 (by decide) w_2304 rfl d_14_27_68 ?_
          refine lv_iload_n hx hb d_14_27_71 rfl (lv_at hl 2 rfl) ?_
          refine lv_iload_n hx hb d_14_27_72 rfl (lv_at hl 3 rfl) ?_
          refine lv_iload hx hb d_14_27_73 (lv_at hl 4 rfl) ?_
          refine lv_iload hx hb d_14_27_75 (lv_at hl 5 rfl) ?_
          have ob74 : True ∧ S_DR_root x3 x4 x5 x6 t1_0 t1_1 t1_2 t1_3 t1_4 t1_5 t1_6 t1_7 t1_8 t1_9 t1_10 t2_0 t3_0 t4_0 t5_0 t6_0 t7_0 t8_0 t9_0 := (by have h := hS62; rw [S_NM_shape_J15.eq_1] at h; rw [if_pos c68] at h; rw [if_neg c70] at h; rw [if_neg c72] at h; with_reducible exact h.2.1)
          refine q_gov V (q_runV (As := [.int x3, .int x4, .int x5, .int x6]) (rest := []) (d := 5) (mc := 0) (ms := 0) (ci := 14) C0 V rfl LV_NM_225 (X_DR_root l D g q w66  x3 x4 x5 x6 hI t1_0 t1_1 t1_2 t1_3 t1_4 t1_5 t1_6 t1_7 t1_8 t1_9 t1_10 hT1 t2_0 hT2 t3_0 hT3 t4_0 hT4 t5_0 hT5 t6_0 hT6 t7_0 hT7 t8_0 hT8 t9_0 hT9 ob74 _) rfl rfl hT1 rfl hl.1 rfl (Nat.le_of_ble_eq_true rfl) ⟨by decide, by decide⟩ ⟨Nat.le_of_ble_eq_true rfl, Nat.le_of_ble_eq_true rfl⟩ d_14_27_77) (fun u75 H locs hp76 V => ?_)
          obtain ⟨hI, hu114, y78, y79, y80, y81, y82, y83, y84, y85, y86, y87, y88, f89, f91, f93, f95, f97, f99, f101, f103, hO77, hA90, hA92, hA94, hA96, hA98, hA100, hA102, hA104, b105, b106, b107, b108, b109, b110, b111, b112, hE113⟩ := hp76
          replace hO77 : u75[134]? = (some (q 134, .inr (14, [.int y78, .ref (q 135), .int y79, .ref (q 136), .ref (q 137), .ref (q 138), .ref (q 139), .ref (q 140), .int y80, .long y81, .int y82, .int y83, .ref (q 141), .int y84, .ref (q 142), .int y85, .ref (q 143), .int y86, .ref (q 144), .int y87, .int y88])) : Option (Nat × va_E)) := hO77
          replace hA90 : u75[136]? = (some (q 136, .inl (g 0, (10000 : Int32).toNatClampNeg, .inl f89)) : Option (Nat × va_E)) := hA90
          replace hA92 : u75[137]? = (some (q 137, .inl (g 0, (10 : Int32).toNatClampNeg, .inl f91)) : Option (Nat × va_E)) := hA92
          replace hA94 : u75[138]? = (some (q 138, .inl (g 3, 10, .inl f93)) : Option (Nat × va_E)) := hA94
          replace hA96 : u75[139]? = (some (q 139, .inl (g 0, (10 : Int32).toNatClampNeg, .inl f95)) : Option (Nat × va_E)) := hA96
          replace hA98 : u75[140]? = (some (q 140, .inl (g 0, (4400 : Int32).toNatClampNeg, .inl f97)) : Option (Nat × va_E)) := hA98
          replace hA100 : u75[141]? = (some (q 141, .inl (g 0, (4400 : Int32).toNatClampNeg, .inl f99)) : Option (Nat × va_E)) := hA100
          replace hA102 : u75[142]? = (some (q 142, .inl (g 0, (2200 : Int32).toNatClampNeg, .inl f101)) : Option (Nat × va_E)) := hA102
          replace hA104 : u75[143]? = (some (q 143, .inl (g 0, (2202 : Int32).toNatClampNeg, .inl f103)) : Option (Nat × va_E)) := hA104
          obtain ⟨p115, e116⟩ : ∃ z, z = (F_DR_root x3 x4 x5 x6 t1_0 t1_1 t1_2 t1_3 t1_4 t1_5 t1_6 t1_7 t1_8 t1_9 t1_10 t2_0 t3_0 t4_0 t5_0 t6_0 t7_0 t8_0 t9_0) := ⟨_, rfl⟩
          have e117 : y78 = p115.1 := congrArg (fun z => z.1) (hE113.trans e116.symm)
          have e118 : y79 = p115.2.1 := congrArg (fun z => z.2.1) (hE113.trans e116.symm)
          have e119 : y80 = p115.2.2.1 := congrArg (fun z => z.2.2.1) (hE113.trans e116.symm)
          have e120 : y81 = p115.2.2.2.1 := congrArg (fun z => z.2.2.2.1) (hE113.trans e116.symm)
          have e121 : y82 = p115.2.2.2.2.1 := congrArg (fun z => z.2.2.2.2.1) (hE113.trans e116.symm)
          have e122 : y83 = p115.2.2.2.2.2.1 := congrArg (fun z => z.2.2.2.2.2.1) (hE113.trans e116.symm)
          have e123 : y84 = p115.2.2.2.2.2.2.1 := congrArg (fun z => z.2.2.2.2.2.2.1) (hE113.trans e116.symm)
          have e124 : y85 = p115.2.2.2.2.2.2.2.1 := congrArg (fun z => z.2.2.2.2.2.2.2.1) (hE113.trans e116.symm)
          have e125 : y86 = p115.2.2.2.2.2.2.2.2.1 := congrArg (fun z => z.2.2.2.2.2.2.2.2.1) (hE113.trans e116.symm)
          have e126 : y87 = p115.2.2.2.2.2.2.2.2.2.1 := congrArg (fun z => z.2.2.2.2.2.2.2.2.2.1) (hE113.trans e116.symm)
          have e127 : y88 = p115.2.2.2.2.2.2.2.2.2.2.1 := congrArg (fun z => z.2.2.2.2.2.2.2.2.2.2.1) (hE113.trans e116.symm)
          have e128 : f89 = p115.2.2.2.2.2.2.2.2.2.2.2.1 := congrArg (fun z => z.2.2.2.2.2.2.2.2.2.2.2.1) (hE113.trans e116.symm)
          have e129 : f91 = p115.2.2.2.2.2.2.2.2.2.2.2.2.1 := congrArg (fun z => z.2.2.2.2.2.2.2.2.2.2.2.2.1) (hE113.trans e116.symm)
          have e130 : f93 = p115.2.2.2.2.2.2.2.2.2.2.2.2.2.1 := congrArg (fun z => z.2.2.2.2.2.2.2.2.2.2.2.2.2.1) (hE113.trans e116.symm)
          have e131 : f95 = p115.2.2.2.2.2.2.2.2.2.2.2.2.2.2.1 := congrArg (fun z => z.2.2.2.2.2.2.2.2.2.2.2.2.2.2.1) (hE113.trans e116.symm)
          have e132 : f97 = p115.2.2.2.2.2.2.2.2.2.2.2.2.2.2.2.1 := congrArg (fun z => z.2.2.2.2.2.2.2.2.2.2.2.2.2.2.2.1) (hE113.trans e116.symm)
          have e133 : f99 = p115.2.2.2.2.2.2.2.2.2.2.2.2.2.2.2.2.1 := congrArg (fun z => z.2.2.2.2.2.2.2.2.2.2.2.2.2.2.2.2.1) (hE113.trans e116.symm)
          have e134 : f101 = p115.2.2.2.2.2.2.2.2.2.2.2.2.2.2.2.2.2.1 := congrArg (fun z => z.2.2.2.2.2.2.2.2.2.2.2.2.2.2.2.2.2.1) (hE113.trans e116.symm)
          have e135 : f103 = p115.2.2.2.2.2.2.2.2.2.2.2.2.2.2.2.2.2.2 := congrArg (fun z => z.2.2.2.2.2.2.2.2.2.2.2.2.2.2.2.2.2.2) (hE113.trans e116.symm)
          replace b105 : q_F (0 ≤ y82.toInt) := b105
          replace b106 : q_F (y82.toInt ≤ 1) := b106
          replace b107 : q_F (0 ≤ y83.toInt) := b107
          replace b108 : q_F (y83.toInt ≤ 1) := b108
          replace b109 : q_F (t1_1.toInt ≤ y79.toInt) := b109
          replace b110 : q_F (y79.toInt ≤ t1_1.toInt) := b110
          replace b111 : q_F (t1_9.toInt ≤ y87.toInt) := b111
          replace b112 : q_F (y87.toInt ≤ t1_9.toInt) := b112
          replace hT0 := (hu114 _ (by decide)).trans hT0
          replace hF := q_uc hF hu114 (by simp)
          have hR136 := (show F_NM_shape_c77 x2 x3 x4 x5 x6 t0_0 t0_1 t0_2 t1_0 t1_1 t1_2 t1_3 t1_4 t1_5 t1_6 t1_7 t1_8 t1_9 t1_10 t2_0 t3_0 t4_0 t5_0 t6_0 t7_0 t8_0 t9_0 lx47 p115 = (F_NM_shape x2 x3 x4 x5 x6 t0_0 t0_1 t0_2 t1_0 t1_1 t1_2 t1_3 t1_4 t1_5 t1_6 t1_7 t1_8 t1_9 t1_10 t2_0 t3_0 t4_0 t5_0 t6_0 t7_0 t8_0 t9_0) from Eq.trans (by rw [e116, F_NM_shape_J15.eq_1, if_pos c68, if_neg c70, if_neg c72]) hR61)
          have hS137 := (show True ∧ S_NM_shape_c77 x2 x3 x4 x5 x6 t0_0 t0_1 t0_2 t1_0 t1_1 t1_2 t1_3 t1_4 t1_5 t1_6 t1_7 t1_8 t1_9 t1_10 t2_0 t3_0 t4_0 t5_0 t6_0 t7_0 t8_0 t9_0 lx47 p115 from (by rw [e116]; have h := hS62; rw [S_NM_shape_J15.eq_1] at h; rw [if_pos c68] at h; rw [if_neg c70] at h; rw [if_neg c72] at h; replace h := q_s2 h; with_reducible exact h))
          refine lv_aload_n hx hb d_14_27_80 rfl (lv_at hl 0 rfl) ?_
          refine lv_aload_n hx hb d_14_27_81 rfl (lv_at hl 0 rfl) ?_
          refine q_get (ci := 12) (j := 6) (v := .ref (q 134)) C0 V i_NM rfl rfl hT0 (by decide) w_2304 rfl d_14_27_82 ?_
          refine q_getN (ci := 14) (j := 0) (v := .int y78) C0 V i_DR rfl rfl hO77 (by decide) wo_1997 rfl d_14_27_85 ?_
          refine q_put (ci := 12) (j := 0) (v := .int y78) (ty := .int) C0 V i_NM o_NM n_NM rfl rfl hT0 (by decide) w_2298 rfl rfl rfl rfl (Nat.le_of_ble_eq_true rfl) d_14_27_88 (fun H locs w141 hu142 hT0 V => ?_)
          replace hT0 : w141[116]? = (some (q 116, .inr (12, [.int y78, .ref (q 117), .int t0_1, .ref (q 118), .int t0_2, .ref (q 119), .ref (q 134), .ref (q 145), .ref (q 153), .ref (q 157), .ref (q 167), .ref (q 168)])) : Option (Nat × va_E)) := hT0
          replace hI := n_p116 hI hu142 hT0 ⟨(by have t1 : 0 ≤ t0_1.toInt ∧ t0_1.toInt ≤ 4100 := btt0_1; omega), (by have t1 : 0 ≤ t0_1.toInt ∧ t0_1.toInt ≤ 4100 := btt0_1; omega)⟩ ⟨(by have t1 : 0 ≤ t0_2.toInt ∧ t0_2.toInt ≤ 12200 := btt0_2; omega), (by have t1 : 0 ≤ t0_2.toInt ∧ t0_2.toInt ≤ 12200 := btt0_2; omega)⟩
          replace hO77 := (hu142 _ (by decide)).trans hO77
          replace hA90 := (hu142 _ (by decide)).trans hA90
          replace hA92 := (hu142 _ (by decide)).trans hA92
          replace hA94 := (hu142 _ (by decide)).trans hA94
          replace hA96 := (hu142 _ (by decide)).trans hA96
          replace hA98 := (hu142 _ (by decide)).trans hA98
          replace hA100 := (hu142 _ (by decide)).trans hA100
          replace hA102 := (hu142 _ (by decide)).trans hA102
          replace hA104 := (hu142 _ (by decide)).trans hA104
          replace hF := q_us hF hu142 (by simp)
          exact q_retv C0 V (⟨hI, hF, y78, t0_1, t0_2, y78, y79, y80, y81, y82, y83, y84, y85, y86, y87, y88, f89, f91, f93, f95, f97, f99, f101, f103, hT0, hO77, hA90, hA92, hA94, hA96, hA98, hA100, hA102, hA104, (show 0 ≤ y82.toInt + 1 from (by have t1 : 0 ≤ y82.toInt := b105; omega)), (show y82.toInt ≤ 1 from (by have t1 : y82.toInt ≤ 1 := b106; omega)), (show 0 ≤ y83.toInt from (by have t1 : 0 ≤ y83.toInt := b107; omega)), (show y83.toInt ≤ 1 from (by have t1 : y83.toInt ≤ 1 := b108; omega)), (show t0_1.toInt ≤ t0_1.toInt from (by omega)), (show t0_1.toInt ≤ t0_1.toInt from (by omega)), (show t0_2.toInt ≤ t0_2.toInt from (by omega)), (show t0_2.toInt ≤ t0_2.toInt from (by omega)), (show t1_1.toInt ≤ y79.toInt from (by have t1 : t1_1.toInt ≤ y79.toInt := b109; omega)), (show y79.toInt ≤ t1_1.toInt from (by have t1 : y79.toInt ≤ t1_1.toInt := b110; omega)), (show t1_9.toInt ≤ y87.toInt from (by have t1 : t1_9.toInt ≤ y87.toInt := b111; omega)), (show y87.toInt ≤ t1_9.toInt from (by have t1 : y87.toInt ≤ t1_9.toInt := b112; omega)), (show (y78, t0_1, t0_2, y78, y79, y80, y81, y82, y83, y84, y85, y86, y87, y88, f89, f91, f93, f95, f97, f99, f101, f103) = (F_NM_shape x2 x3 x4 x5 x6 t0_0 t0_1 t0_2 t1_0 t1_1 t1_2 t1_3 t1_4 t1_5 t1_6 t1_7 t1_8 t1_9 t1_10 t2_0 t3_0 t4_0 t5_0 t6_0 t7_0 t8_0 t9_0) from Eq.trans (by rw [e135, e134, e133, e132, e131, e130, e129, e128, e127, e126, e125, e124, e123, e122, e121, e120, e119, e118, e117, F_NM_shape_c77.eq_1]) hR136)⟩) d_14_27_91
        ·
          have b143 : q_F (x2.toInt = 1) := (q_eqI c72)
          refine lv_aload_n hx hb d_14_27_51 rfl (lv_at hl 0 rfl) ?_
          refine q_get (ci := 12) (j := 6) (v := .ref (q 134)) C0 V i_NM rfl rfl hT0 (by decide) w_2304 rfl d_14_27_52 ?_
          refine lv_iload_n hx hb d_14_27_55 rfl (lv_at hl 2 rfl) ?_
          refine lv_iload_n hx hb d_14_27_56 rfl (lv_at hl 3 rfl) ?_
          refine lv_iload hx hb d_14_27_57 (lv_at hl 4 rfl) ?_
          refine lv_iload hx hb d_14_27_59 (lv_at hl 5 rfl) ?_
          have ob144 : True ∧ S_DR_round x3 x4 x5 x6 t1_0 t1_1 t1_2 t1_3 t1_4 t1_5 t1_6 t1_7 t1_8 t1_9 t1_10 t2_0 t3_0 t4_0 t5_0 t6_0 := (by have h := hS62; rw [S_NM_shape_J15.eq_1] at h; rw [if_pos c68] at h; rw [if_neg c70] at h; rw [if_pos c72] at h; with_reducible exact h.2.1)
          refine q_gov V (q_runV (As := [.int x3, .int x4, .int x5, .int x6]) (rest := []) (d := 5) (mc := 0) (ms := 0) (ci := 14) C0 V rfl LV_NM_222 (X_DR_round l D g q w66  x3 x4 x5 x6 hI t1_0 t1_1 t1_2 t1_3 t1_4 t1_5 t1_6 t1_7 t1_8 t1_9 t1_10 hT1 t2_0 hT2 t3_0 hT3 t4_0 hT4 t5_0 hT5 t6_0 hT6 ob144 _) rfl rfl hT1 rfl hl.1 rfl (Nat.le_of_ble_eq_true rfl) ⟨by decide, by decide⟩ ⟨Nat.le_of_ble_eq_true rfl, Nat.le_of_ble_eq_true rfl⟩ d_14_27_61) (fun u145 H locs hp146 V => ?_)
          obtain ⟨hI, hu184, y148, y149, y150, y151, y152, y153, y154, y155, y156, y157, y158, f159, f161, f163, f165, f167, hO147, hA160, hA162, hA164, hA166, hA168, b169, b170, b171, b172, b173, b174, b175, b176, b177, b178, b179, b180, b181, b182, hE183⟩ := hp146
          replace hO147 : u145[134]? = (some (q 134, .inr (14, [.int y148, .ref (q 135), .int y149, .ref (q 136), .ref (q 137), .ref (q 138), .ref (q 139), .ref (q 140), .int y150, .long y151, .int y152, .int y153, .ref (q 141), .int y154, .ref (q 142), .int y155, .ref (q 143), .int y156, .ref (q 144), .int y157, .int y158])) : Option (Nat × va_E)) := hO147
          replace hA160 : u145[136]? = (some (q 136, .inl (g 0, (10000 : Int32).toNatClampNeg, .inl f159)) : Option (Nat × va_E)) := hA160
          replace hA162 : u145[137]? = (some (q 137, .inl (g 0, (10 : Int32).toNatClampNeg, .inl f161)) : Option (Nat × va_E)) := hA162
          replace hA164 : u145[138]? = (some (q 138, .inl (g 3, 10, .inl f163)) : Option (Nat × va_E)) := hA164
          replace hA166 : u145[139]? = (some (q 139, .inl (g 0, (10 : Int32).toNatClampNeg, .inl f165)) : Option (Nat × va_E)) := hA166
          replace hA168 : u145[140]? = (some (q 140, .inl (g 0, (4400 : Int32).toNatClampNeg, .inl f167)) : Option (Nat × va_E)) := hA168
          obtain ⟨p185, e186⟩ : ∃ z, z = (F_DR_round x3 x4 x5 x6 t1_0 t1_1 t1_2 t1_3 t1_4 t1_5 t1_6 t1_7 t1_8 t1_9 t1_10 t2_0 t3_0 t4_0 t5_0 t6_0) := ⟨_, rfl⟩
          have e187 : y148 = p185.1 := congrArg (fun z => z.1) (hE183.trans e186.symm)
          have e188 : y149 = p185.2.1 := congrArg (fun z => z.2.1) (hE183.trans e186.symm)
          have e189 : y150 = p185.2.2.1 := congrArg (fun z => z.2.2.1) (hE183.trans e186.symm)
          have e190 : y151 = p185.2.2.2.1 := congrArg (fun z => z.2.2.2.1) (hE183.trans e186.symm)
          have e191 : y152 = p185.2.2.2.2.1 := congrArg (fun z => z.2.2.2.2.1) (hE183.trans e186.symm)
          have e192 : y153 = p185.2.2.2.2.2.1 := congrArg (fun z => z.2.2.2.2.2.1) (hE183.trans e186.symm)
          have e193 : y154 = p185.2.2.2.2.2.2.1 := congrArg (fun z => z.2.2.2.2.2.2.1) (hE183.trans e186.symm)
          have e194 : y155 = p185.2.2.2.2.2.2.2.1 := congrArg (fun z => z.2.2.2.2.2.2.2.1) (hE183.trans e186.symm)
          have e195 : y156 = p185.2.2.2.2.2.2.2.2.1 := congrArg (fun z => z.2.2.2.2.2.2.2.2.1) (hE183.trans e186.symm)
          have e196 : y157 = p185.2.2.2.2.2.2.2.2.2.1 := congrArg (fun z => z.2.2.2.2.2.2.2.2.2.1) (hE183.trans e186.symm)
          have e197 : y158 = p185.2.2.2.2.2.2.2.2.2.2.1 := congrArg (fun z => z.2.2.2.2.2.2.2.2.2.2.1) (hE183.trans e186.symm)
          have e198 : f159 = p185.2.2.2.2.2.2.2.2.2.2.2.1 := congrArg (fun z => z.2.2.2.2.2.2.2.2.2.2.2.1) (hE183.trans e186.symm)
          have e199 : f161 = p185.2.2.2.2.2.2.2.2.2.2.2.2.1 := congrArg (fun z => z.2.2.2.2.2.2.2.2.2.2.2.2.1) (hE183.trans e186.symm)
          have e200 : f163 = p185.2.2.2.2.2.2.2.2.2.2.2.2.2.1 := congrArg (fun z => z.2.2.2.2.2.2.2.2.2.2.2.2.2.1) (hE183.trans e186.symm)
          have e201 : f165 = p185.2.2.2.2.2.2.2.2.2.2.2.2.2.2.1 := congrArg (fun z => z.2.2.2.2.2.2.2.2.2.2.2.2.2.2.1) (hE183.trans e186.symm)
          have e202 : f167 = p185.2.2.2.2.2.2.2.2.2.2.2.2.2.2.2 := congrArg (fun z => z.2.2.2.2.2.2.2.2.2.2.2.2.2.2.2) (hE183.trans e186.symm)
          replace b169 : q_F (0 ≤ y152.toInt) := b169
          replace b170 : q_F (0 ≤ y153.toInt) := b170
          replace b171 : q_F (y153.toInt ≤ 1) := b171
          replace b172 : q_F (t1_1.toInt ≤ y149.toInt) := b172
          replace b173 : q_F (y149.toInt ≤ t1_1.toInt) := b173
          replace b174 : q_F (y152.toInt ≤ t1_4.toInt) := b174
          replace b175 : q_F (t1_6.toInt ≤ y154.toInt) := b175
          replace b176 : q_F (y154.toInt ≤ t1_6.toInt) := b176
          replace b177 : q_F (t1_7.toInt ≤ y155.toInt) := b177
          replace b178 : q_F (y155.toInt ≤ t1_7.toInt) := b178
          replace b179 : q_F (t1_8.toInt ≤ y156.toInt) := b179
          replace b180 : q_F (y156.toInt ≤ t1_8.toInt) := b180
          replace b181 : q_F (t1_9.toInt ≤ y157.toInt) := b181
          replace b182 : q_F (y157.toInt ≤ t1_9.toInt) := b182
          replace hT0 := (hu184 _ (by decide)).trans hT0
          replace hT7 := (hu184 _ (by decide)).trans hT7
          replace hT8 := (hu184 _ (by decide)).trans hT8
          replace hT9 := (hu184 _ (by decide)).trans hT9
          replace hF := q_uc hF hu184 (by simp)
          have hR203 := (show F_NM_shape_c61 x2 x3 x4 x5 x6 t0_0 t0_1 t0_2 t1_0 t1_1 t1_2 t1_3 t1_4 t1_5 t1_6 t1_7 t1_8 t1_9 t1_10 t2_0 t3_0 t4_0 t5_0 t6_0 t7_0 t8_0 t9_0 lx47 p185 = (F_NM_shape x2 x3 x4 x5 x6 t0_0 t0_1 t0_2 t1_0 t1_1 t1_2 t1_3 t1_4 t1_5 t1_6 t1_7 t1_8 t1_9 t1_10 t2_0 t3_0 t4_0 t5_0 t6_0 t7_0 t8_0 t9_0) from Eq.trans (by rw [e186, F_NM_shape_J15.eq_1, if_pos c68, if_neg c70, if_pos c72]) hR61)
          have hS204 := (show True ∧ S_NM_shape_c61 x2 x3 x4 x5 x6 t0_0 t0_1 t0_2 t1_0 t1_1 t1_2 t1_3 t1_4 t1_5 t1_6 t1_7 t1_8 t1_9 t1_10 t2_0 t3_0 t4_0 t5_0 t6_0 t7_0 t8_0 t9_0 lx47 p185 from (by rw [e186]; have h := hS62; rw [S_NM_shape_J15.eq_1] at h; rw [if_pos c68] at h; rw [if_neg c70] at h; rw [if_pos c72] at h; replace h := q_s2 h; with_reducible exact h))
          refine lv_goto (tgt := 80) hx hb d_14_27_64 (by decide) ?_
          refine lv_aload_n hx hb d_14_27_80 rfl (lv_at hl 0 rfl) ?_
          refine lv_aload_n hx hb d_14_27_81 rfl (lv_at hl 0 rfl) ?_
          refine q_get (ci := 12) (j := 6) (v := .ref (q 134)) C0 V i_NM rfl rfl hT0 (by decide) w_2304 rfl d_14_27_82 ?_
          refine q_getN (ci := 14) (j := 0) (v := .int y148) C0 V i_DR rfl rfl hO147 (by decide) wo_1997 rfl d_14_27_85 ?_
          refine q_put (ci := 12) (j := 0) (v := .int y148) (ty := .int) C0 V i_NM o_NM n_NM rfl rfl hT0 (by decide) w_2298 rfl rfl rfl rfl (Nat.le_of_ble_eq_true rfl) d_14_27_88 (fun H locs w208 hu209 hT0 V => ?_)
          replace hT0 : w208[116]? = (some (q 116, .inr (12, [.int y148, .ref (q 117), .int t0_1, .ref (q 118), .int t0_2, .ref (q 119), .ref (q 134), .ref (q 145), .ref (q 153), .ref (q 157), .ref (q 167), .ref (q 168)])) : Option (Nat × va_E)) := hT0
          replace hI := n_p116 hI hu209 hT0 ⟨(by have t1 : 0 ≤ t0_1.toInt ∧ t0_1.toInt ≤ 4100 := btt0_1; omega), (by have t1 : 0 ≤ t0_1.toInt ∧ t0_1.toInt ≤ 4100 := btt0_1; omega)⟩ ⟨(by have t1 : 0 ≤ t0_2.toInt ∧ t0_2.toInt ≤ 12200 := btt0_2; omega), (by have t1 : 0 ≤ t0_2.toInt ∧ t0_2.toInt ≤ 12200 := btt0_2; omega)⟩
          replace hO147 := (hu209 _ (by decide)).trans hO147
          replace hA160 := (hu209 _ (by decide)).trans hA160
          replace hA162 := (hu209 _ (by decide)).trans hA162
          replace hA164 := (hu209 _ (by decide)).trans hA164
          replace hA166 := (hu209 _ (by decide)).trans hA166
          replace hA168 := (hu209 _ (by decide)).trans hA168
          replace hT7 := (hu209 _ (by decide)).trans hT7
          replace hT8 := (hu209 _ (by decide)).trans hT8
          replace hT9 := (hu209 _ (by decide)).trans hT9
          replace hF := q_us hF hu209 (by simp)
          exact q_retv C0 V (⟨hI, hF, y148, t0_1, t0_2, y148, y149, y150, y151, y152, y153, y154, y155, y156, y157, y158, f159, f161, f163, f165, f167, t7_0, t8_0, t9_0, hT0, hO147, hA160, hA162, hA164, hA166, hA168, hT7, hT8, hT9, (show 0 ≤ y152.toInt + 1 from (by have t1 : 0 ≤ y152.toInt := b169; omega)), (show y152.toInt ≤ 1 from (by have t1 : 0 ≤ t1_4.toInt ∧ t1_4.toInt ≤ 1 := btt1_4; have t2 : y152.toInt ≤ t1_4.toInt := b174; omega)), (show 0 ≤ y153.toInt from (by have t1 : 0 ≤ y153.toInt := b170; omega)), (show y153.toInt ≤ 1 from (by have t1 : y153.toInt ≤ 1 := b171; omega)), (show t0_1.toInt ≤ t0_1.toInt from (by omega)), (show t0_1.toInt ≤ t0_1.toInt from (by omega)), (show t0_2.toInt ≤ t0_2.toInt from (by omega)), (show t0_2.toInt ≤ t0_2.toInt from (by omega)), (show t1_1.toInt ≤ y149.toInt from (by have t1 : t1_1.toInt ≤ y149.toInt := b172; omega)), (show y149.toInt ≤ t1_1.toInt from (by have t1 : y149.toInt ≤ t1_1.toInt := b173; omega)), (show t1_9.toInt ≤ y157.toInt from (by have t1 : t1_9.toInt ≤ y157.toInt := b181; omega)), (show y157.toInt ≤ t1_9.toInt from (by have t1 : y157.toInt ≤ t1_9.toInt := b182; omega)), (show (y148, t0_1, t0_2, y148, y149, y150, y151, y152, y153, y154, y155, y156, y157, y158, f159, f161, f163, f165, f167, t7_0, t8_0, t9_0) = (F_NM_shape x2 x3 x4 x5 x6 t0_0 t0_1 t0_2 t1_0 t1_1 t1_2 t1_3 t1_4 t1_5 t1_6 t1_7 t1_8 t1_9 t1_10 t2_0 t3_0 t4_0 t5_0 t6_0 t7_0 t8_0 t9_0) from Eq.trans (by rw [e202, e201, e200, e199, e198, e197, e196, e195, e194, e193, e192, e191, e190, e189, e188, e187, F_NM_shape_c61.eq_1]) hR203)⟩) d_14_27_91
      ·
        have b210 : q_F (x2.toInt = 0) := (q_eqI c70)
        refine lv_aload_n hx hb d_14_27_30 rfl (lv_at hl 0 rfl) ?_
        refine q_get (ci := 12) (j := 6) (v := .ref (q 134)) C0 V i_NM rfl rfl hT0 (by decide) w_2304 rfl d_14_27_31 ?_
        refine lv_iload_n hx hb d_14_27_34 rfl (lv_at hl 2 rfl) ?_
        refine lv_iload_n hx hb d_14_27_35 rfl (lv_at hl 3 rfl) ?_
        refine lv_iload hx hb d_14_27_36 (lv_at hl 4 rfl) ?_
        refine lv_iload hx hb d_14_27_38 (lv_at hl 5 rfl) ?_
        have ob211 : True ∧ S_DR_toScale x3 x4 x5 x6 t1_0 t1_1 t1_2 t1_3 t1_4 t1_5 t1_6 t1_7 t1_8 t1_9 t1_10 t2_0 t3_0 t4_0 t5_0 t6_0 := (by have h := hS62; rw [S_NM_shape_J15.eq_1] at h; rw [if_pos c68] at h; rw [if_pos c70] at h; with_reducible exact h.2.1)
        refine q_gov V (q_runV (As := [.int x3, .int x4, .int x5, .int x6]) (rest := []) (d := 5) (mc := 0) (ms := 0) (ci := 14) C0 V rfl LV_NM_219 (X_DR_toScale l D g q w66  x3 x4 x5 x6 hI t1_0 t1_1 t1_2 t1_3 t1_4 t1_5 t1_6 t1_7 t1_8 t1_9 t1_10 hT1 t2_0 hT2 t3_0 hT3 t4_0 hT4 t5_0 hT5 t6_0 hT6 ob211 _) rfl rfl hT1 rfl hl.1 rfl (Nat.le_of_ble_eq_true rfl) ⟨by decide, by decide⟩ ⟨Nat.le_of_ble_eq_true rfl, Nat.le_of_ble_eq_true rfl⟩ d_14_27_40) (fun u212 H locs hp213 V => ?_)
        obtain ⟨hI, hu251, y215, y216, y217, y218, y219, y220, y221, y222, y223, y224, y225, f226, f228, f230, f232, f234, hO214, hA227, hA229, hA231, hA233, hA235, b236, b237, b238, b239, b240, b241, b242, b243, b244, b245, b246, b247, b248, b249, hE250⟩ := hp213
        replace hO214 : u212[134]? = (some (q 134, .inr (14, [.int y215, .ref (q 135), .int y216, .ref (q 136), .ref (q 137), .ref (q 138), .ref (q 139), .ref (q 140), .int y217, .long y218, .int y219, .int y220, .ref (q 141), .int y221, .ref (q 142), .int y222, .ref (q 143), .int y223, .ref (q 144), .int y224, .int y225])) : Option (Nat × va_E)) := hO214
        replace hA227 : u212[136]? = (some (q 136, .inl (g 0, (10000 : Int32).toNatClampNeg, .inl f226)) : Option (Nat × va_E)) := hA227
        replace hA229 : u212[137]? = (some (q 137, .inl (g 0, (10 : Int32).toNatClampNeg, .inl f228)) : Option (Nat × va_E)) := hA229
        replace hA231 : u212[138]? = (some (q 138, .inl (g 3, 10, .inl f230)) : Option (Nat × va_E)) := hA231
        replace hA233 : u212[139]? = (some (q 139, .inl (g 0, (10 : Int32).toNatClampNeg, .inl f232)) : Option (Nat × va_E)) := hA233
        replace hA235 : u212[140]? = (some (q 140, .inl (g 0, (4400 : Int32).toNatClampNeg, .inl f234)) : Option (Nat × va_E)) := hA235
        obtain ⟨p252, e253⟩ : ∃ z, z = (F_DR_toScale x3 x4 x5 x6 t1_0 t1_1 t1_2 t1_3 t1_4 t1_5 t1_6 t1_7 t1_8 t1_9 t1_10 t2_0 t3_0 t4_0 t5_0 t6_0) := ⟨_, rfl⟩
        have e254 : y215 = p252.1 := congrArg (fun z => z.1) (hE250.trans e253.symm)
        have e255 : y216 = p252.2.1 := congrArg (fun z => z.2.1) (hE250.trans e253.symm)
        have e256 : y217 = p252.2.2.1 := congrArg (fun z => z.2.2.1) (hE250.trans e253.symm)
        have e257 : y218 = p252.2.2.2.1 := congrArg (fun z => z.2.2.2.1) (hE250.trans e253.symm)
        have e258 : y219 = p252.2.2.2.2.1 := congrArg (fun z => z.2.2.2.2.1) (hE250.trans e253.symm)
        have e259 : y220 = p252.2.2.2.2.2.1 := congrArg (fun z => z.2.2.2.2.2.1) (hE250.trans e253.symm)
        have e260 : y221 = p252.2.2.2.2.2.2.1 := congrArg (fun z => z.2.2.2.2.2.2.1) (hE250.trans e253.symm)
        have e261 : y222 = p252.2.2.2.2.2.2.2.1 := congrArg (fun z => z.2.2.2.2.2.2.2.1) (hE250.trans e253.symm)
        have e262 : y223 = p252.2.2.2.2.2.2.2.2.1 := congrArg (fun z => z.2.2.2.2.2.2.2.2.1) (hE250.trans e253.symm)
        have e263 : y224 = p252.2.2.2.2.2.2.2.2.2.1 := congrArg (fun z => z.2.2.2.2.2.2.2.2.2.1) (hE250.trans e253.symm)
        have e264 : y225 = p252.2.2.2.2.2.2.2.2.2.2.1 := congrArg (fun z => z.2.2.2.2.2.2.2.2.2.2.1) (hE250.trans e253.symm)
        have e265 : f226 = p252.2.2.2.2.2.2.2.2.2.2.2.1 := congrArg (fun z => z.2.2.2.2.2.2.2.2.2.2.2.1) (hE250.trans e253.symm)
        have e266 : f228 = p252.2.2.2.2.2.2.2.2.2.2.2.2.1 := congrArg (fun z => z.2.2.2.2.2.2.2.2.2.2.2.2.1) (hE250.trans e253.symm)
        have e267 : f230 = p252.2.2.2.2.2.2.2.2.2.2.2.2.2.1 := congrArg (fun z => z.2.2.2.2.2.2.2.2.2.2.2.2.2.1) (hE250.trans e253.symm)
        have e268 : f232 = p252.2.2.2.2.2.2.2.2.2.2.2.2.2.2.1 := congrArg (fun z => z.2.2.2.2.2.2.2.2.2.2.2.2.2.2.1) (hE250.trans e253.symm)
        have e269 : f234 = p252.2.2.2.2.2.2.2.2.2.2.2.2.2.2.2 := congrArg (fun z => z.2.2.2.2.2.2.2.2.2.2.2.2.2.2.2) (hE250.trans e253.symm)
        replace b236 : q_F (0 ≤ y219.toInt + 1) := b236
        replace b237 : q_F (0 ≤ y220.toInt) := b237
        replace b238 : q_F (y220.toInt ≤ 1) := b238
        replace b239 : q_F (t1_1.toInt ≤ y216.toInt) := b239
        replace b240 : q_F (y216.toInt ≤ t1_1.toInt) := b240
        replace b241 : q_F (y219.toInt ≤ t1_4.toInt) := b241
        replace b242 : q_F (t1_6.toInt ≤ y221.toInt) := b242
        replace b243 : q_F (y221.toInt ≤ t1_6.toInt) := b243
        replace b244 : q_F (t1_7.toInt ≤ y222.toInt) := b244
        replace b245 : q_F (y222.toInt ≤ t1_7.toInt) := b245
        replace b246 : q_F (t1_8.toInt ≤ y223.toInt) := b246
        replace b247 : q_F (y223.toInt ≤ t1_8.toInt) := b247
        replace b248 : q_F (t1_9.toInt ≤ y224.toInt) := b248
        replace b249 : q_F (y224.toInt ≤ t1_9.toInt) := b249
        replace hT0 := (hu251 _ (by decide)).trans hT0
        replace hT7 := (hu251 _ (by decide)).trans hT7
        replace hT8 := (hu251 _ (by decide)).trans hT8
        replace hT9 := (hu251 _ (by decide)).trans hT9
        replace hF := q_uc hF hu251 (by simp)
        have hR270 := (show F_NM_shape_c40 x2 x3 x4 x5 x6 t0_0 t0_1 t0_2 t1_0 t1_1 t1_2 t1_3 t1_4 t1_5 t1_6 t1_7 t1_8 t1_9 t1_10 t2_0 t3_0 t4_0 t5_0 t6_0 t7_0 t8_0 t9_0 lx47 p252 = (F_NM_shape x2 x3 x4 x5 x6 t0_0 t0_1 t0_2 t1_0 t1_1 t1_2 t1_3 t1_4 t1_5 t1_6 t1_7 t1_8 t1_9 t1_10 t2_0 t3_0 t4_0 t5_0 t6_0 t7_0 t8_0 t9_0) from Eq.trans (by rw [e253, F_NM_shape_J15.eq_1, if_pos c68, if_pos c70]) hR61)
        have hS271 := (show True ∧ S_NM_shape_c40 x2 x3 x4 x5 x6 t0_0 t0_1 t0_2 t1_0 t1_1 t1_2 t1_3 t1_4 t1_5 t1_6 t1_7 t1_8 t1_9 t1_10 t2_0 t3_0 t4_0 t5_0 t6_0 t7_0 t8_0 t9_0 lx47 p252 from (by rw [e253]; have h := hS62; rw [S_NM_shape_J15.eq_1] at h; rw [if_pos c68] at h; rw [if_pos c70] at h; replace h := q_s2 h; with_reducible exact h))
        refine lv_goto (tgt := 80) hx hb d_14_27_43 (by decide) ?_
        refine lv_aload_n hx hb d_14_27_80 rfl (lv_at hl 0 rfl) ?_
        refine lv_aload_n hx hb d_14_27_81 rfl (lv_at hl 0 rfl) ?_
        refine q_get (ci := 12) (j := 6) (v := .ref (q 134)) C0 V i_NM rfl rfl hT0 (by decide) w_2304 rfl d_14_27_82 ?_
        refine q_getN (ci := 14) (j := 0) (v := .int y215) C0 V i_DR rfl rfl hO214 (by decide) wo_1997 rfl d_14_27_85 ?_
        refine q_put (ci := 12) (j := 0) (v := .int y215) (ty := .int) C0 V i_NM o_NM n_NM rfl rfl hT0 (by decide) w_2298 rfl rfl rfl rfl (Nat.le_of_ble_eq_true rfl) d_14_27_88 (fun H locs w275 hu276 hT0 V => ?_)
        replace hT0 : w275[116]? = (some (q 116, .inr (12, [.int y215, .ref (q 117), .int t0_1, .ref (q 118), .int t0_2, .ref (q 119), .ref (q 134), .ref (q 145), .ref (q 153), .ref (q 157), .ref (q 167), .ref (q 168)])) : Option (Nat × va_E)) := hT0
        replace hI := n_p116 hI hu276 hT0 ⟨(by have t1 : 0 ≤ t0_1.toInt ∧ t0_1.toInt ≤ 4100 := btt0_1; omega), (by have t1 : 0 ≤ t0_1.toInt ∧ t0_1.toInt ≤ 4100 := btt0_1; omega)⟩ ⟨(by have t1 : 0 ≤ t0_2.toInt ∧ t0_2.toInt ≤ 12200 := btt0_2; omega), (by have t1 : 0 ≤ t0_2.toInt ∧ t0_2.toInt ≤ 12200 := btt0_2; omega)⟩
        replace hO214 := (hu276 _ (by decide)).trans hO214
        replace hA227 := (hu276 _ (by decide)).trans hA227
        replace hA229 := (hu276 _ (by decide)).trans hA229
        replace hA231 := (hu276 _ (by decide)).trans hA231
        replace hA233 := (hu276 _ (by decide)).trans hA233
        replace hA235 := (hu276 _ (by decide)).trans hA235
        replace hT7 := (hu276 _ (by decide)).trans hT7
        replace hT8 := (hu276 _ (by decide)).trans hT8
        replace hT9 := (hu276 _ (by decide)).trans hT9
        replace hF := q_us hF hu276 (by simp)
        exact q_retv C0 V (⟨hI, hF, y215, t0_1, t0_2, y215, y216, y217, y218, y219, y220, y221, y222, y223, y224, y225, f226, f228, f230, f232, f234, t7_0, t8_0, t9_0, hT0, hO214, hA227, hA229, hA231, hA233, hA235, hT7, hT8, hT9, (show 0 ≤ y219.toInt + 1 from (by have t1 : 0 ≤ y219.toInt + 1 := b236; omega)), (show y219.toInt ≤ 1 from (by have t1 : 0 ≤ t1_4.toInt ∧ t1_4.toInt ≤ 1 := btt1_4; have t2 : y219.toInt ≤ t1_4.toInt := b241; omega)), (show 0 ≤ y220.toInt from (by have t1 : 0 ≤ y220.toInt := b237; omega)), (show y220.toInt ≤ 1 from (by have t1 : y220.toInt ≤ 1 := b238; omega)), (show t0_1.toInt ≤ t0_1.toInt from (by omega)), (show t0_1.toInt ≤ t0_1.toInt from (by omega)), (show t0_2.toInt ≤ t0_2.toInt from (by omega)), (show t0_2.toInt ≤ t0_2.toInt from (by omega)), (show t1_1.toInt ≤ y216.toInt from (by have t1 : t1_1.toInt ≤ y216.toInt := b239; omega)), (show y216.toInt ≤ t1_1.toInt from (by have t1 : y216.toInt ≤ t1_1.toInt := b240; omega)), (show t1_9.toInt ≤ y224.toInt from (by have t1 : t1_9.toInt ≤ y224.toInt := b248; omega)), (show y224.toInt ≤ t1_9.toInt from (by have t1 : y224.toInt ≤ t1_9.toInt := b249; omega)), (show (y215, t0_1, t0_2, y215, y216, y217, y218, y219, y220, y221, y222, y223, y224, y225, f226, f228, f230, f232, f234, t7_0, t8_0, t9_0) = (F_NM_shape x2 x3 x4 x5 x6 t0_0 t0_1 t0_2 t1_0 t1_1 t1_2 t1_3 t1_4 t1_5 t1_6 t1_7 t1_8 t1_9 t1_10 t2_0 t3_0 t4_0 t5_0 t6_0 t7_0 t8_0 t9_0) from Eq.trans (by rw [e269, e268, e267, e266, e265, e264, e263, e262, e261, e260, e259, e258, e257, e256, e255, e254, F_NM_shape_c40.eq_1]) hR270)⟩) d_14_27_91
    ·
      have b277 : q_F (0 < lx47.toInt) := (q_nleI c68)
      exact q_retv C0 V (⟨hI, hF, lx47, t0_1, t0_2, t1_0, t1_1, t1_2, t1_3, t1_4, t1_5, t1_6, t1_7, t1_8, t1_9, t1_10, t2_0, t3_0, t4_0, t5_0, t6_0, t7_0, t8_0, t9_0, hT0, hT1, hT2, hT3, hT4, hT5, hT6, hT7, hT8, hT9, (show 0 ≤ t1_4.toInt + 1 from (by have t1 : 0 ≤ t1_4.toInt ∧ t1_4.toInt ≤ 1 := btt1_4; omega)), (show t1_4.toInt ≤ 1 from (by have t1 : 0 ≤ t1_4.toInt ∧ t1_4.toInt ≤ 1 := btt1_4; omega)), (show 0 ≤ t1_5.toInt from (by have t1 : 0 ≤ t1_5.toInt ∧ t1_5.toInt ≤ 1 := btt1_5; omega)), (show t1_5.toInt ≤ 1 from (by have t1 : 0 ≤ t1_5.toInt ∧ t1_5.toInt ≤ 1 := btt1_5; omega)), (show t0_1.toInt ≤ t0_1.toInt from (by omega)), (show t0_1.toInt ≤ t0_1.toInt from (by omega)), (show t0_2.toInt ≤ t0_2.toInt from (by omega)), (show t0_2.toInt ≤ t0_2.toInt from (by omega)), (show t1_1.toInt ≤ t1_1.toInt from (by omega)), (show t1_1.toInt ≤ t1_1.toInt from (by omega)), (show t1_9.toInt ≤ t1_9.toInt from (by omega)), (show t1_9.toInt ≤ t1_9.toInt from (by omega)), (show (lx47, t0_1, t0_2, t1_0, t1_1, t1_2, t1_3, t1_4, t1_5, t1_6, t1_7, t1_8, t1_9, t1_10, t2_0, t3_0, t4_0, t5_0, t6_0, t7_0, t8_0, t9_0) = (F_NM_shape x2 x3 x4 x5 x6 t0_0 t0_1 t0_2 t1_0 t1_1 t1_2 t1_3 t1_4 t1_5 t1_6 t1_7 t1_8 t1_9 t1_10 t2_0 t3_0 t4_0 t5_0 t6_0 t7_0 t8_0 t9_0) from Eq.trans (by rw [F_NM_shape_J15.eq_1, if_neg c68]) hR61)⟩) d_14_27_25
  ·
    intro J58
    refine q_join (X := Unit) (fun z H locs ls _ => q_Wd D g (va_A ws sz) s ws H locs ∧ lv_has ls 6 [(0, .ref (q 116)), (1, .int x2), (2, .int x3), (3, .int x4), (4, .int x5), (5, .int x6)] ∧ F_NM_shape_J10 x2 x3 x4 x5 x6 t0_0 t0_1 t0_2 t1_0 t1_1 t1_2 t1_3 t1_4 t1_5 t1_6 t1_7 t1_8 t1_9 t1_10 t2_0 t3_0 t4_0 t5_0 t6_0 t7_0 t8_0 t9_0 = (F_NM_shape x2 x3 x4 x5 x6 t0_0 t0_1 t0_2 t1_0 t1_1 t1_2 t1_3 t1_4 t1_5 t1_6 t1_7 t1_8 t1_9 t1_10 t2_0 t3_0 t4_0 t5_0 t6_0 t7_0 t8_0 t9_0) ∧ True ∧ S_NM_shape_J10 x2 x3 x4 x5 x6 t0_0 t0_1 t0_2 t1_0 t1_1 t1_2 t1_3 t1_4 t1_5 t1_6 t1_7 t1_8 t1_9 t1_10 t2_0 t3_0 t4_0 t5_0 t6_0 t7_0 t8_0 t9_0) (fun z => [.ref (q 116)]) 10 0 0 ?_ ?_
    ·
      rintro _ H locs ls _ ⟨V, hl, hR289, hS290⟩
      replace hl : lv_has ls 6 [(0, .ref (q 116)), (1, .int x2), (2, .int x3), (3, .int x4), (4, .int x5), (5, .int x6)] := hl
      refine lv_iconst (v := 1) hx hb d_14_27_10 (by decide) ?_
      refine lv_goto (tgt := 15) hx hb d_14_27_11 (by decide) ?_
      exact J58 ((1 : Int32)) _ _ _ ws ⟨(show q_F (0 ≤ 1) from (show 0 ≤ 1 from by omega)), (show q_F (1 ≤ 1) from (show 1 ≤ 1 from by omega)), V, q_lw hl (q_lw1 0 rfl (q_lw1 1 rfl (q_lw1 2 rfl (q_lw1 3 rfl (q_lw1 4 rfl (q_lw1 5 rfl q_lw0)))))), (show F_NM_shape_J15 x2 x3 x4 x5 x6 t0_0 t0_1 t0_2 t1_0 t1_1 t1_2 t1_3 t1_4 t1_5 t1_6 t1_7 t1_8 t1_9 t1_10 t2_0 t3_0 t4_0 t5_0 t6_0 t7_0 t8_0 t9_0 1 = (F_NM_shape x2 x3 x4 x5 x6 t0_0 t0_1 t0_2 t1_0 t1_1 t1_2 t1_3 t1_4 t1_5 t1_6 t1_7 t1_8 t1_9 t1_10 t2_0 t3_0 t4_0 t5_0 t6_0 t7_0 t8_0 t9_0) from Eq.trans (by rw [F_NM_shape_J10.eq_1]) hR289), (show True ∧ S_NM_shape_J15 x2 x3 x4 x5 x6 t0_0 t0_1 t0_2 t1_0 t1_1 t1_2 t1_3 t1_4 t1_5 t1_6 t1_7 t1_8 t1_9 t1_10 t2_0 t3_0 t4_0 t5_0 t6_0 t7_0 t8_0 t9_0 1 from (by have h := hS290; rw [S_NM_shape_J10.eq_1] at h; with_reducible exact h))⟩
    ·
      intro J288
      refine lv_if_lt (tgt := 10) hx hb d_14_27_2 (by decide) (fun c294 => ?_) (fun c294 => ?_)
      ·
        have b295 : q_F (x2.toInt < 0) := (q_ltI c294)
        exact J288 (()) _ _ _ ws ⟨V, q_lw hl (q_lw1 0 rfl (q_lw1 1 rfl (q_lw1 2 rfl (q_lw1 3 rfl (q_lw1 4 rfl (q_lw1 5 rfl q_lw0)))))), (show F_NM_shape_J10 x2 x3 x4 x5 x6 t0_0 t0_1 t0_2 t1_0 t1_1 t1_2 t1_3 t1_4 t1_5 t1_6 t1_7 t1_8 t1_9 t1_10 t2_0 t3_0 t4_0 t5_0 t6_0 t7_0 t8_0 t9_0 = (F_NM_shape x2 x3 x4 x5 x6 t0_0 t0_1 t0_2 t1_0 t1_1 t1_2 t1_3 t1_4 t1_5 t1_6 t1_7 t1_8 t1_9 t1_10 t2_0 t3_0 t4_0 t5_0 t6_0 t7_0 t8_0 t9_0) from (by rw [F_NM_shape.eq_1, if_pos c294])), (show True ∧ S_NM_shape_J10 x2 x3 x4 x5 x6 t0_0 t0_1 t0_2 t1_0 t1_1 t1_2 t1_3 t1_4 t1_5 t1_6 t1_7 t1_8 t1_9 t1_10 t2_0 t3_0 t4_0 t5_0 t6_0 t7_0 t8_0 t9_0 from (by have h := hS; rw [S_NM_shape.eq_1] at h; rw [if_pos c294] at h; with_reducible exact h))⟩
      ·
        have b296 : q_F (0 ≤ x2.toInt) := (q_nltI c294)
        refine lv_iload_n hx hb d_14_27_5 rfl (lv_at hl 1 rfl) ?_
        refine lv_iconst (v := 2) hx hb d_14_27_6 (by decide) ?_
        refine lv_icmp_le (tgt := 14) hx hb d_14_27_7 (by decide) (fun c297 => ?_) (fun c297 => ?_)
        ·
          have b298 : q_F (x2.toInt ≤ 2) := (q_leI c297)
          refine lv_iconst (v := 0) hx hb d_14_27_14 (by decide) ?_
          exact J58 ((0 : Int32)) _ _ _ ws ⟨(show q_F (0 ≤ 0) from (show 0 ≤ 0 from by omega)), (show q_F (0 ≤ 1) from (show 0 ≤ 1 from by omega)), V, q_lw hl (q_lw1 0 rfl (q_lw1 1 rfl (q_lw1 2 rfl (q_lw1 3 rfl (q_lw1 4 rfl (q_lw1 5 rfl q_lw0)))))), (show F_NM_shape_J15 x2 x3 x4 x5 x6 t0_0 t0_1 t0_2 t1_0 t1_1 t1_2 t1_3 t1_4 t1_5 t1_6 t1_7 t1_8 t1_9 t1_10 t2_0 t3_0 t4_0 t5_0 t6_0 t7_0 t8_0 t9_0 0 = (F_NM_shape x2 x3 x4 x5 x6 t0_0 t0_1 t0_2 t1_0 t1_1 t1_2 t1_3 t1_4 t1_5 t1_6 t1_7 t1_8 t1_9 t1_10 t2_0 t3_0 t4_0 t5_0 t6_0 t7_0 t8_0 t9_0) from (by rw [F_NM_shape.eq_1, if_neg c294, if_pos c297])), (show True ∧ S_NM_shape_J15 x2 x3 x4 x5 x6 t0_0 t0_1 t0_2 t1_0 t1_1 t1_2 t1_3 t1_4 t1_5 t1_6 t1_7 t1_8 t1_9 t1_10 t2_0 t3_0 t4_0 t5_0 t6_0 t7_0 t8_0 t9_0 0 from (by have h := hS; rw [S_NM_shape.eq_1] at h; rw [if_neg c294] at h; rw [if_pos c297] at h; with_reducible exact h))⟩
        ·
          have b299 : q_F (2 < x2.toInt) := (q_nleI c297)
          exact J288 (()) _ _ _ ws ⟨V, q_lw hl (q_lw1 0 rfl (q_lw1 1 rfl (q_lw1 2 rfl (q_lw1 3 rfl (q_lw1 4 rfl (q_lw1 5 rfl q_lw0)))))), (show F_NM_shape_J10 x2 x3 x4 x5 x6 t0_0 t0_1 t0_2 t1_0 t1_1 t1_2 t1_3 t1_4 t1_5 t1_6 t1_7 t1_8 t1_9 t1_10 t2_0 t3_0 t4_0 t5_0 t6_0 t7_0 t8_0 t9_0 = (F_NM_shape x2 x3 x4 x5 x6 t0_0 t0_1 t0_2 t1_0 t1_1 t1_2 t1_3 t1_4 t1_5 t1_6 t1_7 t1_8 t1_9 t1_10 t2_0 t3_0 t4_0 t5_0 t6_0 t7_0 t8_0 t9_0) from (by rw [F_NM_shape.eq_1, if_neg c294, if_neg c297])), (show True ∧ S_NM_shape_J10 x2 x3 x4 x5 x6 t0_0 t0_1 t0_2 t1_0 t1_1 t1_2 t1_3 t1_4 t1_5 t1_6 t1_7 t1_8 t1_9 t1_10 t2_0 t3_0 t4_0 t5_0 t6_0 t7_0 t8_0 t9_0 from (by have h := hS; rw [S_NM_shape.eq_1] at h; rw [if_neg c294] at h; rw [if_neg c297] at h; with_reducible exact h))⟩
