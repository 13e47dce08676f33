theorem d_4_9_0 : decode prog_4_method_9_code 0 = .ok (.aload_n 0, 1) := by decide +kernel
theorem d_4_9_1 : decode prog_4_method_9_code 1 = .ok (.aload_n 1, 1) := by decide +kernel
theorem d_4_9_2 : decode prog_4_method_9_code 2 = .ok (.getfield 48, 3) := by decide +kernel
theorem d_4_9_5 : decode prog_4_method_9_code 5 = .ok (.i2l, 1) := by decide +kernel
theorem d_4_9_6 : decode prog_4_method_9_code 6 = .ok (.iload_n 2, 1) := by decide +kernel
theorem d_4_9_7 : decode prog_4_method_9_code 7 = .ok (.i2l, 1) := by decide +kernel
theorem d_4_9_8 : decode prog_4_method_9_code 8 = .ok (.lmul, 1) := by decide +kernel
theorem d_4_9_9 : decode prog_4_method_9_code 9 = .ok (.putfield 56, 3) := by decide +kernel
theorem d_4_9_12 : decode prog_4_method_9_code 12 = .ok (.aload_n 0, 1) := by decide +kernel
theorem d_4_9_13 : decode prog_4_method_9_code 13 = .ok (.getfield 20, 3) := by decide +kernel
theorem d_4_9_16 : decode prog_4_method_9_code 16 = .ok (.aload_n 1, 1) := by decide +kernel
theorem d_4_9_17 : decode prog_4_method_9_code 17 = .ok (.getfield 24, 3) := by decide +kernel
theorem d_4_9_20 : decode prog_4_method_9_code 20 = .ok (.iload_n 2, 1) := by decide +kernel
theorem d_4_9_21 : decode prog_4_method_9_code 21 = .ok (.sipush 3330, 3) := by decide +kernel
theorem d_4_9_24 : decode prog_4_method_9_code 24 = .ok (.invokevirtual 119, 3) := by decide +kernel
set_option maxRecDepth 100000 in
theorem w_1406 : (Cond.methodLink "NumberHouse$DecimalWork" (119 : Nat) ({ cls := "NumberHouse$Mill", name := "power", desc := "(LNumberHouse$Big;II)Z" } : MethodName)) ∈ q_tbl := q_of6 206 rfl (by decide +kernel)
theorem LV_DW_119 : q_LV "NumberHouse$DecimalWork" 119 y_Mil_power prog_8_method_8_code 5 (some .boolean) 3 := ⟨w_1331, w_3, w_1406, w_1329, w_1330, ⟨by decide, by decide, by decide +kernel⟩⟩
theorem d_4_9_27 : decode prog_4_method_9_code 27 = .ok (.istore_n 3, 1) := by decide +kernel
theorem d_4_9_28 : decode prog_4_method_9_code 28 = .ok (.aload_n 0, 1) := by decide +kernel
theorem d_4_9_29 : decode prog_4_method_9_code 29 = .ok (.getfield 20, 3) := by decide +kernel
theorem d_4_9_32 : decode prog_4_method_9_code 32 = .ok (.getfield 55, 3) := by decide +kernel
theorem d_4_9_35 : decode prog_4_method_9_code 35 = .ok (.aload_n 0, 1) := by decide +kernel
theorem d_4_9_36 : decode prog_4_method_9_code 36 = .ok (.getfield 20, 3) := by decide +kernel
theorem d_4_9_39 : decode prog_4_method_9_code 39 = .ok (.getfield 123, 3) := by decide +kernel
set_option maxRecDepth 100000 in
theorem w_118 : (Cond.fieldLink "NumberHouse$DecimalWork" (123 : Nat) "NumberHouse$Mill" "power" "LNumberHouse$Big;") ∈ q_tbl := q_of1 118 rfl (by decide +kernel)
theorem d_4_9_42 : decode prog_4_method_9_code 42 = .ok (.invokevirtual 44, 3) := by decide +kernel
theorem d_4_9_45 : decode prog_4_method_9_code 45 = .ok (.iload_n 3, 1) := by decide +kernel
theorem d_4_9_46 : decode prog_4_method_9_code 46 = .ok (.ireturn, 1) := by decide +kernel
def y_DW_raise : MethodName := ⟨"NumberHouse$DecimalWork", "raise", "(LNumberHouse$Dec;I)Z"⟩
def F_DW_raise_c42 (R : Int32) (x3 : Int32) (t0_0 : Int64) (t0_1 : Int32) (t1_0 : Int32) (t1_1 : Int32) (t2_0 : (Nat → Int32)) (t3_0 : Int32) (t3_1 : Int32) (t4_0 : (Nat → Int32)) (t5_0 : Int32) (t5_1 : Int32) (t6_0 : (Nat → Int32)) (t7_0 : Int32) (t7_1 : Int32) (t8_0 : Int32) (t8_1 : Int32) (t9_0 : (Nat → Int32)) (j48 : Int64) (p78 : (Int32 × Int32 × Int32 × (Nat → Int32) × Int32 × Int32 × (Nat → Int32))) (a55 : Int32) (y57 : Int32) (y58 : Int32) (f59 : (Nat → Int32)) (y62 : Int32) (y63 : Int32) (f64 : (Nat → Int32)) (p106 : (Int32 × Int32 × (Nat → Int32))) : Int32 × Int64 × Int32 × Int32 × Int32 × (Nat → Int32) × Int32 × Int32 × (Nat → Int32) × Int32 × Int32 × (Nat → Int32) := (a55, j48, t0_1, (p106.1 : Int32), (p106.2.1 : Int32), (p106.2.2 : (Nat → Int32)), y57, y58, f59, y62, y63, f64)
def F_DW_raise_c24 (R : Int32) (x3 : Int32) (t0_0 : Int64) (t0_1 : Int32) (t1_0 : Int32) (t1_1 : Int32) (t2_0 : (Nat → Int32)) (t3_0 : Int32) (t3_1 : Int32) (t4_0 : (Nat → Int32)) (t5_0 : Int32) (t5_1 : Int32) (t6_0 : (Nat → Int32)) (t7_0 : Int32) (t7_1 : Int32) (t8_0 : Int32) (t8_1 : Int32) (t9_0 : (Nat → Int32)) (j48 : Int64) (p78 : (Int32 × Int32 × Int32 × (Nat → Int32) × Int32 × Int32 × (Nat → Int32))) : Int32 × Int64 × Int32 × Int32 × Int32 × (Nat → Int32) × Int32 × Int32 × (Nat → Int32) × Int32 × Int32 × (Nat → Int32) := F_DW_raise_c42 R x3 t0_0 t0_1 t1_0 t1_1 t2_0 t3_0 t3_1 t4_0 t5_0 t5_1 t6_0 t7_0 t7_1 t8_0 t8_1 t9_0 j48 p78 (p78.1 : Int32) (p78.2.1 : Int32) (p78.2.2.1 : Int32) (p78.2.2.2.1 : (Nat → Int32)) (p78.2.2.2.2.1 : Int32) (p78.2.2.2.2.2.1 : Int32) (p78.2.2.2.2.2.2 : (Nat → Int32)) ((F_Big_copy (220 : Int32) (220 : Int32) t1_0 t1_1 t2_0 (p78.2.1 : Int32) (p78.2.2.1 : Int32) (p78.2.2.2.1 : (Nat → Int32))) : (Int32 × Int32 × (Nat → Int32)))
def F_DW_raise (R : Int32) (x3 : Int32) (t0_0 : Int64) (t0_1 : Int32) (t1_0 : Int32) (t1_1 : Int32) (t2_0 : (Nat → Int32)) (t3_0 : Int32) (t3_1 : Int32) (t4_0 : (Nat → Int32)) (t5_0 : Int32) (t5_1 : Int32) (t6_0 : (Nat → Int32)) (t7_0 : Int32) (t7_1 : Int32) (t8_0 : Int32) (t8_1 : Int32) (t9_0 : (Nat → Int32)) : Int32 × Int64 × Int32 × Int32 × Int32 × (Nat → Int32) × Int32 × Int32 × (Nat → Int32) × Int32 × Int32 × (Nat → Int32) := F_DW_raise_c24 R x3 t0_0 t0_1 t1_0 t1_1 t2_0 t3_0 t3_1 t4_0 t5_0 t5_1 t6_0 t7_0 t7_1 t8_0 t8_1 t9_0 ((t7_0.toInt64 : Int64) * (x3.toInt64 : Int64) : Int64) ((F_Mil_power R x3 (3330 : Int32) t3_0 t3_1 t4_0 t5_0 t5_1 t6_0 t8_0 t8_1 t9_0) : (Int32 × Int32 × Int32 × (Nat → Int32) × Int32 × Int32 × (Nat → Int32)))
set_option maxRecDepth 100000 in
set_option maxHeartbeats 4000000 in
theorem X_DW_raise (l : Launch) (D : va_G) (g : Nat → ClassId) (q : Nat → Nat) (ws : va_W) (k2 : Nat) (R : Int32) (hB2 : q_isDec (nsh g q) g q k2 R) (zk2 : (10 ≤ k2 ∧ k2 ≤ 31) ∨ 66 ≤ k2) (x3 : Int32) (ne_k2_10 : k2 ≠ 10) (ne_k2_11 : k2 ≠ 11) (ne_k2_9 : k2 ≠ 9) (ne_k2_8 : k2 ≠ 8) (ne_k2_14 : k2 ≠ 14) (ne_k2_15 : k2 ≠ 15) (ne_k2_13 : k2 ≠ 13) (ne_k2_12 : k2 ≠ 12) (ne_k2_18 : k2 ≠ 18) (ne_k2_19 : k2 ≠ 19) (ne_k2_17 : k2 ≠ 17) (ne_k2_16 : k2 ≠ 16) (ne_k2_30 : k2 ≠ 30) (ne_k2_31 : k2 ≠ 31) (ne_k2_29 : k2 ≠ 29) (ne_k2_28 : k2 ≠ 28) (hI : q_I (nsh g q) q ws) (t0_0 : Int64) (t0_1 : Int32) (hT0 : ws[30]? = (some (q 30, .inr (5, [.ref (q 31), .long t0_0, .ref (q 9), .int t0_1])) : Option (Nat × va_E))) (t1_0 : Int32) (t1_1 : Int32) (hT1 : ws[10]? = (some (q 10, .inr (2, [.ref (q 11), .int t1_0, .int t1_1])) : Option (Nat × va_E))) (t2_0 : (Nat → Int32)) (hT2 : ws[11]? = (some (q 11, .inl (g 0, (220 : Int32).toNatClampNeg, .inl t2_0)) : Option (Nat × va_E))) (t3_0 : Int32) (t3_1 : Int32) (hT3 : ws[14]? = (some (q 14, .inr (2, [.ref (q 15), .int t3_0, .int t3_1])) : Option (Nat × va_E))) (t4_0 : (Nat → Int32)) (hT4 : ws[15]? = (some (q 15, .inl (g 0, (220 : Int32).toNatClampNeg, .inl t4_0)) : Option (Nat × va_E))) (t5_0 : Int32) (t5_1 : Int32) (hT5 : ws[18]? = (some (q 18, .inr (2, [.ref (q 19), .int t5_0, .int t5_1])) : Option (Nat × va_E))) (t6_0 : (Nat → Int32)) (hT6 : ws[19]? = (some (q 19, .inl (g 0, (220 : Int32).toNatClampNeg, .inl t6_0)) : Option (Nat × va_E))) (t7_0 : Int32) (t7_1 : Int32) (hT7 : ws[k2]? = (some (q k2, .inr (3, [.ref (q (k2 + 1)), .int t7_0, .int t7_1])) : Option (Nat × va_E))) (t8_0 : Int32) (t8_1 : Int32) (hT8 : ws[k2 + 1]? = (some (q (k2 + 1), .inr (2, [.ref (q (k2 + 2)), .int t8_0, .int t8_1])) : Option (Nat × va_E))) (t9_0 : (Nat → Int32)) (hT9 : ws[k2 + 2]? = (some (q (k2 + 2), .inl (g 0, R.toNatClampNeg, .inl t9_0)) : Option (Nat × va_E))) : q_mI l y_DW_raise prog_4_method_9_code 4 (.boolean) 5 0 0 D g [.ref (q 30), .ref (q k2), .int x3] ws (fun r u => q_I (nsh g q) q u ∧ q_un ws u [10, 11, 14, 15, 18, 19, 30] ∧ ∃ (u0_0 : Int64) (u0_1 : Int32) (u1_0 : Int32) (u1_1 : Int32) (u2_0 : (Nat → Int32)) (u3_0 : Int32) (u3_1 : Int32) (u4_0 : (Nat → Int32)) (u5_0 : Int32) (u5_1 : Int32) (u6_0 : (Nat → Int32)), u[30]? = (some (q 30, .inr (5, [.ref (q 31), .long u0_0, .ref (q 9), .int u0_1])) : Option (Nat × va_E)) ∧ u[10]? = (some (q 10, .inr (2, [.ref (q 11), .int u1_0, .int u1_1])) : Option (Nat × va_E)) ∧ u[11]? = (some (q 11, .inl (g 0, (220 : Int32).toNatClampNeg, .inl u2_0)) : Option (Nat × va_E)) ∧ u[14]? = (some (q 14, .inr (2, [.ref (q 15), .int u3_0, .int u3_1])) : Option (Nat × va_E)) ∧ u[15]? = (some (q 15, .inl (g 0, (220 : Int32).toNatClampNeg, .inl u4_0)) : Option (Nat × va_E)) ∧ u[18]? = (some (q 18, .inr (2, [.ref (q 19), .int u5_0, .int u5_1])) : Option (Nat × va_E)) ∧ u[19]? = (some (q 19, .inl (g 0, (220 : Int32).toNatClampNeg, .inl u6_0)) : Option (Nat × va_E)) ∧ (0 ≤ r.toInt) ∧ (r.toInt ≤ 1) ∧ (0 ≤ u1_0.toInt) ∧ (u3_0.toInt ≤ 220) ∧ (0 ≤ u3_1.toInt) ∧ (u3_1.toInt ≤ 1) ∧ (0 ≤ u5_0.toInt) ∧ (u5_0.toInt ≤ 220) ∧ (0 ≤ u5_1.toInt) ∧ (u5_1.toInt ≤ 1) ∧ (t0_1.toInt ≤ u0_1.toInt) ∧ (u0_1.toInt ≤ t0_1.toInt) ∧ (u1_0.toInt ≤ u3_0.toInt) ∧ (u3_1.toInt ≤ u1_1.toInt) ∧ (u1_1.toInt ≤ u3_1.toInt) ∧ (r, u0_0, u0_1, u1_0, u1_1, u2_0, u3_0, u3_1, u4_0, u5_0, u5_1, u6_0) = (F_DW_raise R x3 t0_0 t0_1 t1_0 t1_1 t2_0 t3_0 t3_1 t4_0 t5_0 t5_1 t6_0 t7_0 t7_1 t8_0 t8_1 t9_0)) := by
  intro sz
  refine q_into (by decide) (Nat.le_of_ble_eq_true rfl) ?_
  intro p e s m below meth c ls hsz C0 V hl
  have hx := C0.1
  have hb := C0.2.1
  have btt0_1 := n_w30 hI hT0
  replace btt0_1 : q_F (0 ≤ t0_1.toInt ∧ t0_1.toInt ≤ 1) := btt0_1
  have btt1_1 := (q_bigW hI (n_b10 g q) hT1).2
  clear btt1_1
  have btt3_1 := (q_bigW hI (n_b14 g q) hT3).2
  clear btt3_1
  have btt5_1 := (q_bigW hI (n_b18 g q) hT5).2
  clear btt5_1
  have btt7_1 := (n_deW hI hB2 hT7).2
  clear btt7_1
  have btt8_1 := (q_bigW hI hB2.2 hT8).2
  clear btt8_1
  have hF : q_un ws ws [10, 11, 14, 15, 18, 19, 30] := q_u0
  have hl : lv_has ls 4 [(0, .ref (q 30)), (1, .ref (q k2)), (2, .int x3)] := hl
  refine lv_aload_n hx hb d_4_9_0 rfl (lv_at hl 0 rfl) ?_
  refine lv_aload_n hx hb d_4_9_1 rfl (lv_at hl 1 rfl) ?_
  refine q_get (ci := 3) (j := 1) (v := .int t7_0) C0 V i_Dec rfl rfl hT7 (by decide) w_176 rfl d_4_9_2 ?_
  refine lv_i2l hx hb d_4_9_5 rfl ?_
  obtain ⟨j42, e43⟩ := q_nm (t7_0.toInt64 : Int64)
  refine q_tl (v := j42) e43 ?_
  refine lv_iload_n hx hb d_4_9_6 rfl (lv_at hl 2 rfl) ?_
  refine lv_i2l hx hb d_4_9_7 rfl ?_
  obtain ⟨j45, e46⟩ := q_nm (x3.toInt64 : Int64)
  refine q_tl (v := j45) e46 ?_
  refine lv_lmul hx hb d_4_9_8 ?_
  obtain ⟨j48, e49⟩ := q_nm (j42 * j45 : Int64)
  refine q_tl (v := j48) e49 ?_
  refine q_put (ci := 5) (j := 1) (v := .long j48) (ty := .long) C0 V i_DW o_DW n_DW rfl rfl hT0 (by decide) w_212 rfl rfl rfl rfl (Nat.le_of_ble_eq_true rfl) d_4_9_9 (fun H locs w50 hu51 hT0 V => ?_)
  replace hT0 : w50[30]? = (some (q 30, .inr (5, [.ref (q 31), .long j48, .ref (q 9), .int t0_1])) : Option (Nat × va_E)) := hT0
  replace hI := n_p30 hI hu51 hT0 (by first | with_reducible exact q_fe btt0_1 | exact ⟨(by have t1 : 0 ≤ t0_1.toInt ∧ t0_1.toInt ≤ 1 := btt0_1; omega), (by have t1 : 0 ≤ t0_1.toInt ∧ t0_1.toInt ≤ 1 := btt0_1; omega)⟩)
  replace hT1 := (hu51 _ (by decide)).trans hT1
  replace hT2 := (hu51 _ (by decide)).trans hT2
  replace hT3 := (hu51 _ (by decide)).trans hT3
  replace hT4 := (hu51 _ (by decide)).trans hT4
  replace hT5 := (hu51 _ (by decide)).trans hT5
  replace hT6 := (hu51 _ (by decide)).trans hT6
  replace hT7 := (hu51 _ (by have z := ne_k2_30; omega)).trans hT7
  replace hT8 := (hu51 _ (by have z := ne_k2_29; omega)).trans hT8
  replace hT9 := (hu51 _ (by have z := ne_k2_28; omega)).trans hT9
  replace hF := q_us hF hu51 (by simp)
  refine lv_aload_n hx hb d_4_9_12 rfl (lv_at hl 0 rfl) ?_
  refine q_get (ci := 5) (j := 2) (v := .ref (q 9)) C0 V i_DW rfl rfl hT0 (by decide) w_214 rfl d_4_9_13 ?_
  refine lv_aload_n hx hb d_4_9_16 rfl (lv_at hl 1 rfl) ?_
  refine q_get (ci := 3) (j := 0) (v := .ref (q (k2 + 1))) C0 V i_Dec rfl rfl hT7 (by decide) w_171 rfl d_4_9_17 ?_
  refine lv_iload_n hx hb d_4_9_20 rfl (lv_at hl 2 rfl) ?_
  refine lv_sipush (v := 3330) hx hb d_4_9_21 (by decide) ?_
  have hO52 := n_o9 hI
  refine q_goi V (q_runV (As := [.ref (q (k2 + 1)), .int x3, .int 3330]) (rest := []) (d := 4) (mc := 0) (ms := 0) (ci := 4) C0 V rfl LV_DW_119 (X_Mil_power l D g q w50 (k2 + 1) R hB2.2 (by have z := zk2; omega) x3 3330 (by have z := ne_k2_13; omega) (by have z := ne_k2_14; omega) (by have z := ne_k2_12; omega) (by have z := ne_k2_17; omega) (by have z := ne_k2_18; omega) (by have z := ne_k2_16; omega) hI t3_0 t3_1 hT3 t4_0 hT4 t5_0 t5_1 hT5 t6_0 hT6 t8_0 t8_1 hT8 t9_0 hT9  _) rfl rfl hO52 rfl hl.1 rfl (Nat.le_of_ble_eq_true rfl) ⟨by decide, by decide⟩ ⟨Nat.le_of_ble_eq_true rfl, Nat.le_of_ble_eq_true rfl⟩ d_4_9_24) (fun a55 u53 H locs hp54 V => ?_)
  obtain ⟨hI, hZ9⟩ := hp54
  obtain ⟨hu77, hZ9⟩ := hZ9
  obtain ⟨y57, hZ9⟩ := hZ9
  obtain ⟨y58, hZ9⟩ := hZ9
  obtain ⟨f59, hZ9⟩ := hZ9
  obtain ⟨y62, hZ9⟩ := hZ9
  obtain ⟨y63, hZ9⟩ := hZ9
  obtain ⟨f64, hZ9⟩ := hZ9
  obtain ⟨hO56, hZ9⟩ := hZ9
  obtain ⟨hA60, hZ9⟩ := hZ9
  obtain ⟨hO61, hZ9⟩ := hZ9
  obtain ⟨hA65, hZ9⟩ := hZ9
  obtain ⟨b66, hZ9⟩ := hZ9
  obtain ⟨b67, hZ9⟩ := hZ9
  replace hZ9 := hZ9.2
  obtain ⟨b69, hZ9⟩ := hZ9
  obtain ⟨b70, hZ9⟩ := hZ9
  obtain ⟨b71, hZ9⟩ := hZ9
  obtain ⟨b72, hZ9⟩ := hZ9
  obtain ⟨b73, hZ9⟩ := hZ9
  obtain ⟨b74, hZ9⟩ := hZ9
  obtain ⟨b75, hE76⟩ := hZ9
  replace hO56 : u53[14]? = (some (q 14, .inr (2, [.ref (q 15), .int y57, .int y58])) : Option (Nat × va_E)) := hO56
  replace hA60 : u53[15]? = (some (q 15, .inl (g 0, (220 : Int32).toNatClampNeg, .inl f59)) : Option (Nat × va_E)) := hA60
  replace hO61 : u53[18]? = (some (q 18, .inr (2, [.ref (q 19), .int y62, .int y63])) : Option (Nat × va_E)) := hO61
  replace hA65 : u53[19]? = (some (q 19, .inl (g 0, (220 : Int32).toNatClampNeg, .inl f64)) : Option (Nat × va_E)) := hA65
  obtain ⟨p78, e79⟩ : ∃ z, z = (F_Mil_power R x3 (3330 : Int32) t3_0 t3_1 t4_0 t5_0 t5_1 t6_0 t8_0 t8_1 t9_0) := ⟨_, rfl⟩
  have e80 : a55 = p78.1 := congrArg (fun z => z.1) (hE76.trans e79.symm)
  have e81 : y57 = p78.2.1 := congrArg (fun z => z.2.1) (hE76.trans e79.symm)
  have e82 : y58 = p78.2.2.1 := congrArg (fun z => z.2.2.1) (hE76.trans e79.symm)
  have e83 : f59 = p78.2.2.2.1 := congrArg (fun z => z.2.2.2.1) (hE76.trans e79.symm)
  have e84 : y62 = p78.2.2.2.2.1 := congrArg (fun z => z.2.2.2.2.1) (hE76.trans e79.symm)
  have e85 : y63 = p78.2.2.2.2.2.1 := congrArg (fun z => z.2.2.2.2.2.1) (hE76.trans e79.symm)
  have e86 : f64 = p78.2.2.2.2.2.2 := congrArg (fun z => z.2.2.2.2.2.2) (hE76.trans e79.symm)
  replace b66 : q_F (0 ≤ a55.toInt) := b66
  replace b67 : q_F (a55.toInt ≤ 1) := b67
  replace b69 : q_F (y57.toInt ≤ 220) := b69
  replace b70 : q_F (0 ≤ y58.toInt) := b70
  replace b71 : q_F (y58.toInt ≤ 1) := b71
  replace b72 : q_F (0 ≤ y62.toInt) := b72
  replace b73 : q_F (y62.toInt ≤ 220) := b73
  replace b74 : q_F (0 ≤ y63.toInt) := b74
  replace b75 : q_F (y63.toInt ≤ 1) := b75
  replace hT0 := (hu77 _ (by decide)).trans hT0
  replace hT1 := (hu77 _ (by decide)).trans hT1
  replace hT2 := (hu77 _ (by decide)).trans hT2
  replace hO52 := (hu77 _ (by decide)).trans hO52
  replace hF := q_uc hF hu77 (by first | exact (q_sk (q_mi 2 rfl) (q_sk (q_mi 3 rfl) (q_sk (q_mi 4 rfl) (q_sk (q_mi 5 rfl) q_s0)))) | simp)
  have hR87 := (show F_DW_raise_c24 R x3 t0_0 t0_1 t1_0 t1_1 t2_0 t3_0 t3_1 t4_0 t5_0 t5_1 t6_0 t7_0 t7_1 t8_0 t8_1 t9_0 j48 p78 = (F_DW_raise R x3 t0_0 t0_1 t1_0 t1_1 t2_0 t3_0 t3_1 t4_0 t5_0 t5_1 t6_0 t7_0 t7_1 t8_0 t8_1 t9_0) from (by rw [e79, ← e49, ← e46, ← e43, F_DW_raise.eq_1]))
  refine lv_istore_n (lv' := [(3, .int a55), (0, .ref (q 30)), (1, .ref (q k2)), (2, .int x3)]) hx hb d_4_9_27 rfl hl (by decide) rfl (fun ls hl => ?_)
  refine lv_aload_n hx hb d_4_9_28 rfl (lv_at hl 1 rfl) ?_
  refine q_get (ci := 5) (j := 2) (v := .ref (q 9)) C0 V i_DW rfl rfl hT0 (by decide) w_214 rfl d_4_9_29 ?_
  refine q_get (ci := 4) (j := 0) (v := .ref (q 10)) C0 V i_Mil rfl rfl hO52 (by decide) w_111 rfl d_4_9_32 ?_
  refine lv_aload_n hx hb d_4_9_35 rfl (lv_at hl 1 rfl) ?_
  refine q_get (ci := 5) (j := 2) (v := .ref (q 9)) C0 V i_DW rfl rfl hT0 (by decide) w_214 rfl d_4_9_36 ?_
  refine q_get (ci := 4) (j := 2) (v := .ref (q 14)) C0 V i_Mil rfl rfl hO52 (by decide) w_118 rfl d_4_9_39 ?_
  refine q_gov V (q_runV (As := [.ref (q 14)]) (rest := []) (d := 2) (mc := 0) (ms := 0) (ci := 2) C0 V rfl LV_DW_44 (X_Big_copy l D g q u53 10 220 (n_b10 g q) (by decide) 14 220 (n_b14 g q) (by decide)  (by decide) hI t1_0 t1_1 hT1 t2_0 hT2 y57 y58 hO56 f59 hA60  _) rfl rfl hT1 rfl hl.1 rfl (Nat.le_of_ble_eq_true rfl) ⟨by decide, by decide⟩ ⟨Nat.le_of_ble_eq_true rfl, Nat.le_of_ble_eq_true rfl⟩ d_4_9_42) (fun u92 H locs hp93 V => ?_)
  obtain ⟨hI, hZ9⟩ := hp93
  obtain ⟨hu105, hZ9⟩ := hZ9
  obtain ⟨y95, hZ9⟩ := hZ9
  obtain ⟨y96, hZ9⟩ := hZ9
  obtain ⟨f97, hZ9⟩ := hZ9
  obtain ⟨hO94, hZ9⟩ := hZ9
  obtain ⟨hA98, hZ9⟩ := hZ9
  obtain ⟨b99, hZ9⟩ := hZ9
  obtain ⟨b100, hZ9⟩ := hZ9
  replace hZ9 := hZ9.2
  obtain ⟨b102, hZ9⟩ := hZ9
  obtain ⟨b103, hE104⟩ := hZ9
  replace hO94 : u92[10]? = (some (q 10, .inr (2, [.ref (q 11), .int y95, .int y96])) : Option (Nat × va_E)) := hO94
  replace hA98 : u92[11]? = (some (q 11, .inl (g 0, (220 : Int32).toNatClampNeg, .inl f97)) : Option (Nat × va_E)) := hA98
  obtain ⟨p106, e107⟩ : ∃ z, z = (F_Big_copy (220 : Int32) (220 : Int32) t1_0 t1_1 t2_0 y57 y58 f59) := ⟨_, rfl⟩
  have e108 : y95 = p106.1 := congrArg (fun z => z.1) (hE104.trans e107.symm)
  have e109 : y96 = p106.2.1 := congrArg (fun z => z.2.1) (hE104.trans e107.symm)
  have e110 : f97 = p106.2.2 := congrArg (fun z => z.2.2) (hE104.trans e107.symm)
  replace b99 : q_F (0 ≤ y95.toInt) := b99
  replace b100 : q_F (y95.toInt ≤ y57.toInt) := b100
  replace b102 : q_F (y58.toInt ≤ y96.toInt) := b102
  replace b103 : q_F (y96.toInt ≤ y58.toInt) := b103
  replace hT0 := (hu105 _ (by decide)).trans hT0
  replace hO56 := (hu105 _ (by decide)).trans hO56
  replace hA60 := (hu105 _ (by decide)).trans hA60
  replace hO61 := (hu105 _ (by decide)).trans hO61
  replace hA65 := (hu105 _ (by decide)).trans hA65
  replace hF := q_uc hF hu105 (by first | exact (q_sk (q_mi 0 rfl) (q_sk (q_mi 1 rfl) q_s0)) | simp)
  have hR111 := (show F_DW_raise_c42 R x3 t0_0 t0_1 t1_0 t1_1 t2_0 t3_0 t3_1 t4_0 t5_0 t5_1 t6_0 t7_0 t7_1 t8_0 t8_1 t9_0 j48 p78 a55 y57 y58 f59 y62 y63 f64 p106 = (F_DW_raise R x3 t0_0 t0_1 t1_0 t1_1 t2_0 t3_0 t3_1 t4_0 t5_0 t5_1 t6_0 t7_0 t7_1 t8_0 t8_1 t9_0) from Eq.trans (by rw [e107, e86, e85, e84, e83, e82, e81, e80, F_DW_raise_c24.eq_1]) hR87)
  refine lv_iload_n hx hb d_4_9_45 rfl (lv_at hl 0 rfl) ?_
  exact q_retz C0 V (q_nz01 (q_Ile (x := 0) (y := a55.toInt) (by decide) rfl (by first | with_reducible exact q_fe b66 | (have t1 : 0 ≤ a55.toInt := b66; omega))) (q_Ile (x := a55.toInt) (y := 1) rfl (by decide) (by first | with_reducible exact q_fe b67 | (have t1 : a55.toInt ≤ 1 := b67; omega)))) (⟨hI, hF, j48, t0_1, y95, y96, f97, y57, y58, f59, y62, y63, f64, hT0, hO94, hA98, hO56, hA60, hO61, hA65, (show 0 ≤ a55.toInt from (by first | with_reducible exact q_fe b66 | (have t1 : 0 ≤ a55.toInt := b66; omega))), (show a55.toInt ≤ 1 from (by first | with_reducible exact q_fe b67 | (have t1 : a55.toInt ≤ 1 := b67; omega))), (show 0 ≤ y95.toInt from (by first | with_reducible exact q_fe b99 | (have t1 : 0 ≤ y95.toInt := b99; omega))), (show y57.toInt ≤ 220 from (by first | with_reducible exact q_fe b69 | (have t1 : y57.toInt ≤ 220 := b69; omega))), (show 0 ≤ y58.toInt from (by first | with_reducible exact q_fe b70 | (have t1 : 0 ≤ y58.toInt := b70; omega))), (show y58.toInt ≤ 1 from (by first | with_reducible exact q_fe b71 | (have t1 : y58.toInt ≤ 1 := b71; omega))), (show 0 ≤ y62.toInt from (by first | with_reducible exact q_fe b72 | (have t1 : 0 ≤ y62.toInt := b72; omega))), (show y62.toInt ≤ 220 from (by first | with_reducible exact q_fe b73 | (have t1 : y62.toInt ≤ 220 := b73; omega))), (show 0 ≤ y63.toInt from (by first | with_reducible exact q_fe b74 | (have t1 : 0 ≤ y63.toInt := b74; omega))), (show y63.toInt ≤ 1 from (by first | with_reducible exact q_fe b75 | (have t1 : y63.toInt ≤ 1 := b75; omega))), (show t0_1.toInt ≤ t0_1.toInt from (by omega)), (show t0_1.toInt ≤ t0_1.toInt from (by omega)), (show y95.toInt ≤ y57.toInt from (by first | with_reducible exact q_fe b100 | (have t1 : y95.toInt ≤ y57.toInt := b100; omega))), (show y58.toInt ≤ y96.toInt from (by first | with_reducible exact q_fe b102 | (have t1 : y58.toInt ≤ y96.toInt := b102; omega))), (show y96.toInt ≤ y58.toInt from (by first | with_reducible exact q_fe b103 | (have t1 : y96.toInt ≤ y58.toInt := b103; omega))), (show (a55, j48, t0_1, y95, y96, f97, y57, y58, f59, y62, y63, f64) = (F_DW_raise R x3 t0_0 t0_1 t1_0 t1_1 t2_0 t3_0 t3_1 t4_0 t5_0 t5_1 t6_0 t7_0 t7_1 t8_0 t8_1 t9_0) from Eq.trans (by rw [e110, e109, e108, F_DW_raise_c42.eq_1]) hR111)⟩) d_4_9_46
theorem d_4_10_0 : decode prog_4_method_10_code 0 = .ok (.aload_n 0, 1) := by decide +kernel
theorem d_4_10_1 : decode prog_4_method_10_code 1 = .ok (.aload_n 1, 1) := by decide +kernel
theorem d_4_10_2 : decode prog_4_method_10_code 2 = .ok (.invokevirtual 125, 3) := by decide +kernel
set_option maxRecDepth 100000 in
theorem w_1410 : (Cond.code ({ cls := "NumberHouse$DecimalWork", name := "take", desc := "(LNumberHouse$Dec;)V" } : MethodName) prog_4_method_3_code (2 : Nat) (none : Option ClassFile.FieldType)) ∈ q_tbl := q_of6 210 rfl (by decide +kernel)
set_option maxRecDepth 100000 in
theorem w_1415 : (Cond.methodLink "NumberHouse$DecimalWork" (125 : Nat) ({ cls := "NumberHouse$DecimalWork", name := "take", desc := "(LNumberHouse$Dec;)V" } : MethodName)) ∈ q_tbl := q_of6 215 rfl (by decide +kernel)
set_option maxRecDepth 100000 in
theorem w_1408 : (Cond.instanceMethod ({ cls := "NumberHouse$DecimalWork", name := "take", desc := "(LNumberHouse$Dec;)V" } : MethodName)) ∈ q_tbl := q_of6 208 rfl (by decide +kernel)
set_option maxRecDepth 100000 in
theorem w_1409 : (Cond.selects "NumberHouse$DecimalWork" ({ cls := "NumberHouse$DecimalWork", name := "take", desc := "(LNumberHouse$Dec;)V" } : MethodName) ({ cls := "NumberHouse$DecimalWork", name := "take", desc := "(LNumberHouse$Dec;)V" } : MethodName)) ∈ q_tbl := q_of6 209 rfl (by decide +kernel)
theorem LV_DW_125 : q_LV "NumberHouse$DecimalWork" 125 y_DW_take prog_4_method_3_code 2 none 1 := ⟨w_1410, w_5, w_1415, w_1408, w_1409, ⟨by decide, by decide, by decide +kernel⟩⟩
theorem d_4_10_5 : decode prog_4_method_10_code 5 = .ok (.aload_n 0, 1) := by decide +kernel
theorem d_4_10_6 : decode prog_4_method_10_code 6 = .ok (.aload_n 1, 1) := by decide +kernel
theorem d_4_10_7 : decode prog_4_method_10_code 7 = .ok (.getfield 24, 3) := by decide +kernel
theorem d_4_10_10 : decode prog_4_method_10_code 10 = .ok (.getfield 63, 3) := by decide +kernel
theorem d_4_10_13 : decode prog_4_method_10_code 13 = .ok (.ifCond .ne 7, 3) := by decide +kernel
theorem d_4_10_20 : decode prog_4_method_10_code 20 = .ok (.aload_n 0, 1) := by decide +kernel
theorem d_4_10_21 : decode prog_4_method_10_code 21 = .ok (.getfield 56, 3) := by decide +kernel
theorem d_4_10_24 : decode prog_4_method_10_code 24 = .ok (.aload_n 0, 1) := by decide +kernel
theorem d_4_10_25 : decode prog_4_method_10_code 25 = .ok (.getfield 20, 3) := by decide +kernel
theorem d_4_10_28 : decode prog_4_method_10_code 28 = .ok (.aload_n 0, 1) := by decide +kernel
theorem d_4_10_29 : decode prog_4_method_10_code 29 = .ok (.getfield 20, 3) := by decide +kernel
theorem d_4_10_32 : decode prog_4_method_10_code 32 = .ok (.getfield 55, 3) := by decide +kernel
theorem d_4_10_35 : decode prog_4_method_10_code 35 = .ok (.ldc2_w 129, 3) := by decide +kernel
set_option maxRecDepth 100000 in
theorem w_1416 : (Cond.constantLong "NumberHouse$DecimalWork" (129 : Nat) (1000 : Int64)) ∈ q_tbl := q_of6 216 rfl (by decide +kernel)
theorem d_4_10_38 : decode prog_4_method_10_code 38 = .ok (.invokevirtual 131, 3) := by decide +kernel
set_option maxRecDepth 100000 in
theorem w_1420 : (Cond.code ({ cls := "NumberHouse$Mill", name := "dropZeros", desc := "(LNumberHouse$Big;J)I" } : MethodName) prog_8_method_14_code (5 : Nat) (some .int)) ∈ q_tbl := q_of6 220 rfl (by decide +kernel)
set_option maxRecDepth 100000 in
theorem w_1417 : (Cond.methodLink "NumberHouse$DecimalWork" (131 : Nat) ({ cls := "NumberHouse$Mill", name := "dropZeros", desc := "(LNumberHouse$Big;J)I" } : MethodName)) ∈ q_tbl := q_of6 217 rfl (by decide +kernel)
set_option maxRecDepth 100000 in
theorem w_1418 : (Cond.instanceMethod ({ cls := "NumberHouse$Mill", name := "dropZeros", desc := "(LNumberHouse$Big;J)I" } : MethodName)) ∈ q_tbl := q_of6 218 rfl (by decide +kernel)
set_option maxRecDepth 100000 in
theorem w_1419 : (Cond.selects "NumberHouse$Mill" ({ cls := "NumberHouse$Mill", name := "dropZeros", desc := "(LNumberHouse$Big;J)I" } : MethodName) ({ cls := "NumberHouse$Mill", name := "dropZeros", desc := "(LNumberHouse$Big;J)I" } : MethodName)) ∈ q_tbl := q_of6 219 rfl (by decide +kernel)
theorem LV_DW_131 : q_LV "NumberHouse$DecimalWork" 131 y_Mil_dropZeros prog_8_method_14_code 5 (some .int) 2 := ⟨w_1420, w_3, w_1417, w_1418, w_1419, ⟨by decide, by decide, by decide +kernel⟩⟩
theorem d_4_10_41 : decode prog_4_method_10_code 41 = .ok (.i2l, 1) := by decide +kernel
theorem d_4_10_42 : decode prog_4_method_10_code 42 = .ok (.lsub, 1) := by decide +kernel
theorem d_4_10_43 : decode prog_4_method_10_code 43 = .ok (.putfield 56, 3) := by decide +kernel
theorem d_4_10_46 : decode prog_4_method_10_code 46 = .ok (.return_, 1) := by decide +kernel
theorem d_4_10_16 : decode prog_4_method_10_code 16 = .ok (.lconst 0, 1) := by decide +kernel
theorem d_4_10_17 : decode prog_4_method_10_code 17 = .ok (.goto 26, 3) := by decide +kernel
def y_DW_strip : MethodName := ⟨"NumberHouse$DecimalWork", "strip", "(LNumberHouse$Dec;)V"⟩
def F_DW_strip_c38 (R : Int32) (t0_0 : Int64) (t0_1 : Int32) (t1_0 : Int32) (t1_1 : Int32) (t2_0 : (Nat → Int32)) (t3_0 : Int32) (t3_1 : Int32) (t4_0 : (Nat → Int32)) (t5_0 : Int32) (t5_1 : Int32) (t6_0 : Int32) (t6_1 : Int32) (t7_0 : (Nat → Int32)) (p54 : (Int64 × Int32 × Int32 × Int32 × (Nat → Int32))) (y37 : Int64) (y38 : Int32) (p94 : (Int32 × Int32 × Int32 × (Nat → Int32) × Int32 × Int32 × (Nat → Int32))) : Int64 × Int32 × Int32 × Int32 × (Nat → Int32) × Int32 × Int32 × (Nat → Int32) := ((y37 - ((p94.1 : Int32).toInt64 : Int64) : Int64), y38, (p94.2.2.2.2.1 : Int32), (p94.2.2.2.2.2.1 : Int32), (p94.2.2.2.2.2.2 : (Nat → Int32)), (p94.2.1 : Int32), (p94.2.2.1 : Int32), (p94.2.2.2.1 : (Nat → Int32)))
def F_DW_strip_c2 (R : Int32) (t0_0 : Int64) (t0_1 : Int32) (t1_0 : Int32) (t1_1 : Int32) (t2_0 : (Nat → Int32)) (t3_0 : Int32) (t3_1 : Int32) (t4_0 : (Nat → Int32)) (t5_0 : Int32) (t5_1 : Int32) (t6_0 : Int32) (t6_1 : Int32) (t7_0 : (Nat → Int32)) (p54 : (Int64 × Int32 × Int32 × Int32 × (Nat → Int32))) : Int64 × Int32 × Int32 × Int32 × (Nat → Int32) × Int32 × Int32 × (Nat → Int32) := if t6_0 = (0 : Int32) then (((0 : Int64), (p54.2.1 : Int32), (p54.2.2.1 : Int32), (p54.2.2.2.1 : Int32), (p54.2.2.2.2 : (Nat → Int32)), t3_0, t3_1, t4_0)) else (F_DW_strip_c38 R t0_0 t0_1 t1_0 t1_1 t2_0 t3_0 t3_1 t4_0 t5_0 t5_1 t6_0 t6_1 t7_0 p54 (p54.1 : Int64) (p54.2.1 : Int32) ((F_Mil_dropZeros (220 : Int32) (1000 : Int64) t3_0 t3_1 t4_0 (p54.2.2.1 : Int32) (p54.2.2.2.1 : Int32) (p54.2.2.2.2 : (Nat → Int32))) : (Int32 × Int32 × Int32 × (Nat → Int32) × Int32 × Int32 × (Nat → Int32))))
def F_DW_strip (R : Int32) (t0_0 : Int64) (t0_1 : Int32) (t1_0 : Int32) (t1_1 : Int32) (t2_0 : (Nat → Int32)) (t3_0 : Int32) (t3_1 : Int32) (t4_0 : (Nat → Int32)) (t5_0 : Int32) (t5_1 : Int32) (t6_0 : Int32) (t6_1 : Int32) (t7_0 : (Nat → Int32)) : Int64 × Int32 × Int32 × Int32 × (Nat → Int32) × Int32 × Int32 × (Nat → Int32) := F_DW_strip_c2 R t0_0 t0_1 t1_0 t1_1 t2_0 t3_0 t3_1 t4_0 t5_0 t5_1 t6_0 t6_1 t7_0 ((F_DW_take R t0_0 t0_1 t1_0 t1_1 t2_0 t5_0 t5_1 t6_0 t6_1 t7_0) : (Int64 × Int32 × Int32 × Int32 × (Nat → Int32)))
set_option maxRecDepth 100000 in
set_option maxHeartbeats 4000000 in
theorem X_DW_strip (l : Launch) (D : va_G) (g : Nat → ClassId) (q : Nat → Nat) (ws : va_W) (k2 : Nat) (R : Int32) (hB2 : q_isDec (nsh g q) g q k2 R) (zk2 : (10 ≤ k2 ∧ k2 ≤ 31) ∨ 66 ≤ k2) (ne_k2_10 : k2 ≠ 10) (ne_k2_11 : k2 ≠ 11) (ne_k2_9 : k2 ≠ 9) (ne_k2_8 : k2 ≠ 8) (ne_k2_20 : k2 ≠ 20) (ne_k2_21 : k2 ≠ 21) (ne_k2_19 : k2 ≠ 19) (ne_k2_18 : k2 ≠ 18) (ne_k2_30 : k2 ≠ 30) (ne_k2_31 : k2 ≠ 31) (ne_k2_29 : k2 ≠ 29) (ne_k2_28 : k2 ≠ 28) (hI : q_I (nsh g q) q ws) (t0_0 : Int64) (t0_1 : Int32) (hT0 : ws[30]? = (some (q 30, .inr (5, [.ref (q 31), .long t0_0, .ref (q 9), .int t0_1])) : Option (Nat × va_E))) (t1_0 : Int32) (t1_1 : Int32) (hT1 : ws[10]? = (some (q 10, .inr (2, [.ref (q 11), .int t1_0, .int t1_1])) : Option (Nat × va_E))) (t2_0 : (Nat → Int32)) (hT2 : ws[11]? = (some (q 11, .inl (g 0, (220 : Int32).toNatClampNeg, .inl t2_0)) : Option (Nat × va_E))) (t3_0 : Int32) (t3_1 : Int32) (hT3 : ws[20]? = (some (q 20, .inr (2, [.ref (q 21), .int t3_0, .int t3_1])) : Option (Nat × va_E))) (t4_0 : (Nat → Int32)) (hT4 : ws[21]? = (some (q 21, .inl (g 0, (220 : Int32).toNatClampNeg, .inl t4_0)) : Option (Nat × va_E))) (t5_0 : Int32) (t5_1 : Int32) (hT5 : ws[k2]? = (some (q k2, .inr (3, [.ref (q (k2 + 1)), .int t5_0, .int t5_1])) : Option (Nat × va_E))) (t6_0 : Int32) (t6_1 : Int32) (hT6 : ws[k2 + 1]? = (some (q (k2 + 1), .inr (2, [.ref (q (k2 + 2)), .int t6_0, .int t6_1])) : Option (Nat × va_E))) (t7_0 : (Nat → Int32)) (hT7 : ws[k2 + 2]? = (some (q (k2 + 2), .inl (g 0, R.toNatClampNeg, .inl t7_0)) : Option (Nat × va_E))) : q_mV l y_DW_strip prog_4_method_10_code 2 4 0 0 D g [.ref (q 30), .ref (q k2)] ws (fun u => q_I (nsh g q) q u ∧ q_un ws u [10, 11, 20, 21, 30] ∧ ∃ (u0_0 : Int64) (u0_1 : Int32) (u1_0 : Int32) (u1_1 : Int32) (u2_0 : (Nat → Int32)) (u3_0 : Int32) (u3_1 : Int32) (u4_0 : (Nat → Int32)), u[30]? = (some (q 30, .inr (5, [.ref (q 31), .long u0_0, .ref (q 9), .int u0_1])) : Option (Nat × va_E)) ∧ u[10]? = (some (q 10, .inr (2, [.ref (q 11), .int u1_0, .int u1_1])) : Option (Nat × va_E)) ∧ u[11]? = (some (q 11, .inl (g 0, (220 : Int32).toNatClampNeg, .inl u2_0)) : Option (Nat × va_E)) ∧ u[20]? = (some (q 20, .inr (2, [.ref (q 21), .int u3_0, .int u3_1])) : Option (Nat × va_E)) ∧ u[21]? = (some (q 21, .inl (g 0, (220 : Int32).toNatClampNeg, .inl u4_0)) : Option (Nat × va_E)) ∧ (u0_0.toInt ≤ 10000) ∧ (0 ≤ u1_0.toInt) ∧ (0 ≤ u1_1.toInt) ∧ (0 ≤ u3_0.toInt) ∧ (u3_0.toInt ≤ 220) ∧ (0 ≤ u3_1.toInt) ∧ (u3_1.toInt ≤ 1) ∧ (t5_0.toInt ≤ u0_0.toInt + 10000) ∧ (u0_0.toInt ≤ t5_0.toInt + 10000) ∧ (u0_0.toInt ≤ t6_0.toInt + 9999) ∧ (t0_1.toInt ≤ u0_1.toInt) ∧ (u0_1.toInt ≤ t0_1.toInt) ∧ (u1_0.toInt ≤ t6_0.toInt) ∧ (u1_1.toInt ≤ t6_1.toInt) ∧ (u0_0, u0_1, u1_0, u1_1, u2_0, u3_0, u3_1, u4_0) = (F_DW_strip R t0_0 t0_1 t1_0 t1_1 t2_0 t3_0 t3_1 t4_0 t5_0 t5_1 t6_0 t6_1 t7_0)) := by
  intro sz
  refine q_into (by decide) (Nat.le_of_ble_eq_true rfl) ?_
  intro p e s m below meth c ls hsz C0 V hl
  have hx := C0.1
  have hb := C0.2.1
  have btt0_1 := n_w30 hI hT0
  replace btt0_1 : q_F (0 ≤ t0_1.toInt ∧ t0_1.toInt ≤ 1) := btt0_1
  have btt1_1 := (q_bigW hI (n_b10 g q) hT1).2
  clear btt1_1
  obtain ⟨btt3_0, btt3_1⟩ := q_bigW hI (n_b20 g q) hT3
  replace btt3_0 : q_F (0 ≤ t3_0.toInt ∧ t3_0.toInt ≤ 220) := btt3_0
  replace btt3_1 : q_F (0 ≤ t3_1.toInt ∧ t3_1.toInt ≤ 1) := btt3_1
  have btt5_0 := (n_deW hI hB2 hT5).1
  replace btt5_0 : q_F (-10000 ≤ t5_0.toInt ∧ t5_0.toInt ≤ 10000) := btt5_0
  obtain ⟨btt6_0, btt6_1⟩ := q_bigW hI hB2.2 hT6
  replace btt6_0 : q_F (0 ≤ t6_0.toInt ∧ t6_0.toInt ≤ R.toInt) := btt6_0
  replace btt6_1 : q_F (0 ≤ t6_1.toInt ∧ t6_1.toInt ≤ 1) := btt6_1
  have hF : q_un ws ws [10, 11, 20, 21, 30] := q_u0
  have hl : lv_has ls 2 [(0, .ref (q 30)), (1, .ref (q k2))] := hl
  refine lv_aload_n hx hb d_4_10_0 rfl (lv_at hl 0 rfl) ?_
  refine lv_aload_n hx hb d_4_10_1 rfl (lv_at hl 1 rfl) ?_
  refine q_gov V (q_runV (As := [.ref (q k2)]) (rest := []) (d := 3) (mc := 0) (ms := 0) (ci := 5) C0 V rfl LV_DW_125 (X_DW_take l D g q ws k2 R hB2 zk2  (by have z := ne_k2_10; omega) (by have z := ne_k2_11; omega) (by have z := ne_k2_9; omega) (by have z := ne_k2_8; omega) (by have z := ne_k2_30; omega) (by have z := ne_k2_31; omega) (by have z := ne_k2_29; omega) (by have z := ne_k2_28; omega) hI t0_0 t0_1 hT0 t1_0 t1_1 hT1 t2_0 hT2 t5_0 t5_1 hT5 t6_0 t6_1 hT6 t7_0 hT7  _) rfl rfl hT0 rfl hl.1 rfl (Nat.le_of_ble_eq_true rfl) ⟨by decide, by decide⟩ ⟨Nat.le_of_ble_eq_true rfl, Nat.le_of_ble_eq_true rfl⟩ d_4_10_2) (fun u34 H locs hp35 V => ?_)
  obtain ⟨hI, hZ9⟩ := hp35
  obtain ⟨hu53, hZ9⟩ := hZ9
  obtain ⟨y37, hZ9⟩ := hZ9
  obtain ⟨y38, hZ9⟩ := hZ9
  obtain ⟨y40, hZ9⟩ := hZ9
  obtain ⟨y41, hZ9⟩ := hZ9
  obtain ⟨f42, hZ9⟩ := hZ9
  obtain ⟨hO36, hZ9⟩ := hZ9
  obtain ⟨hO39, hZ9⟩ := hZ9
  obtain ⟨hA43, hZ9⟩ := hZ9
  obtain ⟨b44, hZ9⟩ := hZ9
  obtain ⟨b45, hZ9⟩ := hZ9
  obtain ⟨b46, hZ9⟩ := hZ9
  obtain ⟨b47, hZ9⟩ := hZ9
  obtain ⟨b48, hZ9⟩ := hZ9
  obtain ⟨b49, hZ9⟩ := hZ9
  obtain ⟨b50, hZ9⟩ := hZ9
  obtain ⟨b51, hE52⟩ := hZ9
  replace hO36 : u34[30]? = (some (q 30, .inr (5, [.ref (q 31), .long y37, .ref (q 9), .int y38])) : Option (Nat × va_E)) := hO36
  replace hO39 : u34[10]? = (some (q 10, .inr (2, [.ref (q 11), .int y40, .int y41])) : Option (Nat × va_E)) := hO39
  replace hA43 : u34[11]? = (some (q 11, .inl (g 0, (220 : Int32).toNatClampNeg, .inl f42)) : Option (Nat × va_E)) := hA43
  obtain ⟨p54, e55⟩ : ∃ z, z = (F_DW_take R t0_0 t0_1 t1_0 t1_1 t2_0 t5_0 t5_1 t6_0 t6_1 t7_0) := ⟨_, rfl⟩
  have e56 : y37 = p54.1 := congrArg (fun z => z.1) (hE52.trans e55.symm)
  have e57 : y38 = p54.2.1 := congrArg (fun z => z.2.1) (hE52.trans e55.symm)
  have e58 : y40 = p54.2.2.1 := congrArg (fun z => z.2.2.1) (hE52.trans e55.symm)
  have e59 : y41 = p54.2.2.2.1 := congrArg (fun z => z.2.2.2.1) (hE52.trans e55.symm)
  have e60 : f42 = p54.2.2.2.2 := congrArg (fun z => z.2.2.2.2) (hE52.trans e55.symm)
  replace b44 : q_F (0 ≤ y40.toInt) := b44
  replace b45 : q_F (t5_0.toInt ≤ y37.toInt) := b45
  replace b46 : q_F (y37.toInt ≤ t5_0.toInt) := b46
  replace b47 : q_F (t0_1.toInt ≤ y38.toInt) := b47
  replace b48 : q_F (y38.toInt ≤ t0_1.toInt) := b48
  replace b49 : q_F (y40.toInt ≤ t6_0.toInt) := b49
  replace b50 : q_F (t6_1.toInt ≤ y41.toInt) := b50
  replace b51 : q_F (y41.toInt ≤ t6_1.toInt) := b51
  replace hT3 := (hu53 _ (by decide)).trans hT3
  replace hT4 := (hu53 _ (by decide)).trans hT4
  replace hT5 := (hu53 _ (by have z0 := zk2; simp only [List.mem_cons, List.not_mem_nil, or_false, not_or]; omega)).trans hT5
  replace hT6 := (hu53 _ (by have z0 := zk2; simp only [List.mem_cons, List.not_mem_nil, or_false, not_or]; omega)).trans hT6
  replace hF := q_uc hF hu53 (by first | exact (q_sk (q_mi 0 rfl) (q_sk (q_mi 1 rfl) (q_sk (q_mi 4 rfl) q_s0))) | simp)
  have hR61 := (show F_DW_strip_c2 R t0_0 t0_1 t1_0 t1_1 t2_0 t3_0 t3_1 t4_0 t5_0 t5_1 t6_0 t6_1 t7_0 p54 = (F_DW_strip R t0_0 t0_1 t1_0 t1_1 t2_0 t3_0 t3_1 t4_0 t5_0 t5_1 t6_0 t6_1 t7_0) from (by rw [e55, F_DW_strip.eq_1]))
  refine lv_aload_n hx hb d_4_10_5 rfl (lv_at hl 0 rfl) ?_
  refine lv_aload_n hx hb d_4_10_6 rfl (lv_at hl 1 rfl) ?_
  refine q_get (ci := 3) (j := 0) (v := .ref (q (k2 + 1))) C0 V i_Dec rfl rfl hT5 (by decide) w_171 rfl d_4_10_7 ?_
  refine q_get (ci := 2) (j := 1) (v := .int t6_0) C0 V i_Big rfl rfl hT6 (by decide) w_90 rfl d_4_10_10 ?_
  refine lv_if_ne (tgt := 20) hx hb d_4_10_13 (by decide) (fun c66 => ?_) (fun c66 => ?_)
  ·
    have b67 : q_F (t6_0.toInt ≠ 0) := (q_neI c66)
    refine lv_aload_n hx hb d_4_10_20 rfl (lv_at hl 0 rfl) ?_
    refine q_get (ci := 5) (j := 1) (v := .long y37) C0 V i_DW rfl rfl hO36 (by decide) w_212 rfl d_4_10_21 ?_
    refine lv_aload_n hx hb d_4_10_24 rfl (lv_at hl 0 rfl) ?_
    refine q_get (ci := 5) (j := 2) (v := .ref (q 9)) C0 V i_DW rfl rfl hO36 (by decide) w_214 rfl d_4_10_25 ?_
    refine lv_aload_n hx hb d_4_10_28 rfl (lv_at hl 0 rfl) ?_
    refine q_get (ci := 5) (j := 2) (v := .ref (q 9)) C0 V i_DW rfl rfl hO36 (by decide) w_214 rfl d_4_10_29 ?_
    have hO68 := n_o9 hI
    refine q_get (ci := 4) (j := 0) (v := .ref (q 10)) C0 V i_Mil rfl rfl hO68 (by decide) w_111 rfl d_4_10_32 ?_
    refine q_ldc2 C0 rfl w_1416 d_4_10_35 ?_
    refine q_goi V (q_runV (As := [.ref (q 10), .long 1000]) (rest := [.long y37, .ref (q 30)]) (d := 3) (mc := 0) (ms := 0) (ci := 4) C0 V rfl LV_DW_131 (X_Mil_dropZeros l D g q u34 10 220 (n_b10 g q) (by decide) 1000 (by decide) (by decide) (by decide) hI t3_0 t3_1 hT3 t4_0 hT4 y40 y41 hO39 f42 hA43  _) rfl rfl hO68 rfl hl.1 rfl (Nat.le_of_ble_eq_true rfl) ⟨by decide, by decide⟩ ⟨Nat.le_of_ble_eq_true rfl, Nat.le_of_ble_eq_true rfl⟩ d_4_10_38) (fun a71 u69 H locs hp70 V => ?_)
    obtain ⟨hI, hZ9⟩ := hp70
    obtain ⟨hu93, hZ9⟩ := hZ9
    obtain ⟨y73, hZ9⟩ := hZ9
    obtain ⟨y74, hZ9⟩ := hZ9
    obtain ⟨f75, hZ9⟩ := hZ9
    obtain ⟨y78, hZ9⟩ := hZ9
    obtain ⟨y79, hZ9⟩ := hZ9
    obtain ⟨f80, hZ9⟩ := hZ9
    obtain ⟨hO72, hZ9⟩ := hZ9
    obtain ⟨hA76, hZ9⟩ := hZ9
    obtain ⟨hO77, hZ9⟩ := hZ9
    obtain ⟨hA81, hZ9⟩ := hZ9
    obtain ⟨b82, hZ9⟩ := hZ9
    obtain ⟨b83, hZ9⟩ := hZ9
    obtain ⟨b84, hZ9⟩ := hZ9
    obtain ⟨b85, hZ9⟩ := hZ9
    obtain ⟨b86, hZ9⟩ := hZ9
    obtain ⟨b87, hZ9⟩ := hZ9
    obtain ⟨b88, hZ9⟩ := hZ9
    obtain ⟨b89, hZ9⟩ := hZ9
    obtain ⟨b90, hZ9⟩ := hZ9
    obtain ⟨b91, hE92⟩ := hZ9
    replace hO72 : u69[20]? = (some (q 20, .inr (2, [.ref (q 21), .int y73, .int y74])) : Option (Nat × va_E)) := hO72
    replace hA76 : u69[21]? = (some (q 21, .inl (g 0, (220 : Int32).toNatClampNeg, .inl f75)) : Option (Nat × va_E)) := hA76
    replace hO77 : u69[10]? = (some (q 10, .inr (2, [.ref (q 11), .int y78, .int y79])) : Option (Nat × va_E)) := hO77
    replace hA81 : u69[11]? = (some (q 11, .inl (g 0, (220 : Int32).toNatClampNeg, .inl f80)) : Option (Nat × va_E)) := hA81
    obtain ⟨p94, e95⟩ : ∃ z, z = (F_Mil_dropZeros (220 : Int32) (1000 : Int64) t3_0 t3_1 t4_0 y40 y41 f42) := ⟨_, rfl⟩
    have e96 : a71 = p94.1 := congrArg (fun z => z.1) (hE92.trans e95.symm)
    have e97 : y73 = p94.2.1 := congrArg (fun z => z.2.1) (hE92.trans e95.symm)
    have e98 : y74 = p94.2.2.1 := congrArg (fun z => z.2.2.1) (hE92.trans e95.symm)
    have e99 : f75 = p94.2.2.2.1 := congrArg (fun z => z.2.2.2.1) (hE92.trans e95.symm)
    have e100 : y78 = p94.2.2.2.2.1 := congrArg (fun z => z.2.2.2.2.1) (hE92.trans e95.symm)
    have e101 : y79 = p94.2.2.2.2.2.1 := congrArg (fun z => z.2.2.2.2.2.1) (hE92.trans e95.symm)
    have e102 : f80 = p94.2.2.2.2.2.2 := congrArg (fun z => z.2.2.2.2.2.2) (hE92.trans e95.symm)
    replace b82 : q_F (0 ≤ a71.toInt) := b82
    replace b83 : q_F (a71.toInt ≤ 10000) := b83
    replace b84 : q_F (0 ≤ y73.toInt) := b84
    replace b85 : q_F (y73.toInt ≤ 220) := b85
    replace b86 : q_F (0 ≤ y74.toInt) := b86
    replace b87 : q_F (y74.toInt ≤ 1) := b87
    replace b88 : q_F (0 ≤ y78.toInt) := b88
    replace b89 : q_F (0 ≤ y79.toInt) := b89
    replace b90 : q_F (y78.toInt ≤ y40.toInt) := b90
    replace b91 : q_F (y79.toInt ≤ y41.toInt) := b91
    replace hO36 := (hu93 _ (by decide)).trans hO36
    replace hF := q_uc hF hu93 (by first | exact (q_sk (q_mi 2 rfl) (q_sk (q_mi 3 rfl) (q_sk (q_mi 0 rfl) (q_sk (q_mi 1 rfl) q_s0)))) | simp)
    have hR103 := (show F_DW_strip_c38 R t0_0 t0_1 t1_0 t1_1 t2_0 t3_0 t3_1 t4_0 t5_0 t5_1 t6_0 t6_1 t7_0 p54 y37 y38 p94 = (F_DW_strip R t0_0 t0_1 t1_0 t1_1 t2_0 t3_0 t3_1 t4_0 t5_0 t5_1 t6_0 t6_1 t7_0) from Eq.trans (by rw [e95, e60, e59, e58, e57, e56, F_DW_strip_c2.eq_1, if_neg c66]) hR61)
    refine lv_i2l hx hb d_4_10_41 rfl ?_
    obtain ⟨j108, e109⟩ := q_nm (a71.toInt64 : Int64)
    refine q_tl (v := j108) e109 ?_
    have b110 : q_F (j108.toInt = a71.toInt) := (by rw [← e109]; show (a71.toInt64 : Int64).toInt = a71.toInt; exact q_i2l rfl)
    refine lv_lsub hx hb d_4_10_42 ?_
    obtain ⟨j111, e112⟩ := q_nm (y37 - j108 : Int64)
    refine q_tl (v := j111) e112 ?_
    have b113 : q_F (j111.toInt = y37.toInt - j108.toInt) := (by rw [← e112]; show (y37 - j108 : Int64).toInt = y37.toInt - j108.toInt; exact q_subL (x := y37.toInt) (y := j108.toInt) rfl rfl (by have t1 : t5_0.toInt ≤ y37.toInt := b45; have t2 : j108.toInt = a71.toInt := b110; have _ := q_lo32 (x := a71); have _ := q_hi32 (x := a71); have _ := q_lo32 (x := t5_0); have _ := q_hi32 (x := t5_0); have t3 : y37.toInt ≤ t5_0.toInt := b46; omega) (by have t1 : t5_0.toInt ≤ y37.toInt := b45; have t2 : j108.toInt = a71.toInt := b110; have _ := q_lo32 (x := a71); have _ := q_hi32 (x := a71); have _ := q_lo32 (x := t5_0); have _ := q_hi32 (x := t5_0); have t3 : y37.toInt ≤ t5_0.toInt := b46; omega))
    refine q_put (ci := 5) (j := 1) (v := .long j111) (ty := .long) C0 V i_DW o_DW n_DW rfl rfl hO36 (by decide) w_212 rfl rfl rfl rfl (Nat.le_of_ble_eq_true rfl) d_4_10_43 (fun H locs w114 hu115 hO36 V => ?_)
    replace hO36 : w114[30]? = (some (q 30, .inr (5, [.ref (q 31), .long j111, .ref (q 9), .int y38])) : Option (Nat × va_E)) := hO36
    replace hI := n_p30 hI hu115 hO36 ⟨(by have t1 : 0 ≤ t0_1.toInt ∧ t0_1.toInt ≤ 1 := btt0_1; have t2 : t0_1.toInt ≤ y38.toInt := b47; omega), (by have t1 : 0 ≤ t0_1.toInt ∧ t0_1.toInt ≤ 1 := btt0_1; have t2 : y38.toInt ≤ t0_1.toInt := b48; omega)⟩
    replace hO77 := (hu115 _ (by decide)).trans hO77
    replace hA81 := (hu115 _ (by decide)).trans hA81
    replace hO72 := (hu115 _ (by decide)).trans hO72
    replace hA76 := (hu115 _ (by decide)).trans hA76
    replace hF := q_us hF hu115 (by simp)
    exact q_retv C0 V (⟨hI, hF, j111, y38, y78, y79, f80, y73, y74, f75, hO36, hO77, hA81, hO72, hA76, (show j111.toInt ≤ 10000 from (by have t1 : -10000 ≤ t5_0.toInt ∧ t5_0.toInt ≤ 10000 := btt5_0; have t2 : y37.toInt ≤ t5_0.toInt := b46; have t3 : 0 ≤ a71.toInt := b82; have t4 : j108.toInt = a71.toInt := b110; have t5 : j111.toInt = y37.toInt - j108.toInt := b113; omega)), (show 0 ≤ y78.toInt from (by first | with_reducible exact q_fe b88 | (have t1 : 0 ≤ y78.toInt := b88; omega))), (show 0 ≤ y79.toInt from (by first | with_reducible exact q_fe b89 | (have t1 : 0 ≤ y79.toInt := b89; omega))), (show 0 ≤ y73.toInt from (by first | with_reducible exact q_fe b84 | (have t1 : 0 ≤ y73.toInt := b84; omega))), (show y73.toInt ≤ 220 from (by first | with_reducible exact q_fe b85 | (have t1 : y73.toInt ≤ 220 := b85; omega))), (show 0 ≤ y74.toInt from (by first | with_reducible exact q_fe b86 | (have t1 : 0 ≤ y74.toInt := b86; omega))), (show y74.toInt ≤ 1 from (by first | with_reducible exact q_fe b87 | (have t1 : y74.toInt ≤ 1 := b87; omega))), (show t5_0.toInt ≤ j111.toInt + 10000 from (by have t1 : t5_0.toInt ≤ y37.toInt := b45; have t2 : a71.toInt ≤ 10000 := b83; have t3 : j108.toInt = a71.toInt := b110; have t4 : j111.toInt = y37.toInt - j108.toInt := b113; omega)), (show j111.toInt ≤ t5_0.toInt + 10000 from (by have t1 : y37.toInt ≤ t5_0.toInt := b46; have t2 : 0 ≤ a71.toInt := b82; have t3 : j108.toInt = a71.toInt := b110; have t4 : j111.toInt = y37.toInt - j108.toInt := b113; omega)), (show j111.toInt ≤ t6_0.toInt + 9999 from (by have t1 : -10000 ≤ t5_0.toInt ∧ t5_0.toInt ≤ 10000 := btt5_0; have t2 : 0 ≤ t6_0.toInt ∧ t6_0.toInt ≤ R.toInt := btt6_0; have t3 : y37.toInt ≤ t5_0.toInt := b46; have t4 : t6_0.toInt ≠ 0 := b67; have t5 : 0 ≤ a71.toInt := b82; have t6 : j108.toInt = a71.toInt := b110; have t7 : j111.toInt = y37.toInt - j108.toInt := b113; omega)), (show t0_1.toInt ≤ y38.toInt from (by first | with_reducible exact q_fe b47 | (have t1 : t0_1.toInt ≤ y38.toInt := b47; omega))), (show y38.toInt ≤ t0_1.toInt from (by first | with_reducible exact q_fe b48 | (have t1 : y38.toInt ≤ t0_1.toInt := b48; omega))), (show y78.toInt ≤ t6_0.toInt from (by have t1 : y40.toInt ≤ t6_0.toInt := b49; have t2 : y78.toInt ≤ y40.toInt := b90; omega)), (show y79.toInt ≤ t6_1.toInt from (by have t1 : y41.toInt ≤ t6_1.toInt := b51; have t2 : y79.toInt ≤ y41.toInt := b91; omega)), (show (j111, y38, y78, y79, f80, y73, y74, f75) = (F_DW_strip R t0_0 t0_1 t1_0 t1_1 t2_0 t3_0 t3_1 t4_0 t5_0 t5_1 t6_0 t6_1 t7_0) from Eq.trans (by rw [← e112, ← e109, e102, e101, e100, e99, e98, e97, e96, F_DW_strip_c38.eq_1]) hR103)⟩) d_4_10_46
  ·
    refine lv_lconst (v := 0) hx hb d_4_10_16 (by decide) ?_
    refine lv_goto (tgt := 43) hx hb d_4_10_17 (by decide) ?_
    refine q_put (ci := 5) (j := 1) (v := .long 0) (ty := .long) C0 V i_DW o_DW n_DW rfl rfl hO36 (by decide) w_212 rfl rfl rfl rfl (Nat.le_of_ble_eq_true rfl) d_4_10_43 (fun H locs w117 hu118 hO36 V => ?_)
    replace hO36 : w117[30]? = (some (q 30, .inr (5, [.ref (q 31), .long 0, .ref (q 9), .int y38])) : Option (Nat × va_E)) := hO36
    replace hI := n_p30 hI hu118 hO36 ⟨(by have t1 : 0 ≤ t0_1.toInt ∧ t0_1.toInt ≤ 1 := btt0_1; have t2 : t0_1.toInt ≤ y38.toInt := b47; omega), (by have t1 : 0 ≤ t0_1.toInt ∧ t0_1.toInt ≤ 1 := btt0_1; have t2 : y38.toInt ≤ t0_1.toInt := b48; omega)⟩
    replace hO39 := (hu118 _ (by decide)).trans hO39
    replace hA43 := (hu118 _ (by decide)).trans hA43
    replace hT3 := (hu118 _ (by decide)).trans hT3
    replace hT4 := (hu118 _ (by decide)).trans hT4
    replace hF := q_us hF hu118 (by simp)
    exact q_retv C0 V (⟨hI, hF, 0, y38, y40, y41, f42, t3_0, t3_1, t4_0, hO36, hO39, hA43, hT3, hT4, (show (0 : Int64).toInt ≤ 10000 from (by have z14 : (0 : Int64).toInt = 0 := rfl; omega)), (show 0 ≤ y40.toInt from (by have z14 : (0 : Int64).toInt = 0 := rfl; have t1 : 0 ≤ y40.toInt := b44; omega)), (show 0 ≤ y41.toInt from (by have z14 : (0 : Int64).toInt = 0 := rfl; have t1 : 0 ≤ t6_1.toInt ∧ t6_1.toInt ≤ 1 := btt6_1; have t2 : t6_1.toInt ≤ y41.toInt := b50; omega)), (show 0 ≤ t3_0.toInt from (by have z14 : (0 : Int64).toInt = 0 := rfl; have t1 : 0 ≤ t3_0.toInt ∧ t3_0.toInt ≤ 220 := btt3_0; omega)), (show t3_0.toInt ≤ 220 from (by have z14 : (0 : Int64).toInt = 0 := rfl; have t1 : 0 ≤ t3_0.toInt ∧ t3_0.toInt ≤ 220 := btt3_0; omega)), (show 0 ≤ t3_1.toInt from (by have z14 : (0 : Int64).toInt = 0 := rfl; have t1 : 0 ≤ t3_1.toInt ∧ t3_1.toInt ≤ 1 := btt3_1; omega)), (show t3_1.toInt ≤ 1 from (by have z14 : (0 : Int64).toInt = 0 := rfl; have t1 : 0 ≤ t3_1.toInt ∧ t3_1.toInt ≤ 1 := btt3_1; omega)), (show t5_0.toInt ≤ (0 : Int64).toInt + 10000 from (by have z14 : (0 : Int64).toInt = 0 := rfl; have t1 : -10000 ≤ t5_0.toInt ∧ t5_0.toInt ≤ 10000 := btt5_0; omega)), (show (0 : Int64).toInt ≤ t5_0.toInt + 10000 from (by have z14 : (0 : Int64).toInt = 0 := rfl; have t1 : -10000 ≤ t5_0.toInt ∧ t5_0.toInt ≤ 10000 := btt5_0; omega)), (show (0 : Int64).toInt ≤ t6_0.toInt + 9999 from (by have z14 : (0 : Int64).toInt = 0 := rfl; have t1 : 0 ≤ t6_0.toInt ∧ t6_0.toInt ≤ R.toInt := btt6_0; omega)), (show t0_1.toInt ≤ y38.toInt from (by have z14 : (0 : Int64).toInt = 0 := rfl; have t1 : t0_1.toInt ≤ y38.toInt := b47; omega)), (show y38.toInt ≤ t0_1.toInt from (by have z14 : (0 : Int64).toInt = 0 := rfl; have t1 : y38.toInt ≤ t0_1.toInt := b48; omega)), (show y40.toInt ≤ t6_0.toInt from (by have z14 : (0 : Int64).toInt = 0 := rfl; have t1 : y40.toInt ≤ t6_0.toInt := b49; omega)), (show y41.toInt ≤ t6_1.toInt from (by have z14 : (0 : Int64).toInt = 0 := rfl; have t1 : y41.toInt ≤ t6_1.toInt := b51; omega)), (show ((0 : Int64), y38, y40, y41, f42, t3_0, t3_1, t4_0) = (F_DW_strip R t0_0 t0_1 t1_0 t1_1 t2_0 t3_0 t3_1 t4_0 t5_0 t5_1 t6_0 t6_1 t7_0) from Eq.trans (by rw [e60, e59, e58, e57, F_DW_strip_c2.eq_1, if_pos c66]) hR61)⟩) d_4_10_46
theorem d_4_18_0 : decode prog_4_method_18_code 0 = .ok (.iload_n 1, 1) := by decide +kernel
theorem d_4_18_1 : decode prog_4_method_18_code 1 = .ok (.iconst 5, 1) := by decide +kernel
theorem d_4_18_22 : decode prog_4_method_18_code 22 = .ok (.istore 4, 2) := by decide +kernel
theorem d_4_18_24 : decode prog_4_method_18_code 24 = .ok (.iload_n 1, 1) := by decide +kernel
theorem d_4_18_25 : decode prog_4_method_18_code 25 = .ok (.iconst 5, 1) := by decide +kernel
theorem d_4_18_41 : decode prog_4_method_18_code 41 = .ok (.istore 5, 2) := by decide +kernel
theorem d_4_18_43 : decode prog_4_method_18_code 43 = .ok (.iload_n 3, 1) := by decide +kernel
theorem d_4_18_44 : decode prog_4_method_18_code 44 = .ok (.tableswitch 75 0 5 #[40, 42, 44, 54, 56, 72], 40) := by decide +kernel
theorem d_4_18_84 : decode prog_4_method_18_code 84 = .ok (.iconst 1, 1) := by decide +kernel
theorem d_4_18_85 : decode prog_4_method_18_code 85 = .ok (.ireturn, 1) := by decide +kernel
theorem d_4_18_86 : decode prog_4_method_18_code 86 = .ok (.iconst 0, 1) := by decide +kernel
theorem d_4_18_87 : decode prog_4_method_18_code 87 = .ok (.ireturn, 1) := by decide +kernel
theorem d_4_18_88 : decode prog_4_method_18_code 88 = .ok (.iload_n 2, 1) := by decide +kernel
theorem d_4_18_89 : decode prog_4_method_18_code 89 = .ok (.ifCond .ne 7, 3) := by decide +kernel
theorem d_4_18_96 : decode prog_4_method_18_code 96 = .ok (.iconst 0, 1) := by decide +kernel
theorem d_4_18_97 : decode prog_4_method_18_code 97 = .ok (.ireturn, 1) := by decide +kernel
theorem d_4_18_92 : decode prog_4_method_18_code 92 = .ok (.iconst 1, 1) := by decide +kernel
theorem d_4_18_93 : decode prog_4_method_18_code 93 = .ok (.goto 4, 3) := by decide +kernel
theorem d_4_18_98 : decode prog_4_method_18_code 98 = .ok (.iload_n 2, 1) := by decide +kernel
theorem d_4_18_99 : decode prog_4_method_18_code 99 = .ok (.ireturn, 1) := by decide +kernel
theorem d_4_18_100 : decode prog_4_method_18_code 100 = .ok (.iload 4, 2) := by decide +kernel
theorem d_4_18_102 : decode prog_4_method_18_code 102 = .ok (.ifCond .ne 8, 3) := by decide +kernel
theorem d_4_18_110 : decode prog_4_method_18_code 110 = .ok (.iconst 1, 1) := by decide +kernel
theorem d_4_18_111 : decode prog_4_method_18_code 111 = .ok (.goto 4, 3) := by decide +kernel
theorem d_4_18_115 : decode prog_4_method_18_code 115 = .ok (.ireturn, 1) := by decide +kernel
theorem d_4_18_105 : decode prog_4_method_18_code 105 = .ok (.iload 5, 2) := by decide +kernel
theorem d_4_18_107 : decode prog_4_method_18_code 107 = .ok (.ifCond .eq 7, 3) := by decide +kernel
theorem d_4_18_114 : decode prog_4_method_18_code 114 = .ok (.iconst 0, 1) := by decide +kernel
theorem d_4_18_116 : decode prog_4_method_18_code 116 = .ok (.iload 4, 2) := by decide +kernel
theorem d_4_18_118 : decode prog_4_method_18_code 118 = .ok (.ireturn, 1) := by decide +kernel
theorem d_4_18_119 : decode prog_4_method_18_code 119 = .ok (.iload 4, 2) := by decide +kernel
theorem d_4_18_121 : decode prog_4_method_18_code 121 = .ok (.ifCond .ne 23, 3) := by decide +kernel
theorem d_4_18_144 : decode prog_4_method_18_code 144 = .ok (.iconst 1, 1) := by decide +kernel
theorem d_4_18_145 : decode prog_4_method_18_code 145 = .ok (.goto 4, 3) := by decide +kernel
theorem d_4_18_149 : decode prog_4_method_18_code 149 = .ok (.ireturn, 1) := by decide +kernel
theorem d_4_18_124 : decode prog_4_method_18_code 124 = .ok (.iload 5, 2) := by decide +kernel
theorem d_4_18_126 : decode prog_4_method_18_code 126 = .ok (.ifCond .eq 22, 3) := by decide +kernel
theorem d_4_18_148 : decode prog_4_method_18_code 148 = .ok (.iconst 0, 1) := by decide +kernel
theorem d_4_18_129 : decode prog_4_method_18_code 129 = .ok (.aload_n 0, 1) := by decide +kernel
theorem d_4_18_130 : decode prog_4_method_18_code 130 = .ok (.getfield 20, 3) := by decide +kernel
theorem d_4_18_133 : decode prog_4_method_18_code 133 = .ok (.getfield 55, 3) := by decide +kernel
theorem d_4_18_136 : decode prog_4_method_18_code 136 = .ok (.iconst 0, 1) := by decide +kernel
theorem d_4_18_137 : decode prog_4_method_18_code 137 = .ok (.invokevirtual 179, 3) := by decide +kernel
set_option maxRecDepth 100000 in
theorem w_1456 : (Cond.methodLink "NumberHouse$DecimalWork" (179 : Nat) ({ cls := "NumberHouse$Big", name := "bit", desc := "(I)I" } : MethodName)) ∈ q_tbl := q_of7 16 rfl (by decide +kernel)
theorem LV_DW_179 : q_LV "NumberHouse$DecimalWork" 179 y_Big_bit prog_2_method_17_code 2 (some .int) 1 := ⟨w_746, w_4, w_1456, w_744, w_745, ⟨by decide, by decide, by decide +kernel⟩⟩
theorem d_4_18_140 : decode prog_4_method_18_code 140 = .ok (.iconst 1, 1) := by decide +kernel
theorem d_4_18_141 : decode prog_4_method_18_code 141 = .ok (.if_icmp .ne 7, 3) := by decide +kernel
theorem d_4_18_40 : decode prog_4_method_18_code 40 = .ok (.iconst 0, 1) := by decide +kernel
theorem d_4_18_26 : decode prog_4_method_18_code 26 = .ok (.if_icmp .ne 14, 3) := by decide +kernel
theorem d_4_18_29 : decode prog_4_method_18_code 29 = .ok (.aload_n 0, 1) := by decide +kernel
theorem d_4_18_30 : decode prog_4_method_18_code 30 = .ok (.getfield 146, 3) := by decide +kernel
set_option maxRecDepth 100000 in
theorem w_215 : (Cond.fieldLink "NumberHouse$DecimalWork" (146 : Nat) "NumberHouse$DecimalWork" "lost" "Z") ∈ q_tbl := q_of1 215 rfl (by decide +kernel)
theorem d_4_18_33 : decode prog_4_method_18_code 33 = .ok (.ifCond .ne 7, 3) := by decide +kernel
theorem d_4_18_36 : decode prog_4_method_18_code 36 = .ok (.iconst 1, 1) := by decide +kernel
theorem d_4_18_37 : decode prog_4_method_18_code 37 = .ok (.goto 4, 3) := by decide +kernel
theorem d_4_18_17 : decode prog_4_method_18_code 17 = .ok (.iconst 1, 1) := by decide +kernel
theorem d_4_18_18 : decode prog_4_method_18_code 18 = .ok (.goto 4, 3) := by decide +kernel
theorem d_4_18_2 : decode prog_4_method_18_code 2 = .ok (.if_icmp .gt 15, 3) := by decide +kernel
theorem d_4_18_5 : decode prog_4_method_18_code 5 = .ok (.iload_n 1, 1) := by decide +kernel
theorem d_4_18_6 : decode prog_4_method_18_code 6 = .ok (.iconst 5, 1) := by decide +kernel
theorem d_4_18_21 : decode prog_4_method_18_code 21 = .ok (.iconst 0, 1) := by decide +kernel
theorem d_4_18_7 : decode prog_4_method_18_code 7 = .ok (.if_icmp .ne 14, 3) := by decide +kernel
theorem d_4_18_10 : decode prog_4_method_18_code 10 = .ok (.aload_n 0, 1) := by decide +kernel
theorem d_4_18_11 : decode prog_4_method_18_code 11 = .ok (.getfield 146, 3) := by decide +kernel
theorem d_4_18_14 : decode prog_4_method_18_code 14 = .ok (.ifCond .eq 7, 3) := by decide +kernel
def y_DW_goesOutwards : MethodName := ⟨"NumberHouse$DecimalWork", "goesOutwards", "(IZI)Z"⟩
def F_DW_goesOutwards_J41 (x2 : Int32) (x3 : Int32) (x4 : Int32) (t0_0 : Int64) (t0_1 : Int32) (t1_0 : Int32) (t1_1 : Int32) (t2_0 : (Nat → Int32)) (lx13 : Int32) (lx25 : Int32) : Int32 := if x4 = (0 : Int32) then ((1 : Int32)) else (if x4 = (1 : Int32) then ((0 : Int32)) else (if x4 = (2 : Int32) then (if x3 = (0 : Int32) then ((1 : Int32)) else ((0 : Int32))) else (if x4 = (3 : Int32) then (x3) else (if x4 = (4 : Int32) then (if lx13 = (0 : Int32) then (if lx25 = (0 : Int32) then ((0 : Int32)) else ((1 : Int32))) else ((1 : Int32))) else (if x4 = (5 : Int32) then (lx13) else (if lx13 = (0 : Int32) then (if lx25 = (0 : Int32) then ((0 : Int32)) else (if ((F_Big_bit (220 : Int32) (0 : Int32) t1_0 t1_1 t2_0) : Int32) = (1 : Int32) then ((1 : Int32)) else ((0 : Int32)))) else ((1 : Int32))))))))
def F_DW_goesOutwards_J40 (x2 : Int32) (x3 : Int32) (x4 : Int32) (t0_0 : Int64) (t0_1 : Int32) (t1_0 : Int32) (t1_1 : Int32) (t2_0 : (Nat → Int32)) (lx13 : Int32) : Int32 := F_DW_goesOutwards_J41 x2 x3 x4 t0_0 t0_1 t1_0 t1_1 t2_0 lx13 0
def F_DW_goesOutwards_J22 (x2 : Int32) (x3 : Int32) (x4 : Int32) (t0_0 : Int64) (t0_1 : Int32) (t1_0 : Int32) (t1_1 : Int32) (t2_0 : (Nat → Int32)) (lx13 : Int32) : Int32 := if x2 = (5 : Int32) then (if t0_1 = (0 : Int32) then (F_DW_goesOutwards_J41 x2 x3 x4 t0_0 t0_1 t1_0 t1_1 t2_0 lx13 1) else (F_DW_goesOutwards_J40 x2 x3 x4 t0_0 t0_1 t1_0 t1_1 t2_0 lx13)) else (F_DW_goesOutwards_J40 x2 x3 x4 t0_0 t0_1 t1_0 t1_1 t2_0 lx13)
def F_DW_goesOutwards_J17 (x2 : Int32) (x3 : Int32) (x4 : Int32) (t0_0 : Int64) (t0_1 : Int32) (t1_0 : Int32) (t1_1 : Int32) (t2_0 : (Nat → Int32)) : Int32 := F_DW_goesOutwards_J22 x2 x3 x4 t0_0 t0_1 t1_0 t1_1 t2_0 1
def F_DW_goesOutwards_J21 (x2 : Int32) (x3 : Int32) (x4 : Int32) (t0_0 : Int64) (t0_1 : Int32) (t1_0 : Int32) (t1_1 : Int32) (t2_0 : (Nat → Int32)) : Int32 := F_DW_goesOutwards_J22 x2 x3 x4 t0_0 t0_1 t1_0 t1_1 t2_0 0
def F_DW_goesOutwards (x2 : Int32) (x3 : Int32) (x4 : Int32) (t0_0 : Int64) (t0_1 : Int32) (t1_0 : Int32) (t1_1 : Int32) (t2_0 : (Nat → Int32)) : Int32 := if (5 : Int32) < x2 then (F_DW_goesOutwards_J17 x2 x3 x4 t0_0 t0_1 t1_0 t1_1 t2_0) else (if x2 = (5 : Int32) then (if t0_1 = (0 : Int32) then (F_DW_goesOutwards_J21 x2 x3 x4 t0_0 t0_1 t1_0 t1_1 t2_0) else (F_DW_goesOutwards_J17 x2 x3 x4 t0_0 t0_1 t1_0 t1_1 t2_0)) else (F_DW_goesOutwards_J21 x2 x3 x4 t0_0 t0_1 t1_0 t1_1 t2_0))
set_option maxRecDepth 100000 in
set_option maxHeartbeats 4000000 in
theorem X_DW_goesOutwards (l : Launch) (D : va_G) (g : Nat → ClassId) (q : Nat → Nat) (ws : va_W) (x2 : Int32) (x3 : Int32) (x4 : Int32) (hI : q_I (nsh g q) q ws) (t0_0 : Int64) (t0_1 : Int32) (hT0 : ws[30]? = (some (q 30, .inr (5, [.ref (q 31), .long t0_0, .ref (q 9), .int t0_1])) : Option (Nat × va_E))) (t1_0 : Int32) (t1_1 : Int32) (hT1 : ws[10]? = (some (q 10, .inr (2, [.ref (q 11), .int t1_0, .int t1_1])) : Option (Nat × va_E))) (t2_0 : (Nat → Int32)) (hT2 : ws[11]? = (some (q 11, .inl (g 0, (220 : Int32).toNatClampNeg, .inl t2_0)) : Option (Nat × va_E))) (hzx3 : 0 ≤ x3.toInt ∧ x3.toInt ≤ 1) : q_mI l y_DW_goesOutwards prog_4_method_18_code 6 (.boolean) 3 0 0 D g [.ref (q 30), .int x2, .int x3, .int x4] ws (fun r u => ws = u ∧ (0 ≤ r.toInt) ∧ (r.toInt ≤ 1) ∧ r = (F_DW_goesOutwards x2 x3 x4 t0_0 t0_1 t1_0 t1_1 t2_0)) := by
  intro sz
  refine q_into (by decide) (Nat.le_of_ble_eq_true rfl) ?_
  intro p e s m below meth c ls hsz C0 V hl
  have hx := C0.1
  have hb := C0.2.1
  replace hzx3 : q_F (0 ≤ x3.toInt ∧ x3.toInt ≤ 1) := hzx3
  have btt0_1 := n_w30 hI hT0
  clear btt0_1
  have btt1_1 := (q_bigW hI (n_b10 g q) hT1).2
  clear btt1_1
  have hl : lv_has ls 6 [(0, .ref (q 30)), (1, .int x2), (2, .int x3), (3, .int x4)] := hl
  refine lv_iload_n hx hb d_4_18_0 rfl (lv_at hl 1 rfl) ?_
  refine lv_iconst (v := 5) hx hb d_4_18_1 (by decide) ?_
  refine q_join (X := Int32) (fun z H locs ls _ => q_F (0 ≤ z.toInt) ∧ q_F (z.toInt ≤ 1) ∧ q_Wd D g (va_A ws sz) s ws H locs ∧ lv_has ls 6 [(0, .ref (q 30)), (1, .int x2), (2, .int x3), (3, .int x4)] ∧ F_DW_goesOutwards_J22 x2 x3 x4 t0_0 t0_1 t1_0 t1_1 t2_0 z = (F_DW_goesOutwards x2 x3 x4 t0_0 t0_1 t1_0 t1_1 t2_0)) (fun z => [.int z]) 22 0 0 ?_ ?_
  ·
    rintro lx13 H locs ls _ ⟨i18, i19, V, hl, hR20⟩
    replace i18 : q_F (0 ≤ lx13.toInt) := i18
    replace i19 : q_F (lx13.toInt ≤ 1) := i19
    replace hl : lv_has ls 6 [(0, .ref (q 30)), (1, .int x2), (2, .int x3), (3, .int x4)] := hl
    refine lv_istore (lv' := [(4, .int lx13), (0, .ref (q 30)), (1, .int x2), (2, .int x3), (3, .int x4)]) hx hb d_4_18_22 hl (by decide) rfl (fun ls hl => ?_)
    refine lv_iload_n hx hb d_4_18_24 rfl (lv_at hl 2 rfl) ?_
    refine lv_iconst (v := 5) hx hb d_4_18_25 (by decide) ?_
    refine q_join (X := Int32) (fun z H locs ls _ => q_F (0 ≤ z.toInt) ∧ q_F (z.toInt ≤ 1) ∧ q_Wd D g (va_A ws sz) s ws H locs ∧ lv_has ls 6 [(4, .int lx13), (0, .ref (q 30)), (2, .int x3), (3, .int x4)] ∧ F_DW_goesOutwards_J41 x2 x3 x4 t0_0 t0_1 t1_0 t1_1 t2_0 lx13 z = (F_DW_goesOutwards x2 x3 x4 t0_0 t0_1 t1_0 t1_1 t2_0)) (fun z => [.int z]) 41 0 0 ?_ ?_
    ·
      rintro lx25 H locs ls _ ⟨i30, i31, V, hl, hR32⟩
      clear i30
      clear i31
      replace hl : lv_has ls 6 [(4, .int lx13), (0, .ref (q 30)), (2, .int x3), (3, .int x4)] := hl
      refine lv_istore (lv' := [(5, .int lx25), (4, .int lx13), (0, .ref (q 30)), (2, .int x3), (3, .int x4)]) hx hb d_4_18_41 hl (by decide) rfl (fun ls hl => ?_)
      refine lv_iload_n hx hb d_4_18_43 rfl (lv_at hl 4 rfl) ?_
      by_cases c37 : x4 = 0
      ·
        refine q_ti (v := 0) c37 ?_
        refine lv_tableIn (tgt := 84) (off := 40) hx hb d_4_18_44 (by decide) (by decide) (by decide) (by decide) ?_
        refine lv_iconst (v := 1) hx hb d_4_18_84 (by decide) ?_
        exact q_retz C0 V (by decide) (⟨rfl, (show 0 ≤ (1 : Int32).toInt from (by have z8 : (1 : Int32).toInt = 1 := rfl; omega)), (show (1 : Int32).toInt ≤ 1 from (by have z8 : (1 : Int32).toInt = 1 := rfl; omega)), (show (1 : Int32) = (F_DW_goesOutwards x2 x3 x4 t0_0 t0_1 t1_0 t1_1 t2_0) from Eq.trans (by rw [F_DW_goesOutwards_J41.eq_1, if_pos c37]) hR32)⟩) d_4_18_85
      by_cases c40 : x4 = 1
      ·
        refine q_ti (v := 1) c40 ?_
        refine lv_tableIn (tgt := 86) (off := 42) hx hb d_4_18_44 (by decide) (by decide) (by decide) (by decide) ?_
        refine lv_iconst (v := 0) hx hb d_4_18_86 (by decide) ?_
        exact q_retz C0 V (by decide) (⟨rfl, (show 0 ≤ (0 : Int32).toInt from (by have z8 : (0 : Int32).toInt = 0 := rfl; omega)), (show (0 : Int32).toInt ≤ 1 from (by have z8 : (0 : Int32).toInt = 0 := rfl; omega)), (show (0 : Int32) = (F_DW_goesOutwards x2 x3 x4 t0_0 t0_1 t1_0 t1_1 t2_0) from Eq.trans (by rw [F_DW_goesOutwards_J41.eq_1, if_neg c37, if_pos c40]) hR32)⟩) d_4_18_87
      by_cases c43 : x4 = 2
      ·
        refine q_ti (v := 2) c43 ?_
        refine lv_tableIn (tgt := 88) (off := 44) hx hb d_4_18_44 (by decide) (by decide) (by decide) (by decide) ?_
        refine lv_iload_n hx hb d_4_18_88 rfl (lv_at hl 3 rfl) ?_
        refine lv_if_ne (tgt := 96) hx hb d_4_18_89 (by decide) (fun c45 => ?_) (fun c45 => ?_)
        ·
          refine lv_iconst (v := 0) hx hb d_4_18_96 (by decide) ?_
          exact q_retz C0 V (by decide) (⟨rfl, (show 0 ≤ (0 : Int32).toInt from (by have z8 : (0 : Int32).toInt = 0 := rfl; omega)), (show (0 : Int32).toInt ≤ 1 from (by have z8 : (0 : Int32).toInt = 0 := rfl; omega)), (show (0 : Int32) = (F_DW_goesOutwards x2 x3 x4 t0_0 t0_1 t1_0 t1_1 t2_0) from Eq.trans (by rw [F_DW_goesOutwards_J41.eq_1, if_neg c37, if_neg c40, if_pos c43, if_neg c45]) hR32)⟩) d_4_18_97
        ·
          refine lv_iconst (v := 1) hx hb d_4_18_92 (by decide) ?_
          refine lv_goto (tgt := 97) hx hb d_4_18_93 (by decide) ?_
          exact q_retz C0 V (by decide) (⟨rfl, (show 0 ≤ (1 : Int32).toInt from (by have z8 : (1 : Int32).toInt = 1 := rfl; omega)), (show (1 : Int32).toInt ≤ 1 from (by have z8 : (1 : Int32).toInt = 1 := rfl; omega)), (show (1 : Int32) = (F_DW_goesOutwards x2 x3 x4 t0_0 t0_1 t1_0 t1_1 t2_0) from Eq.trans (by rw [F_DW_goesOutwards_J41.eq_1, if_neg c37, if_neg c40, if_pos c43, if_pos c45]) hR32)⟩) d_4_18_97
      by_cases c49 : x4 = 3
      ·
        refine q_ti (v := 3) c49 ?_
        refine lv_tableIn (tgt := 98) (off := 54) hx hb d_4_18_44 (by decide) (by decide) (by decide) (by decide) ?_
        refine lv_iload_n hx hb d_4_18_98 rfl (lv_at hl 3 rfl) ?_
        exact q_retz C0 V (q_nz01 (q_Ile (x := 0) (y := x3.toInt) (by decide) rfl (by first | with_reducible exact (q_fe hzx3).2 | with_reducible exact (q_fe hzx3).1 | (have t1 : 0 ≤ x3.toInt ∧ x3.toInt ≤ 1 := hzx3; omega))) (q_Ile (x := x3.toInt) (y := 1) rfl (by decide) (by first | with_reducible exact (q_fe hzx3).2 | with_reducible exact (q_fe hzx3).1 | (have t1 : 0 ≤ x3.toInt ∧ x3.toInt ≤ 1 := hzx3; omega)))) (⟨rfl, (show 0 ≤ x3.toInt from (by first | with_reducible exact (q_fe hzx3).2 | with_reducible exact (q_fe hzx3).1 | (have t1 : 0 ≤ x3.toInt ∧ x3.toInt ≤ 1 := hzx3; omega))), (show x3.toInt ≤ 1 from (by first | with_reducible exact (q_fe hzx3).2 | with_reducible exact (q_fe hzx3).1 | (have t1 : 0 ≤ x3.toInt ∧ x3.toInt ≤ 1 := hzx3; omega))), (show x3 = (F_DW_goesOutwards x2 x3 x4 t0_0 t0_1 t1_0 t1_1 t2_0) from Eq.trans (by rw [F_DW_goesOutwards_J41.eq_1, if_neg c37, if_neg c40, if_neg c43, if_pos c49]) hR32)⟩) d_4_18_99
      by_cases c52 : x4 = 4
      ·
        refine q_ti (v := 4) c52 ?_
        refine lv_tableIn (tgt := 100) (off := 56) hx hb d_4_18_44 (by decide) (by decide) (by decide) (by decide) ?_
        refine lv_iload hx hb d_4_18_100 (lv_at hl 1 rfl) ?_
        refine lv_if_ne (tgt := 110) hx hb d_4_18_102 (by decide) (fun c54 => ?_) (fun c54 => ?_)
        ·
          refine lv_iconst (v := 1) hx hb d_4_18_110 (by decide) ?_
          refine lv_goto (tgt := 115) hx hb d_4_18_111 (by decide) ?_
          exact q_retz C0 V (by decide) (⟨rfl, (show 0 ≤ (1 : Int32).toInt from (by have z8 : (1 : Int32).toInt = 1 := rfl; omega)), (show (1 : Int32).toInt ≤ 1 from (by have z8 : (1 : Int32).toInt = 1 := rfl; omega)), (show (1 : Int32) = (F_DW_goesOutwards x2 x3 x4 t0_0 t0_1 t1_0 t1_1 t2_0) from Eq.trans (by rw [F_DW_goesOutwards_J41.eq_1, if_neg c37, if_neg c40, if_neg c43, if_neg c49, if_pos c52, if_neg c54]) hR32)⟩) d_4_18_115
        ·
          refine lv_iload hx hb d_4_18_105 (lv_at hl 0 rfl) ?_
          refine lv_if_eq (tgt := 114) hx hb d_4_18_107 (by decide) (fun c57 => ?_) (fun c57 => ?_)
          ·
            refine lv_iconst (v := 0) hx hb d_4_18_114 (by decide) ?_
            exact q_retz C0 V (by decide) (⟨rfl, (show 0 ≤ (0 : Int32).toInt from (by have z8 : (0 : Int32).toInt = 0 := rfl; omega)), (show (0 : Int32).toInt ≤ 1 from (by have z8 : (0 : Int32).toInt = 0 := rfl; omega)), (show (0 : Int32) = (F_DW_goesOutwards x2 x3 x4 t0_0 t0_1 t1_0 t1_1 t2_0) from Eq.trans (by rw [F_DW_goesOutwards_J41.eq_1, if_neg c37, if_neg c40, if_neg c43, if_neg c49, if_pos c52, if_pos c54, if_pos c57]) hR32)⟩) d_4_18_115
          ·
            refine lv_iconst (v := 1) hx hb d_4_18_110 (by decide) ?_
            refine lv_goto (tgt := 115) hx hb d_4_18_111 (by decide) ?_
            exact q_retz C0 V (by decide) (⟨rfl, (show 0 ≤ (1 : Int32).toInt from (by have z8 : (1 : Int32).toInt = 1 := rfl; omega)), (show (1 : Int32).toInt ≤ 1 from (by have z8 : (1 : Int32).toInt = 1 := rfl; omega)), (show (1 : Int32) = (F_DW_goesOutwards x2 x3 x4 t0_0 t0_1 t1_0 t1_1 t2_0) from Eq.trans (by rw [F_DW_goesOutwards_J41.eq_1, if_neg c37, if_neg c40, if_neg c43, if_neg c49, if_pos c52, if_pos c54, if_neg c57]) hR32)⟩) d_4_18_115
      by_cases c61 : x4 = 5
      ·
        refine q_ti (v := 5) c61 ?_
        refine lv_tableIn (tgt := 116) (off := 72) hx hb d_4_18_44 (by decide) (by decide) (by decide) (by decide) ?_
        refine lv_iload hx hb d_4_18_116 (lv_at hl 1 rfl) ?_
        exact q_retz C0 V (q_nz01 (q_Ile (x := 0) (y := lx13.toInt) (by decide) rfl (by first | with_reducible exact q_fe i18 | (have t1 : 0 ≤ lx13.toInt := i18; omega))) (q_Ile (x := lx13.toInt) (y := 1) rfl (by decide) (by first | with_reducible exact q_fe i19 | (have t1 : lx13.toInt ≤ 1 := i19; omega)))) (⟨rfl, (show 0 ≤ lx13.toInt from (by first | with_reducible exact q_fe i18 | (have t1 : 0 ≤ lx13.toInt := i18; omega))), (show lx13.toInt ≤ 1 from (by first | with_reducible exact q_fe i19 | (have t1 : lx13.toInt ≤ 1 := i19; omega))), (show lx13 = (F_DW_goesOutwards x2 x3 x4 t0_0 t0_1 t1_0 t1_1 t2_0) from Eq.trans (by rw [F_DW_goesOutwards_J41.eq_1, if_neg c37, if_neg c40, if_neg c43, if_neg c49, if_neg c52, if_pos c61]) hR32)⟩) d_4_18_118
      refine lv_tableOut (tgt := 119) hx hb d_4_18_44 (by have z0 : x4.toInt ≠ 0 := q_neI c37; have z1 : x4.toInt ≠ 1 := q_neI c40; have z2 : x4.toInt ≠ 2 := q_neI c43; have z3 : x4.toInt ≠ 3 := q_neI c49; have z4 : x4.toInt ≠ 4 := q_neI c52; have z5 : x4.toInt ≠ 5 := q_neI c61; omega) (by decide) ?_
      refine lv_iload hx hb d_4_18_119 (lv_at hl 1 rfl) ?_
      refine lv_if_ne (tgt := 144) hx hb d_4_18_121 (by decide) (fun c64 => ?_) (fun c64 => ?_)
      ·
        refine lv_iconst (v := 1) hx hb d_4_18_144 (by decide) ?_
        refine lv_goto (tgt := 149) hx hb d_4_18_145 (by decide) ?_
        exact q_retz C0 V (by decide) (⟨rfl, (show 0 ≤ (1 : Int32).toInt from (by have z8 : (1 : Int32).toInt = 1 := rfl; omega)), (show (1 : Int32).toInt ≤ 1 from (by have z8 : (1 : Int32).toInt = 1 := rfl; omega)), (show (1 : Int32) = (F_DW_goesOutwards x2 x3 x4 t0_0 t0_1 t1_0 t1_1 t2_0) from Eq.trans (by rw [F_DW_goesOutwards_J41.eq_1, if_neg c37, if_neg c40, if_neg c43, if_neg c49, if_neg c52, if_neg c61, if_neg c64]) hR32)⟩) d_4_18_149
      ·
        refine lv_iload hx hb d_4_18_124 (lv_at hl 0 rfl) ?_
        refine lv_if_eq (tgt := 148) hx hb d_4_18_126 (by decide) (fun c67 => ?_) (fun c67 => ?_)
        ·
          refine lv_iconst (v := 0) hx hb d_4_18_148 (by decide) ?_
          exact q_retz C0 V (by decide) (⟨rfl, (show 0 ≤ (0 : Int32).toInt from (by have z8 : (0 : Int32).toInt = 0 := rfl; omega)), (show (0 : Int32).toInt ≤ 1 from (by have z8 : (0 : Int32).toInt = 0 := rfl; omega)), (show (0 : Int32) = (F_DW_goesOutwards x2 x3 x4 t0_0 t0_1 t1_0 t1_1 t2_0) from Eq.trans (by rw [F_DW_goesOutwards_J41.eq_1, if_neg c37, if_neg c40, if_neg c43, if_neg c49, if_neg c52, if_neg c61, if_pos c64, if_pos c67]) hR32)⟩) d_4_18_149
        ·
          refine lv_aload_n hx hb d_4_18_129 rfl (lv_at hl 2 rfl) ?_
          refine q_get (ci := 5) (j := 2) (v := .ref (q 9)) C0 V i_DW rfl rfl hT0 (by decide) w_214 rfl d_4_18_130 ?_
          have hO70 := n_o9 hI
          refine q_get (ci := 4) (j := 0) (v := .ref (q 10)) C0 V i_Mil rfl rfl hO70 (by decide) w_111 rfl d_4_18_133 ?_
          refine lv_iconst (v := 0) hx hb d_4_18_136 (by decide) ?_
          refine q_goi V (q_runV (As := [.int 0]) (rest := []) (d := 2) (mc := 0) (ms := 0) (ci := 2) C0 V rfl LV_DW_179 (X_Big_bit l D g q ws 10 220 (n_b10 g q) (by decide) 0 hI t1_0 t1_1 hT1 t2_0 hT2  _) rfl rfl hT1 rfl hl.1 rfl (Nat.le_of_ble_eq_true rfl) ⟨by decide, by decide⟩ ⟨Nat.le_of_ble_eq_true rfl, Nat.le_of_ble_eq_true rfl⟩ d_4_18_137) (fun a73 u71 H locs hp72 V => ?_)
          obtain ⟨rfl, b74, b75, hE76⟩ := hp72
          have e77 : a73 = (F_Big_bit (220 : Int32) (0 : Int32) t1_0 t1_1 t2_0) := hE76
          clear b74
          clear b75
          refine lv_iconst (v := 1) hx hb d_4_18_140 (by decide) ?_
          refine lv_icmp_ne (tgt := 148) hx hb d_4_18_141 (by decide) (fun c78 => ?_) (fun c78 => ?_)
          ·
            refine lv_iconst (v := 0) hx hb d_4_18_148 (by decide) ?_
            exact q_retz C0 V (by decide) (⟨rfl, (show 0 ≤ (0 : Int32).toInt from (by have z8 : (0 : Int32).toInt = 0 := rfl; omega)), (show (0 : Int32).toInt ≤ 1 from (by have z8 : (0 : Int32).toInt = 0 := rfl; omega)), (show (0 : Int32) = (F_DW_goesOutwards x2 x3 x4 t0_0 t0_1 t1_0 t1_1 t2_0) from Eq.trans (by have c78x := c78; rw [e77] at c78x; rw [F_DW_goesOutwards_J41.eq_1, if_neg c37, if_neg c40, if_neg c43, if_neg c49, if_neg c52, if_neg c61, if_pos c64, if_neg c67, if_neg c78x]) hR32)⟩) d_4_18_149
          ·
            refine lv_iconst (v := 1) hx hb d_4_18_144 (by decide) ?_
            refine lv_goto (tgt := 149) hx hb d_4_18_145 (by decide) ?_
            exact q_retz C0 V (by decide) (⟨rfl, (show 0 ≤ (1 : Int32).toInt from (by have z8 : (1 : Int32).toInt = 1 := rfl; omega)), (show (1 : Int32).toInt ≤ 1 from (by have z8 : (1 : Int32).toInt = 1 := rfl; omega)), (show (1 : Int32) = (F_DW_goesOutwards x2 x3 x4 t0_0 t0_1 t1_0 t1_1 t2_0) from Eq.trans (by have c78x := c78; rw [e77] at c78x; rw [F_DW_goesOutwards_J41.eq_1, if_neg c37, if_neg c40, if_neg c43, if_neg c49, if_neg c52, if_neg c61, if_pos c64, if_neg c67, if_pos c78x]) hR32)⟩) d_4_18_149
    ·
      intro J29
      refine q_join (X := Unit) (fun z H locs ls _ => q_Wd D g (va_A ws sz) s ws H locs ∧ lv_has ls 6 [(4, .int lx13), (0, .ref (q 30)), (2, .int x3), (3, .int x4)] ∧ F_DW_goesOutwards_J40 x2 x3 x4 t0_0 t0_1 t1_0 t1_1 t2_0 lx13 = (F_DW_goesOutwards x2 x3 x4 t0_0 t0_1 t1_0 t1_1 t2_0)) (fun z => []) 40 0 0 ?_ ?_
      ·
        rintro _ H locs ls _ ⟨V, hl, hR85⟩
        replace hl : lv_has ls 6 [(4, .int lx13), (0, .ref (q 30)), (2, .int x3), (3, .int x4)] := hl
        refine lv_iconst (v := 0) hx hb d_4_18_40 (by decide) ?_
        exact J29 ((0 : Int32)) _ _ _ ws ⟨(show q_F (0 ≤ 0) from (show 0 ≤ 0 from by omega)), (show q_F (0 ≤ 1) from (show 0 ≤ 1 from by omega)), V, q_lw hl (q_lw1 0 rfl (q_lw1 1 rfl (q_lw1 2 rfl (q_lw1 3 rfl q_lw0)))), (show F_DW_goesOutwards_J41 x2 x3 x4 t0_0 t0_1 t1_0 t1_1 t2_0 lx13 0 = (F_DW_goesOutwards x2 x3 x4 t0_0 t0_1 t1_0 t1_1 t2_0) from Eq.trans (by rw [F_DW_goesOutwards_J40.eq_1]) hR85)⟩
      ·
        intro J84
        refine lv_icmp_ne (tgt := 40) hx hb d_4_18_26 (by decide) (fun c90 => ?_) (fun c90 => ?_)
        ·
          exact J84 (()) _ _ _ ws ⟨V, q_lw hl (q_lw1 0 rfl (q_lw1 1 rfl (q_lw1 3 rfl (q_lw1 4 rfl q_lw0)))), (show F_DW_goesOutwards_J40 x2 x3 x4 t0_0 t0_1 t1_0 t1_1 t2_0 lx13 = (F_DW_goesOutwards x2 x3 x4 t0_0 t0_1 t1_0 t1_1 t2_0) from Eq.trans (by rw [F_DW_goesOutwards_J22.eq_1, if_neg c90]) hR20)⟩
        ·
          refine lv_aload_n hx hb d_4_18_29 rfl (lv_at hl 1 rfl) ?_
          refine q_get (ci := 5) (j := 3) (v := .int t0_1) C0 V i_DW rfl rfl hT0 (by decide) w_215 rfl d_4_18_30 ?_
          refine lv_if_ne (tgt := 40) hx hb d_4_18_33 (by decide) (fun c93 => ?_) (fun c93 => ?_)
          ·
            exact J84 (()) _ _ _ ws ⟨V, q_lw hl (q_lw1 0 rfl (q_lw1 1 rfl (q_lw1 3 rfl (q_lw1 4 rfl q_lw0)))), (show F_DW_goesOutwards_J40 x2 x3 x4 t0_0 t0_1 t1_0 t1_1 t2_0 lx13 = (F_DW_goesOutwards x2 x3 x4 t0_0 t0_1 t1_0 t1_1 t2_0) from Eq.trans (by rw [F_DW_goesOutwards_J22.eq_1, if_pos c90, if_neg c93]) hR20)⟩
          ·
            refine lv_iconst (v := 1) hx hb d_4_18_36 (by decide) ?_
            refine lv_goto (tgt := 41) hx hb d_4_18_37 (by decide) ?_
            exact J29 ((1 : Int32)) _ _ _ ws ⟨(show q_F (0 ≤ 1) from (show 0 ≤ 1 from by omega)), (show q_F (1 ≤ 1) from (show 1 ≤ 1 from by omega)), V, q_lw hl (q_lw1 0 rfl (q_lw1 1 rfl (q_lw1 3 rfl (q_lw1 4 rfl q_lw0)))), (show F_DW_goesOutwards_J41 x2 x3 x4 t0_0 t0_1 t1_0 t1_1 t2_0 lx13 1 = (F_DW_goesOutwards x2 x3 x4 t0_0 t0_1 t1_0 t1_1 t2_0) from Eq.trans (by rw [F_DW_goesOutwards_J22.eq_1, if_pos c90, if_pos c93]) hR20)⟩
  ·
    intro J17
    refine q_join (X := Unit) (fun z H locs ls _ => q_Wd D g (va_A ws sz) s ws H locs ∧ lv_has ls 6 [(0, .ref (q 30)), (1, .int x2), (2, .int x3), (3, .int x4)] ∧ F_DW_goesOutwards_J17 x2 x3 x4 t0_0 t0_1 t1_0 t1_1 t2_0 = (F_DW_goesOutwards x2 x3 x4 t0_0 t0_1 t1_0 t1_1 t2_0)) (fun z => []) 17 0 0 ?_ ?_
    ·
      rintro _ H locs ls _ ⟨V, hl, hR100⟩
      replace hl : lv_has ls 6 [(0, .ref (q 30)), (1, .int x2), (2, .int x3), (3, .int x4)] := hl
      refine lv_iconst (v := 1) hx hb d_4_18_17 (by decide) ?_
      refine lv_goto (tgt := 22) hx hb d_4_18_18 (by decide) ?_
      exact J17 ((1 : Int32)) _ _ _ ws ⟨(show q_F (0 ≤ 1) from (show 0 ≤ 1 from by omega)), (show q_F (1 ≤ 1) from (show 1 ≤ 1 from by omega)), V, q_lw hl (q_lw1 0 rfl (q_lw1 1 rfl (q_lw1 2 rfl (q_lw1 3 rfl q_lw0)))), (show F_DW_goesOutwards_J22 x2 x3 x4 t0_0 t0_1 t1_0 t1_1 t2_0 1 = (F_DW_goesOutwards x2 x3 x4 t0_0 t0_1 t1_0 t1_1 t2_0) from Eq.trans (by rw [F_DW_goesOutwards_J17.eq_1]) hR100)⟩
    ·
      intro J99
      refine lv_icmp_gt (tgt := 17) hx hb d_4_18_2 (by decide) (fun c105 => ?_) (fun c105 => ?_)
      ·
        exact J99 (()) _ _ _ ws ⟨V, q_lw hl (q_lw1 0 rfl (q_lw1 1 rfl (q_lw1 2 rfl (q_lw1 3 rfl q_lw0)))), (show F_DW_goesOutwards_J17 x2 x3 x4 t0_0 t0_1 t1_0 t1_1 t2_0 = (F_DW_goesOutwards x2 x3 x4 t0_0 t0_1 t1_0 t1_1 t2_0) from (by rw [F_DW_goesOutwards.eq_1, if_pos c105]))⟩
      ·
        refine lv_iload_n hx hb d_4_18_5 rfl (lv_at hl 1 rfl) ?_
        refine lv_iconst (v := 5) hx hb d_4_18_6 (by decide) ?_
        refine q_join (X := Unit) (fun z H locs ls _ => q_Wd D g (va_A ws sz) s ws H locs ∧ lv_has ls 6 [(0, .ref (q 30)), (1, .int x2), (2, .int x3), (3, .int x4)] ∧ F_DW_goesOutwards_J21 x2 x3 x4 t0_0 t0_1 t1_0 t1_1 t2_0 = (F_DW_goesOutwards x2 x3 x4 t0_0 t0_1 t1_0 t1_1 t2_0)) (fun z => []) 21 0 0 ?_ ?_
        ·
          rintro _ H locs ls _ ⟨V, hl, hR112⟩
          replace hl : lv_has ls 6 [(0, .ref (q 30)), (1, .int x2), (2, .int x3), (3, .int x4)] := hl
          refine lv_iconst (v := 0) hx hb d_4_18_21 (by decide) ?_
          exact J17 ((0 : Int32)) _ _ _ ws ⟨(show q_F (0 ≤ 0) from (show 0 ≤ 0 from by omega)), (show q_F (0 ≤ 1) from (show 0 ≤ 1 from by omega)), V, q_lw hl (q_lw1 0 rfl (q_lw1 1 rfl (q_lw1 2 rfl (q_lw1 3 rfl q_lw0)))), (show F_DW_goesOutwards_J22 x2 x3 x4 t0_0 t0_1 t1_0 t1_1 t2_0 0 = (F_DW_goesOutwards x2 x3 x4 t0_0 t0_1 t1_0 t1_1 t2_0) from Eq.trans (by rw [F_DW_goesOutwards_J21.eq_1]) hR112)⟩
        ·
          intro J111
          refine lv_icmp_ne (tgt := 21) hx hb d_4_18_7 (by decide) (fun c117 => ?_) (fun c117 => ?_)
          ·
            exact J111 (()) _ _ _ ws ⟨V, q_lw hl (q_lw1 0 rfl (q_lw1 1 rfl (q_lw1 2 rfl (q_lw1 3 rfl q_lw0)))), (show F_DW_goesOutwards_J21 x2 x3 x4 t0_0 t0_1 t1_0 t1_1 t2_0 = (F_DW_goesOutwards x2 x3 x4 t0_0 t0_1 t1_0 t1_1 t2_0) from (by rw [F_DW_goesOutwards.eq_1, if_neg c105, if_neg c117]))⟩
          ·
            refine lv_aload_n hx hb d_4_18_10 rfl (lv_at hl 0 rfl) ?_
            refine q_get (ci := 5) (j := 3) (v := .int t0_1) C0 V i_DW rfl rfl hT0 (by decide) w_215 rfl d_4_18_11 ?_
            refine lv_if_eq (tgt := 21) hx hb d_4_18_14 (by decide) (fun c120 => ?_) (fun c120 => ?_)
            ·
              exact J111 (()) _ _ _ ws ⟨V, q_lw hl (q_lw1 0 rfl (q_lw1 1 rfl (q_lw1 2 rfl (q_lw1 3 rfl q_lw0)))), (show F_DW_goesOutwards_J21 x2 x3 x4 t0_0 t0_1 t1_0 t1_1 t2_0 = (F_DW_goesOutwards x2 x3 x4 t0_0 t0_1 t1_0 t1_1 t2_0) from (by rw [F_DW_goesOutwards.eq_1, if_neg c105, if_pos c117, if_pos c120]))⟩
            ·
              exact J99 (()) _ _ _ ws ⟨V, q_lw hl (q_lw1 0 rfl (q_lw1 1 rfl (q_lw1 2 rfl (q_lw1 3 rfl q_lw0)))), (show F_DW_goesOutwards_J17 x2 x3 x4 t0_0 t0_1 t1_0 t1_1 t2_0 = (F_DW_goesOutwards x2 x3 x4 t0_0 t0_1 t1_0 t1_1 t2_0) from (by rw [F_DW_goesOutwards.eq_1, if_neg c105, if_pos c117, if_neg c120]))⟩
theorem d_4_17_0 : decode prog_4_method_17_code 0 = .ok (.aload_n 0, 1) := by decide +kernel
theorem d_4_17_1 : decode prog_4_method_17_code 1 = .ok (.getfield 20, 3) := by decide +kernel
theorem d_4_17_4 : decode prog_4_method_17_code 4 = .ok (.getfield 55, 3) := by decide +kernel
theorem d_4_17_7 : decode prog_4_method_17_code 7 = .ok (.bipush 10, 2) := by decide +kernel
theorem d_4_17_9 : decode prog_4_method_17_code 9 = .ok (.invokevirtual 169, 3) := by decide +kernel
set_option maxRecDepth 100000 in
theorem w_1451 : (Cond.methodLink "NumberHouse$DecimalWork" (169 : Nat) ({ cls := "NumberHouse$Big", name := "divideSmall", desc := "(I)I" } : MethodName)) ∈ q_tbl := q_of7 11 rfl (by decide +kernel)
theorem LV_DW_169 : q_LV "NumberHouse$DecimalWork" 169 y_Big_divideSmall prog_2_method_27_code 8 (some .int) 1 := ⟨w_1042, w_4, w_1451, w_1040, w_1041, ⟨by decide, by decide, by decide +kernel⟩⟩
theorem d_4_17_12 : decode prog_4_method_17_code 12 = .ok (.istore_n 3, 1) := by decide +kernel
theorem d_4_17_13 : decode prog_4_method_17_code 13 = .ok (.iload_n 3, 1) := by decide +kernel
theorem d_4_17_29 : decode prog_4_method_17_code 29 = .ok (.istore 4, 2) := by decide +kernel
theorem d_4_17_31 : decode prog_4_method_17_code 31 = .ok (.iload 4, 2) := by decide +kernel
theorem d_4_17_44 : decode prog_4_method_17_code 44 = .ok (.iload 4, 2) := by decide +kernel
theorem d_4_17_87 : decode prog_4_method_17_code 87 = .ok (.aload_n 0, 1) := by decide +kernel
theorem d_4_17_88 : decode prog_4_method_17_code 88 = .ok (.getfield 20, 3) := by decide +kernel
theorem d_4_17_91 : decode prog_4_method_17_code 91 = .ok (.getfield 55, 3) := by decide +kernel
theorem d_4_17_94 : decode prog_4_method_17_code 94 = .ok (.iload_n 1, 1) := by decide +kernel
theorem d_4_17_95 : decode prog_4_method_17_code 95 = .ok (.ifCond .eq 20, 3) := by decide +kernel
theorem d_4_17_115 : decode prog_4_method_17_code 115 = .ok (.iconst 0, 1) := by decide +kernel
theorem d_4_17_116 : decode prog_4_method_17_code 116 = .ok (.putfield 112, 3) := by decide +kernel
theorem d_4_17_119 : decode prog_4_method_17_code 119 = .ok (.iconst 1, 1) := by decide +kernel
theorem d_4_17_120 : decode prog_4_method_17_code 120 = .ok (.ireturn, 1) := by decide +kernel
theorem d_4_17_98 : decode prog_4_method_17_code 98 = .ok (.aload_n 0, 1) := by decide +kernel
theorem d_4_17_99 : decode prog_4_method_17_code 99 = .ok (.getfield 20, 3) := by decide +kernel
theorem d_4_17_102 : decode prog_4_method_17_code 102 = .ok (.getfield 55, 3) := by decide +kernel
theorem d_4_17_105 : decode prog_4_method_17_code 105 = .ok (.getfield 63, 3) := by decide +kernel
theorem d_4_17_108 : decode prog_4_method_17_code 108 = .ok (.ifCond .le 7, 3) := by decide +kernel
theorem d_4_17_111 : decode prog_4_method_17_code 111 = .ok (.iconst 1, 1) := by decide +kernel
theorem d_4_17_112 : decode prog_4_method_17_code 112 = .ok (.goto 4, 3) := by decide +kernel
theorem d_4_17_46 : decode prog_4_method_17_code 46 = .ok (.ifCond .eq 41, 3) := by decide +kernel
theorem d_4_17_49 : decode prog_4_method_17_code 49 = .ok (.aload_n 0, 1) := by decide +kernel
theorem d_4_17_50 : decode prog_4_method_17_code 50 = .ok (.iload_n 3, 1) := by decide +kernel
theorem d_4_17_51 : decode prog_4_method_17_code 51 = .ok (.iload_n 1, 1) := by decide +kernel
theorem d_4_17_52 : decode prog_4_method_17_code 52 = .ok (.iload_n 2, 1) := by decide +kernel
theorem d_4_17_53 : decode prog_4_method_17_code 53 = .ok (.invokevirtual 172, 3) := by decide +kernel
set_option maxRecDepth 100000 in
theorem w_1455 : (Cond.code ({ cls := "NumberHouse$DecimalWork", name := "goesOutwards", desc := "(IZI)Z" } : MethodName) prog_4_method_18_code (6 : Nat) (some .boolean)) ∈ q_tbl := q_of7 15 rfl (by decide +kernel)
set_option maxRecDepth 100000 in
theorem w_1452 : (Cond.methodLink "NumberHouse$DecimalWork" (172 : Nat) ({ cls := "NumberHouse$DecimalWork", name := "goesOutwards", desc := "(IZI)Z" } : MethodName)) ∈ q_tbl := q_of7 12 rfl (by decide +kernel)
set_option maxRecDepth 100000 in
theorem w_1454 : (Cond.instanceMethod ({ cls := "NumberHouse$DecimalWork", name := "goesOutwards", desc := "(IZI)Z" } : MethodName)) ∈ q_tbl := q_of7 14 rfl (by decide +kernel)
theorem ws_31 : Cond.selects "NumberHouse$DecimalWork" (⟨"NumberHouse$DecimalWork", "goesOutwards", "(IZI)Z"⟩ : MethodName) (⟨"NumberHouse$DecimalWork", "goesOutwards", "(IZI)Z"⟩ : MethodName) ∈ q_tbl := q_ofs 31 (by decide +kernel) (by decide +kernel)
theorem LV_DW_172 : q_LV "NumberHouse$DecimalWork" 172 y_DW_goesOutwards prog_4_method_18_code 6 (some .boolean) 3 := ⟨w_1455, w_5, w_1452, w_1454, ws_31, ⟨by decide, by decide, by decide +kernel⟩⟩
theorem d_4_17_56 : decode prog_4_method_17_code 56 = .ok (.ifCond .eq 31, 3) := by decide +kernel
theorem d_4_17_59 : decode prog_4_method_17_code 59 = .ok (.aload_n 0, 1) := by decide +kernel
theorem d_4_17_60 : decode prog_4_method_17_code 60 = .ok (.getfield 20, 3) := by decide +kernel
theorem d_4_17_63 : decode prog_4_method_17_code 63 = .ok (.getfield 72, 3) := by decide +kernel
theorem d_4_17_66 : decode prog_4_method_17_code 66 = .ok (.lconst 1, 1) := by decide +kernel
theorem d_4_17_67 : decode prog_4_method_17_code 67 = .ok (.invokevirtual 28, 3) := by decide +kernel
theorem d_4_17_70 : decode prog_4_method_17_code 70 = .ok (.aload_n 0, 1) := by decide +kernel
theorem d_4_17_71 : decode prog_4_method_17_code 71 = .ok (.getfield 20, 3) := by decide +kernel
theorem d_4_17_74 : decode prog_4_method_17_code 74 = .ok (.getfield 55, 3) := by decide +kernel
theorem d_4_17_77 : decode prog_4_method_17_code 77 = .ok (.aload_n 0, 1) := by decide +kernel
theorem d_4_17_78 : decode prog_4_method_17_code 78 = .ok (.getfield 20, 3) := by decide +kernel
theorem d_4_17_81 : decode prog_4_method_17_code 81 = .ok (.getfield 72, 3) := by decide +kernel
theorem d_4_17_84 : decode prog_4_method_17_code 84 = .ok (.invokevirtual 176, 3) := by decide +kernel
set_option maxRecDepth 100000 in
theorem w_1457 : (Cond.methodLink "NumberHouse$DecimalWork" (176 : Nat) ({ cls := "NumberHouse$Big", name := "addSize", desc := "(LNumberHouse$Big;)V" } : MethodName)) ∈ q_tbl := q_of7 17 rfl (by decide +kernel)
theorem LV_DW_176 : q_LV "NumberHouse$DecimalWork" 176 y_Big_addSize prog_2_method_23_code 6 none 1 := ⟨w_1206, w_4, w_1457, w_1204, w_1205, ⟨by decide, by decide, by decide +kernel⟩⟩
theorem d_4_17_33 : decode prog_4_method_17_code 33 = .ok (.ifCond .eq 11, 3) := by decide +kernel
theorem d_4_17_36 : decode prog_4_method_17_code 36 = .ok (.iload_n 2, 1) := by decide +kernel
theorem d_4_17_37 : decode prog_4_method_17_code 37 = .ok (.bipush 7, 2) := by decide +kernel
theorem d_4_17_39 : decode prog_4_method_17_code 39 = .ok (.if_icmp .ne 5, 3) := by decide +kernel
theorem d_4_17_42 : decode prog_4_method_17_code 42 = .ok (.iconst 0, 1) := by decide +kernel
theorem d_4_17_43 : decode prog_4_method_17_code 43 = .ok (.ireturn, 1) := by decide +kernel
theorem d_4_17_24 : decode prog_4_method_17_code 24 = .ok (.iconst 1, 1) := by decide +kernel
theorem d_4_17_25 : decode prog_4_method_17_code 25 = .ok (.goto 4, 3) := by decide +kernel
theorem d_4_17_14 : decode prog_4_method_17_code 14 = .ok (.ifCond .ne 10, 3) := by decide +kernel
theorem d_4_17_17 : decode prog_4_method_17_code 17 = .ok (.aload_n 0, 1) := by decide +kernel
theorem d_4_17_18 : decode prog_4_method_17_code 18 = .ok (.getfield 146, 3) := by decide +kernel
theorem d_4_17_21 : decode prog_4_method_17_code 21 = .ok (.ifCond .eq 7, 3) := by decide +kernel
theorem d_4_17_28 : decode prog_4_method_17_code 28 = .ok (.iconst 0, 1) := by decide +kernel
def y_DW_roundLast : MethodName := ⟨"NumberHouse$DecimalWork", "roundLast", "(ZI)Z"⟩
def F_DW_roundLast_J87 (x2 : Int32) (x3 : Int32) (t0_0 : Int64) (t0_1 : Int32) (t1_0 : Int32) (t1_1 : Int32) (t2_0 : (Nat → Int32)) (t3_0 : Int32) (t3_1 : Int32) (t4_0 : (Nat → Int32)) (p36 : (Int32 × Int32 × Int32 × (Nat → Int32))) (a24 : Int32) (y26 : Int32) (y27 : Int32) (f28 : (Nat → Int32)) (lx47 : Int32) (lx72 : Int32) (lx73 : Int32) (lx74 : (Nat → Int32)) (lx75 : Int32) (lx76 : Int32) (lx77 : (Nat → Int32)) : Int32 × Int32 × Int32 × (Nat → Int32) × Int32 × Int32 × (Nat → Int32) := if x2 = (0 : Int32) then (((1 : Int32), lx72, (0 : Int32), lx74, lx75, lx76, lx77)) else (if lx72 ≤ (0 : Int32) then (((1 : Int32), lx72, (0 : Int32), lx74, lx75, lx76, lx77)) else (((1 : Int32), lx72, (1 : Int32), lx74, lx75, lx76, lx77)))
def F_DW_roundLast_c84 (x2 : Int32) (x3 : Int32) (t0_0 : Int64) (t0_1 : Int32) (t1_0 : Int32) (t1_1 : Int32) (t2_0 : (Nat → Int32)) (t3_0 : Int32) (t3_1 : Int32) (t4_0 : (Nat → Int32)) (p36 : (Int32 × Int32 × Int32 × (Nat → Int32))) (a24 : Int32) (y26 : Int32) (y27 : Int32) (f28 : (Nat → Int32)) (lx47 : Int32) (p144 : (Int32 × Int32 × (Nat → Int32))) (y133 : Int32) (y134 : Int32) (f135 : (Nat → Int32)) (p167 : (Int32 × Int32 × (Nat → Int32))) : Int32 × Int32 × Int32 × (Nat → Int32) × Int32 × Int32 × (Nat → Int32) := F_DW_roundLast_J87 x2 x3 t0_0 t0_1 t1_0 t1_1 t2_0 t3_0 t3_1 t4_0 p36 a24 y26 y27 f28 lx47 (p167.1 : Int32) (p167.2.1 : Int32) (p167.2.2 : (Nat → Int32)) y133 y134 f135
def F_DW_roundLast_c67 (x2 : Int32) (x3 : Int32) (t0_0 : Int64) (t0_1 : Int32) (t1_0 : Int32) (t1_1 : Int32) (t2_0 : (Nat → Int32)) (t3_0 : Int32) (t3_1 : Int32) (t4_0 : (Nat → Int32)) (p36 : (Int32 × Int32 × Int32 × (Nat → Int32))) (a24 : Int32) (y26 : Int32) (y27 : Int32) (f28 : (Nat → Int32)) (lx47 : Int32) (p144 : (Int32 × Int32 × (Nat → Int32))) : Int32 × Int32 × Int32 × (Nat → Int32) × Int32 × Int32 × (Nat → Int32) := F_DW_roundLast_c84 x2 x3 t0_0 t0_1 t1_0 t1_1 t2_0 t3_0 t3_1 t4_0 p36 a24 y26 y27 f28 lx47 p144 (p144.1 : Int32) (p144.2.1 : Int32) (p144.2.2 : (Nat → Int32)) ((F_Big_addSize (220 : Int32) (220 : Int32) y26 y27 f28 (p144.1 : Int32) (p144.2.1 : Int32) (p144.2.2 : (Nat → Int32))) : (Int32 × Int32 × (Nat → Int32)))
def F_DW_roundLast_J44 (x2 : Int32) (x3 : Int32) (t0_0 : Int64) (t0_1 : Int32) (t1_0 : Int32) (t1_1 : Int32) (t2_0 : (Nat → Int32)) (t3_0 : Int32) (t3_1 : Int32) (t4_0 : (Nat → Int32)) (p36 : (Int32 × Int32 × Int32 × (Nat → Int32))) (a24 : Int32) (y26 : Int32) (y27 : Int32) (f28 : (Nat → Int32)) (lx47 : Int32) : Int32 × Int32 × Int32 × (Nat → Int32) × Int32 × Int32 × (Nat → Int32) := if lx47 = (0 : Int32) then (F_DW_roundLast_J87 x2 x3 t0_0 t0_1 t1_0 t1_1 t2_0 t3_0 t3_1 t4_0 p36 a24 y26 y27 f28 lx47 y26 y27 f28 t3_0 t3_1 t4_0) else (if ((F_DW_goesOutwards a24 x2 x3 t0_0 t0_1 y26 y27 f28) : Int32) = (0 : Int32) then (F_DW_roundLast_J87 x2 x3 t0_0 t0_1 t1_0 t1_1 t2_0 t3_0 t3_1 t4_0 p36 a24 y26 y27 f28 lx47 y26 y27 f28 t3_0 t3_1 t4_0) else (F_DW_roundLast_c67 x2 x3 t0_0 t0_1 t1_0 t1_1 t2_0 t3_0 t3_1 t4_0 p36 a24 y26 y27 f28 lx47 ((F_Big_setLong (220 : Int32) (1 : Int64) t3_0 t3_1 t4_0) : (Int32 × Int32 × (Nat → Int32)))))
def F_DW_roundLast_J29 (x2 : Int32) (x3 : Int32) (t0_0 : Int64) (t0_1 : Int32) (t1_0 : Int32) (t1_1 : Int32) (t2_0 : (Nat → Int32)) (t3_0 : Int32) (t3_1 : Int32) (t4_0 : (Nat → Int32)) (p36 : (Int32 × Int32 × Int32 × (Nat → Int32))) (a24 : Int32) (y26 : Int32) (y27 : Int32) (f28 : (Nat → Int32)) (lx47 : Int32) : Int32 × Int32 × Int32 × (Nat → Int32) × Int32 × Int32 × (Nat → Int32) := if lx47 = (0 : Int32) then (F_DW_roundLast_J44 x2 x3 t0_0 t0_1 t1_0 t1_1 t2_0 t3_0 t3_1 t4_0 p36 a24 y26 y27 f28 lx47) else (if x3 = (7 : Int32) then (((0 : Int32), y26, y27, f28, t3_0, t3_1, t4_0)) else (F_DW_roundLast_J44 x2 x3 t0_0 t0_1 t1_0 t1_1 t2_0 t3_0 t3_1 t4_0 p36 a24 y26 y27 f28 lx47))
def F_DW_roundLast_J24 (x2 : Int32) (x3 : Int32) (t0_0 : Int64) (t0_1 : Int32) (t1_0 : Int32) (t1_1 : Int32) (t2_0 : (Nat → Int32)) (t3_0 : Int32) (t3_1 : Int32) (t4_0 : (Nat → Int32)) (p36 : (Int32 × Int32 × Int32 × (Nat → Int32))) (a24 : Int32) (y26 : Int32) (y27 : Int32) (f28 : (Nat → Int32)) : Int32 × Int32 × Int32 × (Nat → Int32) × Int32 × Int32 × (Nat → Int32) := F_DW_roundLast_J29 x2 x3 t0_0 t0_1 t1_0 t1_1 t2_0 t3_0 t3_1 t4_0 p36 a24 y26 y27 f28 1
def F_DW_roundLast_c9 (x2 : Int32) (x3 : Int32) (t0_0 : Int64) (t0_1 : Int32) (t1_0 : Int32) (t1_1 : Int32) (t2_0 : (Nat → Int32)) (t3_0 : Int32) (t3_1 : Int32) (t4_0 : (Nat → Int32)) (p36 : (Int32 × Int32 × Int32 × (Nat → Int32))) : Int32 × Int32 × Int32 × (Nat → Int32) × Int32 × Int32 × (Nat → Int32) := if (p36.1 : Int32) = (0 : Int32) then (if t0_1 = (0 : Int32) then (F_DW_roundLast_J29 x2 x3 t0_0 t0_1 t1_0 t1_1 t2_0 t3_0 t3_1 t4_0 p36 (p36.1 : Int32) (p36.2.1 : Int32) (p36.2.2.1 : Int32) (p36.2.2.2 : (Nat → Int32)) 0) else (F_DW_roundLast_J24 x2 x3 t0_0 t0_1 t1_0 t1_1 t2_0 t3_0 t3_1 t4_0 p36 (p36.1 : Int32) (p36.2.1 : Int32) (p36.2.2.1 : Int32) (p36.2.2.2 : (Nat → Int32)))) else (F_DW_roundLast_J24 x2 x3 t0_0 t0_1 t1_0 t1_1 t2_0 t3_0 t3_1 t4_0 p36 (p36.1 : Int32) (p36.2.1 : Int32) (p36.2.2.1 : Int32) (p36.2.2.2 : (Nat → Int32)))
def F_DW_roundLast (x2 : Int32) (x3 : Int32) (t0_0 : Int64) (t0_1 : Int32) (t1_0 : Int32) (t1_1 : Int32) (t2_0 : (Nat → Int32)) (t3_0 : Int32) (t3_1 : Int32) (t4_0 : (Nat → Int32)) : Int32 × Int32 × Int32 × (Nat → Int32) × Int32 × Int32 × (Nat → Int32) := F_DW_roundLast_c9 x2 x3 t0_0 t0_1 t1_0 t1_1 t2_0 t3_0 t3_1 t4_0 ((F_Big_divideSmall (220 : Int32) (10 : Int32) t1_0 t1_1 t2_0) : (Int32 × Int32 × Int32 × (Nat → Int32)))
set_option maxRecDepth 100000 in
set_option maxHeartbeats 4000000 in
theorem X_DW_roundLast (l : Launch) (D : va_G) (g : Nat → ClassId) (q : Nat → Nat) (ws : va_W) (x2 : Int32) (x3 : Int32) (hI : q_I (nsh g q) q ws) (t0_0 : Int64) (t0_1 : Int32) (hT0 : ws[30]? = (some (q 30, .inr (5, [.ref (q 31), .long t0_0, .ref (q 9), .int t0_1])) : Option (Nat × va_E))) (t1_0 : Int32) (t1_1 : Int32) (hT1 : ws[10]? = (some (q 10, .inr (2, [.ref (q 11), .int t1_0, .int t1_1])) : Option (Nat × va_E))) (t2_0 : (Nat → Int32)) (hT2 : ws[11]? = (some (q 11, .inl (g 0, (220 : Int32).toNatClampNeg, .inl t2_0)) : Option (Nat × va_E))) (t3_0 : Int32) (t3_1 : Int32) (hT3 : ws[22]? = (some (q 22, .inr (2, [.ref (q 23), .int t3_0, .int t3_1])) : Option (Nat × va_E))) (t4_0 : (Nat → Int32)) (hT4 : ws[23]? = (some (q 23, .inl (g 0, (220 : Int32).toNatClampNeg, .inl t4_0)) : Option (Nat × va_E))) (hzx2 : 0 ≤ x2.toInt ∧ x2.toInt ≤ 1) : q_mI l y_DW_roundLast prog_4_method_17_code 5 (.boolean) 4 0 0 D g [.ref (q 30), .int x2, .int x3] ws (fun r u => q_I (nsh g q) q u ∧ q_un ws u [10, 11, 22, 23] ∧ ∃ (u1_0 : Int32) (u1_1 : Int32) (u2_0 : (Nat → Int32)) (u3_0 : Int32) (u3_1 : Int32) (u4_0 : (Nat → Int32)), u[10]? = (some (q 10, .inr (2, [.ref (q 11), .int u1_0, .int u1_1])) : Option (Nat × va_E)) ∧ u[11]? = (some (q 11, .inl (g 0, (220 : Int32).toNatClampNeg, .inl u2_0)) : Option (Nat × va_E)) ∧ u[22]? = (some (q 22, .inr (2, [.ref (q 23), .int u3_0, .int u3_1])) : Option (Nat × va_E)) ∧ u[23]? = (some (q 23, .inl (g 0, (220 : Int32).toNatClampNeg, .inl u4_0)) : Option (Nat × va_E)) ∧ (0 ≤ r.toInt) ∧ (r.toInt ≤ 1) ∧ (u1_0.toInt ≤ 220) ∧ (0 ≤ u1_1.toInt) ∧ (u1_1.toInt ≤ 1) ∧ (0 ≤ u3_0.toInt) ∧ (u3_0.toInt ≤ 220) ∧ (0 ≤ u3_1.toInt) ∧ (u3_1.toInt ≤ 1) ∧ (u3_0.toInt ≤ t3_0.toInt + 3) ∧ (u1_1.toInt ≤ u1_0.toInt) ∧ (r, u1_0, u1_1, u2_0, u3_0, u3_1, u4_0) = (F_DW_roundLast x2 x3 t0_0 t0_1 t1_0 t1_1 t2_0 t3_0 t3_1 t4_0)) := by
  intro sz
  refine q_into (by decide) (Nat.le_of_ble_eq_true rfl) ?_
  intro p e s m below meth c ls hsz C0 V hl
  have hx := C0.1
  have hb := C0.2.1
  replace hzx2 : q_F (0 ≤ x2.toInt ∧ x2.toInt ≤ 1) := hzx2
  have btt0_1 := n_w30 hI hT0
  replace btt0_1 : q_F (0 ≤ t0_1.toInt ∧ t0_1.toInt ≤ 1) := btt0_1
  obtain ⟨btt1_0, btt1_1⟩ := q_bigW hI (n_b10 g q) hT1
  replace btt1_0 : q_F (0 ≤ t1_0.toInt ∧ t1_0.toInt ≤ 220) := btt1_0
  replace btt1_1 : q_F (0 ≤ t1_1.toInt ∧ t1_1.toInt ≤ 1) := btt1_1
  obtain ⟨btt3_0, btt3_1⟩ := q_bigW hI (n_b22 g q) hT3
  replace btt3_0 : q_F (0 ≤ t3_0.toInt ∧ t3_0.toInt ≤ 220) := btt3_0
  replace btt3_1 : q_F (0 ≤ t3_1.toInt ∧ t3_1.toInt ≤ 1) := btt3_1
  have hF : q_un ws ws [10, 11, 22, 23] := q_u0
  have hl : lv_has ls 5 [(0, .ref (q 30)), (1, .int x2), (2, .int x3)] := hl
  refine lv_aload_n hx hb d_4_17_0 rfl (lv_at hl 0 rfl) ?_
  refine q_get (ci := 5) (j := 2) (v := .ref (q 9)) C0 V i_DW rfl rfl hT0 (by decide) w_214 rfl d_4_17_1 ?_
  have hO21 := n_o9 hI
  refine q_get (ci := 4) (j := 0) (v := .ref (q 10)) C0 V i_Mil rfl rfl hO21 (by decide) w_111 rfl d_4_17_4 ?_
  refine lv_bipush (v := 10) hx hb d_4_17_7 (by decide) ?_
  refine q_goi V (q_runV (As := [.int 10]) (rest := []) (d := 2) (mc := 0) (ms := 0) (ci := 2) C0 V rfl LV_DW_169 (X_Big_divideSmall l D g q ws 10 220 (n_b10 g q) (by decide) 10 hI t1_0 t1_1 hT1 t2_0 hT2  _) rfl rfl hT1 rfl hl.1 rfl (Nat.le_of_ble_eq_true rfl) ⟨by decide, by decide⟩ ⟨Nat.le_of_ble_eq_true rfl, Nat.le_of_ble_eq_true rfl⟩ d_4_17_9) (fun a24 u22 H locs hp23 V => ?_)
  obtain ⟨hI, hZ9⟩ := hp23
  obtain ⟨hu35, hZ9⟩ := hZ9
  obtain ⟨y26, hZ9⟩ := hZ9
  obtain ⟨y27, hZ9⟩ := hZ9
  obtain ⟨f28, hZ9⟩ := hZ9
  obtain ⟨hO25, hZ9⟩ := hZ9
  obtain ⟨hA29, hZ9⟩ := hZ9
  obtain ⟨b30, hZ9⟩ := hZ9
  obtain ⟨b31, hZ9⟩ := hZ9
  obtain ⟨b32, hZ9⟩ := hZ9
  obtain ⟨b33, hE34⟩ := hZ9
  replace hO25 : u22[10]? = (some (q 10, .inr (2, [.ref (q 11), .int y26, .int y27])) : Option (Nat × va_E)) := hO25
  replace hA29 : u22[11]? = (some (q 11, .inl (g 0, (220 : Int32).toNatClampNeg, .inl f28)) : Option (Nat × va_E)) := hA29
  obtain ⟨p36, e37⟩ : ∃ z, z = (F_Big_divideSmall (220 : Int32) (10 : Int32) t1_0 t1_1 t2_0) := ⟨_, rfl⟩
  have e38 : a24 = p36.1 := congrArg (fun z => z.1) (hE34.trans e37.symm)
  have e39 : y26 = p36.2.1 := congrArg (fun z => z.2.1) (hE34.trans e37.symm)
  have e40 : y27 = p36.2.2.1 := congrArg (fun z => z.2.2.1) (hE34.trans e37.symm)
  have e41 : f28 = p36.2.2.2 := congrArg (fun z => z.2.2.2) (hE34.trans e37.symm)
  replace b30 : q_F (0 ≤ y27.toInt) := b30
  replace b31 : q_F (y26.toInt ≤ t1_0.toInt) := b31
  replace b32 : q_F (y27.toInt ≤ t1_1.toInt) := b32
  replace b33 : q_F (y27.toInt ≤ y26.toInt) := b33
  replace hT0 := (hu35 _ (by decide)).trans hT0
  replace hT3 := (hu35 _ (by decide)).trans hT3
  replace hT4 := (hu35 _ (by decide)).trans hT4
  replace hO21 := (hu35 _ (by decide)).trans hO21
  replace hF := q_uc hF hu35 (by first | exact (q_sk (q_mi 0 rfl) (q_sk (q_mi 1 rfl) q_s0)) | simp)
  have hR42 := (show F_DW_roundLast_c9 x2 x3 t0_0 t0_1 t1_0 t1_1 t2_0 t3_0 t3_1 t4_0 p36 = (F_DW_roundLast x2 x3 t0_0 t0_1 t1_0 t1_1 t2_0 t3_0 t3_1 t4_0) from (by rw [e37, F_DW_roundLast.eq_1]))
  refine lv_istore_n (lv' := [(3, .int a24), (0, .ref (q 30)), (1, .int x2), (2, .int x3)]) hx hb d_4_17_12 rfl hl (by decide) rfl (fun ls hl => ?_)
  refine lv_iload_n hx hb d_4_17_13 rfl (lv_at hl 0 rfl) ?_
  refine q_join (X := Int32) (fun z H locs ls _ => q_F (z.toInt ≤ 1) ∧ q_F (t0_1.toInt ≤ z.toInt) ∧ q_Wd D g (va_A ws sz) s u22 H locs ∧ lv_has ls 5 [(3, .int a24), (0, .ref (q 30)), (1, .int x2), (2, .int x3)] ∧ F_DW_roundLast_J29 x2 x3 t0_0 t0_1 t1_0 t1_1 t2_0 t3_0 t3_1 t4_0 p36 a24 y26 y27 f28 z = (F_DW_roundLast x2 x3 t0_0 t0_1 t1_0 t1_1 t2_0 t3_0 t3_1 t4_0)) (fun z => [.int z]) 29 0 0 ?_ ?_
  ·
    rintro lx47 H locs ls _ ⟨i54, i55, V, hl, hR56⟩
    clear i54
    clear i55
    replace hl : lv_has ls 5 [(3, .int a24), (0, .ref (q 30)), (1, .int x2), (2, .int x3)] := hl
    refine lv_istore (lv' := [(4, .int lx47), (3, .int a24), (0, .ref (q 30)), (1, .int x2), (2, .int x3)]) hx hb d_4_17_29 hl (by decide) rfl (fun ls hl => ?_)
    refine lv_iload hx hb d_4_17_31 (lv_at hl 0 rfl) ?_
    refine q_join (X := Unit) (fun z H locs ls _ => q_Wd D g (va_A ws sz) s u22 H locs ∧ lv_has ls 5 [(4, .int lx47), (3, .int a24), (0, .ref (q 30)), (1, .int x2), (2, .int x3)] ∧ F_DW_roundLast_J44 x2 x3 t0_0 t0_1 t1_0 t1_1 t2_0 t3_0 t3_1 t4_0 p36 a24 y26 y27 f28 lx47 = (F_DW_roundLast x2 x3 t0_0 t0_1 t1_0 t1_1 t2_0 t3_0 t3_1 t4_0)) (fun z => []) 44 0 0 ?_ ?_
    ·
      rintro _ H locs ls _ ⟨V, hl, hR67⟩
      replace hl : lv_has ls 5 [(4, .int lx47), (3, .int a24), (0, .ref (q 30)), (1, .int x2), (2, .int x3)] := hl
      refine lv_iload hx hb d_4_17_44 (lv_at hl 0 rfl) ?_
      refine q_join (X := Int32 × Int32 × (Nat → Int32) × Int32 × Int32 × (Nat → Int32)) (fun z H locs ls w98 => q_F (y26.toInt ≤ z.1.toInt) ∧ q_F (y27.toInt ≤ z.2.1.toInt) ∧ q_F (z.2.1.toInt ≤ y27.toInt) ∧ q_F (z.2.2.2.1.toInt ≤ t3_0.toInt + 3) ∧ q_F (z.1.toInt ≤ z.2.2.2.2.1.toInt + 220) ∧ q_F (z.1.toInt + z.2.2.2.2.1.toInt ≤ 221) ∧ q_F (z.2.2.2.2.1.toInt ≤ z.2.1.toInt + 1) ∧ q_F (z.2.1.toInt ≤ z.2.2.2.2.1.toInt + 1) ∧ q_F (0 ≤ z.2.1.toInt + z.2.2.2.2.1.toInt) ∧ q_F (z.2.1.toInt + z.2.2.2.2.1.toInt ≤ 2) ∧ q_F (z.2.2.2.2.1.toInt ≤ z.2.2.2.1.toInt + 1) ∧ q_F (z.2.2.2.1.toInt ≤ z.2.2.2.2.1.toInt + 220) ∧ q_F (0 ≤ z.2.2.2.1.toInt + z.2.2.2.2.1.toInt) ∧ q_F (z.2.2.2.1.toInt + z.2.2.2.2.1.toInt ≤ 221) ∧ q_Wd D g (va_A ws sz) s w98 H locs ∧ lv_has ls 5 [(0, .ref (q 30)), (1, .int x2)] ∧ q_I (nsh g q) q w98 ∧ q_un ws w98 [10, 11, 22, 23] ∧ w98[30]? = (some (q 30, .inr (5, [.ref (q 31), .long t0_0, .ref (q 9), .int t0_1])) : Option (Nat × va_E)) ∧ w98[10]? = (some (q 10, .inr (2, [.ref (q 11), .int z.1, .int z.2.1])) : Option (Nat × va_E)) ∧ w98[11]? = (some (q 11, .inl (g 0, (220 : Int32).toNatClampNeg, .inl z.2.2.1)) : Option (Nat × va_E)) ∧ w98[22]? = (some (q 22, .inr (2, [.ref (q 23), .int z.2.2.2.1, .int z.2.2.2.2.1])) : Option (Nat × va_E)) ∧ w98[23]? = (some (q 23, .inl (g 0, (220 : Int32).toNatClampNeg, .inl z.2.2.2.2.2)) : Option (Nat × va_E)) ∧ F_DW_roundLast_J87 x2 x3 t0_0 t0_1 t1_0 t1_1 t2_0 t3_0 t3_1 t4_0 p36 a24 y26 y27 f28 lx47 z.1 z.2.1 z.2.2.1 z.2.2.2.1 z.2.2.2.2.1 z.2.2.2.2.2 = (F_DW_roundLast x2 x3 t0_0 t0_1 t1_0 t1_1 t2_0 t3_0 t3_1 t4_0)) (fun z => []) 87 0 0 ?_ ?_
      ·
        rintro ⟨lx72, lx73, lx74, lx75, lx76, lx77⟩ H locs ls w98 ⟨i84, i85, i86, i87, i88, i89, i90, i91, i92, i93, i94, i95, i96, i97, V, hl, hI, hF, hO78, hO79, hA80, hO81, hA82, hR99⟩
        replace i84 : q_F (y26.toInt ≤ lx72.toInt) := i84
        clear i85
        clear i86
        replace i87 : q_F (lx75.toInt ≤ t3_0.toInt + 3) := i87
        replace i88 : q_F (lx72.toInt ≤ lx76.toInt + 220) := i88
        replace i89 : q_F (lx72.toInt + lx76.toInt ≤ 221) := i89
        replace i90 : q_F (lx76.toInt ≤ lx73.toInt + 1) := i90
        replace i91 : q_F (lx73.toInt ≤ lx76.toInt + 1) := i91
        replace i92 : q_F (0 ≤ lx73.toInt + lx76.toInt) := i92
        replace i93 : q_F (lx73.toInt + lx76.toInt ≤ 2) := i93
        replace i94 : q_F (lx76.toInt ≤ lx75.toInt + 1) := i94
        replace i95 : q_F (lx75.toInt ≤ lx76.toInt + 220) := i95
        replace i96 : q_F (0 ≤ lx75.toInt + lx76.toInt) := i96
        replace i97 : q_F (lx75.toInt + lx76.toInt ≤ 221) := i97
        replace hl : lv_has ls 5 [(0, .ref (q 30)), (1, .int x2)] := hl
        replace hO78 : w98[30]? = (some (q 30, .inr (5, [.ref (q 31), .long t0_0, .ref (q 9), .int t0_1])) : Option (Nat × va_E)) := hO78
        replace hO79 : w98[10]? = (some (q 10, .inr (2, [.ref (q 11), .int lx72, .int lx73])) : Option (Nat × va_E)) := hO79
        replace hA80 : w98[11]? = (some (q 11, .inl (g 0, (220 : Int32).toNatClampNeg, .inl lx74)) : Option (Nat × va_E)) := hA80
        replace hO81 : w98[22]? = (some (q 22, .inr (2, [.ref (q 23), .int lx75, .int lx76])) : Option (Nat × va_E)) := hO81
        replace hA82 : w98[23]? = (some (q 23, .inl (g 0, (220 : Int32).toNatClampNeg, .inl lx77)) : Option (Nat × va_E)) := hA82
        refine lv_aload_n hx hb d_4_17_87 rfl (lv_at hl 0 rfl) ?_
        refine q_get (ci := 5) (j := 2) (v := .ref (q 9)) C0 V i_DW rfl rfl hO78 (by decide) w_214 rfl d_4_17_88 ?_
        have hO104 := n_o9 hI
        refine q_get (ci := 4) (j := 0) (v := .ref (q 10)) C0 V i_Mil rfl rfl hO104 (by decide) w_111 rfl d_4_17_91 ?_
        refine lv_iload_n hx hb d_4_17_94 rfl (lv_at hl 1 rfl) ?_
        refine lv_if_eq (tgt := 115) hx hb d_4_17_95 (by decide) (fun c105 => ?_) (fun c105 => ?_)
        ·
          refine lv_iconst (v := 0) hx hb d_4_17_115 (by decide) ?_
          refine q_put (ci := 2) (j := 2) (v := .int 0) (ty := .boolean) C0 V i_Big o_Big n_Big rfl rfl hO79 (by decide) w_97 rfl rfl rfl rfl (Nat.le_of_ble_eq_true rfl) d_4_17_116 (fun H locs w107 hu108 hO79 V => ?_)
          replace hO79 : w107[10]? = (some (q 10, .inr (2, [.ref (q 11), .int lx72, .int 0])) : Option (Nat × va_E)) := hO79
          replace hI := q_bigO' hI (n_b10 g q) hu108 hO79 ⟨(by have zR : (220 : Int32).toInt = 220 := rfl; have t1 : 0 ≤ y27.toInt := b30; have t2 : y27.toInt ≤ y26.toInt := b33; have t3 : y26.toInt ≤ lx72.toInt := i84; omega), (by have zR : (220 : Int32).toInt = 220 := rfl; have t1 : lx72.toInt ≤ lx76.toInt + 220 := i88; have t2 : lx72.toInt + lx76.toInt ≤ 221 := i89; omega)⟩ ⟨(by have z9 : (0 : Int32).toInt = 0 := rfl; omega), (by have z9 : (0 : Int32).toInt = 0 := rfl; omega)⟩
          replace hA80 := (hu108 _ (by decide)).trans hA80
          replace hO81 := (hu108 _ (by decide)).trans hO81
          replace hA82 := (hu108 _ (by decide)).trans hA82
          replace hF := q_us hF hu108 (by simp)
          refine lv_iconst (v := 1) hx hb d_4_17_119 (by decide) ?_
          exact q_retz C0 V (by decide) (⟨hI, hF, lx72, 0, lx74, lx75, lx76, lx77, hO79, hA80, hO81, hA82, (show 0 ≤ (1 : Int32).toInt from (by have z10 : (1 : Int32).toInt = 1 := rfl; have z12 : (0 : Int32).toInt = 0 := rfl; omega)), (show (1 : Int32).toInt ≤ 1 from (by have z10 : (1 : Int32).toInt = 1 := rfl; have z12 : (0 : Int32).toInt = 0 := rfl; omega)), (show lx72.toInt ≤ 220 from (by have z10 : (1 : Int32).toInt = 1 := rfl; have z12 : (0 : Int32).toInt = 0 := rfl; have t1 : lx72.toInt ≤ lx76.toInt + 220 := i88; have t2 : lx72.toInt + lx76.toInt ≤ 221 := i89; omega)), (show 0 ≤ (0 : Int32).toInt from (by have z10 : (1 : Int32).toInt = 1 := rfl; have z12 : (0 : Int32).toInt = 0 := rfl; omega)), (show (0 : Int32).toInt ≤ 1 from (by have z10 : (1 : Int32).toInt = 1 := rfl; have z12 : (0 : Int32).toInt = 0 := rfl; omega)), (show 0 ≤ lx75.toInt from (by have z10 : (1 : Int32).toInt = 1 := rfl; have z12 : (0 : Int32).toInt = 0 := rfl; have t1 : lx76.toInt ≤ lx75.toInt + 1 := i94; have t2 : 0 ≤ lx75.toInt + lx76.toInt := i96; omega)), (show lx75.toInt ≤ 220 from (by have z10 : (1 : Int32).toInt = 1 := rfl; have z12 : (0 : Int32).toInt = 0 := rfl; have t1 : lx75.toInt ≤ lx76.toInt + 220 := i95; have t2 : lx75.toInt + lx76.toInt ≤ 221 := i97; omega)), (show 0 ≤ lx76.toInt from (by have z10 : (1 : Int32).toInt = 1 := rfl; have z12 : (0 : Int32).toInt = 0 := rfl; have t1 : lx73.toInt ≤ lx76.toInt + 1 := i91; have t2 : 0 ≤ lx73.toInt + lx76.toInt := i92; omega)), (show lx76.toInt ≤ 1 from (by have z10 : (1 : Int32).toInt = 1 := rfl; have z12 : (0 : Int32).toInt = 0 := rfl; have t1 : lx76.toInt ≤ lx73.toInt + 1 := i90; have t2 : lx73.toInt + lx76.toInt ≤ 2 := i93; omega)), (show lx75.toInt ≤ t3_0.toInt + 3 from (by have z10 : (1 : Int32).toInt = 1 := rfl; have z12 : (0 : Int32).toInt = 0 := rfl; have t1 : lx75.toInt ≤ t3_0.toInt + 3 := i87; omega)), (show (0 : Int32).toInt ≤ lx72.toInt from (by have z10 : (1 : Int32).toInt = 1 := rfl; have z12 : (0 : Int32).toInt = 0 := rfl; have t1 : 0 ≤ y27.toInt := b30; have t2 : y27.toInt ≤ y26.toInt := b33; have t3 : y26.toInt ≤ lx72.toInt := i84; omega)), (show ((1 : Int32), lx72, (0 : Int32), lx74, lx75, lx76, lx77) = (F_DW_roundLast x2 x3 t0_0 t0_1 t1_0 t1_1 t2_0 t3_0 t3_1 t4_0) from Eq.trans (by rw [F_DW_roundLast_J87.eq_1, if_pos c105]) hR99)⟩) d_4_17_120
        ·
          refine lv_aload_n hx hb d_4_17_98 rfl (lv_at hl 0 rfl) ?_
          refine q_get (ci := 5) (j := 2) (v := .ref (q 9)) C0 V i_DW rfl rfl hO78 (by decide) w_214 rfl d_4_17_99 ?_
          refine q_get (ci := 4) (j := 0) (v := .ref (q 10)) C0 V i_Mil rfl rfl hO104 (by decide) w_111 rfl d_4_17_102 ?_
          refine q_get (ci := 2) (j := 1) (v := .int lx72) C0 V i_Big rfl rfl hO79 (by decide) w_90 rfl d_4_17_105 ?_
          refine lv_if_le (tgt := 115) hx hb d_4_17_108 (by decide) (fun c110 => ?_) (fun c110 => ?_)
          ·
            refine lv_iconst (v := 0) hx hb d_4_17_115 (by decide) ?_
            refine q_put (ci := 2) (j := 2) (v := .int 0) (ty := .boolean) C0 V i_Big o_Big n_Big rfl rfl hO79 (by decide) w_97 rfl rfl rfl rfl (Nat.le_of_ble_eq_true rfl) d_4_17_116 (fun H locs w112 hu113 hO79 V => ?_)
            replace hO79 : w112[10]? = (some (q 10, .inr (2, [.ref (q 11), .int lx72, .int 0])) : Option (Nat × va_E)) := hO79
            replace hI := q_bigO' hI (n_b10 g q) hu113 hO79 ⟨(by have zR : (220 : Int32).toInt = 220 := rfl; have t1 : 0 ≤ y27.toInt := b30; have t2 : y27.toInt ≤ y26.toInt := b33; have t3 : y26.toInt ≤ lx72.toInt := i84; omega), (by have zR : (220 : Int32).toInt = 220 := rfl; have t1 : lx72.toInt ≤ lx76.toInt + 220 := i88; have t2 : lx72.toInt + lx76.toInt ≤ 221 := i89; omega)⟩ ⟨(by have z9 : (0 : Int32).toInt = 0 := rfl; omega), (by have z9 : (0 : Int32).toInt = 0 := rfl; omega)⟩
            replace hA80 := (hu113 _ (by decide)).trans hA80
            replace hO81 := (hu113 _ (by decide)).trans hO81
            replace hA82 := (hu113 _ (by decide)).trans hA82
            replace hF := q_us hF hu113 (by simp)
            refine lv_iconst (v := 1) hx hb d_4_17_119 (by decide) ?_
            exact q_retz C0 V (by decide) (⟨hI, hF, lx72, 0, lx74, lx75, lx76, lx77, hO79, hA80, hO81, hA82, (show 0 ≤ (1 : Int32).toInt from (by have z10 : (1 : Int32).toInt = 1 := rfl; have z12 : (0 : Int32).toInt = 0 := rfl; omega)), (show (1 : Int32).toInt ≤ 1 from (by have z10 : (1 : Int32).toInt = 1 := rfl; have z12 : (0 : Int32).toInt = 0 := rfl; omega)), (show lx72.toInt ≤ 220 from (by have z10 : (1 : Int32).toInt = 1 := rfl; have z12 : (0 : Int32).toInt = 0 := rfl; have t1 : lx72.toInt ≤ lx76.toInt + 220 := i88; have t2 : lx72.toInt + lx76.toInt ≤ 221 := i89; omega)), (show 0 ≤ (0 : Int32).toInt from (by have z10 : (1 : Int32).toInt = 1 := rfl; have z12 : (0 : Int32).toInt = 0 := rfl; omega)), (show (0 : Int32).toInt ≤ 1 from (by have z10 : (1 : Int32).toInt = 1 := rfl; have z12 : (0 : Int32).toInt = 0 := rfl; omega)), (show 0 ≤ lx75.toInt from (by have z10 : (1 : Int32).toInt = 1 := rfl; have z12 : (0 : Int32).toInt = 0 := rfl; have t1 : lx76.toInt ≤ lx75.toInt + 1 := i94; have t2 : 0 ≤ lx75.toInt + lx76.toInt := i96; omega)), (show lx75.toInt ≤ 220 from (by have z10 : (1 : Int32).toInt = 1 := rfl; have z12 : (0 : Int32).toInt = 0 := rfl; have t1 : lx75.toInt ≤ lx76.toInt + 220 := i95; have t2 : lx75.toInt + lx76.toInt ≤ 221 := i97; omega)), (show 0 ≤ lx76.toInt from (by have z10 : (1 : Int32).toInt = 1 := rfl; have z12 : (0 : Int32).toInt = 0 := rfl; have t1 : lx73.toInt ≤ lx76.toInt + 1 := i91; have t2 : 0 ≤ lx73.toInt + lx76.toInt := i92; omega)), (show lx76.toInt ≤ 1 from (by have z10 : (1 : Int32).toInt = 1 := rfl; have z12 : (0 : Int32).toInt = 0 := rfl; have t1 : lx76.toInt ≤ lx73.toInt + 1 := i90; have t2 : lx73.toInt + lx76.toInt ≤ 2 := i93; omega)), (show lx75.toInt ≤ t3_0.toInt + 3 from (by have z10 : (1 : Int32).toInt = 1 := rfl; have z12 : (0 : Int32).toInt = 0 := rfl; have t1 : lx75.toInt ≤ t3_0.toInt + 3 := i87; omega)), (show (0 : Int32).toInt ≤ lx72.toInt from (by have z10 : (1 : Int32).toInt = 1 := rfl; have z12 : (0 : Int32).toInt = 0 := rfl; have t1 : 0 ≤ y27.toInt := b30; have t2 : y27.toInt ≤ y26.toInt := b33; have t3 : y26.toInt ≤ lx72.toInt := i84; omega)), (show ((1 : Int32), lx72, (0 : Int32), lx74, lx75, lx76, lx77) = (F_DW_roundLast x2 x3 t0_0 t0_1 t1_0 t1_1 t2_0 t3_0 t3_1 t4_0) from Eq.trans (by rw [F_DW_roundLast_J87.eq_1, if_neg c105, if_pos c110]) hR99)⟩) d_4_17_120
          ·
            have b114 : q_F (0 < lx72.toInt) := (q_nleI c110)
            refine lv_iconst (v := 1) hx hb d_4_17_111 (by decide) ?_
            refine lv_goto (tgt := 116) hx hb d_4_17_112 (by decide) ?_
            refine q_put (ci := 2) (j := 2) (v := .int 1) (ty := .boolean) C0 V i_Big o_Big n_Big rfl rfl hO79 (by decide) w_97 rfl rfl rfl rfl (Nat.le_of_ble_eq_true rfl) d_4_17_116 (fun H locs w115 hu116 hO79 V => ?_)
            replace hO79 : w115[10]? = (some (q 10, .inr (2, [.ref (q 11), .int lx72, .int 1])) : Option (Nat × va_E)) := hO79
            replace hI := q_bigO' hI (n_b10 g q) hu116 hO79 ⟨(by have zR : (220 : Int32).toInt = 220 := rfl; have t1 : 0 < lx72.toInt := b114; omega), (by have zR : (220 : Int32).toInt = 220 := rfl; have t1 : lx72.toInt ≤ lx76.toInt + 220 := i88; have t2 : lx72.toInt + lx76.toInt ≤ 221 := i89; omega)⟩ ⟨(by have z9 : (1 : Int32).toInt = 1 := rfl; omega), (by have z9 : (1 : Int32).toInt = 1 := rfl; omega)⟩
            replace hA80 := (hu116 _ (by decide)).trans hA80
            replace hO81 := (hu116 _ (by decide)).trans hO81
            replace hA82 := (hu116 _ (by decide)).trans hA82
            replace hF := q_us hF hu116 (by simp)
            refine lv_iconst (v := 1) hx hb d_4_17_119 (by decide) ?_
            exact q_retz C0 V (by decide) (⟨hI, hF, lx72, 1, lx74, lx75, lx76, lx77, hO79, hA80, hO81, hA82, (show 0 ≤ (1 : Int32).toInt from (by have z10 : (1 : Int32).toInt = 1 := rfl; have z12 : (1 : Int32).toInt = 1 := rfl; omega)), (show (1 : Int32).toInt ≤ 1 from (by have z10 : (1 : Int32).toInt = 1 := rfl; have z12 : (1 : Int32).toInt = 1 := rfl; omega)), (show lx72.toInt ≤ 220 from (by have z10 : (1 : Int32).toInt = 1 := rfl; have z12 : (1 : Int32).toInt = 1 := rfl; have t1 : lx72.toInt ≤ lx76.toInt + 220 := i88; have t2 : lx72.toInt + lx76.toInt ≤ 221 := i89; omega)), (show 0 ≤ (1 : Int32).toInt from (by have z10 : (1 : Int32).toInt = 1 := rfl; have z12 : (1 : Int32).toInt = 1 := rfl; omega)), (show (1 : Int32).toInt ≤ 1 from (by have z10 : (1 : Int32).toInt = 1 := rfl; have z12 : (1 : Int32).toInt = 1 := rfl; omega)), (show 0 ≤ lx75.toInt from (by have z10 : (1 : Int32).toInt = 1 := rfl; have z12 : (1 : Int32).toInt = 1 := rfl; have t1 : lx76.toInt ≤ lx75.toInt + 1 := i94; have t2 : 0 ≤ lx75.toInt + lx76.toInt := i96; omega)), (show lx75.toInt ≤ 220 from (by have z10 : (1 : Int32).toInt = 1 := rfl; have z12 : (1 : Int32).toInt = 1 := rfl; have t1 : lx75.toInt ≤ lx76.toInt + 220 := i95; have t2 : lx75.toInt + lx76.toInt ≤ 221 := i97; omega)), (show 0 ≤ lx76.toInt from (by have z10 : (1 : Int32).toInt = 1 := rfl; have z12 : (1 : Int32).toInt = 1 := rfl; have t1 : lx73.toInt ≤ lx76.toInt + 1 := i91; have t2 : 0 ≤ lx73.toInt + lx76.toInt := i92; omega)), (show lx76.toInt ≤ 1 from (by have z10 : (1 : Int32).toInt = 1 := rfl; have z12 : (1 : Int32).toInt = 1 := rfl; have t1 : lx76.toInt ≤ lx73.toInt + 1 := i90; have t2 : lx73.toInt + lx76.toInt ≤ 2 := i93; omega)), (show lx75.toInt ≤ t3_0.toInt + 3 from (by have z10 : (1 : Int32).toInt = 1 := rfl; have z12 : (1 : Int32).toInt = 1 := rfl; have t1 : lx75.toInt ≤ t3_0.toInt + 3 := i87; omega)), (show (1 : Int32).toInt ≤ lx72.toInt from (by have z10 : (1 : Int32).toInt = 1 := rfl; have z12 : (1 : Int32).toInt = 1 := rfl; have t1 : 0 < lx72.toInt := b114; omega)), (show ((1 : Int32), lx72, (1 : Int32), lx74, lx75, lx76, lx77) = (F_DW_roundLast x2 x3 t0_0 t0_1 t1_0 t1_1 t2_0 t3_0 t3_1 t4_0) from Eq.trans (by rw [F_DW_roundLast_J87.eq_1, if_neg c105, if_neg c110]) hR99)⟩) d_4_17_120
      ·
        intro J83
        refine lv_if_eq (tgt := 87) hx hb d_4_17_46 (by decide) (fun c117 => ?_) (fun c117 => ?_)
        ·
          exact J83 ((y26 : Int32), (y27 : Int32), (f28 : (Nat → Int32)), (t3_0 : Int32), (t3_1 : Int32), (t4_0 : (Nat → Int32))) _ _ _ _ ⟨(show q_F (y26.toInt ≤ y26.toInt) from (show y26.toInt ≤ y26.toInt from by omega)), (show q_F (y27.toInt ≤ y27.toInt) from (show y27.toInt ≤ y27.toInt from by omega)), (show q_F (y27.toInt ≤ y27.toInt) from (show y27.toInt ≤ y27.toInt from by omega)), (show q_F (t3_0.toInt ≤ t3_0.toInt + 3) from (show t3_0.toInt ≤ t3_0.toInt + 3 from by omega)), (show q_F (y26.toInt ≤ t3_1.toInt + 220) from (show y26.toInt ≤ t3_1.toInt + 220 from by have t1 : 0 ≤ t1_0.toInt ∧ t1_0.toInt ≤ 220 := btt1_0; have t2 : 0 ≤ t3_1.toInt ∧ t3_1.toInt ≤ 1 := btt3_1; have t3 : y26.toInt ≤ t1_0.toInt := b31; omega)), (show q_F (y26.toInt + t3_1.toInt ≤ 221) from (show y26.toInt + t3_1.toInt ≤ 221 from by have t1 : 0 ≤ t1_0.toInt ∧ t1_0.toInt ≤ 220 := btt1_0; have t2 : 0 ≤ t3_1.toInt ∧ t3_1.toInt ≤ 1 := btt3_1; have t3 : y26.toInt ≤ t1_0.toInt := b31; omega)), (show q_F (t3_1.toInt ≤ y27.toInt + 1) from (show t3_1.toInt ≤ y27.toInt + 1 from by have t1 : 0 ≤ t3_1.toInt ∧ t3_1.toInt ≤ 1 := btt3_1; have t2 : 0 ≤ y27.toInt := b30; omega)), (show q_F (y27.toInt ≤ t3_1.toInt + 1) from (show y27.toInt ≤ t3_1.toInt + 1 from by have t1 : 0 ≤ t1_1.toInt ∧ t1_1.toInt ≤ 1 := btt1_1; have t2 : 0 ≤ t3_1.toInt ∧ t3_1.toInt ≤ 1 := btt3_1; have t3 : y27.toInt ≤ t1_1.toInt := b32; omega)), (show q_F (0 ≤ y27.toInt + t3_1.toInt) from (show 0 ≤ y27.toInt + t3_1.toInt from by have t1 : 0 ≤ t3_1.toInt ∧ t3_1.toInt ≤ 1 := btt3_1; have t2 : 0 ≤ y27.toInt := b30; omega)), (show q_F (y27.toInt + t3_1.toInt ≤ 2) from (show y27.toInt + t3_1.toInt ≤ 2 from by have t1 : 0 ≤ t1_1.toInt ∧ t1_1.toInt ≤ 1 := btt1_1; have t2 : 0 ≤ t3_1.toInt ∧ t3_1.toInt ≤ 1 := btt3_1; have t3 : y27.toInt ≤ t1_1.toInt := b32; omega)), (show q_F (t3_1.toInt ≤ t3_0.toInt + 1) from (show t3_1.toInt ≤ t3_0.toInt + 1 from by have t1 : 0 ≤ t3_0.toInt ∧ t3_0.toInt ≤ 220 := btt3_0; have t2 : 0 ≤ t3_1.toInt ∧ t3_1.toInt ≤ 1 := btt3_1; omega)), (show q_F (t3_0.toInt ≤ t3_1.toInt + 220) from (show t3_0.toInt ≤ t3_1.toInt + 220 from by have t1 : 0 ≤ t3_0.toInt ∧ t3_0.toInt ≤ 220 := btt3_0; have t2 : 0 ≤ t3_1.toInt ∧ t3_1.toInt ≤ 1 := btt3_1; omega)), (show q_F (0 ≤ t3_0.toInt + t3_1.toInt) from (show 0 ≤ t3_0.toInt + t3_1.toInt from by have t1 : 0 ≤ t3_0.toInt ∧ t3_0.toInt ≤ 220 := btt3_0; have t2 : 0 ≤ t3_1.toInt ∧ t3_1.toInt ≤ 1 := btt3_1; omega)), (show q_F (t3_0.toInt + t3_1.toInt ≤ 221) from (show t3_0.toInt + t3_1.toInt ≤ 221 from by have t1 : 0 ≤ t3_0.toInt ∧ t3_0.toInt ≤ 220 := btt3_0; have t2 : 0 ≤ t3_1.toInt ∧ t3_1.toInt ≤ 1 := btt3_1; omega)), V, q_lw hl (q_lw1 2 rfl (q_lw1 3 rfl q_lw0)), hI, hF, hT0, hO25, hA29, hT3, hT4, (show F_DW_roundLast_J87 x2 x3 t0_0 t0_1 t1_0 t1_1 t2_0 t3_0 t3_1 t4_0 p36 a24 y26 y27 f28 lx47 y26 y27 f28 t3_0 t3_1 t4_0 = (F_DW_roundLast x2 x3 t0_0 t0_1 t1_0 t1_1 t2_0 t3_0 t3_1 t4_0) from Eq.trans (by rw [F_DW_roundLast_J44.eq_1, if_pos c117]) hR67)⟩
        ·
          refine lv_aload_n hx hb d_4_17_49 rfl (lv_at hl 2 rfl) ?_
          refine lv_iload_n hx hb d_4_17_50 rfl (lv_at hl 1 rfl) ?_
          refine lv_iload_n hx hb d_4_17_51 rfl (lv_at hl 3 rfl) ?_
          refine lv_iload_n hx hb d_4_17_52 rfl (lv_at hl 4 rfl) ?_
          refine q_goi V (q_runV (As := [.int a24, .int x2, .int x3]) (rest := []) (d := 3) (mc := 0) (ms := 0) (ci := 5) C0 V rfl LV_DW_172 (X_DW_goesOutwards l D g q u22  a24 x2 x3 hI t0_0 t0_1 hT0 y26 y27 hO25 f28 hA29 (by first | with_reducible exact q_fe hzx2 | exact ⟨(by have t1 : 0 ≤ x2.toInt ∧ x2.toInt ≤ 1 := hzx2; omega), (by have t1 : 0 ≤ x2.toInt ∧ x2.toInt ≤ 1 := hzx2; omega)⟩) _) rfl rfl hT0 rfl hl.1 rfl (Nat.le_of_ble_eq_true rfl) ⟨by decide, by decide⟩ ⟨Nat.le_of_ble_eq_true rfl, Nat.le_of_ble_eq_true rfl⟩ d_4_17_53) (fun a122 u120 H locs hp121 V => ?_)
          obtain ⟨rfl, b123, b124, hE125⟩ := hp121
          have e126 : a122 = (F_DW_goesOutwards a24 x2 x3 t0_0 t0_1 y26 y27 f28) := hE125
          clear b123
          clear b124
          refine lv_if_eq (tgt := 87) hx hb d_4_17_56 (by decide) (fun c127 => ?_) (fun c127 => ?_)
          ·
            exact J83 ((y26 : Int32), (y27 : Int32), (f28 : (Nat → Int32)), (t3_0 : Int32), (t3_1 : Int32), (t4_0 : (Nat → Int32))) _ _ _ _ ⟨(show q_F (y26.toInt ≤ y26.toInt) from (show y26.toInt ≤ y26.toInt from by omega)), (show q_F (y27.toInt ≤ y27.toInt) from (show y27.toInt ≤ y27.toInt from by omega)), (show q_F (y27.toInt ≤ y27.toInt) from (show y27.toInt ≤ y27.toInt from by omega)), (show q_F (t3_0.toInt ≤ t3_0.toInt + 3) from (show t3_0.toInt ≤ t3_0.toInt + 3 from by omega)), (show q_F (y26.toInt ≤ t3_1.toInt + 220) from (show y26.toInt ≤ t3_1.toInt + 220 from by have t1 : 0 ≤ t1_0.toInt ∧ t1_0.toInt ≤ 220 := btt1_0; have t2 : 0 ≤ t3_1.toInt ∧ t3_1.toInt ≤ 1 := btt3_1; have t3 : y26.toInt ≤ t1_0.toInt := b31; omega)), (show q_F (y26.toInt + t3_1.toInt ≤ 221) from (show y26.toInt + t3_1.toInt ≤ 221 from by have t1 : 0 ≤ t1_0.toInt ∧ t1_0.toInt ≤ 220 := btt1_0; have t2 : 0 ≤ t3_1.toInt ∧ t3_1.toInt ≤ 1 := btt3_1; have t3 : y26.toInt ≤ t1_0.toInt := b31; omega)), (show q_F (t3_1.toInt ≤ y27.toInt + 1) from (show t3_1.toInt ≤ y27.toInt + 1 from by have t1 : 0 ≤ t3_1.toInt ∧ t3_1.toInt ≤ 1 := btt3_1; have t2 : 0 ≤ y27.toInt := b30; omega)), (show q_F (y27.toInt ≤ t3_1.toInt + 1) from (show y27.toInt ≤ t3_1.toInt + 1 from by have t1 : 0 ≤ t1_1.toInt ∧ t1_1.toInt ≤ 1 := btt1_1; have t2 : 0 ≤ t3_1.toInt ∧ t3_1.toInt ≤ 1 := btt3_1; have t3 : y27.toInt ≤ t1_1.toInt := b32; omega)), (show q_F (0 ≤ y27.toInt + t3_1.toInt) from (show 0 ≤ y27.toInt + t3_1.toInt from by have t1 : 0 ≤ t3_1.toInt ∧ t3_1.toInt ≤ 1 := btt3_1; have t2 : 0 ≤ y27.toInt := b30; omega)), (show q_F (y27.toInt + t3_1.toInt ≤ 2) from (show y27.toInt + t3_1.toInt ≤ 2 from by have t1 : 0 ≤ t1_1.toInt ∧ t1_1.toInt ≤ 1 := btt1_1; have t2 : 0 ≤ t3_1.toInt ∧ t3_1.toInt ≤ 1 := btt3_1; have t3 : y27.toInt ≤ t1_1.toInt := b32; omega)), (show q_F (t3_1.toInt ≤ t3_0.toInt + 1) from (show t3_1.toInt ≤ t3_0.toInt + 1 from by have t1 : 0 ≤ t3_0.toInt ∧ t3_0.toInt ≤ 220 := btt3_0; have t2 : 0 ≤ t3_1.toInt ∧ t3_1.toInt ≤ 1 := btt3_1; omega)), (show q_F (t3_0.toInt ≤ t3_1.toInt + 220) from (show t3_0.toInt ≤ t3_1.toInt + 220 from by have t1 : 0 ≤ t3_0.toInt ∧ t3_0.toInt ≤ 220 := btt3_0; have t2 : 0 ≤ t3_1.toInt ∧ t3_1.toInt ≤ 1 := btt3_1; omega)), (show q_F (0 ≤ t3_0.toInt + t3_1.toInt) from (show 0 ≤ t3_0.toInt + t3_1.toInt from by have t1 : 0 ≤ t3_0.toInt ∧ t3_0.toInt ≤ 220 := btt3_0; have t2 : 0 ≤ t3_1.toInt ∧ t3_1.toInt ≤ 1 := btt3_1; omega)), (show q_F (t3_0.toInt + t3_1.toInt ≤ 221) from (show t3_0.toInt + t3_1.toInt ≤ 221 from by have t1 : 0 ≤ t3_0.toInt ∧ t3_0.toInt ≤ 220 := btt3_0; have t2 : 0 ≤ t3_1.toInt ∧ t3_1.toInt ≤ 1 := btt3_1; omega)), V, q_lw hl (q_lw1 2 rfl (q_lw1 3 rfl q_lw0)), hI, hF, hT0, hO25, hA29, hT3, hT4, (show F_DW_roundLast_J87 x2 x3 t0_0 t0_1 t1_0 t1_1 t2_0 t3_0 t3_1 t4_0 p36 a24 y26 y27 f28 lx47 y26 y27 f28 t3_0 t3_1 t4_0 = (F_DW_roundLast x2 x3 t0_0 t0_1 t1_0 t1_1 t2_0 t3_0 t3_1 t4_0) from Eq.trans (by have c127x := c127; rw [e126] at c127x; rw [F_DW_roundLast_J44.eq_1, if_neg c117, if_pos c127x]) hR67)⟩
          ·
            refine lv_aload_n hx hb d_4_17_59 rfl (lv_at hl 2 rfl) ?_
            refine q_get (ci := 5) (j := 2) (v := .ref (q 9)) C0 V i_DW rfl rfl hT0 (by decide) w_214 rfl d_4_17_60 ?_
            refine q_get (ci := 4) (j := 6) (v := .ref (q 22)) C0 V i_Mil rfl rfl hO21 (by decide) w_126 rfl d_4_17_63 ?_
            refine lv_lconst (v := 1) hx hb d_4_17_66 (by decide) ?_
            refine q_gov V (q_runV (As := [.long 1]) (rest := []) (d := 2) (mc := 0) (ms := 0) (ci := 2) C0 V rfl LV_DW_28 (X_Big_setLong l D g q u22 22 220 (n_b22 g q) (by decide) 1 hI t3_0 t3_1 hT3 t4_0 hT4  _) rfl rfl hT3 rfl hl.1 rfl (Nat.le_of_ble_eq_true rfl) ⟨by decide, by decide⟩ ⟨Nat.le_of_ble_eq_true rfl, Nat.le_of_ble_eq_true rfl⟩ d_4_17_67) (fun u130 H locs hp131 V => ?_)
            obtain ⟨hI, hZ9⟩ := hp131
            obtain ⟨hu143, hZ9⟩ := hZ9
            obtain ⟨y133, hZ9⟩ := hZ9
            obtain ⟨y134, hZ9⟩ := hZ9
            obtain ⟨f135, hZ9⟩ := hZ9
            obtain ⟨hO132, hZ9⟩ := hZ9
            obtain ⟨hA136, hZ9⟩ := hZ9
            obtain ⟨b137, hZ9⟩ := hZ9
            obtain ⟨b138, hZ9⟩ := hZ9
            obtain ⟨b139, hZ9⟩ := hZ9
            obtain ⟨b140, hZ9⟩ := hZ9
            obtain ⟨-, hE142⟩ := hZ9
            replace hO132 : u130[22]? = (some (q 22, .inr (2, [.ref (q 23), .int y133, .int y134])) : Option (Nat × va_E)) := hO132
            replace hA136 : u130[23]? = (some (q 23, .inl (g 0, (220 : Int32).toNatClampNeg, .inl f135)) : Option (Nat × va_E)) := hA136
            obtain ⟨p144, e145⟩ : ∃ z, z = (F_Big_setLong (220 : Int32) (1 : Int64) t3_0 t3_1 t4_0) := ⟨_, rfl⟩
            have e146 : y133 = p144.1 := congrArg (fun z => z.1) (hE142.trans e145.symm)
            have e147 : y134 = p144.2.1 := congrArg (fun z => z.2.1) (hE142.trans e145.symm)
            have e148 : f135 = p144.2.2 := congrArg (fun z => z.2.2) (hE142.trans e145.symm)
            replace b137 : q_F (0 ≤ y133.toInt) := b137
            replace b138 : q_F (y133.toInt ≤ 3) := b138
            replace b139 : q_F (0 ≤ y134.toInt) := b139
            replace b140 : q_F (y134.toInt ≤ 1) := b140
            replace hT0 := (hu143 _ (by decide)).trans hT0
            replace hO25 := (hu143 _ (by decide)).trans hO25
            replace hA29 := (hu143 _ (by decide)).trans hA29
            replace hO21 := (hu143 _ (by decide)).trans hO21
            replace hF := q_uc hF hu143 (by first | exact (q_sk (q_mi 2 rfl) (q_sk (q_mi 3 rfl) q_s0)) | simp)
            have hR149 := (show F_DW_roundLast_c67 x2 x3 t0_0 t0_1 t1_0 t1_1 t2_0 t3_0 t3_1 t4_0 p36 a24 y26 y27 f28 lx47 p144 = (F_DW_roundLast x2 x3 t0_0 t0_1 t1_0 t1_1 t2_0 t3_0 t3_1 t4_0) from Eq.trans (by have c127x := c127; rw [e126] at c127x; rw [e145, F_DW_roundLast_J44.eq_1, if_neg c117, if_neg c127x]) hR67)
            refine lv_aload_n hx hb d_4_17_70 rfl (lv_at hl 2 rfl) ?_
            refine q_get (ci := 5) (j := 2) (v := .ref (q 9)) C0 V i_DW rfl rfl hT0 (by decide) w_214 rfl d_4_17_71 ?_
            refine q_get (ci := 4) (j := 0) (v := .ref (q 10)) C0 V i_Mil rfl rfl hO21 (by decide) w_111 rfl d_4_17_74 ?_
            refine lv_aload_n hx hb d_4_17_77 rfl (lv_at hl 2 rfl) ?_
            refine q_get (ci := 5) (j := 2) (v := .ref (q 9)) C0 V i_DW rfl rfl hT0 (by decide) w_214 rfl d_4_17_78 ?_
            refine q_get (ci := 4) (j := 6) (v := .ref (q 22)) C0 V i_Mil rfl rfl hO21 (by decide) w_126 rfl d_4_17_81 ?_
            refine q_gov V (q_runV (As := [.ref (q 22)]) (rest := []) (d := 2) (mc := 0) (ms := 0) (ci := 2) C0 V rfl LV_DW_176 (X_Big_addSize l D g q u130 10 220 (n_b10 g q) (by decide) 22 220 (n_b22 g q) (by decide)  (by decide) hI y26 y27 hO25 f28 hA29 y133 y134 hO132 f135 hA136  _) rfl rfl hO25 rfl hl.1 rfl (Nat.le_of_ble_eq_true rfl) ⟨by decide, by decide⟩ ⟨Nat.le_of_ble_eq_true rfl, Nat.le_of_ble_eq_true rfl⟩ d_4_17_84) (fun u154 H locs hp155 V => ?_)
            obtain ⟨hI, hZ9⟩ := hp155
            obtain ⟨hu166, hZ9⟩ := hZ9
            obtain ⟨y157, hZ9⟩ := hZ9
            obtain ⟨y158, hZ9⟩ := hZ9
            obtain ⟨f159, hZ9⟩ := hZ9
            obtain ⟨hO156, hZ9⟩ := hZ9
            obtain ⟨hA160, hZ9⟩ := hZ9
            obtain ⟨b161, hZ9⟩ := hZ9
            obtain ⟨b162, hZ9⟩ := hZ9
            obtain ⟨b163, hZ9⟩ := hZ9
            obtain ⟨b164, hE165⟩ := hZ9
            replace hO156 : u154[10]? = (some (q 10, .inr (2, [.ref (q 11), .int y157, .int y158])) : Option (Nat × va_E)) := hO156
            replace hA160 : u154[11]? = (some (q 11, .inl (g 0, (220 : Int32).toNatClampNeg, .inl f159)) : Option (Nat × va_E)) := hA160
            obtain ⟨p167, e168⟩ : ∃ z, z = (F_Big_addSize (220 : Int32) (220 : Int32) y26 y27 f28 y133 y134 f135) := ⟨_, rfl⟩
            have e169 : y157 = p167.1 := congrArg (fun z => z.1) (hE165.trans e168.symm)
            have e170 : y158 = p167.2.1 := congrArg (fun z => z.2.1) (hE165.trans e168.symm)
            have e171 : f159 = p167.2.2 := congrArg (fun z => z.2.2) (hE165.trans e168.symm)
            replace b161 : q_F (y26.toInt ≤ y157.toInt) := b161
            replace b162 : q_F (y157.toInt ≤ 220) := b162
            replace b163 : q_F (y27.toInt ≤ y158.toInt) := b163
            replace b164 : q_F (y158.toInt ≤ y27.toInt) := b164
            replace hT0 := (hu166 _ (by decide)).trans hT0
            replace hO132 := (hu166 _ (by decide)).trans hO132
            replace hA136 := (hu166 _ (by decide)).trans hA136
            replace hF := q_uc hF hu166 (by first | exact (q_sk (q_mi 0 rfl) (q_sk (q_mi 1 rfl) q_s0)) | simp)
            have hR172 := (show F_DW_roundLast_c84 x2 x3 t0_0 t0_1 t1_0 t1_1 t2_0 t3_0 t3_1 t4_0 p36 a24 y26 y27 f28 lx47 p144 y133 y134 f135 p167 = (F_DW_roundLast x2 x3 t0_0 t0_1 t1_0 t1_1 t2_0 t3_0 t3_1 t4_0) from Eq.trans (by rw [e168, e148, e147, e146, F_DW_roundLast_c67.eq_1]) hR149)
            exact J83 ((y157 : Int32), (y158 : Int32), (f159 : (Nat → Int32)), (y133 : Int32), (y134 : Int32), (f135 : (Nat → Int32))) _ _ _ _ ⟨(show q_F (y26.toInt ≤ y157.toInt) from (show y26.toInt ≤ y157.toInt from by have t1 : y26.toInt ≤ y157.toInt := b161; omega)), (show q_F (y27.toInt ≤ y158.toInt) from (show y27.toInt ≤ y158.toInt from by have t1 : y27.toInt ≤ y158.toInt := b163; omega)), (show q_F (y158.toInt ≤ y27.toInt) from (show y158.toInt ≤ y27.toInt from by have t1 : y158.toInt ≤ y27.toInt := b164; omega)), (show q_F (y133.toInt ≤ t3_0.toInt + 3) from (show y133.toInt ≤ t3_0.toInt + 3 from by have t1 : 0 ≤ t3_0.toInt ∧ t3_0.toInt ≤ 220 := btt3_0; have t2 : y133.toInt ≤ 3 := b138; omega)), (show q_F (y157.toInt ≤ y134.toInt + 220) from (show y157.toInt ≤ y134.toInt + 220 from by have t1 : 0 ≤ y134.toInt := b139; have t2 : y157.toInt ≤ 220 := b162; omega)), (show q_F (y157.toInt + y134.toInt ≤ 221) from (show y157.toInt + y134.toInt ≤ 221 from by have t1 : y134.toInt ≤ 1 := b140; have t2 : y157.toInt ≤ 220 := b162; omega)), (show q_F (y134.toInt ≤ y158.toInt + 1) from (show y134.toInt ≤ y158.toInt + 1 from by have t1 : 0 ≤ y27.toInt := b30; have t2 : y134.toInt ≤ 1 := b140; have t3 : y27.toInt ≤ y158.toInt := b163; omega)), (show q_F (y158.toInt ≤ y134.toInt + 1) from (show y158.toInt ≤ y134.toInt + 1 from by have t1 : 0 ≤ t1_1.toInt ∧ t1_1.toInt ≤ 1 := btt1_1; have t2 : y27.toInt ≤ t1_1.toInt := b32; have t3 : 0 ≤ y134.toInt := b139; have t4 : y158.toInt ≤ y27.toInt := b164; omega)), (show q_F (0 ≤ y158.toInt + y134.toInt) from (show 0 ≤ y158.toInt + y134.toInt from by have t1 : 0 ≤ y27.toInt := b30; have t2 : 0 ≤ y134.toInt := b139; have t3 : y27.toInt ≤ y158.toInt := b163; omega)), (show q_F (y158.toInt + y134.toInt ≤ 2) from (show y158.toInt + y134.toInt ≤ 2 from by have t1 : 0 ≤ t1_1.toInt ∧ t1_1.toInt ≤ 1 := btt1_1; have t2 : y27.toInt ≤ t1_1.toInt := b32; have t3 : y134.toInt ≤ 1 := b140; have t4 : y158.toInt ≤ y27.toInt := b164; omega)), (show q_F (y134.toInt ≤ y133.toInt + 1) from (show y134.toInt ≤ y133.toInt + 1 from by have t1 : 0 ≤ y133.toInt := b137; have t2 : y134.toInt ≤ 1 := b140; omega)), (show q_F (y133.toInt ≤ y134.toInt + 220) from (show y133.toInt ≤ y134.toInt + 220 from by have t1 : y133.toInt ≤ 3 := b138; have t2 : 0 ≤ y134.toInt := b139; omega)), (show q_F (0 ≤ y133.toInt + y134.toInt) from (show 0 ≤ y133.toInt + y134.toInt from by have t1 : 0 ≤ y133.toInt := b137; have t2 : 0 ≤ y134.toInt := b139; omega)), (show q_F (y133.toInt + y134.toInt ≤ 221) from (show y133.toInt + y134.toInt ≤ 221 from by have t1 : y133.toInt ≤ 3 := b138; have t2 : y134.toInt ≤ 1 := b140; omega)), V, q_lw hl (q_lw1 2 rfl (q_lw1 3 rfl q_lw0)), hI, hF, hT0, hO156, hA160, hO132, hA136, (show F_DW_roundLast_J87 x2 x3 t0_0 t0_1 t1_0 t1_1 t2_0 t3_0 t3_1 t4_0 p36 a24 y26 y27 f28 lx47 y157 y158 f159 y133 y134 f135 = (F_DW_roundLast x2 x3 t0_0 t0_1 t1_0 t1_1 t2_0 t3_0 t3_1 t4_0) from Eq.trans (by rw [e171, e170, e169, F_DW_roundLast_c84.eq_1]) hR172)⟩
    ·
      intro J66
      refine lv_if_eq (tgt := 44) hx hb d_4_17_33 (by decide) (fun c177 => ?_) (fun c177 => ?_)
      ·
        exact J66 (()) _ _ _ u22 ⟨V, q_lw hl (q_lw1 0 rfl (q_lw1 1 rfl (q_lw1 2 rfl (q_lw1 3 rfl (q_lw1 4 rfl q_lw0))))), (show F_DW_roundLast_J44 x2 x3 t0_0 t0_1 t1_0 t1_1 t2_0 t3_0 t3_1 t4_0 p36 a24 y26 y27 f28 lx47 = (F_DW_roundLast x2 x3 t0_0 t0_1 t1_0 t1_1 t2_0 t3_0 t3_1 t4_0) from Eq.trans (by rw [F_DW_roundLast_J29.eq_1, if_pos c177]) hR56)⟩
      ·
        refine lv_iload_n hx hb d_4_17_36 rfl (lv_at hl 4 rfl) ?_
        refine lv_bipush (v := 7) hx hb d_4_17_37 (by decide) ?_
        refine lv_icmp_ne (tgt := 44) hx hb d_4_17_39 (by decide) (fun c180 => ?_) (fun c180 => ?_)
        ·
          exact J66 (()) _ _ _ u22 ⟨V, q_lw hl (q_lw1 0 rfl (q_lw1 1 rfl (q_lw1 2 rfl (q_lw1 3 rfl (q_lw1 4 rfl q_lw0))))), (show F_DW_roundLast_J44 x2 x3 t0_0 t0_1 t1_0 t1_1 t2_0 t3_0 t3_1 t4_0 p36 a24 y26 y27 f28 lx47 = (F_DW_roundLast x2 x3 t0_0 t0_1 t1_0 t1_1 t2_0 t3_0 t3_1 t4_0) from Eq.trans (by rw [F_DW_roundLast_J29.eq_1, if_neg c177, if_neg c180]) hR56)⟩
        ·
          refine lv_iconst (v := 0) hx hb d_4_17_42 (by decide) ?_
          exact q_retz C0 V (by decide) (⟨hI, hF, y26, y27, f28, t3_0, t3_1, t4_0, hO25, hA29, hT3, hT4, (show 0 ≤ (0 : Int32).toInt from (by have z10 : (0 : Int32).toInt = 0 := rfl; omega)), (show (0 : Int32).toInt ≤ 1 from (by have z10 : (0 : Int32).toInt = 0 := rfl; omega)), (show y26.toInt ≤ 220 from (by have z10 : (0 : Int32).toInt = 0 := rfl; have t1 : 0 ≤ t1_0.toInt ∧ t1_0.toInt ≤ 220 := btt1_0; have t2 : y26.toInt ≤ t1_0.toInt := b31; omega)), (show 0 ≤ y27.toInt from (by have z10 : (0 : Int32).toInt = 0 := rfl; have t1 : 0 ≤ y27.toInt := b30; omega)), (show y27.toInt ≤ 1 from (by have z10 : (0 : Int32).toInt = 0 := rfl; have t1 : 0 ≤ t1_1.toInt ∧ t1_1.toInt ≤ 1 := btt1_1; have t2 : y27.toInt ≤ t1_1.toInt := b32; omega)), (show 0 ≤ t3_0.toInt from (by have z10 : (0 : Int32).toInt = 0 := rfl; have t1 : 0 ≤ t3_0.toInt ∧ t3_0.toInt ≤ 220 := btt3_0; omega)), (show t3_0.toInt ≤ 220 from (by have z10 : (0 : Int32).toInt = 0 := rfl; have t1 : 0 ≤ t3_0.toInt ∧ t3_0.toInt ≤ 220 := btt3_0; omega)), (show 0 ≤ t3_1.toInt from (by have z10 : (0 : Int32).toInt = 0 := rfl; have t1 : 0 ≤ t3_1.toInt ∧ t3_1.toInt ≤ 1 := btt3_1; omega)), (show t3_1.toInt ≤ 1 from (by have z10 : (0 : Int32).toInt = 0 := rfl; have t1 : 0 ≤ t3_1.toInt ∧ t3_1.toInt ≤ 1 := btt3_1; omega)), (show t3_0.toInt ≤ t3_0.toInt + 3 from (by have z10 : (0 : Int32).toInt = 0 := rfl; omega)), (show y27.toInt ≤ y26.toInt from (by have z10 : (0 : Int32).toInt = 0 := rfl; have t1 : y27.toInt ≤ y26.toInt := b33; omega)), (show ((0 : Int32), y26, y27, f28, t3_0, t3_1, t4_0) = (F_DW_roundLast x2 x3 t0_0 t0_1 t1_0 t1_1 t2_0 t3_0 t3_1 t4_0) from Eq.trans (by rw [F_DW_roundLast_J29.eq_1, if_neg c177, if_pos c180]) hR56)⟩) d_4_17_43
  ·
    intro J53
    refine q_join (X := Unit) (fun z H locs ls _ => q_Wd D g (va_A ws sz) s u22 H locs ∧ lv_has ls 5 [(3, .int a24), (0, .ref (q 30)), (1, .int x2), (2, .int x3)] ∧ F_DW_roundLast_J24 x2 x3 t0_0 t0_1 t1_0 t1_1 t2_0 t3_0 t3_1 t4_0 p36 a24 y26 y27 f28 = (F_DW_roundLast x2 x3 t0_0 t0_1 t1_0 t1_1 t2_0 t3_0 t3_1 t4_0)) (fun z => []) 24 0 0 ?_ ?_
    ·
      rintro _ H locs ls _ ⟨V, hl, hR189⟩
      replace hl : lv_has ls 5 [(3, .int a24), (0, .ref (q 30)), (1, .int x2), (2, .int x3)] := hl
      refine lv_iconst (v := 1) hx hb d_4_17_24 (by decide) ?_
      refine lv_goto (tgt := 29) hx hb d_4_17_25 (by decide) ?_
      exact J53 ((1 : Int32)) _ _ _ u22 ⟨(show q_F (1 ≤ 1) from (show 1 ≤ 1 from by omega)), (show q_F (t0_1.toInt ≤ 1) from (show t0_1.toInt ≤ 1 from by have t1 : 0 ≤ t0_1.toInt ∧ t0_1.toInt ≤ 1 := btt0_1; omega)), V, q_lw hl (q_lw1 0 rfl (q_lw1 1 rfl (q_lw1 2 rfl (q_lw1 3 rfl q_lw0)))), (show F_DW_roundLast_J29 x2 x3 t0_0 t0_1 t1_0 t1_1 t2_0 t3_0 t3_1 t4_0 p36 a24 y26 y27 f28 1 = (F_DW_roundLast x2 x3 t0_0 t0_1 t1_0 t1_1 t2_0 t3_0 t3_1 t4_0) from Eq.trans (by rw [F_DW_roundLast_J24.eq_1]) hR189)⟩
    ·
      intro J188
      refine lv_if_ne (tgt := 24) hx hb d_4_17_14 (by decide) (fun c194 => ?_) (fun c194 => ?_)
      ·
        exact J188 (()) _ _ _ u22 ⟨V, q_lw hl (q_lw1 0 rfl (q_lw1 1 rfl (q_lw1 2 rfl (q_lw1 3 rfl q_lw0)))), (show F_DW_roundLast_J24 x2 x3 t0_0 t0_1 t1_0 t1_1 t2_0 t3_0 t3_1 t4_0 p36 a24 y26 y27 f28 = (F_DW_roundLast x2 x3 t0_0 t0_1 t1_0 t1_1 t2_0 t3_0 t3_1 t4_0) from Eq.trans (by have c194x := c194; rw [e38] at c194x; rw [e41, e40, e39, e38, F_DW_roundLast_c9.eq_1, if_neg c194x]) hR42)⟩
      ·
        refine lv_aload_n hx hb d_4_17_17 rfl (lv_at hl 1 rfl) ?_
        refine q_get (ci := 5) (j := 3) (v := .int t0_1) C0 V i_DW rfl rfl hT0 (by decide) w_215 rfl d_4_17_18 ?_
        refine lv_if_eq (tgt := 28) hx hb d_4_17_21 (by decide) (fun c197 => ?_) (fun c197 => ?_)
        ·
          have b198 : q_F (t0_1.toInt = 0) := (q_eqI c197)
          refine lv_iconst (v := 0) hx hb d_4_17_28 (by decide) ?_
          exact J53 ((0 : Int32)) _ _ _ u22 ⟨(show q_F (0 ≤ 1) from (show 0 ≤ 1 from by omega)), (show q_F (t0_1.toInt ≤ 0) from (show t0_1.toInt ≤ 0 from by have t1 : t0_1.toInt = 0 := b198; omega)), V, q_lw hl (q_lw1 0 rfl (q_lw1 1 rfl (q_lw1 2 rfl (q_lw1 3 rfl q_lw0)))), (show F_DW_roundLast_J29 x2 x3 t0_0 t0_1 t1_0 t1_1 t2_0 t3_0 t3_1 t4_0 p36 a24 y26 y27 f28 0 = (F_DW_roundLast x2 x3 t0_0 t0_1 t1_0 t1_1 t2_0 t3_0 t3_1 t4_0) from Eq.trans (by have c194x := c194; rw [e38] at c194x; rw [e41, e40, e39, e38, F_DW_roundLast_c9.eq_1, if_pos c194x, if_pos c197]) hR42)⟩
        ·
          exact J188 (()) _ _ _ u22 ⟨V, q_lw hl (q_lw1 0 rfl (q_lw1 1 rfl (q_lw1 2 rfl (q_lw1 3 rfl q_lw0)))), (show F_DW_roundLast_J24 x2 x3 t0_0 t0_1 t1_0 t1_1 t2_0 t3_0 t3_1 t4_0 p36 a24 y26 y27 f28 = (F_DW_roundLast x2 x3 t0_0 t0_1 t1_0 t1_1 t2_0 t3_0 t3_1 t4_0) from Eq.trans (by have c194x := c194; rw [e38] at c194x; rw [e41, e40, e39, e38, F_DW_roundLast_c9.eq_1, if_pos c194x, if_neg c197]) hR42)⟩

theorem d_4_16_0 : decode prog_4_method_16_code 0 = .ok (.aload_n 0, 1) := by decide +kernel
theorem d_4_16_1 : decode prog_4_method_16_code 1 = .ok (.getfield 20, 3) := by decide +kernel
theorem d_4_16_4 : decode prog_4_method_16_code 4 = .ok (.getfield 72, 3) := by decide +kernel
theorem d_4_16_7 : decode prog_4_method_16_code 7 = .ok (.aload_n 0, 1) := by decide +kernel
theorem d_4_16_8 : decode prog_4_method_16_code 8 = .ok (.getfield 20, 3) := by decide +kernel
theorem d_4_16_11 : decode prog_4_method_16_code 11 = .ok (.getfield 55, 3) := by decide +kernel
theorem d_4_16_14 : decode prog_4_method_16_code 14 = .ok (.invokevirtual 44, 3) := by decide +kernel
theorem d_4_16_17 : decode prog_4_method_16_code 17 = .ok (.aload_n 0, 1) := by decide +kernel
theorem d_4_16_18 : decode prog_4_method_16_code 18 = .ok (.getfield 146, 3) := by decide +kernel
theorem d_4_16_44 : decode prog_4_method_16_code 44 = .ok (.istore 6, 2) := by decide +kernel
theorem d_4_16_46 : decode prog_4_method_16_code 46 = .ok (.aload_n 0, 1) := by decide +kernel
theorem d_4_16_47 : decode prog_4_method_16_code 47 = .ok (.iload_n 1, 1) := by decide +kernel
theorem d_4_16_48 : decode prog_4_method_16_code 48 = .ok (.iload 5, 2) := by decide +kernel
theorem d_4_16_50 : decode prog_4_method_16_code 50 = .ok (.invokevirtual 142, 3) := by decide +kernel
set_option maxRecDepth 100000 in
theorem w_1450 : (Cond.code ({ cls := "NumberHouse$DecimalWork", name := "roundLast", desc := "(ZI)Z" } : MethodName) prog_4_method_17_code (5 : Nat) (some .boolean)) ∈ q_tbl := q_of7 10 rfl (by decide +kernel)
set_option maxRecDepth 100000 in
theorem w_1447 : (Cond.methodLink "NumberHouse$DecimalWork" (142 : Nat) ({ cls := "NumberHouse$DecimalWork", name := "roundLast", desc := "(ZI)Z" } : MethodName)) ∈ q_tbl := q_of7 7 rfl (by decide +kernel)
set_option maxRecDepth 100000 in
theorem w_1449 : (Cond.instanceMethod ({ cls := "NumberHouse$DecimalWork", name := "roundLast", desc := "(ZI)Z" } : MethodName)) ∈ q_tbl := q_of7 9 rfl (by decide +kernel)
theorem ws_30 : Cond.selects "NumberHouse$DecimalWork" (⟨"NumberHouse$DecimalWork", "roundLast", "(ZI)Z"⟩ : MethodName) (⟨"NumberHouse$DecimalWork", "roundLast", "(ZI)Z"⟩ : MethodName) ∈ q_tbl := q_ofs 30 (by decide +kernel) (by decide +kernel)
theorem LV_DW_142 : q_LV "NumberHouse$DecimalWork" 142 y_DW_roundLast prog_4_method_17_code 5 (some .boolean) 2 := ⟨w_1450, w_5, w_1447, w_1449, ws_30, ⟨by decide, by decide, by decide +kernel⟩⟩
theorem d_4_16_53 : decode prog_4_method_16_code 53 = .ok (.ifCond .ne 5, 3) := by decide +kernel
theorem d_4_16_58 : decode prog_4_method_16_code 58 = .ok (.iload 6, 2) := by decide +kernel
theorem d_4_16_60 : decode prog_4_method_16_code 60 = .ok (.ifCond .eq 36, 3) := by decide +kernel
theorem d_4_16_96 : decode prog_4_method_16_code 96 = .ok (.aload_n 0, 1) := by decide +kernel
theorem d_4_16_97 : decode prog_4_method_16_code 97 = .ok (.getfield 20, 3) := by decide +kernel
theorem d_4_16_100 : decode prog_4_method_16_code 100 = .ok (.aload_n 0, 1) := by decide +kernel
theorem d_4_16_101 : decode prog_4_method_16_code 101 = .ok (.getfield 20, 3) := by decide +kernel
theorem d_4_16_104 : decode prog_4_method_16_code 104 = .ok (.getfield 55, 3) := by decide +kernel
theorem d_4_16_107 : decode prog_4_method_16_code 107 = .ok (.invokevirtual 34, 3) := by decide +kernel
theorem d_4_16_110 : decode prog_4_method_16_code 110 = .ok (.iload_n 2, 1) := by decide +kernel
theorem d_4_16_111 : decode prog_4_method_16_code 111 = .ok (.if_icmp .le 25, 3) := by decide +kernel
theorem d_4_16_136 : decode prog_4_method_16_code 136 = .ok (.iconst 1, 1) := by decide +kernel
theorem d_4_16_137 : decode prog_4_method_16_code 137 = .ok (.ireturn, 1) := by decide +kernel
theorem d_4_16_114 : decode prog_4_method_16_code 114 = .ok (.aload_n 0, 1) := by decide +kernel
theorem d_4_16_115 : decode prog_4_method_16_code 115 = .ok (.getfield 20, 3) := by decide +kernel
theorem d_4_16_118 : decode prog_4_method_16_code 118 = .ok (.getfield 55, 3) := by decide +kernel
theorem d_4_16_121 : decode prog_4_method_16_code 121 = .ok (.iconst 1, 1) := by decide +kernel
theorem d_4_16_122 : decode prog_4_method_16_code 122 = .ok (.invokevirtual 149, 3) := by decide +kernel
set_option maxRecDepth 100000 in
theorem w_1446 : (Cond.code ({ cls := "NumberHouse$Big", name := "dropFigures", desc := "(I)Z" } : MethodName) prog_2_method_30_code (4 : Nat) (some .boolean)) ∈ q_tbl := q_of7 6 rfl (by decide +kernel)
set_option maxRecDepth 100000 in
theorem w_1443 : (Cond.methodLink "NumberHouse$DecimalWork" (149 : Nat) ({ cls := "NumberHouse$Big", name := "dropFigures", desc := "(I)Z" } : MethodName)) ∈ q_tbl := q_of7 3 rfl (by decide +kernel)
set_option maxRecDepth 100000 in
theorem w_1444 : (Cond.instanceMethod ({ cls := "NumberHouse$Big", name := "dropFigures", desc := "(I)Z" } : MethodName)) ∈ q_tbl := q_of7 4 rfl (by decide +kernel)
set_option maxRecDepth 100000 in
theorem w_1445 : (Cond.selects "NumberHouse$Big" ({ cls := "NumberHouse$Big", name := "dropFigures", desc := "(I)Z" } : MethodName) ({ cls := "NumberHouse$Big", name := "dropFigures", desc := "(I)Z" } : MethodName)) ∈ q_tbl := q_of7 5 rfl (by decide +kernel)
theorem LV_DW_149 : q_LV "NumberHouse$DecimalWork" 149 y_Big_dropFigures prog_2_method_30_code 4 (some .boolean) 1 := ⟨w_1446, w_4, w_1443, w_1444, w_1445, ⟨by decide, by decide, by decide +kernel⟩⟩
theorem d_4_16_125 : decode prog_4_method_16_code 125 = .ok (.pop, 1) := by decide +kernel
theorem d_4_16_126 : decode prog_4_method_16_code 126 = .ok (.aload_n 0, 1) := by decide +kernel
theorem d_4_16_127 : decode prog_4_method_16_code 127 = .ok (.dup, 1) := by decide +kernel
theorem d_4_16_128 : decode prog_4_method_16_code 128 = .ok (.getfield 56, 3) := by decide +kernel
theorem d_4_16_131 : decode prog_4_method_16_code 131 = .ok (.lconst 1, 1) := by decide +kernel
theorem d_4_16_132 : decode prog_4_method_16_code 132 = .ok (.lsub, 1) := by decide +kernel
theorem d_4_16_133 : decode prog_4_method_16_code 133 = .ok (.putfield 56, 3) := by decide +kernel
theorem d_4_16_63 : decode prog_4_method_16_code 63 = .ok (.aload_n 0, 1) := by decide +kernel
theorem d_4_16_64 : decode prog_4_method_16_code 64 = .ok (.dup, 1) := by decide +kernel
theorem d_4_16_65 : decode prog_4_method_16_code 65 = .ok (.getfield 56, 3) := by decide +kernel
theorem d_4_16_68 : decode prog_4_method_16_code 68 = .ok (.aload_n 0, 1) := by decide +kernel
theorem d_4_16_69 : decode prog_4_method_16_code 69 = .ok (.getfield 20, 3) := by decide +kernel
theorem d_4_16_72 : decode prog_4_method_16_code 72 = .ok (.aload_n 0, 1) := by decide +kernel
theorem d_4_16_73 : decode prog_4_method_16_code 73 = .ok (.getfield 20, 3) := by decide +kernel
theorem d_4_16_76 : decode prog_4_method_16_code 76 = .ok (.getfield 55, 3) := by decide +kernel
theorem d_4_16_79 : decode prog_4_method_16_code 79 = .ok (.aload_n 0, 1) := by decide +kernel
theorem d_4_16_80 : decode prog_4_method_16_code 80 = .ok (.getfield 56, 3) := by decide +kernel
theorem d_4_16_83 : decode prog_4_method_16_code 83 = .ok (.lload_n 3, 1) := by decide +kernel
theorem d_4_16_84 : decode prog_4_method_16_code 84 = .ok (.lsub, 1) := by decide +kernel
theorem d_4_16_85 : decode prog_4_method_16_code 85 = .ok (.invokevirtual 131, 3) := by decide +kernel
theorem d_4_16_88 : decode prog_4_method_16_code 88 = .ok (.i2l, 1) := by decide +kernel
theorem d_4_16_89 : decode prog_4_method_16_code 89 = .ok (.lsub, 1) := by decide +kernel
theorem d_4_16_90 : decode prog_4_method_16_code 90 = .ok (.putfield 56, 3) := by decide +kernel
theorem d_4_16_93 : decode prog_4_method_16_code 93 = .ok (.goto 43, 3) := by decide +kernel
theorem d_4_16_56 : decode prog_4_method_16_code 56 = .ok (.iconst 0, 1) := by decide +kernel
theorem d_4_16_57 : decode prog_4_method_16_code 57 = .ok (.ireturn, 1) := by decide +kernel
theorem d_4_16_43 : decode prog_4_method_16_code 43 = .ok (.iconst 0, 1) := by decide +kernel
theorem d_4_16_21 : decode prog_4_method_16_code 21 = .ok (.ifCond .ne 22, 3) := by decide +kernel
theorem d_4_16_24 : decode prog_4_method_16_code 24 = .ok (.aload_n 0, 1) := by decide +kernel
theorem d_4_16_25 : decode prog_4_method_16_code 25 = .ok (.getfield 20, 3) := by decide +kernel
theorem d_4_16_28 : decode prog_4_method_16_code 28 = .ok (.getfield 72, 3) := by decide +kernel
theorem d_4_16_31 : decode prog_4_method_16_code 31 = .ok (.bipush 10, 2) := by decide +kernel
theorem d_4_16_33 : decode prog_4_method_16_code 33 = .ok (.invokevirtual 169, 3) := by decide +kernel
theorem d_4_16_36 : decode prog_4_method_16_code 36 = .ok (.ifCond .ne 7, 3) := by decide +kernel
theorem d_4_16_39 : decode prog_4_method_16_code 39 = .ok (.iconst 1, 1) := by decide +kernel
theorem d_4_16_40 : decode prog_4_method_16_code 40 = .ok (.goto 4, 3) := by decide +kernel
def y_DW_shorten : MethodName := ⟨"NumberHouse$DecimalWork", "shorten", "(ZIJI)Z"⟩
def F_DW_shorten_c122 (x2 : Int32) (x3 : Int32) (x4 : Int64) (x5 : Int32) (t0_0 : Int64) (t0_1 : Int32) (t1_0 : Int32) (t1_1 : Int32) (t2_0 : (Nat → Int32)) (t3_0 : Int32) (t3_1 : Int32) (t4_0 : (Nat → Int32)) (t5_0 : Int32) (t5_1 : Int32) (t6_0 : (Nat → Int32)) (p44 : (Int32 × Int32 × (Nat → Int32))) (lx54 : Int32) (lx55 : Int32) (lx56 : Int32) (lx57 : (Nat → Int32)) (p106 : (Int32 × Int32 × Int32 × (Nat → Int32) × Int32 × Int32 × (Nat → Int32))) (y84 : Int32) (y85 : Int32) (f86 : (Nat → Int32)) (y89 : Int32) (y90 : Int32) (f91 : (Nat → Int32)) (p139 : (Int32 × Int32 × Int32 × (Nat → Int32))) (y129 : Int32) (y130 : Int32) (f131 : (Nat → Int32)) (p170 : (Int32 × Int32 × Int32 × (Nat → Int32))) : Int32 × Int64 × Int32 × Int32 × Int32 × (Nat → Int32) × Int32 × Int32 × (Nat → Int32) × Int32 × Int32 × (Nat → Int32) := ((1 : Int32), (t0_0 - 1 : Int64), t0_1, (p170.2.1 : Int32), (p170.2.2.1 : Int32), (p170.2.2.2 : (Nat → Int32)), y89, y90, f91, y129, y130, f131)
def F_DW_shorten_c107 (x2 : Int32) (x3 : Int32) (x4 : Int64) (x5 : Int32) (t0_0 : Int64) (t0_1 : Int32) (t1_0 : Int32) (t1_1 : Int32) (t2_0 : (Nat → Int32)) (t3_0 : Int32) (t3_1 : Int32) (t4_0 : (Nat → Int32)) (t5_0 : Int32) (t5_1 : Int32) (t6_0 : (Nat → Int32)) (p44 : (Int32 × Int32 × (Nat → Int32))) (lx54 : Int32) (lx55 : Int32) (lx56 : Int32) (lx57 : (Nat → Int32)) (p106 : (Int32 × Int32 × Int32 × (Nat → Int32) × Int32 × Int32 × (Nat → Int32))) (y84 : Int32) (y85 : Int32) (f86 : (Nat → Int32)) (y89 : Int32) (y90 : Int32) (f91 : (Nat → Int32)) (p139 : (Int32 × Int32 × Int32 × (Nat → Int32))) : Int32 × Int64 × Int32 × Int32 × Int32 × (Nat → Int32) × Int32 × Int32 × (Nat → Int32) × Int32 × Int32 × (Nat → Int32) := if (p139.1 : Int32) ≤ x3 then (((1 : Int32), t0_0, t0_1, y84, y85, f86, y89, y90, f91, (p139.2.1 : Int32), (p139.2.2.1 : Int32), (p139.2.2.2 : (Nat → Int32)))) else (F_DW_shorten_c122 x2 x3 x4 x5 t0_0 t0_1 t1_0 t1_1 t2_0 t3_0 t3_1 t4_0 t5_0 t5_1 t6_0 p44 lx54 lx55 lx56 lx57 p106 y84 y85 f86 y89 y90 f91 p139 (p139.2.1 : Int32) (p139.2.2.1 : Int32) (p139.2.2.2 : (Nat → Int32)) ((F_Big_dropFigures (220 : Int32) (1 : Int32) y84 y85 f86) : (Int32 × Int32 × Int32 × (Nat → Int32))))
def F_DW_shorten_c85 (x2 : Int32) (x3 : Int32) (x4 : Int64) (x5 : Int32) (t0_0 : Int64) (t0_1 : Int32) (t1_0 : Int32) (t1_1 : Int32) (t2_0 : (Nat → Int32)) (t3_0 : Int32) (t3_1 : Int32) (t4_0 : (Nat → Int32)) (t5_0 : Int32) (t5_1 : Int32) (t6_0 : (Nat → Int32)) (p44 : (Int32 × Int32 × (Nat → Int32))) (lx54 : Int32) (lx55 : Int32) (lx56 : Int32) (lx57 : (Nat → Int32)) (p106 : (Int32 × Int32 × Int32 × (Nat → Int32) × Int32 × Int32 × (Nat → Int32))) (y89 : Int32) (y90 : Int32) (f91 : (Nat → Int32)) (p214 : (Int32 × Int32 × Int32 × (Nat → Int32) × Int32 × Int32 × (Nat → Int32))) : Int32 × Int64 × Int32 × Int32 × Int32 × (Nat → Int32) × Int32 × Int32 × (Nat → Int32) × Int32 × Int32 × (Nat → Int32) := ((1 : Int32), (t0_0 - ((p214.1 : Int32).toInt64 : Int64) : Int64), t0_1, (p214.2.2.2.2.1 : Int32), (p214.2.2.2.2.2.1 : Int32), (p214.2.2.2.2.2.2 : (Nat → Int32)), y89, y90, f91, (p214.2.1 : Int32), (p214.2.2.1 : Int32), (p214.2.2.2.1 : (Nat → Int32)))
def F_DW_shorten_c50 (x2 : Int32) (x3 : Int32) (x4 : Int64) (x5 : Int32) (t0_0 : Int64) (t0_1 : Int32) (t1_0 : Int32) (t1_1 : Int32) (t2_0 : (Nat → Int32)) (t3_0 : Int32) (t3_1 : Int32) (t4_0 : (Nat → Int32)) (t5_0 : Int32) (t5_1 : Int32) (t6_0 : (Nat → Int32)) (p44 : (Int32 × Int32 × (Nat → Int32))) (lx54 : Int32) (lx55 : Int32) (lx56 : Int32) (lx57 : (Nat → Int32)) (p106 : (Int32 × Int32 × Int32 × (Nat → Int32) × Int32 × Int32 × (Nat → Int32))) : Int32 × Int64 × Int32 × Int32 × Int32 × (Nat → Int32) × Int32 × Int32 × (Nat → Int32) × Int32 × Int32 × (Nat → Int32) := if (p106.1 : Int32) = (0 : Int32) then (((0 : Int32), t0_0, t0_1, (p106.2.1 : Int32), (p106.2.2.1 : Int32), (p106.2.2.2.1 : (Nat → Int32)), (p106.2.2.2.2.1 : Int32), (p106.2.2.2.2.2.1 : Int32), (p106.2.2.2.2.2.2 : (Nat → Int32)), t5_0, t5_1, t6_0)) else (if lx54 = (0 : Int32) then (F_DW_shorten_c107 x2 x3 x4 x5 t0_0 t0_1 t1_0 t1_1 t2_0 t3_0 t3_1 t4_0 t5_0 t5_1 t6_0 p44 lx54 lx55 lx56 lx57 p106 (p106.2.1 : Int32) (p106.2.2.1 : Int32) (p106.2.2.2.1 : (Nat → Int32)) (p106.2.2.2.2.1 : Int32) (p106.2.2.2.2.2.1 : Int32) (p106.2.2.2.2.2.2 : (Nat → Int32)) ((F_Mil_countFigures (220 : Int32) t5_0 t5_1 t6_0 (p106.2.1 : Int32) (p106.2.2.1 : Int32) (p106.2.2.2.1 : (Nat → Int32))) : (Int32 × Int32 × Int32 × (Nat → Int32)))) else (F_DW_shorten_c85 x2 x3 x4 x5 t0_0 t0_1 t1_0 t1_1 t2_0 t3_0 t3_1 t4_0 t5_0 t5_1 t6_0 p44 lx54 lx55 lx56 lx57 p106 (p106.2.2.2.2.1 : Int32) (p106.2.2.2.2.2.1 : Int32) (p106.2.2.2.2.2.2 : (Nat → Int32)) ((F_Mil_dropZeros (220 : Int32) (t0_0 - x4 : Int64) t5_0 t5_1 t6_0 (p106.2.1 : Int32) (p106.2.2.1 : Int32) (p106.2.2.2.1 : (Nat → Int32))) : (Int32 × Int32 × Int32 × (Nat → Int32) × Int32 × Int32 × (Nat → Int32)))))
def F_DW_shorten_J44 (x2 : Int32) (x3 : Int32) (x4 : Int64) (x5 : Int32) (t0_0 : Int64) (t0_1 : Int32) (t1_0 : Int32) (t1_1 : Int32) (t2_0 : (Nat → Int32)) (t3_0 : Int32) (t3_1 : Int32) (t4_0 : (Nat → Int32)) (t5_0 : Int32) (t5_1 : Int32) (t6_0 : (Nat → Int32)) (p44 : (Int32 × Int32 × (Nat → Int32))) (lx54 : Int32) (lx55 : Int32) (lx56 : Int32) (lx57 : (Nat → Int32)) : Int32 × Int64 × Int32 × Int32 × Int32 × (Nat → Int32) × Int32 × Int32 × (Nat → Int32) × Int32 × Int32 × (Nat → Int32) := F_DW_shorten_c50 x2 x3 x4 x5 t0_0 t0_1 t1_0 t1_1 t2_0 t3_0 t3_1 t4_0 t5_0 t5_1 t6_0 p44 lx54 lx55 lx56 lx57 ((F_DW_roundLast x2 x5 t0_0 t0_1 t1_0 t1_1 t2_0 lx55 lx56 lx57) : (Int32 × Int32 × Int32 × (Nat → Int32) × Int32 × Int32 × (Nat → Int32)))
def F_DW_shorten_J43 (x2 : Int32) (x3 : Int32) (x4 : Int64) (x5 : Int32) (t0_0 : Int64) (t0_1 : Int32) (t1_0 : Int32) (t1_1 : Int32) (t2_0 : (Nat → Int32)) (t3_0 : Int32) (t3_1 : Int32) (t4_0 : (Nat → Int32)) (t5_0 : Int32) (t5_1 : Int32) (t6_0 : (Nat → Int32)) (p44 : (Int32 × Int32 × (Nat → Int32))) (lx236 : Int32) (lx237 : Int32) (lx238 : (Nat → Int32)) : Int32 × Int64 × Int32 × Int32 × Int32 × (Nat → Int32) × Int32 × Int32 × (Nat → Int32) × Int32 × Int32 × (Nat → Int32) := F_DW_shorten_J44 x2 x3 x4 x5 t0_0 t0_1 t1_0 t1_1 t2_0 t3_0 t3_1 t4_0 t5_0 t5_1 t6_0 p44 0 lx236 lx237 lx238
def F_DW_shorten_c33 (x2 : Int32) (x3 : Int32) (x4 : Int64) (x5 : Int32) (t0_0 : Int64) (t0_1 : Int32) (t1_0 : Int32) (t1_1 : Int32) (t2_0 : (Nat → Int32)) (t3_0 : Int32) (t3_1 : Int32) (t4_0 : (Nat → Int32)) (t5_0 : Int32) (t5_1 : Int32) (t6_0 : (Nat → Int32)) (p44 : (Int32 × Int32 × (Nat → Int32))) (p275 : (Int32 × Int32 × Int32 × (Nat → Int32))) : Int32 × Int64 × Int32 × Int32 × Int32 × (Nat → Int32) × Int32 × Int32 × (Nat → Int32) × Int32 × Int32 × (Nat → Int32) := if (p275.1 : Int32) = (0 : Int32) then (F_DW_shorten_J44 x2 x3 x4 x5 t0_0 t0_1 t1_0 t1_1 t2_0 t3_0 t3_1 t4_0 t5_0 t5_1 t6_0 p44 1 (p275.2.1 : Int32) (p275.2.2.1 : Int32) (p275.2.2.2 : (Nat → Int32))) else (F_DW_shorten_J43 x2 x3 x4 x5 t0_0 t0_1 t1_0 t1_1 t2_0 t3_0 t3_1 t4_0 t5_0 t5_1 t6_0 p44 (p275.2.1 : Int32) (p275.2.2.1 : Int32) (p275.2.2.2 : (Nat → Int32)))
def F_DW_shorten_c14 (x2 : Int32) (x3 : Int32) (x4 : Int64) (x5 : Int32) (t0_0 : Int64) (t0_1 : Int32) (t1_0 : Int32) (t1_1 : Int32) (t2_0 : (Nat → Int32)) (t3_0 : Int32) (t3_1 : Int32) (t4_0 : (Nat → Int32)) (t5_0 : Int32) (t5_1 : Int32) (t6_0 : (Nat → Int32)) (p44 : (Int32 × Int32 × (Nat → Int32))) : Int32 × Int64 × Int32 × Int32 × Int32 × (Nat → Int32) × Int32 × Int32 × (Nat → Int32) × Int32 × Int32 × (Nat → Int32) := if t0_1 = (0 : Int32) then (F_DW_shorten_c33 x2 x3 x4 x5 t0_0 t0_1 t1_0 t1_1 t2_0 t3_0 t3_1 t4_0 t5_0 t5_1 t6_0 p44 ((F_Big_divideSmall (220 : Int32) (10 : Int32) (p44.1 : Int32) (p44.2.1 : Int32) (p44.2.2 : (Nat → Int32))) : (Int32 × Int32 × Int32 × (Nat → Int32)))) else (F_DW_shorten_J43 x2 x3 x4 x5 t0_0 t0_1 t1_0 t1_1 t2_0 t3_0 t3_1 t4_0 t5_0 t5_1 t6_0 p44 (p44.1 : Int32) (p44.2.1 : Int32) (p44.2.2 : (Nat → Int32)))
def F_DW_shorten (x2 : Int32) (x3 : Int32) (x4 : Int64) (x5 : Int32) (t0_0 : Int64) (t0_1 : Int32) (t1_0 : Int32) (t1_1 : Int32) (t2_0 : (Nat → Int32)) (t3_0 : Int32) (t3_1 : Int32) (t4_0 : (Nat → Int32)) (t5_0 : Int32) (t5_1 : Int32) (t6_0 : (Nat → Int32)) : Int32 × Int64 × Int32 × Int32 × Int32 × (Nat → Int32) × Int32 × Int32 × (Nat → Int32) × Int32 × Int32 × (Nat → Int32) := F_DW_shorten_c14 x2 x3 x4 x5 t0_0 t0_1 t1_0 t1_1 t2_0 t3_0 t3_1 t4_0 t5_0 t5_1 t6_0 ((F_Big_copy (220 : Int32) (220 : Int32) t3_0 t3_1 t4_0 t1_0 t1_1 t2_0) : (Int32 × Int32 × (Nat → Int32)))
set_option maxRecDepth 100000 in
set_option maxHeartbeats 4000000 in
theorem X_DW_shorten (l : Launch) (D : va_G) (g : Nat → ClassId) (q : Nat → Nat) (ws : va_W) (x2 : Int32) (x3 : Int32) (x4 : Int64) (x5 : Int32) (hI : q_I (nsh g q) q ws) (t0_0 : Int64) (t0_1 : Int32) (hT0 : ws[30]? = (some (q 30, .inr (5, [.ref (q 31), .long t0_0, .ref (q 9), .int t0_1])) : Option (Nat × va_E))) (t1_0 : Int32) (t1_1 : Int32) (hT1 : ws[10]? = (some (q 10, .inr (2, [.ref (q 11), .int t1_0, .int t1_1])) : Option (Nat × va_E))) (t2_0 : (Nat → Int32)) (hT2 : ws[11]? = (some (q 11, .inl (g 0, (220 : Int32).toNatClampNeg, .inl t2_0)) : Option (Nat × va_E))) (t3_0 : Int32) (t3_1 : Int32) (hT3 : ws[22]? = (some (q 22, .inr (2, [.ref (q 23), .int t3_0, .int t3_1])) : Option (Nat × va_E))) (t4_0 : (Nat → Int32)) (hT4 : ws[23]? = (some (q 23, .inl (g 0, (220 : Int32).toNatClampNeg, .inl t4_0)) : Option (Nat × va_E))) (t5_0 : Int32) (t5_1 : Int32) (hT5 : ws[20]? = (some (q 20, .inr (2, [.ref (q 21), .int t5_0, .int t5_1])) : Option (Nat × va_E))) (t6_0 : (Nat → Int32)) (hT6 : ws[21]? = (some (q 21, .inl (g 0, (220 : Int32).toNatClampNeg, .inl t6_0)) : Option (Nat × va_E))) (hzx2 : 0 ≤ x2.toInt ∧ x2.toInt ≤ 1) : q_mI l y_DW_shorten prog_4_method_16_code 7 (.boolean) 5 0 0 D g [.ref (q 30), .int x2, .int x3, .long x4, .int x5] ws (fun r u => q_I (nsh g q) q u ∧ q_un ws u [10, 11, 20, 21, 22, 23, 30] ∧ ∃ (u0_0 : Int64) (u0_1 : Int32) (u1_0 : Int32) (u1_1 : Int32) (u2_0 : (Nat → Int32)) (u3_0 : Int32) (u3_1 : Int32) (u4_0 : (Nat → Int32)) (u5_0 : Int32) (u5_1 : Int32) (u6_0 : (Nat → Int32)), u[30]? = (some (q 30, .inr (5, [.ref (q 31), .long u0_0, .ref (q 9), .int u0_1])) : Option (Nat × va_E)) ∧ u[10]? = (some (q 10, .inr (2, [.ref (q 11), .int u1_0, .int u1_1])) : Option (Nat × va_E)) ∧ u[11]? = (some (q 11, .inl (g 0, (220 : Int32).toNatClampNeg, .inl u2_0)) : Option (Nat × va_E)) ∧ u[22]? = (some (q 22, .inr (2, [.ref (q 23), .int u3_0, .int u3_1])) : Option (Nat × va_E)) ∧ u[23]? = (some (q 23, .inl (g 0, (220 : Int32).toNatClampNeg, .inl u4_0)) : Option (Nat × va_E)) ∧ u[20]? = (some (q 20, .inr (2, [.ref (q 21), .int u5_0, .int u5_1])) : Option (Nat × va_E)) ∧ u[21]? = (some (q 21, .inl (g 0, (220 : Int32).toNatClampNeg, .inl u6_0)) : Option (Nat × va_E)) ∧ (0 ≤ r.toInt) ∧ (r.toInt ≤ 1) ∧ (0 ≤ u1_0.toInt) ∧ (u1_0.toInt ≤ 220) ∧ (0 ≤ u1_1.toInt) ∧ (u1_1.toInt ≤ 1) ∧ (0 ≤ u3_0.toInt) ∧ (u3_0.toInt ≤ 220) ∧ (0 ≤ u3_1.toInt) ∧ (u3_1.toInt ≤ 1) ∧ (0 ≤ u5_0.toInt) ∧ (u5_0.toInt ≤ 220) ∧ (0 ≤ u5_1.toInt) ∧ (u5_1.toInt ≤ 1) ∧ (t0_1.toInt ≤ u0_1.toInt) ∧ (u0_1.toInt ≤ t0_1.toInt) ∧ (u3_0.toInt ≤ t1_0.toInt + 3) ∧ (r, u0_0, u0_1, u1_0, u1_1, u2_0, u3_0, u3_1, u4_0, u5_0, u5_1, u6_0) = (F_DW_shorten x2 x3 x4 x5 t0_0 t0_1 t1_0 t1_1 t2_0 t3_0 t3_1 t4_0 t5_0 t5_1 t6_0)) := by
  intro sz
  refine q_into (by decide) (Nat.le_of_ble_eq_true rfl) ?_
  intro p e s m below meth c ls hsz C0 V hl
  have hx := C0.1
  have hb := C0.2.1
  replace hzx2 : q_F (0 ≤ x2.toInt ∧ x2.toInt ≤ 1) := hzx2
  have btt0_1 := n_w30 hI hT0
  replace btt0_1 : q_F (0 ≤ t0_1.toInt ∧ t0_1.toInt ≤ 1) := btt0_1
  have btt1_1 := (q_bigW hI (n_b10 g q) hT1).2
  replace btt1_1 : q_F (0 ≤ t1_1.toInt ∧ t1_1.toInt ≤ 1) := btt1_1
  have btt3_1 := (q_bigW hI (n_b22 g q) hT3).2
  clear btt3_1
  obtain ⟨btt5_0, btt5_1⟩ := q_bigW hI (n_b20 g q) hT5
  replace btt5_0 : q_F (0 ≤ t5_0.toInt ∧ t5_0.toInt ≤ 220) := btt5_0
  replace btt5_1 : q_F (0 ≤ t5_1.toInt ∧ t5_1.toInt ≤ 1) := btt5_1
  have hF : q_un ws ws [10, 11, 20, 21, 22, 23, 30] := q_u0
  have hl : lv_has ls 7 [(0, .ref (q 30)), (1, .int x2), (2, .int x3), (3, .long x4), (5, .int x5)] := hl
  refine lv_aload_n hx hb d_4_16_0 rfl (lv_at hl 0 rfl) ?_
  refine q_get (ci := 5) (j := 2) (v := .ref (q 9)) C0 V i_DW rfl rfl hT0 (by decide) w_214 rfl d_4_16_1 ?_
  have hO29 := n_o9 hI
  refine q_get (ci := 4) (j := 6) (v := .ref (q 22)) C0 V i_Mil rfl rfl hO29 (by decide) w_126 rfl d_4_16_4 ?_
  refine lv_aload_n hx hb d_4_16_7 rfl (lv_at hl 0 rfl) ?_
  refine q_get (ci := 5) (j := 2) (v := .ref (q 9)) C0 V i_DW rfl rfl hT0 (by decide) w_214 rfl d_4_16_8 ?_
  refine q_get (ci := 4) (j := 0) (v := .ref (q 10)) C0 V i_Mil rfl rfl hO29 (by decide) w_111 rfl d_4_16_11 ?_
  refine q_gov V (q_runV (As := [.ref (q 10)]) (rest := []) (d := 2) (mc := 0) (ms := 0) (ci := 2) C0 V rfl LV_DW_44 (X_Big_copy l D g q ws 22 220 (n_b22 g q) (by decide) 10 220 (n_b10 g q) (by decide)  (by decide) hI t3_0 t3_1 hT3 t4_0 hT4 t1_0 t1_1 hT1 t2_0 hT2  _) rfl rfl hT3 rfl hl.1 rfl (Nat.le_of_ble_eq_true rfl) ⟨by decide, by decide⟩ ⟨Nat.le_of_ble_eq_true rfl, Nat.le_of_ble_eq_true rfl⟩ d_4_16_14) (fun u30 H locs hp31 V => ?_)
  obtain ⟨hI, hZ9⟩ := hp31
  obtain ⟨hu43, hZ9⟩ := hZ9
  obtain ⟨y33, hZ9⟩ := hZ9
  obtain ⟨y34, hZ9⟩ := hZ9
  obtain ⟨f35, hZ9⟩ := hZ9
  obtain ⟨hO32, hZ9⟩ := hZ9
  obtain ⟨hA36, hZ9⟩ := hZ9
  obtain ⟨b37, hZ9⟩ := hZ9
  obtain ⟨b38, hZ9⟩ := hZ9
  replace hZ9 := hZ9.2
  obtain ⟨b40, hZ9⟩ := hZ9
  obtain ⟨b41, hE42⟩ := hZ9
  replace hO32 : u30[22]? = (some (q 22, .inr (2, [.ref (q 23), .int y33, .int y34])) : Option (Nat × va_E)) := hO32
  replace hA36 : u30[23]? = (some (q 23, .inl (g 0, (220 : Int32).toNatClampNeg, .inl f35)) : Option (Nat × va_E)) := hA36
  obtain ⟨p44, e45⟩ : ∃ z, z = (F_Big_copy (220 : Int32) (220 : Int32) t3_0 t3_1 t4_0 t1_0 t1_1 t2_0) := ⟨_, rfl⟩
  have e46 : y33 = p44.1 := congrArg (fun z => z.1) (hE42.trans e45.symm)
  have e47 : y34 = p44.2.1 := congrArg (fun z => z.2.1) (hE42.trans e45.symm)
  have e48 : f35 = p44.2.2 := congrArg (fun z => z.2.2) (hE42.trans e45.symm)
  replace b37 : q_F (0 ≤ y33.toInt) := b37
  replace b38 : q_F (y33.toInt ≤ t1_0.toInt) := b38
  replace b40 : q_F (t1_1.toInt ≤ y34.toInt) := b40
  replace b41 : q_F (y34.toInt ≤ t1_1.toInt) := b41
  replace hT0 := (hu43 _ (by decide)).trans hT0
  replace hT1 := (hu43 _ (by decide)).trans hT1
  replace hT2 := (hu43 _ (by decide)).trans hT2
  replace hT5 := (hu43 _ (by decide)).trans hT5
  replace hT6 := (hu43 _ (by decide)).trans hT6
  replace hO29 := (hu43 _ (by decide)).trans hO29
  replace hF := q_uc hF hu43 (by first | exact (q_sk (q_mi 4 rfl) (q_sk (q_mi 5 rfl) q_s0)) | simp)
  have hR49 := (show F_DW_shorten_c14 x2 x3 x4 x5 t0_0 t0_1 t1_0 t1_1 t2_0 t3_0 t3_1 t4_0 t5_0 t5_1 t6_0 p44 = (F_DW_shorten x2 x3 x4 x5 t0_0 t0_1 t1_0 t1_1 t2_0 t3_0 t3_1 t4_0 t5_0 t5_1 t6_0) from (by rw [e45, F_DW_shorten.eq_1]))
  refine lv_aload_n hx hb d_4_16_17 rfl (lv_at hl 0 rfl) ?_
  refine q_get (ci := 5) (j := 3) (v := .int t0_1) C0 V i_DW rfl rfl hT0 (by decide) w_215 rfl d_4_16_18 ?_
  refine q_join (X := Int32 × Int32 × Int32 × (Nat → Int32)) (fun z H locs ls w74 => q_F (z.2.1.toInt ≤ y33.toInt) ∧ q_F (z.2.2.1.toInt ≤ y34.toInt) ∧ q_F (z.2.2.1.toInt ≤ z.1.toInt + 1) ∧ q_F (z.1.toInt ≤ z.2.2.1.toInt + 1) ∧ q_F (0 ≤ z.1.toInt + z.2.2.1.toInt) ∧ q_F (z.1.toInt + z.2.2.1.toInt ≤ 2) ∧ q_F (z.2.2.1.toInt ≤ z.2.1.toInt + 1) ∧ q_F (0 ≤ z.2.1.toInt + z.2.2.1.toInt) ∧ q_Wd D g (va_A ws sz) s w74 H locs ∧ lv_has ls 7 [(0, .ref (q 30)), (1, .int x2), (2, .int x3), (3, .long x4), (5, .int x5)] ∧ q_I (nsh g q) q w74 ∧ q_un ws w74 [10, 11, 20, 21, 22, 23, 30] ∧ w74[30]? = (some (q 30, .inr (5, [.ref (q 31), .long t0_0, .ref (q 9), .int t0_1])) : Option (Nat × va_E)) ∧ w74[10]? = (some (q 10, .inr (2, [.ref (q 11), .int t1_0, .int t1_1])) : Option (Nat × va_E)) ∧ w74[11]? = (some (q 11, .inl (g 0, (220 : Int32).toNatClampNeg, .inl t2_0)) : Option (Nat × va_E)) ∧ w74[22]? = (some (q 22, .inr (2, [.ref (q 23), .int z.2.1, .int z.2.2.1])) : Option (Nat × va_E)) ∧ w74[23]? = (some (q 23, .inl (g 0, (220 : Int32).toNatClampNeg, .inl z.2.2.2)) : Option (Nat × va_E)) ∧ w74[20]? = (some (q 20, .inr (2, [.ref (q 21), .int t5_0, .int t5_1])) : Option (Nat × va_E)) ∧ w74[21]? = (some (q 21, .inl (g 0, (220 : Int32).toNatClampNeg, .inl t6_0)) : Option (Nat × va_E)) ∧ F_DW_shorten_J44 x2 x3 x4 x5 t0_0 t0_1 t1_0 t1_1 t2_0 t3_0 t3_1 t4_0 t5_0 t5_1 t6_0 p44 z.1 z.2.1 z.2.2.1 z.2.2.2 = (F_DW_shorten x2 x3 x4 x5 t0_0 t0_1 t1_0 t1_1 t2_0 t3_0 t3_1 t4_0 t5_0 t5_1 t6_0)) (fun z => [.int z.1]) 44 0 0 ?_ ?_
  ·
    rintro ⟨lx54, lx55, lx56, lx57⟩ H locs ls w74 ⟨i66, i67, i68, i69, i70, i71, i72, i73, V, hl, hI, hF, hO58, hO59, hA60, hO61, hA62, hO63, hA64, hR75⟩
    replace i66 : q_F (lx55.toInt ≤ y33.toInt) := i66
    clear i67
    clear i68
    clear i69
    clear i70
    clear i71
    clear i72
    clear i73
    replace hl : lv_has ls 7 [(0, .ref (q 30)), (1, .int x2), (2, .int x3), (3, .long x4), (5, .int x5)] := hl
    replace hO58 : w74[30]? = (some (q 30, .inr (5, [.ref (q 31), .long t0_0, .ref (q 9), .int t0_1])) : Option (Nat × va_E)) := hO58
    replace hO59 : w74[10]? = (some (q 10, .inr (2, [.ref (q 11), .int t1_0, .int t1_1])) : Option (Nat × va_E)) := hO59
    replace hA60 : w74[11]? = (some (q 11, .inl (g 0, (220 : Int32).toNatClampNeg, .inl t2_0)) : Option (Nat × va_E)) := hA60
    replace hO61 : w74[22]? = (some (q 22, .inr (2, [.ref (q 23), .int lx55, .int lx56])) : Option (Nat × va_E)) := hO61
    replace hA62 : w74[23]? = (some (q 23, .inl (g 0, (220 : Int32).toNatClampNeg, .inl lx57)) : Option (Nat × va_E)) := hA62
    replace hO63 : w74[20]? = (some (q 20, .inr (2, [.ref (q 21), .int t5_0, .int t5_1])) : Option (Nat × va_E)) := hO63
    replace hA64 : w74[21]? = (some (q 21, .inl (g 0, (220 : Int32).toNatClampNeg, .inl t6_0)) : Option (Nat × va_E)) := hA64
    refine lv_istore (lv' := [(6, .int lx54), (0, .ref (q 30)), (1, .int x2), (2, .int x3), (3, .long x4), (5, .int x5)]) hx hb d_4_16_44 hl (by decide) rfl (fun ls hl => ?_)
    refine lv_aload_n hx hb d_4_16_46 rfl (lv_at hl 1 rfl) ?_
    refine lv_iload_n hx hb d_4_16_47 rfl (lv_at hl 2 rfl) ?_
    refine lv_iload hx hb d_4_16_48 (lv_at hl 5 rfl) ?_
    refine q_goi V (q_runV (As := [.int x2, .int x5]) (rest := []) (d := 4) (mc := 0) (ms := 0) (ci := 5) C0 V rfl LV_DW_142 (X_DW_roundLast l D g q w74  x2 x5 hI t0_0 t0_1 hO58 t1_0 t1_1 hO59 t2_0 hA60 lx55 lx56 hO61 lx57 hA62 (by first | with_reducible exact q_fe hzx2 | exact ⟨(by have t1 : 0 ≤ x2.toInt ∧ x2.toInt ≤ 1 := hzx2; omega), (by have t1 : 0 ≤ x2.toInt ∧ x2.toInt ≤ 1 := hzx2; omega)⟩) _) rfl rfl hO58 rfl hl.1 rfl (Nat.le_of_ble_eq_true rfl) ⟨by decide, by decide⟩ ⟨Nat.le_of_ble_eq_true rfl, Nat.le_of_ble_eq_true rfl⟩ d_4_16_50) (fun a82 u80 H locs hp81 V => ?_)
    obtain ⟨hI, hZ9⟩ := hp81
    obtain ⟨hu105, hZ9⟩ := hZ9
    obtain ⟨y84, hZ9⟩ := hZ9
    obtain ⟨y85, hZ9⟩ := hZ9
    obtain ⟨f86, hZ9⟩ := hZ9
    obtain ⟨y89, hZ9⟩ := hZ9
    obtain ⟨y90, hZ9⟩ := hZ9
    obtain ⟨f91, hZ9⟩ := hZ9
    obtain ⟨hO83, hZ9⟩ := hZ9
    obtain ⟨hA87, hZ9⟩ := hZ9
    obtain ⟨hO88, hZ9⟩ := hZ9
    obtain ⟨hA92, hZ9⟩ := hZ9
    replace hZ9 := hZ9.2.2
    obtain ⟨b95, hZ9⟩ := hZ9
    obtain ⟨b96, hZ9⟩ := hZ9
    obtain ⟨b97, hZ9⟩ := hZ9
    obtain ⟨b98, hZ9⟩ := hZ9
    obtain ⟨b99, hZ9⟩ := hZ9
    obtain ⟨b100, hZ9⟩ := hZ9
    obtain ⟨b101, hZ9⟩ := hZ9
    obtain ⟨b102, hZ9⟩ := hZ9
    obtain ⟨b103, hE104⟩ := hZ9
    replace hO83 : u80[10]? = (some (q 10, .inr (2, [.ref (q 11), .int y84, .int y85])) : Option (Nat × va_E)) := hO83
    replace hA87 : u80[11]? = (some (q 11, .inl (g 0, (220 : Int32).toNatClampNeg, .inl f86)) : Option (Nat × va_E)) := hA87
    replace hO88 : u80[22]? = (some (q 22, .inr (2, [.ref (q 23), .int y89, .int y90])) : Option (Nat × va_E)) := hO88
    replace hA92 : u80[23]? = (some (q 23, .inl (g 0, (220 : Int32).toNatClampNeg, .inl f91)) : Option (Nat × va_E)) := hA92
    obtain ⟨p106, e107⟩ : ∃ z, z = (F_DW_roundLast x2 x5 t0_0 t0_1 t1_0 t1_1 t2_0 lx55 lx56 lx57) := ⟨_, rfl⟩
    have e108 : a82 = p106.1 := congrArg (fun z => z.1) (hE104.trans e107.symm)
    have e109 : y84 = p106.2.1 := congrArg (fun z => z.2.1) (hE104.trans e107.symm)
    have e110 : y85 = p106.2.2.1 := congrArg (fun z => z.2.2.1) (hE104.trans e107.symm)
    have e111 : f86 = p106.2.2.2.1 := congrArg (fun z => z.2.2.2.1) (hE104.trans e107.symm)
    have e112 : y89 = p106.2.2.2.2.1 := congrArg (fun z => z.2.2.2.2.1) (hE104.trans e107.symm)
    have e113 : y90 = p106.2.2.2.2.2.1 := congrArg (fun z => z.2.2.2.2.2.1) (hE104.trans e107.symm)
    have e114 : f91 = p106.2.2.2.2.2.2 := congrArg (fun z => z.2.2.2.2.2.2) (hE104.trans e107.symm)
    replace b95 : q_F (y84.toInt ≤ 220) := b95
    replace b96 : q_F (0 ≤ y85.toInt) := b96
    replace b97 : q_F (y85.toInt ≤ 1) := b97
    replace b98 : q_F (0 ≤ y89.toInt) := b98
    replace b99 : q_F (y89.toInt ≤ 220) := b99
    replace b100 : q_F (0 ≤ y90.toInt) := b100
    replace b101 : q_F (y90.toInt ≤ 1) := b101
    replace b102 : q_F (y89.toInt ≤ lx55.toInt + 3) := b102
    replace b103 : q_F (y85.toInt ≤ y84.toInt) := b103
    replace hO58 := (hu105 _ (by decide)).trans hO58
    replace hO63 := (hu105 _ (by decide)).trans hO63
    replace hA64 := (hu105 _ (by decide)).trans hA64
    replace hF := q_uc hF hu105 (by first | exact (q_sk (q_mi 0 rfl) (q_sk (q_mi 1 rfl) (q_sk (q_mi 4 rfl) (q_sk (q_mi 5 rfl) q_s0)))) | simp)
    have hR115 := (show F_DW_shorten_c50 x2 x3 x4 x5 t0_0 t0_1 t1_0 t1_1 t2_0 t3_0 t3_1 t4_0 t5_0 t5_1 t6_0 p44 lx54 lx55 lx56 lx57 p106 = (F_DW_shorten x2 x3 x4 x5 t0_0 t0_1 t1_0 t1_1 t2_0 t3_0 t3_1 t4_0 t5_0 t5_1 t6_0) from Eq.trans (by rw [e107, F_DW_shorten_J44.eq_1]) hR75)
    refine lv_if_ne (tgt := 58) hx hb d_4_16_53 (by decide) (fun c120 => ?_) (fun c120 => ?_)
    ·
      refine lv_iload hx hb d_4_16_58 (lv_at hl 0 rfl) ?_
      refine lv_if_eq (tgt := 96) hx hb d_4_16_60 (by decide) (fun c122 => ?_) (fun c122 => ?_)
      ·
        refine lv_aload_n hx hb d_4_16_96 rfl (lv_at hl 1 rfl) ?_
        refine q_get (ci := 5) (j := 2) (v := .ref (q 9)) C0 V i_DW rfl rfl hO58 (by decide) w_214 rfl d_4_16_97 ?_
        refine lv_aload_n hx hb d_4_16_100 rfl (lv_at hl 1 rfl) ?_
        refine q_get (ci := 5) (j := 2) (v := .ref (q 9)) C0 V i_DW rfl rfl hO58 (by decide) w_214 rfl d_4_16_101 ?_
        have hO124 := n_o9 hI
        refine q_get (ci := 4) (j := 0) (v := .ref (q 10)) C0 V i_Mil rfl rfl hO124 (by decide) w_111 rfl d_4_16_104 ?_
        refine q_goi V (q_runV (As := [.ref (q 10)]) (rest := []) (d := 4) (mc := 0) (ms := 0) (ci := 4) C0 V rfl LV_DW_34 (X_Mil_countFigures l D g q u80 10 220 (n_b10 g q) (by decide)  (by decide) (by decide) (by decide) hI t5_0 t5_1 hO63 t6_0 hA64 y84 y85 hO83 f86 hA87  _) rfl rfl hO124 rfl hl.1 rfl (Nat.le_of_ble_eq_true rfl) ⟨by decide, by decide⟩ ⟨Nat.le_of_ble_eq_true rfl, Nat.le_of_ble_eq_true rfl⟩ d_4_16_107) (fun a127 u125 H locs hp126 V => ?_)
        obtain ⟨hI, hZ9⟩ := hp126
        obtain ⟨hu138, hZ9⟩ := hZ9
        obtain ⟨y129, hZ9⟩ := hZ9
        obtain ⟨y130, hZ9⟩ := hZ9
        obtain ⟨f131, hZ9⟩ := hZ9
        obtain ⟨hO128, hZ9⟩ := hZ9
        obtain ⟨hA132, hZ9⟩ := hZ9
        obtain ⟨b133, hZ9⟩ := hZ9
        obtain ⟨b134, hZ9⟩ := hZ9
        obtain ⟨b135, hZ9⟩ := hZ9
        obtain ⟨b136, hE137⟩ := hZ9
        replace hO128 : u125[20]? = (some (q 20, .inr (2, [.ref (q 21), .int y129, .int y130])) : Option (Nat × va_E)) := hO128
        replace hA132 : u125[21]? = (some (q 21, .inl (g 0, (220 : Int32).toNatClampNeg, .inl f131)) : Option (Nat × va_E)) := hA132
        obtain ⟨p139, e140⟩ : ∃ z, z = (F_Mil_countFigures (220 : Int32) t5_0 t5_1 t6_0 y84 y85 f86) := ⟨_, rfl⟩
        have e141 : a127 = p139.1 := congrArg (fun z => z.1) (hE137.trans e140.symm)
        have e142 : y129 = p139.2.1 := congrArg (fun z => z.2.1) (hE137.trans e140.symm)
        have e143 : y130 = p139.2.2.1 := congrArg (fun z => z.2.2.1) (hE137.trans e140.symm)
        have e144 : f131 = p139.2.2.2 := congrArg (fun z => z.2.2.2) (hE137.trans e140.symm)
        replace b133 : q_F (0 ≤ y129.toInt) := b133
        replace b134 : q_F (y129.toInt ≤ 220) := b134
        replace b135 : q_F (0 ≤ y130.toInt) := b135
        replace b136 : q_F (y130.toInt ≤ 1) := b136
        replace hO58 := (hu138 _ (by decide)).trans hO58
        replace hO83 := (hu138 _ (by decide)).trans hO83
        replace hA87 := (hu138 _ (by decide)).trans hA87
        replace hO88 := (hu138 _ (by decide)).trans hO88
        replace hA92 := (hu138 _ (by decide)).trans hA92
        replace hO124 := (hu138 _ (by decide)).trans hO124
        replace hF := q_uc hF hu138 (by first | exact (q_sk (q_mi 2 rfl) (q_sk (q_mi 3 rfl) q_s0)) | simp)
        have hR145 := (show F_DW_shorten_c107 x2 x3 x4 x5 t0_0 t0_1 t1_0 t1_1 t2_0 t3_0 t3_1 t4_0 t5_0 t5_1 t6_0 p44 lx54 lx55 lx56 lx57 p106 y84 y85 f86 y89 y90 f91 p139 = (F_DW_shorten x2 x3 x4 x5 t0_0 t0_1 t1_0 t1_1 t2_0 t3_0 t3_1 t4_0 t5_0 t5_1 t6_0) from Eq.trans (by have c120x := c120; rw [e108] at c120x; rw [e140, e114, e113, e112, e111, e110, e109, F_DW_shorten_c50.eq_1, if_neg c120x, if_pos c122]) hR115)
        refine lv_iload_n hx hb d_4_16_110 rfl (lv_at hl 3 rfl) ?_
        refine lv_icmp_le (tgt := 136) hx hb d_4_16_111 (by decide) (fun c150 => ?_) (fun c150 => ?_)
        ·
          refine lv_iconst (v := 1) hx hb d_4_16_136 (by decide) ?_
          exact q_retz C0 V (by decide) (⟨hI, hF, t0_0, t0_1, y84, y85, f86, y89, y90, f91, y129, y130, f131, hO58, hO83, hA87, hO88, hA92, hO128, hA132, (show 0 ≤ (1 : Int32).toInt from (by have z15 : (1 : Int32).toInt = 1 := rfl; omega)), (show (1 : Int32).toInt ≤ 1 from (by have z15 : (1 : Int32).toInt = 1 := rfl; omega)), (show 0 ≤ y84.toInt from (by have z15 : (1 : Int32).toInt = 1 := rfl; have t1 : 0 ≤ y85.toInt := b96; have t2 : y85.toInt ≤ y84.toInt := b103; omega)), (show y84.toInt ≤ 220 from (by have z15 : (1 : Int32).toInt = 1 := rfl; have t1 : y84.toInt ≤ 220 := b95; omega)), (show 0 ≤ y85.toInt from (by have z15 : (1 : Int32).toInt = 1 := rfl; have t1 : 0 ≤ y85.toInt := b96; omega)), (show y85.toInt ≤ 1 from (by have z15 : (1 : Int32).toInt = 1 := rfl; have t1 : y85.toInt ≤ 1 := b97; omega)), (show 0 ≤ y89.toInt from (by have z15 : (1 : Int32).toInt = 1 := rfl; have t1 : 0 ≤ y89.toInt := b98; omega)), (show y89.toInt ≤ 220 from (by have z15 : (1 : Int32).toInt = 1 := rfl; have t1 : y89.toInt ≤ 220 := b99; omega)), (show 0 ≤ y90.toInt from (by have z15 : (1 : Int32).toInt = 1 := rfl; have t1 : 0 ≤ y90.toInt := b100; omega)), (show y90.toInt ≤ 1 from (by have z15 : (1 : Int32).toInt = 1 := rfl; have t1 : y90.toInt ≤ 1 := b101; omega)), (show 0 ≤ y129.toInt from (by have z15 : (1 : Int32).toInt = 1 := rfl; have t1 : 0 ≤ y129.toInt := b133; omega)), (show y129.toInt ≤ 220 from (by have z15 : (1 : Int32).toInt = 1 := rfl; have t1 : y129.toInt ≤ 220 := b134; omega)), (show 0 ≤ y130.toInt from (by have z15 : (1 : Int32).toInt = 1 := rfl; have t1 : 0 ≤ y130.toInt := b135; omega)), (show y130.toInt ≤ 1 from (by have z15 : (1 : Int32).toInt = 1 := rfl; have t1 : y130.toInt ≤ 1 := b136; omega)), (show t0_1.toInt ≤ t0_1.toInt from (by have z15 : (1 : Int32).toInt = 1 := rfl; omega)), (show t0_1.toInt ≤ t0_1.toInt from (by have z15 : (1 : Int32).toInt = 1 := rfl; omega)), (show y89.toInt ≤ t1_0.toInt + 3 from (by have z15 : (1 : Int32).toInt = 1 := rfl; have t1 : y33.toInt ≤ t1_0.toInt := b38; have t2 : lx55.toInt ≤ y33.toInt := i66; have t3 : y89.toInt ≤ lx55.toInt + 3 := b102; omega)), (show ((1 : Int32), t0_0, t0_1, y84, y85, f86, y89, y90, f91, y129, y130, f131) = (F_DW_shorten x2 x3 x4 x5 t0_0 t0_1 t1_0 t1_1 t2_0 t3_0 t3_1 t4_0 t5_0 t5_1 t6_0) from Eq.trans (by have c150x := c150; rw [e141] at c150x; rw [e144, e143, e142, F_DW_shorten_c107.eq_1, if_pos c150x]) hR145)⟩) d_4_16_137
        ·
          refine lv_aload_n hx hb d_4_16_114 rfl (lv_at hl 1 rfl) ?_
          refine q_get (ci := 5) (j := 2) (v := .ref (q 9)) C0 V i_DW rfl rfl hO58 (by decide) w_214 rfl d_4_16_115 ?_
          refine q_get (ci := 4) (j := 0) (v := .ref (q 10)) C0 V i_Mil rfl rfl hO124 (by decide) w_111 rfl d_4_16_118 ?_
          refine lv_iconst (v := 1) hx hb d_4_16_121 (by decide) ?_
          refine q_goi V (q_runV (As := [.int 1]) (rest := []) (d := 3) (mc := 0) (ms := 0) (ci := 2) C0 V rfl LV_DW_149 (X_Big_dropFigures l D g q u125 10 220 (n_b10 g q) (by decide) 1 hI y84 y85 hO83 f86 hA87  _) rfl rfl hO83 rfl hl.1 rfl (Nat.le_of_ble_eq_true rfl) ⟨by decide, by decide⟩ ⟨Nat.le_of_ble_eq_true rfl, Nat.le_of_ble_eq_true rfl⟩ d_4_16_122) (fun a155 u153 H locs hp154 V => ?_)
          obtain ⟨hI, hZ9⟩ := hp154
          obtain ⟨hu169, hZ9⟩ := hZ9
          obtain ⟨y157, hZ9⟩ := hZ9
          obtain ⟨y158, hZ9⟩ := hZ9
          obtain ⟨f159, hZ9⟩ := hZ9
          obtain ⟨hO156, hZ9⟩ := hZ9
          obtain ⟨hA160, hZ9⟩ := hZ9
          replace hZ9 := hZ9.2.2
          obtain ⟨b163, hZ9⟩ := hZ9
          obtain ⟨b164, hZ9⟩ := hZ9
          replace hZ9 := hZ9.2
          obtain ⟨b166, hZ9⟩ := hZ9
          obtain ⟨b167, hE168⟩ := hZ9
          replace hO156 : u153[10]? = (some (q 10, .inr (2, [.ref (q 11), .int y157, .int y158])) : Option (Nat × va_E)) := hO156
          replace hA160 : u153[11]? = (some (q 11, .inl (g 0, (220 : Int32).toNatClampNeg, .inl f159)) : Option (Nat × va_E)) := hA160
          obtain ⟨p170, e171⟩ : ∃ z, z = (F_Big_dropFigures (220 : Int32) (1 : Int32) y84 y85 f86) := ⟨_, rfl⟩
          have e172 : a155 = p170.1 := congrArg (fun z => z.1) (hE168.trans e171.symm)
          have e173 : y157 = p170.2.1 := congrArg (fun z => z.2.1) (hE168.trans e171.symm)
          have e174 : y158 = p170.2.2.1 := congrArg (fun z => z.2.2.1) (hE168.trans e171.symm)
          have e175 : f159 = p170.2.2.2 := congrArg (fun z => z.2.2.2) (hE168.trans e171.symm)
          replace b163 : q_F (0 ≤ y157.toInt) := b163
          replace b164 : q_F (0 ≤ y158.toInt) := b164
          replace b166 : q_F (y157.toInt ≤ y84.toInt) := b166
          replace b167 : q_F (y158.toInt ≤ y85.toInt) := b167
          replace hO58 := (hu169 _ (by decide)).trans hO58
          replace hO88 := (hu169 _ (by decide)).trans hO88
          replace hA92 := (hu169 _ (by decide)).trans hA92
          replace hO128 := (hu169 _ (by decide)).trans hO128
          replace hA132 := (hu169 _ (by decide)).trans hA132
          replace hF := q_uc hF hu169 (by first | exact (q_sk (q_mi 0 rfl) (q_sk (q_mi 1 rfl) q_s0)) | simp)
          have hR176 := (show F_DW_shorten_c122 x2 x3 x4 x5 t0_0 t0_1 t1_0 t1_1 t2_0 t3_0 t3_1 t4_0 t5_0 t5_1 t6_0 p44 lx54 lx55 lx56 lx57 p106 y84 y85 f86 y89 y90 f91 p139 y129 y130 f131 p170 = (F_DW_shorten x2 x3 x4 x5 t0_0 t0_1 t1_0 t1_1 t2_0 t3_0 t3_1 t4_0 t5_0 t5_1 t6_0) from Eq.trans (by have c150x := c150; rw [e141] at c150x; rw [e171, e144, e143, e142, F_DW_shorten_c107.eq_1, if_neg c150x]) hR145)
          refine lv_pop hx hb d_4_16_125 rfl ?_
          refine lv_aload_n hx hb d_4_16_126 rfl (lv_at hl 1 rfl) ?_
          refine lv_dup hx hb d_4_16_127 rfl ?_
          refine q_get (ci := 5) (j := 1) (v := .long t0_0) C0 V i_DW rfl rfl hO58 (by decide) w_212 rfl d_4_16_128 ?_
          refine lv_lconst (v := 1) hx hb d_4_16_131 (by decide) ?_
          refine lv_lsub hx hb d_4_16_132 ?_
          obtain ⟨j181, e182⟩ := q_nm (t0_0 - 1 : Int64)
          refine q_tl (v := j181) e182 ?_
          refine q_put (ci := 5) (j := 1) (v := .long j181) (ty := .long) C0 V i_DW o_DW n_DW rfl rfl hO58 (by decide) w_212 rfl rfl rfl rfl (Nat.le_of_ble_eq_true rfl) d_4_16_133 (fun H locs w183 hu184 hO58 V => ?_)
          replace hO58 : w183[30]? = (some (q 30, .inr (5, [.ref (q 31), .long j181, .ref (q 9), .int t0_1])) : Option (Nat × va_E)) := hO58
          replace hI := n_p30 hI hu184 hO58 (by first | with_reducible exact q_fe btt0_1 | exact ⟨(by have t1 : 0 ≤ t0_1.toInt ∧ t0_1.toInt ≤ 1 := btt0_1; omega), (by have t1 : 0 ≤ t0_1.toInt ∧ t0_1.toInt ≤ 1 := btt0_1; omega)⟩)
          replace hO156 := (hu184 _ (by decide)).trans hO156
          replace hA160 := (hu184 _ (by decide)).trans hA160
          replace hO88 := (hu184 _ (by decide)).trans hO88
          replace hA92 := (hu184 _ (by decide)).trans hA92
          replace hO128 := (hu184 _ (by decide)).trans hO128
          replace hA132 := (hu184 _ (by decide)).trans hA132
          replace hF := q_us hF hu184 (by simp)
          refine lv_iconst (v := 1) hx hb d_4_16_136 (by decide) ?_
          exact q_retz C0 V (by decide) (⟨hI, hF, j181, t0_1, y157, y158, f159, y89, y90, f91, y129, y130, f131, hO58, hO156, hA160, hO88, hA92, hO128, hA132, (show 0 ≤ (1 : Int32).toInt from (by have z15 : (1 : Int32).toInt = 1 := rfl; omega)), (show (1 : Int32).toInt ≤ 1 from (by have z15 : (1 : Int32).toInt = 1 := rfl; omega)), (show 0 ≤ y157.toInt from (by have z15 : (1 : Int32).toInt = 1 := rfl; have t1 : 0 ≤ y157.toInt := b163; omega)), (show y157.toInt ≤ 220 from (by have z15 : (1 : Int32).toInt = 1 := rfl; have t1 : y84.toInt ≤ 220 := b95; have t2 : y157.toInt ≤ y84.toInt := b166; omega)), (show 0 ≤ y158.toInt from (by have z15 : (1 : Int32).toInt = 1 := rfl; have t1 : 0 ≤ y158.toInt := b164; omega)), (show y158.toInt ≤ 1 from (by have z15 : (1 : Int32).toInt = 1 := rfl; have t1 : y85.toInt ≤ 1 := b97; have t2 : y158.toInt ≤ y85.toInt := b167; omega)), (show 0 ≤ y89.toInt from (by have z15 : (1 : Int32).toInt = 1 := rfl; have t1 : 0 ≤ y89.toInt := b98; omega)), (show y89.toInt ≤ 220 from (by have z15 : (1 : Int32).toInt = 1 := rfl; have t1 : y89.toInt ≤ 220 := b99; omega)), (show 0 ≤ y90.toInt from (by have z15 : (1 : Int32).toInt = 1 := rfl; have t1 : 0 ≤ y90.toInt := b100; omega)), (show y90.toInt ≤ 1 from (by have z15 : (1 : Int32).toInt = 1 := rfl; have t1 : y90.toInt ≤ 1 := b101; omega)), (show 0 ≤ y129.toInt from (by have z15 : (1 : Int32).toInt = 1 := rfl; have t1 : 0 ≤ y129.toInt := b133; omega)), (show y129.toInt ≤ 220 from (by have z15 : (1 : Int32).toInt = 1 := rfl; have t1 : y129.toInt ≤ 220 := b134; omega)), (show 0 ≤ y130.toInt from (by have z15 : (1 : Int32).toInt = 1 := rfl; have t1 : 0 ≤ y130.toInt := b135; omega)), (show y130.toInt ≤ 1 from (by have z15 : (1 : Int32).toInt = 1 := rfl; have t1 : y130.toInt ≤ 1 := b136; omega)), (show t0_1.toInt ≤ t0_1.toInt from (by have z15 : (1 : Int32).toInt = 1 := rfl; omega)), (show t0_1.toInt ≤ t0_1.toInt from (by have z15 : (1 : Int32).toInt = 1 := rfl; omega)), (show y89.toInt ≤ t1_0.toInt + 3 from (by have z15 : (1 : Int32).toInt = 1 := rfl; have t1 : y33.toInt ≤ t1_0.toInt := b38; have t2 : lx55.toInt ≤ y33.toInt := i66; have t3 : y89.toInt ≤ lx55.toInt + 3 := b102; omega)), (show ((1 : Int32), j181, t0_1, y157, y158, f159, y89, y90, f91, y129, y130, f131) = (F_DW_shorten x2 x3 x4 x5 t0_0 t0_1 t1_0 t1_1 t2_0 t3_0 t3_1 t4_0 t5_0 t5_1 t6_0) from Eq.trans (by rw [← e182, e175, e174, e173, F_DW_shorten_c122.eq_1]) hR176)⟩) d_4_16_137
      ·
        refine lv_aload_n hx hb d_4_16_63 rfl (lv_at hl 1 rfl) ?_
        refine lv_dup hx hb d_4_16_64 rfl ?_
        refine q_get (ci := 5) (j := 1) (v := .long t0_0) C0 V i_DW rfl rfl hO58 (by decide) w_212 rfl d_4_16_65 ?_
        refine lv_aload_n hx hb d_4_16_68 rfl (lv_at hl 1 rfl) ?_
        refine q_get (ci := 5) (j := 2) (v := .ref (q 9)) C0 V i_DW rfl rfl hO58 (by decide) w_214 rfl d_4_16_69 ?_
        refine lv_aload_n hx hb d_4_16_72 rfl (lv_at hl 1 rfl) ?_
        refine q_get (ci := 5) (j := 2) (v := .ref (q 9)) C0 V i_DW rfl rfl hO58 (by decide) w_214 rfl d_4_16_73 ?_
        have hO186 := n_o9 hI
        refine q_get (ci := 4) (j := 0) (v := .ref (q 10)) C0 V i_Mil rfl rfl hO186 (by decide) w_111 rfl d_4_16_76 ?_
        refine lv_aload_n hx hb d_4_16_79 rfl (lv_at hl 1 rfl) ?_
        refine q_get (ci := 5) (j := 1) (v := .long t0_0) C0 V i_DW rfl rfl hO58 (by decide) w_212 rfl d_4_16_80 ?_
        refine lv_lload_n hx hb d_4_16_83 rfl (lv_at hl 4 rfl) ?_
        refine lv_lsub hx hb d_4_16_84 ?_
        obtain ⟨j187, e188⟩ := q_nm (t0_0 - x4 : Int64)
        refine q_tl (v := j187) e188 ?_
        refine q_goi V (q_runV (As := [.ref (q 10), .long j187]) (rest := [.long t0_0, .ref (q 30)]) (d := 3) (mc := 0) (ms := 0) (ci := 4) C0 V rfl LV_DW_131 (X_Mil_dropZeros l D g q u80 10 220 (n_b10 g q) (by decide) j187 (by decide) (by decide) (by decide) hI t5_0 t5_1 hO63 t6_0 hA64 y84 y85 hO83 f86 hA87  _) rfl rfl hO186 rfl hl.1 rfl (Nat.le_of_ble_eq_true rfl) ⟨by decide, by decide⟩ ⟨Nat.le_of_ble_eq_true rfl, Nat.le_of_ble_eq_true rfl⟩ d_4_16_85) (fun a191 u189 H locs hp190 V => ?_)
        obtain ⟨hI, hZ9⟩ := hp190
        obtain ⟨hu213, hZ9⟩ := hZ9
        obtain ⟨y193, hZ9⟩ := hZ9
        obtain ⟨y194, hZ9⟩ := hZ9
        obtain ⟨f195, hZ9⟩ := hZ9
        obtain ⟨y198, hZ9⟩ := hZ9
        obtain ⟨y199, hZ9⟩ := hZ9
        obtain ⟨f200, hZ9⟩ := hZ9
        obtain ⟨hO192, hZ9⟩ := hZ9
        obtain ⟨hA196, hZ9⟩ := hZ9
        obtain ⟨hO197, hZ9⟩ := hZ9
        obtain ⟨hA201, hZ9⟩ := hZ9
        replace hZ9 := hZ9.2.2
        obtain ⟨b204, hZ9⟩ := hZ9
        obtain ⟨b205, hZ9⟩ := hZ9
        obtain ⟨b206, hZ9⟩ := hZ9
        obtain ⟨b207, hZ9⟩ := hZ9
        obtain ⟨b208, hZ9⟩ := hZ9
        obtain ⟨b209, hZ9⟩ := hZ9
        obtain ⟨b210, hZ9⟩ := hZ9
        obtain ⟨b211, hE212⟩ := hZ9
        replace hO192 : u189[20]? = (some (q 20, .inr (2, [.ref (q 21), .int y193, .int y194])) : Option (Nat × va_E)) := hO192
        replace hA196 : u189[21]? = (some (q 21, .inl (g 0, (220 : Int32).toNatClampNeg, .inl f195)) : Option (Nat × va_E)) := hA196
        replace hO197 : u189[10]? = (some (q 10, .inr (2, [.ref (q 11), .int y198, .int y199])) : Option (Nat × va_E)) := hO197
        replace hA201 : u189[11]? = (some (q 11, .inl (g 0, (220 : Int32).toNatClampNeg, .inl f200)) : Option (Nat × va_E)) := hA201
        obtain ⟨p214, e215⟩ : ∃ z, z = (F_Mil_dropZeros (220 : Int32) j187 t5_0 t5_1 t6_0 y84 y85 f86) := ⟨_, rfl⟩
        have e216 : a191 = p214.1 := congrArg (fun z => z.1) (hE212.trans e215.symm)
        have e217 : y193 = p214.2.1 := congrArg (fun z => z.2.1) (hE212.trans e215.symm)
        have e218 : y194 = p214.2.2.1 := congrArg (fun z => z.2.2.1) (hE212.trans e215.symm)
        have e219 : f195 = p214.2.2.2.1 := congrArg (fun z => z.2.2.2.1) (hE212.trans e215.symm)
        have e220 : y198 = p214.2.2.2.2.1 := congrArg (fun z => z.2.2.2.2.1) (hE212.trans e215.symm)
        have e221 : y199 = p214.2.2.2.2.2.1 := congrArg (fun z => z.2.2.2.2.2.1) (hE212.trans e215.symm)
        have e222 : f200 = p214.2.2.2.2.2.2 := congrArg (fun z => z.2.2.2.2.2.2) (hE212.trans e215.symm)
        replace b204 : q_F (0 ≤ y193.toInt) := b204
        replace b205 : q_F (y193.toInt ≤ 220) := b205
        replace b206 : q_F (0 ≤ y194.toInt) := b206
        replace b207 : q_F (y194.toInt ≤ 1) := b207
        replace b208 : q_F (0 ≤ y198.toInt) := b208
        replace b209 : q_F (0 ≤ y199.toInt) := b209
        replace b210 : q_F (y198.toInt ≤ y84.toInt) := b210
        replace b211 : q_F (y199.toInt ≤ y85.toInt) := b211
        replace hO58 := (hu213 _ (by decide)).trans hO58
        replace hO88 := (hu213 _ (by decide)).trans hO88
        replace hA92 := (hu213 _ (by decide)).trans hA92
        replace hF := q_uc hF hu213 (by first | exact (q_sk (q_mi 2 rfl) (q_sk (q_mi 3 rfl) (q_sk (q_mi 0 rfl) (q_sk (q_mi 1 rfl) q_s0)))) | simp)
        have hR223 := (show F_DW_shorten_c85 x2 x3 x4 x5 t0_0 t0_1 t1_0 t1_1 t2_0 t3_0 t3_1 t4_0 t5_0 t5_1 t6_0 p44 lx54 lx55 lx56 lx57 p106 y89 y90 f91 p214 = (F_DW_shorten x2 x3 x4 x5 t0_0 t0_1 t1_0 t1_1 t2_0 t3_0 t3_1 t4_0 t5_0 t5_1 t6_0) from Eq.trans (by have c120x := c120; rw [e108] at c120x; rw [e215, ← e188, e114, e113, e112, e111, e110, e109, F_DW_shorten_c50.eq_1, if_neg c120x, if_neg c122]) hR115)
        refine lv_i2l hx hb d_4_16_88 rfl ?_
        obtain ⟨j228, e229⟩ := q_nm (a191.toInt64 : Int64)
        refine q_tl (v := j228) e229 ?_
        refine lv_lsub hx hb d_4_16_89 ?_
        obtain ⟨j231, e232⟩ := q_nm (t0_0 - j228 : Int64)
        refine q_tl (v := j231) e232 ?_
        refine q_put (ci := 5) (j := 1) (v := .long j231) (ty := .long) C0 V i_DW o_DW n_DW rfl rfl hO58 (by decide) w_212 rfl rfl rfl rfl (Nat.le_of_ble_eq_true rfl) d_4_16_90 (fun H locs w233 hu234 hO58 V => ?_)
        replace hO58 : w233[30]? = (some (q 30, .inr (5, [.ref (q 31), .long j231, .ref (q 9), .int t0_1])) : Option (Nat × va_E)) := hO58
        replace hI := n_p30 hI hu234 hO58 (by first | with_reducible exact q_fe btt0_1 | exact ⟨(by have t1 : 0 ≤ t0_1.toInt ∧ t0_1.toInt ≤ 1 := btt0_1; omega), (by have t1 : 0 ≤ t0_1.toInt ∧ t0_1.toInt ≤ 1 := btt0_1; omega)⟩)
        replace hO197 := (hu234 _ (by decide)).trans hO197
        replace hA201 := (hu234 _ (by decide)).trans hA201
        replace hO88 := (hu234 _ (by decide)).trans hO88
        replace hA92 := (hu234 _ (by decide)).trans hA92
        replace hO192 := (hu234 _ (by decide)).trans hO192
        replace hA196 := (hu234 _ (by decide)).trans hA196
        replace hF := q_us hF hu234 (by simp)
        refine lv_goto (tgt := 136) hx hb d_4_16_93 (by decide) ?_
        refine lv_iconst (v := 1) hx hb d_4_16_136 (by decide) ?_
        exact q_retz C0 V (by decide) (⟨hI, hF, j231, t0_1, y198, y199, f200, y89, y90, f91, y193, y194, f195, hO58, hO197, hA201, hO88, hA92, hO192, hA196, (show 0 ≤ (1 : Int32).toInt from (by have z15 : (1 : Int32).toInt = 1 := rfl; omega)), (show (1 : Int32).toInt ≤ 1 from (by have z15 : (1 : Int32).toInt = 1 := rfl; omega)), (show 0 ≤ y198.toInt from (by have z15 : (1 : Int32).toInt = 1 := rfl; have t1 : 0 ≤ y198.toInt := b208; omega)), (show y198.toInt ≤ 220 from (by have z15 : (1 : Int32).toInt = 1 := rfl; have t1 : y84.toInt ≤ 220 := b95; have t2 : y198.toInt ≤ y84.toInt := b210; omega)), (show 0 ≤ y199.toInt from (by have z15 : (1 : Int32).toInt = 1 := rfl; have t1 : 0 ≤ y199.toInt := b209; omega)), (show y199.toInt ≤ 1 from (by have z15 : (1 : Int32).toInt = 1 := rfl; have t1 : y85.toInt ≤ 1 := b97; have t2 : y199.toInt ≤ y85.toInt := b211; omega)), (show 0 ≤ y89.toInt from (by have z15 : (1 : Int32).toInt = 1 := rfl; have t1 : 0 ≤ y89.toInt := b98; omega)), (show y89.toInt ≤ 220 from (by have z15 : (1 : Int32).toInt = 1 := rfl; have t1 : y89.toInt ≤ 220 := b99; omega)), (show 0 ≤ y90.toInt from (by have z15 : (1 : Int32).toInt = 1 := rfl; have t1 : 0 ≤ y90.toInt := b100; omega)), (show y90.toInt ≤ 1 from (by have z15 : (1 : Int32).toInt = 1 := rfl; have t1 : y90.toInt ≤ 1 := b101; omega)), (show 0 ≤ y193.toInt from (by have z15 : (1 : Int32).toInt = 1 := rfl; have t1 : 0 ≤ y193.toInt := b204; omega)), (show y193.toInt ≤ 220 from (by have z15 : (1 : Int32).toInt = 1 := rfl; have t1 : y193.toInt ≤ 220 := b205; omega)), (show 0 ≤ y194.toInt from (by have z15 : (1 : Int32).toInt = 1 := rfl; have t1 : 0 ≤ y194.toInt := b206; omega)), (show y194.toInt ≤ 1 from (by have z15 : (1 : Int32).toInt = 1 := rfl; have t1 : y194.toInt ≤ 1 := b207; omega)), (show t0_1.toInt ≤ t0_1.toInt from (by have z15 : (1 : Int32).toInt = 1 := rfl; omega)), (show t0_1.toInt ≤ t0_1.toInt from (by have z15 : (1 : Int32).toInt = 1 := rfl; omega)), (show y89.toInt ≤ t1_0.toInt + 3 from (by have z15 : (1 : Int32).toInt = 1 := rfl; have t1 : y33.toInt ≤ t1_0.toInt := b38; have t2 : lx55.toInt ≤ y33.toInt := i66; have t3 : y89.toInt ≤ lx55.toInt + 3 := b102; omega)), (show ((1 : Int32), j231, t0_1, y198, y199, f200, y89, y90, f91, y193, y194, f195) = (F_DW_shorten x2 x3 x4 x5 t0_0 t0_1 t1_0 t1_1 t2_0 t3_0 t3_1 t4_0 t5_0 t5_1 t6_0) from Eq.trans (by rw [← e232, ← e229, e222, e221, e220, e219, e218, e217, e216, F_DW_shorten_c85.eq_1]) hR223)⟩) d_4_16_137
    ·
      refine lv_iconst (v := 0) hx hb d_4_16_56 (by decide) ?_
      exact q_retz C0 V (by decide) (⟨hI, hF, t0_0, t0_1, y84, y85, f86, y89, y90, f91, t5_0, t5_1, t6_0, hO58, hO83, hA87, hO88, hA92, hO63, hA64, (show 0 ≤ (0 : Int32).toInt from (by have z15 : (0 : Int32).toInt = 0 := rfl; omega)), (show (0 : Int32).toInt ≤ 1 from (by have z15 : (0 : Int32).toInt = 0 := rfl; omega)), (show 0 ≤ y84.toInt from (by have z15 : (0 : Int32).toInt = 0 := rfl; have t1 : 0 ≤ y85.toInt := b96; have t2 : y85.toInt ≤ y84.toInt := b103; omega)), (show y84.toInt ≤ 220 from (by have z15 : (0 : Int32).toInt = 0 := rfl; have t1 : y84.toInt ≤ 220 := b95; omega)), (show 0 ≤ y85.toInt from (by have z15 : (0 : Int32).toInt = 0 := rfl; have t1 : 0 ≤ y85.toInt := b96; omega)), (show y85.toInt ≤ 1 from (by have z15 : (0 : Int32).toInt = 0 := rfl; have t1 : y85.toInt ≤ 1 := b97; omega)), (show 0 ≤ y89.toInt from (by have z15 : (0 : Int32).toInt = 0 := rfl; have t1 : 0 ≤ y89.toInt := b98; omega)), (show y89.toInt ≤ 220 from (by have z15 : (0 : Int32).toInt = 0 := rfl; have t1 : y89.toInt ≤ 220 := b99; omega)), (show 0 ≤ y90.toInt from (by have z15 : (0 : Int32).toInt = 0 := rfl; have t1 : 0 ≤ y90.toInt := b100; omega)), (show y90.toInt ≤ 1 from (by have z15 : (0 : Int32).toInt = 0 := rfl; have t1 : y90.toInt ≤ 1 := b101; omega)), (show 0 ≤ t5_0.toInt from (by have z15 : (0 : Int32).toInt = 0 := rfl; have t1 : 0 ≤ t5_0.toInt ∧ t5_0.toInt ≤ 220 := btt5_0; omega)), (show t5_0.toInt ≤ 220 from (by have z15 : (0 : Int32).toInt = 0 := rfl; have t1 : 0 ≤ t5_0.toInt ∧ t5_0.toInt ≤ 220 := btt5_0; omega)), (show 0 ≤ t5_1.toInt from (by have z15 : (0 : Int32).toInt = 0 := rfl; have t1 : 0 ≤ t5_1.toInt ∧ t5_1.toInt ≤ 1 := btt5_1; omega)), (show t5_1.toInt ≤ 1 from (by have z15 : (0 : Int32).toInt = 0 := rfl; have t1 : 0 ≤ t5_1.toInt ∧ t5_1.toInt ≤ 1 := btt5_1; omega)), (show t0_1.toInt ≤ t0_1.toInt from (by have z15 : (0 : Int32).toInt = 0 := rfl; omega)), (show t0_1.toInt ≤ t0_1.toInt from (by have z15 : (0 : Int32).toInt = 0 := rfl; omega)), (show y89.toInt ≤ t1_0.toInt + 3 from (by have z15 : (0 : Int32).toInt = 0 := rfl; have t1 : y33.toInt ≤ t1_0.toInt := b38; have t2 : lx55.toInt ≤ y33.toInt := i66; have t3 : y89.toInt ≤ lx55.toInt + 3 := b102; omega)), (show ((0 : Int32), t0_0, t0_1, y84, y85, f86, y89, y90, f91, t5_0, t5_1, t6_0) = (F_DW_shorten x2 x3 x4 x5 t0_0 t0_1 t1_0 t1_1 t2_0 t3_0 t3_1 t4_0 t5_0 t5_1 t6_0) from Eq.trans (by have c120x := c120; rw [e108] at c120x; rw [e114, e113, e112, e111, e110, e109, F_DW_shorten_c50.eq_1, if_pos c120x]) hR115)⟩) d_4_16_57
  ·
    intro J65
    refine q_join (X := Int32 × Int32 × (Nat → Int32)) (fun z H locs ls w252 => q_F (0 ≤ z.2.1.toInt) ∧ q_F (z.1.toInt ≤ y33.toInt) ∧ q_F (z.2.1.toInt ≤ y34.toInt) ∧ q_F (z.2.1.toInt ≤ z.1.toInt + 1) ∧ q_F (0 ≤ z.1.toInt + z.2.1.toInt) ∧ q_Wd D g (va_A ws sz) s w252 H locs ∧ lv_has ls 7 [(0, .ref (q 30)), (1, .int x2), (2, .int x3), (3, .long x4), (5, .int x5)] ∧ q_I (nsh g q) q w252 ∧ q_un ws w252 [10, 11, 20, 21, 22, 23, 30] ∧ w252[30]? = (some (q 30, .inr (5, [.ref (q 31), .long t0_0, .ref (q 9), .int t0_1])) : Option (Nat × va_E)) ∧ w252[10]? = (some (q 10, .inr (2, [.ref (q 11), .int t1_0, .int t1_1])) : Option (Nat × va_E)) ∧ w252[11]? = (some (q 11, .inl (g 0, (220 : Int32).toNatClampNeg, .inl t2_0)) : Option (Nat × va_E)) ∧ w252[22]? = (some (q 22, .inr (2, [.ref (q 23), .int z.1, .int z.2.1])) : Option (Nat × va_E)) ∧ w252[23]? = (some (q 23, .inl (g 0, (220 : Int32).toNatClampNeg, .inl z.2.2)) : Option (Nat × va_E)) ∧ w252[20]? = (some (q 20, .inr (2, [.ref (q 21), .int t5_0, .int t5_1])) : Option (Nat × va_E)) ∧ w252[21]? = (some (q 21, .inl (g 0, (220 : Int32).toNatClampNeg, .inl t6_0)) : Option (Nat × va_E)) ∧ F_DW_shorten_J43 x2 x3 x4 x5 t0_0 t0_1 t1_0 t1_1 t2_0 t3_0 t3_1 t4_0 t5_0 t5_1 t6_0 p44 z.1 z.2.1 z.2.2 = (F_DW_shorten x2 x3 x4 x5 t0_0 t0_1 t1_0 t1_1 t2_0 t3_0 t3_1 t4_0 t5_0 t5_1 t6_0)) (fun z => []) 43 0 0 ?_ ?_
    ·
      rintro ⟨lx236, lx237, lx238⟩ H locs ls w252 ⟨i247, i248, i249, i250, i251, V, hl, hI, hF, hO239, hO240, hA241, hO242, hA243, hO244, hA245, hR253⟩
      replace i247 : q_F (0 ≤ lx237.toInt) := i247
      replace i248 : q_F (lx236.toInt ≤ y33.toInt) := i248
      replace i249 : q_F (lx237.toInt ≤ y34.toInt) := i249
      replace i250 : q_F (lx237.toInt ≤ lx236.toInt + 1) := i250
      replace i251 : q_F (0 ≤ lx236.toInt + lx237.toInt) := i251
      replace hl : lv_has ls 7 [(0, .ref (q 30)), (1, .int x2), (2, .int x3), (3, .long x4), (5, .int x5)] := hl
      replace hO239 : w252[30]? = (some (q 30, .inr (5, [.ref (q 31), .long t0_0, .ref (q 9), .int t0_1])) : Option (Nat × va_E)) := hO239
      replace hO240 : w252[10]? = (some (q 10, .inr (2, [.ref (q 11), .int t1_0, .int t1_1])) : Option (Nat × va_E)) := hO240
      replace hA241 : w252[11]? = (some (q 11, .inl (g 0, (220 : Int32).toNatClampNeg, .inl t2_0)) : Option (Nat × va_E)) := hA241
      replace hO242 : w252[22]? = (some (q 22, .inr (2, [.ref (q 23), .int lx236, .int lx237])) : Option (Nat × va_E)) := hO242
      replace hA243 : w252[23]? = (some (q 23, .inl (g 0, (220 : Int32).toNatClampNeg, .inl lx238)) : Option (Nat × va_E)) := hA243
      replace hO244 : w252[20]? = (some (q 20, .inr (2, [.ref (q 21), .int t5_0, .int t5_1])) : Option (Nat × va_E)) := hO244
      replace hA245 : w252[21]? = (some (q 21, .inl (g 0, (220 : Int32).toNatClampNeg, .inl t6_0)) : Option (Nat × va_E)) := hA245
      refine lv_iconst (v := 0) hx hb d_4_16_43 (by decide) ?_
      exact J65 ((0 : Int32), (lx236 : Int32), (lx237 : Int32), (lx238 : (Nat → Int32))) _ _ _ _ ⟨(show q_F (lx236.toInt ≤ y33.toInt) from (show lx236.toInt ≤ y33.toInt from by have t1 : lx236.toInt ≤ y33.toInt := i248; omega)), (show q_F (lx237.toInt ≤ y34.toInt) from (show lx237.toInt ≤ y34.toInt from by have t1 : lx237.toInt ≤ y34.toInt := i249; omega)), (show q_F (lx237.toInt ≤ 0 + 1) from (show lx237.toInt ≤ 0 + 1 from by have t1 : 0 ≤ t1_1.toInt ∧ t1_1.toInt ≤ 1 := btt1_1; have t2 : y34.toInt ≤ t1_1.toInt := b41; have t3 : lx237.toInt ≤ y34.toInt := i249; omega)), (show q_F (0 ≤ lx237.toInt + 1) from (show 0 ≤ lx237.toInt + 1 from by have t1 : 0 ≤ lx237.toInt := i247; omega)), (show q_F (0 ≤ 0 + lx237.toInt) from (show 0 ≤ 0 + lx237.toInt from by have t1 : 0 ≤ lx237.toInt := i247; omega)), (show q_F (0 + lx237.toInt ≤ 2) from (show 0 + lx237.toInt ≤ 2 from by have t1 : 0 ≤ t1_1.toInt ∧ t1_1.toInt ≤ 1 := btt1_1; have t2 : y34.toInt ≤ t1_1.toInt := b41; have t3 : lx237.toInt ≤ y34.toInt := i249; omega)), (show q_F (lx237.toInt ≤ lx236.toInt + 1) from (show lx237.toInt ≤ lx236.toInt + 1 from by have t1 : lx237.toInt ≤ lx236.toInt + 1 := i250; omega)), (show q_F (0 ≤ lx236.toInt + lx237.toInt) from (show 0 ≤ lx236.toInt + lx237.toInt from by have t1 : 0 ≤ lx236.toInt + lx237.toInt := i251; omega)), V, q_lw hl (q_lw1 0 rfl (q_lw1 1 rfl (q_lw1 2 rfl (q_lw1 3 rfl (q_lw1 4 rfl q_lw0))))), hI, hF, hO239, hO240, hA241, hO242, hA243, hO244, hA245, (show F_DW_shorten_J44 x2 x3 x4 x5 t0_0 t0_1 t1_0 t1_1 t2_0 t3_0 t3_1 t4_0 t5_0 t5_1 t6_0 p44 0 lx236 lx237 lx238 = (F_DW_shorten x2 x3 x4 x5 t0_0 t0_1 t1_0 t1_1 t2_0 t3_0 t3_1 t4_0 t5_0 t5_1 t6_0) from Eq.trans (by rw [F_DW_shorten_J43.eq_1]) hR253)⟩
    ·
      intro J246
      refine lv_if_ne (tgt := 43) hx hb d_4_16_21 (by decide) (fun c258 => ?_) (fun c258 => ?_)
      ·
        exact J246 ((y33 : Int32), (y34 : Int32), (f35 : (Nat → Int32))) _ _ _ _ ⟨(show q_F (0 ≤ y34.toInt) from (show 0 ≤ y34.toInt from by have t1 : 0 ≤ t1_1.toInt ∧ t1_1.toInt ≤ 1 := btt1_1; have t2 : t1_1.toInt ≤ y34.toInt := b40; omega)), (show q_F (y33.toInt ≤ y33.toInt) from (show y33.toInt ≤ y33.toInt from by omega)), (show q_F (y34.toInt ≤ y34.toInt) from (show y34.toInt ≤ y34.toInt from by omega)), (show q_F (y34.toInt ≤ y33.toInt + 1) from (show y34.toInt ≤ y33.toInt + 1 from by have t1 : 0 ≤ t1_1.toInt ∧ t1_1.toInt ≤ 1 := btt1_1; have t2 : 0 ≤ y33.toInt := b37; have t3 : y34.toInt ≤ t1_1.toInt := b41; omega)), (show q_F (0 ≤ y33.toInt + y34.toInt) from (show 0 ≤ y33.toInt + y34.toInt from by have t1 : 0 ≤ t1_1.toInt ∧ t1_1.toInt ≤ 1 := btt1_1; have t2 : 0 ≤ y33.toInt := b37; have t3 : t1_1.toInt ≤ y34.toInt := b40; omega)), V, q_lw hl (q_lw1 0 rfl (q_lw1 1 rfl (q_lw1 2 rfl (q_lw1 3 rfl (q_lw1 4 rfl q_lw0))))), hI, hF, hT0, hT1, hT2, hO32, hA36, hT5, hT6, (show F_DW_shorten_J43 x2 x3 x4 x5 t0_0 t0_1 t1_0 t1_1 t2_0 t3_0 t3_1 t4_0 t5_0 t5_1 t6_0 p44 y33 y34 f35 = (F_DW_shorten x2 x3 x4 x5 t0_0 t0_1 t1_0 t1_1 t2_0 t3_0 t3_1 t4_0 t5_0 t5_1 t6_0) from Eq.trans (by rw [e48, e47, e46, F_DW_shorten_c14.eq_1, if_neg c258]) hR49)⟩
      ·
        refine lv_aload_n hx hb d_4_16_24 rfl (lv_at hl 0 rfl) ?_
        refine q_get (ci := 5) (j := 2) (v := .ref (q 9)) C0 V i_DW rfl rfl hT0 (by decide) w_214 rfl d_4_16_25 ?_
        refine q_get (ci := 4) (j := 6) (v := .ref (q 22)) C0 V i_Mil rfl rfl hO29 (by decide) w_126 rfl d_4_16_28 ?_
        refine lv_bipush (v := 10) hx hb d_4_16_31 (by decide) ?_
        refine q_goi V (q_runV (As := [.int 10]) (rest := []) (d := 2) (mc := 0) (ms := 0) (ci := 2) C0 V rfl LV_DW_169 (X_Big_divideSmall l D g q u30 22 220 (n_b22 g q) (by decide) 10 hI y33 y34 hO32 f35 hA36  _) rfl rfl hO32 rfl hl.1 rfl (Nat.le_of_ble_eq_true rfl) ⟨by decide, by decide⟩ ⟨Nat.le_of_ble_eq_true rfl, Nat.le_of_ble_eq_true rfl⟩ d_4_16_33) (fun a263 u261 H locs hp262 V => ?_)
        obtain ⟨hI, hZ9⟩ := hp262
        obtain ⟨hu274, hZ9⟩ := hZ9
        obtain ⟨y265, hZ9⟩ := hZ9
        obtain ⟨y266, hZ9⟩ := hZ9
        obtain ⟨f267, hZ9⟩ := hZ9
        obtain ⟨hO264, hZ9⟩ := hZ9
        obtain ⟨hA268, hZ9⟩ := hZ9
        obtain ⟨b269, hZ9⟩ := hZ9
        obtain ⟨b270, hZ9⟩ := hZ9
        obtain ⟨b271, hZ9⟩ := hZ9
        obtain ⟨b272, hE273⟩ := hZ9
        replace hO264 : u261[22]? = (some (q 22, .inr (2, [.ref (q 23), .int y265, .int y266])) : Option (Nat × va_E)) := hO264
        replace hA268 : u261[23]? = (some (q 23, .inl (g 0, (220 : Int32).toNatClampNeg, .inl f267)) : Option (Nat × va_E)) := hA268
        obtain ⟨p275, e276⟩ : ∃ z, z = (F_Big_divideSmall (220 : Int32) (10 : Int32) y33 y34 f35) := ⟨_, rfl⟩
        have e277 : a263 = p275.1 := congrArg (fun z => z.1) (hE273.trans e276.symm)
        have e278 : y265 = p275.2.1 := congrArg (fun z => z.2.1) (hE273.trans e276.symm)
        have e279 : y266 = p275.2.2.1 := congrArg (fun z => z.2.2.1) (hE273.trans e276.symm)
        have e280 : f267 = p275.2.2.2 := congrArg (fun z => z.2.2.2) (hE273.trans e276.symm)
        replace b269 : q_F (0 ≤ y266.toInt) := b269
        replace b270 : q_F (y265.toInt ≤ y33.toInt) := b270
        replace b271 : q_F (y266.toInt ≤ y34.toInt) := b271
        replace b272 : q_F (y266.toInt ≤ y265.toInt) := b272
        replace hT0 := (hu274 _ (by decide)).trans hT0
        replace hT1 := (hu274 _ (by decide)).trans hT1
        replace hT2 := (hu274 _ (by decide)).trans hT2
        replace hT5 := (hu274 _ (by decide)).trans hT5
        replace hT6 := (hu274 _ (by decide)).trans hT6
        replace hF := q_uc hF hu274 (by first | exact (q_sk (q_mi 4 rfl) (q_sk (q_mi 5 rfl) q_s0)) | simp)
        have hR281 := (show F_DW_shorten_c33 x2 x3 x4 x5 t0_0 t0_1 t1_0 t1_1 t2_0 t3_0 t3_1 t4_0 t5_0 t5_1 t6_0 p44 p275 = (F_DW_shorten x2 x3 x4 x5 t0_0 t0_1 t1_0 t1_1 t2_0 t3_0 t3_1 t4_0 t5_0 t5_1 t6_0) from Eq.trans (by rw [e276, e48, e47, e46, F_DW_shorten_c14.eq_1, if_pos c258]) hR49)
        refine lv_if_ne (tgt := 43) hx hb d_4_16_36 (by decide) (fun c286 => ?_) (fun c286 => ?_)
        ·
          exact J246 ((y265 : Int32), (y266 : Int32), (f267 : (Nat → Int32))) _ _ _ _ ⟨(show q_F (0 ≤ y266.toInt) from (show 0 ≤ y266.toInt from by have t1 : 0 ≤ y266.toInt := b269; omega)), (show q_F (y265.toInt ≤ y33.toInt) from (show y265.toInt ≤ y33.toInt from by have t1 : y265.toInt ≤ y33.toInt := b270; omega)), (show q_F (y266.toInt ≤ y34.toInt) from (show y266.toInt ≤ y34.toInt from by have t1 : y266.toInt ≤ y34.toInt := b271; omega)), (show q_F (y266.toInt ≤ y265.toInt + 1) from (show y266.toInt ≤ y265.toInt + 1 from by have t1 : y266.toInt ≤ y265.toInt := b272; omega)), (show q_F (0 ≤ y265.toInt + y266.toInt) from (show 0 ≤ y265.toInt + y266.toInt from by have t1 : 0 ≤ y266.toInt := b269; have t2 : y266.toInt ≤ y265.toInt := b272; omega)), V, q_lw hl (q_lw1 0 rfl (q_lw1 1 rfl (q_lw1 2 rfl (q_lw1 3 rfl (q_lw1 4 rfl q_lw0))))), hI, hF, hT0, hT1, hT2, hO264, hA268, hT5, hT6, (show F_DW_shorten_J43 x2 x3 x4 x5 t0_0 t0_1 t1_0 t1_1 t2_0 t3_0 t3_1 t4_0 t5_0 t5_1 t6_0 p44 y265 y266 f267 = (F_DW_shorten x2 x3 x4 x5 t0_0 t0_1 t1_0 t1_1 t2_0 t3_0 t3_1 t4_0 t5_0 t5_1 t6_0) from Eq.trans (by have c286x := c286; rw [e277] at c286x; rw [e280, e279, e278, F_DW_shorten_c33.eq_1, if_neg c286x]) hR281)⟩
        ·
          refine lv_iconst (v := 1) hx hb d_4_16_39 (by decide) ?_
          refine lv_goto (tgt := 44) hx hb d_4_16_40 (by decide) ?_
          exact J65 ((1 : Int32), (y265 : Int32), (y266 : Int32), (f267 : (Nat → Int32))) _ _ _ _ ⟨(show q_F (y265.toInt ≤ y33.toInt) from (show y265.toInt ≤ y33.toInt from by have t1 : y265.toInt ≤ y33.toInt := b270; omega)), (show q_F (y266.toInt ≤ y34.toInt) from (show y266.toInt ≤ y34.toInt from by have t1 : y266.toInt ≤ y34.toInt := b271; omega)), (show q_F (y266.toInt ≤ 1 + 1) from (show y266.toInt ≤ 1 + 1 from by have t1 : 0 ≤ t1_1.toInt ∧ t1_1.toInt ≤ 1 := btt1_1; have t2 : y34.toInt ≤ t1_1.toInt := b41; have t3 : y266.toInt ≤ y34.toInt := b271; omega)), (show q_F (1 ≤ y266.toInt + 1) from (show 1 ≤ y266.toInt + 1 from by have t1 : 0 ≤ y266.toInt := b269; omega)), (show q_F (0 ≤ 1 + y266.toInt) from (show 0 ≤ 1 + y266.toInt from by have t1 : 0 ≤ y266.toInt := b269; omega)), (show q_F (1 + y266.toInt ≤ 2) from (show 1 + y266.toInt ≤ 2 from by have t1 : 0 ≤ t1_1.toInt ∧ t1_1.toInt ≤ 1 := btt1_1; have t2 : y34.toInt ≤ t1_1.toInt := b41; have t3 : y266.toInt ≤ y34.toInt := b271; omega)), (show q_F (y266.toInt ≤ y265.toInt + 1) from (show y266.toInt ≤ y265.toInt + 1 from by have t1 : y266.toInt ≤ y265.toInt := b272; omega)), (show q_F (0 ≤ y265.toInt + y266.toInt) from (show 0 ≤ y265.toInt + y266.toInt from by have t1 : 0 ≤ y266.toInt := b269; have t2 : y266.toInt ≤ y265.toInt := b272; omega)), V, q_lw hl (q_lw1 0 rfl (q_lw1 1 rfl (q_lw1 2 rfl (q_lw1 3 rfl (q_lw1 4 rfl q_lw0))))), hI, hF, hT0, hT1, hT2, hO264, hA268, hT5, hT6, (show F_DW_shorten_J44 x2 x3 x4 x5 t0_0 t0_1 t1_0 t1_1 t2_0 t3_0 t3_1 t4_0 t5_0 t5_1 t6_0 p44 1 y265 y266 f267 = (F_DW_shorten x2 x3 x4 x5 t0_0 t0_1 t1_0 t1_1 t2_0 t3_0 t3_1 t4_0 t5_0 t5_1 t6_0) from Eq.trans (by have c286x := c286; rw [e277] at c286x; rw [e280, e279, e278, F_DW_shorten_c33.eq_1, if_pos c286x]) hR281)⟩
theorem d_4_15_0 : decode prog_4_method_15_code 0 = .ok (.aload_n 0, 1) := by decide +kernel
theorem d_4_15_1 : decode prog_4_method_15_code 1 = .ok (.getfield 20, 3) := by decide +kernel
theorem d_4_15_4 : decode prog_4_method_15_code 4 = .ok (.getfield 72, 3) := by decide +kernel
theorem d_4_15_7 : decode prog_4_method_15_code 7 = .ok (.aload_n 1, 1) := by decide +kernel
theorem d_4_15_8 : decode prog_4_method_15_code 8 = .ok (.getfield 24, 3) := by decide +kernel
theorem d_4_15_11 : decode prog_4_method_15_code 11 = .ok (.invokevirtual 44, 3) := by decide +kernel
theorem d_4_15_14 : decode prog_4_method_15_code 14 = .ok (.aload_n 0, 1) := by decide +kernel
theorem d_4_15_15 : decode prog_4_method_15_code 15 = .ok (.getfield 20, 3) := by decide +kernel
theorem d_4_15_18 : decode prog_4_method_15_code 18 = .ok (.getfield 72, 3) := by decide +kernel
theorem d_4_15_21 : decode prog_4_method_15_code 21 = .ok (.iload_n 3, 1) := by decide +kernel
theorem d_4_15_22 : decode prog_4_method_15_code 22 = .ok (.invokevirtual 77, 3) := by decide +kernel
theorem d_4_15_25 : decode prog_4_method_15_code 25 = .ok (.aload_n 0, 1) := by decide +kernel
theorem d_4_15_26 : decode prog_4_method_15_code 26 = .ok (.aload_n 0, 1) := by decide +kernel
theorem d_4_15_27 : decode prog_4_method_15_code 27 = .ok (.getfield 20, 3) := by decide +kernel
theorem d_4_15_30 : decode prog_4_method_15_code 30 = .ok (.getfield 72, 3) := by decide +kernel
theorem d_4_15_33 : decode prog_4_method_15_code 33 = .ok (.iload_n 3, 1) := by decide +kernel
theorem d_4_15_34 : decode prog_4_method_15_code 34 = .ok (.ineg, 1) := by decide +kernel
theorem d_4_15_35 : decode prog_4_method_15_code 35 = .ok (.invokevirtual 149, 3) := by decide +kernel
theorem d_4_15_38 : decode prog_4_method_15_code 38 = .ok (.putfield 146, 3) := by decide +kernel
theorem d_4_15_41 : decode prog_4_method_15_code 41 = .ok (.aload_n 0, 1) := by decide +kernel
theorem d_4_15_42 : decode prog_4_method_15_code 42 = .ok (.getfield 20, 3) := by decide +kernel
theorem d_4_15_45 : decode prog_4_method_15_code 45 = .ok (.getfield 72, 3) := by decide +kernel
theorem d_4_15_48 : decode prog_4_method_15_code 48 = .ok (.aload_n 2, 1) := by decide +kernel
theorem d_4_15_49 : decode prog_4_method_15_code 49 = .ok (.getfield 24, 3) := by decide +kernel
theorem d_4_15_52 : decode prog_4_method_15_code 52 = .ok (.aload_n 0, 1) := by decide +kernel
theorem d_4_15_53 : decode prog_4_method_15_code 53 = .ok (.getfield 20, 3) := by decide +kernel
theorem d_4_15_56 : decode prog_4_method_15_code 56 = .ok (.getfield 106, 3) := by decide +kernel
theorem d_4_15_59 : decode prog_4_method_15_code 59 = .ok (.invokevirtual 109, 3) := by decide +kernel
theorem d_4_15_62 : decode prog_4_method_15_code 62 = .ok (.aload_n 0, 1) := by decide +kernel
theorem d_4_15_63 : decode prog_4_method_15_code 63 = .ok (.dup, 1) := by decide +kernel
theorem d_4_15_64 : decode prog_4_method_15_code 64 = .ok (.getfield 146, 3) := by decide +kernel
theorem d_4_15_67 : decode prog_4_method_15_code 67 = .ok (.aload_n 0, 1) := by decide +kernel
theorem d_4_15_68 : decode prog_4_method_15_code 68 = .ok (.getfield 20, 3) := by decide +kernel
theorem d_4_15_71 : decode prog_4_method_15_code 71 = .ok (.getfield 72, 3) := by decide +kernel
theorem d_4_15_74 : decode prog_4_method_15_code 74 = .ok (.getfield 63, 3) := by decide +kernel
theorem d_4_15_77 : decode prog_4_method_15_code 77 = .ok (.ifCond .le 7, 3) := by decide +kernel
theorem d_4_15_84 : decode prog_4_method_15_code 84 = .ok (.iconst 0, 1) := by decide +kernel
theorem d_4_15_85 : decode prog_4_method_15_code 85 = .ok (.ior, 1) := by decide +kernel
theorem d_4_15_86 : decode prog_4_method_15_code 86 = .ok (.putfield 146, 3) := by decide +kernel
theorem d_4_15_89 : decode prog_4_method_15_code 89 = .ok (.aload_n 0, 1) := by decide +kernel
theorem d_4_15_90 : decode prog_4_method_15_code 90 = .ok (.getfield 20, 3) := by decide +kernel
theorem d_4_15_93 : decode prog_4_method_15_code 93 = .ok (.getfield 55, 3) := by decide +kernel
theorem d_4_15_96 : decode prog_4_method_15_code 96 = .ok (.aload_n 0, 1) := by decide +kernel
theorem d_4_15_97 : decode prog_4_method_15_code 97 = .ok (.getfield 20, 3) := by decide +kernel
theorem d_4_15_100 : decode prog_4_method_15_code 100 = .ok (.getfield 106, 3) := by decide +kernel
theorem d_4_15_103 : decode prog_4_method_15_code 103 = .ok (.invokevirtual 44, 3) := by decide +kernel
theorem d_4_15_106 : decode prog_4_method_15_code 106 = .ok (.return_, 1) := by decide +kernel
theorem d_4_15_80 : decode prog_4_method_15_code 80 = .ok (.iconst 1, 1) := by decide +kernel
theorem d_4_15_81 : decode prog_4_method_15_code 81 = .ok (.goto 4, 3) := by decide +kernel
def y_DW_divideRaised : MethodName := ⟨"NumberHouse$DecimalWork", "divideRaised", "(LNumberHouse$Dec;LNumberHouse$Dec;I)V"⟩
def F_DW_divideRaised_c103 (R : Int32) (R2 : Int32) (x4 : Int32) (t0_0 : Int64) (t0_1 : Int32) (t1_0 : Int32) (t1_1 : Int32) (t2_0 : (Nat → Int32)) (t3_0 : Int32) (t3_1 : Int32) (t4_0 : (Nat → Int32)) (t5_0 : Int32) (t5_1 : Int32) (t6_0 : (Nat → Int32)) (t7_0 : Int32) (t7_1 : Int32) (t8_0 : Int32) (t8_1 : Int32) (t9_0 : (Nat → Int32)) (t10_0 : Int32) (t10_1 : Int32) (t11_0 : Int32) (t11_1 : Int32) (t12_0 : (Nat → Int32)) (p70 : (Int32 × Int32 × (Nat → Int32))) (p93 : (Int32 × Int32 × (Nat → Int32))) (p122 : (Int32 × Int32 × Int32 × (Nat → Int32))) (a107 : Int32) (p170 : (Int32 × Int32 × (Nat → Int32) × Int32 × Int32 × (Nat → Int32) × Int32 × Int32 × (Nat → Int32))) (a188 : Int32) (y149 : Int32) (y150 : Int32) (f151 : (Nat → Int32)) (y139 : Int32) (y140 : Int32) (f141 : (Nat → Int32)) (y144 : Int32) (y145 : Int32) (f146 : (Nat → Int32)) (p207 : (Int32 × Int32 × (Nat → Int32))) : Int64 × Int32 × Int32 × Int32 × (Nat → Int32) × Int32 × Int32 × (Nat → Int32) × Int32 × Int32 × (Nat → Int32) × Int32 × Int32 × (Nat → Int32) := (t0_0, a188, (p207.1 : Int32), (p207.2.1 : Int32), (p207.2.2 : (Nat → Int32)), y149, y150, f151, y139, y140, f141, y144, y145, f146)
def F_DW_divideRaised_c103_6 (R : Int32) (R2 : Int32) (x4 : Int32) (t0_0 : Int64) (t0_1 : Int32) (t1_0 : Int32) (t1_1 : Int32) (t2_0 : (Nat → Int32)) (t3_0 : Int32) (t3_1 : Int32) (t4_0 : (Nat → Int32)) (t5_0 : Int32) (t5_1 : Int32) (t6_0 : (Nat → Int32)) (t7_0 : Int32) (t7_1 : Int32) (t8_0 : Int32) (t8_1 : Int32) (t9_0 : (Nat → Int32)) (t10_0 : Int32) (t10_1 : Int32) (t11_0 : Int32) (t11_1 : Int32) (t12_0 : (Nat → Int32)) (p70 : (Int32 × Int32 × (Nat → Int32))) (p93 : (Int32 × Int32 × (Nat → Int32))) (p122 : (Int32 × Int32 × Int32 × (Nat → Int32))) (a107 : Int32) (p170 : (Int32 × Int32 × (Nat → Int32) × Int32 × Int32 × (Nat → Int32) × Int32 × Int32 × (Nat → Int32))) (a218 : Int32) (y149 : Int32) (y150 : Int32) (f151 : (Nat → Int32)) (y139 : Int32) (y140 : Int32) (f141 : (Nat → Int32)) (y144 : Int32) (y145 : Int32) (f146 : (Nat → Int32)) (p237 : (Int32 × Int32 × (Nat → Int32))) : Int64 × Int32 × Int32 × Int32 × (Nat → Int32) × Int32 × Int32 × (Nat → Int32) × Int32 × Int32 × (Nat → Int32) × Int32 × Int32 × (Nat → Int32) := (t0_0, a218, (p237.1 : Int32), (p237.2.1 : Int32), (p237.2.2 : (Nat → Int32)), y149, y150, f151, y139, y140, f141, y144, y145, f146)
def F_DW_divideRaised_c59 (R : Int32) (R2 : Int32) (x4 : Int32) (t0_0 : Int64) (t0_1 : Int32) (t1_0 : Int32) (t1_1 : Int32) (t2_0 : (Nat → Int32)) (t3_0 : Int32) (t3_1 : Int32) (t4_0 : (Nat → Int32)) (t5_0 : Int32) (t5_1 : Int32) (t6_0 : (Nat → Int32)) (t7_0 : Int32) (t7_1 : Int32) (t8_0 : Int32) (t8_1 : Int32) (t9_0 : (Nat → Int32)) (t10_0 : Int32) (t10_1 : Int32) (t11_0 : Int32) (t11_1 : Int32) (t12_0 : (Nat → Int32)) (p70 : (Int32 × Int32 × (Nat → Int32))) (p93 : (Int32 × Int32 × (Nat → Int32))) (p122 : (Int32 × Int32 × Int32 × (Nat → Int32))) (a107 : Int32) (p170 : (Int32 × Int32 × (Nat → Int32) × Int32 × Int32 × (Nat → Int32) × Int32 × Int32 × (Nat → Int32))) : Int64 × Int32 × Int32 × Int32 × (Nat → Int32) × Int32 × Int32 × (Nat → Int32) × Int32 × Int32 × (Nat → Int32) × Int32 × Int32 × (Nat → Int32) := if (p170.1 : Int32) ≤ (0 : Int32) then (F_DW_divideRaised_c103 R R2 x4 t0_0 t0_1 t1_0 t1_1 t2_0 t3_0 t3_1 t4_0 t5_0 t5_1 t6_0 t7_0 t7_1 t8_0 t8_1 t9_0 t10_0 t10_1 t11_0 t11_1 t12_0 p70 p93 p122 a107 p170 (a107 ||| 0 : Int32) (p170.2.2.2.2.2.2.1 : Int32) (p170.2.2.2.2.2.2.2.1 : Int32) (p170.2.2.2.2.2.2.2.2 : (Nat → Int32)) (p170.1 : Int32) (p170.2.1 : Int32) (p170.2.2.1 : (Nat → Int32)) (p170.2.2.2.1 : Int32) (p170.2.2.2.2.1 : Int32) (p170.2.2.2.2.2.1 : (Nat → Int32)) ((F_Big_copy (220 : Int32) (220 : Int32) t1_0 t1_1 t2_0 (p170.2.2.2.2.2.2.1 : Int32) (p170.2.2.2.2.2.2.2.1 : Int32) (p170.2.2.2.2.2.2.2.2 : (Nat → Int32))) : (Int32 × Int32 × (Nat → Int32)))) else (F_DW_divideRaised_c103_6 R R2 x4 t0_0 t0_1 t1_0 t1_1 t2_0 t3_0 t3_1 t4_0 t5_0 t5_1 t6_0 t7_0 t7_1 t8_0 t8_1 t9_0 t10_0 t10_1 t11_0 t11_1 t12_0 p70 p93 p122 a107 p170 (a107 ||| 1 : Int32) (p170.2.2.2.2.2.2.1 : Int32) (p170.2.2.2.2.2.2.2.1 : Int32) (p170.2.2.2.2.2.2.2.2 : (Nat → Int32)) (p170.1 : Int32) (p170.2.1 : Int32) (p170.2.2.1 : (Nat → Int32)) (p170.2.2.2.1 : Int32) (p170.2.2.2.2.1 : Int32) (p170.2.2.2.2.2.1 : (Nat → Int32)) ((F_Big_copy (220 : Int32) (220 : Int32) t1_0 t1_1 t2_0 (p170.2.2.2.2.2.2.1 : Int32) (p170.2.2.2.2.2.2.2.1 : Int32) (p170.2.2.2.2.2.2.2.2 : (Nat → Int32))) : (Int32 × Int32 × (Nat → Int32))))
def F_DW_divideRaised_c35 (R : Int32) (R2 : Int32) (x4 : Int32) (t0_0 : Int64) (t0_1 : Int32) (t1_0 : Int32) (t1_1 : Int32) (t2_0 : (Nat → Int32)) (t3_0 : Int32) (t3_1 : Int32) (t4_0 : (Nat → Int32)) (t5_0 : Int32) (t5_1 : Int32) (t6_0 : (Nat → Int32)) (t7_0 : Int32) (t7_1 : Int32) (t8_0 : Int32) (t8_1 : Int32) (t9_0 : (Nat → Int32)) (t10_0 : Int32) (t10_1 : Int32) (t11_0 : Int32) (t11_1 : Int32) (t12_0 : (Nat → Int32)) (p70 : (Int32 × Int32 × (Nat → Int32))) (p93 : (Int32 × Int32 × (Nat → Int32))) (p122 : (Int32 × Int32 × Int32 × (Nat → Int32))) : Int64 × Int32 × Int32 × Int32 × (Nat → Int32) × Int32 × Int32 × (Nat → Int32) × Int32 × Int32 × (Nat → Int32) × Int32 × Int32 × (Nat → Int32) := F_DW_divideRaised_c59 R R2 x4 t0_0 t0_1 t1_0 t1_1 t2_0 t3_0 t3_1 t4_0 t5_0 t5_1 t6_0 t7_0 t7_1 t8_0 t8_1 t9_0 t10_0 t10_1 t11_0 t11_1 t12_0 p70 p93 p122 (p122.1 : Int32) ((F_Big_divideBy (220 : Int32) R2 (220 : Int32) (p122.2.1 : Int32) (p122.2.2.1 : Int32) (p122.2.2.2 : (Nat → Int32)) t11_0 t11_1 t12_0 t3_0 t3_1 t4_0) : (Int32 × Int32 × (Nat → Int32) × Int32 × Int32 × (Nat → Int32) × Int32 × Int32 × (Nat → Int32)))
def F_DW_divideRaised_c22 (R : Int32) (R2 : Int32) (x4 : Int32) (t0_0 : Int64) (t0_1 : Int32) (t1_0 : Int32) (t1_1 : Int32) (t2_0 : (Nat → Int32)) (t3_0 : Int32) (t3_1 : Int32) (t4_0 : (Nat → Int32)) (t5_0 : Int32) (t5_1 : Int32) (t6_0 : (Nat → Int32)) (t7_0 : Int32) (t7_1 : Int32) (t8_0 : Int32) (t8_1 : Int32) (t9_0 : (Nat → Int32)) (t10_0 : Int32) (t10_1 : Int32) (t11_0 : Int32) (t11_1 : Int32) (t12_0 : (Nat → Int32)) (p70 : (Int32 × Int32 × (Nat → Int32))) (p93 : (Int32 × Int32 × (Nat → Int32))) : Int64 × Int32 × Int32 × Int32 × (Nat → Int32) × Int32 × Int32 × (Nat → Int32) × Int32 × Int32 × (Nat → Int32) × Int32 × Int32 × (Nat → Int32) := F_DW_divideRaised_c35 R R2 x4 t0_0 t0_1 t1_0 t1_1 t2_0 t3_0 t3_1 t4_0 t5_0 t5_1 t6_0 t7_0 t7_1 t8_0 t8_1 t9_0 t10_0 t10_1 t11_0 t11_1 t12_0 p70 p93 ((F_Big_dropFigures (220 : Int32) (-x4 : Int32) (p93.1 : Int32) (p93.2.1 : Int32) (p93.2.2 : (Nat → Int32))) : (Int32 × Int32 × Int32 × (Nat → Int32)))
def F_DW_divideRaised_c11 (R : Int32) (R2 : Int32) (x4 : Int32) (t0_0 : Int64) (t0_1 : Int32) (t1_0 : Int32) (t1_1 : Int32) (t2_0 : (Nat → Int32)) (t3_0 : Int32) (t3_1 : Int32) (t4_0 : (Nat → Int32)) (t5_0 : Int32) (t5_1 : Int32) (t6_0 : (Nat → Int32)) (t7_0 : Int32) (t7_1 : Int32) (t8_0 : Int32) (t8_1 : Int32) (t9_0 : (Nat → Int32)) (t10_0 : Int32) (t10_1 : Int32) (t11_0 : Int32) (t11_1 : Int32) (t12_0 : (Nat → Int32)) (p70 : (Int32 × Int32 × (Nat → Int32))) : Int64 × Int32 × Int32 × Int32 × (Nat → Int32) × Int32 × Int32 × (Nat → Int32) × Int32 × Int32 × (Nat → Int32) × Int32 × Int32 × (Nat → Int32) := F_DW_divideRaised_c22 R R2 x4 t0_0 t0_1 t1_0 t1_1 t2_0 t3_0 t3_1 t4_0 t5_0 t5_1 t6_0 t7_0 t7_1 t8_0 t8_1 t9_0 t10_0 t10_1 t11_0 t11_1 t12_0 p70 ((F_Big_timesTen (220 : Int32) x4 (p70.1 : Int32) (p70.2.1 : Int32) (p70.2.2 : (Nat → Int32))) : (Int32 × Int32 × (Nat → Int32)))
def F_DW_divideRaised (R : Int32) (R2 : Int32) (x4 : Int32) (t0_0 : Int64) (t0_1 : Int32) (t1_0 : Int32) (t1_1 : Int32) (t2_0 : (Nat → Int32)) (t3_0 : Int32) (t3_1 : Int32) (t4_0 : (Nat → Int32)) (t5_0 : Int32) (t5_1 : Int32) (t6_0 : (Nat → Int32)) (t7_0 : Int32) (t7_1 : Int32) (t8_0 : Int32) (t8_1 : Int32) (t9_0 : (Nat → Int32)) (t10_0 : Int32) (t10_1 : Int32) (t11_0 : Int32) (t11_1 : Int32) (t12_0 : (Nat → Int32)) : Int64 × Int32 × Int32 × Int32 × (Nat → Int32) × Int32 × Int32 × (Nat → Int32) × Int32 × Int32 × (Nat → Int32) × Int32 × Int32 × (Nat → Int32) := F_DW_divideRaised_c11 R R2 x4 t0_0 t0_1 t1_0 t1_1 t2_0 t3_0 t3_1 t4_0 t5_0 t5_1 t6_0 t7_0 t7_1 t8_0 t8_1 t9_0 t10_0 t10_1 t11_0 t11_1 t12_0 ((F_Big_copy (220 : Int32) R t5_0 t5_1 t6_0 t8_0 t8_1 t9_0) : (Int32 × Int32 × (Nat → Int32)))
def S_DW_divideRaised_c103 (R : Int32) (R2 : Int32) (x4 : Int32) (t0_0 : Int64) (t0_1 : Int32) (t1_0 : Int32) (t1_1 : Int32) (t2_0 : (Nat → Int32)) (t3_0 : Int32) (t3_1 : Int32) (t4_0 : (Nat → Int32)) (t5_0 : Int32) (t5_1 : Int32) (t6_0 : (Nat → Int32)) (t7_0 : Int32) (t7_1 : Int32) (t8_0 : Int32) (t8_1 : Int32) (t9_0 : (Nat → Int32)) (t10_0 : Int32) (t10_1 : Int32) (t11_0 : Int32) (t11_1 : Int32) (t12_0 : (Nat → Int32)) (p70 : (Int32 × Int32 × (Nat → Int32))) (p93 : (Int32 × Int32 × (Nat → Int32))) (p122 : (Int32 × Int32 × Int32 × (Nat → Int32))) (a107 : Int32) (p170 : (Int32 × Int32 × (Nat → Int32) × Int32 × Int32 × (Nat → Int32) × Int32 × Int32 × (Nat → Int32))) (a188 : Int32) (y149 : Int32) (y150 : Int32) (f151 : (Nat → Int32)) (y139 : Int32) (y140 : Int32) (f141 : (Nat → Int32)) (y144 : Int32) (y145 : Int32) (f146 : (Nat → Int32)) (p207 : (Int32 × Int32 × (Nat → Int32))) : Prop := True
def S_DW_divideRaised_c103_6 (R : Int32) (R2 : Int32) (x4 : Int32) (t0_0 : Int64) (t0_1 : Int32) (t1_0 : Int32) (t1_1 : Int32) (t2_0 : (Nat → Int32)) (t3_0 : Int32) (t3_1 : Int32) (t4_0 : (Nat → Int32)) (t5_0 : Int32) (t5_1 : Int32) (t6_0 : (Nat → Int32)) (t7_0 : Int32) (t7_1 : Int32) (t8_0 : Int32) (t8_1 : Int32) (t9_0 : (Nat → Int32)) (t10_0 : Int32) (t10_1 : Int32) (t11_0 : Int32) (t11_1 : Int32) (t12_0 : (Nat → Int32)) (p70 : (Int32 × Int32 × (Nat → Int32))) (p93 : (Int32 × Int32 × (Nat → Int32))) (p122 : (Int32 × Int32 × Int32 × (Nat → Int32))) (a107 : Int32) (p170 : (Int32 × Int32 × (Nat → Int32) × Int32 × Int32 × (Nat → Int32) × Int32 × Int32 × (Nat → Int32))) (a218 : Int32) (y149 : Int32) (y150 : Int32) (f151 : (Nat → Int32)) (y139 : Int32) (y140 : Int32) (f141 : (Nat → Int32)) (y144 : Int32) (y145 : Int32) (f146 : (Nat → Int32)) (p237 : (Int32 × Int32 × (Nat → Int32))) : Prop := True
def S_DW_divideRaised_c59 (R : Int32) (R2 : Int32) (x4 : Int32) (t0_0 : Int64) (t0_1 : Int32) (t1_0 : Int32) (t1_1 : Int32) (t2_0 : (Nat → Int32)) (t3_0 : Int32) (t3_1 : Int32) (t4_0 : (Nat → Int32)) (t5_0 : Int32) (t5_1 : Int32) (t6_0 : (Nat → Int32)) (t7_0 : Int32) (t7_1 : Int32) (t8_0 : Int32) (t8_1 : Int32) (t9_0 : (Nat → Int32)) (t10_0 : Int32) (t10_1 : Int32) (t11_0 : Int32) (t11_1 : Int32) (t12_0 : (Nat → Int32)) (p70 : (Int32 × Int32 × (Nat → Int32))) (p93 : (Int32 × Int32 × (Nat → Int32))) (p122 : (Int32 × Int32 × Int32 × (Nat → Int32))) (a107 : Int32) (p170 : (Int32 × Int32 × (Nat → Int32) × Int32 × Int32 × (Nat → Int32) × Int32 × Int32 × (Nat → Int32))) : Prop := if (p170.1 : Int32) ≤ (0 : Int32) then (S_DW_divideRaised_c103 R R2 x4 t0_0 t0_1 t1_0 t1_1 t2_0 t3_0 t3_1 t4_0 t5_0 t5_1 t6_0 t7_0 t7_1 t8_0 t8_1 t9_0 t10_0 t10_1 t11_0 t11_1 t12_0 p70 p93 p122 a107 p170 (a107 ||| 0 : Int32) (p170.2.2.2.2.2.2.1 : Int32) (p170.2.2.2.2.2.2.2.1 : Int32) (p170.2.2.2.2.2.2.2.2 : (Nat → Int32)) (p170.1 : Int32) (p170.2.1 : Int32) (p170.2.2.1 : (Nat → Int32)) (p170.2.2.2.1 : Int32) (p170.2.2.2.2.1 : Int32) (p170.2.2.2.2.2.1 : (Nat → Int32)) ((F_Big_copy (220 : Int32) (220 : Int32) t1_0 t1_1 t2_0 (p170.2.2.2.2.2.2.1 : Int32) (p170.2.2.2.2.2.2.2.1 : Int32) (p170.2.2.2.2.2.2.2.2 : (Nat → Int32))) : (Int32 × Int32 × (Nat → Int32)))) else (S_DW_divideRaised_c103_6 R R2 x4 t0_0 t0_1 t1_0 t1_1 t2_0 t3_0 t3_1 t4_0 t5_0 t5_1 t6_0 t7_0 t7_1 t8_0 t8_1 t9_0 t10_0 t10_1 t11_0 t11_1 t12_0 p70 p93 p122 a107 p170 (a107 ||| 1 : Int32) (p170.2.2.2.2.2.2.1 : Int32) (p170.2.2.2.2.2.2.2.1 : Int32) (p170.2.2.2.2.2.2.2.2 : (Nat → Int32)) (p170.1 : Int32) (p170.2.1 : Int32) (p170.2.2.1 : (Nat → Int32)) (p170.2.2.2.1 : Int32) (p170.2.2.2.2.1 : Int32) (p170.2.2.2.2.2.1 : (Nat → Int32)) ((F_Big_copy (220 : Int32) (220 : Int32) t1_0 t1_1 t2_0 (p170.2.2.2.2.2.2.1 : Int32) (p170.2.2.2.2.2.2.2.1 : Int32) (p170.2.2.2.2.2.2.2.2 : (Nat → Int32))) : (Int32 × Int32 × (Nat → Int32))))
def S_DW_divideRaised_c35 (R : Int32) (R2 : Int32) (x4 : Int32) (t0_0 : Int64) (t0_1 : Int32) (t1_0 : Int32) (t1_1 : Int32) (t2_0 : (Nat → Int32)) (t3_0 : Int32) (t3_1 : Int32) (t4_0 : (Nat → Int32)) (t5_0 : Int32) (t5_1 : Int32) (t6_0 : (Nat → Int32)) (t7_0 : Int32) (t7_1 : Int32) (t8_0 : Int32) (t8_1 : Int32) (t9_0 : (Nat → Int32)) (t10_0 : Int32) (t10_1 : Int32) (t11_0 : Int32) (t11_1 : Int32) (t12_0 : (Nat → Int32)) (p70 : (Int32 × Int32 × (Nat → Int32))) (p93 : (Int32 × Int32 × (Nat → Int32))) (p122 : (Int32 × Int32 × Int32 × (Nat → Int32))) : Prop := (True ∧ S_Big_divideBy (220 : Int32) R2 (220 : Int32) (p122.2.1 : Int32) (p122.2.2.1 : Int32) (p122.2.2.2 : (Nat → Int32)) t11_0 t11_1 t12_0 t3_0 t3_1 t4_0) ∧ (S_DW_divideRaised_c59 R R2 x4 t0_0 t0_1 t1_0 t1_1 t2_0 t3_0 t3_1 t4_0 t5_0 t5_1 t6_0 t7_0 t7_1 t8_0 t8_1 t9_0 t10_0 t10_1 t11_0 t11_1 t12_0 p70 p93 p122 (p122.1 : Int32) ((F_Big_divideBy (220 : Int32) R2 (220 : Int32) (p122.2.1 : Int32) (p122.2.2.1 : Int32) (p122.2.2.2 : (Nat → Int32)) t11_0 t11_1 t12_0 t3_0 t3_1 t4_0) : (Int32 × Int32 × (Nat → Int32) × Int32 × Int32 × (Nat → Int32) × Int32 × Int32 × (Nat → Int32))))
def S_DW_divideRaised_c22 (R : Int32) (R2 : Int32) (x4 : Int32) (t0_0 : Int64) (t0_1 : Int32) (t1_0 : Int32) (t1_1 : Int32) (t2_0 : (Nat → Int32)) (t3_0 : Int32) (t3_1 : Int32) (t4_0 : (Nat → Int32)) (t5_0 : Int32) (t5_1 : Int32) (t6_0 : (Nat → Int32)) (t7_0 : Int32) (t7_1 : Int32) (t8_0 : Int32) (t8_1 : Int32) (t9_0 : (Nat → Int32)) (t10_0 : Int32) (t10_1 : Int32) (t11_0 : Int32) (t11_1 : Int32) (t12_0 : (Nat → Int32)) (p70 : (Int32 × Int32 × (Nat → Int32))) (p93 : (Int32 × Int32 × (Nat → Int32))) : Prop := S_DW_divideRaised_c35 R R2 x4 t0_0 t0_1 t1_0 t1_1 t2_0 t3_0 t3_1 t4_0 t5_0 t5_1 t6_0 t7_0 t7_1 t8_0 t8_1 t9_0 t10_0 t10_1 t11_0 t11_1 t12_0 p70 p93 ((F_Big_dropFigures (220 : Int32) (-x4 : Int32) (p93.1 : Int32) (p93.2.1 : Int32) (p93.2.2 : (Nat → Int32))) : (Int32 × Int32 × Int32 × (Nat → Int32)))
def S_DW_divideRaised_c11 (R : Int32) (R2 : Int32) (x4 : Int32) (t0_0 : Int64) (t0_1 : Int32) (t1_0 : Int32) (t1_1 : Int32) (t2_0 : (Nat → Int32)) (t3_0 : Int32) (t3_1 : Int32) (t4_0 : (Nat → Int32)) (t5_0 : Int32) (t5_1 : Int32) (t6_0 : (Nat → Int32)) (t7_0 : Int32) (t7_1 : Int32) (t8_0 : Int32) (t8_1 : Int32) (t9_0 : (Nat → Int32)) (t10_0 : Int32) (t10_1 : Int32) (t11_0 : Int32) (t11_1 : Int32) (t12_0 : (Nat → Int32)) (p70 : (Int32 × Int32 × (Nat → Int32))) : Prop := S_DW_divideRaised_c22 R R2 x4 t0_0 t0_1 t1_0 t1_1 t2_0 t3_0 t3_1 t4_0 t5_0 t5_1 t6_0 t7_0 t7_1 t8_0 t8_1 t9_0 t10_0 t10_1 t11_0 t11_1 t12_0 p70 ((F_Big_timesTen (220 : Int32) x4 (p70.1 : Int32) (p70.2.1 : Int32) (p70.2.2 : (Nat → Int32))) : (Int32 × Int32 × (Nat → Int32)))
def S_DW_divideRaised (R : Int32) (R2 : Int32) (x4 : Int32) (t0_0 : Int64) (t0_1 : Int32) (t1_0 : Int32) (t1_1 : Int32) (t2_0 : (Nat → Int32)) (t3_0 : Int32) (t3_1 : Int32) (t4_0 : (Nat → Int32)) (t5_0 : Int32) (t5_1 : Int32) (t6_0 : (Nat → Int32)) (t7_0 : Int32) (t7_1 : Int32) (t8_0 : Int32) (t8_1 : Int32) (t9_0 : (Nat → Int32)) (t10_0 : Int32) (t10_1 : Int32) (t11_0 : Int32) (t11_1 : Int32) (t12_0 : (Nat → Int32)) : Prop := S_DW_divideRaised_c11 R R2 x4 t0_0 t0_1 t1_0 t1_1 t2_0 t3_0 t3_1 t4_0 t5_0 t5_1 t6_0 t7_0 t7_1 t8_0 t8_1 t9_0 t10_0 t10_1 t11_0 t11_1 t12_0 ((F_Big_copy (220 : Int32) R t5_0 t5_1 t6_0 t8_0 t8_1 t9_0) : (Int32 × Int32 × (Nat → Int32)))
set_option maxRecDepth 100000 in
set_option maxHeartbeats 4000000 in
theorem X_DW_divideRaised (l : Launch) (D : va_G) (g : Nat → ClassId) (q : Nat → Nat) (ws : va_W) (k2 : Nat) (R : Int32) (hB2 : q_isDec (nsh g q) g q k2 R) (zk2 : (10 ≤ k2 ∧ k2 ≤ 31) ∨ 66 ≤ k2) (k3 : Nat) (R2 : Int32) (hB3 : q_isDec (nsh g q) g q k3 R2) (zk3 : (10 ≤ k3 ∧ k3 ≤ 31) ∨ 66 ≤ k3) (x4 : Int32) (ne_k2_10 : k2 ≠ 10) (ne_k2_11 : k2 ≠ 11) (ne_k2_9 : k2 ≠ 9) (ne_k2_8 : k2 ≠ 8) (ne_k2_12 : k2 ≠ 12) (ne_k2_13 : k2 ≠ 13) (ne_k2_22 : k2 ≠ 22) (ne_k2_23 : k2 ≠ 23) (ne_k2_21 : k2 ≠ 21) (ne_k2_20 : k2 ≠ 20) (ne_k2_30 : k2 ≠ 30) (ne_k2_31 : k2 ≠ 31) (ne_k2_29 : k2 ≠ 29) (ne_k2_28 : k2 ≠ 28) (ne_k3_10 : k3 ≠ 10) (ne_k3_11 : k3 ≠ 11) (ne_k3_9 : k3 ≠ 9) (ne_k3_8 : k3 ≠ 8) (ne_k3_12 : k3 ≠ 12) (ne_k3_13 : k3 ≠ 13) (ne_k3_22 : k3 ≠ 22) (ne_k3_23 : k3 ≠ 23) (ne_k3_21 : k3 ≠ 21) (ne_k3_20 : k3 ≠ 20) (ne_k3_30 : k3 ≠ 30) (ne_k3_31 : k3 ≠ 31) (ne_k3_29 : k3 ≠ 29) (ne_k3_28 : k3 ≠ 28) (ne_k2_k3 : k2 ≠ k3) (ne_k2_k3p1 : k2 ≠ k3 + 1) (ne_k2_k3p2 : k2 ≠ k3 + 2) (ne_k3_k2p1 : k3 ≠ k2 + 1) (ne_k3_k2p2 : k3 ≠ k2 + 2) (hI : q_I (nsh g q) q ws) (t0_0 : Int64) (t0_1 : Int32) (hT0 : ws[30]? = (some (q 30, .inr (5, [.ref (q 31), .long t0_0, .ref (q 9), .int t0_1])) : Option (Nat × va_E))) (t1_0 : Int32) (t1_1 : Int32) (hT1 : ws[10]? = (some (q 10, .inr (2, [.ref (q 11), .int t1_0, .int t1_1])) : Option (Nat × va_E))) (t2_0 : (Nat → Int32)) (hT2 : ws[11]? = (some (q 11, .inl (g 0, (220 : Int32).toNatClampNeg, .inl t2_0)) : Option (Nat × va_E))) (t3_0 : Int32) (t3_1 : Int32) (hT3 : ws[12]? = (some (q 12, .inr (2, [.ref (q 13), .int t3_0, .int t3_1])) : Option (Nat × va_E))) (t4_0 : (Nat → Int32)) (hT4 : ws[13]? = (some (q 13, .inl (g 0, (220 : Int32).toNatClampNeg, .inl t4_0)) : Option (Nat × va_E))) (t5_0 : Int32) (t5_1 : Int32) (hT5 : ws[22]? = (some (q 22, .inr (2, [.ref (q 23), .int t5_0, .int t5_1])) : Option (Nat × va_E))) (t6_0 : (Nat → Int32)) (hT6 : ws[23]? = (some (q 23, .inl (g 0, (220 : Int32).toNatClampNeg, .inl t6_0)) : Option (Nat × va_E))) (t7_0 : Int32) (t7_1 : Int32) (hT7 : ws[k2]? = (some (q k2, .inr (3, [.ref (q (k2 + 1)), .int t7_0, .int t7_1])) : Option (Nat × va_E))) (t8_0 : Int32) (t8_1 : Int32) (hT8 : ws[k2 + 1]? = (some (q (k2 + 1), .inr (2, [.ref (q (k2 + 2)), .int t8_0, .int t8_1])) : Option (Nat × va_E))) (t9_0 : (Nat → Int32)) (hT9 : ws[k2 + 2]? = (some (q (k2 + 2), .inl (g 0, R.toNatClampNeg, .inl t9_0)) : Option (Nat × va_E))) (t10_0 : Int32) (t10_1 : Int32) (hT10 : ws[k3]? = (some (q k3, .inr (3, [.ref (q (k3 + 1)), .int t10_0, .int t10_1])) : Option (Nat × va_E))) (t11_0 : Int32) (t11_1 : Int32) (hT11 : ws[k3 + 1]? = (some (q (k3 + 1), .inr (2, [.ref (q (k3 + 2)), .int t11_0, .int t11_1])) : Option (Nat × va_E))) (t12_0 : (Nat → Int32)) (hT12 : ws[k3 + 2]? = (some (q (k3 + 2), .inl (g 0, R2.toNatClampNeg, .inl t12_0)) : Option (Nat × va_E))) (hS : True ∧ S_DW_divideRaised R R2 x4 t0_0 t0_1 t1_0 t1_1 t2_0 t3_0 t3_1 t4_0 t5_0 t5_1 t6_0 t7_0 t7_1 t8_0 t8_1 t9_0 t10_0 t10_1 t11_0 t11_1 t12_0) : q_mV l y_DW_divideRaised prog_4_method_15_code 4 5 0 0 D g [.ref (q 30), .ref (q k2), .ref (q k3), .int x4] ws (fun u => q_I (nsh g q) q u ∧ q_un ws u [10, 11, 12, 13, 22, 23, 30, k3 + 1, k3 + 2] ∧ ∃ (u0_0 : Int64) (u0_1 : Int32) (u1_0 : Int32) (u1_1 : Int32) (u2_0 : (Nat → Int32)) (u3_0 : Int32) (u3_1 : Int32) (u4_0 : (Nat → Int32)) (u5_0 : Int32) (u5_1 : Int32) (u6_0 : (Nat → Int32)) (u11_0 : Int32) (u11_1 : Int32) (u12_0 : (Nat → Int32)), u[30]? = (some (q 30, .inr (5, [.ref (q 31), .long u0_0, .ref (q 9), .int u0_1])) : Option (Nat × va_E)) ∧ u[10]? = (some (q 10, .inr (2, [.ref (q 11), .int u1_0, .int u1_1])) : Option (Nat × va_E)) ∧ u[11]? = (some (q 11, .inl (g 0, (220 : Int32).toNatClampNeg, .inl u2_0)) : Option (Nat × va_E)) ∧ u[12]? = (some (q 12, .inr (2, [.ref (q 13), .int u3_0, .int u3_1])) : Option (Nat × va_E)) ∧ u[13]? = (some (q 13, .inl (g 0, (220 : Int32).toNatClampNeg, .inl u4_0)) : Option (Nat × va_E)) ∧ u[22]? = (some (q 22, .inr (2, [.ref (q 23), .int u5_0, .int u5_1])) : Option (Nat × va_E)) ∧ u[23]? = (some (q 23, .inl (g 0, (220 : Int32).toNatClampNeg, .inl u6_0)) : Option (Nat × va_E)) ∧ u[k3 + 1]? = (some (q (k3 + 1), .inr (2, [.ref (q (k3 + 2)), .int u11_0, .int u11_1])) : Option (Nat × va_E)) ∧ u[k3 + 2]? = (some (q (k3 + 2), .inl (g 0, R2.toNatClampNeg, .inl u12_0)) : Option (Nat × va_E)) ∧ (0 ≤ u3_1.toInt) ∧ (u3_1.toInt ≤ 0) ∧ (t0_0.toInt ≤ u0_0.toInt) ∧ (u0_0.toInt ≤ t0_0.toInt) ∧ (u3_0.toInt ≤ t11_0.toInt + 219) ∧ (u5_1.toInt ≤ t8_1.toInt) ∧ (u11_0.toInt ≤ t11_0.toInt + 218) ∧ (u11_0.toInt ≤ R2.toInt) ∧ (u11_1.toInt ≤ t11_1.toInt) ∧ (u3_1.toInt ≤ u0_1.toInt) ∧ (u0_1.toInt ≤ u3_1.toInt + 1) ∧ (u1_0.toInt ≤ u3_0.toInt) ∧ (u3_1.toInt ≤ u1_0.toInt) ∧ (u3_1.toInt ≤ u1_1.toInt) ∧ (u1_1.toInt ≤ u3_1.toInt) ∧ (u3_0.toInt ≤ u3_1.toInt + 220) ∧ (u5_0.toInt ≤ u3_1.toInt + 220) ∧ (u3_1.toInt ≤ u5_0.toInt) ∧ (u3_1.toInt ≤ u5_1.toInt) ∧ (u3_1.toInt ≤ u11_0.toInt) ∧ (u3_1.toInt ≤ u11_1.toInt) ∧ (u0_0, u0_1, u1_0, u1_1, u2_0, u3_0, u3_1, u4_0, u5_0, u5_1, u6_0, u11_0, u11_1, u12_0) = (F_DW_divideRaised R R2 x4 t0_0 t0_1 t1_0 t1_1 t2_0 t3_0 t3_1 t4_0 t5_0 t5_1 t6_0 t7_0 t7_1 t8_0 t8_1 t9_0 t10_0 t10_1 t11_0 t11_1 t12_0)) := by
  intro sz
  refine q_into (by decide) (Nat.le_of_ble_eq_true rfl) ?_
  intro p e s m below meth c ls hsz C0 V hl
  have hx := C0.1
  have hb := C0.2.1
  have btt0_1 := n_w30 hI hT0
  clear btt0_1
  have btt1_1 := (q_bigW hI (n_b10 g q) hT1).2
  clear btt1_1
  have btt3_1 := (q_bigW hI (n_b12 g q) hT3).2
  clear btt3_1
  have btt5_1 := (q_bigW hI (n_b22 g q) hT5).2
  clear btt5_1
  have btt7_1 := (n_deW hI hB2 hT7).2
  clear btt7_1
  have btt8_1 := (q_bigW hI hB2.2 hT8).2
  clear btt8_1
  have btt10_1 := (n_deW hI hB3 hT10).2
  clear btt10_1
  have btt11_1 := (q_bigW hI hB3.2 hT11).2
  clear btt11_1
  have hF : q_un ws ws [10, 11, 12, 13, 22, 23, 30, k3 + 1, k3 + 2] := q_u0
  have hl : lv_has ls 4 [(0, .ref (q 30)), (1, .ref (q k2)), (2, .ref (q k3)), (3, .int x4)] := hl
  refine lv_aload_n hx hb d_4_15_0 rfl (lv_at hl 0 rfl) ?_
  refine q_get (ci := 5) (j := 2) (v := .ref (q 9)) C0 V i_DW rfl rfl hT0 (by decide) w_214 rfl d_4_15_1 ?_
  have hO55 := n_o9 hI
  refine q_get (ci := 4) (j := 6) (v := .ref (q 22)) C0 V i_Mil rfl rfl hO55 (by decide) w_126 rfl d_4_15_4 ?_
  refine lv_aload_n hx hb d_4_15_7 rfl (lv_at hl 1 rfl) ?_
  refine q_get (ci := 3) (j := 0) (v := .ref (q (k2 + 1))) C0 V i_Dec rfl rfl hT7 (by decide) w_171 rfl d_4_15_8 ?_
  refine q_gov V (q_runV (As := [.ref (q (k2 + 1))]) (rest := []) (d := 2) (mc := 0) (ms := 0) (ci := 2) C0 V rfl LV_DW_44 (X_Big_copy l D g q ws 22 220 (n_b22 g q) (by decide) (k2 + 1) R hB2.2 (by have z := zk2; omega)  (by have z := ne_k2_21; omega) hI t5_0 t5_1 hT5 t6_0 hT6 t8_0 t8_1 hT8 t9_0 hT9  _) rfl rfl hT5 rfl hl.1 rfl (Nat.le_of_ble_eq_true rfl) ⟨by decide, by decide⟩ ⟨Nat.le_of_ble_eq_true rfl, Nat.le_of_ble_eq_true rfl⟩ d_4_15_11) (fun u56 H locs hp57 V => ?_)
  obtain ⟨hI, hZ9⟩ := hp57
  obtain ⟨hu69, hZ9⟩ := hZ9
  obtain ⟨y59, hZ9⟩ := hZ9
  obtain ⟨y60, hZ9⟩ := hZ9
  obtain ⟨f61, hZ9⟩ := hZ9
  obtain ⟨hO58, hZ9⟩ := hZ9
  obtain ⟨hA62, hZ9⟩ := hZ9
  replace hZ9 := hZ9.2.2.2.2
  obtain ⟨b67, hE68⟩ := hZ9
  replace hO58 : u56[22]? = (some (q 22, .inr (2, [.ref (q 23), .int y59, .int y60])) : Option (Nat × va_E)) := hO58
  replace hA62 : u56[23]? = (some (q 23, .inl (g 0, (220 : Int32).toNatClampNeg, .inl f61)) : Option (Nat × va_E)) := hA62
  obtain ⟨p70, e71⟩ : ∃ z, z = (F_Big_copy (220 : Int32) R t5_0 t5_1 t6_0 t8_0 t8_1 t9_0) := ⟨_, rfl⟩
  have e72 : y59 = p70.1 := congrArg (fun z => z.1) (hE68.trans e71.symm)
  have e73 : y60 = p70.2.1 := congrArg (fun z => z.2.1) (hE68.trans e71.symm)
  have e74 : f61 = p70.2.2 := congrArg (fun z => z.2.2) (hE68.trans e71.symm)
  replace b67 : q_F (y60.toInt ≤ t8_1.toInt) := b67
  replace hT0 := (hu69 _ (by decide)).trans hT0
  replace hT1 := (hu69 _ (by decide)).trans hT1
  replace hT2 := (hu69 _ (by decide)).trans hT2
  replace hT3 := (hu69 _ (by decide)).trans hT3
  replace hT4 := (hu69 _ (by decide)).trans hT4
  replace hT10 := (hu69 _ (by have z0 := zk3; simp only [List.mem_cons, List.not_mem_nil, or_false, not_or]; omega)).trans hT10
  replace hT11 := (hu69 _ (by have z0 := zk3; simp only [List.mem_cons, List.not_mem_nil, or_false, not_or]; omega)).trans hT11
  replace hT12 := (hu69 _ (by have z0 := zk3; simp only [List.mem_cons, List.not_mem_nil, or_false, not_or]; omega)).trans hT12
  replace hO55 := (hu69 _ (by decide)).trans hO55
  replace hF := q_uc hF hu69 (by first | exact (q_sk (q_mi 4 rfl) (q_sk (q_mi 5 rfl) q_s0)) | simp)
  have hR75 := (show F_DW_divideRaised_c11 R R2 x4 t0_0 t0_1 t1_0 t1_1 t2_0 t3_0 t3_1 t4_0 t5_0 t5_1 t6_0 t7_0 t7_1 t8_0 t8_1 t9_0 t10_0 t10_1 t11_0 t11_1 t12_0 p70 = (F_DW_divideRaised R R2 x4 t0_0 t0_1 t1_0 t1_1 t2_0 t3_0 t3_1 t4_0 t5_0 t5_1 t6_0 t7_0 t7_1 t8_0 t8_1 t9_0 t10_0 t10_1 t11_0 t11_1 t12_0) from (by rw [e71, F_DW_divideRaised.eq_1]))
  have hS76 := (show True ∧ S_DW_divideRaised_c11 R R2 x4 t0_0 t0_1 t1_0 t1_1 t2_0 t3_0 t3_1 t4_0 t5_0 t5_1 t6_0 t7_0 t7_1 t8_0 t8_1 t9_0 t10_0 t10_1 t11_0 t11_1 t12_0 p70 from (by rw [e71]; have h := hS; rw [S_DW_divideRaised.eq_1] at h; with_reducible exact h))
  refine lv_aload_n hx hb d_4_15_14 rfl (lv_at hl 0 rfl) ?_
  refine q_get (ci := 5) (j := 2) (v := .ref (q 9)) C0 V i_DW rfl rfl hT0 (by decide) w_214 rfl d_4_15_15 ?_
  refine q_get (ci := 4) (j := 6) (v := .ref (q 22)) C0 V i_Mil rfl rfl hO55 (by decide) w_126 rfl d_4_15_18 ?_
  refine lv_iload_n hx hb d_4_15_21 rfl (lv_at hl 3 rfl) ?_
  refine q_gov V (q_runV (As := [.int x4]) (rest := []) (d := 2) (mc := 0) (ms := 0) (ci := 2) C0 V rfl LV_DW_77 (X_Big_timesTen l D g q u56 22 220 (n_b22 g q) (by decide) x4 hI y59 y60 hO58 f61 hA62  _) rfl rfl hO58 rfl hl.1 rfl (Nat.le_of_ble_eq_true rfl) ⟨by decide, by decide⟩ ⟨Nat.le_of_ble_eq_true rfl, Nat.le_of_ble_eq_true rfl⟩ d_4_15_22) (fun u80 H locs hp81 V => ?_)
  obtain ⟨hI, hZ9⟩ := hp81
  obtain ⟨hu92, hZ9⟩ := hZ9
  obtain ⟨y83, hZ9⟩ := hZ9
  obtain ⟨y84, hZ9⟩ := hZ9
  obtain ⟨f85, hZ9⟩ := hZ9
  obtain ⟨hO82, hZ9⟩ := hZ9
  obtain ⟨hA86, hZ9⟩ := hZ9
  replace hZ9 := hZ9.2.2.2
  obtain ⟨b90, hE91⟩ := hZ9
  replace hO82 : u80[22]? = (some (q 22, .inr (2, [.ref (q 23), .int y83, .int y84])) : Option (Nat × va_E)) := hO82
  replace hA86 : u80[23]? = (some (q 23, .inl (g 0, (220 : Int32).toNatClampNeg, .inl f85)) : Option (Nat × va_E)) := hA86
  obtain ⟨p93, e94⟩ : ∃ z, z = (F_Big_timesTen (220 : Int32) x4 y59 y60 f61) := ⟨_, rfl⟩
  have e95 : y83 = p93.1 := congrArg (fun z => z.1) (hE91.trans e94.symm)
  have e96 : y84 = p93.2.1 := congrArg (fun z => z.2.1) (hE91.trans e94.symm)
  have e97 : f85 = p93.2.2 := congrArg (fun z => z.2.2) (hE91.trans e94.symm)
  replace b90 : q_F (y84.toInt ≤ y60.toInt) := b90
  replace hT0 := (hu92 _ (by decide)).trans hT0
  replace hT1 := (hu92 _ (by decide)).trans hT1
  replace hT2 := (hu92 _ (by decide)).trans hT2
  replace hT3 := (hu92 _ (by decide)).trans hT3
  replace hT4 := (hu92 _ (by decide)).trans hT4
  replace hT10 := (hu92 _ (by have z0 := zk3; simp only [List.mem_cons, List.not_mem_nil, or_false, not_or]; omega)).trans hT10
  replace hT11 := (hu92 _ (by have z0 := zk3; simp only [List.mem_cons, List.not_mem_nil, or_false, not_or]; omega)).trans hT11
  replace hT12 := (hu92 _ (by have z0 := zk3; simp only [List.mem_cons, List.not_mem_nil, or_false, not_or]; omega)).trans hT12
  replace hO55 := (hu92 _ (by decide)).trans hO55
  replace hF := q_uc hF hu92 (by first | exact (q_sk (q_mi 4 rfl) (q_sk (q_mi 5 rfl) q_s0)) | simp)
  have hR98 := (show F_DW_divideRaised_c22 R R2 x4 t0_0 t0_1 t1_0 t1_1 t2_0 t3_0 t3_1 t4_0 t5_0 t5_1 t6_0 t7_0 t7_1 t8_0 t8_1 t9_0 t10_0 t10_1 t11_0 t11_1 t12_0 p70 p93 = (F_DW_divideRaised R R2 x4 t0_0 t0_1 t1_0 t1_1 t2_0 t3_0 t3_1 t4_0 t5_0 t5_1 t6_0 t7_0 t7_1 t8_0 t8_1 t9_0 t10_0 t10_1 t11_0 t11_1 t12_0) from Eq.trans (by rw [e94, e74, e73, e72, F_DW_divideRaised_c11.eq_1]) hR75)
  have hS99 := (show True ∧ S_DW_divideRaised_c22 R R2 x4 t0_0 t0_1 t1_0 t1_1 t2_0 t3_0 t3_1 t4_0 t5_0 t5_1 t6_0 t7_0 t7_1 t8_0 t8_1 t9_0 t10_0 t10_1 t11_0 t11_1 t12_0 p70 p93 from (by rw [e94, e74, e73, e72]; have h := hS76; rw [S_DW_divideRaised_c11.eq_1] at h; with_reducible exact h))
  refine lv_aload_n hx hb d_4_15_25 rfl (lv_at hl 0 rfl) ?_
  refine lv_aload_n hx hb d_4_15_26 rfl (lv_at hl 0 rfl) ?_
  refine q_get (ci := 5) (j := 2) (v := .ref (q 9)) C0 V i_DW rfl rfl hT0 (by decide) w_214 rfl d_4_15_27 ?_
  refine q_get (ci := 4) (j := 6) (v := .ref (q 22)) C0 V i_Mil rfl rfl hO55 (by decide) w_126 rfl d_4_15_30 ?_
  refine lv_iload_n hx hb d_4_15_33 rfl (lv_at hl 3 rfl) ?_
  refine lv_ineg hx hb d_4_15_34 ?_
  obtain ⟨a103, e104⟩ := q_nm (-x4 : Int32)
  refine q_ti (v := a103) e104 ?_
  refine q_goi V (q_runV (As := [.int a103]) (rest := [.ref (q 30)]) (d := 3) (mc := 0) (ms := 0) (ci := 2) C0 V rfl LV_DW_149 (X_Big_dropFigures l D g q u80 22 220 (n_b22 g q) (by decide) a103 hI y83 y84 hO82 f85 hA86  _) rfl rfl hO82 rfl hl.1 rfl (Nat.le_of_ble_eq_true rfl) ⟨by decide, by decide⟩ ⟨Nat.le_of_ble_eq_true rfl, Nat.le_of_ble_eq_true rfl⟩ d_4_15_35) (fun a107 u105 H locs hp106 V => ?_)
  obtain ⟨hI, hZ9⟩ := hp106
  obtain ⟨hu121, hZ9⟩ := hZ9
  obtain ⟨y109, hZ9⟩ := hZ9
  obtain ⟨y110, hZ9⟩ := hZ9
  obtain ⟨f111, hZ9⟩ := hZ9
  obtain ⟨hO108, hZ9⟩ := hZ9
  obtain ⟨hA112, hZ9⟩ := hZ9
  obtain ⟨b113, hZ9⟩ := hZ9
  obtain ⟨b114, hZ9⟩ := hZ9
  replace hZ9 := hZ9.2.2.2.2
  obtain ⟨b119, hE120⟩ := hZ9
  replace hO108 : u105[22]? = (some (q 22, .inr (2, [.ref (q 23), .int y109, .int y110])) : Option (Nat × va_E)) := hO108
  replace hA112 : u105[23]? = (some (q 23, .inl (g 0, (220 : Int32).toNatClampNeg, .inl f111)) : Option (Nat × va_E)) := hA112
  obtain ⟨p122, e123⟩ : ∃ z, z = (F_Big_dropFigures (220 : Int32) a103 y83 y84 f85) := ⟨_, rfl⟩
  have e124 : a107 = p122.1 := congrArg (fun z => z.1) (hE120.trans e123.symm)
  have e125 : y109 = p122.2.1 := congrArg (fun z => z.2.1) (hE120.trans e123.symm)
  have e126 : y110 = p122.2.2.1 := congrArg (fun z => z.2.2.1) (hE120.trans e123.symm)
  have e127 : f111 = p122.2.2.2 := congrArg (fun z => z.2.2.2) (hE120.trans e123.symm)
  replace b113 : q_F (0 ≤ a107.toInt) := b113
  replace b114 : q_F (a107.toInt ≤ 1) := b114
  replace b119 : q_F (y110.toInt ≤ y84.toInt) := b119
  replace hT0 := (hu121 _ (by decide)).trans hT0
  replace hT1 := (hu121 _ (by decide)).trans hT1
  replace hT2 := (hu121 _ (by decide)).trans hT2
  replace hT3 := (hu121 _ (by decide)).trans hT3
  replace hT4 := (hu121 _ (by decide)).trans hT4
  replace hT10 := (hu121 _ (by have z0 := zk3; simp only [List.mem_cons, List.not_mem_nil, or_false, not_or]; omega)).trans hT10
  replace hT11 := (hu121 _ (by have z0 := zk3; simp only [List.mem_cons, List.not_mem_nil, or_false, not_or]; omega)).trans hT11
  replace hT12 := (hu121 _ (by have z0 := zk3; simp only [List.mem_cons, List.not_mem_nil, or_false, not_or]; omega)).trans hT12
  replace hO55 := (hu121 _ (by decide)).trans hO55
  replace hF := q_uc hF hu121 (by first | exact (q_sk (q_mi 4 rfl) (q_sk (q_mi 5 rfl) q_s0)) | simp)
  have hR128 := (show F_DW_divideRaised_c35 R R2 x4 t0_0 t0_1 t1_0 t1_1 t2_0 t3_0 t3_1 t4_0 t5_0 t5_1 t6_0 t7_0 t7_1 t8_0 t8_1 t9_0 t10_0 t10_1 t11_0 t11_1 t12_0 p70 p93 p122 = (F_DW_divideRaised R R2 x4 t0_0 t0_1 t1_0 t1_1 t2_0 t3_0 t3_1 t4_0 t5_0 t5_1 t6_0 t7_0 t7_1 t8_0 t8_1 t9_0 t10_0 t10_1 t11_0 t11_1 t12_0) from Eq.trans (by rw [e123, ← e104, e97, e96, e95, F_DW_divideRaised_c22.eq_1]) hR98)
  have hS129 := (show True ∧ S_DW_divideRaised_c35 R R2 x4 t0_0 t0_1 t1_0 t1_1 t2_0 t3_0 t3_1 t4_0 t5_0 t5_1 t6_0 t7_0 t7_1 t8_0 t8_1 t9_0 t10_0 t10_1 t11_0 t11_1 t12_0 p70 p93 p122 from (by rw [e123, ← e104, e97, e96, e95]; have h := hS99; rw [S_DW_divideRaised_c22.eq_1] at h; with_reducible exact h))
  refine q_put (ci := 5) (j := 3) (v := .int a107) (ty := .boolean) C0 V i_DW o_DW n_DW rfl rfl hT0 (by decide) w_215 rfl rfl (q_nz01 (q_Ile (x := 0) (y := a107.toInt) (by decide) rfl (by first | with_reducible exact q_fe b113 | (have t1 : 0 ≤ a107.toInt := b113; omega))) (q_Ile (x := a107.toInt) (y := 1) rfl (by decide) (by first | with_reducible exact q_fe b114 | (have t1 : a107.toInt ≤ 1 := b114; omega)))) (q_fz01 (q_Ile (x := 0) (y := a107.toInt) (by decide) rfl (by first | with_reducible exact q_fe b113 | (have t1 : 0 ≤ a107.toInt := b113; omega))) (q_Ile (x := a107.toInt) (y := 1) rfl (by decide) (by first | with_reducible exact q_fe b114 | (have t1 : a107.toInt ≤ 1 := b114; omega)))) (Nat.le_of_ble_eq_true rfl) d_4_15_38 (fun H locs w133 hu134 hT0 V => ?_)
  replace hT0 : w133[30]? = (some (q 30, .inr (5, [.ref (q 31), .long t0_0, .ref (q 9), .int a107])) : Option (Nat × va_E)) := hT0
  replace hI := n_p30 hI hu134 hT0 ⟨(by first | with_reducible exact q_fe b113 | (have t1 : 0 ≤ a107.toInt := b113; omega)), (by first | with_reducible exact q_fe b114 | (have t1 : a107.toInt ≤ 1 := b114; omega))⟩
  replace hT1 := (hu134 _ (by decide)).trans hT1
  replace hT2 := (hu134 _ (by decide)).trans hT2
  replace hT3 := (hu134 _ (by decide)).trans hT3
  replace hT4 := (hu134 _ (by decide)).trans hT4
  replace hO108 := (hu134 _ (by decide)).trans hO108
  replace hA112 := (hu134 _ (by decide)).trans hA112
  replace hT10 := (hu134 _ (by have z := ne_k3_30; omega)).trans hT10
  replace hT11 := (hu134 _ (by have z := ne_k3_29; omega)).trans hT11
  replace hT12 := (hu134 _ (by have z := ne_k3_28; omega)).trans hT12
  replace hO55 := (hu134 _ (by decide)).trans hO55
  replace hF := q_us hF hu134 (by simp)
  refine lv_aload_n hx hb d_4_15_41 rfl (lv_at hl 0 rfl) ?_
  refine q_get (ci := 5) (j := 2) (v := .ref (q 9)) C0 V i_DW rfl rfl hT0 (by decide) w_214 rfl d_4_15_42 ?_
  refine q_get (ci := 4) (j := 6) (v := .ref (q 22)) C0 V i_Mil rfl rfl hO55 (by decide) w_126 rfl d_4_15_45 ?_
  refine lv_aload_n hx hb d_4_15_48 rfl (lv_at hl 2 rfl) ?_
  refine q_get (ci := 3) (j := 0) (v := .ref (q (k3 + 1))) C0 V i_Dec rfl rfl hT10 (by decide) w_171 rfl d_4_15_49 ?_
  refine lv_aload_n hx hb d_4_15_52 rfl (lv_at hl 0 rfl) ?_
  refine q_get (ci := 5) (j := 2) (v := .ref (q 9)) C0 V i_DW rfl rfl hT0 (by decide) w_214 rfl d_4_15_53 ?_
  refine q_get (ci := 4) (j := 1) (v := .ref (q 12)) C0 V i_Mil rfl rfl hO55 (by decide) w_115 rfl d_4_15_56 ?_
  have ob135 : True ∧ S_Big_divideBy (220 : Int32) R2 (220 : Int32) y109 y110 f111 t11_0 t11_1 t12_0 t3_0 t3_1 t4_0 := (by rw [e127, e126, e125]; have h := hS129; rw [S_DW_divideRaised_c35.eq_1] at h; with_reducible exact h.2.1)
  refine q_gov V (q_runV (As := [.ref (q (k3 + 1)), .ref (q 12)]) (rest := []) (d := 4) (mc := 0) (ms := 0) (ci := 2) C0 V rfl LV_DW_109 (X_Big_divideBy l D g q w133 22 220 (n_b22 g q) (by decide) (k3 + 1) R2 hB3.2 (by have z := zk3; omega) 12 220 (n_b12 g q) (by decide)  (by have z := ne_k3_21; omega) (by decide) (by have z := ne_k3_11; omega) hI y109 y110 hO108 f111 hA112 t11_0 t11_1 hT11 t12_0 hT12 t3_0 t3_1 hT3 t4_0 hT4 ob135 _) rfl rfl hO108 rfl hl.1 rfl (Nat.le_of_ble_eq_true rfl) ⟨by decide, by decide⟩ ⟨Nat.le_of_ble_eq_true rfl, Nat.le_of_ble_eq_true rfl⟩ d_4_15_59) (fun u136 H locs hp137 V => ?_)
  obtain ⟨hI, hZ9⟩ := hp137
  obtain ⟨hu169, hZ9⟩ := hZ9
  obtain ⟨y139, hZ9⟩ := hZ9
  obtain ⟨y140, hZ9⟩ := hZ9
  obtain ⟨f141, hZ9⟩ := hZ9
  obtain ⟨y144, hZ9⟩ := hZ9
  obtain ⟨y145, hZ9⟩ := hZ9
  obtain ⟨f146, hZ9⟩ := hZ9
  obtain ⟨y149, hZ9⟩ := hZ9
  obtain ⟨y150, hZ9⟩ := hZ9
  obtain ⟨f151, hZ9⟩ := hZ9
  obtain ⟨hO138, hZ9⟩ := hZ9
  obtain ⟨hA142, hZ9⟩ := hZ9
  obtain ⟨hO143, hZ9⟩ := hZ9
  obtain ⟨hA147, hZ9⟩ := hZ9
  obtain ⟨hO148, hZ9⟩ := hZ9
  obtain ⟨hA152, hZ9⟩ := hZ9
  obtain ⟨b153, hZ9⟩ := hZ9
  obtain ⟨b154, hZ9⟩ := hZ9
  obtain ⟨b155, hZ9⟩ := hZ9
  obtain ⟨b156, hZ9⟩ := hZ9
  obtain ⟨b157, hZ9⟩ := hZ9
  obtain ⟨b158, hZ9⟩ := hZ9
  obtain ⟨b159, hZ9⟩ := hZ9
  obtain ⟨b160, hZ9⟩ := hZ9
  replace hZ9 := hZ9.2
  obtain ⟨b162, hZ9⟩ := hZ9
  obtain ⟨b163, hZ9⟩ := hZ9
  obtain ⟨b164, hZ9⟩ := hZ9
  obtain ⟨b165, hZ9⟩ := hZ9
  obtain ⟨b166, hZ9⟩ := hZ9
  obtain ⟨-, hE168⟩ := hZ9
  replace hO138 : u136[22]? = (some (q 22, .inr (2, [.ref (q 23), .int y139, .int y140])) : Option (Nat × va_E)) := hO138
  replace hA142 : u136[23]? = (some (q 23, .inl (g 0, (220 : Int32).toNatClampNeg, .inl f141)) : Option (Nat × va_E)) := hA142
  replace hO143 : u136[k3 + 1]? = (some (q (k3 + 1), .inr (2, [.ref (q (k3 + 2)), .int y144, .int y145])) : Option (Nat × va_E)) := hO143
  replace hA147 : u136[k3 + 2]? = (some (q (k3 + 2), .inl (g 0, R2.toNatClampNeg, .inl f146)) : Option (Nat × va_E)) := hA147
  replace hO148 : u136[12]? = (some (q 12, .inr (2, [.ref (q 13), .int y149, .int y150])) : Option (Nat × va_E)) := hO148
  replace hA152 : u136[13]? = (some (q 13, .inl (g 0, (220 : Int32).toNatClampNeg, .inl f151)) : Option (Nat × va_E)) := hA152
  obtain ⟨p170, e171⟩ : ∃ z, z = (F_Big_divideBy (220 : Int32) R2 (220 : Int32) y109 y110 f111 t11_0 t11_1 t12_0 t3_0 t3_1 t4_0) := ⟨_, rfl⟩
  have e172 : y139 = p170.1 := congrArg (fun z => z.1) (hE168.trans e171.symm)
  have e173 : y140 = p170.2.1 := congrArg (fun z => z.2.1) (hE168.trans e171.symm)
  have e174 : f141 = p170.2.2.1 := congrArg (fun z => z.2.2.1) (hE168.trans e171.symm)
  have e175 : y144 = p170.2.2.2.1 := congrArg (fun z => z.2.2.2.1) (hE168.trans e171.symm)
  have e176 : y145 = p170.2.2.2.2.1 := congrArg (fun z => z.2.2.2.2.1) (hE168.trans e171.symm)
  have e177 : f146 = p170.2.2.2.2.2.1 := congrArg (fun z => z.2.2.2.2.2.1) (hE168.trans e171.symm)
  have e178 : y149 = p170.2.2.2.2.2.2.1 := congrArg (fun z => z.2.2.2.2.2.2.1) (hE168.trans e171.symm)
  have e179 : y150 = p170.2.2.2.2.2.2.2.1 := congrArg (fun z => z.2.2.2.2.2.2.2.1) (hE168.trans e171.symm)
  have e180 : f151 = p170.2.2.2.2.2.2.2.2 := congrArg (fun z => z.2.2.2.2.2.2.2.2) (hE168.trans e171.symm)
  replace b153 : q_F (0 ≤ y150.toInt) := b153
  replace b154 : q_F (y150.toInt ≤ 0) := b154
  replace b155 : q_F (y139.toInt ≤ 220) := b155
  replace b156 : q_F (y140.toInt ≤ y110.toInt) := b156
  replace b157 : q_F (y144.toInt ≤ t11_0.toInt + 218) := b157
  replace b158 : q_F (y144.toInt ≤ R2.toInt) := b158
  replace b159 : q_F (y145.toInt ≤ t11_1.toInt) := b159
  replace b160 : q_F (y149.toInt ≤ t11_0.toInt + 219) := b160
  replace b162 : q_F (y149.toInt ≤ 220) := b162
  replace b163 : q_F (y150.toInt ≤ y139.toInt) := b163
  replace b164 : q_F (y150.toInt ≤ y140.toInt) := b164
  replace b165 : q_F (y150.toInt ≤ y144.toInt) := b165
  replace b166 : q_F (y150.toInt ≤ y145.toInt) := b166
  replace hT0 := (hu169 _ (by have z0 := zk3; simp only [List.mem_cons, List.not_mem_nil, or_false, not_or]; omega)).trans hT0
  replace hT1 := (hu169 _ (by have z0 := zk3; simp only [List.mem_cons, List.not_mem_nil, or_false, not_or]; omega)).trans hT1
  replace hT2 := (hu169 _ (by have z0 := zk3; simp only [List.mem_cons, List.not_mem_nil, or_false, not_or]; omega)).trans hT2
  replace hO55 := (hu169 _ (by have z0 := zk3; simp only [List.mem_cons, List.not_mem_nil, or_false, not_or]; omega)).trans hO55
  replace hF := q_uc hF hu169 (by first | exact (q_sk (q_mi 4 rfl) (q_sk (q_mi 5 rfl) (q_sk (q_mi 7 rfl) (q_sk (q_mi 8 rfl) (q_sk (q_mi 2 rfl) (q_sk (q_mi 3 rfl) q_s0)))))) | simp)
  have hR181 := (show F_DW_divideRaised_c59 R R2 x4 t0_0 t0_1 t1_0 t1_1 t2_0 t3_0 t3_1 t4_0 t5_0 t5_1 t6_0 t7_0 t7_1 t8_0 t8_1 t9_0 t10_0 t10_1 t11_0 t11_1 t12_0 p70 p93 p122 a107 p170 = (F_DW_divideRaised R R2 x4 t0_0 t0_1 t1_0 t1_1 t2_0 t3_0 t3_1 t4_0 t5_0 t5_1 t6_0 t7_0 t7_1 t8_0 t8_1 t9_0 t10_0 t10_1 t11_0 t11_1 t12_0) from Eq.trans (by rw [e171, e127, e126, e125, e124, F_DW_divideRaised_c35.eq_1]) hR128)
  have hS182 := (show True ∧ S_DW_divideRaised_c59 R R2 x4 t0_0 t0_1 t1_0 t1_1 t2_0 t3_0 t3_1 t4_0 t5_0 t5_1 t6_0 t7_0 t7_1 t8_0 t8_1 t9_0 t10_0 t10_1 t11_0 t11_1 t12_0 p70 p93 p122 a107 p170 from (by rw [e171, e127, e126, e125, e124]; have h := hS129; rw [S_DW_divideRaised_c35.eq_1] at h; replace h := q_s2 h; with_reducible exact h))
  refine lv_aload_n hx hb d_4_15_62 rfl (lv_at hl 0 rfl) ?_
  refine lv_dup hx hb d_4_15_63 rfl ?_
  refine q_get (ci := 5) (j := 3) (v := .int a107) C0 V i_DW rfl rfl hT0 (by decide) w_215 rfl d_4_15_64 ?_
  refine lv_aload_n hx hb d_4_15_67 rfl (lv_at hl 0 rfl) ?_
  refine q_get (ci := 5) (j := 2) (v := .ref (q 9)) C0 V i_DW rfl rfl hT0 (by decide) w_214 rfl d_4_15_68 ?_
  refine q_get (ci := 4) (j := 6) (v := .ref (q 22)) C0 V i_Mil rfl rfl hO55 (by decide) w_126 rfl d_4_15_71 ?_
  refine q_get (ci := 2) (j := 1) (v := .int y139) C0 V i_Big rfl rfl hO138 (by decide) w_90 rfl d_4_15_74 ?_
  refine lv_if_le (tgt := 84) hx hb d_4_15_77 (by decide) (fun c186 => ?_) (fun c186 => ?_)
  ·
    refine lv_iconst (v := 0) hx hb d_4_15_84 (by decide) ?_
    refine lv_ior hx hb d_4_15_85 ?_
    obtain ⟨a188, e189⟩ := q_nm (a107 ||| 0 : Int32)
    refine q_ti (v := a188) e189 ?_
    have b190 : q_F (0 ≤ a188.toInt ∧ a188.toInt ≤ 1) := (by rw [← e189]; show 0 ≤ (a107 ||| 0 : Int32).toInt ∧ (a107 ||| 0 : Int32).toInt ≤ 1; exact s_or' (x := a107) (y := 0) 1 (by decide) 1 (by decide) ⟨(by have t1 : 0 ≤ a107.toInt := b113; have t2 : a107.toInt ≤ 1 := b114; omega), (by have t1 : 0 ≤ a107.toInt := b113; have t2 : a107.toInt ≤ 1 := b114; omega)⟩ ⟨(by have z7 : (0 : Int32).toInt = 0 := rfl; omega), (by have z7 : (0 : Int32).toInt = 0 := rfl; omega)⟩)
    refine q_put (ci := 5) (j := 3) (v := .int a188) (ty := .boolean) C0 V i_DW o_DW n_DW rfl rfl hT0 (by decide) w_215 rfl rfl (q_nz01 (q_Ile (x := 0) (y := a188.toInt) (by decide) rfl (by first | with_reducible exact (q_fe b190).2 | with_reducible exact (q_fe b190).1 | (have t1 : 0 ≤ a188.toInt ∧ a188.toInt ≤ 1 := b190; omega))) (q_Ile (x := a188.toInt) (y := 1) rfl (by decide) (by first | with_reducible exact (q_fe b190).2 | with_reducible exact (q_fe b190).1 | (have t1 : 0 ≤ a188.toInt ∧ a188.toInt ≤ 1 := b190; omega)))) (q_fz01 (q_Ile (x := 0) (y := a188.toInt) (by decide) rfl (by first | with_reducible exact (q_fe b190).2 | with_reducible exact (q_fe b190).1 | (have t1 : 0 ≤ a188.toInt ∧ a188.toInt ≤ 1 := b190; omega))) (q_Ile (x := a188.toInt) (y := 1) rfl (by decide) (by first | with_reducible exact (q_fe b190).2 | with_reducible exact (q_fe b190).1 | (have t1 : 0 ≤ a188.toInt ∧ a188.toInt ≤ 1 := b190; omega)))) (Nat.le_of_ble_eq_true rfl) d_4_15_86 (fun H locs w191 hu192 hT0 V => ?_)
    replace hT0 : w191[30]? = (some (q 30, .inr (5, [.ref (q 31), .long t0_0, .ref (q 9), .int a188])) : Option (Nat × va_E)) := hT0
    replace hI := n_p30 hI hu192 hT0 (by first | with_reducible exact q_fe b190 | exact ⟨(by have t1 : 0 ≤ a188.toInt ∧ a188.toInt ≤ 1 := b190; omega), (by have t1 : 0 ≤ a188.toInt ∧ a188.toInt ≤ 1 := b190; omega)⟩)
    replace hT1 := (hu192 _ (by decide)).trans hT1
    replace hT2 := (hu192 _ (by decide)).trans hT2
    replace hO148 := (hu192 _ (by decide)).trans hO148
    replace hA152 := (hu192 _ (by decide)).trans hA152
    replace hO138 := (hu192 _ (by decide)).trans hO138
    replace hA142 := (hu192 _ (by decide)).trans hA142
    replace hO143 := (hu192 _ (by have z := ne_k3_29; omega)).trans hO143
    replace hA147 := (hu192 _ (by have z := ne_k3_28; omega)).trans hA147
    replace hO55 := (hu192 _ (by decide)).trans hO55
    replace hF := q_us hF hu192 (by simp)
    refine lv_aload_n hx hb d_4_15_89 rfl (lv_at hl 0 rfl) ?_
    refine q_get (ci := 5) (j := 2) (v := .ref (q 9)) C0 V i_DW rfl rfl hT0 (by decide) w_214 rfl d_4_15_90 ?_
    refine q_get (ci := 4) (j := 0) (v := .ref (q 10)) C0 V i_Mil rfl rfl hO55 (by decide) w_111 rfl d_4_15_93 ?_
    refine lv_aload_n hx hb d_4_15_96 rfl (lv_at hl 0 rfl) ?_
    refine q_get (ci := 5) (j := 2) (v := .ref (q 9)) C0 V i_DW rfl rfl hT0 (by decide) w_214 rfl d_4_15_97 ?_
    refine q_get (ci := 4) (j := 1) (v := .ref (q 12)) C0 V i_Mil rfl rfl hO55 (by decide) w_115 rfl d_4_15_100 ?_
    refine q_gov V (q_runV (As := [.ref (q 12)]) (rest := []) (d := 2) (mc := 0) (ms := 0) (ci := 2) C0 V rfl LV_DW_44 (X_Big_copy l D g q w191 10 220 (n_b10 g q) (by decide) 12 220 (n_b12 g q) (by decide)  (by decide) hI t1_0 t1_1 hT1 t2_0 hT2 y149 y150 hO148 f151 hA152  _) rfl rfl hT1 rfl hl.1 rfl (Nat.le_of_ble_eq_true rfl) ⟨by decide, by decide⟩ ⟨Nat.le_of_ble_eq_true rfl, Nat.le_of_ble_eq_true rfl⟩ d_4_15_103) (fun u193 H locs hp194 V => ?_)
    obtain ⟨hI, hZ9⟩ := hp194
    obtain ⟨hu206, hZ9⟩ := hZ9
    obtain ⟨y196, hZ9⟩ := hZ9
    obtain ⟨y197, hZ9⟩ := hZ9
    obtain ⟨f198, hZ9⟩ := hZ9
    obtain ⟨hO195, hZ9⟩ := hZ9
    obtain ⟨hA199, hZ9⟩ := hZ9
    obtain ⟨b200, hZ9⟩ := hZ9
    obtain ⟨b201, hZ9⟩ := hZ9
    replace hZ9 := hZ9.2
    obtain ⟨b203, hZ9⟩ := hZ9
    obtain ⟨b204, hE205⟩ := hZ9
    replace hO195 : u193[10]? = (some (q 10, .inr (2, [.ref (q 11), .int y196, .int y197])) : Option (Nat × va_E)) := hO195
    replace hA199 : u193[11]? = (some (q 11, .inl (g 0, (220 : Int32).toNatClampNeg, .inl f198)) : Option (Nat × va_E)) := hA199
    obtain ⟨p207, e208⟩ : ∃ z, z = (F_Big_copy (220 : Int32) (220 : Int32) t1_0 t1_1 t2_0 y149 y150 f151) := ⟨_, rfl⟩
    have e209 : y196 = p207.1 := congrArg (fun z => z.1) (hE205.trans e208.symm)
    have e210 : y197 = p207.2.1 := congrArg (fun z => z.2.1) (hE205.trans e208.symm)
    have e211 : f198 = p207.2.2 := congrArg (fun z => z.2.2) (hE205.trans e208.symm)
    replace b200 : q_F (0 ≤ y196.toInt) := b200
    replace b201 : q_F (y196.toInt ≤ y149.toInt) := b201
    replace b203 : q_F (y150.toInt ≤ y197.toInt) := b203
    replace b204 : q_F (y197.toInt ≤ y150.toInt) := b204
    replace hT0 := (hu206 _ (by decide)).trans hT0
    replace hO148 := (hu206 _ (by decide)).trans hO148
    replace hA152 := (hu206 _ (by decide)).trans hA152
    replace hO138 := (hu206 _ (by decide)).trans hO138
    replace hA142 := (hu206 _ (by decide)).trans hA142
    replace hO143 := (hu206 _ (by have z0 := zk3; simp only [List.mem_cons, List.not_mem_nil, or_false, not_or]; omega)).trans hO143
    replace hA147 := (hu206 _ (by have z0 := zk3; simp only [List.mem_cons, List.not_mem_nil, or_false, not_or]; omega)).trans hA147
    replace hF := q_uc hF hu206 (by first | exact (q_sk (q_mi 0 rfl) (q_sk (q_mi 1 rfl) q_s0)) | simp)
    have hR212 := (show F_DW_divideRaised_c103 R R2 x4 t0_0 t0_1 t1_0 t1_1 t2_0 t3_0 t3_1 t4_0 t5_0 t5_1 t6_0 t7_0 t7_1 t8_0 t8_1 t9_0 t10_0 t10_1 t11_0 t11_1 t12_0 p70 p93 p122 a107 p170 a188 y149 y150 f151 y139 y140 f141 y144 y145 f146 p207 = (F_DW_divideRaised R R2 x4 t0_0 t0_1 t1_0 t1_1 t2_0 t3_0 t3_1 t4_0 t5_0 t5_1 t6_0 t7_0 t7_1 t8_0 t8_1 t9_0 t10_0 t10_1 t11_0 t11_1 t12_0) from Eq.trans (by have c186x := c186; rw [e172] at c186x; rw [e208, ← e189, e180, e179, e178, e177, e176, e175, e174, e173, e172, F_DW_divideRaised_c59.eq_1, if_pos c186x]) hR181)
    have hS213 := (show True ∧ S_DW_divideRaised_c103 R R2 x4 t0_0 t0_1 t1_0 t1_1 t2_0 t3_0 t3_1 t4_0 t5_0 t5_1 t6_0 t7_0 t7_1 t8_0 t8_1 t9_0 t10_0 t10_1 t11_0 t11_1 t12_0 p70 p93 p122 a107 p170 a188 y149 y150 f151 y139 y140 f141 y144 y145 f146 p207 from (by rw [e208, ← e189, e180, e179, e178, e177, e176, e175, e174, e173, e172]; have h := hS182; rw [S_DW_divideRaised_c59.eq_1] at h; have c186x := c186; rw [e172] at c186x; rw [if_pos c186x] at h; with_reducible exact h))
    exact q_retv C0 V (⟨hI, hF, t0_0, a188, y196, y197, f198, y149, y150, f151, y139, y140, f141, y144, y145, f146, hT0, hO195, hA199, hO148, hA152, hO138, hA142, hO143, hA147, (show 0 ≤ y150.toInt from (by first | with_reducible exact q_fe b153 | (have t1 : 0 ≤ y150.toInt := b153; omega))), (show y150.toInt ≤ 0 from (by first | with_reducible exact q_fe b154 | (have t1 : y150.toInt ≤ 0 := b154; omega))), (show t0_0.toInt ≤ t0_0.toInt from (by omega)), (show t0_0.toInt ≤ t0_0.toInt from (by omega)), (show y149.toInt ≤ t11_0.toInt + 219 from (by first | with_reducible exact q_fe b160 | (have t1 : y149.toInt ≤ t11_0.toInt + 219 := b160; omega))), (show y140.toInt ≤ t8_1.toInt from (by have t1 : y60.toInt ≤ t8_1.toInt := b67; have t2 : y84.toInt ≤ y60.toInt := b90; have t3 : y110.toInt ≤ y84.toInt := b119; have t4 : y140.toInt ≤ y110.toInt := b156; omega)), (show y144.toInt ≤ t11_0.toInt + 218 from (by first | with_reducible exact q_fe b157 | (have t1 : y144.toInt ≤ t11_0.toInt + 218 := b157; omega))), (show y144.toInt ≤ R2.toInt from (by first | with_reducible exact q_fe b158 | (have t1 : y144.toInt ≤ R2.toInt := b158; omega))), (show y145.toInt ≤ t11_1.toInt from (by first | with_reducible exact q_fe b159 | (have t1 : y145.toInt ≤ t11_1.toInt := b159; omega))), (show y150.toInt ≤ a188.toInt from (by have t1 : y150.toInt ≤ 0 := b154; have t2 : 0 ≤ a188.toInt ∧ a188.toInt ≤ 1 := b190; omega)), (show a188.toInt ≤ y150.toInt + 1 from (by have t1 : 0 ≤ y150.toInt := b153; have t2 : 0 ≤ a188.toInt ∧ a188.toInt ≤ 1 := b190; omega)), (show y196.toInt ≤ y149.toInt from (by first | with_reducible exact q_fe b201 | (have t1 : y196.toInt ≤ y149.toInt := b201; omega))), (show y150.toInt ≤ y196.toInt from (by have t1 : y150.toInt ≤ 0 := b154; have t2 : 0 ≤ y196.toInt := b200; omega)), (show y150.toInt ≤ y197.toInt from (by first | with_reducible exact q_fe b203 | (have t1 : y150.toInt ≤ y197.toInt := b203; omega))), (show y197.toInt ≤ y150.toInt from (by first | with_reducible exact q_fe b204 | (have t1 : y197.toInt ≤ y150.toInt := b204; omega))), (show y149.toInt ≤ y150.toInt + 220 from (by have t1 : 0 ≤ y150.toInt := b153; have t2 : y149.toInt ≤ 220 := b162; omega)), (show y139.toInt ≤ y150.toInt + 220 from (by have t1 : 0 ≤ y150.toInt := b153; have t2 : y139.toInt ≤ 220 := b155; omega)), (show y150.toInt ≤ y139.toInt from (by first | with_reducible exact q_fe b163 | (have t1 : y150.toInt ≤ y139.toInt := b163; omega))), (show y150.toInt ≤ y140.toInt from (by first | with_reducible exact q_fe b164 | (have t1 : y150.toInt ≤ y140.toInt := b164; omega))), (show y150.toInt ≤ y144.toInt from (by first | with_reducible exact q_fe b165 | (have t1 : y150.toInt ≤ y144.toInt := b165; omega))), (show y150.toInt ≤ y145.toInt from (by first | with_reducible exact q_fe b166 | (have t1 : y150.toInt ≤ y145.toInt := b166; omega))), (show (t0_0, a188, y196, y197, f198, y149, y150, f151, y139, y140, f141, y144, y145, f146) = (F_DW_divideRaised R R2 x4 t0_0 t0_1 t1_0 t1_1 t2_0 t3_0 t3_1 t4_0 t5_0 t5_1 t6_0 t7_0 t7_1 t8_0 t8_1 t9_0 t10_0 t10_1 t11_0 t11_1 t12_0) from Eq.trans (by rw [e211, e210, e209, F_DW_divideRaised_c103.eq_1]) hR212)⟩) d_4_15_106
  ·
    refine lv_iconst (v := 1) hx hb d_4_15_80 (by decide) ?_
    refine lv_goto (tgt := 85) hx hb d_4_15_81 (by decide) ?_
    refine lv_ior hx hb d_4_15_85 ?_
    obtain ⟨a218, e219⟩ := q_nm (a107 ||| 1 : Int32)
    refine q_ti (v := a218) e219 ?_
    have b220 : q_F (0 ≤ a218.toInt ∧ a218.toInt ≤ 1) := (by rw [← e219]; show 0 ≤ (a107 ||| 1 : Int32).toInt ∧ (a107 ||| 1 : Int32).toInt ≤ 1; exact s_or' (x := a107) (y := 1) 1 (by decide) 1 (by decide) ⟨(by have t1 : 0 ≤ a107.toInt := b113; have t2 : a107.toInt ≤ 1 := b114; omega), (by have t1 : 0 ≤ a107.toInt := b113; have t2 : a107.toInt ≤ 1 := b114; omega)⟩ ⟨(by have z7 : (1 : Int32).toInt = 1 := rfl; omega), (by have z7 : (1 : Int32).toInt = 1 := rfl; omega)⟩)
    refine q_put (ci := 5) (j := 3) (v := .int a218) (ty := .boolean) C0 V i_DW o_DW n_DW rfl rfl hT0 (by decide) w_215 rfl rfl (q_nz01 (q_Ile (x := 0) (y := a218.toInt) (by decide) rfl (by first | with_reducible exact (q_fe b220).2 | with_reducible exact (q_fe b220).1 | (have t1 : 0 ≤ a218.toInt ∧ a218.toInt ≤ 1 := b220; omega))) (q_Ile (x := a218.toInt) (y := 1) rfl (by decide) (by first | with_reducible exact (q_fe b220).2 | with_reducible exact (q_fe b220).1 | (have t1 : 0 ≤ a218.toInt ∧ a218.toInt ≤ 1 := b220; omega)))) (q_fz01 (q_Ile (x := 0) (y := a218.toInt) (by decide) rfl (by first | with_reducible exact (q_fe b220).2 | with_reducible exact (q_fe b220).1 | (have t1 : 0 ≤ a218.toInt ∧ a218.toInt ≤ 1 := b220; omega))) (q_Ile (x := a218.toInt) (y := 1) rfl (by decide) (by first | with_reducible exact (q_fe b220).2 | with_reducible exact (q_fe b220).1 | (have t1 : 0 ≤ a218.toInt ∧ a218.toInt ≤ 1 := b220; omega)))) (Nat.le_of_ble_eq_true rfl) d_4_15_86 (fun H locs w221 hu222 hT0 V => ?_)
    replace hT0 : w221[30]? = (some (q 30, .inr (5, [.ref (q 31), .long t0_0, .ref (q 9), .int a218])) : Option (Nat × va_E)) := hT0
    replace hI := n_p30 hI hu222 hT0 (by first | with_reducible exact q_fe b220 | exact ⟨(by have t1 : 0 ≤ a218.toInt ∧ a218.toInt ≤ 1 := b220; omega), (by have t1 : 0 ≤ a218.toInt ∧ a218.toInt ≤ 1 := b220; omega)⟩)
    replace hT1 := (hu222 _ (by decide)).trans hT1
    replace hT2 := (hu222 _ (by decide)).trans hT2
    replace hO148 := (hu222 _ (by decide)).trans hO148
    replace hA152 := (hu222 _ (by decide)).trans hA152
    replace hO138 := (hu222 _ (by decide)).trans hO138
    replace hA142 := (hu222 _ (by decide)).trans hA142
    replace hO143 := (hu222 _ (by have z := ne_k3_29; omega)).trans hO143
    replace hA147 := (hu222 _ (by have z := ne_k3_28; omega)).trans hA147
    replace hO55 := (hu222 _ (by decide)).trans hO55
    replace hF := q_us hF hu222 (by simp)
    refine lv_aload_n hx hb d_4_15_89 rfl (lv_at hl 0 rfl) ?_
    refine q_get (ci := 5) (j := 2) (v := .ref (q 9)) C0 V i_DW rfl rfl hT0 (by decide) w_214 rfl d_4_15_90 ?_
    refine q_get (ci := 4) (j := 0) (v := .ref (q 10)) C0 V i_Mil rfl rfl hO55 (by decide) w_111 rfl d_4_15_93 ?_
    refine lv_aload_n hx hb d_4_15_96 rfl (lv_at hl 0 rfl) ?_
    refine q_get (ci := 5) (j := 2) (v := .ref (q 9)) C0 V i_DW rfl rfl hT0 (by decide) w_214 rfl d_4_15_97 ?_
    refine q_get (ci := 4) (j := 1) (v := .ref (q 12)) C0 V i_Mil rfl rfl hO55 (by decide) w_115 rfl d_4_15_100 ?_
    refine q_gov V (q_runV (As := [.ref (q 12)]) (rest := []) (d := 2) (mc := 0) (ms := 0) (ci := 2) C0 V rfl LV_DW_44 (X_Big_copy l D g q w221 10 220 (n_b10 g q) (by decide) 12 220 (n_b12 g q) (by decide)  (by decide) hI t1_0 t1_1 hT1 t2_0 hT2 y149 y150 hO148 f151 hA152  _) rfl rfl hT1 rfl hl.1 rfl (Nat.le_of_ble_eq_true rfl) ⟨by decide, by decide⟩ ⟨Nat.le_of_ble_eq_true rfl, Nat.le_of_ble_eq_true rfl⟩ d_4_15_103) (fun u223 H locs hp224 V => ?_)
    obtain ⟨hI, hZ9⟩ := hp224
    obtain ⟨hu236, hZ9⟩ := hZ9
    obtain ⟨y226, hZ9⟩ := hZ9
    obtain ⟨y227, hZ9⟩ := hZ9
    obtain ⟨f228, hZ9⟩ := hZ9
    obtain ⟨hO225, hZ9⟩ := hZ9
    obtain ⟨hA229, hZ9⟩ := hZ9
    obtain ⟨b230, hZ9⟩ := hZ9
    obtain ⟨b231, hZ9⟩ := hZ9
    replace hZ9 := hZ9.2
    obtain ⟨b233, hZ9⟩ := hZ9
    obtain ⟨b234, hE235⟩ := hZ9
    replace hO225 : u223[10]? = (some (q 10, .inr (2, [.ref (q 11), .int y226, .int y227])) : Option (Nat × va_E)) := hO225
    replace hA229 : u223[11]? = (some (q 11, .inl (g 0, (220 : Int32).toNatClampNeg, .inl f228)) : Option (Nat × va_E)) := hA229
    obtain ⟨p237, e238⟩ : ∃ z, z = (F_Big_copy (220 : Int32) (220 : Int32) t1_0 t1_1 t2_0 y149 y150 f151) := ⟨_, rfl⟩
    have e239 : y226 = p237.1 := congrArg (fun z => z.1) (hE235.trans e238.symm)
    have e240 : y227 = p237.2.1 := congrArg (fun z => z.2.1) (hE235.trans e238.symm)
    have e241 : f228 = p237.2.2 := congrArg (fun z => z.2.2) (hE235.trans e238.symm)
    replace b230 : q_F (0 ≤ y226.toInt) := b230
    replace b231 : q_F (y226.toInt ≤ y149.toInt) := b231
    replace b233 : q_F (y150.toInt ≤ y227.toInt) := b233
    replace b234 : q_F (y227.toInt ≤ y150.toInt) := b234
    replace hT0 := (hu236 _ (by decide)).trans hT0
    replace hO148 := (hu236 _ (by decide)).trans hO148
    replace hA152 := (hu236 _ (by decide)).trans hA152
    replace hO138 := (hu236 _ (by decide)).trans hO138
    replace hA142 := (hu236 _ (by decide)).trans hA142
    replace hO143 := (hu236 _ (by have z0 := zk3; simp only [List.mem_cons, List.not_mem_nil, or_false, not_or]; omega)).trans hO143
    replace hA147 := (hu236 _ (by have z0 := zk3; simp only [List.mem_cons, List.not_mem_nil, or_false, not_or]; omega)).trans hA147
    replace hF := q_uc hF hu236 (by first | exact (q_sk (q_mi 0 rfl) (q_sk (q_mi 1 rfl) q_s0)) | simp)
    have hR242 := (show F_DW_divideRaised_c103_6 R R2 x4 t0_0 t0_1 t1_0 t1_1 t2_0 t3_0 t3_1 t4_0 t5_0 t5_1 t6_0 t7_0 t7_1 t8_0 t8_1 t9_0 t10_0 t10_1 t11_0 t11_1 t12_0 p70 p93 p122 a107 p170 a218 y149 y150 f151 y139 y140 f141 y144 y145 f146 p237 = (F_DW_divideRaised R R2 x4 t0_0 t0_1 t1_0 t1_1 t2_0 t3_0 t3_1 t4_0 t5_0 t5_1 t6_0 t7_0 t7_1 t8_0 t8_1 t9_0 t10_0 t10_1 t11_0 t11_1 t12_0) from Eq.trans (by have c186x := c186; rw [e172] at c186x; rw [e238, ← e219, e180, e179, e178, e177, e176, e175, e174, e173, e172, F_DW_divideRaised_c59.eq_1, if_neg c186x]) hR181)
    have hS243 := (show True ∧ S_DW_divideRaised_c103_6 R R2 x4 t0_0 t0_1 t1_0 t1_1 t2_0 t3_0 t3_1 t4_0 t5_0 t5_1 t6_0 t7_0 t7_1 t8_0 t8_1 t9_0 t10_0 t10_1 t11_0 t11_1 t12_0 p70 p93 p122 a107 p170 a218 y149 y150 f151 y139 y140 f141 y144 y145 f146 p237 from (by rw [e238, ← e219, e180, e179, e178, e177, e176, e175, e174, e173, e172]; have h := hS182; rw [S_DW_divideRaised_c59.eq_1] at h; have c186x := c186; rw [e172] at c186x; rw [if_neg c186x] at h; with_reducible exact h))
    exact q_retv C0 V (⟨hI, hF, t0_0, a218, y226, y227, f228, y149, y150, f151, y139, y140, f141, y144, y145, f146, hT0, hO225, hA229, hO148, hA152, hO138, hA142, hO143, hA147, (show 0 ≤ y150.toInt from (by first | with_reducible exact q_fe b153 | (have t1 : 0 ≤ y150.toInt := b153; omega))), (show y150.toInt ≤ 0 from (by first | with_reducible exact q_fe b154 | (have t1 : y150.toInt ≤ 0 := b154; omega))), (show t0_0.toInt ≤ t0_0.toInt from (by omega)), (show t0_0.toInt ≤ t0_0.toInt from (by omega)), (show y149.toInt ≤ t11_0.toInt + 219 from (by first | with_reducible exact q_fe b160 | (have t1 : y149.toInt ≤ t11_0.toInt + 219 := b160; omega))), (show y140.toInt ≤ t8_1.toInt from (by have t1 : y60.toInt ≤ t8_1.toInt := b67; have t2 : y84.toInt ≤ y60.toInt := b90; have t3 : y110.toInt ≤ y84.toInt := b119; have t4 : y140.toInt ≤ y110.toInt := b156; omega)), (show y144.toInt ≤ t11_0.toInt + 218 from (by first | with_reducible exact q_fe b157 | (have t1 : y144.toInt ≤ t11_0.toInt + 218 := b157; omega))), (show y144.toInt ≤ R2.toInt from (by first | with_reducible exact q_fe b158 | (have t1 : y144.toInt ≤ R2.toInt := b158; omega))), (show y145.toInt ≤ t11_1.toInt from (by first | with_reducible exact q_fe b159 | (have t1 : y145.toInt ≤ t11_1.toInt := b159; omega))), (show y150.toInt ≤ a218.toInt from (by have t1 : y150.toInt ≤ 0 := b154; have t2 : 0 ≤ a218.toInt ∧ a218.toInt ≤ 1 := b220; omega)), (show a218.toInt ≤ y150.toInt + 1 from (by have t1 : 0 ≤ y150.toInt := b153; have t2 : 0 ≤ a218.toInt ∧ a218.toInt ≤ 1 := b220; omega)), (show y226.toInt ≤ y149.toInt from (by first | with_reducible exact q_fe b231 | (have t1 : y226.toInt ≤ y149.toInt := b231; omega))), (show y150.toInt ≤ y226.toInt from (by have t1 : y150.toInt ≤ 0 := b154; have t2 : 0 ≤ y226.toInt := b230; omega)), (show y150.toInt ≤ y227.toInt from (by first | with_reducible exact q_fe b233 | (have t1 : y150.toInt ≤ y227.toInt := b233; omega))), (show y227.toInt ≤ y150.toInt from (by first | with_reducible exact q_fe b234 | (have t1 : y227.toInt ≤ y150.toInt := b234; omega))), (show y149.toInt ≤ y150.toInt + 220 from (by have t1 : 0 ≤ y150.toInt := b153; have t2 : y149.toInt ≤ 220 := b162; omega)), (show y139.toInt ≤ y150.toInt + 220 from (by have t1 : 0 ≤ y150.toInt := b153; have t2 : y139.toInt ≤ 220 := b155; omega)), (show y150.toInt ≤ y139.toInt from (by first | with_reducible exact q_fe b163 | (have t1 : y150.toInt ≤ y139.toInt := b163; omega))), (show y150.toInt ≤ y140.toInt from (by first | with_reducible exact q_fe b164 | (have t1 : y150.toInt ≤ y140.toInt := b164; omega))), (show y150.toInt ≤ y144.toInt from (by first | with_reducible exact q_fe b165 | (have t1 : y150.toInt ≤ y144.toInt := b165; omega))), (show y150.toInt ≤ y145.toInt from (by first | with_reducible exact q_fe b166 | (have t1 : y150.toInt ≤ y145.toInt := b166; omega))), (show (t0_0, a218, y226, y227, f228, y149, y150, f151, y139, y140, f141, y144, y145, f146) = (F_DW_divideRaised R R2 x4 t0_0 t0_1 t1_0 t1_1 t2_0 t3_0 t3_1 t4_0 t5_0 t5_1 t6_0 t7_0 t7_1 t8_0 t8_1 t9_0 t10_0 t10_1 t11_0 t11_1 t12_0) from Eq.trans (by rw [e241, e240, e239, F_DW_divideRaised_c103_6.eq_1]) hR242)⟩) d_4_15_106

