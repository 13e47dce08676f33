theorem d_4_6_0 : decode prog_4_method_6_code 0 = .ok (.aload_n 0, 1) := by decide +kernel
theorem d_4_6_1 : decode prog_4_method_6_code 1 = .ok (.getfield 20, 3) := by decide +kernel
theorem d_4_6_4 : decode prog_4_method_6_code 4 = .ok (.getfield 55, 3) := by decide +kernel
theorem d_4_6_7 : decode prog_4_method_6_code 7 = .ok (.aload_n 1, 1) := by decide +kernel
theorem d_4_6_8 : decode prog_4_method_6_code 8 = .ok (.getfield 24, 3) := by decide +kernel
theorem d_4_6_11 : decode prog_4_method_6_code 11 = .ok (.aload_n 2, 1) := by decide +kernel
theorem d_4_6_12 : decode prog_4_method_6_code 12 = .ok (.getfield 24, 3) := by decide +kernel
theorem d_4_6_15 : decode prog_4_method_6_code 15 = .ok (.invokevirtual 94, 3) := by decide +kernel
set_option maxRecDepth 100000 in
theorem w_1377 : (Cond.methodLink "NumberHouse$DecimalWork" (94 : Nat) ({ cls := "NumberHouse$Big", name := "product", desc := "(LNumberHouse$Big;LNumberHouse$Big;)V" } : MethodName)) ∈ q_tbl := q_of6 177 rfl (by decide +kernel)
theorem LV_DW_94 : q_LV "NumberHouse$DecimalWork" 94 y_Big_product prog_2_method_31_code 13 none 2 := ⟨w_1262, w_4, w_1377, w_1260, w_1261, ⟨by decide, by decide, by decide +kernel⟩⟩
theorem d_4_6_18 : decode prog_4_method_6_code 18 = .ok (.aload_n 0, 1) := by decide +kernel
theorem d_4_6_19 : decode prog_4_method_6_code 19 = .ok (.aload_n 1, 1) := by decide +kernel
theorem d_4_6_20 : decode prog_4_method_6_code 20 = .ok (.getfield 48, 3) := by decide +kernel
theorem d_4_6_23 : decode prog_4_method_6_code 23 = .ok (.i2l, 1) := by decide +kernel
theorem d_4_6_24 : decode prog_4_method_6_code 24 = .ok (.aload_n 2, 1) := by decide +kernel
theorem d_4_6_25 : decode prog_4_method_6_code 25 = .ok (.getfield 48, 3) := by decide +kernel
theorem d_4_6_28 : decode prog_4_method_6_code 28 = .ok (.i2l, 1) := by decide +kernel
theorem d_4_6_29 : decode prog_4_method_6_code 29 = .ok (.ladd, 1) := by decide +kernel
theorem d_4_6_30 : decode prog_4_method_6_code 30 = .ok (.putfield 56, 3) := by decide +kernel
theorem d_4_6_33 : decode prog_4_method_6_code 33 = .ok (.return_, 1) := by decide +kernel
def y_DW_multiply : MethodName := ⟨"NumberHouse$DecimalWork", "multiply", "(LNumberHouse$Dec;LNumberHouse$Dec;)V"⟩
def F_DW_multiply_c15 (R : Int32) (R2 : Int32) (t0_0 : Int64) (t0_1 : Int32) (t1_0 : Int32) (t1_1 : Int32) (t2_0 : (Nat → Int32)) (t3_0 : Int32) (t3_1 : Int32) (t4_0 : Int32) (t4_1 : Int32) (t5_0 : (Nat → Int32)) (t6_0 : Int32) (t6_1 : Int32) (t7_0 : Int32) (t7_1 : Int32) (t8_0 : (Nat → Int32)) (p53 : (Int32 × Int32 × (Nat → Int32))) : Int64 × Int32 × Int32 × Int32 × (Nat → Int32) := (((t3_0.toInt64 : Int64) + (t6_0.toInt64 : Int64) : Int64), t0_1, (p53.1 : Int32), (p53.2.1 : Int32), (p53.2.2 : (Nat → Int32)))
def F_DW_multiply (R : Int32) (R2 : Int32) (t0_0 : Int64) (t0_1 : Int32) (t1_0 : Int32) (t1_1 : Int32) (t2_0 : (Nat → Int32)) (t3_0 : Int32) (t3_1 : Int32) (t4_0 : Int32) (t4_1 : Int32) (t5_0 : (Nat → Int32)) (t6_0 : Int32) (t6_1 : Int32) (t7_0 : Int32) (t7_1 : Int32) (t8_0 : (Nat → Int32)) : Int64 × Int32 × Int32 × Int32 × (Nat → Int32) := F_DW_multiply_c15 R R2 t0_0 t0_1 t1_0 t1_1 t2_0 t3_0 t3_1 t4_0 t4_1 t5_0 t6_0 t6_1 t7_0 t7_1 t8_0 ((F_Big_product (220 : Int32) R R2 t1_0 t1_1 t2_0 t4_0 t4_1 t5_0 t7_0 t7_1 t8_0) : (Int32 × Int32 × (Nat → Int32)))
set_option maxRecDepth 100000 in
set_option maxHeartbeats 4000000 in
theorem X_DW_multiply (l : Launch) (D : va_G) (g : Nat → ClassId) (q : Nat → Nat) (ws : va_W) (k2 : Nat) (R : Int32) (hB2 : q_isDec (nsh g q) g q k2 R) (zk2 : (10 ≤ k2 ∧ k2 ≤ 31) ∨ 66 ≤ k2) (k3 : Nat) (R2 : Int32) (hB3 : q_isDec (nsh g q) g q k3 R2) (zk3 : (10 ≤ k3 ∧ k3 ≤ 31) ∨ 66 ≤ k3) (ne_k2_10 : k2 ≠ 10) (ne_k2_11 : k2 ≠ 11) (ne_k2_9 : k2 ≠ 9) (ne_k2_8 : k2 ≠ 8) (ne_k2_30 : k2 ≠ 30) (ne_k2_31 : k2 ≠ 31) (ne_k2_29 : k2 ≠ 29) (ne_k2_28 : k2 ≠ 28) (ne_k3_10 : k3 ≠ 10) (ne_k3_11 : k3 ≠ 11) (ne_k3_9 : k3 ≠ 9) (ne_k3_8 : k3 ≠ 8) (ne_k3_30 : k3 ≠ 30) (ne_k3_31 : k3 ≠ 31) (ne_k3_29 : k3 ≠ 29) (ne_k3_28 : k3 ≠ 28) (hI : q_I (nsh g q) q ws) (t0_0 : Int64) (t0_1 : Int32) (hT0 : ws[30]? = (some (q 30, .inr (5, [.ref (q 31), .long t0_0, .ref (q 9), .int t0_1])) : Option (Nat × va_E))) (t1_0 : Int32) (t1_1 : Int32) (hT1 : ws[10]? = (some (q 10, .inr (2, [.ref (q 11), .int t1_0, .int t1_1])) : Option (Nat × va_E))) (t2_0 : (Nat → Int32)) (hT2 : ws[11]? = (some (q 11, .inl (g 0, (220 : Int32).toNatClampNeg, .inl t2_0)) : Option (Nat × va_E))) (t3_0 : Int32) (t3_1 : Int32) (hT3 : ws[k2]? = (some (q k2, .inr (3, [.ref (q (k2 + 1)), .int t3_0, .int t3_1])) : Option (Nat × va_E))) (t4_0 : Int32) (t4_1 : Int32) (hT4 : ws[k2 + 1]? = (some (q (k2 + 1), .inr (2, [.ref (q (k2 + 2)), .int t4_0, .int t4_1])) : Option (Nat × va_E))) (t5_0 : (Nat → Int32)) (hT5 : ws[k2 + 2]? = (some (q (k2 + 2), .inl (g 0, R.toNatClampNeg, .inl t5_0)) : Option (Nat × va_E))) (t6_0 : Int32) (t6_1 : Int32) (hT6 : ws[k3]? = (some (q k3, .inr (3, [.ref (q (k3 + 1)), .int t6_0, .int t6_1])) : Option (Nat × va_E))) (t7_0 : Int32) (t7_1 : Int32) (hT7 : ws[k3 + 1]? = (some (q (k3 + 1), .inr (2, [.ref (q (k3 + 2)), .int t7_0, .int t7_1])) : Option (Nat × va_E))) (t8_0 : (Nat → Int32)) (hT8 : ws[k3 + 2]? = (some (q (k3 + 2), .inl (g 0, R2.toNatClampNeg, .inl t8_0)) : Option (Nat × va_E))) : q_mV l y_DW_multiply prog_4_method_6_code 3 4 0 0 D g [.ref (q 30), .ref (q k2), .ref (q k3)] ws (fun u => q_I (nsh g q) q u ∧ q_un ws u [10, 11, 30] ∧ ∃ (u0_0 : Int64) (u0_1 : Int32) (u1_0 : Int32) (u1_1 : Int32) (u2_0 : (Nat → Int32)), u[30]? = (some (q 30, .inr (5, [.ref (q 31), .long u0_0, .ref (q 9), .int u0_1])) : Option (Nat × va_E)) ∧ u[10]? = (some (q 10, .inr (2, [.ref (q 11), .int u1_0, .int u1_1])) : Option (Nat × va_E)) ∧ u[11]? = (some (q 11, .inl (g 0, (220 : Int32).toNatClampNeg, .inl u2_0)) : Option (Nat × va_E)) ∧ (u1_0.toInt ≤ 220) ∧ (0 ≤ u1_1.toInt) ∧ (u1_1.toInt ≤ 1) ∧ (t3_0.toInt ≤ u0_0.toInt + 10000) ∧ (u0_0.toInt ≤ t3_0.toInt + 10000) ∧ (t6_0.toInt ≤ u0_0.toInt + 10000) ∧ (u0_0.toInt ≤ t6_0.toInt + 10000) ∧ (t0_1.toInt ≤ u0_1.toInt) ∧ (u0_1.toInt ≤ t0_1.toInt) ∧ (u1_1.toInt ≤ u1_0.toInt) ∧ (u0_0, u0_1, u1_0, u1_1, u2_0) = (F_DW_multiply R R2 t0_0 t0_1 t1_0 t1_1 t2_0 t3_0 t3_1 t4_0 t4_1 t5_0 t6_0 t6_1 t7_0 t7_1 t8_0)) := by
  intro sz
  refine q_into (by decide) (Nat.le_of_ble_eq_true rfl) ?_
  intro p e s m below meth c ls hsz C0 V hl
  have hx := C0.1
  have hb := C0.2.1
  have btt0_1 := n_w30 hI hT0
  replace btt0_1 : q_F (0 ≤ t0_1.toInt ∧ t0_1.toInt ≤ 1) := btt0_1
  have btt1_1 := (q_bigW hI (n_b10 g q) hT1).2
  clear btt1_1
  have btt3_0 := (n_deW hI hB2 hT3).1
  replace btt3_0 : q_F (-10000 ≤ t3_0.toInt ∧ t3_0.toInt ≤ 10000) := btt3_0
  have btt4_1 := (q_bigW hI hB2.2 hT4).2
  clear btt4_1
  have btt6_0 := (n_deW hI hB3 hT6).1
  replace btt6_0 : q_F (-10000 ≤ t6_0.toInt ∧ t6_0.toInt ≤ 10000) := btt6_0
  have btt7_1 := (q_bigW hI hB3.2 hT7).2
  clear btt7_1
  have hF : q_un ws ws [10, 11, 30] := q_u0
  have hl : lv_has ls 3 [(0, .ref (q 30)), (1, .ref (q k2)), (2, .ref (q k3))] := hl
  refine lv_aload_n hx hb d_4_6_0 rfl (lv_at hl 0 rfl) ?_
  refine q_get (ci := 5) (j := 2) (v := .ref (q 9)) C0 V i_DW rfl rfl hT0 (by decide) w_214 rfl d_4_6_1 ?_
  have hO39 := n_o9 hI
  refine q_get (ci := 4) (j := 0) (v := .ref (q 10)) C0 V i_Mil rfl rfl hO39 (by decide) w_111 rfl d_4_6_4 ?_
  refine lv_aload_n hx hb d_4_6_7 rfl (lv_at hl 1 rfl) ?_
  refine q_get (ci := 3) (j := 0) (v := .ref (q (k2 + 1))) C0 V i_Dec rfl rfl hT3 (by decide) w_171 rfl d_4_6_8 ?_
  refine lv_aload_n hx hb d_4_6_11 rfl (lv_at hl 2 rfl) ?_
  refine q_get (ci := 3) (j := 0) (v := .ref (q (k3 + 1))) C0 V i_Dec rfl rfl hT6 (by decide) w_171 rfl d_4_6_12 ?_
  refine q_gov V (q_runV (As := [.ref (q (k2 + 1)), .ref (q (k3 + 1))]) (rest := []) (d := 3) (mc := 0) (ms := 0) (ci := 2) C0 V rfl LV_DW_94 (X_Big_product l D g q ws 10 220 (n_b10 g q) (by decide) (k2 + 1) R hB2.2 (by have z := zk2; omega) (k3 + 1) R2 hB3.2 (by have z := zk3; omega)  (by have z := ne_k2_9; omega) (by have z := ne_k3_9; omega) hI t1_0 t1_1 hT1 t2_0 hT2 t4_0 t4_1 hT4 t5_0 hT5 t7_0 t7_1 hT7 t8_0 hT8  _) rfl rfl hT1 rfl hl.1 rfl (Nat.le_of_ble_eq_true rfl) ⟨by decide, by decide⟩ ⟨Nat.le_of_ble_eq_true rfl, Nat.le_of_ble_eq_true rfl⟩ d_4_6_15) (fun u40 H locs hp41 V => ?_)
  obtain ⟨hI, hZ9⟩ := hp41
  obtain ⟨hu52, hZ9⟩ := hZ9
  obtain ⟨y43, hZ9⟩ := hZ9
  obtain ⟨y44, hZ9⟩ := hZ9
  obtain ⟨f45, hZ9⟩ := hZ9
  obtain ⟨hO42, hZ9⟩ := hZ9
  obtain ⟨hA46, hZ9⟩ := hZ9
  obtain ⟨b47, hZ9⟩ := hZ9
  obtain ⟨b48, hZ9⟩ := hZ9
  obtain ⟨b49, hZ9⟩ := hZ9
  obtain ⟨b50, hE51⟩ := hZ9
  replace hO42 : u40[10]? = (some (q 10, .inr (2, [.ref (q 11), .int y43, .int y44])) : Option (Nat × va_E)) := hO42
  replace hA46 : u40[11]? = (some (q 11, .inl (g 0, (220 : Int32).toNatClampNeg, .inl f45)) : Option (Nat × va_E)) := hA46
  obtain ⟨p53, e54⟩ : ∃ z, z = (F_Big_product (220 : Int32) R R2 t1_0 t1_1 t2_0 t4_0 t4_1 t5_0 t7_0 t7_1 t8_0) := ⟨_, rfl⟩
  have e55 : y43 = p53.1 := congrArg (fun z => z.1) (hE51.trans e54.symm)
  have e56 : y44 = p53.2.1 := congrArg (fun z => z.2.1) (hE51.trans e54.symm)
  have e57 : f45 = p53.2.2 := congrArg (fun z => z.2.2) (hE51.trans e54.symm)
  replace b47 : q_F (0 ≤ y44.toInt) := b47
  replace b48 : q_F (y44.toInt ≤ 1) := b48
  replace b49 : q_F (y43.toInt ≤ 220) := b49
  replace b50 : q_F (y44.toInt ≤ y43.toInt) := b50
  replace hT0 := (hu52 _ (by decide)).trans hT0
  replace hT3 := (hu52 _ (by have z0 := zk2; simp only [List.mem_cons, List.not_mem_nil, or_false, not_or]; omega)).trans hT3
  replace hT6 := (hu52 _ (by have z0 := zk3; simp only [List.mem_cons, List.not_mem_nil, or_false, not_or]; omega)).trans hT6
  replace hF := q_uc hF hu52 (by first | exact (q_sk (q_mi 0 rfl) (q_sk (q_mi 1 rfl) q_s0)) | simp)
  have hR58 := (show F_DW_multiply_c15 R R2 t0_0 t0_1 t1_0 t1_1 t2_0 t3_0 t3_1 t4_0 t4_1 t5_0 t6_0 t6_1 t7_0 t7_1 t8_0 p53 = (F_DW_multiply R R2 t0_0 t0_1 t1_0 t1_1 t2_0 t3_0 t3_1 t4_0 t4_1 t5_0 t6_0 t6_1 t7_0 t7_1 t8_0) from (by rw [e54, F_DW_multiply.eq_1]))
  refine lv_aload_n hx hb d_4_6_18 rfl (lv_at hl 0 rfl) ?_
  refine lv_aload_n hx hb d_4_6_19 rfl (lv_at hl 1 rfl) ?_
  refine q_get (ci := 3) (j := 1) (v := .int t3_0) C0 V i_Dec rfl rfl hT3 (by decide) w_176 rfl d_4_6_20 ?_
  refine lv_i2l hx hb d_4_6_23 rfl ?_
  obtain ⟨j63, e64⟩ := q_nm (t3_0.toInt64 : Int64)
  refine q_tl (v := j63) e64 ?_
  have b65 : q_F (j63.toInt = t3_0.toInt) := (by rw [← e64]; show (t3_0.toInt64 : Int64).toInt = t3_0.toInt; exact q_i2l rfl)
  refine lv_aload_n hx hb d_4_6_24 rfl (lv_at hl 2 rfl) ?_
  refine q_get (ci := 3) (j := 1) (v := .int t6_0) C0 V i_Dec rfl rfl hT6 (by decide) w_176 rfl d_4_6_25 ?_
  refine lv_i2l hx hb d_4_6_28 rfl ?_
  obtain ⟨j66, e67⟩ := q_nm (t6_0.toInt64 : Int64)
  refine q_tl (v := j66) e67 ?_
  have b68 : q_F (j66.toInt = t6_0.toInt) := (by rw [← e67]; show (t6_0.toInt64 : Int64).toInt = t6_0.toInt; exact q_i2l rfl)
  refine lv_ladd hx hb d_4_6_29 ?_
  obtain ⟨j69, e70⟩ := q_nm (j63 + j66 : Int64)
  refine q_tl (v := j69) e70 ?_
  have b71 : q_F (j69.toInt = j63.toInt + j66.toInt) := (by rw [← e70]; show (j63 + j66 : Int64).toInt = j63.toInt + j66.toInt; exact q_addL (x := j63.toInt) (y := j66.toInt) rfl rfl (by have t1 : j63.toInt = t3_0.toInt := b65; have t2 : j66.toInt = t6_0.toInt := b68; have _ := q_lo32 (x := t3_0); have _ := q_hi32 (x := t3_0); have _ := q_lo32 (x := t6_0); have _ := q_hi32 (x := t6_0); omega) (by have t1 : j63.toInt = t3_0.toInt := b65; have t2 : j66.toInt = t6_0.toInt := b68; have _ := q_lo32 (x := t3_0); have _ := q_hi32 (x := t3_0); have _ := q_lo32 (x := t6_0); have _ := q_hi32 (x := t6_0); omega))
  refine q_put (ci := 5) (j := 1) (v := .long j69) (ty := .long) C0 V i_DW o_DW n_DW rfl rfl hT0 (by decide) w_212 rfl rfl rfl rfl (Nat.le_of_ble_eq_true rfl) d_4_6_30 (fun H locs w72 hu73 hT0 V => ?_)
  replace hT0 : w72[30]? = (some (q 30, .inr (5, [.ref (q 31), .long j69, .ref (q 9), .int t0_1])) : Option (Nat × va_E)) := hT0
  replace hI := n_p30 hI hu73 hT0 (by first | with_reducible exact q_fe btt0_1 | exact ⟨(by have t1 : 0 ≤ t0_1.toInt ∧ t0_1.toInt ≤ 1 := btt0_1; omega), (by have t1 : 0 ≤ t0_1.toInt ∧ t0_1.toInt ≤ 1 := btt0_1; omega)⟩)
  replace hO42 := (hu73 _ (by decide)).trans hO42
  replace hA46 := (hu73 _ (by decide)).trans hA46
  replace hF := q_us hF hu73 (by simp)
  exact q_retv C0 V (⟨hI, hF, j69, t0_1, y43, y44, f45, hT0, hO42, hA46, (show y43.toInt ≤ 220 from (by first | with_reducible exact q_fe b49 | (have t1 : y43.toInt ≤ 220 := b49; omega))), (show 0 ≤ y44.toInt from (by first | with_reducible exact q_fe b47 | (have t1 : 0 ≤ y44.toInt := b47; omega))), (show y44.toInt ≤ 1 from (by first | with_reducible exact q_fe b48 | (have t1 : y44.toInt ≤ 1 := b48; omega))), (show t3_0.toInt ≤ j69.toInt + 10000 from (by have t1 : -10000 ≤ t6_0.toInt ∧ t6_0.toInt ≤ 10000 := btt6_0; have t2 : j63.toInt = t3_0.toInt := b65; have t3 : j66.toInt = t6_0.toInt := b68; have t4 : j69.toInt = j63.toInt + j66.toInt := b71; omega)), (show j69.toInt ≤ t3_0.toInt + 10000 from (by have t1 : -10000 ≤ t6_0.toInt ∧ t6_0.toInt ≤ 10000 := btt6_0; have t2 : j63.toInt = t3_0.toInt := b65; have t3 : j66.toInt = t6_0.toInt := b68; have t4 : j69.toInt = j63.toInt + j66.toInt := b71; omega)), (show t6_0.toInt ≤ j69.toInt + 10000 from (by have t1 : -10000 ≤ t3_0.toInt ∧ t3_0.toInt ≤ 10000 := btt3_0; have t2 : j63.toInt = t3_0.toInt := b65; have t3 : j66.toInt = t6_0.toInt := b68; have t4 : j69.toInt = j63.toInt + j66.toInt := b71; omega)), (show j69.toInt ≤ t6_0.toInt + 10000 from (by have t1 : -10000 ≤ t3_0.toInt ∧ t3_0.toInt ≤ 10000 := btt3_0; have t2 : j63.toInt = t3_0.toInt := b65; have t3 : j66.toInt = t6_0.toInt := b68; have t4 : j69.toInt = j63.toInt + j66.toInt := b71; omega)), (show t0_1.toInt ≤ t0_1.toInt from (by omega)), (show t0_1.toInt ≤ t0_1.toInt from (by omega)), (show y44.toInt ≤ y43.toInt from (by first | with_reducible exact q_fe b50 | (have t1 : y44.toInt ≤ y43.toInt := b50; omega))), (show (j69, t0_1, y43, y44, f45) = (F_DW_multiply R R2 t0_0 t0_1 t1_0 t1_1 t2_0 t3_0 t3_1 t4_0 t4_1 t5_0 t6_0 t6_1 t7_0 t7_1 t8_0) from Eq.trans (by rw [← e70, ← e67, ← e64, e57, e56, e55, F_DW_multiply_c15.eq_1]) hR58)⟩) d_4_6_33
theorem d_4_8_0 : decode prog_4_method_8_code 0 = .ok (.aload_n 0, 1) := by decide +kernel
theorem d_4_8_1 : decode prog_4_method_8_code 1 = .ok (.getfield 20, 3) := by decide +kernel
theorem d_4_8_4 : decode prog_4_method_8_code 4 = .ok (.getfield 55, 3) := by decide +kernel
theorem d_4_8_7 : decode prog_4_method_8_code 7 = .ok (.getfield 112, 3) := by decide +kernel
set_option maxRecDepth 100000 in
theorem w_97 : (Cond.fieldLink "NumberHouse$DecimalWork" (112 : Nat) "NumberHouse$Big" "negative" "Z") ∈ q_tbl := q_of1 97 rfl (by decide +kernel)
theorem d_4_8_10 : decode prog_4_method_8_code 10 = .ok (.istore_n 3, 1) := by decide +kernel
theorem d_4_8_11 : decode prog_4_method_8_code 11 = .ok (.aload_n 0, 1) := by decide +kernel
theorem d_4_8_12 : decode prog_4_method_8_code 12 = .ok (.getfield 20, 3) := by decide +kernel
theorem d_4_8_15 : decode prog_4_method_8_code 15 = .ok (.getfield 72, 3) := by decide +kernel
theorem d_4_8_18 : decode prog_4_method_8_code 18 = .ok (.lconst 1, 1) := by decide +kernel
theorem d_4_8_19 : decode prog_4_method_8_code 19 = .ok (.invokevirtual 28, 3) := by decide +kernel
theorem d_4_8_22 : decode prog_4_method_8_code 22 = .ok (.aload_n 0, 1) := by decide +kernel
theorem d_4_8_23 : decode prog_4_method_8_code 23 = .ok (.getfield 20, 3) := by decide +kernel
theorem d_4_8_26 : decode prog_4_method_8_code 26 = .ok (.getfield 72, 3) := by decide +kernel
theorem d_4_8_29 : decode prog_4_method_8_code 29 = .ok (.aload_n 2, 1) := by decide +kernel
theorem d_4_8_30 : decode prog_4_method_8_code 30 = .ok (.aload_n 0, 1) := by decide +kernel
theorem d_4_8_31 : decode prog_4_method_8_code 31 = .ok (.getfield 20, 3) := by decide +kernel
theorem d_4_8_34 : decode prog_4_method_8_code 34 = .ok (.getfield 106, 3) := by decide +kernel
set_option maxRecDepth 100000 in
theorem w_115 : (Cond.fieldLink "NumberHouse$DecimalWork" (106 : Nat) "NumberHouse$Mill" "quotient" "LNumberHouse$Big;") ∈ q_tbl := q_of1 115 rfl (by decide +kernel)
theorem d_4_8_37 : decode prog_4_method_8_code 37 = .ok (.invokevirtual 109, 3) := by decide +kernel
set_option maxRecDepth 100000 in
theorem w_1389 : (Cond.methodLink "NumberHouse$DecimalWork" (109 : Nat) ({ cls := "NumberHouse$Big", name := "divideBy", desc := "(LNumberHouse$Big;LNumberHouse$Big;)V" } : MethodName)) ∈ q_tbl := q_of6 189 rfl (by decide +kernel)
theorem LV_DW_109 : q_LV "NumberHouse$DecimalWork" 109 y_Big_divideBy prog_2_method_34_code 7 none 2 := ⟨w_1032, w_4, w_1389, w_1030, w_1031, ⟨by decide, by decide, by decide +kernel⟩⟩
theorem d_4_8_40 : decode prog_4_method_8_code 40 = .ok (.iload_n 1, 1) := by decide +kernel
theorem d_4_8_41 : decode prog_4_method_8_code 41 = .ok (.invokestatic 116, 3) := by decide +kernel
set_option maxRecDepth 100000 in
theorem w_1390 : (Cond.methodLink "NumberHouse$DecimalWork" (116 : Nat) ({ cls := "NumberHouse$Big", name := "bitsOf", desc := "(I)I" } : MethodName)) ∈ q_tbl := q_of6 190 rfl (by decide +kernel)
theorem LS_DW_116 : q_LS "NumberHouse$DecimalWork" 116 y_Big_bitsOf prog_2_method_13_code 2 (some .int) 1 := ⟨w_613, w_4, w_1390, w_612, ⟨by decide, by decide, by decide +kernel⟩⟩
theorem d_4_8_44 : decode prog_4_method_8_code 44 = .ok (.iconst 1, 1) := by decide +kernel
theorem d_4_8_45 : decode prog_4_method_8_code 45 = .ok (.isub, 1) := by decide +kernel
theorem d_4_8_46 : decode prog_4_method_8_code 46 = .ok (.istore 4, 2) := by decide +kernel
theorem d_4_8_48 : decode prog_4_method_8_code 48 = .ok (.iload 4, 2) := by decide +kernel
theorem d_4_8_50 : decode prog_4_method_8_code 50 = .ok (.ifCond .lt 84, 3) := by decide +kernel
theorem d_4_8_134 : decode prog_4_method_8_code 134 = .ok (.aload_n 0, 1) := by decide +kernel
theorem d_4_8_135 : decode prog_4_method_8_code 135 = .ok (.getfield 20, 3) := by decide +kernel
theorem d_4_8_138 : decode prog_4_method_8_code 138 = .ok (.getfield 55, 3) := by decide +kernel
theorem d_4_8_141 : decode prog_4_method_8_code 141 = .ok (.aload_n 2, 1) := by decide +kernel
theorem d_4_8_142 : decode prog_4_method_8_code 142 = .ok (.aload_n 0, 1) := by decide +kernel
theorem d_4_8_143 : decode prog_4_method_8_code 143 = .ok (.getfield 20, 3) := by decide +kernel
theorem d_4_8_146 : decode prog_4_method_8_code 146 = .ok (.getfield 106, 3) := by decide +kernel
theorem d_4_8_149 : decode prog_4_method_8_code 149 = .ok (.invokevirtual 109, 3) := by decide +kernel
theorem d_4_8_152 : decode prog_4_method_8_code 152 = .ok (.aload_n 0, 1) := by decide +kernel
theorem d_4_8_153 : decode prog_4_method_8_code 153 = .ok (.getfield 20, 3) := by decide +kernel
theorem d_4_8_156 : decode prog_4_method_8_code 156 = .ok (.getfield 74, 3) := by decide +kernel
theorem d_4_8_159 : decode prog_4_method_8_code 159 = .ok (.aload_n 0, 1) := by decide +kernel
theorem d_4_8_160 : decode prog_4_method_8_code 160 = .ok (.getfield 20, 3) := by decide +kernel
theorem d_4_8_163 : decode prog_4_method_8_code 163 = .ok (.getfield 55, 3) := by decide +kernel
theorem d_4_8_166 : decode prog_4_method_8_code 166 = .ok (.aload_n 0, 1) := by decide +kernel
theorem d_4_8_167 : decode prog_4_method_8_code 167 = .ok (.getfield 20, 3) := by decide +kernel
theorem d_4_8_170 : decode prog_4_method_8_code 170 = .ok (.getfield 72, 3) := by decide +kernel
theorem d_4_8_173 : decode prog_4_method_8_code 173 = .ok (.invokevirtual 94, 3) := by decide +kernel
theorem d_4_8_176 : decode prog_4_method_8_code 176 = .ok (.aload_n 0, 1) := by decide +kernel
theorem d_4_8_177 : decode prog_4_method_8_code 177 = .ok (.getfield 20, 3) := by decide +kernel
theorem d_4_8_180 : decode prog_4_method_8_code 180 = .ok (.getfield 74, 3) := by decide +kernel
theorem d_4_8_183 : decode prog_4_method_8_code 183 = .ok (.aload_n 2, 1) := by decide +kernel
theorem d_4_8_184 : decode prog_4_method_8_code 184 = .ok (.aload_n 0, 1) := by decide +kernel
theorem d_4_8_185 : decode prog_4_method_8_code 185 = .ok (.getfield 20, 3) := by decide +kernel
theorem d_4_8_188 : decode prog_4_method_8_code 188 = .ok (.getfield 106, 3) := by decide +kernel
theorem d_4_8_191 : decode prog_4_method_8_code 191 = .ok (.invokevirtual 109, 3) := by decide +kernel
theorem d_4_8_194 : decode prog_4_method_8_code 194 = .ok (.aload_n 0, 1) := by decide +kernel
theorem d_4_8_195 : decode prog_4_method_8_code 195 = .ok (.getfield 20, 3) := by decide +kernel
theorem d_4_8_198 : decode prog_4_method_8_code 198 = .ok (.getfield 55, 3) := by decide +kernel
theorem d_4_8_201 : decode prog_4_method_8_code 201 = .ok (.aload_n 0, 1) := by decide +kernel
theorem d_4_8_202 : decode prog_4_method_8_code 202 = .ok (.getfield 20, 3) := by decide +kernel
theorem d_4_8_205 : decode prog_4_method_8_code 205 = .ok (.getfield 74, 3) := by decide +kernel
theorem d_4_8_208 : decode prog_4_method_8_code 208 = .ok (.invokevirtual 44, 3) := by decide +kernel
theorem d_4_8_211 : decode prog_4_method_8_code 211 = .ok (.aload_n 0, 1) := by decide +kernel
theorem d_4_8_212 : decode prog_4_method_8_code 212 = .ok (.getfield 20, 3) := by decide +kernel
theorem d_4_8_215 : decode prog_4_method_8_code 215 = .ok (.getfield 55, 3) := by decide +kernel
theorem d_4_8_218 : decode prog_4_method_8_code 218 = .ok (.iload_n 3, 1) := by decide +kernel
theorem d_4_8_219 : decode prog_4_method_8_code 219 = .ok (.ifCond .eq 20, 3) := by decide +kernel
theorem d_4_8_239 : decode prog_4_method_8_code 239 = .ok (.iconst 0, 1) := by decide +kernel
theorem d_4_8_240 : decode prog_4_method_8_code 240 = .ok (.putfield 112, 3) := by decide +kernel
theorem d_4_8_243 : decode prog_4_method_8_code 243 = .ok (.return_, 1) := by decide +kernel
theorem d_4_8_222 : decode prog_4_method_8_code 222 = .ok (.aload_n 0, 1) := by decide +kernel
theorem d_4_8_223 : decode prog_4_method_8_code 223 = .ok (.getfield 20, 3) := by decide +kernel
theorem d_4_8_226 : decode prog_4_method_8_code 226 = .ok (.getfield 74, 3) := by decide +kernel
theorem d_4_8_229 : decode prog_4_method_8_code 229 = .ok (.getfield 63, 3) := by decide +kernel
theorem d_4_8_232 : decode prog_4_method_8_code 232 = .ok (.ifCond .le 7, 3) := by decide +kernel
theorem d_4_8_235 : decode prog_4_method_8_code 235 = .ok (.iconst 1, 1) := by decide +kernel
theorem d_4_8_236 : decode prog_4_method_8_code 236 = .ok (.goto 4, 3) := by decide +kernel
theorem d_4_8_53 : decode prog_4_method_8_code 53 = .ok (.aload_n 0, 1) := by decide +kernel
theorem d_4_8_54 : decode prog_4_method_8_code 54 = .ok (.getfield 20, 3) := by decide +kernel
theorem d_4_8_57 : decode prog_4_method_8_code 57 = .ok (.getfield 74, 3) := by decide +kernel
theorem d_4_8_60 : decode prog_4_method_8_code 60 = .ok (.aload_n 0, 1) := by decide +kernel
theorem d_4_8_61 : decode prog_4_method_8_code 61 = .ok (.getfield 20, 3) := by decide +kernel
theorem d_4_8_64 : decode prog_4_method_8_code 64 = .ok (.getfield 72, 3) := by decide +kernel
theorem d_4_8_67 : decode prog_4_method_8_code 67 = .ok (.aload_n 0, 1) := by decide +kernel
theorem d_4_8_68 : decode prog_4_method_8_code 68 = .ok (.getfield 20, 3) := by decide +kernel
theorem d_4_8_71 : decode prog_4_method_8_code 71 = .ok (.getfield 72, 3) := by decide +kernel
theorem d_4_8_74 : decode prog_4_method_8_code 74 = .ok (.invokevirtual 94, 3) := by decide +kernel
theorem d_4_8_77 : decode prog_4_method_8_code 77 = .ok (.aload_n 0, 1) := by decide +kernel
theorem d_4_8_78 : decode prog_4_method_8_code 78 = .ok (.getfield 20, 3) := by decide +kernel
theorem d_4_8_81 : decode prog_4_method_8_code 81 = .ok (.getfield 74, 3) := by decide +kernel
theorem d_4_8_84 : decode prog_4_method_8_code 84 = .ok (.iload_n 1, 1) := by decide +kernel
theorem d_4_8_85 : decode prog_4_method_8_code 85 = .ok (.iload 4, 2) := by decide +kernel
theorem d_4_8_87 : decode prog_4_method_8_code 87 = .ok (.iushr, 1) := by decide +kernel
theorem d_4_8_88 : decode prog_4_method_8_code 88 = .ok (.iconst 1, 1) := by decide +kernel
theorem d_4_8_89 : decode prog_4_method_8_code 89 = .ok (.iand, 1) := by decide +kernel
theorem d_4_8_90 : decode prog_4_method_8_code 90 = .ok (.invokevirtual 77, 3) := by decide +kernel
theorem d_4_8_93 : decode prog_4_method_8_code 93 = .ok (.aload_n 0, 1) := by decide +kernel
theorem d_4_8_94 : decode prog_4_method_8_code 94 = .ok (.getfield 20, 3) := by decide +kernel
theorem d_4_8_97 : decode prog_4_method_8_code 97 = .ok (.getfield 74, 3) := by decide +kernel
theorem d_4_8_100 : decode prog_4_method_8_code 100 = .ok (.aload_n 2, 1) := by decide +kernel
theorem d_4_8_101 : decode prog_4_method_8_code 101 = .ok (.aload_n 0, 1) := by decide +kernel
theorem d_4_8_102 : decode prog_4_method_8_code 102 = .ok (.getfield 20, 3) := by decide +kernel
theorem d_4_8_105 : decode prog_4_method_8_code 105 = .ok (.getfield 106, 3) := by decide +kernel
theorem d_4_8_108 : decode prog_4_method_8_code 108 = .ok (.invokevirtual 109, 3) := by decide +kernel
theorem d_4_8_111 : decode prog_4_method_8_code 111 = .ok (.aload_n 0, 1) := by decide +kernel
theorem d_4_8_112 : decode prog_4_method_8_code 112 = .ok (.getfield 20, 3) := by decide +kernel
theorem d_4_8_115 : decode prog_4_method_8_code 115 = .ok (.getfield 72, 3) := by decide +kernel
theorem d_4_8_118 : decode prog_4_method_8_code 118 = .ok (.aload_n 0, 1) := by decide +kernel
theorem d_4_8_119 : decode prog_4_method_8_code 119 = .ok (.getfield 20, 3) := by decide +kernel
theorem d_4_8_122 : decode prog_4_method_8_code 122 = .ok (.getfield 74, 3) := by decide +kernel
theorem d_4_8_125 : decode prog_4_method_8_code 125 = .ok (.invokevirtual 44, 3) := by decide +kernel
theorem d_4_8_128 : decode prog_4_method_8_code 128 = .ok (.iinc 4 (-1), 3) := by decide +kernel
theorem d_4_8_131 : decode prog_4_method_8_code 131 = .ok (.goto (-83), 3) := by decide +kernel
def y_DW_raiseBelow : MethodName := ⟨"NumberHouse$DecimalWork", "raiseBelow", "(ILNumberHouse$Big;)V"⟩
def F_DW_raiseBelow_c208 (K_F_DW_raiseBelow_L48 : Int32 → Int32 → Int32 → (Nat → Int32) → Int32 → Int32 → (Nat → Int32) → Int32 → Int32 → (Nat → Int32) → Int32 → Int32 → (Nat → Int32) → (Int32 × Int32 × (Nat → Int32) × Int32 × Int32 × (Nat → Int32) × Int32 × Int32 × (Nat → Int32) × Int32 × Int32 × (Nat → Int32) × Int32 × Int32 × (Nat → Int32))) (x2 : Int32) (R : Int32) (t0_0 : Int32) (t0_1 : Int32) (t1_0 : (Nat → Int32)) (t2_0 : Int32) (t2_1 : Int32) (t3_0 : (Nat → Int32)) (t4_0 : Int32) (t4_1 : Int32) (t5_0 : (Nat → Int32)) (t6_0 : Int32) (t6_1 : Int32) (t7_0 : (Nat → Int32)) (t8_0 : Int32) (t8_1 : Int32) (t9_0 : (Nat → Int32)) (p60 : (Int32 × Int32 × (Nat → Int32))) (p105 : (Int32 × Int32 × (Nat → Int32) × Int32 × Int32 × (Nat → Int32) × Int32 × Int32 × (Nat → Int32))) (lx132 : Int32) (lx133 : Int32) (lx134 : Int32) (lx135 : (Nat → Int32)) (lx136 : Int32) (lx137 : Int32) (lx138 : (Nat → Int32)) (lx139 : Int32) (lx140 : Int32) (lx141 : (Nat → Int32)) (lx142 : Int32) (lx143 : Int32) (lx144 : (Nat → Int32)) (p224 : (Int32 × Int32 × (Nat → Int32) × Int32 × Int32 × (Nat → Int32) × Int32 × Int32 × (Nat → Int32))) (y193 : Int32) (y194 : Int32) (f195 : (Nat → Int32)) (y203 : Int32) (y204 : Int32) (f205 : (Nat → Int32)) (y198 : Int32) (y199 : Int32) (f200 : (Nat → Int32)) (p253 : (Int32 × Int32 × (Nat → Int32))) (p298 : (Int32 × Int32 × (Nat → Int32) × Int32 × Int32 × (Nat → Int32) × Int32 × Int32 × (Nat → Int32))) (y277 : Int32) (y278 : Int32) (f279 : (Nat → Int32)) (y267 : Int32) (y268 : Int32) (f269 : (Nat → Int32)) (y272 : Int32) (y273 : Int32) (f274 : (Nat → Int32)) (p328 : (Int32 × Int32 × (Nat → Int32))) : Int32 × Int32 × (Nat → Int32) × Int32 × Int32 × (Nat → Int32) × Int32 × Int32 × (Nat → Int32) × Int32 × Int32 × (Nat → Int32) × Int32 × Int32 × (Nat → Int32) := if t0_1 = (0 : Int32) then (((p328.1 : Int32), (0 : Int32), (p328.2.2 : (Nat → Int32)), y277, y278, f279, lx136, lx137, lx138, y267, y268, f269, y272, y273, f274)) else (if y267 ≤ (0 : Int32) then (((p328.1 : Int32), (0 : Int32), (p328.2.2 : (Nat → Int32)), y277, y278, f279, lx136, lx137, lx138, y267, y268, f269, y272, y273, f274)) else (((p328.1 : Int32), (1 : Int32), (p328.2.2 : (Nat → Int32)), y277, y278, f279, lx136, lx137, lx138, y267, y268, f269, y272, y273, f274)))
def F_DW_raiseBelow_c191 (K_F_DW_raiseBelow_L48 : Int32 → Int32 → Int32 → (Nat → Int32) → Int32 → Int32 → (Nat → Int32) → Int32 → Int32 → (Nat → Int32) → Int32 → Int32 → (Nat → Int32) → (Int32 × Int32 × (Nat → Int32) × Int32 × Int32 × (Nat → Int32) × Int32 × Int32 × (Nat → Int32) × Int32 × Int32 × (Nat → Int32) × Int32 × Int32 × (Nat → Int32))) (x2 : Int32) (R : Int32) (t0_0 : Int32) (t0_1 : Int32) (t1_0 : (Nat → Int32)) (t2_0 : Int32) (t2_1 : Int32) (t3_0 : (Nat → Int32)) (t4_0 : Int32) (t4_1 : Int32) (t5_0 : (Nat → Int32)) (t6_0 : Int32) (t6_1 : Int32) (t7_0 : (Nat → Int32)) (t8_0 : Int32) (t8_1 : Int32) (t9_0 : (Nat → Int32)) (p60 : (Int32 × Int32 × (Nat → Int32))) (p105 : (Int32 × Int32 × (Nat → Int32) × Int32 × Int32 × (Nat → Int32) × Int32 × Int32 × (Nat → Int32))) (lx132 : Int32) (lx133 : Int32) (lx134 : Int32) (lx135 : (Nat → Int32)) (lx136 : Int32) (lx137 : Int32) (lx138 : (Nat → Int32)) (lx139 : Int32) (lx140 : Int32) (lx141 : (Nat → Int32)) (lx142 : Int32) (lx143 : Int32) (lx144 : (Nat → Int32)) (p224 : (Int32 × Int32 × (Nat → Int32) × Int32 × Int32 × (Nat → Int32) × Int32 × Int32 × (Nat → Int32))) (y193 : Int32) (y194 : Int32) (f195 : (Nat → Int32)) (y203 : Int32) (y204 : Int32) (f205 : (Nat → Int32)) (y198 : Int32) (y199 : Int32) (f200 : (Nat → Int32)) (p253 : (Int32 × Int32 × (Nat → Int32))) (p298 : (Int32 × Int32 × (Nat → Int32) × Int32 × Int32 × (Nat → Int32) × Int32 × Int32 × (Nat → Int32))) : Int32 × Int32 × (Nat → Int32) × Int32 × Int32 × (Nat → Int32) × Int32 × Int32 × (Nat → Int32) × Int32 × Int32 × (Nat → Int32) × Int32 × Int32 × (Nat → Int32) := F_DW_raiseBelow_c208 K_F_DW_raiseBelow_L48 x2 R t0_0 t0_1 t1_0 t2_0 t2_1 t3_0 t4_0 t4_1 t5_0 t6_0 t6_1 t7_0 t8_0 t8_1 t9_0 p60 p105 lx132 lx133 lx134 lx135 lx136 lx137 lx138 lx139 lx140 lx141 lx142 lx143 lx144 p224 y193 y194 f195 y203 y204 f205 y198 y199 f200 p253 p298 (p298.2.2.2.2.2.2.1 : Int32) (p298.2.2.2.2.2.2.2.1 : Int32) (p298.2.2.2.2.2.2.2.2 : (Nat → Int32)) (p298.1 : Int32) (p298.2.1 : Int32) (p298.2.2.1 : (Nat → Int32)) (p298.2.2.2.1 : Int32) (p298.2.2.2.2.1 : Int32) (p298.2.2.2.2.2.1 : (Nat → Int32)) ((F_Big_copy (220 : Int32) (220 : Int32) y193 y194 f195 (p298.1 : Int32) (p298.2.1 : Int32) (p298.2.2.1 : (Nat → Int32))) : (Int32 × Int32 × (Nat → Int32)))
def F_DW_raiseBelow_c173 (K_F_DW_raiseBelow_L48 : Int32 → Int32 → Int32 → (Nat → Int32) → Int32 → Int32 → (Nat → Int32) → Int32 → Int32 → (Nat → Int32) → Int32 → Int32 → (Nat → Int32) → (Int32 × Int32 × (Nat → Int32) × Int32 × Int32 × (Nat → Int32) × Int32 × Int32 × (Nat → Int32) × Int32 × Int32 × (Nat → Int32) × Int32 × Int32 × (Nat → Int32))) (x2 : Int32) (R : Int32) (t0_0 : Int32) (t0_1 : Int32) (t1_0 : (Nat → Int32)) (t2_0 : Int32) (t2_1 : Int32) (t3_0 : (Nat → Int32)) (t4_0 : Int32) (t4_1 : Int32) (t5_0 : (Nat → Int32)) (t6_0 : Int32) (t6_1 : Int32) (t7_0 : (Nat → Int32)) (t8_0 : Int32) (t8_1 : Int32) (t9_0 : (Nat → Int32)) (p60 : (Int32 × Int32 × (Nat → Int32))) (p105 : (Int32 × Int32 × (Nat → Int32) × Int32 × Int32 × (Nat → Int32) × Int32 × Int32 × (Nat → Int32))) (lx132 : Int32) (lx133 : Int32) (lx134 : Int32) (lx135 : (Nat → Int32)) (lx136 : Int32) (lx137 : Int32) (lx138 : (Nat → Int32)) (lx139 : Int32) (lx140 : Int32) (lx141 : (Nat → Int32)) (lx142 : Int32) (lx143 : Int32) (lx144 : (Nat → Int32)) (p224 : (Int32 × Int32 × (Nat → Int32) × Int32 × Int32 × (Nat → Int32) × Int32 × Int32 × (Nat → Int32))) (y193 : Int32) (y194 : Int32) (f195 : (Nat → Int32)) (y203 : Int32) (y204 : Int32) (f205 : (Nat → Int32)) (y198 : Int32) (y199 : Int32) (f200 : (Nat → Int32)) (p253 : (Int32 × Int32 × (Nat → Int32))) : Int32 × Int32 × (Nat → Int32) × Int32 × Int32 × (Nat → Int32) × Int32 × Int32 × (Nat → Int32) × Int32 × Int32 × (Nat → Int32) × Int32 × Int32 × (Nat → Int32) := F_DW_raiseBelow_c191 K_F_DW_raiseBelow_L48 x2 R t0_0 t0_1 t1_0 t2_0 t2_1 t3_0 t4_0 t4_1 t5_0 t6_0 t6_1 t7_0 t8_0 t8_1 t9_0 p60 p105 lx132 lx133 lx134 lx135 lx136 lx137 lx138 lx139 lx140 lx141 lx142 lx143 lx144 p224 y193 y194 f195 y203 y204 f205 y198 y199 f200 p253 ((F_Big_divideBy (220 : Int32) R (220 : Int32) (p253.1 : Int32) (p253.2.1 : Int32) (p253.2.2 : (Nat → Int32)) y198 y199 f200 y203 y204 f205) : (Int32 × Int32 × (Nat → Int32) × Int32 × Int32 × (Nat → Int32) × Int32 × Int32 × (Nat → Int32)))
def F_DW_raiseBelow_c149 (K_F_DW_raiseBelow_L48 : Int32 → Int32 → Int32 → (Nat → Int32) → Int32 → Int32 → (Nat → Int32) → Int32 → Int32 → (Nat → Int32) → Int32 → Int32 → (Nat → Int32) → (Int32 × Int32 × (Nat → Int32) × Int32 × Int32 × (Nat → Int32) × Int32 × Int32 × (Nat → Int32) × Int32 × Int32 × (Nat → Int32) × Int32 × Int32 × (Nat → Int32))) (x2 : Int32) (R : Int32) (t0_0 : Int32) (t0_1 : Int32) (t1_0 : (Nat → Int32)) (t2_0 : Int32) (t2_1 : Int32) (t3_0 : (Nat → Int32)) (t4_0 : Int32) (t4_1 : Int32) (t5_0 : (Nat → Int32)) (t6_0 : Int32) (t6_1 : Int32) (t7_0 : (Nat → Int32)) (t8_0 : Int32) (t8_1 : Int32) (t9_0 : (Nat → Int32)) (p60 : (Int32 × Int32 × (Nat → Int32))) (p105 : (Int32 × Int32 × (Nat → Int32) × Int32 × Int32 × (Nat → Int32) × Int32 × Int32 × (Nat → Int32))) (lx132 : Int32) (lx133 : Int32) (lx134 : Int32) (lx135 : (Nat → Int32)) (lx136 : Int32) (lx137 : Int32) (lx138 : (Nat → Int32)) (lx139 : Int32) (lx140 : Int32) (lx141 : (Nat → Int32)) (lx142 : Int32) (lx143 : Int32) (lx144 : (Nat → Int32)) (p224 : (Int32 × Int32 × (Nat → Int32) × Int32 × Int32 × (Nat → Int32) × Int32 × Int32 × (Nat → Int32))) : Int32 × Int32 × (Nat → Int32) × Int32 × Int32 × (Nat → Int32) × Int32 × Int32 × (Nat → Int32) × Int32 × Int32 × (Nat → Int32) × Int32 × Int32 × (Nat → Int32) := F_DW_raiseBelow_c173 K_F_DW_raiseBelow_L48 x2 R t0_0 t0_1 t1_0 t2_0 t2_1 t3_0 t4_0 t4_1 t5_0 t6_0 t6_1 t7_0 t8_0 t8_1 t9_0 p60 p105 lx132 lx133 lx134 lx135 lx136 lx137 lx138 lx139 lx140 lx141 lx142 lx143 lx144 p224 (p224.1 : Int32) (p224.2.1 : Int32) (p224.2.2.1 : (Nat → Int32)) (p224.2.2.2.2.2.2.1 : Int32) (p224.2.2.2.2.2.2.2.1 : Int32) (p224.2.2.2.2.2.2.2.2 : (Nat → Int32)) (p224.2.2.2.1 : Int32) (p224.2.2.2.2.1 : Int32) (p224.2.2.2.2.2.1 : (Nat → Int32)) ((F_Big_product (220 : Int32) (220 : Int32) (220 : Int32) lx139 lx140 lx141 (p224.1 : Int32) (p224.2.1 : Int32) (p224.2.2.1 : (Nat → Int32)) lx136 lx137 lx138) : (Int32 × Int32 × (Nat → Int32)))
def F_DW_raiseBelow_c125 (K_F_DW_raiseBelow_L48 : Int32 → Int32 → Int32 → (Nat → Int32) → Int32 → Int32 → (Nat → Int32) → Int32 → Int32 → (Nat → Int32) → Int32 → Int32 → (Nat → Int32) → (Int32 × Int32 × (Nat → Int32) × Int32 × Int32 × (Nat → Int32) × Int32 × Int32 × (Nat → Int32) × Int32 × Int32 × (Nat → Int32) × Int32 × Int32 × (Nat → Int32))) (x2 : Int32) (R : Int32) (t0_0 : Int32) (t0_1 : Int32) (t1_0 : (Nat → Int32)) (t2_0 : Int32) (t2_1 : Int32) (t3_0 : (Nat → Int32)) (t4_0 : Int32) (t4_1 : Int32) (t5_0 : (Nat → Int32)) (t6_0 : Int32) (t6_1 : Int32) (t7_0 : (Nat → Int32)) (t8_0 : Int32) (t8_1 : Int32) (t9_0 : (Nat → Int32)) (p60 : (Int32 × Int32 × (Nat → Int32))) (p105 : (Int32 × Int32 × (Nat → Int32) × Int32 × Int32 × (Nat → Int32) × Int32 × Int32 × (Nat → Int32))) (lx132 : Int32) (lx133 : Int32) (lx134 : Int32) (lx135 : (Nat → Int32)) (lx136 : Int32) (lx137 : Int32) (lx138 : (Nat → Int32)) (lx139 : Int32) (lx140 : Int32) (lx141 : (Nat → Int32)) (lx142 : Int32) (lx143 : Int32) (lx144 : (Nat → Int32)) (p369 : (Int32 × Int32 × (Nat → Int32))) (p397 : (Int32 × Int32 × (Nat → Int32))) (p442 : (Int32 × Int32 × (Nat → Int32) × Int32 × Int32 × (Nat → Int32) × Int32 × Int32 × (Nat → Int32))) (y421 : Int32) (y422 : Int32) (f423 : (Nat → Int32)) (y411 : Int32) (y412 : Int32) (f413 : (Nat → Int32)) (y416 : Int32) (y417 : Int32) (f418 : (Nat → Int32)) (p472 : (Int32 × Int32 × (Nat → Int32))) : Int32 × Int32 × (Nat → Int32) × Int32 × Int32 × (Nat → Int32) × Int32 × Int32 × (Nat → Int32) × Int32 × Int32 × (Nat → Int32) × Int32 × Int32 × (Nat → Int32) := K_F_DW_raiseBelow_L48 (lx132 + (-1) : Int32) y421 y422 f423 (p472.1 : Int32) (p472.2.1 : Int32) (p472.2.2 : (Nat → Int32)) y411 y412 f413 y416 y417 f418
def F_DW_raiseBelow_c108 (K_F_DW_raiseBelow_L48 : Int32 → Int32 → Int32 → (Nat → Int32) → Int32 → Int32 → (Nat → Int32) → Int32 → Int32 → (Nat → Int32) → Int32 → Int32 → (Nat → Int32) → (Int32 × Int32 × (Nat → Int32) × Int32 × Int32 × (Nat → Int32) × Int32 × Int32 × (Nat → Int32) × Int32 × Int32 × (Nat → Int32) × Int32 × Int32 × (Nat → Int32))) (x2 : Int32) (R : Int32) (t0_0 : Int32) (t0_1 : Int32) (t1_0 : (Nat → Int32)) (t2_0 : Int32) (t2_1 : Int32) (t3_0 : (Nat → Int32)) (t4_0 : Int32) (t4_1 : Int32) (t5_0 : (Nat → Int32)) (t6_0 : Int32) (t6_1 : Int32) (t7_0 : (Nat → Int32)) (t8_0 : Int32) (t8_1 : Int32) (t9_0 : (Nat → Int32)) (p60 : (Int32 × Int32 × (Nat → Int32))) (p105 : (Int32 × Int32 × (Nat → Int32) × Int32 × Int32 × (Nat → Int32) × Int32 × Int32 × (Nat → Int32))) (lx132 : Int32) (lx133 : Int32) (lx134 : Int32) (lx135 : (Nat → Int32)) (lx136 : Int32) (lx137 : Int32) (lx138 : (Nat → Int32)) (lx139 : Int32) (lx140 : Int32) (lx141 : (Nat → Int32)) (lx142 : Int32) (lx143 : Int32) (lx144 : (Nat → Int32)) (p369 : (Int32 × Int32 × (Nat → Int32))) (p397 : (Int32 × Int32 × (Nat → Int32))) (p442 : (Int32 × Int32 × (Nat → Int32) × Int32 × Int32 × (Nat → Int32) × Int32 × Int32 × (Nat → Int32))) : Int32 × Int32 × (Nat → Int32) × Int32 × Int32 × (Nat → Int32) × Int32 × Int32 × (Nat → Int32) × Int32 × Int32 × (Nat → Int32) × Int32 × Int32 × (Nat → Int32) := F_DW_raiseBelow_c125 K_F_DW_raiseBelow_L48 x2 R t0_0 t0_1 t1_0 t2_0 t2_1 t3_0 t4_0 t4_1 t5_0 t6_0 t6_1 t7_0 t8_0 t8_1 t9_0 p60 p105 lx132 lx133 lx134 lx135 lx136 lx137 lx138 lx139 lx140 lx141 lx142 lx143 lx144 p369 p397 p442 (p442.2.2.2.2.2.2.1 : Int32) (p442.2.2.2.2.2.2.2.1 : Int32) (p442.2.2.2.2.2.2.2.2 : (Nat → Int32)) (p442.1 : Int32) (p442.2.1 : Int32) (p442.2.2.1 : (Nat → Int32)) (p442.2.2.2.1 : Int32) (p442.2.2.2.2.1 : Int32) (p442.2.2.2.2.2.1 : (Nat → Int32)) ((F_Big_copy (220 : Int32) (220 : Int32) lx136 lx137 lx138 (p442.1 : Int32) (p442.2.1 : Int32) (p442.2.2.1 : (Nat → Int32))) : (Int32 × Int32 × (Nat → Int32)))
def F_DW_raiseBelow_c90 (K_F_DW_raiseBelow_L48 : Int32 → Int32 → Int32 → (Nat → Int32) → Int32 → Int32 → (Nat → Int32) → Int32 → Int32 → (Nat → Int32) → Int32 → Int32 → (Nat → Int32) → (Int32 × Int32 × (Nat → Int32) × Int32 × Int32 × (Nat → Int32) × Int32 × Int32 × (Nat → Int32) × Int32 × Int32 × (Nat → Int32) × Int32 × Int32 × (Nat → Int32))) (x2 : Int32) (R : Int32) (t0_0 : Int32) (t0_1 : Int32) (t1_0 : (Nat → Int32)) (t2_0 : Int32) (t2_1 : Int32) (t3_0 : (Nat → Int32)) (t4_0 : Int32) (t4_1 : Int32) (t5_0 : (Nat → Int32)) (t6_0 : Int32) (t6_1 : Int32) (t7_0 : (Nat → Int32)) (t8_0 : Int32) (t8_1 : Int32) (t9_0 : (Nat → Int32)) (p60 : (Int32 × Int32 × (Nat → Int32))) (p105 : (Int32 × Int32 × (Nat → Int32) × Int32 × Int32 × (Nat → Int32) × Int32 × Int32 × (Nat → Int32))) (lx132 : Int32) (lx133 : Int32) (lx134 : Int32) (lx135 : (Nat → Int32)) (lx136 : Int32) (lx137 : Int32) (lx138 : (Nat → Int32)) (lx139 : Int32) (lx140 : Int32) (lx141 : (Nat → Int32)) (lx142 : Int32) (lx143 : Int32) (lx144 : (Nat → Int32)) (p369 : (Int32 × Int32 × (Nat → Int32))) (p397 : (Int32 × Int32 × (Nat → Int32))) : Int32 × Int32 × (Nat → Int32) × Int32 × Int32 × (Nat → Int32) × Int32 × Int32 × (Nat → Int32) × Int32 × Int32 × (Nat → Int32) × Int32 × Int32 × (Nat → Int32) := F_DW_raiseBelow_c108 K_F_DW_raiseBelow_L48 x2 R t0_0 t0_1 t1_0 t2_0 t2_1 t3_0 t4_0 t4_1 t5_0 t6_0 t6_1 t7_0 t8_0 t8_1 t9_0 p60 p105 lx132 lx133 lx134 lx135 lx136 lx137 lx138 lx139 lx140 lx141 lx142 lx143 lx144 p369 p397 ((F_Big_divideBy (220 : Int32) R (220 : Int32) (p397.1 : Int32) (p397.2.1 : Int32) (p397.2.2 : (Nat → Int32)) lx142 lx143 lx144 lx133 lx134 lx135) : (Int32 × Int32 × (Nat → Int32) × Int32 × Int32 × (Nat → Int32) × Int32 × Int32 × (Nat → Int32)))
def F_DW_raiseBelow_c74 (K_F_DW_raiseBelow_L48 : Int32 → Int32 → Int32 → (Nat → Int32) → Int32 → Int32 → (Nat → Int32) → Int32 → Int32 → (Nat → Int32) → Int32 → Int32 → (Nat → Int32) → (Int32 × Int32 × (Nat → Int32) × Int32 × Int32 × (Nat → Int32) × Int32 × Int32 × (Nat → Int32) × Int32 × Int32 × (Nat → Int32) × Int32 × Int32 × (Nat → Int32))) (x2 : Int32) (R : Int32) (t0_0 : Int32) (t0_1 : Int32) (t1_0 : (Nat → Int32)) (t2_0 : Int32) (t2_1 : Int32) (t3_0 : (Nat → Int32)) (t4_0 : Int32) (t4_1 : Int32) (t5_0 : (Nat → Int32)) (t6_0 : Int32) (t6_1 : Int32) (t7_0 : (Nat → Int32)) (t8_0 : Int32) (t8_1 : Int32) (t9_0 : (Nat → Int32)) (p60 : (Int32 × Int32 × (Nat → Int32))) (p105 : (Int32 × Int32 × (Nat → Int32) × Int32 × Int32 × (Nat → Int32) × Int32 × Int32 × (Nat → Int32))) (lx132 : Int32) (lx133 : Int32) (lx134 : Int32) (lx135 : (Nat → Int32)) (lx136 : Int32) (lx137 : Int32) (lx138 : (Nat → Int32)) (lx139 : Int32) (lx140 : Int32) (lx141 : (Nat → Int32)) (lx142 : Int32) (lx143 : Int32) (lx144 : (Nat → Int32)) (p369 : (Int32 × Int32 × (Nat → Int32))) : Int32 × Int32 × (Nat → Int32) × Int32 × Int32 × (Nat → Int32) × Int32 × Int32 × (Nat → Int32) × Int32 × Int32 × (Nat → Int32) × Int32 × Int32 × (Nat → Int32) := F_DW_raiseBelow_c90 K_F_DW_raiseBelow_L48 x2 R t0_0 t0_1 t1_0 t2_0 t2_1 t3_0 t4_0 t4_1 t5_0 t6_0 t6_1 t7_0 t8_0 t8_1 t9_0 p60 p105 lx132 lx133 lx134 lx135 lx136 lx137 lx138 lx139 lx140 lx141 lx142 lx143 lx144 p369 ((F_Big_timesTen (220 : Int32) (((x2.toUInt32 >>> (lx132.toUInt32 &&& Int32.toUInt32 31)).toInt32 : Int32) &&& 1 : Int32) (p369.1 : Int32) (p369.2.1 : Int32) (p369.2.2 : (Nat → Int32))) : (Int32 × Int32 × (Nat → Int32)))
def F_DW_raiseBelow_L48 (x2 : Int32) (R : Int32) (t0_0 : Int32) (t0_1 : Int32) (t1_0 : (Nat → Int32)) (t2_0 : Int32) (t2_1 : Int32) (t3_0 : (Nat → Int32)) (t4_0 : Int32) (t4_1 : Int32) (t5_0 : (Nat → Int32)) (t6_0 : Int32) (t6_1 : Int32) (t7_0 : (Nat → Int32)) (t8_0 : Int32) (t8_1 : Int32) (t9_0 : (Nat → Int32)) (p60 : (Int32 × Int32 × (Nat → Int32))) (p105 : (Int32 × Int32 × (Nat → Int32) × Int32 × Int32 × (Nat → Int32) × Int32 × Int32 × (Nat → Int32))) : Nat → Int32 → Int32 → Int32 → (Nat → Int32) → Int32 → Int32 → (Nat → Int32) → Int32 → Int32 → (Nat → Int32) → Int32 → Int32 → (Nat → Int32) → (Int32 × Int32 × (Nat → Int32) × Int32 × Int32 × (Nat → Int32) × Int32 × Int32 × (Nat → Int32) × Int32 × Int32 × (Nat → Int32) × Int32 × Int32 × (Nat → Int32))
  | 0, _, _, _, _, _, _, _, _, _, _, _, _, _ => default
  | fm + 1, lx132, lx133, lx134, lx135, lx136, lx137, lx138, lx139, lx140, lx141, lx142, lx143, lx144 => if lx132 < (0 : Int32) then (F_DW_raiseBelow_c149 (F_DW_raiseBelow_L48 x2 R t0_0 t0_1 t1_0 t2_0 t2_1 t3_0 t4_0 t4_1 t5_0 t6_0 t6_1 t7_0 t8_0 t8_1 t9_0 p60 p105 fm) x2 R t0_0 t0_1 t1_0 t2_0 t2_1 t3_0 t4_0 t4_1 t5_0 t6_0 t6_1 t7_0 t8_0 t8_1 t9_0 p60 p105 lx132 lx133 lx134 lx135 lx136 lx137 lx138 lx139 lx140 lx141 lx142 lx143 lx144 ((F_Big_divideBy (220 : Int32) R (220 : Int32) t0_0 t0_1 t1_0 lx142 lx143 lx144 lx133 lx134 lx135) : (Int32 × Int32 × (Nat → Int32) × Int32 × Int32 × (Nat → Int32) × Int32 × Int32 × (Nat → Int32)))) else (F_DW_raiseBelow_c74 (F_DW_raiseBelow_L48 x2 R t0_0 t0_1 t1_0 t2_0 t2_1 t3_0 t4_0 t4_1 t5_0 t6_0 t6_1 t7_0 t8_0 t8_1 t9_0 p60 p105 fm) x2 R t0_0 t0_1 t1_0 t2_0 t2_1 t3_0 t4_0 t4_1 t5_0 t6_0 t6_1 t7_0 t8_0 t8_1 t9_0 p60 p105 lx132 lx133 lx134 lx135 lx136 lx137 lx138 lx139 lx140 lx141 lx142 lx143 lx144 ((F_Big_product (220 : Int32) (220 : Int32) (220 : Int32) lx139 lx140 lx141 lx136 lx137 lx138 lx136 lx137 lx138) : (Int32 × Int32 × (Nat → Int32))))
def F_DW_raiseBelow_c37 (x2 : Int32) (R : Int32) (t0_0 : Int32) (t0_1 : Int32) (t1_0 : (Nat → Int32)) (t2_0 : Int32) (t2_1 : Int32) (t3_0 : (Nat → Int32)) (t4_0 : Int32) (t4_1 : Int32) (t5_0 : (Nat → Int32)) (t6_0 : Int32) (t6_1 : Int32) (t7_0 : (Nat → Int32)) (t8_0 : Int32) (t8_1 : Int32) (t9_0 : (Nat → Int32)) (p60 : (Int32 × Int32 × (Nat → Int32))) (p105 : (Int32 × Int32 × (Nat → Int32) × Int32 × Int32 × (Nat → Int32) × Int32 × Int32 × (Nat → Int32))) : Int32 × Int32 × (Nat → Int32) × Int32 × Int32 × (Nat → Int32) × Int32 × Int32 × (Nat → Int32) × Int32 × Int32 × (Nat → Int32) × Int32 × Int32 × (Nat → Int32) := F_DW_raiseBelow_L48 x2 R t0_0 t0_1 t1_0 t2_0 t2_1 t3_0 t4_0 t4_1 t5_0 t6_0 t6_1 t7_0 t8_0 t8_1 t9_0 p60 p105 (((((F_Big_bitsOf x2) : Int32) - 1 : Int32).toInt - ((-1))).toNat + 1) (((F_Big_bitsOf x2) : Int32) - 1 : Int32) (p105.2.2.2.2.2.2.1 : Int32) (p105.2.2.2.2.2.2.2.1 : Int32) (p105.2.2.2.2.2.2.2.2 : (Nat → Int32)) (p105.1 : Int32) (p105.2.1 : Int32) (p105.2.2.1 : (Nat → Int32)) t6_0 t6_1 t7_0 (p105.2.2.2.1 : Int32) (p105.2.2.2.2.1 : Int32) (p105.2.2.2.2.2.1 : (Nat → Int32))
def F_DW_raiseBelow_c19 (x2 : Int32) (R : Int32) (t0_0 : Int32) (t0_1 : Int32) (t1_0 : (Nat → Int32)) (t2_0 : Int32) (t2_1 : Int32) (t3_0 : (Nat → Int32)) (t4_0 : Int32) (t4_1 : Int32) (t5_0 : (Nat → Int32)) (t6_0 : Int32) (t6_1 : Int32) (t7_0 : (Nat → Int32)) (t8_0 : Int32) (t8_1 : Int32) (t9_0 : (Nat → Int32)) (p60 : (Int32 × Int32 × (Nat → Int32))) : Int32 × Int32 × (Nat → Int32) × Int32 × Int32 × (Nat → Int32) × Int32 × Int32 × (Nat → Int32) × Int32 × Int32 × (Nat → Int32) × Int32 × Int32 × (Nat → Int32) := F_DW_raiseBelow_c37 x2 R t0_0 t0_1 t1_0 t2_0 t2_1 t3_0 t4_0 t4_1 t5_0 t6_0 t6_1 t7_0 t8_0 t8_1 t9_0 p60 ((F_Big_divideBy (220 : Int32) R (220 : Int32) (p60.1 : Int32) (p60.2.1 : Int32) (p60.2.2 : (Nat → Int32)) t8_0 t8_1 t9_0 t2_0 t2_1 t3_0) : (Int32 × Int32 × (Nat → Int32) × Int32 × Int32 × (Nat → Int32) × Int32 × Int32 × (Nat → Int32)))
def F_DW_raiseBelow (x2 : Int32) (R : Int32) (t0_0 : Int32) (t0_1 : Int32) (t1_0 : (Nat → Int32)) (t2_0 : Int32) (t2_1 : Int32) (t3_0 : (Nat → Int32)) (t4_0 : Int32) (t4_1 : Int32) (t5_0 : (Nat → Int32)) (t6_0 : Int32) (t6_1 : Int32) (t7_0 : (Nat → Int32)) (t8_0 : Int32) (t8_1 : Int32) (t9_0 : (Nat → Int32)) : Int32 × Int32 × (Nat → Int32) × Int32 × Int32 × (Nat → Int32) × Int32 × Int32 × (Nat → Int32) × Int32 × Int32 × (Nat → Int32) × Int32 × Int32 × (Nat → Int32) := F_DW_raiseBelow_c19 x2 R t0_0 t0_1 t1_0 t2_0 t2_1 t3_0 t4_0 t4_1 t5_0 t6_0 t6_1 t7_0 t8_0 t8_1 t9_0 ((F_Big_setLong (220 : Int32) (1 : Int64) t4_0 t4_1 t5_0) : (Int32 × Int32 × (Nat → Int32)))
def S_DW_raiseBelow_c208 (K_S_DW_raiseBelow_L48 : Int32 → Int32 → Int32 → (Nat → Int32) → Int32 → Int32 → (Nat → Int32) → Int32 → Int32 → (Nat → Int32) → Int32 → Int32 → (Nat → Int32) → Prop) (x2 : Int32) (R : Int32) (t0_0 : Int32) (t0_1 : Int32) (t1_0 : (Nat → Int32)) (t2_0 : Int32) (t2_1 : Int32) (t3_0 : (Nat → Int32)) (t4_0 : Int32) (t4_1 : Int32) (t5_0 : (Nat → Int32)) (t6_0 : Int32) (t6_1 : Int32) (t7_0 : (Nat → Int32)) (t8_0 : Int32) (t8_1 : Int32) (t9_0 : (Nat → Int32)) (p60 : (Int32 × Int32 × (Nat → Int32))) (p105 : (Int32 × Int32 × (Nat → Int32) × Int32 × Int32 × (Nat → Int32) × Int32 × Int32 × (Nat → Int32))) (lx132 : Int32) (lx133 : Int32) (lx134 : Int32) (lx135 : (Nat → Int32)) (lx136 : Int32) (lx137 : Int32) (lx138 : (Nat → Int32)) (lx139 : Int32) (lx140 : Int32) (lx141 : (Nat → Int32)) (lx142 : Int32) (lx143 : Int32) (lx144 : (Nat → Int32)) (p224 : (Int32 × Int32 × (Nat → Int32) × Int32 × Int32 × (Nat → Int32) × Int32 × Int32 × (Nat → Int32))) (y193 : Int32) (y194 : Int32) (f195 : (Nat → Int32)) (y203 : Int32) (y204 : Int32) (f205 : (Nat → Int32)) (y198 : Int32) (y199 : Int32) (f200 : (Nat → Int32)) (p253 : (Int32 × Int32 × (Nat → Int32))) (p298 : (Int32 × Int32 × (Nat → Int32) × Int32 × Int32 × (Nat → Int32) × Int32 × Int32 × (Nat → Int32))) (y277 : Int32) (y278 : Int32) (f279 : (Nat → Int32)) (y267 : Int32) (y268 : Int32) (f269 : (Nat → Int32)) (y272 : Int32) (y273 : Int32) (f274 : (Nat → Int32)) (p328 : (Int32 × Int32 × (Nat → Int32))) : Prop := if t0_1 = (0 : Int32) then (True) else (if y267 ≤ (0 : Int32) then (True) else (True))
def S_DW_raiseBelow_c191 (K_S_DW_raiseBelow_L48 : Int32 → Int32 → Int32 → (Nat → Int32) → Int32 → Int32 → (Nat → Int32) → Int32 → Int32 → (Nat → Int32) → Int32 → Int32 → (Nat → Int32) → Prop) (x2 : Int32) (R : Int32) (t0_0 : Int32) (t0_1 : Int32) (t1_0 : (Nat → Int32)) (t2_0 : Int32) (t2_1 : Int32) (t3_0 : (Nat → Int32)) (t4_0 : Int32) (t4_1 : Int32) (t5_0 : (Nat → Int32)) (t6_0 : Int32) (t6_1 : Int32) (t7_0 : (Nat → Int32)) (t8_0 : Int32) (t8_1 : Int32) (t9_0 : (Nat → Int32)) (p60 : (Int32 × Int32 × (Nat → Int32))) (p105 : (Int32 × Int32 × (Nat → Int32) × Int32 × Int32 × (Nat → Int32) × Int32 × Int32 × (Nat → Int32))) (lx132 : Int32) (lx133 : Int32) (lx134 : Int32) (lx135 : (Nat → Int32)) (lx136 : Int32) (lx137 : Int32) (lx138 : (Nat → Int32)) (lx139 : Int32) (lx140 : Int32) (lx141 : (Nat → Int32)) (lx142 : Int32) (lx143 : Int32) (lx144 : (Nat → Int32)) (p224 : (Int32 × Int32 × (Nat → Int32) × Int32 × Int32 × (Nat → Int32) × Int32 × Int32 × (Nat → Int32))) (y193 : Int32) (y194 : Int32) (f195 : (Nat → Int32)) (y203 : Int32) (y204 : Int32) (f205 : (Nat → Int32)) (y198 : Int32) (y199 : Int32) (f200 : (Nat → Int32)) (p253 : (Int32 × Int32 × (Nat → Int32))) (p298 : (Int32 × Int32 × (Nat → Int32) × Int32 × Int32 × (Nat → Int32) × Int32 × Int32 × (Nat → Int32))) : Prop := S_DW_raiseBelow_c208 K_S_DW_raiseBelow_L48 x2 R t0_0 t0_1 t1_0 t2_0 t2_1 t3_0 t4_0 t4_1 t5_0 t6_0 t6_1 t7_0 t8_0 t8_1 t9_0 p60 p105 lx132 lx133 lx134 lx135 lx136 lx137 lx138 lx139 lx140 lx141 lx142 lx143 lx144 p224 y193 y194 f195 y203 y204 f205 y198 y199 f200 p253 p298 (p298.2.2.2.2.2.2.1 : Int32) (p298.2.2.2.2.2.2.2.1 : Int32) (p298.2.2.2.2.2.2.2.2 : (Nat → Int32)) (p298.1 : Int32) (p298.2.1 : Int32) (p298.2.2.1 : (Nat → Int32)) (p298.2.2.2.1 : Int32) (p298.2.2.2.2.1 : Int32) (p298.2.2.2.2.2.1 : (Nat → Int32)) ((F_Big_copy (220 : Int32) (220 : Int32) y193 y194 f195 (p298.1 : Int32) (p298.2.1 : Int32) (p298.2.2.1 : (Nat → Int32))) : (Int32 × Int32 × (Nat → Int32)))
def S_DW_raiseBelow_c173 (K_S_DW_raiseBelow_L48 : Int32 → Int32 → Int32 → (Nat → Int32) → Int32 → Int32 → (Nat → Int32) → Int32 → Int32 → (Nat → Int32) → Int32 → Int32 → (Nat → Int32) → Prop) (x2 : Int32) (R : Int32) (t0_0 : Int32) (t0_1 : Int32) (t1_0 : (Nat → Int32)) (t2_0 : Int32) (t2_1 : Int32) (t3_0 : (Nat → Int32)) (t4_0 : Int32) (t4_1 : Int32) (t5_0 : (Nat → Int32)) (t6_0 : Int32) (t6_1 : Int32) (t7_0 : (Nat → Int32)) (t8_0 : Int32) (t8_1 : Int32) (t9_0 : (Nat → Int32)) (p60 : (Int32 × Int32 × (Nat → Int32))) (p105 : (Int32 × Int32 × (Nat → Int32) × Int32 × Int32 × (Nat → Int32) × Int32 × Int32 × (Nat → Int32))) (lx132 : Int32) (lx133 : Int32) (lx134 : Int32) (lx135 : (Nat → Int32)) (lx136 : Int32) (lx137 : Int32) (lx138 : (Nat → Int32)) (lx139 : Int32) (lx140 : Int32) (lx141 : (Nat → Int32)) (lx142 : Int32) (lx143 : Int32) (lx144 : (Nat → Int32)) (p224 : (Int32 × Int32 × (Nat → Int32) × Int32 × Int32 × (Nat → Int32) × Int32 × Int32 × (Nat → Int32))) (y193 : Int32) (y194 : Int32) (f195 : (Nat → Int32)) (y203 : Int32) (y204 : Int32) (f205 : (Nat → Int32)) (y198 : Int32) (y199 : Int32) (f200 : (Nat → Int32)) (p253 : (Int32 × Int32 × (Nat → Int32))) : Prop := (True ∧ S_Big_divideBy (220 : Int32) R (220 : Int32) (p253.1 : Int32) (p253.2.1 : Int32) (p253.2.2 : (Nat → Int32)) y198 y199 f200 y203 y204 f205) ∧ (S_DW_raiseBelow_c191 K_S_DW_raiseBelow_L48 x2 R t0_0 t0_1 t1_0 t2_0 t2_1 t3_0 t4_0 t4_1 t5_0 t6_0 t6_1 t7_0 t8_0 t8_1 t9_0 p60 p105 lx132 lx133 lx134 lx135 lx136 lx137 lx138 lx139 lx140 lx141 lx142 lx143 lx144 p224 y193 y194 f195 y203 y204 f205 y198 y199 f200 p253 ((F_Big_divideBy (220 : Int32) R (220 : Int32) (p253.1 : Int32) (p253.2.1 : Int32) (p253.2.2 : (Nat → Int32)) y198 y199 f200 y203 y204 f205) : (Int32 × Int32 × (Nat → Int32) × Int32 × Int32 × (Nat → Int32) × Int32 × Int32 × (Nat → Int32))))
def S_DW_raiseBelow_c149 (K_S_DW_raiseBelow_L48 : Int32 → Int32 → Int32 → (Nat → Int32) → Int32 → Int32 → (Nat → Int32) → Int32 → Int32 → (Nat → Int32) → Int32 → Int32 → (Nat → Int32) → Prop) (x2 : Int32) (R : Int32) (t0_0 : Int32) (t0_1 : Int32) (t1_0 : (Nat → Int32)) (t2_0 : Int32) (t2_1 : Int32) (t3_0 : (Nat → Int32)) (t4_0 : Int32) (t4_1 : Int32) (t5_0 : (Nat → Int32)) (t6_0 : Int32) (t6_1 : Int32) (t7_0 : (Nat → Int32)) (t8_0 : Int32) (t8_1 : Int32) (t9_0 : (Nat → Int32)) (p60 : (Int32 × Int32 × (Nat → Int32))) (p105 : (Int32 × Int32 × (Nat → Int32) × Int32 × Int32 × (Nat → Int32) × Int32 × Int32 × (Nat → Int32))) (lx132 : Int32) (lx133 : Int32) (lx134 : Int32) (lx135 : (Nat → Int32)) (lx136 : Int32) (lx137 : Int32) (lx138 : (Nat → Int32)) (lx139 : Int32) (lx140 : Int32) (lx141 : (Nat → Int32)) (lx142 : Int32) (lx143 : Int32) (lx144 : (Nat → Int32)) (p224 : (Int32 × Int32 × (Nat → Int32) × Int32 × Int32 × (Nat → Int32) × Int32 × Int32 × (Nat → Int32))) : Prop := S_DW_raiseBelow_c173 K_S_DW_raiseBelow_L48 x2 R t0_0 t0_1 t1_0 t2_0 t2_1 t3_0 t4_0 t4_1 t5_0 t6_0 t6_1 t7_0 t8_0 t8_1 t9_0 p60 p105 lx132 lx133 lx134 lx135 lx136 lx137 lx138 lx139 lx140 lx141 lx142 lx143 lx144 p224 (p224.1 : Int32) (p224.2.1 : Int32) (p224.2.2.1 : (Nat → Int32)) (p224.2.2.2.2.2.2.1 : Int32) (p224.2.2.2.2.2.2.2.1 : Int32) (p224.2.2.2.2.2.2.2.2 : (Nat → Int32)) (p224.2.2.2.1 : Int32) (p224.2.2.2.2.1 : Int32) (p224.2.2.2.2.2.1 : (Nat → Int32)) ((F_Big_product (220 : Int32) (220 : Int32) (220 : Int32) lx139 lx140 lx141 (p224.1 : Int32) (p224.2.1 : Int32) (p224.2.2.1 : (Nat → Int32)) lx136 lx137 lx138) : (Int32 × Int32 × (Nat → Int32)))
def S_DW_raiseBelow_c125 (K_S_DW_raiseBelow_L48 : Int32 → Int32 → Int32 → (Nat → Int32) → Int32 → Int32 → (Nat → Int32) → Int32 → Int32 → (Nat → Int32) → Int32 → Int32 → (Nat → Int32) → Prop) (x2 : Int32) (R : Int32) (t0_0 : Int32) (t0_1 : Int32) (t1_0 : (Nat → Int32)) (t2_0 : Int32) (t2_1 : Int32) (t3_0 : (Nat → Int32)) (t4_0 : Int32) (t4_1 : Int32) (t5_0 : (Nat → Int32)) (t6_0 : Int32) (t6_1 : Int32) (t7_0 : (Nat → Int32)) (t8_0 : Int32) (t8_1 : Int32) (t9_0 : (Nat → Int32)) (p60 : (Int32 × Int32 × (Nat → Int32))) (p105 : (Int32 × Int32 × (Nat → Int32) × Int32 × Int32 × (Nat → Int32) × Int32 × Int32 × (Nat → Int32))) (lx132 : Int32) (lx133 : Int32) (lx134 : Int32) (lx135 : (Nat → Int32)) (lx136 : Int32) (lx137 : Int32) (lx138 : (Nat → Int32)) (lx139 : Int32) (lx140 : Int32) (lx141 : (Nat → Int32)) (lx142 : Int32) (lx143 : Int32) (lx144 : (Nat → Int32)) (p369 : (Int32 × Int32 × (Nat → Int32))) (p397 : (Int32 × Int32 × (Nat → Int32))) (p442 : (Int32 × Int32 × (Nat → Int32) × Int32 × Int32 × (Nat → Int32) × Int32 × Int32 × (Nat → Int32))) (y421 : Int32) (y422 : Int32) (f423 : (Nat → Int32)) (y411 : Int32) (y412 : Int32) (f413 : (Nat → Int32)) (y416 : Int32) (y417 : Int32) (f418 : (Nat → Int32)) (p472 : (Int32 × Int32 × (Nat → Int32))) : Prop := K_S_DW_raiseBelow_L48 (lx132 + (-1) : Int32) y421 y422 f423 (p472.1 : Int32) (p472.2.1 : Int32) (p472.2.2 : (Nat → Int32)) y411 y412 f413 y416 y417 f418
def S_DW_raiseBelow_c108 (K_S_DW_raiseBelow_L48 : Int32 → Int32 → Int32 → (Nat → Int32) → Int32 → Int32 → (Nat → Int32) → Int32 → Int32 → (Nat → Int32) → Int32 → Int32 → (Nat → Int32) → Prop) (x2 : Int32) (R : Int32) (t0_0 : Int32) (t0_1 : Int32) (t1_0 : (Nat → Int32)) (t2_0 : Int32) (t2_1 : Int32) (t3_0 : (Nat → Int32)) (t4_0 : Int32) (t4_1 : Int32) (t5_0 : (Nat → Int32)) (t6_0 : Int32) (t6_1 : Int32) (t7_0 : (Nat → Int32)) (t8_0 : Int32) (t8_1 : Int32) (t9_0 : (Nat → Int32)) (p60 : (Int32 × Int32 × (Nat → Int32))) (p105 : (Int32 × Int32 × (Nat → Int32) × Int32 × Int32 × (Nat → Int32) × Int32 × Int32 × (Nat → Int32))) (lx132 : Int32) (lx133 : Int32) (lx134 : Int32) (lx135 : (Nat → Int32)) (lx136 : Int32) (lx137 : Int32) (lx138 : (Nat → Int32)) (lx139 : Int32) (lx140 : Int32) (lx141 : (Nat → Int32)) (lx142 : Int32) (lx143 : Int32) (lx144 : (Nat → Int32)) (p369 : (Int32 × Int32 × (Nat → Int32))) (p397 : (Int32 × Int32 × (Nat → Int32))) (p442 : (Int32 × Int32 × (Nat → Int32) × Int32 × Int32 × (Nat → Int32) × Int32 × Int32 × (Nat → Int32))) : Prop := S_DW_raiseBelow_c125 K_S_DW_raiseBelow_L48 x2 R t0_0 t0_1 t1_0 t2_0 t2_1 t3_0 t4_0 t4_1 t5_0 t6_0 t6_1 t7_0 t8_0 t8_1 t9_0 p60 p105 lx132 lx133 lx134 lx135 lx136 lx137 lx138 lx139 lx140 lx141 lx142 lx143 lx144 p369 p397 p442 (p442.2.2.2.2.2.2.1 : Int32) (p442.2.2.2.2.2.2.2.1 : Int32) (p442.2.2.2.2.2.2.2.2 : (Nat → Int32)) (p442.1 : Int32) (p442.2.1 : Int32) (p442.2.2.1 : (Nat → Int32)) (p442.2.2.2.1 : Int32) (p442.2.2.2.2.1 : Int32) (p442.2.2.2.2.2.1 : (Nat → Int32)) ((F_Big_copy (220 : Int32) (220 : Int32) lx136 lx137 lx138 (p442.1 : Int32) (p442.2.1 : Int32) (p442.2.2.1 : (Nat → Int32))) : (Int32 × Int32 × (Nat → Int32)))
def S_DW_raiseBelow_c90 (K_S_DW_raiseBelow_L48 : Int32 → Int32 → Int32 → (Nat → Int32) → Int32 → Int32 → (Nat → Int32) → Int32 → Int32 → (Nat → Int32) → Int32 → Int32 → (Nat → Int32) → Prop) (x2 : Int32) (R : Int32) (t0_0 : Int32) (t0_1 : Int32) (t1_0 : (Nat → Int32)) (t2_0 : Int32) (t2_1 : Int32) (t3_0 : (Nat → Int32)) (t4_0 : Int32) (t4_1 : Int32) (t5_0 : (Nat → Int32)) (t6_0 : Int32) (t6_1 : Int32) (t7_0 : (Nat → Int32)) (t8_0 : Int32) (t8_1 : Int32) (t9_0 : (Nat → Int32)) (p60 : (Int32 × Int32 × (Nat → Int32))) (p105 : (Int32 × Int32 × (Nat → Int32) × Int32 × Int32 × (Nat → Int32) × Int32 × Int32 × (Nat → Int32))) (lx132 : Int32) (lx133 : Int32) (lx134 : Int32) (lx135 : (Nat → Int32)) (lx136 : Int32) (lx137 : Int32) (lx138 : (Nat → Int32)) (lx139 : Int32) (lx140 : Int32) (lx141 : (Nat → Int32)) (lx142 : Int32) (lx143 : Int32) (lx144 : (Nat → Int32)) (p369 : (Int32 × Int32 × (Nat → Int32))) (p397 : (Int32 × Int32 × (Nat → Int32))) : Prop := (True ∧ S_Big_divideBy (220 : Int32) R (220 : Int32) (p397.1 : Int32) (p397.2.1 : Int32) (p397.2.2 : (Nat → Int32)) lx142 lx143 lx144 lx133 lx134 lx135) ∧ (S_DW_raiseBelow_c108 K_S_DW_raiseBelow_L48 x2 R t0_0 t0_1 t1_0 t2_0 t2_1 t3_0 t4_0 t4_1 t5_0 t6_0 t6_1 t7_0 t8_0 t8_1 t9_0 p60 p105 lx132 lx133 lx134 lx135 lx136 lx137 lx138 lx139 lx140 lx141 lx142 lx143 lx144 p369 p397 ((F_Big_divideBy (220 : Int32) R (220 : Int32) (p397.1 : Int32) (p397.2.1 : Int32) (p397.2.2 : (Nat → Int32)) lx142 lx143 lx144 lx133 lx134 lx135) : (Int32 × Int32 × (Nat → Int32) × Int32 × Int32 × (Nat → Int32) × Int32 × Int32 × (Nat → Int32))))
def S_DW_raiseBelow_c74 (K_S_DW_raiseBelow_L48 : Int32 → Int32 → Int32 → (Nat → Int32) → Int32 → Int32 → (Nat → Int32) → Int32 → Int32 → (Nat → Int32) → Int32 → Int32 → (Nat → Int32) → Prop) (x2 : Int32) (R : Int32) (t0_0 : Int32) (t0_1 : Int32) (t1_0 : (Nat → Int32)) (t2_0 : Int32) (t2_1 : Int32) (t3_0 : (Nat → Int32)) (t4_0 : Int32) (t4_1 : Int32) (t5_0 : (Nat → Int32)) (t6_0 : Int32) (t6_1 : Int32) (t7_0 : (Nat → Int32)) (t8_0 : Int32) (t8_1 : Int32) (t9_0 : (Nat → Int32)) (p60 : (Int32 × Int32 × (Nat → Int32))) (p105 : (Int32 × Int32 × (Nat → Int32) × Int32 × Int32 × (Nat → Int32) × Int32 × Int32 × (Nat → Int32))) (lx132 : Int32) (lx133 : Int32) (lx134 : Int32) (lx135 : (Nat → Int32)) (lx136 : Int32) (lx137 : Int32) (lx138 : (Nat → Int32)) (lx139 : Int32) (lx140 : Int32) (lx141 : (Nat → Int32)) (lx142 : Int32) (lx143 : Int32) (lx144 : (Nat → Int32)) (p369 : (Int32 × Int32 × (Nat → Int32))) : Prop := S_DW_raiseBelow_c90 K_S_DW_raiseBelow_L48 x2 R t0_0 t0_1 t1_0 t2_0 t2_1 t3_0 t4_0 t4_1 t5_0 t6_0 t6_1 t7_0 t8_0 t8_1 t9_0 p60 p105 lx132 lx133 lx134 lx135 lx136 lx137 lx138 lx139 lx140 lx141 lx142 lx143 lx144 p369 ((F_Big_timesTen (220 : Int32) (((x2.toUInt32 >>> (lx132.toUInt32 &&& Int32.toUInt32 31)).toInt32 : Int32) &&& 1 : Int32) (p369.1 : Int32) (p369.2.1 : Int32) (p369.2.2 : (Nat → Int32))) : (Int32 × Int32 × (Nat → Int32)))
def S_DW_raiseBelow_L48 (x2 : Int32) (R : Int32) (t0_0 : Int32) (t0_1 : Int32) (t1_0 : (Nat → Int32)) (t2_0 : Int32) (t2_1 : Int32) (t3_0 : (Nat → Int32)) (t4_0 : Int32) (t4_1 : Int32) (t5_0 : (Nat → Int32)) (t6_0 : Int32) (t6_1 : Int32) (t7_0 : (Nat → Int32)) (t8_0 : Int32) (t8_1 : Int32) (t9_0 : (Nat → Int32)) (p60 : (Int32 × Int32 × (Nat → Int32))) (p105 : (Int32 × Int32 × (Nat → Int32) × Int32 × Int32 × (Nat → Int32) × Int32 × Int32 × (Nat → Int32))) : Nat → Int32 → Int32 → Int32 → (Nat → Int32) → Int32 → Int32 → (Nat → Int32) → Int32 → Int32 → (Nat → Int32) → Int32 → Int32 → (Nat → Int32) → Prop
  | 0, _, _, _, _, _, _, _, _, _, _, _, _, _ => False
  | fm + 1, lx132, lx133, lx134, lx135, lx136, lx137, lx138, lx139, lx140, lx141, lx142, lx143, lx144 => if lx132 < (0 : Int32) then ((True ∧ S_Big_divideBy (220 : Int32) R (220 : Int32) t0_0 t0_1 t1_0 lx142 lx143 lx144 lx133 lx134 lx135) ∧ (S_DW_raiseBelow_c149 (S_DW_raiseBelow_L48 x2 R t0_0 t0_1 t1_0 t2_0 t2_1 t3_0 t4_0 t4_1 t5_0 t6_0 t6_1 t7_0 t8_0 t8_1 t9_0 p60 p105 fm) x2 R t0_0 t0_1 t1_0 t2_0 t2_1 t3_0 t4_0 t4_1 t5_0 t6_0 t6_1 t7_0 t8_0 t8_1 t9_0 p60 p105 lx132 lx133 lx134 lx135 lx136 lx137 lx138 lx139 lx140 lx141 lx142 lx143 lx144 ((F_Big_divideBy (220 : Int32) R (220 : Int32) t0_0 t0_1 t1_0 lx142 lx143 lx144 lx133 lx134 lx135) : (Int32 × Int32 × (Nat → Int32) × Int32 × Int32 × (Nat → Int32) × Int32 × Int32 × (Nat → Int32))))) else (S_DW_raiseBelow_c74 (S_DW_raiseBelow_L48 x2 R t0_0 t0_1 t1_0 t2_0 t2_1 t3_0 t4_0 t4_1 t5_0 t6_0 t6_1 t7_0 t8_0 t8_1 t9_0 p60 p105 fm) x2 R t0_0 t0_1 t1_0 t2_0 t2_1 t3_0 t4_0 t4_1 t5_0 t6_0 t6_1 t7_0 t8_0 t8_1 t9_0 p60 p105 lx132 lx133 lx134 lx135 lx136 lx137 lx138 lx139 lx140 lx141 lx142 lx143 lx144 ((F_Big_product (220 : Int32) (220 : Int32) (220 : Int32) lx139 lx140 lx141 lx136 lx137 lx138 lx136 lx137 lx138) : (Int32 × Int32 × (Nat → Int32))))
def S_DW_raiseBelow_c37 (x2 : Int32) (R : Int32) (t0_0 : Int32) (t0_1 : Int32) (t1_0 : (Nat → Int32)) (t2_0 : Int32) (t2_1 : Int32) (t3_0 : (Nat → Int32)) (t4_0 : Int32) (t4_1 : Int32) (t5_0 : (Nat → Int32)) (t6_0 : Int32) (t6_1 : Int32) (t7_0 : (Nat → Int32)) (t8_0 : Int32) (t8_1 : Int32) (t9_0 : (Nat → Int32)) (p60 : (Int32 × Int32 × (Nat → Int32))) (p105 : (Int32 × Int32 × (Nat → Int32) × Int32 × Int32 × (Nat → Int32) × Int32 × Int32 × (Nat → Int32))) : Prop := S_DW_raiseBelow_L48 x2 R t0_0 t0_1 t1_0 t2_0 t2_1 t3_0 t4_0 t4_1 t5_0 t6_0 t6_1 t7_0 t8_0 t8_1 t9_0 p60 p105 (((((F_Big_bitsOf x2) : Int32) - 1 : Int32).toInt - ((-1))).toNat + 1) (((F_Big_bitsOf x2) : Int32) - 1 : Int32) (p105.2.2.2.2.2.2.1 : Int32) (p105.2.2.2.2.2.2.2.1 : Int32) (p105.2.2.2.2.2.2.2.2 : (Nat → Int32)) (p105.1 : Int32) (p105.2.1 : Int32) (p105.2.2.1 : (Nat → Int32)) t6_0 t6_1 t7_0 (p105.2.2.2.1 : Int32) (p105.2.2.2.2.1 : Int32) (p105.2.2.2.2.2.1 : (Nat → Int32))
def S_DW_raiseBelow_c19 (x2 : Int32) (R : Int32) (t0_0 : Int32) (t0_1 : Int32) (t1_0 : (Nat → Int32)) (t2_0 : Int32) (t2_1 : Int32) (t3_0 : (Nat → Int32)) (t4_0 : Int32) (t4_1 : Int32) (t5_0 : (Nat → Int32)) (t6_0 : Int32) (t6_1 : Int32) (t7_0 : (Nat → Int32)) (t8_0 : Int32) (t8_1 : Int32) (t9_0 : (Nat → Int32)) (p60 : (Int32 × Int32 × (Nat → Int32))) : Prop := (True ∧ S_Big_divideBy (220 : Int32) R (220 : Int32) (p60.1 : Int32) (p60.2.1 : Int32) (p60.2.2 : (Nat → Int32)) t8_0 t8_1 t9_0 t2_0 t2_1 t3_0) ∧ (S_DW_raiseBelow_c37 x2 R t0_0 t0_1 t1_0 t2_0 t2_1 t3_0 t4_0 t4_1 t5_0 t6_0 t6_1 t7_0 t8_0 t8_1 t9_0 p60 ((F_Big_divideBy (220 : Int32) R (220 : Int32) (p60.1 : Int32) (p60.2.1 : Int32) (p60.2.2 : (Nat → Int32)) t8_0 t8_1 t9_0 t2_0 t2_1 t3_0) : (Int32 × Int32 × (Nat → Int32) × Int32 × Int32 × (Nat → Int32) × Int32 × Int32 × (Nat → Int32))))
def S_DW_raiseBelow (x2 : Int32) (R : Int32) (t0_0 : Int32) (t0_1 : Int32) (t1_0 : (Nat → Int32)) (t2_0 : Int32) (t2_1 : Int32) (t3_0 : (Nat → Int32)) (t4_0 : Int32) (t4_1 : Int32) (t5_0 : (Nat → Int32)) (t6_0 : Int32) (t6_1 : Int32) (t7_0 : (Nat → Int32)) (t8_0 : Int32) (t8_1 : Int32) (t9_0 : (Nat → Int32)) : Prop := S_DW_raiseBelow_c19 x2 R t0_0 t0_1 t1_0 t2_0 t2_1 t3_0 t4_0 t4_1 t5_0 t6_0 t6_1 t7_0 t8_0 t8_1 t9_0 ((F_Big_setLong (220 : Int32) (1 : Int64) t4_0 t4_1 t5_0) : (Int32 × Int32 × (Nat → Int32)))
set_option maxRecDepth 100000 in
set_option maxHeartbeats 4000000 in
theorem X_DW_raiseBelow (l : Launch) (D : va_G) (g : Nat → ClassId) (q : Nat → Nat) (ws : va_W) (k3 : Nat) (R : Int32) (hB3 : q_isBig (nsh g q) g q k3 R) (zk3 : (10 ≤ k3 ∧ k3 ≤ 32) ∨ 66 ≤ k3) (x2 : Int32) (ne_k3_10 : k3 ≠ 10) (ne_k3_11 : k3 ≠ 11) (ne_k3_9 : k3 ≠ 9) (ne_k3_12 : k3 ≠ 12) (ne_k3_13 : k3 ≠ 13) (ne_k3_11 : k3 ≠ 11) (ne_k3_22 : k3 ≠ 22) (ne_k3_23 : k3 ≠ 23) (ne_k3_21 : k3 ≠ 21) (ne_k3_24 : k3 ≠ 24) (ne_k3_25 : k3 ≠ 25) (ne_k3_23 : k3 ≠ 23) (ne_k3_30 : k3 ≠ 30) (ne_k3_29 : k3 ≠ 29) (hI : q_I (nsh g q) q ws) (t0_0 : Int32) (t0_1 : Int32) (hT0 : ws[10]? = (some (q 10, .inr (2, [.ref (q 11), .int t0_0, .int t0_1])) : Option (Nat × va_E))) (t1_0 : (Nat → Int32)) (hT1 : ws[11]? = (some (q 11, .inl (g 0, (220 : Int32).toNatClampNeg, .inl t1_0)) : Option (Nat × va_E))) (t2_0 : Int32) (t2_1 : Int32) (hT2 : ws[12]? = (some (q 12, .inr (2, [.ref (q 13), .int t2_0, .int t2_1])) : Option (Nat × va_E))) (t3_0 : (Nat → Int32)) (hT3 : ws[13]? = (some (q 13, .inl (g 0, (220 : Int32).toNatClampNeg, .inl t3_0)) : Option (Nat × va_E))) (t4_0 : Int32) (t4_1 : Int32) (hT4 : ws[22]? = (some (q 22, .inr (2, [.ref (q 23), .int t4_0, .int t4_1])) : Option (Nat × va_E))) (t5_0 : (Nat → Int32)) (hT5 : ws[23]? = (some (q 23, .inl (g 0, (220 : Int32).toNatClampNeg, .inl t5_0)) : Option (Nat × va_E))) (t6_0 : Int32) (t6_1 : Int32) (hT6 : ws[24]? = (some (q 24, .inr (2, [.ref (q 25), .int t6_0, .int t6_1])) : Option (Nat × va_E))) (t7_0 : (Nat → Int32)) (hT7 : ws[25]? = (some (q 25, .inl (g 0, (220 : Int32).toNatClampNeg, .inl t7_0)) : Option (Nat × va_E))) (t8_0 : Int32) (t8_1 : Int32) (hT8 : ws[k3]? = (some (q k3, .inr (2, [.ref (q (k3 + 1)), .int t8_0, .int t8_1])) : Option (Nat × va_E))) (t9_0 : (Nat → Int32)) (hT9 : ws[k3 + 1]? = (some (q (k3 + 1), .inl (g 0, R.toNatClampNeg, .inl t9_0)) : Option (Nat × va_E))) (hS : True ∧ S_DW_raiseBelow x2 R t0_0 t0_1 t1_0 t2_0 t2_1 t3_0 t4_0 t4_1 t5_0 t6_0 t6_1 t7_0 t8_0 t8_1 t9_0) : q_mV l y_DW_raiseBelow prog_4_method_8_code 5 5 0 0 D g [.ref (q 30), .int x2, .ref (q k3)] ws (fun u => q_I (nsh g q) q u ∧ q_un ws u [10, 11, 12, 13, 22, 23, 24, 25, k3, k3 + 1] ∧ ∃ (u0_0 : Int32) (u0_1 : Int32) (u1_0 : (Nat → Int32)) (u2_0 : Int32) (u2_1 : Int32) (u3_0 : (Nat → Int32)) (u4_0 : Int32) (u4_1 : Int32) (u5_0 : (Nat → Int32)) (u6_0 : Int32) (u6_1 : Int32) (u7_0 : (Nat → Int32)) (u8_0 : Int32) (u8_1 : Int32) (u9_0 : (Nat → Int32)), u[10]? = (some (q 10, .inr (2, [.ref (q 11), .int u0_0, .int u0_1])) : Option (Nat × va_E)) ∧ u[11]? = (some (q 11, .inl (g 0, (220 : Int32).toNatClampNeg, .inl u1_0)) : Option (Nat × va_E)) ∧ u[12]? = (some (q 12, .inr (2, [.ref (q 13), .int u2_0, .int u2_1])) : Option (Nat × va_E)) ∧ u[13]? = (some (q 13, .inl (g 0, (220 : Int32).toNatClampNeg, .inl u3_0)) : Option (Nat × va_E)) ∧ u[22]? = (some (q 22, .inr (2, [.ref (q 23), .int u4_0, .int u4_1])) : Option (Nat × va_E)) ∧ u[23]? = (some (q 23, .inl (g 0, (220 : Int32).toNatClampNeg, .inl u5_0)) : Option (Nat × va_E)) ∧ u[24]? = (some (q 24, .inr (2, [.ref (q 25), .int u6_0, .int u6_1])) : Option (Nat × va_E)) ∧ u[25]? = (some (q 25, .inl (g 0, (220 : Int32).toNatClampNeg, .inl u7_0)) : Option (Nat × va_E)) ∧ u[k3]? = (some (q k3, .inr (2, [.ref (q (k3 + 1)), .int u8_0, .int u8_1])) : Option (Nat × va_E)) ∧ u[k3 + 1]? = (some (q (k3 + 1), .inl (g 0, R.toNatClampNeg, .inl u9_0)) : Option (Nat × va_E)) ∧ (0 ≤ u2_1.toInt) ∧ (u2_1.toInt ≤ 0) ∧ (u0_1.toInt ≤ t0_1.toInt) ∧ (u2_0.toInt ≤ R.toInt + 219) ∧ (u8_0.toInt ≤ R.toInt) ∧ (u8_1.toInt ≤ t8_1.toInt) ∧ (u2_1.toInt ≤ u0_0.toInt) ∧ (u0_0.toInt ≤ u6_0.toInt) ∧ (u2_1.toInt ≤ u0_1.toInt) ∧ (u0_1.toInt ≤ u6_0.toInt) ∧ (u2_1.toInt ≤ u2_0.toInt) ∧ (u2_0.toInt ≤ u2_1.toInt + 220) ∧ (u4_0.toInt ≤ u2_1.toInt + 220) ∧ (u2_1.toInt ≤ u4_0.toInt) ∧ (u2_1.toInt ≤ u4_1.toInt) ∧ (u6_0.toInt ≤ u2_1.toInt + 220) ∧ (u6_1.toInt ≤ u2_1.toInt + 1) ∧ (u2_1.toInt ≤ u6_1.toInt) ∧ (u2_1.toInt ≤ u8_0.toInt) ∧ (u2_1.toInt ≤ u8_1.toInt) ∧ (u0_0, u0_1, u1_0, u2_0, u2_1, u3_0, u4_0, u4_1, u5_0, u6_0, u6_1, u7_0, u8_0, u8_1, u9_0) = (F_DW_raiseBelow x2 R t0_0 t0_1 t1_0 t2_0 t2_1 t3_0 t4_0 t4_1 t5_0 t6_0 t6_1 t7_0 t8_0 t8_1 t9_0)) := by
  intro sz
  refine q_into (by decide) (Nat.le_of_ble_eq_true rfl) ?_
  intro p e s m below meth c ls hsz C0 V hl
  have hx := C0.1
  have hb := C0.2.1
  have hfk30 : q_F (0 ≤ R.toInt ∧ R.toInt ≤ 220) := hB3.2.2
  have btt0_1 := (q_bigW hI (n_b10 g q) hT0).2
  replace btt0_1 : q_F (0 ≤ t0_1.toInt ∧ t0_1.toInt ≤ 1) := btt0_1
  have btt2_1 := (q_bigW hI (n_b12 g q) hT2).2
  clear btt2_1
  have btt4_1 := (q_bigW hI (n_b22 g q) hT4).2
  clear btt4_1
  obtain ⟨btt6_0, btt6_1⟩ := q_bigW hI (n_b24 g q) hT6
  replace btt6_0 : q_F (0 ≤ t6_0.toInt ∧ t6_0.toInt ≤ 220) := btt6_0
  replace btt6_1 : q_F (0 ≤ t6_1.toInt ∧ t6_1.toInt ≤ 1) := btt6_1
  have btt8_1 := (q_bigW hI hB3 hT8).2
  replace btt8_1 : q_F (0 ≤ t8_1.toInt ∧ t8_1.toInt ≤ 1) := btt8_1
  have hF : q_un ws ws [10, 11, 12, 13, 22, 23, 24, 25, k3, k3 + 1] := q_u0
  have hl : lv_has ls 5 [(0, .ref (q 30)), (1, .int x2), (2, .ref (q k3))] := hl
  refine lv_aload_n hx hb d_4_8_0 rfl (lv_at hl 0 rfl) ?_
  obtain ⟨y42, y43, hO41, b44⟩ := n_o30 hI
  clear b44
  refine q_get (ci := 5) (j := 2) (v := .ref (q 9)) C0 V i_DW rfl rfl hO41 (by decide) w_214 rfl d_4_8_1 ?_
  have hO45 := n_o9 hI
  refine q_get (ci := 4) (j := 0) (v := .ref (q 10)) C0 V i_Mil rfl rfl hO45 (by decide) w_111 rfl d_4_8_4 ?_
  refine q_get (ci := 2) (j := 2) (v := .int t0_1) C0 V i_Big rfl rfl hT0 (by decide) w_97 rfl d_4_8_7 ?_
  refine lv_istore_n (lv' := [(3, .int t0_1), (0, .ref (q 30)), (1, .int x2), (2, .ref (q k3))]) hx hb d_4_8_10 rfl hl (by decide) rfl (fun ls hl => ?_)
  refine lv_aload_n hx hb d_4_8_11 rfl (lv_at hl 1 rfl) ?_
  refine q_get (ci := 5) (j := 2) (v := .ref (q 9)) C0 V i_DW rfl rfl hO41 (by decide) w_214 rfl d_4_8_12 ?_
  refine q_get (ci := 4) (j := 6) (v := .ref (q 22)) C0 V i_Mil rfl rfl hO45 (by decide) w_126 rfl d_4_8_15 ?_
  refine lv_lconst (v := 1) hx hb d_4_8_18 (by decide) ?_
  refine q_gov V (q_runV (As := [.long 1]) (rest := []) (d := 2) (mc := 0) (ms := 0) (ci := 2) C0 V rfl LV_DW_28 (X_Big_setLong l D g q ws 22 220 (n_b22 g q) (by decide) 1 hI t4_0 t4_1 hT4 t5_0 hT5  _) rfl rfl hT4 rfl hl.1 rfl (Nat.le_of_ble_eq_true rfl) ⟨by decide, by decide⟩ ⟨Nat.le_of_ble_eq_true rfl, Nat.le_of_ble_eq_true rfl⟩ d_4_8_19) (fun u46 H locs hp47 V => ?_)
  obtain ⟨hI, hZ9⟩ := hp47
  obtain ⟨hu59, hZ9⟩ := hZ9
  obtain ⟨y49, hZ9⟩ := hZ9
  obtain ⟨y50, hZ9⟩ := hZ9
  obtain ⟨f51, hZ9⟩ := hZ9
  obtain ⟨hO48, hZ9⟩ := hZ9
  obtain ⟨hA52, hZ9⟩ := hZ9
  replace hZ9 := hZ9.2.2.2
  obtain ⟨b56, hZ9⟩ := hZ9
  obtain ⟨-, hE58⟩ := hZ9
  replace hO48 : u46[22]? = (some (q 22, .inr (2, [.ref (q 23), .int y49, .int y50])) : Option (Nat × va_E)) := hO48
  replace hA52 : u46[23]? = (some (q 23, .inl (g 0, (220 : Int32).toNatClampNeg, .inl f51)) : Option (Nat × va_E)) := hA52
  obtain ⟨p60, e61⟩ : ∃ z, z = (F_Big_setLong (220 : Int32) (1 : Int64) t4_0 t4_1 t5_0) := ⟨_, rfl⟩
  have e62 : y49 = p60.1 := congrArg (fun z => z.1) (hE58.trans e61.symm)
  have e63 : y50 = p60.2.1 := congrArg (fun z => z.2.1) (hE58.trans e61.symm)
  have e64 : f51 = p60.2.2 := congrArg (fun z => z.2.2) (hE58.trans e61.symm)
  replace b56 : q_F (y50.toInt ≤ 1) := b56
  replace hT0 := (hu59 _ (by decide)).trans hT0
  replace hT1 := (hu59 _ (by decide)).trans hT1
  replace hT2 := (hu59 _ (by decide)).trans hT2
  replace hT3 := (hu59 _ (by decide)).trans hT3
  replace hT6 := (hu59 _ (by decide)).trans hT6
  replace hT7 := (hu59 _ (by decide)).trans hT7
  replace hT8 := (hu59 _ (by first | exact (q_nc ne_k3_22 (q_nc ne_k3_23 List.not_mem_nil)) | (have z0 := zk3; simp only [List.mem_cons, List.not_mem_nil, or_false, not_or]; omega))).trans hT8
  replace hT9 := (hu59 _ (by first | exact (q_nc (q_nt1 ne_k3_21) (q_nc (q_nt1 ne_k3_22) List.not_mem_nil)) | (have z0 := zk3; simp only [List.mem_cons, List.not_mem_nil, or_false, not_or]; omega))).trans hT9
  replace hO41 := (hu59 _ (by decide)).trans hO41
  replace hO45 := (hu59 _ (by decide)).trans hO45
  replace hF := q_uc hF hu59 (by first | exact (q_sk (q_mi 4 rfl) (q_sk (q_mi 5 rfl) q_s0)) | simp)
  have hR65 := (show F_DW_raiseBelow_c19 x2 R t0_0 t0_1 t1_0 t2_0 t2_1 t3_0 t4_0 t4_1 t5_0 t6_0 t6_1 t7_0 t8_0 t8_1 t9_0 p60 = (F_DW_raiseBelow x2 R t0_0 t0_1 t1_0 t2_0 t2_1 t3_0 t4_0 t4_1 t5_0 t6_0 t6_1 t7_0 t8_0 t8_1 t9_0) from (by rw [e61, F_DW_raiseBelow.eq_1]))
  have hS66 := (show True ∧ S_DW_raiseBelow_c19 x2 R t0_0 t0_1 t1_0 t2_0 t2_1 t3_0 t4_0 t4_1 t5_0 t6_0 t6_1 t7_0 t8_0 t8_1 t9_0 p60 from (by rw [e61]; have h := hS; rw [S_DW_raiseBelow.eq_1] at h; with_reducible exact h))
  refine lv_aload_n hx hb d_4_8_22 rfl (lv_at hl 1 rfl) ?_
  refine q_get (ci := 5) (j := 2) (v := .ref (q 9)) C0 V i_DW rfl rfl hO41 (by decide) w_214 rfl d_4_8_23 ?_
  refine q_get (ci := 4) (j := 6) (v := .ref (q 22)) C0 V i_Mil rfl rfl hO45 (by decide) w_126 rfl d_4_8_26 ?_
  refine lv_aload_n hx hb d_4_8_29 rfl (lv_at hl 3 rfl) ?_
  refine lv_aload_n hx hb d_4_8_30 rfl (lv_at hl 1 rfl) ?_
  refine q_get (ci := 5) (j := 2) (v := .ref (q 9)) C0 V i_DW rfl rfl hO41 (by decide) w_214 rfl d_4_8_31 ?_
  refine q_get (ci := 4) (j := 1) (v := .ref (q 12)) C0 V i_Mil rfl rfl hO45 (by decide) w_115 rfl d_4_8_34 ?_
  have ob70 : True ∧ S_Big_divideBy (220 : Int32) R (220 : Int32) y49 y50 f51 t8_0 t8_1 t9_0 t2_0 t2_1 t3_0 := (by rw [e64, e63, e62]; have h := hS66; rw [S_DW_raiseBelow_c19.eq_1] at h; with_reducible exact h.2.1)
  refine q_gov V (q_runV (As := [.ref (q k3), .ref (q 12)]) (rest := []) (d := 4) (mc := 0) (ms := 0) (ci := 2) C0 V rfl LV_DW_109 (X_Big_divideBy l D g q u46 22 220 (n_b22 g q) (by decide) k3 R hB3 zk3 12 220 (n_b12 g q) (by decide)  (by have z := ne_k3_22; omega) (by decide) (by have z := ne_k3_12; omega) hI y49 y50 hO48 f51 hA52 t8_0 t8_1 hT8 t9_0 hT9 t2_0 t2_1 hT2 t3_0 hT3 ob70 _) rfl rfl hO48 rfl hl.1 rfl (Nat.le_of_ble_eq_true rfl) ⟨by decide, by decide⟩ ⟨Nat.le_of_ble_eq_true rfl, Nat.le_of_ble_eq_true rfl⟩ d_4_8_37) (fun u71 H locs hp72 V => ?_)
  obtain ⟨hI, hZ9⟩ := hp72
  obtain ⟨hu104, hZ9⟩ := hZ9
  obtain ⟨y74, hZ9⟩ := hZ9
  obtain ⟨y75, hZ9⟩ := hZ9
  obtain ⟨f76, hZ9⟩ := hZ9
  obtain ⟨y79, hZ9⟩ := hZ9
  obtain ⟨y80, hZ9⟩ := hZ9
  obtain ⟨f81, hZ9⟩ := hZ9
  obtain ⟨y84, hZ9⟩ := hZ9
  obtain ⟨y85, hZ9⟩ := hZ9
  obtain ⟨f86, hZ9⟩ := hZ9
  obtain ⟨hO73, hZ9⟩ := hZ9
  obtain ⟨hA77, hZ9⟩ := hZ9
  obtain ⟨hO78, hZ9⟩ := hZ9
  obtain ⟨hA82, hZ9⟩ := hZ9
  obtain ⟨hO83, hZ9⟩ := hZ9
  obtain ⟨hA87, hZ9⟩ := hZ9
  obtain ⟨b88, hZ9⟩ := hZ9
  obtain ⟨b89, hZ9⟩ := hZ9
  obtain ⟨b90, hZ9⟩ := hZ9
  obtain ⟨b91, hZ9⟩ := hZ9
  replace hZ9 := hZ9.2
  obtain ⟨b93, hZ9⟩ := hZ9
  obtain ⟨b94, hZ9⟩ := hZ9
  replace hZ9 := hZ9.2.2
  obtain ⟨b97, hZ9⟩ := hZ9
  obtain ⟨b98, hZ9⟩ := hZ9
  obtain ⟨b99, hZ9⟩ := hZ9
  obtain ⟨b100, hZ9⟩ := hZ9
  obtain ⟨b101, hZ9⟩ := hZ9
  obtain ⟨b102, hE103⟩ := hZ9
  replace hO73 : u71[22]? = (some (q 22, .inr (2, [.ref (q 23), .int y74, .int y75])) : Option (Nat × va_E)) := hO73
  replace hA77 : u71[23]? = (some (q 23, .inl (g 0, (220 : Int32).toNatClampNeg, .inl f76)) : Option (Nat × va_E)) := hA77
  replace hO78 : u71[k3]? = (some (q k3, .inr (2, [.ref (q (k3 + 1)), .int y79, .int y80])) : Option (Nat × va_E)) := hO78
  replace hA82 : u71[k3 + 1]? = (some (q (k3 + 1), .inl (g 0, R.toNatClampNeg, .inl f81)) : Option (Nat × va_E)) := hA82
  replace hO83 : u71[12]? = (some (q 12, .inr (2, [.ref (q 13), .int y84, .int y85])) : Option (Nat × va_E)) := hO83
  replace hA87 : u71[13]? = (some (q 13, .inl (g 0, (220 : Int32).toNatClampNeg, .inl f86)) : Option (Nat × va_E)) := hA87
  obtain ⟨p105, e106⟩ : ∃ z, z = (F_Big_divideBy (220 : Int32) R (220 : Int32) y49 y50 f51 t8_0 t8_1 t9_0 t2_0 t2_1 t3_0) := ⟨_, rfl⟩
  have e107 : y74 = p105.1 := congrArg (fun z => z.1) (hE103.trans e106.symm)
  have e108 : y75 = p105.2.1 := congrArg (fun z => z.2.1) (hE103.trans e106.symm)
  have e109 : f76 = p105.2.2.1 := congrArg (fun z => z.2.2.1) (hE103.trans e106.symm)
  have e110 : y79 = p105.2.2.2.1 := congrArg (fun z => z.2.2.2.1) (hE103.trans e106.symm)
  have e111 : y80 = p105.2.2.2.2.1 := congrArg (fun z => z.2.2.2.2.1) (hE103.trans e106.symm)
  have e112 : f81 = p105.2.2.2.2.2.1 := congrArg (fun z => z.2.2.2.2.2.1) (hE103.trans e106.symm)
  have e113 : y84 = p105.2.2.2.2.2.2.1 := congrArg (fun z => z.2.2.2.2.2.2.1) (hE103.trans e106.symm)
  have e114 : y85 = p105.2.2.2.2.2.2.2.1 := congrArg (fun z => z.2.2.2.2.2.2.2.1) (hE103.trans e106.symm)
  have e115 : f86 = p105.2.2.2.2.2.2.2.2 := congrArg (fun z => z.2.2.2.2.2.2.2.2) (hE103.trans e106.symm)
  replace b88 : q_F (0 ≤ y85.toInt) := b88
  replace b89 : q_F (y85.toInt ≤ 0) := b89
  replace b90 : q_F (y74.toInt ≤ 220) := b90
  replace b91 : q_F (y75.toInt ≤ y50.toInt) := b91
  replace b93 : q_F (y79.toInt ≤ R.toInt) := b93
  replace b94 : q_F (y80.toInt ≤ t8_1.toInt) := b94
  replace b97 : q_F (y84.toInt ≤ 220) := b97
  replace b98 : q_F (y85.toInt ≤ y74.toInt) := b98
  replace b99 : q_F (y85.toInt ≤ y75.toInt) := b99
  replace b100 : q_F (y85.toInt ≤ y79.toInt) := b100
  replace b101 : q_F (y85.toInt ≤ y80.toInt) := b101
  replace b102 : q_F (y85.toInt ≤ y84.toInt) := b102
  replace hT0 := (hu104 _ (by first | exact (q_nc (Nat.ne_of_beq_eq_false rfl) (q_nc (Nat.ne_of_beq_eq_false rfl) (q_nc (Ne.symm ne_k3_10) (q_nc (q_ns1 ne_k3_9) (q_nc (Nat.ne_of_beq_eq_false rfl) (q_nc (Nat.ne_of_beq_eq_false rfl) List.not_mem_nil)))))) | (have z0 := zk3; simp only [List.mem_cons, List.not_mem_nil, or_false, not_or]; omega))).trans hT0
  replace hT1 := (hu104 _ (by first | exact (q_nc (Nat.ne_of_beq_eq_false rfl) (q_nc (Nat.ne_of_beq_eq_false rfl) (q_nc (Ne.symm ne_k3_11) (q_nc (q_ns1 ne_k3_10) (q_nc (Nat.ne_of_beq_eq_false rfl) (q_nc (Nat.ne_of_beq_eq_false rfl) List.not_mem_nil)))))) | (have z0 := zk3; simp only [List.mem_cons, List.not_mem_nil, or_false, not_or]; omega))).trans hT1
  replace hT6 := (hu104 _ (by first | exact (q_nc (Nat.ne_of_beq_eq_false rfl) (q_nc (Nat.ne_of_beq_eq_false rfl) (q_nc (Ne.symm ne_k3_24) (q_nc (q_ns1 ne_k3_23) (q_nc (Nat.ne_of_beq_eq_false rfl) (q_nc (Nat.ne_of_beq_eq_false rfl) List.not_mem_nil)))))) | (have z0 := zk3; simp only [List.mem_cons, List.not_mem_nil, or_false, not_or]; omega))).trans hT6
  replace hT7 := (hu104 _ (by first | exact (q_nc (Nat.ne_of_beq_eq_false rfl) (q_nc (Nat.ne_of_beq_eq_false rfl) (q_nc (Ne.symm ne_k3_25) (q_nc (q_ns1 ne_k3_24) (q_nc (Nat.ne_of_beq_eq_false rfl) (q_nc (Nat.ne_of_beq_eq_false rfl) List.not_mem_nil)))))) | (have z0 := zk3; simp only [List.mem_cons, List.not_mem_nil, or_false, not_or]; omega))).trans hT7
  replace hF := q_uc hF hu104 (by first | exact (q_sk (q_mi 4 rfl) (q_sk (q_mi 5 rfl) (q_sk (q_mi 8 rfl) (q_sk (q_mi 9 rfl) (q_sk (q_mi 2 rfl) (q_sk (q_mi 3 rfl) q_s0)))))) | simp)
  have hR116 := (show F_DW_raiseBelow_c37 x2 R t0_0 t0_1 t1_0 t2_0 t2_1 t3_0 t4_0 t4_1 t5_0 t6_0 t6_1 t7_0 t8_0 t8_1 t9_0 p60 p105 = (F_DW_raiseBelow x2 R t0_0 t0_1 t1_0 t2_0 t2_1 t3_0 t4_0 t4_1 t5_0 t6_0 t6_1 t7_0 t8_0 t8_1 t9_0) from Eq.trans (by rw [e106, e64, e63, e62, F_DW_raiseBelow_c19.eq_1]) hR65)
  have hS117 := (show True ∧ S_DW_raiseBelow_c37 x2 R t0_0 t0_1 t1_0 t2_0 t2_1 t3_0 t4_0 t4_1 t5_0 t6_0 t6_1 t7_0 t8_0 t8_1 t9_0 p60 p105 from (by rw [e106, e64, e63, e62]; have h := hS66; rw [S_DW_raiseBelow_c19.eq_1] at h; replace h := q_s2 h; with_reducible exact h))
  refine lv_iload_n hx hb d_4_8_40 rfl (lv_at hl 2 rfl) ?_
  refine q_goi V (q_runS (As := [.int x2]) (rest := []) (d := 2) (mc := 0) (ms := 0) C0 V rfl LS_DW_116 (X_Big_bitsOf l D g q u71  x2 hI   _) rfl hl.1 rfl (Nat.le_of_ble_eq_true rfl) ⟨by decide, by decide⟩ ⟨Nat.le_of_ble_eq_true rfl, Nat.le_of_ble_eq_true rfl⟩ d_4_8_41) (fun a123 u121 H locs hp122 V => ?_)
  obtain ⟨rfl, b124, b125, hE126⟩ := hp122
  have e127 : a123 = (F_Big_bitsOf x2) := hE126
  replace b124 : q_F (0 ≤ a123.toInt) := b124
  replace b125 : q_F (a123.toInt ≤ 63) := b125
  refine lv_iconst (v := 1) hx hb d_4_8_44 (by decide) ?_
  refine lv_isub hx hb d_4_8_45 ?_
  obtain ⟨a128, e129⟩ := q_nm (a123 - 1 : Int32)
  refine q_ti (v := a128) e129 ?_
  have b130 : q_F (a128.toInt = a123.toInt - 1) := (by rw [← e129]; show (a123 - 1 : Int32).toInt = a123.toInt - 1; exact q_subI (x := a123.toInt) (y := 1) rfl (by decide) (by have t1 : 0 ≤ a123.toInt := b124; have t2 : a123.toInt ≤ 63 := b125; omega) (by have t1 : 0 ≤ a123.toInt := b124; have t2 : a123.toInt ≤ 63 := b125; omega))
  refine lv_istore (lv' := [(4, .int a128), (3, .int t0_1), (0, .ref (q 30)), (1, .int x2), (2, .ref (q k3))]) hx hb d_4_8_46 hl (by decide) rfl (fun ls hl => ?_)
  refine q_loop (X := Int32 × Int32 × Int32 × (Nat → Int32) × Int32 × Int32 × (Nat → Int32) × Int32 × Int32 × (Nat → Int32) × Int32 × Int32 × (Nat → Int32)) (fun z H locs ls w166 => q_F (0 ≤ z.1.toInt + 1) ∧ q_F (0 ≤ z.2.1.toInt) ∧ q_F (z.2.1.toInt ≤ 220) ∧ q_F (0 ≤ z.2.2.2.2.1.toInt) ∧ q_F (z.2.2.2.2.1.toInt ≤ 220) ∧ q_F (0 ≤ z.2.2.2.2.2.1.toInt) ∧ q_F (0 ≤ z.2.2.2.2.2.2.2.1.toInt) ∧ q_F (z.2.2.2.2.2.2.2.1.toInt ≤ 220) ∧ q_F (0 ≤ z.2.2.2.2.2.2.2.2.1.toInt) ∧ q_F (z.2.2.2.2.2.2.2.2.1.toInt ≤ 1) ∧ q_F (0 ≤ z.2.2.2.2.2.2.2.2.2.2.1.toInt) ∧ q_F (z.2.2.2.2.2.2.2.2.2.2.1.toInt ≤ 220) ∧ q_F (0 ≤ z.2.2.2.2.2.2.2.2.2.2.2.1.toInt) ∧ q_F (y85.toInt ≤ z.2.2.1.toInt) ∧ q_F (z.2.2.1.toInt ≤ y85.toInt) ∧ q_F (z.2.2.2.2.2.2.2.2.2.2.2.1.toInt ≤ y80.toInt) ∧ q_F (z.1.toInt + y75.toInt ≤ z.2.2.2.2.2.1.toInt + a128.toInt) ∧ q_F (z.1.toInt + z.2.2.2.2.2.2.2.2.1.toInt ≤ a128.toInt + t6_1.toInt) ∧ q_F (z.1.toInt + t6_1.toInt ≤ z.2.2.2.2.2.2.2.2.1.toInt + a128.toInt) ∧ q_F (z.1.toInt + y80.toInt ≤ z.2.2.2.2.2.2.2.2.2.2.2.1.toInt + a128.toInt) ∧ q_Wd D g (va_A ws sz) s w166 H locs ∧ lv_has ls 5 [(4, .int z.1), (3, .int t0_1), (0, .ref (q 30)), (1, .int x2), (2, .ref (q k3))] ∧ q_I (nsh g q) q w166 ∧ q_un ws w166 [10, 11, 12, 13, 22, 23, 24, 25, k3, k3 + 1] ∧ w166[10]? = (some (q 10, .inr (2, [.ref (q 11), .int t0_0, .int t0_1])) : Option (Nat × va_E)) ∧ w166[11]? = (some (q 11, .inl (g 0, (220 : Int32).toNatClampNeg, .inl t1_0)) : Option (Nat × va_E)) ∧ w166[12]? = (some (q 12, .inr (2, [.ref (q 13), .int z.2.1, .int z.2.2.1])) : Option (Nat × va_E)) ∧ w166[13]? = (some (q 13, .inl (g 0, (220 : Int32).toNatClampNeg, .inl z.2.2.2.1)) : Option (Nat × va_E)) ∧ w166[22]? = (some (q 22, .inr (2, [.ref (q 23), .int z.2.2.2.2.1, .int z.2.2.2.2.2.1])) : Option (Nat × va_E)) ∧ w166[23]? = (some (q 23, .inl (g 0, (220 : Int32).toNatClampNeg, .inl z.2.2.2.2.2.2.1)) : Option (Nat × va_E)) ∧ w166[24]? = (some (q 24, .inr (2, [.ref (q 25), .int z.2.2.2.2.2.2.2.1, .int z.2.2.2.2.2.2.2.2.1])) : Option (Nat × va_E)) ∧ w166[25]? = (some (q 25, .inl (g 0, (220 : Int32).toNatClampNeg, .inl z.2.2.2.2.2.2.2.2.2.1)) : Option (Nat × va_E)) ∧ w166[k3]? = (some (q k3, .inr (2, [.ref (q (k3 + 1)), .int z.2.2.2.2.2.2.2.2.2.2.1, .int z.2.2.2.2.2.2.2.2.2.2.2.1])) : Option (Nat × va_E)) ∧ w166[k3 + 1]? = (some (q (k3 + 1), .inl (g 0, R.toNatClampNeg, .inl z.2.2.2.2.2.2.2.2.2.2.2.2)) : Option (Nat × va_E)) ∧ (∃ n, (z.1.toInt - ((-1))).toNat < n ∧ F_DW_raiseBelow_L48 x2 R t0_0 t0_1 t1_0 t2_0 t2_1 t3_0 t4_0 t4_1 t5_0 t6_0 t6_1 t7_0 t8_0 t8_1 t9_0 p60 p105 n z.1 z.2.1 z.2.2.1 z.2.2.2.1 z.2.2.2.2.1 z.2.2.2.2.2.1 z.2.2.2.2.2.2.1 z.2.2.2.2.2.2.2.1 z.2.2.2.2.2.2.2.2.1 z.2.2.2.2.2.2.2.2.2.1 z.2.2.2.2.2.2.2.2.2.2.1 z.2.2.2.2.2.2.2.2.2.2.2.1 z.2.2.2.2.2.2.2.2.2.2.2.2 = (F_DW_raiseBelow x2 R t0_0 t0_1 t1_0 t2_0 t2_1 t3_0 t4_0 t4_1 t5_0 t6_0 t6_1 t7_0 t8_0 t8_1 t9_0) ∧ True ∧ S_DW_raiseBelow_L48 x2 R t0_0 t0_1 t1_0 t2_0 t2_1 t3_0 t4_0 t4_1 t5_0 t6_0 t6_1 t7_0 t8_0 t8_1 t9_0 p60 p105 n z.1 z.2.1 z.2.2.1 z.2.2.2.1 z.2.2.2.2.1 z.2.2.2.2.2.1 z.2.2.2.2.2.2.1 z.2.2.2.2.2.2.2.1 z.2.2.2.2.2.2.2.2.1 z.2.2.2.2.2.2.2.2.2.1 z.2.2.2.2.2.2.2.2.2.2.1 z.2.2.2.2.2.2.2.2.2.2.2.1 z.2.2.2.2.2.2.2.2.2.2.2.2)) (fun z => (z.1.toInt - ((-1))).toNat) ?_ ((a128 : Int32), (y84 : Int32), (y85 : Int32), (f86 : (Nat → Int32)), (y74 : Int32), (y75 : Int32), (f76 : (Nat → Int32)), (t6_0 : Int32), (t6_1 : Int32), (t7_0 : (Nat → Int32)), (y79 : Int32), (y80 : Int32), (f81 : (Nat → Int32))) _ _ _ u71 ⟨(show q_F (0 ≤ a128.toInt + 1) from (show 0 ≤ a128.toInt + 1 from by have t1 : 0 ≤ a123.toInt := b124; have t2 : a128.toInt = a123.toInt - 1 := b130; omega)), (show q_F (0 ≤ y84.toInt) from (show 0 ≤ y84.toInt from by have t1 : 0 ≤ y85.toInt := b88; have t2 : y85.toInt ≤ y84.toInt := b102; omega)), (show q_F (y84.toInt ≤ 220) from (show y84.toInt ≤ 220 from by have t1 : y84.toInt ≤ 220 := b97; omega)), (show q_F (0 ≤ y74.toInt) from (show 0 ≤ y74.toInt from by have t1 : 0 ≤ y85.toInt := b88; have t2 : y85.toInt ≤ y74.toInt := b98; omega)), (show q_F (y74.toInt ≤ 220) from (show y74.toInt ≤ 220 from by have t1 : y74.toInt ≤ 220 := b90; omega)), (show q_F (0 ≤ y75.toInt) from (show 0 ≤ y75.toInt from by have t1 : 0 ≤ y85.toInt := b88; have t2 : y85.toInt ≤ y75.toInt := b99; omega)), (show q_F (0 ≤ t6_0.toInt) from (show 0 ≤ t6_0.toInt from by have t1 : 0 ≤ t6_0.toInt ∧ t6_0.toInt ≤ 220 := btt6_0; omega)), (show q_F (t6_0.toInt ≤ 220) from (show t6_0.toInt ≤ 220 from by have t1 : 0 ≤ t6_0.toInt ∧ t6_0.toInt ≤ 220 := btt6_0; omega)), (show q_F (0 ≤ t6_1.toInt) from (show 0 ≤ t6_1.toInt from by have t1 : 0 ≤ t6_1.toInt ∧ t6_1.toInt ≤ 1 := btt6_1; omega)), (show q_F (t6_1.toInt ≤ 1) from (show t6_1.toInt ≤ 1 from by have t1 : 0 ≤ t6_1.toInt ∧ t6_1.toInt ≤ 1 := btt6_1; omega)), (show q_F (0 ≤ y79.toInt) from (show 0 ≤ y79.toInt from by have t1 : 0 ≤ y85.toInt := b88; have t2 : y85.toInt ≤ y79.toInt := b100; omega)), (show q_F (y79.toInt ≤ 220) from (show y79.toInt ≤ 220 from by have t1 : 0 ≤ R.toInt ∧ R.toInt ≤ 220 := hfk30; have t2 : y79.toInt ≤ R.toInt := b93; omega)), (show q_F (0 ≤ y80.toInt) from (show 0 ≤ y80.toInt from by have t1 : 0 ≤ y85.toInt := b88; have t2 : y85.toInt ≤ y80.toInt := b101; omega)), (show q_F (y85.toInt ≤ y85.toInt) from (show y85.toInt ≤ y85.toInt from by omega)), (show q_F (y85.toInt ≤ y85.toInt) from (show y85.toInt ≤ y85.toInt from by omega)), (show q_F (y80.toInt ≤ y80.toInt) from (show y80.toInt ≤ y80.toInt from by omega)), (show q_F (a128.toInt + y75.toInt ≤ y75.toInt + a128.toInt) from (show a128.toInt + y75.toInt ≤ y75.toInt + a128.toInt from by omega)), (show q_F (a128.toInt + t6_1.toInt ≤ a128.toInt + t6_1.toInt) from (show a128.toInt + t6_1.toInt ≤ a128.toInt + t6_1.toInt from by omega)), (show q_F (a128.toInt + t6_1.toInt ≤ t6_1.toInt + a128.toInt) from (show a128.toInt + t6_1.toInt ≤ t6_1.toInt + a128.toInt from by omega)), (show q_F (a128.toInt + y80.toInt ≤ y80.toInt + a128.toInt) from (show a128.toInt + y80.toInt ≤ y80.toInt + a128.toInt from by omega)), V, q_lw hl (q_lw1 0 rfl (q_lw1 1 rfl (q_lw1 2 rfl (q_lw1 3 rfl (q_lw1 4 rfl q_lw0))))), hI, hF, hT0, hT1, hO83, hA87, hO73, hA77, hT6, hT7, hO78, hA82, ⟨((a128.toInt - ((-1))).toNat + 1), Nat.lt_succ_self _, (show F_DW_raiseBelow_L48 x2 R t0_0 t0_1 t1_0 t2_0 t2_1 t3_0 t4_0 t4_1 t5_0 t6_0 t6_1 t7_0 t8_0 t8_1 t9_0 p60 p105 ((a128.toInt - ((-1))).toNat + 1) a128 y84 y85 f86 y74 y75 f76 t6_0 t6_1 t7_0 y79 y80 f81 = (F_DW_raiseBelow x2 R t0_0 t0_1 t1_0 t2_0 t2_1 t3_0 t4_0 t4_1 t5_0 t6_0 t6_1 t7_0 t8_0 t8_1 t9_0) from Eq.trans (by rw [← e129, e127, e115, e114, e113, e112, e111, e110, e109, e108, e107, F_DW_raiseBelow_c37.eq_1]) hR116), (show True ∧ S_DW_raiseBelow_L48 x2 R t0_0 t0_1 t1_0 t2_0 t2_1 t3_0 t4_0 t4_1 t5_0 t6_0 t6_1 t7_0 t8_0 t8_1 t9_0 p60 p105 ((a128.toInt - ((-1))).toNat + 1) a128 y84 y85 f86 y74 y75 f76 t6_0 t6_1 t7_0 y79 y80 f81 from (by rw [← e129, e127, e115, e114, e113, e112, e111, e110, e109, e108, e107]; have h := hS117; rw [S_DW_raiseBelow_c37.eq_1] at h; with_reducible exact h))⟩⟩
  rintro ⟨lx132, lx133, lx134, lx135, lx136, lx137, lx138, lx139, lx140, lx141, lx142, lx143, lx144⟩ H locs ls w166 ⟨i145, i146, i147, i148, i149, i150, i151, i152, i153, i154, i155, i156, i157, i158, i159, i160, i161, i162, i163, i164, V, hl, hI, hF, hO167, hO168, hO169, hO170, hO171, hO172, hO173, hO174, hO175, hO176, ⟨fu179, hf180, hR177, hS178⟩⟩ ih165
  obtain ⟨fm181, rfl⟩ : ∃ m, fu179 = m + 1 := ⟨fu179 - 1, by omega⟩
  replace i145 : q_F (0 ≤ lx132.toInt + 1) := i145
  clear i146
  clear i147
  replace i148 : q_F (0 ≤ lx136.toInt) := i148
  replace i149 : q_F (lx136.toInt ≤ 220) := i149
  replace i150 : q_F (0 ≤ lx137.toInt) := i150
  clear i151
  clear i152
  replace i153 : q_F (0 ≤ lx140.toInt) := i153
  replace i154 : q_F (lx140.toInt ≤ 1) := i154
  clear i155
  clear i156
  clear i157
  clear i158
  clear i159
  replace i160 : q_F (lx143.toInt ≤ y80.toInt) := i160
  clear i161
  replace i162 : q_F (lx132.toInt + lx140.toInt ≤ a128.toInt + t6_1.toInt) := i162
  replace i163 : q_F (lx132.toInt + t6_1.toInt ≤ lx140.toInt + a128.toInt) := i163
  clear i164
  replace hl : lv_has ls 5 [(4, .int lx132), (3, .int t0_1), (0, .ref (q 30)), (1, .int x2), (2, .ref (q k3))] := hl
  replace hO167 : w166[10]? = (some (q 10, .inr (2, [.ref (q 11), .int t0_0, .int t0_1])) : Option (Nat × va_E)) := hO167
  replace hO168 : w166[11]? = (some (q 11, .inl (g 0, (220 : Int32).toNatClampNeg, .inl t1_0)) : Option (Nat × va_E)) := hO168
  replace hO169 : w166[12]? = (some (q 12, .inr (2, [.ref (q 13), .int lx133, .int lx134])) : Option (Nat × va_E)) := hO169
  replace hO170 : w166[13]? = (some (q 13, .inl (g 0, (220 : Int32).toNatClampNeg, .inl lx135)) : Option (Nat × va_E)) := hO170
  replace hO171 : w166[22]? = (some (q 22, .inr (2, [.ref (q 23), .int lx136, .int lx137])) : Option (Nat × va_E)) := hO171
  replace hO172 : w166[23]? = (some (q 23, .inl (g 0, (220 : Int32).toNatClampNeg, .inl lx138)) : Option (Nat × va_E)) := hO172
  replace hO173 : w166[24]? = (some (q 24, .inr (2, [.ref (q 25), .int lx139, .int lx140])) : Option (Nat × va_E)) := hO173
  replace hO174 : w166[25]? = (some (q 25, .inl (g 0, (220 : Int32).toNatClampNeg, .inl lx141)) : Option (Nat × va_E)) := hO174
  replace hO175 : w166[k3]? = (some (q k3, .inr (2, [.ref (q (k3 + 1)), .int lx142, .int lx143])) : Option (Nat × va_E)) := hO175
  replace hO176 : w166[k3 + 1]? = (some (q (k3 + 1), .inl (g 0, R.toNatClampNeg, .inl lx144)) : Option (Nat × va_E)) := hO176
  refine lv_iload hx hb d_4_8_48 (lv_at hl 0 rfl) ?_
  refine lv_if_lt (tgt := 134) hx hb d_4_8_50 (by decide) (fun c182 => ?_) (fun c182 => ?_)
  ·
    refine lv_aload_n hx hb d_4_8_134 rfl (lv_at hl 2 rfl) ?_
    obtain ⟨y185, y186, hO184, b187⟩ := n_o30 hI
    clear b187
    refine q_get (ci := 5) (j := 2) (v := .ref (q 9)) C0 V i_DW rfl rfl hO184 (by decide) w_214 rfl d_4_8_135 ?_
    have hO188 := n_o9 hI
    refine q_get (ci := 4) (j := 0) (v := .ref (q 10)) C0 V i_Mil rfl rfl hO188 (by decide) w_111 rfl d_4_8_138 ?_
    refine lv_aload_n hx hb d_4_8_141 rfl (lv_at hl 4 rfl) ?_
    refine lv_aload_n hx hb d_4_8_142 rfl (lv_at hl 2 rfl) ?_
    refine q_get (ci := 5) (j := 2) (v := .ref (q 9)) C0 V i_DW rfl rfl hO184 (by decide) w_214 rfl d_4_8_143 ?_
    refine q_get (ci := 4) (j := 1) (v := .ref (q 12)) C0 V i_Mil rfl rfl hO188 (by decide) w_115 rfl d_4_8_146 ?_
    have ob189 : True ∧ S_Big_divideBy (220 : Int32) R (220 : Int32) t0_0 t0_1 t1_0 lx142 lx143 lx144 lx133 lx134 lx135 := (by have h := hS178; rw [S_DW_raiseBelow_L48.eq_2] at h; rw [if_pos c182] at h; with_reducible exact h.2.1)
    refine q_gov V (q_runV (As := [.ref (q k3), .ref (q 12)]) (rest := []) (d := 4) (mc := 0) (ms := 0) (ci := 2) C0 V rfl LV_DW_109 (X_Big_divideBy l D g q w166 10 220 (n_b10 g q) (by decide) k3 R hB3 zk3 12 220 (n_b12 g q) (by decide)  (by have z := ne_k3_10; omega) (by decide) (by have z := ne_k3_12; omega) hI t0_0 t0_1 hO167 t1_0 hO168 lx142 lx143 hO175 lx144 hO176 lx133 lx134 hO169 lx135 hO170 ob189 _) rfl rfl hO167 rfl hl.1 rfl (Nat.le_of_ble_eq_true rfl) ⟨by decide, by decide⟩ ⟨Nat.le_of_ble_eq_true rfl, Nat.le_of_ble_eq_true rfl⟩ d_4_8_149) (fun u190 H locs hp191 V => ?_)
    obtain ⟨hI, hZ9⟩ := hp191
    obtain ⟨hu223, hZ9⟩ := hZ9
    obtain ⟨y193, hZ9⟩ := hZ9
    obtain ⟨y194, hZ9⟩ := hZ9
    obtain ⟨f195, hZ9⟩ := hZ9
    obtain ⟨y198, hZ9⟩ := hZ9
    obtain ⟨y199, hZ9⟩ := hZ9
    obtain ⟨f200, hZ9⟩ := hZ9
    obtain ⟨y203, hZ9⟩ := hZ9
    obtain ⟨y204, hZ9⟩ := hZ9
    obtain ⟨f205, hZ9⟩ := hZ9
    obtain ⟨hO192, hZ9⟩ := hZ9
    obtain ⟨hA196, hZ9⟩ := hZ9
    obtain ⟨hO197, hZ9⟩ := hZ9
    obtain ⟨hA201, hZ9⟩ := hZ9
    obtain ⟨hO202, hZ9⟩ := hZ9
    obtain ⟨hA206, hZ9⟩ := hZ9
    replace hZ9 := hZ9.2.2.2.2.2
    obtain ⟨b212, hZ9⟩ := hZ9
    obtain ⟨b213, hZ9⟩ := hZ9
    replace hZ9 := hZ9.2.2.2.2.2.2.2
    obtain ⟨-, hE222⟩ := hZ9
    replace hO192 : u190[10]? = (some (q 10, .inr (2, [.ref (q 11), .int y193, .int y194])) : Option (Nat × va_E)) := hO192
    replace hA196 : u190[11]? = (some (q 11, .inl (g 0, (220 : Int32).toNatClampNeg, .inl f195)) : Option (Nat × va_E)) := hA196
    replace hO197 : u190[k3]? = (some (q k3, .inr (2, [.ref (q (k3 + 1)), .int y198, .int y199])) : Option (Nat × va_E)) := hO197
    replace hA201 : u190[k3 + 1]? = (some (q (k3 + 1), .inl (g 0, R.toNatClampNeg, .inl f200)) : Option (Nat × va_E)) := hA201
    replace hO202 : u190[12]? = (some (q 12, .inr (2, [.ref (q 13), .int y203, .int y204])) : Option (Nat × va_E)) := hO202
    replace hA206 : u190[13]? = (some (q 13, .inl (g 0, (220 : Int32).toNatClampNeg, .inl f205)) : Option (Nat × va_E)) := hA206
    obtain ⟨p224, e225⟩ : ∃ z, z = (F_Big_divideBy (220 : Int32) R (220 : Int32) t0_0 t0_1 t1_0 lx142 lx143 lx144 lx133 lx134 lx135) := ⟨_, rfl⟩
    have e226 : y193 = p224.1 := congrArg (fun z => z.1) (hE222.trans e225.symm)
    have e227 : y194 = p224.2.1 := congrArg (fun z => z.2.1) (hE222.trans e225.symm)
    have e228 : f195 = p224.2.2.1 := congrArg (fun z => z.2.2.1) (hE222.trans e225.symm)
    have e229 : y198 = p224.2.2.2.1 := congrArg (fun z => z.2.2.2.1) (hE222.trans e225.symm)
    have e230 : y199 = p224.2.2.2.2.1 := congrArg (fun z => z.2.2.2.2.1) (hE222.trans e225.symm)
    have e231 : f200 = p224.2.2.2.2.2.1 := congrArg (fun z => z.2.2.2.2.2.1) (hE222.trans e225.symm)
    have e232 : y203 = p224.2.2.2.2.2.2.1 := congrArg (fun z => z.2.2.2.2.2.2.1) (hE222.trans e225.symm)
    have e233 : y204 = p224.2.2.2.2.2.2.2.1 := congrArg (fun z => z.2.2.2.2.2.2.2.1) (hE222.trans e225.symm)
    have e234 : f205 = p224.2.2.2.2.2.2.2.2 := congrArg (fun z => z.2.2.2.2.2.2.2.2) (hE222.trans e225.symm)
    replace b212 : q_F (y198.toInt ≤ R.toInt) := b212
    replace b213 : q_F (y199.toInt ≤ lx143.toInt) := b213
    replace hO171 := (hu223 _ (by first | exact (q_nc (Nat.ne_of_beq_eq_false rfl) (q_nc (Nat.ne_of_beq_eq_false rfl) (q_nc (Ne.symm ne_k3_22) (q_nc (q_ns1 ne_k3_21) (q_nc (Nat.ne_of_beq_eq_false rfl) (q_nc (Nat.ne_of_beq_eq_false rfl) List.not_mem_nil)))))) | (have z0 := zk3; simp only [List.mem_cons, List.not_mem_nil, or_false, not_or]; omega))).trans hO171
    replace hO172 := (hu223 _ (by first | exact (q_nc (Nat.ne_of_beq_eq_false rfl) (q_nc (Nat.ne_of_beq_eq_false rfl) (q_nc (Ne.symm ne_k3_23) (q_nc (q_ns1 ne_k3_22) (q_nc (Nat.ne_of_beq_eq_false rfl) (q_nc (Nat.ne_of_beq_eq_false rfl) List.not_mem_nil)))))) | (have z0 := zk3; simp only [List.mem_cons, List.not_mem_nil, or_false, not_or]; omega))).trans hO172
    replace hO173 := (hu223 _ (by first | exact (q_nc (Nat.ne_of_beq_eq_false rfl) (q_nc (Nat.ne_of_beq_eq_false rfl) (q_nc (Ne.symm ne_k3_24) (q_nc (q_ns1 ne_k3_23) (q_nc (Nat.ne_of_beq_eq_false rfl) (q_nc (Nat.ne_of_beq_eq_false rfl) List.not_mem_nil)))))) | (have z0 := zk3; simp only [List.mem_cons, List.not_mem_nil, or_false, not_or]; omega))).trans hO173
    replace hO174 := (hu223 _ (by first | exact (q_nc (Nat.ne_of_beq_eq_false rfl) (q_nc (Nat.ne_of_beq_eq_false rfl) (q_nc (Ne.symm ne_k3_25) (q_nc (q_ns1 ne_k3_24) (q_nc (Nat.ne_of_beq_eq_false rfl) (q_nc (Nat.ne_of_beq_eq_false rfl) List.not_mem_nil)))))) | (have z0 := zk3; simp only [List.mem_cons, List.not_mem_nil, or_false, not_or]; omega))).trans hO174
    replace hO184 := (hu223 _ (by have z0 := zk3; simp only [List.mem_cons, List.not_mem_nil, or_false, not_or]; omega)).trans hO184
    replace hO188 := (hu223 _ (by first | exact (q_nc (Nat.ne_of_beq_eq_false rfl) (q_nc (Nat.ne_of_beq_eq_false rfl) (q_nc (Ne.symm ne_k3_9) (q_nc (q_nz1 zk3 rfl) (q_nc (Nat.ne_of_beq_eq_false rfl) (q_nc (Nat.ne_of_beq_eq_false rfl) List.not_mem_nil)))))) | (have z0 := zk3; simp only [List.mem_cons, List.not_mem_nil, or_false, not_or]; omega))).trans hO188
    replace hF := q_uc hF hu223 (by first | exact (q_sk (q_mi 0 rfl) (q_sk (q_mi 1 rfl) (q_sk (q_mi 8 rfl) (q_sk (q_mi 9 rfl) (q_sk (q_mi 2 rfl) (q_sk (q_mi 3 rfl) q_s0)))))) | simp)
    have hR235 := (show F_DW_raiseBelow_c149 (F_DW_raiseBelow_L48 x2 R t0_0 t0_1 t1_0 t2_0 t2_1 t3_0 t4_0 t4_1 t5_0 t6_0 t6_1 t7_0 t8_0 t8_1 t9_0 p60 p105 fm181) x2 R t0_0 t0_1 t1_0 t2_0 t2_1 t3_0 t4_0 t4_1 t5_0 t6_0 t6_1 t7_0 t8_0 t8_1 t9_0 p60 p105 lx132 lx133 lx134 lx135 lx136 lx137 lx138 lx139 lx140 lx141 lx142 lx143 lx144 p224 = (F_DW_raiseBelow x2 R t0_0 t0_1 t1_0 t2_0 t2_1 t3_0 t4_0 t4_1 t5_0 t6_0 t6_1 t7_0 t8_0 t8_1 t9_0) from Eq.trans (by rw [e225, F_DW_raiseBelow_L48.eq_2, if_pos c182]) hR177)
    have hS236 := (show True ∧ S_DW_raiseBelow_c149 (S_DW_raiseBelow_L48 x2 R t0_0 t0_1 t1_0 t2_0 t2_1 t3_0 t4_0 t4_1 t5_0 t6_0 t6_1 t7_0 t8_0 t8_1 t9_0 p60 p105 fm181) x2 R t0_0 t0_1 t1_0 t2_0 t2_1 t3_0 t4_0 t4_1 t5_0 t6_0 t6_1 t7_0 t8_0 t8_1 t9_0 p60 p105 lx132 lx133 lx134 lx135 lx136 lx137 lx138 lx139 lx140 lx141 lx142 lx143 lx144 p224 from (by rw [e225]; have h := hS178; rw [S_DW_raiseBelow_L48.eq_2] at h; rw [if_pos c182] at h; replace h := q_s2 h; with_reducible exact h))
    refine lv_aload_n hx hb d_4_8_152 rfl (lv_at hl 2 rfl) ?_
    refine q_get (ci := 5) (j := 2) (v := .ref (q 9)) C0 V i_DW rfl rfl hO184 (by decide) w_214 rfl d_4_8_153 ?_
    refine q_get (ci := 4) (j := 7) (v := .ref (q 24)) C0 V i_Mil rfl rfl hO188 (by decide) w_129 rfl d_4_8_156 ?_
    refine lv_aload_n hx hb d_4_8_159 rfl (lv_at hl 2 rfl) ?_
    refine q_get (ci := 5) (j := 2) (v := .ref (q 9)) C0 V i_DW rfl rfl hO184 (by decide) w_214 rfl d_4_8_160 ?_
    refine q_get (ci := 4) (j := 0) (v := .ref (q 10)) C0 V i_Mil rfl rfl hO188 (by decide) w_111 rfl d_4_8_163 ?_
    refine lv_aload_n hx hb d_4_8_166 rfl (lv_at hl 2 rfl) ?_
    refine q_get (ci := 5) (j := 2) (v := .ref (q 9)) C0 V i_DW rfl rfl hO184 (by decide) w_214 rfl d_4_8_167 ?_
    refine q_get (ci := 4) (j := 6) (v := .ref (q 22)) C0 V i_Mil rfl rfl hO188 (by decide) w_126 rfl d_4_8_170 ?_
    refine q_gov V (q_runV (As := [.ref (q 10), .ref (q 22)]) (rest := []) (d := 3) (mc := 0) (ms := 0) (ci := 2) C0 V rfl LV_DW_94 (X_Big_product l D g q u190 24 220 (n_b24 g q) (by decide) 10 220 (n_b10 g q) (by decide) 22 220 (n_b22 g q) (by decide)  (by decide) (by decide) hI lx139 lx140 hO173 lx141 hO174 y193 y194 hO192 f195 hA196 lx136 lx137 hO171 lx138 hO172  _) rfl rfl hO173 rfl hl.1 rfl (Nat.le_of_ble_eq_true rfl) ⟨by decide, by decide⟩ ⟨Nat.le_of_ble_eq_true rfl, Nat.le_of_ble_eq_true rfl⟩ d_4_8_173) (fun u240 H locs hp241 V => ?_)
    obtain ⟨hI, hZ9⟩ := hp241
    obtain ⟨hu252, hZ9⟩ := hZ9
    obtain ⟨y243, hZ9⟩ := hZ9
    obtain ⟨y244, hZ9⟩ := hZ9
    obtain ⟨f245, hZ9⟩ := hZ9
    obtain ⟨hO242, hZ9⟩ := hZ9
    obtain ⟨hA246, hZ9⟩ := hZ9
    replace hZ9 := hZ9.2
    obtain ⟨b248, hZ9⟩ := hZ9
    replace hZ9 := hZ9.2
    obtain ⟨-, hE251⟩ := hZ9
    replace hO242 : u240[24]? = (some (q 24, .inr (2, [.ref (q 25), .int y243, .int y244])) : Option (Nat × va_E)) := hO242
    replace hA246 : u240[25]? = (some (q 25, .inl (g 0, (220 : Int32).toNatClampNeg, .inl f245)) : Option (Nat × va_E)) := hA246
    obtain ⟨p253, e254⟩ : ∃ z, z = (F_Big_product (220 : Int32) (220 : Int32) (220 : Int32) lx139 lx140 lx141 y193 y194 f195 lx136 lx137 lx138) := ⟨_, rfl⟩
    have e255 : y243 = p253.1 := congrArg (fun z => z.1) (hE251.trans e254.symm)
    have e256 : y244 = p253.2.1 := congrArg (fun z => z.2.1) (hE251.trans e254.symm)
    have e257 : f245 = p253.2.2 := congrArg (fun z => z.2.2) (hE251.trans e254.symm)
    replace b248 : q_F (y244.toInt ≤ 1) := b248
    replace hO192 := (hu252 _ (by decide)).trans hO192
    replace hA196 := (hu252 _ (by decide)).trans hA196
    replace hO202 := (hu252 _ (by decide)).trans hO202
    replace hA206 := (hu252 _ (by decide)).trans hA206
    replace hO171 := (hu252 _ (by decide)).trans hO171
    replace hO172 := (hu252 _ (by decide)).trans hO172
    replace hO197 := (hu252 _ (by first | exact (q_nc ne_k3_24 (q_nc ne_k3_25 List.not_mem_nil)) | (have z0 := zk3; simp only [List.mem_cons, List.not_mem_nil, or_false, not_or]; omega))).trans hO197
    replace hA201 := (hu252 _ (by first | exact (q_nc (q_nt1 ne_k3_23) (q_nc (q_nt1 ne_k3_24) List.not_mem_nil)) | (have z0 := zk3; simp only [List.mem_cons, List.not_mem_nil, or_false, not_or]; omega))).trans hA201
    replace hO184 := (hu252 _ (by decide)).trans hO184
    replace hO188 := (hu252 _ (by decide)).trans hO188
    replace hF := q_uc hF hu252 (by first | exact (q_sk (q_mi 6 rfl) (q_sk (q_mi 7 rfl) q_s0)) | simp)
    have hR258 := (show F_DW_raiseBelow_c173 (F_DW_raiseBelow_L48 x2 R t0_0 t0_1 t1_0 t2_0 t2_1 t3_0 t4_0 t4_1 t5_0 t6_0 t6_1 t7_0 t8_0 t8_1 t9_0 p60 p105 fm181) x2 R t0_0 t0_1 t1_0 t2_0 t2_1 t3_0 t4_0 t4_1 t5_0 t6_0 t6_1 t7_0 t8_0 t8_1 t9_0 p60 p105 lx132 lx133 lx134 lx135 lx136 lx137 lx138 lx139 lx140 lx141 lx142 lx143 lx144 p224 y193 y194 f195 y203 y204 f205 y198 y199 f200 p253 = (F_DW_raiseBelow x2 R t0_0 t0_1 t1_0 t2_0 t2_1 t3_0 t4_0 t4_1 t5_0 t6_0 t6_1 t7_0 t8_0 t8_1 t9_0) from Eq.trans (by rw [e254, e234, e233, e232, e231, e230, e229, e228, e227, e226, F_DW_raiseBelow_c149.eq_1]) hR235)
    have hS259 := (show True ∧ S_DW_raiseBelow_c173 (S_DW_raiseBelow_L48 x2 R t0_0 t0_1 t1_0 t2_0 t2_1 t3_0 t4_0 t4_1 t5_0 t6_0 t6_1 t7_0 t8_0 t8_1 t9_0 p60 p105 fm181) x2 R t0_0 t0_1 t1_0 t2_0 t2_1 t3_0 t4_0 t4_1 t5_0 t6_0 t6_1 t7_0 t8_0 t8_1 t9_0 p60 p105 lx132 lx133 lx134 lx135 lx136 lx137 lx138 lx139 lx140 lx141 lx142 lx143 lx144 p224 y193 y194 f195 y203 y204 f205 y198 y199 f200 p253 from (by rw [e254, e234, e233, e232, e231, e230, e229, e228, e227, e226]; have h := hS236; rw [S_DW_raiseBelow_c149.eq_1] at h; with_reducible exact h))
    refine lv_aload_n hx hb d_4_8_176 rfl (lv_at hl 2 rfl) ?_
    refine q_get (ci := 5) (j := 2) (v := .ref (q 9)) C0 V i_DW rfl rfl hO184 (by decide) w_214 rfl d_4_8_177 ?_
    refine q_get (ci := 4) (j := 7) (v := .ref (q 24)) C0 V i_Mil rfl rfl hO188 (by decide) w_129 rfl d_4_8_180 ?_
    refine lv_aload_n hx hb d_4_8_183 rfl (lv_at hl 4 rfl) ?_
    refine lv_aload_n hx hb d_4_8_184 rfl (lv_at hl 2 rfl) ?_
    refine q_get (ci := 5) (j := 2) (v := .ref (q 9)) C0 V i_DW rfl rfl hO184 (by decide) w_214 rfl d_4_8_185 ?_
    refine q_get (ci := 4) (j := 1) (v := .ref (q 12)) C0 V i_Mil rfl rfl hO188 (by decide) w_115 rfl d_4_8_188 ?_
    have ob263 : True ∧ S_Big_divideBy (220 : Int32) R (220 : Int32) y243 y244 f245 y198 y199 f200 y203 y204 f205 := (by rw [e257, e256, e255]; have h := hS259; rw [S_DW_raiseBelow_c173.eq_1] at h; with_reducible exact h.2.1)
    refine q_gov V (q_runV (As := [.ref (q k3), .ref (q 12)]) (rest := []) (d := 4) (mc := 0) (ms := 0) (ci := 2) C0 V rfl LV_DW_109 (X_Big_divideBy l D g q u240 24 220 (n_b24 g q) (by decide) k3 R hB3 zk3 12 220 (n_b12 g q) (by decide)  (by have z := ne_k3_24; omega) (by decide) (by have z := ne_k3_12; omega) hI y243 y244 hO242 f245 hA246 y198 y199 hO197 f200 hA201 y203 y204 hO202 f205 hA206 ob263 _) rfl rfl hO242 rfl hl.1 rfl (Nat.le_of_ble_eq_true rfl) ⟨by decide, by decide⟩ ⟨Nat.le_of_ble_eq_true rfl, Nat.le_of_ble_eq_true rfl⟩ d_4_8_191) (fun u264 H locs hp265 V => ?_)
    obtain ⟨hI, hZ9⟩ := hp265
    obtain ⟨hu297, hZ9⟩ := hZ9
    obtain ⟨y267, hZ9⟩ := hZ9
    obtain ⟨y268, hZ9⟩ := hZ9
    obtain ⟨f269, hZ9⟩ := hZ9
    obtain ⟨y272, hZ9⟩ := hZ9
    obtain ⟨y273, hZ9⟩ := hZ9
    obtain ⟨f274, hZ9⟩ := hZ9
    obtain ⟨y277, hZ9⟩ := hZ9
    obtain ⟨y278, hZ9⟩ := hZ9
    obtain ⟨f279, hZ9⟩ := hZ9
    obtain ⟨hO266, hZ9⟩ := hZ9
    obtain ⟨hA270, hZ9⟩ := hZ9
    obtain ⟨hO271, hZ9⟩ := hZ9
    obtain ⟨hA275, hZ9⟩ := hZ9
    obtain ⟨hO276, hZ9⟩ := hZ9
    obtain ⟨hA280, hZ9⟩ := hZ9
    obtain ⟨b281, hZ9⟩ := hZ9
    obtain ⟨b282, hZ9⟩ := hZ9
    obtain ⟨b283, hZ9⟩ := hZ9
    obtain ⟨b284, hZ9⟩ := hZ9
    replace hZ9 := hZ9.2
    obtain ⟨b286, hZ9⟩ := hZ9
    obtain ⟨b287, hZ9⟩ := hZ9
    obtain ⟨b288, hZ9⟩ := hZ9
    replace hZ9 := hZ9.2
    obtain ⟨b290, hZ9⟩ := hZ9
    obtain ⟨b291, hZ9⟩ := hZ9
    obtain ⟨b292, hZ9⟩ := hZ9
    obtain ⟨b293, hZ9⟩ := hZ9
    obtain ⟨b294, hZ9⟩ := hZ9
    obtain ⟨b295, hE296⟩ := hZ9
    replace hO266 : u264[24]? = (some (q 24, .inr (2, [.ref (q 25), .int y267, .int y268])) : Option (Nat × va_E)) := hO266
    replace hA270 : u264[25]? = (some (q 25, .inl (g 0, (220 : Int32).toNatClampNeg, .inl f269)) : Option (Nat × va_E)) := hA270
    replace hO271 : u264[k3]? = (some (q k3, .inr (2, [.ref (q (k3 + 1)), .int y272, .int y273])) : Option (Nat × va_E)) := hO271
    replace hA275 : u264[k3 + 1]? = (some (q (k3 + 1), .inl (g 0, R.toNatClampNeg, .inl f274)) : Option (Nat × va_E)) := hA275
    replace hO276 : u264[12]? = (some (q 12, .inr (2, [.ref (q 13), .int y277, .int y278])) : Option (Nat × va_E)) := hO276
    replace hA280 : u264[13]? = (some (q 13, .inl (g 0, (220 : Int32).toNatClampNeg, .inl f279)) : Option (Nat × va_E)) := hA280
    obtain ⟨p298, e299⟩ : ∃ z, z = (F_Big_divideBy (220 : Int32) R (220 : Int32) y243 y244 f245 y198 y199 f200 y203 y204 f205) := ⟨_, rfl⟩
    have e300 : y267 = p298.1 := congrArg (fun z => z.1) (hE296.trans e299.symm)
    have e301 : y268 = p298.2.1 := congrArg (fun z => z.2.1) (hE296.trans e299.symm)
    have e302 : f269 = p298.2.2.1 := congrArg (fun z => z.2.2.1) (hE296.trans e299.symm)
    have e303 : y272 = p298.2.2.2.1 := congrArg (fun z => z.2.2.2.1) (hE296.trans e299.symm)
    have e304 : y273 = p298.2.2.2.2.1 := congrArg (fun z => z.2.2.2.2.1) (hE296.trans e299.symm)
    have e305 : f274 = p298.2.2.2.2.2.1 := congrArg (fun z => z.2.2.2.2.2.1) (hE296.trans e299.symm)
    have e306 : y277 = p298.2.2.2.2.2.2.1 := congrArg (fun z => z.2.2.2.2.2.2.1) (hE296.trans e299.symm)
    have e307 : y278 = p298.2.2.2.2.2.2.2.1 := congrArg (fun z => z.2.2.2.2.2.2.2.1) (hE296.trans e299.symm)
    have e308 : f279 = p298.2.2.2.2.2.2.2.2 := congrArg (fun z => z.2.2.2.2.2.2.2.2) (hE296.trans e299.symm)
    replace b281 : q_F (0 ≤ y278.toInt) := b281
    replace b282 : q_F (y278.toInt ≤ 0) := b282
    replace b283 : q_F (y267.toInt ≤ 220) := b283
    replace b284 : q_F (y268.toInt ≤ y244.toInt) := b284
    replace b286 : q_F (y272.toInt ≤ R.toInt) := b286
    replace b287 : q_F (y273.toInt ≤ y199.toInt) := b287
    replace b288 : q_F (y277.toInt ≤ y198.toInt + 219) := b288
    replace b290 : q_F (y277.toInt ≤ 220) := b290
    replace b291 : q_F (y278.toInt ≤ y267.toInt) := b291
    replace b292 : q_F (y278.toInt ≤ y268.toInt) := b292
    replace b293 : q_F (y278.toInt ≤ y272.toInt) := b293
    replace b294 : q_F (y278.toInt ≤ y273.toInt) := b294
    replace b295 : q_F (y278.toInt ≤ y277.toInt) := b295
    replace hO192 := (hu297 _ (by first | exact (q_nc (Nat.ne_of_beq_eq_false rfl) (q_nc (Nat.ne_of_beq_eq_false rfl) (q_nc (Ne.symm ne_k3_10) (q_nc (q_ns1 ne_k3_9) (q_nc (Nat.ne_of_beq_eq_false rfl) (q_nc (Nat.ne_of_beq_eq_false rfl) List.not_mem_nil)))))) | (have z0 := zk3; simp only [List.mem_cons, List.not_mem_nil, or_false, not_or]; omega))).trans hO192
    replace hA196 := (hu297 _ (by first | exact (q_nc (Nat.ne_of_beq_eq_false rfl) (q_nc (Nat.ne_of_beq_eq_false rfl) (q_nc (Ne.symm ne_k3_11) (q_nc (q_ns1 ne_k3_10) (q_nc (Nat.ne_of_beq_eq_false rfl) (q_nc (Nat.ne_of_beq_eq_false rfl) List.not_mem_nil)))))) | (have z0 := zk3; simp only [List.mem_cons, List.not_mem_nil, or_false, not_or]; omega))).trans hA196
    replace hO171 := (hu297 _ (by first | exact (q_nc (Nat.ne_of_beq_eq_false rfl) (q_nc (Nat.ne_of_beq_eq_false rfl) (q_nc (Ne.symm ne_k3_22) (q_nc (q_ns1 ne_k3_21) (q_nc (Nat.ne_of_beq_eq_false rfl) (q_nc (Nat.ne_of_beq_eq_false rfl) List.not_mem_nil)))))) | (have z0 := zk3; simp only [List.mem_cons, List.not_mem_nil, or_false, not_or]; omega))).trans hO171
    replace hO172 := (hu297 _ (by first | exact (q_nc (Nat.ne_of_beq_eq_false rfl) (q_nc (Nat.ne_of_beq_eq_false rfl) (q_nc (Ne.symm ne_k3_23) (q_nc (q_ns1 ne_k3_22) (q_nc (Nat.ne_of_beq_eq_false rfl) (q_nc (Nat.ne_of_beq_eq_false rfl) List.not_mem_nil)))))) | (have z0 := zk3; simp only [List.mem_cons, List.not_mem_nil, or_false, not_or]; omega))).trans hO172
    replace hO184 := (hu297 _ (by have z0 := zk3; simp only [List.mem_cons, List.not_mem_nil, or_false, not_or]; omega)).trans hO184
    replace hO188 := (hu297 _ (by first | exact (q_nc (Nat.ne_of_beq_eq_false rfl) (q_nc (Nat.ne_of_beq_eq_false rfl) (q_nc (Ne.symm ne_k3_9) (q_nc (q_nz1 zk3 rfl) (q_nc (Nat.ne_of_beq_eq_false rfl) (q_nc (Nat.ne_of_beq_eq_false rfl) List.not_mem_nil)))))) | (have z0 := zk3; simp only [List.mem_cons, List.not_mem_nil, or_false, not_or]; omega))).trans hO188
    replace hF := q_uc hF hu297 (by first | exact (q_sk (q_mi 6 rfl) (q_sk (q_mi 7 rfl) (q_sk (q_mi 8 rfl) (q_sk (q_mi 9 rfl) (q_sk (q_mi 2 rfl) (q_sk (q_mi 3 rfl) q_s0)))))) | simp)
    have hR309 := (show F_DW_raiseBelow_c191 (F_DW_raiseBelow_L48 x2 R t0_0 t0_1 t1_0 t2_0 t2_1 t3_0 t4_0 t4_1 t5_0 t6_0 t6_1 t7_0 t8_0 t8_1 t9_0 p60 p105 fm181) x2 R t0_0 t0_1 t1_0 t2_0 t2_1 t3_0 t4_0 t4_1 t5_0 t6_0 t6_1 t7_0 t8_0 t8_1 t9_0 p60 p105 lx132 lx133 lx134 lx135 lx136 lx137 lx138 lx139 lx140 lx141 lx142 lx143 lx144 p224 y193 y194 f195 y203 y204 f205 y198 y199 f200 p253 p298 = (F_DW_raiseBelow x2 R t0_0 t0_1 t1_0 t2_0 t2_1 t3_0 t4_0 t4_1 t5_0 t6_0 t6_1 t7_0 t8_0 t8_1 t9_0) from Eq.trans (by rw [e299, e257, e256, e255, F_DW_raiseBelow_c173.eq_1]) hR258)
    have hS310 := (show True ∧ S_DW_raiseBelow_c191 (S_DW_raiseBelow_L48 x2 R t0_0 t0_1 t1_0 t2_0 t2_1 t3_0 t4_0 t4_1 t5_0 t6_0 t6_1 t7_0 t8_0 t8_1 t9_0 p60 p105 fm181) x2 R t0_0 t0_1 t1_0 t2_0 t2_1 t3_0 t4_0 t4_1 t5_0 t6_0 t6_1 t7_0 t8_0 t8_1 t9_0 p60 p105 lx132 lx133 lx134 lx135 lx136 lx137 lx138 lx139 lx140 lx141 lx142 lx143 lx144 p224 y193 y194 f195 y203 y204 f205 y198 y199 f200 p253 p298 from (by rw [e299, e257, e256, e255]; have h := hS259; rw [S_DW_raiseBelow_c173.eq_1] at h; replace h := q_s2 h; with_reducible exact h))
    refine lv_aload_n hx hb d_4_8_194 rfl (lv_at hl 2 rfl) ?_
    refine q_get (ci := 5) (j := 2) (v := .ref (q 9)) C0 V i_DW rfl rfl hO184 (by decide) w_214 rfl d_4_8_195 ?_
    refine q_get (ci := 4) (j := 0) (v := .ref (q 10)) C0 V i_Mil rfl rfl hO188 (by decide) w_111 rfl d_4_8_198 ?_
    refine lv_aload_n hx hb d_4_8_201 rfl (lv_at hl 2 rfl) ?_
    refine q_get (ci := 5) (j := 2) (v := .ref (q 9)) C0 V i_DW rfl rfl hO184 (by decide) w_214 rfl d_4_8_202 ?_
    refine q_get (ci := 4) (j := 7) (v := .ref (q 24)) C0 V i_Mil rfl rfl hO188 (by decide) w_129 rfl d_4_8_205 ?_
    refine q_gov V (q_runV (As := [.ref (q 24)]) (rest := []) (d := 2) (mc := 0) (ms := 0) (ci := 2) C0 V rfl LV_DW_44 (X_Big_copy l D g q u264 10 220 (n_b10 g q) (by decide) 24 220 (n_b24 g q) (by decide)  (by decide) hI y193 y194 hO192 f195 hA196 y267 y268 hO266 f269 hA270  _) rfl rfl hO192 rfl hl.1 rfl (Nat.le_of_ble_eq_true rfl) ⟨by decide, by decide⟩ ⟨Nat.le_of_ble_eq_true rfl, Nat.le_of_ble_eq_true rfl⟩ d_4_8_208) (fun u314 H locs hp315 V => ?_)
    obtain ⟨hI, hZ9⟩ := hp315
    obtain ⟨hu327, hZ9⟩ := hZ9
    obtain ⟨y317, hZ9⟩ := hZ9
    obtain ⟨y318, hZ9⟩ := hZ9
    obtain ⟨f319, hZ9⟩ := hZ9
    obtain ⟨hO316, hZ9⟩ := hZ9
    obtain ⟨hA320, hZ9⟩ := hZ9
    obtain ⟨b321, hZ9⟩ := hZ9
    obtain ⟨b322, hZ9⟩ := hZ9
    obtain ⟨b323, hZ9⟩ := hZ9
    replace hZ9 := hZ9.2
    obtain ⟨-, hE326⟩ := hZ9
    replace hO316 : u314[10]? = (some (q 10, .inr (2, [.ref (q 11), .int y317, .int y318])) : Option (Nat × va_E)) := hO316
    replace hA320 : u314[11]? = (some (q 11, .inl (g 0, (220 : Int32).toNatClampNeg, .inl f319)) : Option (Nat × va_E)) := hA320
    obtain ⟨p328, e329⟩ : ∃ z, z = (F_Big_copy (220 : Int32) (220 : Int32) y193 y194 f195 y267 y268 f269) := ⟨_, rfl⟩
    have e330 : y317 = p328.1 := congrArg (fun z => z.1) (hE326.trans e329.symm)
    have e331 : y318 = p328.2.1 := congrArg (fun z => z.2.1) (hE326.trans e329.symm)
    have e332 : f319 = p328.2.2 := congrArg (fun z => z.2.2) (hE326.trans e329.symm)
    replace b321 : q_F (0 ≤ y317.toInt) := b321
    replace b322 : q_F (y317.toInt ≤ y267.toInt) := b322
    replace b323 : q_F (y317.toInt ≤ 220) := b323
    replace hO276 := (hu327 _ (by decide)).trans hO276
    replace hA280 := (hu327 _ (by decide)).trans hA280
    replace hO171 := (hu327 _ (by decide)).trans hO171
    replace hO172 := (hu327 _ (by decide)).trans hO172
    replace hO266 := (hu327 _ (by decide)).trans hO266
    replace hA270 := (hu327 _ (by decide)).trans hA270
    replace hO271 := (hu327 _ (by first | exact (q_nc ne_k3_10 (q_nc ne_k3_11 List.not_mem_nil)) | (have z0 := zk3; simp only [List.mem_cons, List.not_mem_nil, or_false, not_or]; omega))).trans hO271
    replace hA275 := (hu327 _ (by first | exact (q_nc (q_nt1 ne_k3_9) (q_nc (q_nt1 ne_k3_10) List.not_mem_nil)) | (have z0 := zk3; simp only [List.mem_cons, List.not_mem_nil, or_false, not_or]; omega))).trans hA275
    replace hO184 := (hu327 _ (by decide)).trans hO184
    replace hO188 := (hu327 _ (by decide)).trans hO188
    replace hF := q_uc hF hu327 (by first | exact (q_sk (q_mi 0 rfl) (q_sk (q_mi 1 rfl) q_s0)) | simp)
    have hR333 := (show F_DW_raiseBelow_c208 (F_DW_raiseBelow_L48 x2 R t0_0 t0_1 t1_0 t2_0 t2_1 t3_0 t4_0 t4_1 t5_0 t6_0 t6_1 t7_0 t8_0 t8_1 t9_0 p60 p105 fm181) x2 R t0_0 t0_1 t1_0 t2_0 t2_1 t3_0 t4_0 t4_1 t5_0 t6_0 t6_1 t7_0 t8_0 t8_1 t9_0 p60 p105 lx132 lx133 lx134 lx135 lx136 lx137 lx138 lx139 lx140 lx141 lx142 lx143 lx144 p224 y193 y194 f195 y203 y204 f205 y198 y199 f200 p253 p298 y277 y278 f279 y267 y268 f269 y272 y273 f274 p328 = (F_DW_raiseBelow x2 R t0_0 t0_1 t1_0 t2_0 t2_1 t3_0 t4_0 t4_1 t5_0 t6_0 t6_1 t7_0 t8_0 t8_1 t9_0) from Eq.trans (by rw [e329, e308, e307, e306, e305, e304, e303, e302, e301, e300, F_DW_raiseBelow_c191.eq_1]) hR309)
    have hS334 := (show True ∧ S_DW_raiseBelow_c208 (S_DW_raiseBelow_L48 x2 R t0_0 t0_1 t1_0 t2_0 t2_1 t3_0 t4_0 t4_1 t5_0 t6_0 t6_1 t7_0 t8_0 t8_1 t9_0 p60 p105 fm181) x2 R t0_0 t0_1 t1_0 t2_0 t2_1 t3_0 t4_0 t4_1 t5_0 t6_0 t6_1 t7_0 t8_0 t8_1 t9_0 p60 p105 lx132 lx133 lx134 lx135 lx136 lx137 lx138 lx139 lx140 lx141 lx142 lx143 lx144 p224 y193 y194 f195 y203 y204 f205 y198 y199 f200 p253 p298 y277 y278 f279 y267 y268 f269 y272 y273 f274 p328 from (by rw [e329, e308, e307, e306, e305, e304, e303, e302, e301, e300]; have h := hS310; rw [S_DW_raiseBelow_c191.eq_1] at h; with_reducible exact h))
    refine lv_aload_n hx hb d_4_8_211 rfl (lv_at hl 2 rfl) ?_
    refine q_get (ci := 5) (j := 2) (v := .ref (q 9)) C0 V i_DW rfl rfl hO184 (by decide) w_214 rfl d_4_8_212 ?_
    refine q_get (ci := 4) (j := 0) (v := .ref (q 10)) C0 V i_Mil rfl rfl hO188 (by decide) w_111 rfl d_4_8_215 ?_
    refine lv_iload_n hx hb d_4_8_218 rfl (lv_at hl 1 rfl) ?_
    refine lv_if_eq (tgt := 239) hx hb d_4_8_219 (by decide) (fun c338 => ?_) (fun c338 => ?_)
    ·
      refine lv_iconst (v := 0) hx hb d_4_8_239 (by decide) ?_
      refine q_put (ci := 2) (j := 2) (v := .int 0) (ty := .boolean) C0 V i_Big o_Big n_Big rfl rfl hO316 (by decide) w_97 rfl rfl rfl rfl (Nat.le_of_ble_eq_true rfl) d_4_8_240 (fun H locs w340 hu341 hO316 V => ?_)
      replace hO316 : w340[10]? = (some (q 10, .inr (2, [.ref (q 11), .int y317, .int 0])) : Option (Nat × va_E)) := hO316
      replace hI := q_bigO' hI (n_b10 g q) hu341 hO316 ⟨(by have zR : (220 : Int32).toInt = 220 := rfl; have t1 : 0 ≤ y317.toInt := b321; omega), (by have zR : (220 : Int32).toInt = 220 := rfl; have t1 : y317.toInt ≤ 220 := b323; omega)⟩ ⟨(by have z9 : (0 : Int32).toInt = 0 := rfl; omega), (by have z9 : (0 : Int32).toInt = 0 := rfl; omega)⟩
      replace hA320 := (hu341 _ (by decide)).trans hA320
      replace hO276 := (hu341 _ (by decide)).trans hO276
      replace hA280 := (hu341 _ (by decide)).trans hA280
      replace hO171 := (hu341 _ (by decide)).trans hO171
      replace hO172 := (hu341 _ (by decide)).trans hO172
      replace hO266 := (hu341 _ (by decide)).trans hO266
      replace hA270 := (hu341 _ (by decide)).trans hA270
      replace hO271 := (hu341 _ (by have z := ne_k3_10; omega)).trans hO271
      replace hA275 := (hu341 _ (by have z := ne_k3_9; omega)).trans hA275
      replace hF := q_us hF hu341 (by simp)
      exact q_retv C0 V (⟨hI, hF, y317, 0, f319, y277, y278, f279, lx136, lx137, lx138, y267, y268, f269, y272, y273, f274, hO316, hA320, hO276, hA280, hO171, hO172, hO266, hA270, hO271, hA275, (show 0 ≤ y278.toInt from (by have z18 : (0 : Int32).toInt = 0 := rfl; have t1 : 0 ≤ y278.toInt := b281; omega)), (show y278.toInt ≤ 0 from (by have z18 : (0 : Int32).toInt = 0 := rfl; have t1 : y278.toInt ≤ 0 := b282; omega)), (show (0 : Int32).toInt ≤ t0_1.toInt from (by have z18 : (0 : Int32).toInt = 0 := rfl; have t1 : 0 ≤ t0_1.toInt ∧ t0_1.toInt ≤ 1 := btt0_1; omega)), (show y277.toInt ≤ R.toInt + 219 from (by have z18 : (0 : Int32).toInt = 0 := rfl; have t1 : y198.toInt ≤ R.toInt := b212; have t2 : y277.toInt ≤ y198.toInt + 219 := b288; omega)), (show y272.toInt ≤ R.toInt from (by have z18 : (0 : Int32).toInt = 0 := rfl; have t1 : y272.toInt ≤ R.toInt := b286; omega)), (show y273.toInt ≤ t8_1.toInt from (by have z18 : (0 : Int32).toInt = 0 := rfl; have t1 : y80.toInt ≤ t8_1.toInt := b94; have t2 : lx143.toInt ≤ y80.toInt := i160; have t3 : y199.toInt ≤ lx143.toInt := b213; have t4 : y273.toInt ≤ y199.toInt := b287; omega)), (show y278.toInt ≤ y317.toInt from (by have z18 : (0 : Int32).toInt = 0 := rfl; have t1 : y278.toInt ≤ 0 := b282; have t2 : 0 ≤ y317.toInt := b321; omega)), (show y317.toInt ≤ y267.toInt from (by have z18 : (0 : Int32).toInt = 0 := rfl; have t1 : y317.toInt ≤ y267.toInt := b322; omega)), (show y278.toInt ≤ (0 : Int32).toInt from (by have z18 : (0 : Int32).toInt = 0 := rfl; have t1 : y278.toInt ≤ 0 := b282; omega)), (show (0 : Int32).toInt ≤ y267.toInt from (by have z18 : (0 : Int32).toInt = 0 := rfl; have t1 : 0 ≤ y278.toInt := b281; have t2 : y278.toInt ≤ y267.toInt := b291; omega)), (show y278.toInt ≤ y277.toInt from (by have z18 : (0 : Int32).toInt = 0 := rfl; have t1 : y278.toInt ≤ y277.toInt := b295; omega)), (show y277.toInt ≤ y278.toInt + 220 from (by have z18 : (0 : Int32).toInt = 0 := rfl; have t1 : 0 ≤ y278.toInt := b281; have t2 : y277.toInt ≤ 220 := b290; omega)), (show lx136.toInt ≤ y278.toInt + 220 from (by have z18 : (0 : Int32).toInt = 0 := rfl; have t1 : lx136.toInt ≤ 220 := i149; have t2 : 0 ≤ y278.toInt := b281; omega)), (show y278.toInt ≤ lx136.toInt from (by have z18 : (0 : Int32).toInt = 0 := rfl; have t1 : 0 ≤ lx136.toInt := i148; have t2 : y278.toInt ≤ 0 := b282; omega)), (show y278.toInt ≤ lx137.toInt from (by have z18 : (0 : Int32).toInt = 0 := rfl; have t1 : 0 ≤ lx137.toInt := i150; have t2 : y278.toInt ≤ 0 := b282; omega)), (show y267.toInt ≤ y278.toInt + 220 from (by have z18 : (0 : Int32).toInt = 0 := rfl; have t1 : 0 ≤ y278.toInt := b281; have t2 : y267.toInt ≤ 220 := b283; omega)), (show y268.toInt ≤ y278.toInt + 1 from (by have z18 : (0 : Int32).toInt = 0 := rfl; have t1 : y244.toInt ≤ 1 := b248; have t2 : 0 ≤ y278.toInt := b281; have t3 : y268.toInt ≤ y244.toInt := b284; omega)), (show y278.toInt ≤ y268.toInt from (by have z18 : (0 : Int32).toInt = 0 := rfl; have t1 : y278.toInt ≤ y268.toInt := b292; omega)), (show y278.toInt ≤ y272.toInt from (by have z18 : (0 : Int32).toInt = 0 := rfl; have t1 : y278.toInt ≤ y272.toInt := b293; omega)), (show y278.toInt ≤ y273.toInt from (by have z18 : (0 : Int32).toInt = 0 := rfl; have t1 : y278.toInt ≤ y273.toInt := b294; omega)), (show (y317, (0 : Int32), f319, y277, y278, f279, lx136, lx137, lx138, y267, y268, f269, y272, y273, f274) = (F_DW_raiseBelow x2 R t0_0 t0_1 t1_0 t2_0 t2_1 t3_0 t4_0 t4_1 t5_0 t6_0 t6_1 t7_0 t8_0 t8_1 t9_0) from Eq.trans (by rw [e332, e330, F_DW_raiseBelow_c208.eq_1, if_pos c338]) hR333)⟩) d_4_8_243
    ·
      have b342 : q_F (t0_1.toInt ≠ 0) := (q_neI c338)
      refine lv_aload_n hx hb d_4_8_222 rfl (lv_at hl 2 rfl) ?_
      refine q_get (ci := 5) (j := 2) (v := .ref (q 9)) C0 V i_DW rfl rfl hO184 (by decide) w_214 rfl d_4_8_223 ?_
      refine q_get (ci := 4) (j := 7) (v := .ref (q 24)) C0 V i_Mil rfl rfl hO188 (by decide) w_129 rfl d_4_8_226 ?_
      refine q_get (ci := 2) (j := 1) (v := .int y267) C0 V i_Big rfl rfl hO266 (by decide) w_90 rfl d_4_8_229 ?_
      refine lv_if_le (tgt := 239) hx hb d_4_8_232 (by decide) (fun c343 => ?_) (fun c343 => ?_)
      ·
        refine lv_iconst (v := 0) hx hb d_4_8_239 (by decide) ?_
        refine q_put (ci := 2) (j := 2) (v := .int 0) (ty := .boolean) C0 V i_Big o_Big n_Big rfl rfl hO316 (by decide) w_97 rfl rfl rfl rfl (Nat.le_of_ble_eq_true rfl) d_4_8_240 (fun H locs w345 hu346 hO316 V => ?_)
        replace hO316 : w345[10]? = (some (q 10, .inr (2, [.ref (q 11), .int y317, .int 0])) : Option (Nat × va_E)) := hO316
        replace hI := q_bigO' hI (n_b10 g q) hu346 hO316 ⟨(by have zR : (220 : Int32).toInt = 220 := rfl; have t1 : 0 ≤ y317.toInt := b321; omega), (by have zR : (220 : Int32).toInt = 220 := rfl; have t1 : y317.toInt ≤ 220 := b323; omega)⟩ ⟨(by have z9 : (0 : Int32).toInt = 0 := rfl; omega), (by have z9 : (0 : Int32).toInt = 0 := rfl; omega)⟩
        replace hA320 := (hu346 _ (by decide)).trans hA320
        replace hO276 := (hu346 _ (by decide)).trans hO276
        replace hA280 := (hu346 _ (by decide)).trans hA280
        replace hO171 := (hu346 _ (by decide)).trans hO171
        replace hO172 := (hu346 _ (by decide)).trans hO172
        replace hO266 := (hu346 _ (by decide)).trans hO266
        replace hA270 := (hu346 _ (by decide)).trans hA270
        replace hO271 := (hu346 _ (by have z := ne_k3_10; omega)).trans hO271
        replace hA275 := (hu346 _ (by have z := ne_k3_9; omega)).trans hA275
        replace hF := q_us hF hu346 (by simp)
        exact q_retv C0 V (⟨hI, hF, y317, 0, f319, y277, y278, f279, lx136, lx137, lx138, y267, y268, f269, y272, y273, f274, hO316, hA320, hO276, hA280, hO171, hO172, hO266, hA270, hO271, hA275, (show 0 ≤ y278.toInt from (by have z18 : (0 : Int32).toInt = 0 := rfl; have t1 : 0 ≤ y278.toInt := b281; omega)), (show y278.toInt ≤ 0 from (by have z18 : (0 : Int32).toInt = 0 := rfl; have t1 : y278.toInt ≤ 0 := b282; omega)), (show (0 : Int32).toInt ≤ t0_1.toInt from (by have z18 : (0 : Int32).toInt = 0 := rfl; have t1 : 0 ≤ t0_1.toInt ∧ t0_1.toInt ≤ 1 := btt0_1; omega)), (show y277.toInt ≤ R.toInt + 219 from (by have z18 : (0 : Int32).toInt = 0 := rfl; have t1 : y198.toInt ≤ R.toInt := b212; have t2 : y277.toInt ≤ y198.toInt + 219 := b288; omega)), (show y272.toInt ≤ R.toInt from (by have z18 : (0 : Int32).toInt = 0 := rfl; have t1 : y272.toInt ≤ R.toInt := b286; omega)), (show y273.toInt ≤ t8_1.toInt from (by have z18 : (0 : Int32).toInt = 0 := rfl; have t1 : y80.toInt ≤ t8_1.toInt := b94; have t2 : lx143.toInt ≤ y80.toInt := i160; have t3 : y199.toInt ≤ lx143.toInt := b213; have t4 : y273.toInt ≤ y199.toInt := b287; omega)), (show y278.toInt ≤ y317.toInt from (by have z18 : (0 : Int32).toInt = 0 := rfl; have t1 : y278.toInt ≤ 0 := b282; have t2 : 0 ≤ y317.toInt := b321; omega)), (show y317.toInt ≤ y267.toInt from (by have z18 : (0 : Int32).toInt = 0 := rfl; have t1 : y317.toInt ≤ y267.toInt := b322; omega)), (show y278.toInt ≤ (0 : Int32).toInt from (by have z18 : (0 : Int32).toInt = 0 := rfl; have t1 : y278.toInt ≤ 0 := b282; omega)), (show (0 : Int32).toInt ≤ y267.toInt from (by have z18 : (0 : Int32).toInt = 0 := rfl; have t1 : 0 ≤ y278.toInt := b281; have t2 : y278.toInt ≤ y267.toInt := b291; omega)), (show y278.toInt ≤ y277.toInt from (by have z18 : (0 : Int32).toInt = 0 := rfl; have t1 : y278.toInt ≤ y277.toInt := b295; omega)), (show y277.toInt ≤ y278.toInt + 220 from (by have z18 : (0 : Int32).toInt = 0 := rfl; have t1 : 0 ≤ y278.toInt := b281; have t2 : y277.toInt ≤ 220 := b290; omega)), (show lx136.toInt ≤ y278.toInt + 220 from (by have z18 : (0 : Int32).toInt = 0 := rfl; have t1 : lx136.toInt ≤ 220 := i149; have t2 : 0 ≤ y278.toInt := b281; omega)), (show y278.toInt ≤ lx136.toInt from (by have z18 : (0 : Int32).toInt = 0 := rfl; have t1 : 0 ≤ lx136.toInt := i148; have t2 : y278.toInt ≤ 0 := b282; omega)), (show y278.toInt ≤ lx137.toInt from (by have z18 : (0 : Int32).toInt = 0 := rfl; have t1 : 0 ≤ lx137.toInt := i150; have t2 : y278.toInt ≤ 0 := b282; omega)), (show y267.toInt ≤ y278.toInt + 220 from (by have z18 : (0 : Int32).toInt = 0 := rfl; have t1 : 0 ≤ y278.toInt := b281; have t2 : y267.toInt ≤ 220 := b283; omega)), (show y268.toInt ≤ y278.toInt + 1 from (by have z18 : (0 : Int32).toInt = 0 := rfl; have t1 : y244.toInt ≤ 1 := b248; have t2 : 0 ≤ y278.toInt := b281; have t3 : y268.toInt ≤ y244.toInt := b284; omega)), (show y278.toInt ≤ y268.toInt from (by have z18 : (0 : Int32).toInt = 0 := rfl; have t1 : y278.toInt ≤ y268.toInt := b292; omega)), (show y278.toInt ≤ y272.toInt from (by have z18 : (0 : Int32).toInt = 0 := rfl; have t1 : y278.toInt ≤ y272.toInt := b293; omega)), (show y278.toInt ≤ y273.toInt from (by have z18 : (0 : Int32).toInt = 0 := rfl; have t1 : y278.toInt ≤ y273.toInt := b294; omega)), (show (y317, (0 : Int32), f319, y277, y278, f279, lx136, lx137, lx138, y267, y268, f269, y272, y273, f274) = (F_DW_raiseBelow x2 R t0_0 t0_1 t1_0 t2_0 t2_1 t3_0 t4_0 t4_1 t5_0 t6_0 t6_1 t7_0 t8_0 t8_1 t9_0) from Eq.trans (by rw [e332, e330, F_DW_raiseBelow_c208.eq_1, if_neg c338, if_pos c343]) hR333)⟩) d_4_8_243
      ·
        have b347 : q_F (0 < y267.toInt) := (q_nleI c343)
        refine lv_iconst (v := 1) hx hb d_4_8_235 (by decide) ?_
        refine lv_goto (tgt := 240) hx hb d_4_8_236 (by decide) ?_
        refine q_put (ci := 2) (j := 2) (v := .int 1) (ty := .boolean) C0 V i_Big o_Big n_Big rfl rfl hO316 (by decide) w_97 rfl rfl rfl rfl (Nat.le_of_ble_eq_true rfl) d_4_8_240 (fun H locs w348 hu349 hO316 V => ?_)
        replace hO316 : w348[10]? = (some (q 10, .inr (2, [.ref (q 11), .int y317, .int 1])) : Option (Nat × va_E)) := hO316
        replace hI := q_bigO' hI (n_b10 g q) hu349 hO316 ⟨(by have zR : (220 : Int32).toInt = 220 := rfl; have t1 : 0 ≤ y317.toInt := b321; omega), (by have zR : (220 : Int32).toInt = 220 := rfl; have t1 : y317.toInt ≤ 220 := b323; omega)⟩ ⟨(by have z9 : (1 : Int32).toInt = 1 := rfl; omega), (by have z9 : (1 : Int32).toInt = 1 := rfl; omega)⟩
        replace hA320 := (hu349 _ (by decide)).trans hA320
        replace hO276 := (hu349 _ (by decide)).trans hO276
        replace hA280 := (hu349 _ (by decide)).trans hA280
        replace hO171 := (hu349 _ (by decide)).trans hO171
        replace hO172 := (hu349 _ (by decide)).trans hO172
        replace hO266 := (hu349 _ (by decide)).trans hO266
        replace hA270 := (hu349 _ (by decide)).trans hA270
        replace hO271 := (hu349 _ (by have z := ne_k3_10; omega)).trans hO271
        replace hA275 := (hu349 _ (by have z := ne_k3_9; omega)).trans hA275
        replace hF := q_us hF hu349 (by simp)
        exact q_retv C0 V (⟨hI, hF, y317, 1, f319, y277, y278, f279, lx136, lx137, lx138, y267, y268, f269, y272, y273, f274, hO316, hA320, hO276, hA280, hO171, hO172, hO266, hA270, hO271, hA275, (show 0 ≤ y278.toInt from (by have z18 : (1 : Int32).toInt = 1 := rfl; have t1 : 0 ≤ y278.toInt := b281; omega)), (show y278.toInt ≤ 0 from (by have z18 : (1 : Int32).toInt = 1 := rfl; have t1 : y278.toInt ≤ 0 := b282; omega)), (show (1 : Int32).toInt ≤ t0_1.toInt from (by have z18 : (1 : Int32).toInt = 1 := rfl; have t1 : 0 ≤ t0_1.toInt ∧ t0_1.toInt ≤ 1 := btt0_1; have t2 : t0_1.toInt ≠ 0 := b342; omega)), (show y277.toInt ≤ R.toInt + 219 from (by have z18 : (1 : Int32).toInt = 1 := rfl; have t1 : y198.toInt ≤ R.toInt := b212; have t2 : y277.toInt ≤ y198.toInt + 219 := b288; omega)), (show y272.toInt ≤ R.toInt from (by have z18 : (1 : Int32).toInt = 1 := rfl; have t1 : y272.toInt ≤ R.toInt := b286; omega)), (show y273.toInt ≤ t8_1.toInt from (by have z18 : (1 : Int32).toInt = 1 := rfl; have t1 : y80.toInt ≤ t8_1.toInt := b94; have t2 : lx143.toInt ≤ y80.toInt := i160; have t3 : y199.toInt ≤ lx143.toInt := b213; have t4 : y273.toInt ≤ y199.toInt := b287; omega)), (show y278.toInt ≤ y317.toInt from (by have z18 : (1 : Int32).toInt = 1 := rfl; have t1 : y278.toInt ≤ 0 := b282; have t2 : 0 ≤ y317.toInt := b321; omega)), (show y317.toInt ≤ y267.toInt from (by have z18 : (1 : Int32).toInt = 1 := rfl; have t1 : y317.toInt ≤ y267.toInt := b322; omega)), (show y278.toInt ≤ (1 : Int32).toInt from (by have z18 : (1 : Int32).toInt = 1 := rfl; have t1 : y278.toInt ≤ 0 := b282; omega)), (show (1 : Int32).toInt ≤ y267.toInt from (by have z18 : (1 : Int32).toInt = 1 := rfl; have t1 : 0 < y267.toInt := b347; omega)), (show y278.toInt ≤ y277.toInt from (by have z18 : (1 : Int32).toInt = 1 := rfl; have t1 : y278.toInt ≤ y277.toInt := b295; omega)), (show y277.toInt ≤ y278.toInt + 220 from (by have z18 : (1 : Int32).toInt = 1 := rfl; have t1 : 0 ≤ y278.toInt := b281; have t2 : y277.toInt ≤ 220 := b290; omega)), (show lx136.toInt ≤ y278.toInt + 220 from (by have z18 : (1 : Int32).toInt = 1 := rfl; have t1 : lx136.toInt ≤ 220 := i149; have t2 : 0 ≤ y278.toInt := b281; omega)), (show y278.toInt ≤ lx136.toInt from (by have z18 : (1 : Int32).toInt = 1 := rfl; have t1 : 0 ≤ lx136.toInt := i148; have t2 : y278.toInt ≤ 0 := b282; omega)), (show y278.toInt ≤ lx137.toInt from (by have z18 : (1 : Int32).toInt = 1 := rfl; have t1 : 0 ≤ lx137.toInt := i150; have t2 : y278.toInt ≤ 0 := b282; omega)), (show y267.toInt ≤ y278.toInt + 220 from (by have z18 : (1 : Int32).toInt = 1 := rfl; have t1 : 0 ≤ y278.toInt := b281; have t2 : y267.toInt ≤ 220 := b283; omega)), (show y268.toInt ≤ y278.toInt + 1 from (by have z18 : (1 : Int32).toInt = 1 := rfl; have t1 : y244.toInt ≤ 1 := b248; have t2 : 0 ≤ y278.toInt := b281; have t3 : y268.toInt ≤ y244.toInt := b284; omega)), (show y278.toInt ≤ y268.toInt from (by have z18 : (1 : Int32).toInt = 1 := rfl; have t1 : y278.toInt ≤ y268.toInt := b292; omega)), (show y278.toInt ≤ y272.toInt from (by have z18 : (1 : Int32).toInt = 1 := rfl; have t1 : y278.toInt ≤ y272.toInt := b293; omega)), (show y278.toInt ≤ y273.toInt from (by have z18 : (1 : Int32).toInt = 1 := rfl; have t1 : y278.toInt ≤ y273.toInt := b294; omega)), (show (y317, (1 : Int32), f319, y277, y278, f279, lx136, lx137, lx138, y267, y268, f269, y272, y273, f274) = (F_DW_raiseBelow x2 R t0_0 t0_1 t1_0 t2_0 t2_1 t3_0 t4_0 t4_1 t5_0 t6_0 t6_1 t7_0 t8_0 t8_1 t9_0) from Eq.trans (by rw [e332, e330, F_DW_raiseBelow_c208.eq_1, if_neg c338, if_neg c343]) hR333)⟩) d_4_8_243
  ·
    have b350 : q_F (0 ≤ lx132.toInt) := (q_nltI c182)
    refine lv_aload_n hx hb d_4_8_53 rfl (lv_at hl 2 rfl) ?_
    obtain ⟨y352, y353, hO351, b354⟩ := n_o30 hI
    clear b354
    refine q_get (ci := 5) (j := 2) (v := .ref (q 9)) C0 V i_DW rfl rfl hO351 (by decide) w_214 rfl d_4_8_54 ?_
    have hO355 := n_o9 hI
    refine q_get (ci := 4) (j := 7) (v := .ref (q 24)) C0 V i_Mil rfl rfl hO355 (by decide) w_129 rfl d_4_8_57 ?_
    refine lv_aload_n hx hb d_4_8_60 rfl (lv_at hl 2 rfl) ?_
    refine q_get (ci := 5) (j := 2) (v := .ref (q 9)) C0 V i_DW rfl rfl hO351 (by decide) w_214 rfl d_4_8_61 ?_
    refine q_get (ci := 4) (j := 6) (v := .ref (q 22)) C0 V i_Mil rfl rfl hO355 (by decide) w_126 rfl d_4_8_64 ?_
    refine lv_aload_n hx hb d_4_8_67 rfl (lv_at hl 2 rfl) ?_
    refine q_get (ci := 5) (j := 2) (v := .ref (q 9)) C0 V i_DW rfl rfl hO351 (by decide) w_214 rfl d_4_8_68 ?_
    refine q_get (ci := 4) (j := 6) (v := .ref (q 22)) C0 V i_Mil rfl rfl hO355 (by decide) w_126 rfl d_4_8_71 ?_
    refine q_gov V (q_runV (As := [.ref (q 22), .ref (q 22)]) (rest := []) (d := 3) (mc := 0) (ms := 0) (ci := 2) C0 V rfl LV_DW_94 (X_Big_product l D g q w166 24 220 (n_b24 g q) (by decide) 22 220 (n_b22 g q) (by decide) 22 220 (n_b22 g q) (by decide)  (by decide) (by decide) hI lx139 lx140 hO173 lx141 hO174 lx136 lx137 hO171 lx138 hO172 lx136 lx137 hO171 lx138 hO172  _) rfl rfl hO173 rfl hl.1 rfl (Nat.le_of_ble_eq_true rfl) ⟨by decide, by decide⟩ ⟨Nat.le_of_ble_eq_true rfl, Nat.le_of_ble_eq_true rfl⟩ d_4_8_74) (fun u356 H locs hp357 V => ?_)
    obtain ⟨hI, hZ9⟩ := hp357
    obtain ⟨hu368, hZ9⟩ := hZ9
    obtain ⟨y359, hZ9⟩ := hZ9
    obtain ⟨y360, hZ9⟩ := hZ9
    obtain ⟨f361, hZ9⟩ := hZ9
    obtain ⟨hO358, hZ9⟩ := hZ9
    obtain ⟨hA362, hZ9⟩ := hZ9
    replace hZ9 := hZ9.2
    obtain ⟨b364, hZ9⟩ := hZ9
    replace hZ9 := hZ9.2
    obtain ⟨-, hE367⟩ := hZ9
    replace hO358 : u356[24]? = (some (q 24, .inr (2, [.ref (q 25), .int y359, .int y360])) : Option (Nat × va_E)) := hO358
    replace hA362 : u356[25]? = (some (q 25, .inl (g 0, (220 : Int32).toNatClampNeg, .inl f361)) : Option (Nat × va_E)) := hA362
    obtain ⟨p369, e370⟩ : ∃ z, z = (F_Big_product (220 : Int32) (220 : Int32) (220 : Int32) lx139 lx140 lx141 lx136 lx137 lx138 lx136 lx137 lx138) := ⟨_, rfl⟩
    have e371 : y359 = p369.1 := congrArg (fun z => z.1) (hE367.trans e370.symm)
    have e372 : y360 = p369.2.1 := congrArg (fun z => z.2.1) (hE367.trans e370.symm)
    have e373 : f361 = p369.2.2 := congrArg (fun z => z.2.2) (hE367.trans e370.symm)
    replace b364 : q_F (y360.toInt ≤ 1) := b364
    replace hO167 := (hu368 _ (by decide)).trans hO167
    replace hO168 := (hu368 _ (by decide)).trans hO168
    replace hO169 := (hu368 _ (by decide)).trans hO169
    replace hO170 := (hu368 _ (by decide)).trans hO170
    replace hO171 := (hu368 _ (by decide)).trans hO171
    replace hO172 := (hu368 _ (by decide)).trans hO172
    replace hO175 := (hu368 _ (by first | exact (q_nc ne_k3_24 (q_nc ne_k3_25 List.not_mem_nil)) | (have z0 := zk3; simp only [List.mem_cons, List.not_mem_nil, or_false, not_or]; omega))).trans hO175
    replace hO176 := (hu368 _ (by first | exact (q_nc (q_nt1 ne_k3_23) (q_nc (q_nt1 ne_k3_24) List.not_mem_nil)) | (have z0 := zk3; simp only [List.mem_cons, List.not_mem_nil, or_false, not_or]; omega))).trans hO176
    replace hO351 := (hu368 _ (by decide)).trans hO351
    replace hO355 := (hu368 _ (by decide)).trans hO355
    replace hF := q_uc hF hu368 (by first | exact (q_sk (q_mi 6 rfl) (q_sk (q_mi 7 rfl) q_s0)) | simp)
    have hR374 := (show F_DW_raiseBelow_c74 (F_DW_raiseBelow_L48 x2 R t0_0 t0_1 t1_0 t2_0 t2_1 t3_0 t4_0 t4_1 t5_0 t6_0 t6_1 t7_0 t8_0 t8_1 t9_0 p60 p105 fm181) x2 R t0_0 t0_1 t1_0 t2_0 t2_1 t3_0 t4_0 t4_1 t5_0 t6_0 t6_1 t7_0 t8_0 t8_1 t9_0 p60 p105 lx132 lx133 lx134 lx135 lx136 lx137 lx138 lx139 lx140 lx141 lx142 lx143 lx144 p369 = (F_DW_raiseBelow x2 R t0_0 t0_1 t1_0 t2_0 t2_1 t3_0 t4_0 t4_1 t5_0 t6_0 t6_1 t7_0 t8_0 t8_1 t9_0) from Eq.trans (by rw [e370, F_DW_raiseBelow_L48.eq_2, if_neg c182]) hR177)
    have hS375 := (show True ∧ S_DW_raiseBelow_c74 (S_DW_raiseBelow_L48 x2 R t0_0 t0_1 t1_0 t2_0 t2_1 t3_0 t4_0 t4_1 t5_0 t6_0 t6_1 t7_0 t8_0 t8_1 t9_0 p60 p105 fm181) x2 R t0_0 t0_1 t1_0 t2_0 t2_1 t3_0 t4_0 t4_1 t5_0 t6_0 t6_1 t7_0 t8_0 t8_1 t9_0 p60 p105 lx132 lx133 lx134 lx135 lx136 lx137 lx138 lx139 lx140 lx141 lx142 lx143 lx144 p369 from (by rw [e370]; have h := hS178; rw [S_DW_raiseBelow_L48.eq_2] at h; rw [if_neg c182] at h; with_reducible exact h))
    refine lv_aload_n hx hb d_4_8_77 rfl (lv_at hl 2 rfl) ?_
    refine q_get (ci := 5) (j := 2) (v := .ref (q 9)) C0 V i_DW rfl rfl hO351 (by decide) w_214 rfl d_4_8_78 ?_
    refine q_get (ci := 4) (j := 7) (v := .ref (q 24)) C0 V i_Mil rfl rfl hO355 (by decide) w_129 rfl d_4_8_81 ?_
    refine lv_iload_n hx hb d_4_8_84 rfl (lv_at hl 3 rfl) ?_
    refine lv_iload hx hb d_4_8_85 (lv_at hl 0 rfl) ?_
    refine lv_iushr hx hb d_4_8_87 rfl ?_
    obtain ⟨a379, e380⟩ := q_nm ((x2.toUInt32 >>> (lx132.toUInt32 &&& Int32.toUInt32 31)).toInt32 : Int32)
    refine q_ti (v := a379) e380 ?_
    refine lv_iconst (v := 1) hx hb d_4_8_88 (by decide) ?_
    refine lv_iand hx hb d_4_8_89 ?_
    obtain ⟨a381, e382⟩ := q_nm (a379 &&& 1 : Int32)
    refine q_ti (v := a381) e382 ?_
    refine q_gov V (q_runV (As := [.int a381]) (rest := []) (d := 2) (mc := 0) (ms := 0) (ci := 2) C0 V rfl LV_DW_77 (X_Big_timesTen l D g q u356 24 220 (n_b24 g q) (by decide) a381 hI y359 y360 hO358 f361 hA362  _) rfl rfl hO358 rfl hl.1 rfl (Nat.le_of_ble_eq_true rfl) ⟨by decide, by decide⟩ ⟨Nat.le_of_ble_eq_true rfl, Nat.le_of_ble_eq_true rfl⟩ d_4_8_90) (fun u384 H locs hp385 V => ?_)
    obtain ⟨hI, hZ9⟩ := hp385
    obtain ⟨hu396, hZ9⟩ := hZ9
    obtain ⟨y387, hZ9⟩ := hZ9
    obtain ⟨y388, hZ9⟩ := hZ9
    obtain ⟨f389, hZ9⟩ := hZ9
    obtain ⟨hO386, hZ9⟩ := hZ9
    obtain ⟨hA390, hZ9⟩ := hZ9
    replace hZ9 := hZ9.2.2.2
    obtain ⟨b394, hE395⟩ := hZ9
    replace hO386 : u384[24]? = (some (q 24, .inr (2, [.ref (q 25), .int y387, .int y388])) : Option (Nat × va_E)) := hO386
    replace hA390 : u384[25]? = (some (q 25, .inl (g 0, (220 : Int32).toNatClampNeg, .inl f389)) : Option (Nat × va_E)) := hA390
    obtain ⟨p397, e398⟩ : ∃ z, z = (F_Big_timesTen (220 : Int32) a381 y359 y360 f361) := ⟨_, rfl⟩
    have e399 : y387 = p397.1 := congrArg (fun z => z.1) (hE395.trans e398.symm)
    have e400 : y388 = p397.2.1 := congrArg (fun z => z.2.1) (hE395.trans e398.symm)
    have e401 : f389 = p397.2.2 := congrArg (fun z => z.2.2) (hE395.trans e398.symm)
    replace b394 : q_F (y388.toInt ≤ y360.toInt) := b394
    replace hO167 := (hu396 _ (by decide)).trans hO167
    replace hO168 := (hu396 _ (by decide)).trans hO168
    replace hO169 := (hu396 _ (by decide)).trans hO169
    replace hO170 := (hu396 _ (by decide)).trans hO170
    replace hO171 := (hu396 _ (by decide)).trans hO171
    replace hO172 := (hu396 _ (by decide)).trans hO172
    replace hO175 := (hu396 _ (by first | exact (q_nc ne_k3_24 (q_nc ne_k3_25 List.not_mem_nil)) | (have z0 := zk3; simp only [List.mem_cons, List.not_mem_nil, or_false, not_or]; omega))).trans hO175
    replace hO176 := (hu396 _ (by first | exact (q_nc (q_nt1 ne_k3_23) (q_nc (q_nt1 ne_k3_24) List.not_mem_nil)) | (have z0 := zk3; simp only [List.mem_cons, List.not_mem_nil, or_false, not_or]; omega))).trans hO176
    replace hO351 := (hu396 _ (by decide)).trans hO351
    replace hO355 := (hu396 _ (by decide)).trans hO355
    replace hF := q_uc hF hu396 (by first | exact (q_sk (q_mi 6 rfl) (q_sk (q_mi 7 rfl) q_s0)) | simp)
    have hR402 := (show F_DW_raiseBelow_c90 (F_DW_raiseBelow_L48 x2 R t0_0 t0_1 t1_0 t2_0 t2_1 t3_0 t4_0 t4_1 t5_0 t6_0 t6_1 t7_0 t8_0 t8_1 t9_0 p60 p105 fm181) x2 R t0_0 t0_1 t1_0 t2_0 t2_1 t3_0 t4_0 t4_1 t5_0 t6_0 t6_1 t7_0 t8_0 t8_1 t9_0 p60 p105 lx132 lx133 lx134 lx135 lx136 lx137 lx138 lx139 lx140 lx141 lx142 lx143 lx144 p369 p397 = (F_DW_raiseBelow x2 R t0_0 t0_1 t1_0 t2_0 t2_1 t3_0 t4_0 t4_1 t5_0 t6_0 t6_1 t7_0 t8_0 t8_1 t9_0) from Eq.trans (by rw [e398, ← e382, ← e380, e373, e372, e371, F_DW_raiseBelow_c74.eq_1]) hR374)
    have hS403 := (show True ∧ S_DW_raiseBelow_c90 (S_DW_raiseBelow_L48 x2 R t0_0 t0_1 t1_0 t2_0 t2_1 t3_0 t4_0 t4_1 t5_0 t6_0 t6_1 t7_0 t8_0 t8_1 t9_0 p60 p105 fm181) x2 R t0_0 t0_1 t1_0 t2_0 t2_1 t3_0 t4_0 t4_1 t5_0 t6_0 t6_1 t7_0 t8_0 t8_1 t9_0 p60 p105 lx132 lx133 lx134 lx135 lx136 lx137 lx138 lx139 lx140 lx141 lx142 lx143 lx144 p369 p397 from (by rw [e398, ← e382, ← e380, e373, e372, e371]; have h := hS375; rw [S_DW_raiseBelow_c74.eq_1] at h; with_reducible exact h))
    refine lv_aload_n hx hb d_4_8_93 rfl (lv_at hl 2 rfl) ?_
    refine q_get (ci := 5) (j := 2) (v := .ref (q 9)) C0 V i_DW rfl rfl hO351 (by decide) w_214 rfl d_4_8_94 ?_
    refine q_get (ci := 4) (j := 7) (v := .ref (q 24)) C0 V i_Mil rfl rfl hO355 (by decide) w_129 rfl d_4_8_97 ?_
    refine lv_aload_n hx hb d_4_8_100 rfl (lv_at hl 4 rfl) ?_
    refine lv_aload_n hx hb d_4_8_101 rfl (lv_at hl 2 rfl) ?_
    refine q_get (ci := 5) (j := 2) (v := .ref (q 9)) C0 V i_DW rfl rfl hO351 (by decide) w_214 rfl d_4_8_102 ?_
    refine q_get (ci := 4) (j := 1) (v := .ref (q 12)) C0 V i_Mil rfl rfl hO355 (by decide) w_115 rfl d_4_8_105 ?_
    have ob407 : True ∧ S_Big_divideBy (220 : Int32) R (220 : Int32) y387 y388 f389 lx142 lx143 lx144 lx133 lx134 lx135 := (by rw [e401, e400, e399]; have h := hS403; rw [S_DW_raiseBelow_c90.eq_1] at h; with_reducible exact h.2.1)
    refine q_gov V (q_runV (As := [.ref (q k3), .ref (q 12)]) (rest := []) (d := 4) (mc := 0) (ms := 0) (ci := 2) C0 V rfl LV_DW_109 (X_Big_divideBy l D g q u384 24 220 (n_b24 g q) (by decide) k3 R hB3 zk3 12 220 (n_b12 g q) (by decide)  (by have z := ne_k3_24; omega) (by decide) (by have z := ne_k3_12; omega) hI y387 y388 hO386 f389 hA390 lx142 lx143 hO175 lx144 hO176 lx133 lx134 hO169 lx135 hO170 ob407 _) rfl rfl hO386 rfl hl.1 rfl (Nat.le_of_ble_eq_true rfl) ⟨by decide, by decide⟩ ⟨Nat.le_of_ble_eq_true rfl, Nat.le_of_ble_eq_true rfl⟩ d_4_8_108) (fun u408 H locs hp409 V => ?_)
    obtain ⟨hI, hZ9⟩ := hp409
    obtain ⟨hu441, hZ9⟩ := hZ9
    obtain ⟨y411, hZ9⟩ := hZ9
    obtain ⟨y412, hZ9⟩ := hZ9
    obtain ⟨f413, hZ9⟩ := hZ9
    obtain ⟨y416, hZ9⟩ := hZ9
    obtain ⟨y417, hZ9⟩ := hZ9
    obtain ⟨f418, hZ9⟩ := hZ9
    obtain ⟨y421, hZ9⟩ := hZ9
    obtain ⟨y422, hZ9⟩ := hZ9
    obtain ⟨f423, hZ9⟩ := hZ9
    obtain ⟨hO410, hZ9⟩ := hZ9
    obtain ⟨hA414, hZ9⟩ := hZ9
    obtain ⟨hO415, hZ9⟩ := hZ9
    obtain ⟨hA419, hZ9⟩ := hZ9
    obtain ⟨hO420, hZ9⟩ := hZ9
    obtain ⟨hA424, hZ9⟩ := hZ9
    obtain ⟨b425, hZ9⟩ := hZ9
    obtain ⟨b426, hZ9⟩ := hZ9
    obtain ⟨b427, hZ9⟩ := hZ9
    obtain ⟨b428, hZ9⟩ := hZ9
    replace hZ9 := hZ9.2
    obtain ⟨b430, hZ9⟩ := hZ9
    obtain ⟨b431, hZ9⟩ := hZ9
    replace hZ9 := hZ9.2.2
    obtain ⟨b434, hZ9⟩ := hZ9
    obtain ⟨b435, hZ9⟩ := hZ9
    obtain ⟨b436, hZ9⟩ := hZ9
    obtain ⟨b437, hZ9⟩ := hZ9
    obtain ⟨b438, hZ9⟩ := hZ9
    obtain ⟨b439, hE440⟩ := hZ9
    replace hO410 : u408[24]? = (some (q 24, .inr (2, [.ref (q 25), .int y411, .int y412])) : Option (Nat × va_E)) := hO410
    replace hA414 : u408[25]? = (some (q 25, .inl (g 0, (220 : Int32).toNatClampNeg, .inl f413)) : Option (Nat × va_E)) := hA414
    replace hO415 : u408[k3]? = (some (q k3, .inr (2, [.ref (q (k3 + 1)), .int y416, .int y417])) : Option (Nat × va_E)) := hO415
    replace hA419 : u408[k3 + 1]? = (some (q (k3 + 1), .inl (g 0, R.toNatClampNeg, .inl f418)) : Option (Nat × va_E)) := hA419
    replace hO420 : u408[12]? = (some (q 12, .inr (2, [.ref (q 13), .int y421, .int y422])) : Option (Nat × va_E)) := hO420
    replace hA424 : u408[13]? = (some (q 13, .inl (g 0, (220 : Int32).toNatClampNeg, .inl f423)) : Option (Nat × va_E)) := hA424
    obtain ⟨p442, e443⟩ : ∃ z, z = (F_Big_divideBy (220 : Int32) R (220 : Int32) y387 y388 f389 lx142 lx143 lx144 lx133 lx134 lx135) := ⟨_, rfl⟩
    have e444 : y411 = p442.1 := congrArg (fun z => z.1) (hE440.trans e443.symm)
    have e445 : y412 = p442.2.1 := congrArg (fun z => z.2.1) (hE440.trans e443.symm)
    have e446 : f413 = p442.2.2.1 := congrArg (fun z => z.2.2.1) (hE440.trans e443.symm)
    have e447 : y416 = p442.2.2.2.1 := congrArg (fun z => z.2.2.2.1) (hE440.trans e443.symm)
    have e448 : y417 = p442.2.2.2.2.1 := congrArg (fun z => z.2.2.2.2.1) (hE440.trans e443.symm)
    have e449 : f418 = p442.2.2.2.2.2.1 := congrArg (fun z => z.2.2.2.2.2.1) (hE440.trans e443.symm)
    have e450 : y421 = p442.2.2.2.2.2.2.1 := congrArg (fun z => z.2.2.2.2.2.2.1) (hE440.trans e443.symm)
    have e451 : y422 = p442.2.2.2.2.2.2.2.1 := congrArg (fun z => z.2.2.2.2.2.2.2.1) (hE440.trans e443.symm)
    have e452 : f423 = p442.2.2.2.2.2.2.2.2 := congrArg (fun z => z.2.2.2.2.2.2.2.2) (hE440.trans e443.symm)
    replace b425 : q_F (0 ≤ y422.toInt) := b425
    replace b426 : q_F (y422.toInt ≤ 0) := b426
    replace b427 : q_F (y411.toInt ≤ 220) := b427
    replace b428 : q_F (y412.toInt ≤ y388.toInt) := b428
    replace b430 : q_F (y416.toInt ≤ R.toInt) := b430
    replace b431 : q_F (y417.toInt ≤ lx143.toInt) := b431
    replace b434 : q_F (y421.toInt ≤ 220) := b434
    replace b435 : q_F (y422.toInt ≤ y411.toInt) := b435
    replace b436 : q_F (y422.toInt ≤ y412.toInt) := b436
    replace b437 : q_F (y422.toInt ≤ y416.toInt) := b437
    replace b438 : q_F (y422.toInt ≤ y417.toInt) := b438
    replace b439 : q_F (y422.toInt ≤ y421.toInt) := b439
    replace hO167 := (hu441 _ (by first | exact (q_nc (Nat.ne_of_beq_eq_false rfl) (q_nc (Nat.ne_of_beq_eq_false rfl) (q_nc (Ne.symm ne_k3_10) (q_nc (q_ns1 ne_k3_9) (q_nc (Nat.ne_of_beq_eq_false rfl) (q_nc (Nat.ne_of_beq_eq_false rfl) List.not_mem_nil)))))) | (have z0 := zk3; simp only [List.mem_cons, List.not_mem_nil, or_false, not_or]; omega))).trans hO167
    replace hO168 := (hu441 _ (by first | exact (q_nc (Nat.ne_of_beq_eq_false rfl) (q_nc (Nat.ne_of_beq_eq_false rfl) (q_nc (Ne.symm ne_k3_11) (q_nc (q_ns1 ne_k3_10) (q_nc (Nat.ne_of_beq_eq_false rfl) (q_nc (Nat.ne_of_beq_eq_false rfl) List.not_mem_nil)))))) | (have z0 := zk3; simp only [List.mem_cons, List.not_mem_nil, or_false, not_or]; omega))).trans hO168
    replace hO171 := (hu441 _ (by first | exact (q_nc (Nat.ne_of_beq_eq_false rfl) (q_nc (Nat.ne_of_beq_eq_false rfl) (q_nc (Ne.symm ne_k3_22) (q_nc (q_ns1 ne_k3_21) (q_nc (Nat.ne_of_beq_eq_false rfl) (q_nc (Nat.ne_of_beq_eq_false rfl) List.not_mem_nil)))))) | (have z0 := zk3; simp only [List.mem_cons, List.not_mem_nil, or_false, not_or]; omega))).trans hO171
    replace hO172 := (hu441 _ (by first | exact (q_nc (Nat.ne_of_beq_eq_false rfl) (q_nc (Nat.ne_of_beq_eq_false rfl) (q_nc (Ne.symm ne_k3_23) (q_nc (q_ns1 ne_k3_22) (q_nc (Nat.ne_of_beq_eq_false rfl) (q_nc (Nat.ne_of_beq_eq_false rfl) List.not_mem_nil)))))) | (have z0 := zk3; simp only [List.mem_cons, List.not_mem_nil, or_false, not_or]; omega))).trans hO172
    replace hO351 := (hu441 _ (by have z0 := zk3; simp only [List.mem_cons, List.not_mem_nil, or_false, not_or]; omega)).trans hO351
    replace hO355 := (hu441 _ (by first | exact (q_nc (Nat.ne_of_beq_eq_false rfl) (q_nc (Nat.ne_of_beq_eq_false rfl) (q_nc (Ne.symm ne_k3_9) (q_nc (q_nz1 zk3 rfl) (q_nc (Nat.ne_of_beq_eq_false rfl) (q_nc (Nat.ne_of_beq_eq_false rfl) List.not_mem_nil)))))) | (have z0 := zk3; simp only [List.mem_cons, List.not_mem_nil, or_false, not_or]; omega))).trans hO355
    replace hF := q_uc hF hu441 (by first | exact (q_sk (q_mi 6 rfl) (q_sk (q_mi 7 rfl) (q_sk (q_mi 8 rfl) (q_sk (q_mi 9 rfl) (q_sk (q_mi 2 rfl) (q_sk (q_mi 3 rfl) q_s0)))))) | simp)
    have hR453 := (show F_DW_raiseBelow_c108 (F_DW_raiseBelow_L48 x2 R t0_0 t0_1 t1_0 t2_0 t2_1 t3_0 t4_0 t4_1 t5_0 t6_0 t6_1 t7_0 t8_0 t8_1 t9_0 p60 p105 fm181) x2 R t0_0 t0_1 t1_0 t2_0 t2_1 t3_0 t4_0 t4_1 t5_0 t6_0 t6_1 t7_0 t8_0 t8_1 t9_0 p60 p105 lx132 lx133 lx134 lx135 lx136 lx137 lx138 lx139 lx140 lx141 lx142 lx143 lx144 p369 p397 p442 = (F_DW_raiseBelow x2 R t0_0 t0_1 t1_0 t2_0 t2_1 t3_0 t4_0 t4_1 t5_0 t6_0 t6_1 t7_0 t8_0 t8_1 t9_0) from Eq.trans (by rw [e443, e401, e400, e399, F_DW_raiseBelow_c90.eq_1]) hR402)
    have hS454 := (show True ∧ S_DW_raiseBelow_c108 (S_DW_raiseBelow_L48 x2 R t0_0 t0_1 t1_0 t2_0 t2_1 t3_0 t4_0 t4_1 t5_0 t6_0 t6_1 t7_0 t8_0 t8_1 t9_0 p60 p105 fm181) x2 R t0_0 t0_1 t1_0 t2_0 t2_1 t3_0 t4_0 t4_1 t5_0 t6_0 t6_1 t7_0 t8_0 t8_1 t9_0 p60 p105 lx132 lx133 lx134 lx135 lx136 lx137 lx138 lx139 lx140 lx141 lx142 lx143 lx144 p369 p397 p442 from (by rw [e443, e401, e400, e399]; have h := hS403; rw [S_DW_raiseBelow_c90.eq_1] at h; replace h := q_s2 h; with_reducible exact h))
    refine lv_aload_n hx hb d_4_8_111 rfl (lv_at hl 2 rfl) ?_
    refine q_get (ci := 5) (j := 2) (v := .ref (q 9)) C0 V i_DW rfl rfl hO351 (by decide) w_214 rfl d_4_8_112 ?_
    refine q_get (ci := 4) (j := 6) (v := .ref (q 22)) C0 V i_Mil rfl rfl hO355 (by decide) w_126 rfl d_4_8_115 ?_
    refine lv_aload_n hx hb d_4_8_118 rfl (lv_at hl 2 rfl) ?_
    refine q_get (ci := 5) (j := 2) (v := .ref (q 9)) C0 V i_DW rfl rfl hO351 (by decide) w_214 rfl d_4_8_119 ?_
    refine q_get (ci := 4) (j := 7) (v := .ref (q 24)) C0 V i_Mil rfl rfl hO355 (by decide) w_129 rfl d_4_8_122 ?_
    refine q_gov V (q_runV (As := [.ref (q 24)]) (rest := []) (d := 2) (mc := 0) (ms := 0) (ci := 2) C0 V rfl LV_DW_44 (X_Big_copy l D g q u408 22 220 (n_b22 g q) (by decide) 24 220 (n_b24 g q) (by decide)  (by decide) hI lx136 lx137 hO171 lx138 hO172 y411 y412 hO410 f413 hA414  _) rfl rfl hO171 rfl hl.1 rfl (Nat.le_of_ble_eq_true rfl) ⟨by decide, by decide⟩ ⟨Nat.le_of_ble_eq_true rfl, Nat.le_of_ble_eq_true rfl⟩ d_4_8_125) (fun u458 H locs hp459 V => ?_)
    obtain ⟨hI, hZ9⟩ := hp459
    obtain ⟨hu471, hZ9⟩ := hZ9
    obtain ⟨y461, hZ9⟩ := hZ9
    obtain ⟨y462, hZ9⟩ := hZ9
    obtain ⟨f463, hZ9⟩ := hZ9
    obtain ⟨hO460, hZ9⟩ := hZ9
    obtain ⟨hA464, hZ9⟩ := hZ9
    obtain ⟨b465, hZ9⟩ := hZ9
    replace hZ9 := hZ9.2
    obtain ⟨b467, hZ9⟩ := hZ9
    obtain ⟨b468, hZ9⟩ := hZ9
    obtain ⟨-, hE470⟩ := hZ9
    replace hO460 : u458[22]? = (some (q 22, .inr (2, [.ref (q 23), .int y461, .int y462])) : Option (Nat × va_E)) := hO460
    replace hA464 : u458[23]? = (some (q 23, .inl (g 0, (220 : Int32).toNatClampNeg, .inl f463)) : Option (Nat × va_E)) := hA464
    obtain ⟨p472, e473⟩ : ∃ z, z = (F_Big_copy (220 : Int32) (220 : Int32) lx136 lx137 lx138 y411 y412 f413) := ⟨_, rfl⟩
    have e474 : y461 = p472.1 := congrArg (fun z => z.1) (hE470.trans e473.symm)
    have e475 : y462 = p472.2.1 := congrArg (fun z => z.2.1) (hE470.trans e473.symm)
    have e476 : f463 = p472.2.2 := congrArg (fun z => z.2.2) (hE470.trans e473.symm)
    replace b465 : q_F (0 ≤ y461.toInt) := b465
    replace b467 : q_F (y461.toInt ≤ 220) := b467
    replace b468 : q_F (y412.toInt ≤ y462.toInt) := b468
    replace hO167 := (hu471 _ (by decide)).trans hO167
    replace hO168 := (hu471 _ (by decide)).trans hO168
    replace hO420 := (hu471 _ (by decide)).trans hO420
    replace hA424 := (hu471 _ (by decide)).trans hA424
    replace hO410 := (hu471 _ (by decide)).trans hO410
    replace hA414 := (hu471 _ (by decide)).trans hA414
    replace hO415 := (hu471 _ (by first | exact (q_nc ne_k3_22 (q_nc ne_k3_23 List.not_mem_nil)) | (have z0 := zk3; simp only [List.mem_cons, List.not_mem_nil, or_false, not_or]; omega))).trans hO415
    replace hA419 := (hu471 _ (by first | exact (q_nc (q_nt1 ne_k3_21) (q_nc (q_nt1 ne_k3_22) List.not_mem_nil)) | (have z0 := zk3; simp only [List.mem_cons, List.not_mem_nil, or_false, not_or]; omega))).trans hA419
    replace hF := q_uc hF hu471 (by first | exact (q_sk (q_mi 4 rfl) (q_sk (q_mi 5 rfl) q_s0)) | simp)
    have hR477 := (show F_DW_raiseBelow_c125 (F_DW_raiseBelow_L48 x2 R t0_0 t0_1 t1_0 t2_0 t2_1 t3_0 t4_0 t4_1 t5_0 t6_0 t6_1 t7_0 t8_0 t8_1 t9_0 p60 p105 fm181) x2 R t0_0 t0_1 t1_0 t2_0 t2_1 t3_0 t4_0 t4_1 t5_0 t6_0 t6_1 t7_0 t8_0 t8_1 t9_0 p60 p105 lx132 lx133 lx134 lx135 lx136 lx137 lx138 lx139 lx140 lx141 lx142 lx143 lx144 p369 p397 p442 y421 y422 f423 y411 y412 f413 y416 y417 f418 p472 = (F_DW_raiseBelow x2 R t0_0 t0_1 t1_0 t2_0 t2_1 t3_0 t4_0 t4_1 t5_0 t6_0 t6_1 t7_0 t8_0 t8_1 t9_0) from Eq.trans (by rw [e473, e452, e451, e450, e449, e448, e447, e446, e445, e444, F_DW_raiseBelow_c108.eq_1]) hR453)
    have hS478 := (show True ∧ S_DW_raiseBelow_c125 (S_DW_raiseBelow_L48 x2 R t0_0 t0_1 t1_0 t2_0 t2_1 t3_0 t4_0 t4_1 t5_0 t6_0 t6_1 t7_0 t8_0 t8_1 t9_0 p60 p105 fm181) x2 R t0_0 t0_1 t1_0 t2_0 t2_1 t3_0 t4_0 t4_1 t5_0 t6_0 t6_1 t7_0 t8_0 t8_1 t9_0 p60 p105 lx132 lx133 lx134 lx135 lx136 lx137 lx138 lx139 lx140 lx141 lx142 lx143 lx144 p369 p397 p442 y421 y422 f423 y411 y412 f413 y416 y417 f418 p472 from (by rw [e473, e452, e451, e450, e449, e448, e447, e446, e445, e444]; have h := hS454; rw [S_DW_raiseBelow_c108.eq_1] at h; with_reducible exact h))
    obtain ⟨a482, e483⟩ := q_nm (lx132 + (-1) : Int32)
    have b484 : q_F (a482.toInt = lx132.toInt + (-1)) := (by rw [← e483]; exact q_addI (y := (-1)) rfl (by decide) (by have t1 : 0 ≤ lx132.toInt + 1 := i145; have t2 : lx132.toInt + lx140.toInt ≤ a128.toInt + t6_1.toInt := i162; have t3 : lx132.toInt + t6_1.toInt ≤ lx140.toInt + a128.toInt := i163; have _ := q_lo32 (x := a128); have _ := q_hi32 (x := a128); omega) (by have t1 : 0 ≤ lx132.toInt + 1 := i145; have t2 : lx132.toInt + lx140.toInt ≤ a128.toInt + t6_1.toInt := i162; have t3 : lx132.toInt + t6_1.toInt ≤ lx140.toInt + a128.toInt := i163; have _ := q_lo32 (x := a128); have _ := q_hi32 (x := a128); omega))
    refine lv_iinc (v := a482) (lv' := [(4, .int a482), (3, .int t0_1), (0, .ref (q 30)), (1, .int x2), (2, .ref (q k3))]) hx hb d_4_8_128 hl (k := 0) rfl (e483) (by decide) rfl (fun ls hl => ?_)
    refine lv_goto (tgt := 48) hx hb d_4_8_131 (by decide) ?_
    exact ih165 ((a482 : Int32), (y421 : Int32), (y422 : Int32), (f423 : (Nat → Int32)), (y461 : Int32), (y462 : Int32), (f463 : (Nat → Int32)), (y411 : Int32), (y412 : Int32), (f413 : (Nat → Int32)), (y416 : Int32), (y417 : Int32), (f418 : (Nat → Int32))) _ _ _ _ (show (a482.toInt - ((-1))).toNat < (lx132.toInt - ((-1))).toNat from by have t1 : a482.toInt = lx132.toInt + (-1) := b484; have t2 : 0 ≤ lx132.toInt + 1 := i145; have t3 : 0 ≤ lx132.toInt := b350; omega) ⟨(show q_F (0 ≤ a482.toInt + 1) from (show 0 ≤ a482.toInt + 1 from by have t1 : 0 ≤ lx132.toInt := b350; have t2 : a482.toInt = lx132.toInt + (-1) := b484; omega)), (show q_F (0 ≤ y421.toInt) from (show 0 ≤ y421.toInt from by have t1 : 0 ≤ y422.toInt := b425; have t2 : y422.toInt ≤ y421.toInt := b439; omega)), (show q_F (y421.toInt ≤ 220) from (show y421.toInt ≤ 220 from by have t1 : y421.toInt ≤ 220 := b434; omega)), (show q_F (0 ≤ y461.toInt) from (show 0 ≤ y461.toInt from by have t1 : 0 ≤ y461.toInt := b465; omega)), (show q_F (y461.toInt ≤ 220) from (show y461.toInt ≤ 220 from by have t1 : y461.toInt ≤ 220 := b467; omega)), (show q_F (0 ≤ y462.toInt) from (show 0 ≤ y462.toInt from by have t1 : 0 ≤ y422.toInt := b425; have t2 : y422.toInt ≤ y412.toInt := b436; have t3 : y412.toInt ≤ y462.toInt := b468; omega)), (show q_F (0 ≤ y411.toInt) from (show 0 ≤ y411.toInt from by have t1 : 0 ≤ y422.toInt := b425; have t2 : y422.toInt ≤ y411.toInt := b435; omega)), (show q_F (y411.toInt ≤ 220) from (show y411.toInt ≤ 220 from by have t1 : y411.toInt ≤ 220 := b427; omega)), (show q_F (0 ≤ y412.toInt) from (show 0 ≤ y412.toInt from by have t1 : 0 ≤ y422.toInt := b425; have t2 : y422.toInt ≤ y412.toInt := b436; omega)), (show q_F (y412.toInt ≤ 1) from (show y412.toInt ≤ 1 from by have t1 : y360.toInt ≤ 1 := b364; have t2 : y388.toInt ≤ y360.toInt := b394; have t3 : y412.toInt ≤ y388.toInt := b428; omega)), (show q_F (0 ≤ y416.toInt) from (show 0 ≤ y416.toInt from by have t1 : 0 ≤ y422.toInt := b425; have t2 : y422.toInt ≤ y416.toInt := b437; omega)), (show q_F (y416.toInt ≤ 220) from (show y416.toInt ≤ 220 from by have t1 : 0 ≤ R.toInt ∧ R.toInt ≤ 220 := hfk30; have t2 : y416.toInt ≤ R.toInt := b430; omega)), (show q_F (0 ≤ y417.toInt) from (show 0 ≤ y417.toInt from by have t1 : 0 ≤ y422.toInt := b425; have t2 : y422.toInt ≤ y417.toInt := b438; omega)), (show q_F (y85.toInt ≤ y422.toInt) from (show y85.toInt ≤ y422.toInt from by have t1 : y85.toInt ≤ 0 := b89; have t2 : 0 ≤ y422.toInt := b425; omega)), (show q_F (y422.toInt ≤ y85.toInt) from (show y422.toInt ≤ y85.toInt from by have t1 : 0 ≤ y85.toInt := b88; have t2 : y422.toInt ≤ 0 := b426; omega)), (show q_F (y417.toInt ≤ y80.toInt) from (show y417.toInt ≤ y80.toInt from by have t1 : lx143.toInt ≤ y80.toInt := i160; have t2 : y417.toInt ≤ lx143.toInt := b431; omega)), (show q_F (a482.toInt + y75.toInt ≤ y462.toInt + a128.toInt) from (show a482.toInt + y75.toInt ≤ y462.toInt + a128.toInt from by have t1 : y50.toInt ≤ 1 := b56; have t2 : y75.toInt ≤ y50.toInt := b91; have t3 : lx132.toInt + lx140.toInt ≤ a128.toInt + t6_1.toInt := i162; have t4 : lx132.toInt + t6_1.toInt ≤ lx140.toInt + a128.toInt := i163; have t5 : 0 ≤ y422.toInt := b425; have t6 : y422.toInt ≤ y412.toInt := b436; have t7 : y412.toInt ≤ y462.toInt := b468; have t8 : a482.toInt = lx132.toInt + (-1) := b484; omega)), (show q_F (a482.toInt + y412.toInt ≤ a128.toInt + t6_1.toInt) from (show a482.toInt + y412.toInt ≤ a128.toInt + t6_1.toInt from by have t1 : 0 ≤ lx140.toInt := i153; have t2 : lx132.toInt + lx140.toInt ≤ a128.toInt + t6_1.toInt := i162; have t3 : y360.toInt ≤ 1 := b364; have t4 : y388.toInt ≤ y360.toInt := b394; have t5 : y412.toInt ≤ y388.toInt := b428; have t6 : a482.toInt = lx132.toInt + (-1) := b484; omega)), (show q_F (a482.toInt + t6_1.toInt ≤ y412.toInt + a128.toInt) from (show a482.toInt + t6_1.toInt ≤ y412.toInt + a128.toInt from by have t1 : lx140.toInt ≤ 1 := i154; have t2 : lx132.toInt + t6_1.toInt ≤ lx140.toInt + a128.toInt := i163; have t3 : 0 ≤ y422.toInt := b425; have t4 : y422.toInt ≤ y412.toInt := b436; have t5 : a482.toInt = lx132.toInt + (-1) := b484; omega)), (show q_F (a482.toInt + y80.toInt ≤ y417.toInt + a128.toInt) from (show a482.toInt + y80.toInt ≤ y417.toInt + a128.toInt from by have t1 : 0 ≤ t8_1.toInt ∧ t8_1.toInt ≤ 1 := btt8_1; have t2 : y80.toInt ≤ t8_1.toInt := b94; have t3 : lx132.toInt + lx140.toInt ≤ a128.toInt + t6_1.toInt := i162; have t4 : lx132.toInt + t6_1.toInt ≤ lx140.toInt + a128.toInt := i163; have t5 : 0 ≤ y422.toInt := b425; have t6 : y422.toInt ≤ y417.toInt := b438; have t7 : a482.toInt = lx132.toInt + (-1) := b484; omega)), V, q_lw hl (q_lw1 0 rfl (q_lw1 1 rfl (q_lw1 2 rfl (q_lw1 3 rfl (q_lw1 4 rfl q_lw0))))), hI, hF, hO167, hO168, hO420, hA424, hO460, hA464, hO410, hA414, hO415, hA419, ⟨fm181, Nat.lt_of_lt_of_le (show (a482.toInt - ((-1))).toNat < (lx132.toInt - ((-1))).toNat from by have t1 : a482.toInt = lx132.toInt + (-1) := b484; have t2 : 0 ≤ lx132.toInt + 1 := i145; have t3 : 0 ≤ lx132.toInt := b350; omega) (Nat.le_of_lt_succ hf180), (show F_DW_raiseBelow_L48 x2 R t0_0 t0_1 t1_0 t2_0 t2_1 t3_0 t4_0 t4_1 t5_0 t6_0 t6_1 t7_0 t8_0 t8_1 t9_0 p60 p105 fm181 a482 y421 y422 f423 y461 y462 f463 y411 y412 f413 y416 y417 f418 = (F_DW_raiseBelow x2 R t0_0 t0_1 t1_0 t2_0 t2_1 t3_0 t4_0 t4_1 t5_0 t6_0 t6_1 t7_0 t8_0 t8_1 t9_0) from Eq.trans (by rw [← e483, e476, e475, e474, F_DW_raiseBelow_c125.eq_1]) hR477), (show True ∧ S_DW_raiseBelow_L48 x2 R t0_0 t0_1 t1_0 t2_0 t2_1 t3_0 t4_0 t4_1 t5_0 t6_0 t6_1 t7_0 t8_0 t8_1 t9_0 p60 p105 fm181 a482 y421 y422 f423 y461 y462 f463 y411 y412 f413 y416 y417 f418 from (by rw [← e483, e476, e475, e474]; have h := hS478; rw [S_DW_raiseBelow_c125.eq_1] at h; with_reducible exact h))⟩⟩

theorem d_4_7_0 : decode prog_4_method_7_code 0 = .ok (.aload_n 0, 1) := by decide +kernel
theorem d_4_7_1 : decode prog_4_method_7_code 1 = .ok (.aload_n 1, 1) := by decide +kernel
theorem d_4_7_2 : decode prog_4_method_7_code 2 = .ok (.getfield 48, 3) := by decide +kernel
theorem d_4_7_5 : decode prog_4_method_7_code 5 = .ok (.aload_n 2, 1) := by decide +kernel
theorem d_4_7_6 : decode prog_4_method_7_code 6 = .ok (.getfield 48, 3) := by decide +kernel
theorem d_4_7_9 : decode prog_4_method_7_code 9 = .ok (.invokestatic 83, 3) := by decide +kernel
theorem d_4_7_12 : decode prog_4_method_7_code 12 = .ok (.i2l, 1) := by decide +kernel
theorem d_4_7_13 : decode prog_4_method_7_code 13 = .ok (.putfield 56, 3) := by decide +kernel
theorem d_4_7_16 : decode prog_4_method_7_code 16 = .ok (.aload_n 1, 1) := by decide +kernel
theorem d_4_7_17 : decode prog_4_method_7_code 17 = .ok (.getfield 48, 3) := by decide +kernel
theorem d_4_7_20 : decode prog_4_method_7_code 20 = .ok (.aload_n 2, 1) := by decide +kernel
theorem d_4_7_21 : decode prog_4_method_7_code 21 = .ok (.getfield 48, 3) := by decide +kernel
theorem d_4_7_24 : decode prog_4_method_7_code 24 = .ok (.isub, 1) := by decide +kernel
theorem d_4_7_25 : decode prog_4_method_7_code 25 = .ok (.invokestatic 98, 3) := by decide +kernel
set_option maxRecDepth 100000 in
theorem w_1382 : (Cond.methodLink "NumberHouse$DecimalWork" (98 : Nat) ({ cls := "java/lang/Math", name := "abs", desc := "(I)I" } : MethodName)) ∈ q_tbl := q_of6 182 rfl (by decide +kernel)
theorem LS_DW_98 : q_LS "NumberHouse$DecimalWork" 98 y_jMath_abs_II prog_29_method_59_code 1 (some .int) 1 := ⟨w_1384, w_7, w_1382, w_1383, ⟨by decide, by decide, by decide +kernel⟩⟩
theorem d_4_7_28 : decode prog_4_method_7_code 28 = .ok (.istore_n 3, 1) := by decide +kernel
theorem d_4_7_29 : decode prog_4_method_7_code 29 = .ok (.aload_n 0, 1) := by decide +kernel
theorem d_4_7_30 : decode prog_4_method_7_code 30 = .ok (.getfield 20, 3) := by decide +kernel
theorem d_4_7_33 : decode prog_4_method_7_code 33 = .ok (.getfield 55, 3) := by decide +kernel
theorem d_4_7_36 : decode prog_4_method_7_code 36 = .ok (.aload_n 1, 1) := by decide +kernel
theorem d_4_7_37 : decode prog_4_method_7_code 37 = .ok (.getfield 24, 3) := by decide +kernel
theorem d_4_7_40 : decode prog_4_method_7_code 40 = .ok (.invokevirtual 44, 3) := by decide +kernel
theorem d_4_7_43 : decode prog_4_method_7_code 43 = .ok (.aload_n 1, 1) := by decide +kernel
theorem d_4_7_44 : decode prog_4_method_7_code 44 = .ok (.getfield 48, 3) := by decide +kernel
theorem d_4_7_47 : decode prog_4_method_7_code 47 = .ok (.aload_n 2, 1) := by decide +kernel
theorem d_4_7_48 : decode prog_4_method_7_code 48 = .ok (.getfield 48, 3) := by decide +kernel
theorem d_4_7_51 : decode prog_4_method_7_code 51 = .ok (.if_icmp .ge 15, 3) := by decide +kernel
theorem d_4_7_66 : decode prog_4_method_7_code 66 = .ok (.aload_n 1, 1) := by decide +kernel
theorem d_4_7_67 : decode prog_4_method_7_code 67 = .ok (.getfield 52, 3) := by decide +kernel
theorem d_4_7_70 : decode prog_4_method_7_code 70 = .ok (.aload_n 2, 1) := by decide +kernel
theorem d_4_7_71 : decode prog_4_method_7_code 71 = .ok (.getfield 52, 3) := by decide +kernel
theorem d_4_7_74 : decode prog_4_method_7_code 74 = .ok (.iload_n 3, 1) := by decide +kernel
theorem d_4_7_75 : decode prog_4_method_7_code 75 = .ok (.iadd, 1) := by decide +kernel
theorem d_4_7_76 : decode prog_4_method_7_code 76 = .ok (.if_icmp .lt 52, 3) := by decide +kernel
theorem d_4_7_128 : decode prog_4_method_7_code 128 = .ok (.return_, 1) := by decide +kernel
theorem d_4_7_79 : decode prog_4_method_7_code 79 = .ok (.aload_n 0, 1) := by decide +kernel
theorem d_4_7_80 : decode prog_4_method_7_code 80 = .ok (.getfield 20, 3) := by decide +kernel
theorem d_4_7_83 : decode prog_4_method_7_code 83 = .ok (.getfield 72, 3) := by decide +kernel
theorem d_4_7_86 : decode prog_4_method_7_code 86 = .ok (.aload_n 2, 1) := by decide +kernel
theorem d_4_7_87 : decode prog_4_method_7_code 87 = .ok (.getfield 24, 3) := by decide +kernel
theorem d_4_7_90 : decode prog_4_method_7_code 90 = .ok (.invokevirtual 44, 3) := by decide +kernel
theorem d_4_7_93 : decode prog_4_method_7_code 93 = .ok (.aload_n 0, 1) := by decide +kernel
theorem d_4_7_94 : decode prog_4_method_7_code 94 = .ok (.getfield 20, 3) := by decide +kernel
theorem d_4_7_97 : decode prog_4_method_7_code 97 = .ok (.getfield 72, 3) := by decide +kernel
theorem d_4_7_100 : decode prog_4_method_7_code 100 = .ok (.iload_n 3, 1) := by decide +kernel
theorem d_4_7_101 : decode prog_4_method_7_code 101 = .ok (.invokevirtual 77, 3) := by decide +kernel
theorem d_4_7_104 : decode prog_4_method_7_code 104 = .ok (.aload_n 0, 1) := by decide +kernel
theorem d_4_7_105 : decode prog_4_method_7_code 105 = .ok (.getfield 20, 3) := by decide +kernel
theorem d_4_7_108 : decode prog_4_method_7_code 108 = .ok (.getfield 55, 3) := by decide +kernel
theorem d_4_7_111 : decode prog_4_method_7_code 111 = .ok (.aload_n 0, 1) := by decide +kernel
theorem d_4_7_112 : decode prog_4_method_7_code 112 = .ok (.getfield 20, 3) := by decide +kernel
theorem d_4_7_115 : decode prog_4_method_7_code 115 = .ok (.getfield 72, 3) := by decide +kernel
theorem d_4_7_118 : decode prog_4_method_7_code 118 = .ok (.aload_n 0, 1) := by decide +kernel
theorem d_4_7_119 : decode prog_4_method_7_code 119 = .ok (.getfield 20, 3) := by decide +kernel
theorem d_4_7_122 : decode prog_4_method_7_code 122 = .ok (.getfield 106, 3) := by decide +kernel
theorem d_4_7_125 : decode prog_4_method_7_code 125 = .ok (.invokevirtual 109, 3) := by decide +kernel
theorem d_4_7_54 : decode prog_4_method_7_code 54 = .ok (.aload_n 0, 1) := by decide +kernel
theorem d_4_7_55 : decode prog_4_method_7_code 55 = .ok (.iload_n 3, 1) := by decide +kernel
theorem d_4_7_56 : decode prog_4_method_7_code 56 = .ok (.aload_n 2, 1) := by decide +kernel
theorem d_4_7_57 : decode prog_4_method_7_code 57 = .ok (.getfield 24, 3) := by decide +kernel
theorem d_4_7_60 : decode prog_4_method_7_code 60 = .ok (.invokevirtual 102, 3) := by decide +kernel
set_option maxRecDepth 100000 in
theorem w_1388 : (Cond.code ({ cls := "NumberHouse$DecimalWork", name := "raiseBelow", desc := "(ILNumberHouse$Big;)V" } : MethodName) prog_4_method_8_code (5 : Nat) (none : Option ClassFile.FieldType)) ∈ q_tbl := q_of6 188 rfl (by decide +kernel)
set_option maxRecDepth 100000 in
theorem w_1385 : (Cond.methodLink "NumberHouse$DecimalWork" (102 : Nat) ({ cls := "NumberHouse$DecimalWork", name := "raiseBelow", desc := "(ILNumberHouse$Big;)V" } : MethodName)) ∈ q_tbl := q_of6 185 rfl (by decide +kernel)
set_option maxRecDepth 100000 in
theorem w_1387 : (Cond.instanceMethod ({ cls := "NumberHouse$DecimalWork", name := "raiseBelow", desc := "(ILNumberHouse$Big;)V" } : MethodName)) ∈ q_tbl := q_of6 187 rfl (by decide +kernel)
theorem ws_27 : Cond.selects "NumberHouse$DecimalWork" (⟨"NumberHouse$DecimalWork", "raiseBelow", "(ILNumberHouse$Big;)V"⟩ : MethodName) (⟨"NumberHouse$DecimalWork", "raiseBelow", "(ILNumberHouse$Big;)V"⟩ : MethodName) ∈ q_tbl := q_ofs 27 (by decide +kernel) (by decide +kernel)
theorem LV_DW_102 : q_LV "NumberHouse$DecimalWork" 102 y_DW_raiseBelow prog_4_method_8_code 5 none 2 := ⟨w_1388, w_5, w_1385, w_1387, ws_27, ⟨by decide, by decide, by decide +kernel⟩⟩
theorem d_4_7_63 : decode prog_4_method_7_code 63 = .ok (.goto 65, 3) := by decide +kernel
def y_DW_rest : MethodName := ⟨"NumberHouse$DecimalWork", "rest", "(LNumberHouse$Dec;LNumberHouse$Dec;)V"⟩
def F_DW_rest_c125 (R : Int32) (R2 : Int32) (t0_0 : Int64) (t0_1 : Int32) (t1_0 : Int32) (t1_1 : Int32) (t2_0 : (Nat → Int32)) (t3_0 : Int32) (t3_1 : Int32) (t4_0 : (Nat → Int32)) (t5_0 : Int32) (t5_1 : Int32) (t6_0 : (Nat → Int32)) (t7_0 : Int32) (t7_1 : Int32) (t8_0 : (Nat → Int32)) (t9_0 : Int32) (t9_1 : Int32) (t10_0 : Int32) (t10_1 : Int32) (t11_0 : (Nat → Int32)) (t12_0 : Int32) (t12_1 : Int32) (t13_0 : Int32) (t13_1 : Int32) (t14_0 : (Nat → Int32)) (a76 : Int32) (j66 : Int64) (p96 : (Int32 × Int32 × (Nat → Int32))) (y85 : Int32) (y86 : Int32) (f87 : (Nat → Int32)) (p127 : (Int32 × Int32 × (Nat → Int32))) (p150 : (Int32 × Int32 × (Nat → Int32))) (p195 : (Int32 × Int32 × (Nat → Int32) × Int32 × Int32 × (Nat → Int32) × Int32 × Int32 × (Nat → Int32))) : Int64 × Int32 × Int32 × Int32 × (Nat → Int32) × Int32 × Int32 × (Nat → Int32) × Int32 × Int32 × (Nat → Int32) × Int32 × Int32 × (Nat → Int32) × Int32 × Int32 × (Nat → Int32) := (j66, t0_1, (p195.1 : Int32), (p195.2.1 : Int32), (p195.2.2.1 : (Nat → Int32)), (p195.2.2.2.2.2.2.1 : Int32), (p195.2.2.2.2.2.2.2.1 : Int32), (p195.2.2.2.2.2.2.2.2 : (Nat → Int32)), (p195.2.2.2.1 : Int32), (p195.2.2.2.2.1 : Int32), (p195.2.2.2.2.2.1 : (Nat → Int32)), t7_0, t7_1, t8_0, t13_0, t13_1, t14_0)
def F_DW_rest_c101 (R : Int32) (R2 : Int32) (t0_0 : Int64) (t0_1 : Int32) (t1_0 : Int32) (t1_1 : Int32) (t2_0 : (Nat → Int32)) (t3_0 : Int32) (t3_1 : Int32) (t4_0 : (Nat → Int32)) (t5_0 : Int32) (t5_1 : Int32) (t6_0 : (Nat → Int32)) (t7_0 : Int32) (t7_1 : Int32) (t8_0 : (Nat → Int32)) (t9_0 : Int32) (t9_1 : Int32) (t10_0 : Int32) (t10_1 : Int32) (t11_0 : (Nat → Int32)) (t12_0 : Int32) (t12_1 : Int32) (t13_0 : Int32) (t13_1 : Int32) (t14_0 : (Nat → Int32)) (a76 : Int32) (j66 : Int64) (p96 : (Int32 × Int32 × (Nat → Int32))) (y85 : Int32) (y86 : Int32) (f87 : (Nat → Int32)) (p127 : (Int32 × Int32 × (Nat → Int32))) (p150 : (Int32 × Int32 × (Nat → Int32))) : Int64 × Int32 × Int32 × Int32 × (Nat → Int32) × Int32 × Int32 × (Nat → Int32) × Int32 × Int32 × (Nat → Int32) × Int32 × Int32 × (Nat → Int32) × Int32 × Int32 × (Nat → Int32) := F_DW_rest_c125 R R2 t0_0 t0_1 t1_0 t1_1 t2_0 t3_0 t3_1 t4_0 t5_0 t5_1 t6_0 t7_0 t7_1 t8_0 t9_0 t9_1 t10_0 t10_1 t11_0 t12_0 t12_1 t13_0 t13_1 t14_0 a76 j66 p96 y85 y86 f87 p127 p150 ((F_Big_divideBy (220 : Int32) (220 : Int32) (220 : Int32) y85 y86 f87 (p150.1 : Int32) (p150.2.1 : Int32) (p150.2.2 : (Nat → Int32)) t3_0 t3_1 t4_0) : (Int32 × Int32 × (Nat → Int32) × Int32 × Int32 × (Nat → Int32) × Int32 × Int32 × (Nat → Int32)))
def F_DW_rest_c90 (R : Int32) (R2 : Int32) (t0_0 : Int64) (t0_1 : Int32) (t1_0 : Int32) (t1_1 : Int32) (t2_0 : (Nat → Int32)) (t3_0 : Int32) (t3_1 : Int32) (t4_0 : (Nat → Int32)) (t5_0 : Int32) (t5_1 : Int32) (t6_0 : (Nat → Int32)) (t7_0 : Int32) (t7_1 : Int32) (t8_0 : (Nat → Int32)) (t9_0 : Int32) (t9_1 : Int32) (t10_0 : Int32) (t10_1 : Int32) (t11_0 : (Nat → Int32)) (t12_0 : Int32) (t12_1 : Int32) (t13_0 : Int32) (t13_1 : Int32) (t14_0 : (Nat → Int32)) (a76 : Int32) (j66 : Int64) (p96 : (Int32 × Int32 × (Nat → Int32))) (y85 : Int32) (y86 : Int32) (f87 : (Nat → Int32)) (p127 : (Int32 × Int32 × (Nat → Int32))) : Int64 × Int32 × Int32 × Int32 × (Nat → Int32) × Int32 × Int32 × (Nat → Int32) × Int32 × Int32 × (Nat → Int32) × Int32 × Int32 × (Nat → Int32) × Int32 × Int32 × (Nat → Int32) := F_DW_rest_c101 R R2 t0_0 t0_1 t1_0 t1_1 t2_0 t3_0 t3_1 t4_0 t5_0 t5_1 t6_0 t7_0 t7_1 t8_0 t9_0 t9_1 t10_0 t10_1 t11_0 t12_0 t12_1 t13_0 t13_1 t14_0 a76 j66 p96 y85 y86 f87 p127 ((F_Big_timesTen (220 : Int32) a76 (p127.1 : Int32) (p127.2.1 : Int32) (p127.2.2 : (Nat → Int32))) : (Int32 × Int32 × (Nat → Int32)))
def F_DW_rest_c60 (R : Int32) (R2 : Int32) (t0_0 : Int64) (t0_1 : Int32) (t1_0 : Int32) (t1_1 : Int32) (t2_0 : (Nat → Int32)) (t3_0 : Int32) (t3_1 : Int32) (t4_0 : (Nat → Int32)) (t5_0 : Int32) (t5_1 : Int32) (t6_0 : (Nat → Int32)) (t7_0 : Int32) (t7_1 : Int32) (t8_0 : (Nat → Int32)) (t9_0 : Int32) (t9_1 : Int32) (t10_0 : Int32) (t10_1 : Int32) (t11_0 : (Nat → Int32)) (t12_0 : Int32) (t12_1 : Int32) (t13_0 : Int32) (t13_1 : Int32) (t14_0 : (Nat → Int32)) (a76 : Int32) (j66 : Int64) (p96 : (Int32 × Int32 × (Nat → Int32))) (p262 : (Int32 × Int32 × (Nat → Int32) × Int32 × Int32 × (Nat → Int32) × Int32 × Int32 × (Nat → Int32) × Int32 × Int32 × (Nat → Int32) × Int32 × Int32 × (Nat → Int32))) : Int64 × Int32 × Int32 × Int32 × (Nat → Int32) × Int32 × Int32 × (Nat → Int32) × Int32 × Int32 × (Nat → Int32) × Int32 × Int32 × (Nat → Int32) × Int32 × Int32 × (Nat → Int32) := (j66, t0_1, (p262.1 : Int32), (p262.2.1 : Int32), (p262.2.2.1 : (Nat → Int32)), (p262.2.2.2.1 : Int32), (p262.2.2.2.2.1 : Int32), (p262.2.2.2.2.2.1 : (Nat → Int32)), (p262.2.2.2.2.2.2.1 : Int32), (p262.2.2.2.2.2.2.2.1 : Int32), (p262.2.2.2.2.2.2.2.2.1 : (Nat → Int32)), (p262.2.2.2.2.2.2.2.2.2.1 : Int32), (p262.2.2.2.2.2.2.2.2.2.2.1 : Int32), (p262.2.2.2.2.2.2.2.2.2.2.2.1 : (Nat → Int32)), (p262.2.2.2.2.2.2.2.2.2.2.2.2.1 : Int32), (p262.2.2.2.2.2.2.2.2.2.2.2.2.2.1 : Int32), (p262.2.2.2.2.2.2.2.2.2.2.2.2.2.2 : (Nat → Int32)))
def F_DW_rest_c40 (R : Int32) (R2 : Int32) (t0_0 : Int64) (t0_1 : Int32) (t1_0 : Int32) (t1_1 : Int32) (t2_0 : (Nat → Int32)) (t3_0 : Int32) (t3_1 : Int32) (t4_0 : (Nat → Int32)) (t5_0 : Int32) (t5_1 : Int32) (t6_0 : (Nat → Int32)) (t7_0 : Int32) (t7_1 : Int32) (t8_0 : (Nat → Int32)) (t9_0 : Int32) (t9_1 : Int32) (t10_0 : Int32) (t10_1 : Int32) (t11_0 : (Nat → Int32)) (t12_0 : Int32) (t12_1 : Int32) (t13_0 : Int32) (t13_1 : Int32) (t14_0 : (Nat → Int32)) (a76 : Int32) (j66 : Int64) (p96 : (Int32 × Int32 × (Nat → Int32))) : Int64 × Int32 × Int32 × Int32 × (Nat → Int32) × Int32 × Int32 × (Nat → Int32) × Int32 × Int32 × (Nat → Int32) × Int32 × Int32 × (Nat → Int32) × Int32 × Int32 × (Nat → Int32) := if t12_0 ≤ t9_0 then (if t9_1 < (t12_1 + a76 : Int32) then ((j66, t0_1, (p96.1 : Int32), (p96.2.1 : Int32), (p96.2.2 : (Nat → Int32)), t3_0, t3_1, t4_0, t5_0, t5_1, t6_0, t7_0, t7_1, t8_0, t13_0, t13_1, t14_0)) else (F_DW_rest_c90 R R2 t0_0 t0_1 t1_0 t1_1 t2_0 t3_0 t3_1 t4_0 t5_0 t5_1 t6_0 t7_0 t7_1 t8_0 t9_0 t9_1 t10_0 t10_1 t11_0 t12_0 t12_1 t13_0 t13_1 t14_0 a76 j66 p96 (p96.1 : Int32) (p96.2.1 : Int32) (p96.2.2 : (Nat → Int32)) ((F_Big_copy (220 : Int32) R2 t5_0 t5_1 t6_0 t13_0 t13_1 t14_0) : (Int32 × Int32 × (Nat → Int32))))) else (F_DW_rest_c60 R R2 t0_0 t0_1 t1_0 t1_1 t2_0 t3_0 t3_1 t4_0 t5_0 t5_1 t6_0 t7_0 t7_1 t8_0 t9_0 t9_1 t10_0 t10_1 t11_0 t12_0 t12_1 t13_0 t13_1 t14_0 a76 j66 p96 ((F_DW_raiseBelow a76 R2 (p96.1 : Int32) (p96.2.1 : Int32) (p96.2.2 : (Nat → Int32)) t3_0 t3_1 t4_0 t5_0 t5_1 t6_0 t7_0 t7_1 t8_0 t13_0 t13_1 t14_0) : (Int32 × Int32 × (Nat → Int32) × Int32 × Int32 × (Nat → Int32) × Int32 × Int32 × (Nat → Int32) × Int32 × Int32 × (Nat → Int32) × Int32 × Int32 × (Nat → Int32))))
def F_DW_rest (R : Int32) (R2 : Int32) (t0_0 : Int64) (t0_1 : Int32) (t1_0 : Int32) (t1_1 : Int32) (t2_0 : (Nat → Int32)) (t3_0 : Int32) (t3_1 : Int32) (t4_0 : (Nat → Int32)) (t5_0 : Int32) (t5_1 : Int32) (t6_0 : (Nat → Int32)) (t7_0 : Int32) (t7_1 : Int32) (t8_0 : (Nat → Int32)) (t9_0 : Int32) (t9_1 : Int32) (t10_0 : Int32) (t10_1 : Int32) (t11_0 : (Nat → Int32)) (t12_0 : Int32) (t12_1 : Int32) (t13_0 : Int32) (t13_1 : Int32) (t14_0 : (Nat → Int32)) : Int64 × Int32 × Int32 × Int32 × (Nat → Int32) × Int32 × Int32 × (Nat → Int32) × Int32 × Int32 × (Nat → Int32) × Int32 × Int32 × (Nat → Int32) × Int32 × Int32 × (Nat → Int32) := F_DW_rest_c40 R R2 t0_0 t0_1 t1_0 t1_1 t2_0 t3_0 t3_1 t4_0 t5_0 t5_1 t6_0 t7_0 t7_1 t8_0 t9_0 t9_1 t10_0 t10_1 t11_0 t12_0 t12_1 t13_0 t13_1 t14_0 ((F_jMath_abs_II (t9_0 - t12_0 : Int32)) : Int32) ((if t9_0 < t12_0 then t12_0 else t9_0 : Int32).toInt64 : Int64) ((F_Big_copy (220 : Int32) R t1_0 t1_1 t2_0 t10_0 t10_1 t11_0) : (Int32 × Int32 × (Nat → Int32)))
def S_DW_rest_c125 (R : Int32) (R2 : Int32) (t0_0 : Int64) (t0_1 : Int32) (t1_0 : Int32) (t1_1 : Int32) (t2_0 : (Nat → Int32)) (t3_0 : Int32) (t3_1 : Int32) (t4_0 : (Nat → Int32)) (t5_0 : Int32) (t5_1 : Int32) (t6_0 : (Nat → Int32)) (t7_0 : Int32) (t7_1 : Int32) (t8_0 : (Nat → Int32)) (t9_0 : Int32) (t9_1 : Int32) (t10_0 : Int32) (t10_1 : Int32) (t11_0 : (Nat → Int32)) (t12_0 : Int32) (t12_1 : Int32) (t13_0 : Int32) (t13_1 : Int32) (t14_0 : (Nat → Int32)) (a76 : Int32) (j66 : Int64) (p96 : (Int32 × Int32 × (Nat → Int32))) (y85 : Int32) (y86 : Int32) (f87 : (Nat → Int32)) (p127 : (Int32 × Int32 × (Nat → Int32))) (p150 : (Int32 × Int32 × (Nat → Int32))) (p195 : (Int32 × Int32 × (Nat → Int32) × Int32 × Int32 × (Nat → Int32) × Int32 × Int32 × (Nat → Int32))) : Prop := True
def S_DW_rest_c101 (R : Int32) (R2 : Int32) (t0_0 : Int64) (t0_1 : Int32) (t1_0 : Int32) (t1_1 : Int32) (t2_0 : (Nat → Int32)) (t3_0 : Int32) (t3_1 : Int32) (t4_0 : (Nat → Int32)) (t5_0 : Int32) (t5_1 : Int32) (t6_0 : (Nat → Int32)) (t7_0 : Int32) (t7_1 : Int32) (t8_0 : (Nat → Int32)) (t9_0 : Int32) (t9_1 : Int32) (t10_0 : Int32) (t10_1 : Int32) (t11_0 : (Nat → Int32)) (t12_0 : Int32) (t12_1 : Int32) (t13_0 : Int32) (t13_1 : Int32) (t14_0 : (Nat → Int32)) (a76 : Int32) (j66 : Int64) (p96 : (Int32 × Int32 × (Nat → Int32))) (y85 : Int32) (y86 : Int32) (f87 : (Nat → Int32)) (p127 : (Int32 × Int32 × (Nat → Int32))) (p150 : (Int32 × Int32 × (Nat → Int32))) : Prop := (True ∧ S_Big_divideBy (220 : Int32) (220 : Int32) (220 : Int32) y85 y86 f87 (p150.1 : Int32) (p150.2.1 : Int32) (p150.2.2 : (Nat → Int32)) t3_0 t3_1 t4_0) ∧ (S_DW_rest_c125 R R2 t0_0 t0_1 t1_0 t1_1 t2_0 t3_0 t3_1 t4_0 t5_0 t5_1 t6_0 t7_0 t7_1 t8_0 t9_0 t9_1 t10_0 t10_1 t11_0 t12_0 t12_1 t13_0 t13_1 t14_0 a76 j66 p96 y85 y86 f87 p127 p150 ((F_Big_divideBy (220 : Int32) (220 : Int32) (220 : Int32) y85 y86 f87 (p150.1 : Int32) (p150.2.1 : Int32) (p150.2.2 : (Nat → Int32)) t3_0 t3_1 t4_0) : (Int32 × Int32 × (Nat → Int32) × Int32 × Int32 × (Nat → Int32) × Int32 × Int32 × (Nat → Int32))))
def S_DW_rest_c90 (R : Int32) (R2 : Int32) (t0_0 : Int64) (t0_1 : Int32) (t1_0 : Int32) (t1_1 : Int32) (t2_0 : (Nat → Int32)) (t3_0 : Int32) (t3_1 : Int32) (t4_0 : (Nat → Int32)) (t5_0 : Int32) (t5_1 : Int32) (t6_0 : (Nat → Int32)) (t7_0 : Int32) (t7_1 : Int32) (t8_0 : (Nat → Int32)) (t9_0 : Int32) (t9_1 : Int32) (t10_0 : Int32) (t10_1 : Int32) (t11_0 : (Nat → Int32)) (t12_0 : Int32) (t12_1 : Int32) (t13_0 : Int32) (t13_1 : Int32) (t14_0 : (Nat → Int32)) (a76 : Int32) (j66 : Int64) (p96 : (Int32 × Int32 × (Nat → Int32))) (y85 : Int32) (y86 : Int32) (f87 : (Nat → Int32)) (p127 : (Int32 × Int32 × (Nat → Int32))) : Prop := S_DW_rest_c101 R R2 t0_0 t0_1 t1_0 t1_1 t2_0 t3_0 t3_1 t4_0 t5_0 t5_1 t6_0 t7_0 t7_1 t8_0 t9_0 t9_1 t10_0 t10_1 t11_0 t12_0 t12_1 t13_0 t13_1 t14_0 a76 j66 p96 y85 y86 f87 p127 ((F_Big_timesTen (220 : Int32) a76 (p127.1 : Int32) (p127.2.1 : Int32) (p127.2.2 : (Nat → Int32))) : (Int32 × Int32 × (Nat → Int32)))
def S_DW_rest_c60 (R : Int32) (R2 : Int32) (t0_0 : Int64) (t0_1 : Int32) (t1_0 : Int32) (t1_1 : Int32) (t2_0 : (Nat → Int32)) (t3_0 : Int32) (t3_1 : Int32) (t4_0 : (Nat → Int32)) (t5_0 : Int32) (t5_1 : Int32) (t6_0 : (Nat → Int32)) (t7_0 : Int32) (t7_1 : Int32) (t8_0 : (Nat → Int32)) (t9_0 : Int32) (t9_1 : Int32) (t10_0 : Int32) (t10_1 : Int32) (t11_0 : (Nat → Int32)) (t12_0 : Int32) (t12_1 : Int32) (t13_0 : Int32) (t13_1 : Int32) (t14_0 : (Nat → Int32)) (a76 : Int32) (j66 : Int64) (p96 : (Int32 × Int32 × (Nat → Int32))) (p262 : (Int32 × Int32 × (Nat → Int32) × Int32 × Int32 × (Nat → Int32) × Int32 × Int32 × (Nat → Int32) × Int32 × Int32 × (Nat → Int32) × Int32 × Int32 × (Nat → Int32))) : Prop := True
def S_DW_rest_c40 (R : Int32) (R2 : Int32) (t0_0 : Int64) (t0_1 : Int32) (t1_0 : Int32) (t1_1 : Int32) (t2_0 : (Nat → Int32)) (t3_0 : Int32) (t3_1 : Int32) (t4_0 : (Nat → Int32)) (t5_0 : Int32) (t5_1 : Int32) (t6_0 : (Nat → Int32)) (t7_0 : Int32) (t7_1 : Int32) (t8_0 : (Nat → Int32)) (t9_0 : Int32) (t9_1 : Int32) (t10_0 : Int32) (t10_1 : Int32) (t11_0 : (Nat → Int32)) (t12_0 : Int32) (t12_1 : Int32) (t13_0 : Int32) (t13_1 : Int32) (t14_0 : (Nat → Int32)) (a76 : Int32) (j66 : Int64) (p96 : (Int32 × Int32 × (Nat → Int32))) : Prop := if t12_0 ≤ t9_0 then (if t9_1 < (t12_1 + a76 : Int32) then (True) else (S_DW_rest_c90 R R2 t0_0 t0_1 t1_0 t1_1 t2_0 t3_0 t3_1 t4_0 t5_0 t5_1 t6_0 t7_0 t7_1 t8_0 t9_0 t9_1 t10_0 t10_1 t11_0 t12_0 t12_1 t13_0 t13_1 t14_0 a76 j66 p96 (p96.1 : Int32) (p96.2.1 : Int32) (p96.2.2 : (Nat → Int32)) ((F_Big_copy (220 : Int32) R2 t5_0 t5_1 t6_0 t13_0 t13_1 t14_0) : (Int32 × Int32 × (Nat → Int32))))) else ((True ∧ S_DW_raiseBelow a76 R2 (p96.1 : Int32) (p96.2.1 : Int32) (p96.2.2 : (Nat → Int32)) t3_0 t3_1 t4_0 t5_0 t5_1 t6_0 t7_0 t7_1 t8_0 t13_0 t13_1 t14_0) ∧ (S_DW_rest_c60 R R2 t0_0 t0_1 t1_0 t1_1 t2_0 t3_0 t3_1 t4_0 t5_0 t5_1 t6_0 t7_0 t7_1 t8_0 t9_0 t9_1 t10_0 t10_1 t11_0 t12_0 t12_1 t13_0 t13_1 t14_0 a76 j66 p96 ((F_DW_raiseBelow a76 R2 (p96.1 : Int32) (p96.2.1 : Int32) (p96.2.2 : (Nat → Int32)) t3_0 t3_1 t4_0 t5_0 t5_1 t6_0 t7_0 t7_1 t8_0 t13_0 t13_1 t14_0) : (Int32 × Int32 × (Nat → Int32) × Int32 × Int32 × (Nat → Int32) × Int32 × Int32 × (Nat → Int32) × Int32 × Int32 × (Nat → Int32) × Int32 × Int32 × (Nat → Int32)))))
def S_DW_rest (R : Int32) (R2 : Int32) (t0_0 : Int64) (t0_1 : Int32) (t1_0 : Int32) (t1_1 : Int32) (t2_0 : (Nat → Int32)) (t3_0 : Int32) (t3_1 : Int32) (t4_0 : (Nat → Int32)) (t5_0 : Int32) (t5_1 : Int32) (t6_0 : (Nat → Int32)) (t7_0 : Int32) (t7_1 : Int32) (t8_0 : (Nat → Int32)) (t9_0 : Int32) (t9_1 : Int32) (t10_0 : Int32) (t10_1 : Int32) (t11_0 : (Nat → Int32)) (t12_0 : Int32) (t12_1 : Int32) (t13_0 : Int32) (t13_1 : Int32) (t14_0 : (Nat → Int32)) : Prop := S_DW_rest_c40 R R2 t0_0 t0_1 t1_0 t1_1 t2_0 t3_0 t3_1 t4_0 t5_0 t5_1 t6_0 t7_0 t7_1 t8_0 t9_0 t9_1 t10_0 t10_1 t11_0 t12_0 t12_1 t13_0 t13_1 t14_0 ((F_jMath_abs_II (t9_0 - t12_0 : Int32)) : Int32) ((if t9_0 < t12_0 then t12_0 else t9_0 : Int32).toInt64 : Int64) ((F_Big_copy (220 : Int32) R t1_0 t1_1 t2_0 t10_0 t10_1 t11_0) : (Int32 × Int32 × (Nat → Int32)))
set_option maxRecDepth 100000 in
set_option maxHeartbeats 4000000 in
theorem X_DW_rest (l : Launch) (D : va_G) (g : Nat → ClassId) (q : Nat → Nat) (ws : va_W) (k2 : Nat) (R : Int32) (hB2 : q_isDec (nsh g q) g q k2 R) (zk2 : (10 ≤ k2 ∧ k2 ≤ 31) ∨ 66 ≤ k2) (k3 : Nat) (R2 : Int32) (hB3 : q_isDec (nsh g q) g q k3 R2) (zk3 : (10 ≤ k3 ∧ k3 ≤ 31) ∨ 66 ≤ k3) (ne_k2_10 : k2 ≠ 10) (ne_k2_11 : k2 ≠ 11) (ne_k2_9 : k2 ≠ 9) (ne_k2_8 : k2 ≠ 8) (ne_k2_12 : k2 ≠ 12) (ne_k2_13 : k2 ≠ 13) (ne_k2_22 : k2 ≠ 22) (ne_k2_23 : k2 ≠ 23) (ne_k2_21 : k2 ≠ 21) (ne_k2_20 : k2 ≠ 20) (ne_k2_24 : k2 ≠ 24) (ne_k2_25 : k2 ≠ 25) (ne_k2_30 : k2 ≠ 30) (ne_k2_31 : k2 ≠ 31) (ne_k2_29 : k2 ≠ 29) (ne_k2_28 : k2 ≠ 28) (ne_k3_10 : k3 ≠ 10) (ne_k3_11 : k3 ≠ 11) (ne_k3_9 : k3 ≠ 9) (ne_k3_8 : k3 ≠ 8) (ne_k3_12 : k3 ≠ 12) (ne_k3_13 : k3 ≠ 13) (ne_k3_22 : k3 ≠ 22) (ne_k3_23 : k3 ≠ 23) (ne_k3_21 : k3 ≠ 21) (ne_k3_20 : k3 ≠ 20) (ne_k3_24 : k3 ≠ 24) (ne_k3_25 : k3 ≠ 25) (ne_k3_30 : k3 ≠ 30) (ne_k3_31 : k3 ≠ 31) (ne_k3_29 : k3 ≠ 29) (ne_k3_28 : k3 ≠ 28) (ne_k2_k3 : k2 ≠ k3) (ne_k2_k3p1 : k2 ≠ k3 + 1) (ne_k2_k3p2 : k2 ≠ k3 + 2) (ne_k3_k2p1 : k3 ≠ k2 + 1) (ne_k3_k2p2 : k3 ≠ k2 + 2) (hI : q_I (nsh g q) q ws) (t0_0 : Int64) (t0_1 : Int32) (hT0 : ws[30]? = (some (q 30, .inr (5, [.ref (q 31), .long t0_0, .ref (q 9), .int t0_1])) : Option (Nat × va_E))) (t1_0 : Int32) (t1_1 : Int32) (hT1 : ws[10]? = (some (q 10, .inr (2, [.ref (q 11), .int t1_0, .int t1_1])) : Option (Nat × va_E))) (t2_0 : (Nat → Int32)) (hT2 : ws[11]? = (some (q 11, .inl (g 0, (220 : Int32).toNatClampNeg, .inl t2_0)) : Option (Nat × va_E))) (t3_0 : Int32) (t3_1 : Int32) (hT3 : ws[12]? = (some (q 12, .inr (2, [.ref (q 13), .int t3_0, .int t3_1])) : Option (Nat × va_E))) (t4_0 : (Nat → Int32)) (hT4 : ws[13]? = (some (q 13, .inl (g 0, (220 : Int32).toNatClampNeg, .inl t4_0)) : Option (Nat × va_E))) (t5_0 : Int32) (t5_1 : Int32) (hT5 : ws[22]? = (some (q 22, .inr (2, [.ref (q 23), .int t5_0, .int t5_1])) : Option (Nat × va_E))) (t6_0 : (Nat → Int32)) (hT6 : ws[23]? = (some (q 23, .inl (g 0, (220 : Int32).toNatClampNeg, .inl t6_0)) : Option (Nat × va_E))) (t7_0 : Int32) (t7_1 : Int32) (hT7 : ws[24]? = (some (q 24, .inr (2, [.ref (q 25), .int t7_0, .int t7_1])) : Option (Nat × va_E))) (t8_0 : (Nat → Int32)) (hT8 : ws[25]? = (some (q 25, .inl (g 0, (220 : Int32).toNatClampNeg, .inl t8_0)) : Option (Nat × va_E))) (t9_0 : Int32) (t9_1 : Int32) (hT9 : ws[k2]? = (some (q k2, .inr (3, [.ref (q (k2 + 1)), .int t9_0, .int t9_1])) : Option (Nat × va_E))) (t10_0 : Int32) (t10_1 : Int32) (hT10 : ws[k2 + 1]? = (some (q (k2 + 1), .inr (2, [.ref (q (k2 + 2)), .int t10_0, .int t10_1])) : Option (Nat × va_E))) (t11_0 : (Nat → Int32)) (hT11 : ws[k2 + 2]? = (some (q (k2 + 2), .inl (g 0, R.toNatClampNeg, .inl t11_0)) : Option (Nat × va_E))) (t12_0 : Int32) (t12_1 : Int32) (hT12 : ws[k3]? = (some (q k3, .inr (3, [.ref (q (k3 + 1)), .int t12_0, .int t12_1])) : Option (Nat × va_E))) (t13_0 : Int32) (t13_1 : Int32) (hT13 : ws[k3 + 1]? = (some (q (k3 + 1), .inr (2, [.ref (q (k3 + 2)), .int t13_0, .int t13_1])) : Option (Nat × va_E))) (t14_0 : (Nat → Int32)) (hT14 : ws[k3 + 2]? = (some (q (k3 + 2), .inl (g 0, R2.toNatClampNeg, .inl t14_0)) : Option (Nat × va_E))) (hS : True ∧ S_DW_rest R R2 t0_0 t0_1 t1_0 t1_1 t2_0 t3_0 t3_1 t4_0 t5_0 t5_1 t6_0 t7_0 t7_1 t8_0 t9_0 t9_1 t10_0 t10_1 t11_0 t12_0 t12_1 t13_0 t13_1 t14_0) : q_mV l y_DW_rest prog_4_method_7_code 4 6 0 0 D g [.ref (q 30), .ref (q k2), .ref (q k3)] ws (fun u => q_I (nsh g q) q u ∧ q_un ws u [10, 11, 12, 13, 22, 23, 24, 25, 30, k3 + 1, k3 + 2] ∧ ∃ (u0_0 : Int64) (u0_1 : Int32) (u1_0 : Int32) (u1_1 : Int32) (u2_0 : (Nat → Int32)) (u3_0 : Int32) (u3_1 : Int32) (u4_0 : (Nat → Int32)) (u5_0 : Int32) (u5_1 : Int32) (u6_0 : (Nat → Int32)) (u7_0 : Int32) (u7_1 : Int32) (u8_0 : (Nat → Int32)) (u13_0 : Int32) (u13_1 : Int32) (u14_0 : (Nat → Int32)), u[30]? = (some (q 30, .inr (5, [.ref (q 31), .long u0_0, .ref (q 9), .int u0_1])) : Option (Nat × va_E)) ∧ u[10]? = (some (q 10, .inr (2, [.ref (q 11), .int u1_0, .int u1_1])) : Option (Nat × va_E)) ∧ u[11]? = (some (q 11, .inl (g 0, (220 : Int32).toNatClampNeg, .inl u2_0)) : Option (Nat × va_E)) ∧ u[12]? = (some (q 12, .inr (2, [.ref (q 13), .int u3_0, .int u3_1])) : Option (Nat × va_E)) ∧ u[13]? = (some (q 13, .inl (g 0, (220 : Int32).toNatClampNeg, .inl u4_0)) : Option (Nat × va_E)) ∧ u[22]? = (some (q 22, .inr (2, [.ref (q 23), .int u5_0, .int u5_1])) : Option (Nat × va_E)) ∧ u[23]? = (some (q 23, .inl (g 0, (220 : Int32).toNatClampNeg, .inl u6_0)) : Option (Nat × va_E)) ∧ u[24]? = (some (q 24, .inr (2, [.ref (q 25), .int u7_0, .int u7_1])) : Option (Nat × va_E)) ∧ u[25]? = (some (q 25, .inl (g 0, (220 : Int32).toNatClampNeg, .inl u8_0)) : Option (Nat × va_E)) ∧ u[k3 + 1]? = (some (q (k3 + 1), .inr (2, [.ref (q (k3 + 2)), .int u13_0, .int u13_1])) : Option (Nat × va_E)) ∧ u[k3 + 2]? = (some (q (k3 + 2), .inl (g 0, R2.toNatClampNeg, .inl u14_0)) : Option (Nat × va_E)) ∧ (0 ≤ u0_0.toInt + 10000) ∧ (u0_0.toInt ≤ 10000) ∧ (0 ≤ u0_1.toInt) ∧ (u0_1.toInt ≤ 1) ∧ (0 ≤ u1_0.toInt) ∧ (u1_0.toInt ≤ 220) ∧ (0 ≤ u1_1.toInt) ∧ (u1_1.toInt ≤ 1) ∧ (0 ≤ u3_0.toInt) ∧ (u3_0.toInt ≤ 220) ∧ (0 ≤ u3_1.toInt) ∧ (u3_1.toInt ≤ 1) ∧ (0 ≤ u5_0.toInt) ∧ (u5_0.toInt ≤ 220) ∧ (0 ≤ u5_1.toInt) ∧ (0 ≤ u7_0.toInt) ∧ (u7_0.toInt ≤ 220) ∧ (0 ≤ u7_1.toInt) ∧ (u7_1.toInt ≤ 1) ∧ (0 ≤ u13_0.toInt) ∧ (u13_0.toInt ≤ 220) ∧ (0 ≤ u13_1.toInt) ∧ (u13_1.toInt ≤ 1) ∧ (t9_0.toInt ≤ u0_0.toInt) ∧ (t12_0.toInt ≤ u0_0.toInt) ∧ (t0_1.toInt ≤ u0_1.toInt) ∧ (u0_1.toInt ≤ t0_1.toInt) ∧ (u1_1.toInt ≤ t10_1.toInt) ∧ (u3_1.toInt ≤ t3_1.toInt) ∧ (u13_0.toInt ≤ R2.toInt) ∧ (u13_1.toInt ≤ t13_1.toInt) ∧ (u0_0, u0_1, u1_0, u1_1, u2_0, u3_0, u3_1, u4_0, u5_0, u5_1, u6_0, u7_0, u7_1, u8_0, u13_0, u13_1, u14_0) = (F_DW_rest R R2 t0_0 t0_1 t1_0 t1_1 t2_0 t3_0 t3_1 t4_0 t5_0 t5_1 t6_0 t7_0 t7_1 t8_0 t9_0 t9_1 t10_0 t10_1 t11_0 t12_0 t12_1 t13_0 t13_1 t14_0)) := by
  intro sz
  refine q_into (by decide) (Nat.le_of_ble_eq_true rfl) ?_
  intro p e s m below meth c ls hsz C0 V hl
  have hx := C0.1
  have hb := C0.2.1
  have hfk30 : q_F (0 ≤ R2.toInt ∧ R2.toInt ≤ 220) := hB3.2.2.2
  have btt0_1 := n_w30 hI hT0
  replace btt0_1 : q_F (0 ≤ t0_1.toInt ∧ t0_1.toInt ≤ 1) := btt0_1
  have btt1_1 := (q_bigW hI (n_b10 g q) hT1).2
  clear btt1_1
  obtain ⟨btt3_0, btt3_1⟩ := q_bigW hI (n_b12 g q) hT3
  replace btt3_0 : q_F (0 ≤ t3_0.toInt ∧ t3_0.toInt ≤ 220) := btt3_0
  replace btt3_1 : q_F (0 ≤ t3_1.toInt ∧ t3_1.toInt ≤ 1) := btt3_1
  obtain ⟨btt5_0, btt5_1⟩ := q_bigW hI (n_b22 g q) hT5
  replace btt5_0 : q_F (0 ≤ t5_0.toInt ∧ t5_0.toInt ≤ 220) := btt5_0
  replace btt5_1 : q_F (0 ≤ t5_1.toInt ∧ t5_1.toInt ≤ 1) := btt5_1
  obtain ⟨btt7_0, btt7_1⟩ := q_bigW hI (n_b24 g q) hT7
  replace btt7_0 : q_F (0 ≤ t7_0.toInt ∧ t7_0.toInt ≤ 220) := btt7_0
  replace btt7_1 : q_F (0 ≤ t7_1.toInt ∧ t7_1.toInt ≤ 1) := btt7_1
  have btt9_0 := (n_deW hI hB2 hT9).1
  replace btt9_0 : q_F (-10000 ≤ t9_0.toInt ∧ t9_0.toInt ≤ 10000) := btt9_0
  have btt10_1 := (q_bigW hI hB2.2 hT10).2
  replace btt10_1 : q_F (0 ≤ t10_1.toInt ∧ t10_1.toInt ≤ 1) := btt10_1
  have btt12_0 := (n_deW hI hB3 hT12).1
  replace btt12_0 : q_F (-10000 ≤ t12_0.toInt ∧ t12_0.toInt ≤ 10000) := btt12_0
  obtain ⟨btt13_0, btt13_1⟩ := q_bigW hI hB3.2 hT13
  replace btt13_0 : q_F (0 ≤ t13_0.toInt ∧ t13_0.toInt ≤ R2.toInt) := btt13_0
  replace btt13_1 : q_F (0 ≤ t13_1.toInt ∧ t13_1.toInt ≤ 1) := btt13_1
  have hF : q_un ws ws [10, 11, 12, 13, 22, 23, 24, 25, 30, k3 + 1, k3 + 2] := q_u0
  have hl : lv_has ls 4 [(0, .ref (q 30)), (1, .ref (q k2)), (2, .ref (q k3))] := hl
  refine lv_aload_n hx hb d_4_7_0 rfl (lv_at hl 0 rfl) ?_
  refine lv_aload_n hx hb d_4_7_1 rfl (lv_at hl 1 rfl) ?_
  refine q_get (ci := 3) (j := 1) (v := .int t9_0) C0 V i_Dec rfl rfl hT9 (by decide) w_176 rfl d_4_7_2 ?_
  refine lv_aload_n hx hb d_4_7_5 rfl (lv_at hl 2 rfl) ?_
  refine q_get (ci := 3) (j := 1) (v := .int t12_0) C0 V i_Dec rfl rfl hT12 (by decide) w_176 rfl d_4_7_6 ?_
  refine q_max C0 hl.1 rfl w_1370 w_803 w_7 w_804 ⟨Nat.le_of_ble_eq_true rfl, Nat.le_of_ble_eq_true rfl⟩ ⟨Nat.le_of_ble_eq_true rfl, Nat.le_of_ble_eq_true rfl⟩ d_4_7_9 ?_
  obtain ⟨a63, e64⟩ := q_nm (if t9_0 < t12_0 then t12_0 else t9_0 : Int32)
  refine q_ti (v := a63) e64 ?_
  have b65 : q_F (t9_0.toInt ≤ a63.toInt ∧ t12_0.toInt ≤ a63.toInt ∧ (a63.toInt = t9_0.toInt ∨ a63.toInt = t12_0.toInt)) := (by rw [← e64]; show t9_0.toInt ≤ (if t9_0 < t12_0 then t12_0 else t9_0 : Int32).toInt ∧ t12_0.toInt ≤ (if t9_0 < t12_0 then t12_0 else t9_0 : Int32).toInt ∧ ((if t9_0 < t12_0 then t12_0 else t9_0 : Int32).toInt = t9_0.toInt ∨ (if t9_0 < t12_0 then t12_0 else t9_0 : Int32).toInt = t12_0.toInt); exact s_max (a := t9_0) (b := t12_0))
  refine lv_i2l hx hb d_4_7_12 rfl ?_
  obtain ⟨j66, e67⟩ := q_nm (a63.toInt64 : Int64)
  refine q_tl (v := j66) e67 ?_
  have b68 : q_F (j66.toInt = a63.toInt) := (by rw [← e67]; show (a63.toInt64 : Int64).toInt = a63.toInt; exact q_i2l rfl)
  refine q_put (ci := 5) (j := 1) (v := .long j66) (ty := .long) C0 V i_DW o_DW n_DW rfl rfl hT0 (by decide) w_212 rfl rfl rfl rfl (Nat.le_of_ble_eq_true rfl) d_4_7_13 (fun H locs w69 hu70 hT0 V => ?_)
  replace hT0 : w69[30]? = (some (q 30, .inr (5, [.ref (q 31), .long j66, .ref (q 9), .int t0_1])) : Option (Nat × va_E)) := hT0
  replace hI := n_p30 hI hu70 hT0 (by first | with_reducible exact q_fe btt0_1 | exact ⟨(by have t1 : 0 ≤ t0_1.toInt ∧ t0_1.toInt ≤ 1 := btt0_1; omega), (by have t1 : 0 ≤ t0_1.toInt ∧ t0_1.toInt ≤ 1 := btt0_1; omega)⟩)
  replace hT1 := (hu70 _ (by decide)).trans hT1
  replace hT2 := (hu70 _ (by decide)).trans hT2
  replace hT3 := (hu70 _ (by decide)).trans hT3
  replace hT4 := (hu70 _ (by decide)).trans hT4
  replace hT5 := (hu70 _ (by decide)).trans hT5
  replace hT6 := (hu70 _ (by decide)).trans hT6
  replace hT7 := (hu70 _ (by decide)).trans hT7
  replace hT8 := (hu70 _ (by decide)).trans hT8
  replace hT9 := (hu70 _ (by have z := ne_k2_30; omega)).trans hT9
  replace hT10 := (hu70 _ (by have z := ne_k2_29; omega)).trans hT10
  replace hT11 := (hu70 _ (by have z := ne_k2_28; omega)).trans hT11
  replace hT12 := (hu70 _ (by have z := ne_k3_30; omega)).trans hT12
  replace hT13 := (hu70 _ (by have z := ne_k3_29; omega)).trans hT13
  replace hT14 := (hu70 _ (by have z := ne_k3_28; omega)).trans hT14
  replace hF := q_us hF hu70 (by simp)
  refine lv_aload_n hx hb d_4_7_16 rfl (lv_at hl 1 rfl) ?_
  refine q_get (ci := 3) (j := 1) (v := .int t9_0) C0 V i_Dec rfl rfl hT9 (by decide) w_176 rfl d_4_7_17 ?_
  refine lv_aload_n hx hb d_4_7_20 rfl (lv_at hl 2 rfl) ?_
  refine q_get (ci := 3) (j := 1) (v := .int t12_0) C0 V i_Dec rfl rfl hT12 (by decide) w_176 rfl d_4_7_21 ?_
  refine lv_isub hx hb d_4_7_24 ?_
  obtain ⟨a71, e72⟩ := q_nm (t9_0 - t12_0 : Int32)
  refine q_ti (v := a71) e72 ?_
  have b73 : q_F (a71.toInt = t9_0.toInt - t12_0.toInt) := (by rw [← e72]; show (t9_0 - t12_0 : Int32).toInt = t9_0.toInt - t12_0.toInt; exact q_subI (x := t9_0.toInt) (y := t12_0.toInt) rfl rfl (by have t1 : -10000 ≤ t9_0.toInt ∧ t9_0.toInt ≤ 10000 := btt9_0; have t2 : -10000 ≤ t12_0.toInt ∧ t12_0.toInt ≤ 10000 := btt12_0; omega) (by have t1 : -10000 ≤ t9_0.toInt ∧ t9_0.toInt ≤ 10000 := btt9_0; have t2 : -10000 ≤ t12_0.toInt ∧ t12_0.toInt ≤ 10000 := btt12_0; omega))
  refine q_goi V (q_runS (As := [.int a71]) (rest := []) (d := 1) (mc := 0) (ms := 0) C0 V rfl LS_DW_98 (X_jMath_abs_II l D g q w69  a71 hI  (by have t1 : -10000 ≤ t9_0.toInt ∧ t9_0.toInt ≤ 10000 := btt9_0; have t2 : -10000 ≤ t12_0.toInt ∧ t12_0.toInt ≤ 10000 := btt12_0; have t3 : a71.toInt = t9_0.toInt - t12_0.toInt := b73; omega) _) rfl hl.1 rfl (Nat.le_of_ble_eq_true rfl) ⟨by decide, by decide⟩ ⟨Nat.le_of_ble_eq_true rfl, Nat.le_of_ble_eq_true rfl⟩ d_4_7_25) (fun a76 u74 H locs hp75 V => ?_)
  obtain ⟨rfl, b77, b78, hE79⟩ := hp75
  have e80 : a76 = (F_jMath_abs_II a71) := hE79
  clear b77
  clear b78
  refine lv_istore_n (lv' := [(3, .int a76), (0, .ref (q 30)), (1, .ref (q k2)), (2, .ref (q k3))]) hx hb d_4_7_28 rfl hl (by decide) rfl (fun ls hl => ?_)
  refine lv_aload_n hx hb d_4_7_29 rfl (lv_at hl 1 rfl) ?_
  refine q_get (ci := 5) (j := 2) (v := .ref (q 9)) C0 V i_DW rfl rfl hT0 (by decide) w_214 rfl d_4_7_30 ?_
  have hO81 := n_o9 hI
  refine q_get (ci := 4) (j := 0) (v := .ref (q 10)) C0 V i_Mil rfl rfl hO81 (by decide) w_111 rfl d_4_7_33 ?_
  refine lv_aload_n hx hb d_4_7_36 rfl (lv_at hl 2 rfl) ?_
  refine q_get (ci := 3) (j := 0) (v := .ref (q (k2 + 1))) C0 V i_Dec rfl rfl hT9 (by decide) w_171 rfl d_4_7_37 ?_
  refine q_gov V (q_runV (As := [.ref (q (k2 + 1))]) (rest := []) (d := 2) (mc := 0) (ms := 0) (ci := 2) C0 V rfl LV_DW_44 (X_Big_copy l D g q w69 10 220 (n_b10 g q) (by decide) (k2 + 1) R hB2.2 (by have z := zk2; omega)  (by have z := ne_k2_9; omega) hI t1_0 t1_1 hT1 t2_0 hT2 t10_0 t10_1 hT10 t11_0 hT11  _) rfl rfl hT1 rfl hl.1 rfl (Nat.le_of_ble_eq_true rfl) ⟨by decide, by decide⟩ ⟨Nat.le_of_ble_eq_true rfl, Nat.le_of_ble_eq_true rfl⟩ d_4_7_40) (fun u82 H locs hp83 V => ?_)
  obtain ⟨hI, hZ9⟩ := hp83
  obtain ⟨hu95, hZ9⟩ := hZ9
  obtain ⟨y85, hZ9⟩ := hZ9
  obtain ⟨y86, hZ9⟩ := hZ9
  obtain ⟨f87, hZ9⟩ := hZ9
  obtain ⟨hO84, hZ9⟩ := hZ9
  obtain ⟨hA88, hZ9⟩ := hZ9
  obtain ⟨b89, hZ9⟩ := hZ9
  replace hZ9 := hZ9.2
  obtain ⟨b91, hZ9⟩ := hZ9
  obtain ⟨b92, hZ9⟩ := hZ9
  obtain ⟨b93, hE94⟩ := hZ9
  replace hO84 : u82[10]? = (some (q 10, .inr (2, [.ref (q 11), .int y85, .int y86])) : Option (Nat × va_E)) := hO84
  replace hA88 : u82[11]? = (some (q 11, .inl (g 0, (220 : Int32).toNatClampNeg, .inl f87)) : Option (Nat × va_E)) := hA88
  obtain ⟨p96, e97⟩ : ∃ z, z = (F_Big_copy (220 : Int32) R t1_0 t1_1 t2_0 t10_0 t10_1 t11_0) := ⟨_, rfl⟩
  have e98 : y85 = p96.1 := congrArg (fun z => z.1) (hE94.trans e97.symm)
  have e99 : y86 = p96.2.1 := congrArg (fun z => z.2.1) (hE94.trans e97.symm)
  have e100 : f87 = p96.2.2 := congrArg (fun z => z.2.2) (hE94.trans e97.symm)
  replace b89 : q_F (0 ≤ y85.toInt) := b89
  replace b91 : q_F (y85.toInt ≤ 220) := b91
  replace b92 : q_F (t10_1.toInt ≤ y86.toInt) := b92
  replace b93 : q_F (y86.toInt ≤ t10_1.toInt) := b93
  replace hT0 := (hu95 _ (by decide)).trans hT0
  replace hT3 := (hu95 _ (by decide)).trans hT3
  replace hT4 := (hu95 _ (by decide)).trans hT4
  replace hT5 := (hu95 _ (by decide)).trans hT5
  replace hT6 := (hu95 _ (by decide)).trans hT6
  replace hT7 := (hu95 _ (by decide)).trans hT7
  replace hT8 := (hu95 _ (by decide)).trans hT8
  replace hT9 := (hu95 _ (by have z0 := zk2; simp only [List.mem_cons, List.not_mem_nil, or_false, not_or]; omega)).trans hT9
  replace hT12 := (hu95 _ (by have z0 := zk3; simp only [List.mem_cons, List.not_mem_nil, or_false, not_or]; omega)).trans hT12
  replace hT13 := (hu95 _ (by have z0 := zk3; simp only [List.mem_cons, List.not_mem_nil, or_false, not_or]; omega)).trans hT13
  replace hT14 := (hu95 _ (by have z0 := zk3; simp only [List.mem_cons, List.not_mem_nil, or_false, not_or]; omega)).trans hT14
  replace hO81 := (hu95 _ (by decide)).trans hO81
  replace hF := q_uc hF hu95 (by first | exact (q_sk (q_mi 0 rfl) (q_sk (q_mi 1 rfl) q_s0)) | simp)
  have hR101 := (show F_DW_rest_c40 R R2 t0_0 t0_1 t1_0 t1_1 t2_0 t3_0 t3_1 t4_0 t5_0 t5_1 t6_0 t7_0 t7_1 t8_0 t9_0 t9_1 t10_0 t10_1 t11_0 t12_0 t12_1 t13_0 t13_1 t14_0 a76 j66 p96 = (F_DW_rest R R2 t0_0 t0_1 t1_0 t1_1 t2_0 t3_0 t3_1 t4_0 t5_0 t5_1 t6_0 t7_0 t7_1 t8_0 t9_0 t9_1 t10_0 t10_1 t11_0 t12_0 t12_1 t13_0 t13_1 t14_0) from (by rw [e97, e80, ← e72, ← e67, ← e64, F_DW_rest.eq_1]))
  have hS102 := (show True ∧ S_DW_rest_c40 R R2 t0_0 t0_1 t1_0 t1_1 t2_0 t3_0 t3_1 t4_0 t5_0 t5_1 t6_0 t7_0 t7_1 t8_0 t9_0 t9_1 t10_0 t10_1 t11_0 t12_0 t12_1 t13_0 t13_1 t14_0 a76 j66 p96 from (by rw [e97, e80, ← e72, ← e67, ← e64]; have h := hS; rw [S_DW_rest.eq_1] at h; with_reducible exact h))
  refine lv_aload_n hx hb d_4_7_43 rfl (lv_at hl 2 rfl) ?_
  refine q_get (ci := 3) (j := 1) (v := .int t9_0) C0 V i_Dec rfl rfl hT9 (by decide) w_176 rfl d_4_7_44 ?_
  refine lv_aload_n hx hb d_4_7_47 rfl (lv_at hl 3 rfl) ?_
  refine q_get (ci := 3) (j := 1) (v := .int t12_0) C0 V i_Dec rfl rfl hT12 (by decide) w_176 rfl d_4_7_48 ?_
  refine lv_icmp_ge (tgt := 66) hx hb d_4_7_51 (by decide) (fun c106 => ?_) (fun c106 => ?_)
  ·
    refine lv_aload_n hx hb d_4_7_66 rfl (lv_at hl 2 rfl) ?_
    refine q_get (ci := 3) (j := 2) (v := .int t9_1) C0 V i_Dec rfl rfl hT9 (by decide) w_180 rfl d_4_7_67 ?_
    refine lv_aload_n hx hb d_4_7_70 rfl (lv_at hl 3 rfl) ?_
    refine q_get (ci := 3) (j := 2) (v := .int t12_1) C0 V i_Dec rfl rfl hT12 (by decide) w_180 rfl d_4_7_71 ?_
    refine lv_iload_n hx hb d_4_7_74 rfl (lv_at hl 0 rfl) ?_
    refine lv_iadd hx hb d_4_7_75 ?_
    obtain ⟨a108, e109⟩ := q_nm (t12_1 + a76 : Int32)
    refine q_ti (v := a108) e109 ?_
    refine lv_icmp_lt (tgt := 128) hx hb d_4_7_76 (by decide) (fun c110 => ?_) (fun c110 => ?_)
    ·
      exact q_retv C0 V (⟨hI, hF, j66, t0_1, y85, y86, f87, t3_0, t3_1, t4_0, t5_0, t5_1, t6_0, t7_0, t7_1, t8_0, t13_0, t13_1, t14_0, hT0, hO84, hA88, hT3, hT4, hT5, hT6, hT7, hT8, hT13, hT14, (show 0 ≤ j66.toInt + 10000 from (by have t1 : -10000 ≤ t9_0.toInt ∧ t9_0.toInt ≤ 10000 := btt9_0; have t2 : t9_0.toInt ≤ a63.toInt ∧ t12_0.toInt ≤ a63.toInt ∧ (a63.toInt = t9_0.toInt ∨ a63.toInt = t12_0.toInt) := b65; have t3 : j66.toInt = a63.toInt := b68; omega)), (show j66.toInt ≤ 10000 from (by have t1 : -10000 ≤ t9_0.toInt ∧ t9_0.toInt ≤ 10000 := btt9_0; have t2 : -10000 ≤ t12_0.toInt ∧ t12_0.toInt ≤ 10000 := btt12_0; have t3 : t9_0.toInt ≤ a63.toInt ∧ t12_0.toInt ≤ a63.toInt ∧ (a63.toInt = t9_0.toInt ∨ a63.toInt = t12_0.toInt) := b65; have t4 : j66.toInt = a63.toInt := b68; omega)), (show 0 ≤ t0_1.toInt from (by first | with_reducible exact (q_fe btt0_1).2 | with_reducible exact (q_fe btt0_1).1 | (have t1 : 0 ≤ t0_1.toInt ∧ t0_1.toInt ≤ 1 := btt0_1; omega))), (show t0_1.toInt ≤ 1 from (by first | with_reducible exact (q_fe btt0_1).2 | with_reducible exact (q_fe btt0_1).1 | (have t1 : 0 ≤ t0_1.toInt ∧ t0_1.toInt ≤ 1 := btt0_1; omega))), (show 0 ≤ y85.toInt from (by first | with_reducible exact q_fe b89 | (have t1 : 0 ≤ y85.toInt := b89; omega))), (show y85.toInt ≤ 220 from (by first | with_reducible exact q_fe b91 | (have t1 : y85.toInt ≤ 220 := b91; omega))), (show 0 ≤ y86.toInt from (by have t1 : 0 ≤ t10_1.toInt ∧ t10_1.toInt ≤ 1 := btt10_1; have t2 : t10_1.toInt ≤ y86.toInt := b92; omega)), (show y86.toInt ≤ 1 from (by have t1 : 0 ≤ t10_1.toInt ∧ t10_1.toInt ≤ 1 := btt10_1; have t2 : y86.toInt ≤ t10_1.toInt := b93; omega)), (show 0 ≤ t3_0.toInt from (by first | with_reducible exact (q_fe btt3_0).2 | with_reducible exact (q_fe btt3_0).1 | (have t1 : 0 ≤ t3_0.toInt ∧ t3_0.toInt ≤ 220 := btt3_0; omega))), (show t3_0.toInt ≤ 220 from (by first | with_reducible exact (q_fe btt3_0).2 | with_reducible exact (q_fe btt3_0).1 | (have t1 : 0 ≤ t3_0.toInt ∧ t3_0.toInt ≤ 220 := btt3_0; omega))), (show 0 ≤ t3_1.toInt from (by first | with_reducible exact (q_fe btt3_1).2 | with_reducible exact (q_fe btt3_1).1 | (have t1 : 0 ≤ t3_1.toInt ∧ t3_1.toInt ≤ 1 := btt3_1; omega))), (show t3_1.toInt ≤ 1 from (by first | with_reducible exact (q_fe btt3_1).2 | with_reducible exact (q_fe btt3_1).1 | (have t1 : 0 ≤ t3_1.toInt ∧ t3_1.toInt ≤ 1 := btt3_1; omega))), (show 0 ≤ t5_0.toInt from (by first | with_reducible exact (q_fe btt5_0).2 | with_reducible exact (q_fe btt5_0).1 | (have t1 : 0 ≤ t5_0.toInt ∧ t5_0.toInt ≤ 220 := btt5_0; omega))), (show t5_0.toInt ≤ 220 from (by first | with_reducible exact (q_fe btt5_0).2 | with_reducible exact (q_fe btt5_0).1 | (have t1 : 0 ≤ t5_0.toInt ∧ t5_0.toInt ≤ 220 := btt5_0; omega))), (show 0 ≤ t5_1.toInt from (by first | with_reducible exact (q_fe btt5_1).2 | with_reducible exact (q_fe btt5_1).1 | (have t1 : 0 ≤ t5_1.toInt ∧ t5_1.toInt ≤ 1 := btt5_1; omega))), (show 0 ≤ t7_0.toInt from (by first | with_reducible exact (q_fe btt7_0).2 | with_reducible exact (q_fe btt7_0).1 | (have t1 : 0 ≤ t7_0.toInt ∧ t7_0.toInt ≤ 220 := btt7_0; omega))), (show t7_0.toInt ≤ 220 from (by first | with_reducible exact (q_fe btt7_0).2 | with_reducible exact (q_fe btt7_0).1 | (have t1 : 0 ≤ t7_0.toInt ∧ t7_0.toInt ≤ 220 := btt7_0; omega))), (show 0 ≤ t7_1.toInt from (by first | with_reducible exact (q_fe btt7_1).2 | with_reducible exact (q_fe btt7_1).1 | (have t1 : 0 ≤ t7_1.toInt ∧ t7_1.toInt ≤ 1 := btt7_1; omega))), (show t7_1.toInt ≤ 1 from (by first | with_reducible exact (q_fe btt7_1).2 | with_reducible exact (q_fe btt7_1).1 | (have t1 : 0 ≤ t7_1.toInt ∧ t7_1.toInt ≤ 1 := btt7_1; omega))), (show 0 ≤ t13_0.toInt from (by first | with_reducible exact (q_fe btt13_0).2 | with_reducible exact (q_fe btt13_0).1 | (have t1 : 0 ≤ t13_0.toInt ∧ t13_0.toInt ≤ R2.toInt := btt13_0; omega))), (show t13_0.toInt ≤ 220 from (by have t1 : 0 ≤ R2.toInt ∧ R2.toInt ≤ 220 := hfk30; have t2 : 0 ≤ t13_0.toInt ∧ t13_0.toInt ≤ R2.toInt := btt13_0; omega)), (show 0 ≤ t13_1.toInt from (by first | with_reducible exact (q_fe btt13_1).2 | with_reducible exact (q_fe btt13_1).1 | (have t1 : 0 ≤ t13_1.toInt ∧ t13_1.toInt ≤ 1 := btt13_1; omega))), (show t13_1.toInt ≤ 1 from (by first | with_reducible exact (q_fe btt13_1).2 | with_reducible exact (q_fe btt13_1).1 | (have t1 : 0 ≤ t13_1.toInt ∧ t13_1.toInt ≤ 1 := btt13_1; omega))), (show t9_0.toInt ≤ j66.toInt from (by have t1 : t9_0.toInt ≤ a63.toInt ∧ t12_0.toInt ≤ a63.toInt ∧ (a63.toInt = t9_0.toInt ∨ a63.toInt = t12_0.toInt) := b65; have t2 : j66.toInt = a63.toInt := b68; omega)), (show t12_0.toInt ≤ j66.toInt from (by have t1 : t9_0.toInt ≤ a63.toInt ∧ t12_0.toInt ≤ a63.toInt ∧ (a63.toInt = t9_0.toInt ∨ a63.toInt = t12_0.toInt) := b65; have t2 : j66.toInt = a63.toInt := b68; omega)), (show t0_1.toInt ≤ t0_1.toInt from (by omega)), (show t0_1.toInt ≤ t0_1.toInt from (by omega)), (show y86.toInt ≤ t10_1.toInt from (by first | with_reducible exact q_fe b93 | (have t1 : y86.toInt ≤ t10_1.toInt := b93; omega))), (show t3_1.toInt ≤ t3_1.toInt from (by omega)), (show t13_0.toInt ≤ R2.toInt from (by first | with_reducible exact (q_fe btt13_0).2 | with_reducible exact (q_fe btt13_0).1 | (have t1 : 0 ≤ t13_0.toInt ∧ t13_0.toInt ≤ R2.toInt := btt13_0; omega))), (show t13_1.toInt ≤ t13_1.toInt from (by omega)), (show (j66, t0_1, y85, y86, f87, t3_0, t3_1, t4_0, t5_0, t5_1, t6_0, t7_0, t7_1, t8_0, t13_0, t13_1, t14_0) = (F_DW_rest R R2 t0_0 t0_1 t1_0 t1_1 t2_0 t3_0 t3_1 t4_0 t5_0 t5_1 t6_0 t7_0 t7_1 t8_0 t9_0 t9_1 t10_0 t10_1 t11_0 t12_0 t12_1 t13_0 t13_1 t14_0) from Eq.trans (by have c110x := c110; rw [← e109] at c110x; rw [e100, e99, e98, F_DW_rest_c40.eq_1, if_pos c106, if_pos c110x]) hR101)⟩) d_4_7_128
    ·
      refine lv_aload_n hx hb d_4_7_79 rfl (lv_at hl 1 rfl) ?_
      refine q_get (ci := 5) (j := 2) (v := .ref (q 9)) C0 V i_DW rfl rfl hT0 (by decide) w_214 rfl d_4_7_80 ?_
      refine q_get (ci := 4) (j := 6) (v := .ref (q 22)) C0 V i_Mil rfl rfl hO81 (by decide) w_126 rfl d_4_7_83 ?_
      refine lv_aload_n hx hb d_4_7_86 rfl (lv_at hl 3 rfl) ?_
      refine q_get (ci := 3) (j := 0) (v := .ref (q (k3 + 1))) C0 V i_Dec rfl rfl hT12 (by decide) w_171 rfl d_4_7_87 ?_
      refine q_gov V (q_runV (As := [.ref (q (k3 + 1))]) (rest := []) (d := 2) (mc := 0) (ms := 0) (ci := 2) C0 V rfl LV_DW_44 (X_Big_copy l D g q u82 22 220 (n_b22 g q) (by decide) (k3 + 1) R2 hB3.2 (by have z := zk3; omega)  (by have z := ne_k3_21; omega) hI t5_0 t5_1 hT5 t6_0 hT6 t13_0 t13_1 hT13 t14_0 hT14  _) rfl rfl hT5 rfl hl.1 rfl (Nat.le_of_ble_eq_true rfl) ⟨by decide, by decide⟩ ⟨Nat.le_of_ble_eq_true rfl, Nat.le_of_ble_eq_true rfl⟩ d_4_7_90) (fun u113 H locs hp114 V => ?_)
      obtain ⟨hI, hZ9⟩ := hp114
      obtain ⟨hu126, hZ9⟩ := hZ9
      obtain ⟨y116, hZ9⟩ := hZ9
      obtain ⟨y117, hZ9⟩ := hZ9
      obtain ⟨f118, hZ9⟩ := hZ9
      obtain ⟨hO115, hZ9⟩ := hZ9
      obtain ⟨hA119, hZ9⟩ := hZ9
      replace hZ9 := hZ9.2.2.2.2
      obtain ⟨-, hE125⟩ := hZ9
      replace hO115 : u113[22]? = (some (q 22, .inr (2, [.ref (q 23), .int y116, .int y117])) : Option (Nat × va_E)) := hO115
      replace hA119 : u113[23]? = (some (q 23, .inl (g 0, (220 : Int32).toNatClampNeg, .inl f118)) : Option (Nat × va_E)) := hA119
      obtain ⟨p127, e128⟩ : ∃ z, z = (F_Big_copy (220 : Int32) R2 t5_0 t5_1 t6_0 t13_0 t13_1 t14_0) := ⟨_, rfl⟩
      have e129 : y116 = p127.1 := congrArg (fun z => z.1) (hE125.trans e128.symm)
      have e130 : y117 = p127.2.1 := congrArg (fun z => z.2.1) (hE125.trans e128.symm)
      have e131 : f118 = p127.2.2 := congrArg (fun z => z.2.2) (hE125.trans e128.symm)
      replace hT0 := (hu126 _ (by decide)).trans hT0
      replace hO84 := (hu126 _ (by decide)).trans hO84
      replace hA88 := (hu126 _ (by decide)).trans hA88
      replace hT3 := (hu126 _ (by decide)).trans hT3
      replace hT4 := (hu126 _ (by decide)).trans hT4
      replace hT7 := (hu126 _ (by decide)).trans hT7
      replace hT8 := (hu126 _ (by decide)).trans hT8
      replace hT13 := (hu126 _ (by have z0 := zk3; simp only [List.mem_cons, List.not_mem_nil, or_false, not_or]; omega)).trans hT13
      replace hT14 := (hu126 _ (by have z0 := zk3; simp only [List.mem_cons, List.not_mem_nil, or_false, not_or]; omega)).trans hT14
      replace hO81 := (hu126 _ (by decide)).trans hO81
      replace hF := q_uc hF hu126 (by first | exact (q_sk (q_mi 4 rfl) (q_sk (q_mi 5 rfl) q_s0)) | simp)
      have hR132 := (show F_DW_rest_c90 R R2 t0_0 t0_1 t1_0 t1_1 t2_0 t3_0 t3_1 t4_0 t5_0 t5_1 t6_0 t7_0 t7_1 t8_0 t9_0 t9_1 t10_0 t10_1 t11_0 t12_0 t12_1 t13_0 t13_1 t14_0 a76 j66 p96 y85 y86 f87 p127 = (F_DW_rest R R2 t0_0 t0_1 t1_0 t1_1 t2_0 t3_0 t3_1 t4_0 t5_0 t5_1 t6_0 t7_0 t7_1 t8_0 t9_0 t9_1 t10_0 t10_1 t11_0 t12_0 t12_1 t13_0 t13_1 t14_0) from Eq.trans (by have c110x := c110; rw [← e109] at c110x; rw [e128, e100, e99, e98, F_DW_rest_c40.eq_1, if_pos c106, if_neg c110x]) hR101)
      have hS133 := (show True ∧ S_DW_rest_c90 R R2 t0_0 t0_1 t1_0 t1_1 t2_0 t3_0 t3_1 t4_0 t5_0 t5_1 t6_0 t7_0 t7_1 t8_0 t9_0 t9_1 t10_0 t10_1 t11_0 t12_0 t12_1 t13_0 t13_1 t14_0 a76 j66 p96 y85 y86 f87 p127 from (by rw [e128, e100, e99, e98]; have h := hS102; rw [S_DW_rest_c40.eq_1] at h; rw [if_pos c106] at h; have c110x := c110; rw [← e109] at c110x; rw [if_neg c110x] at h; with_reducible exact h))
      refine lv_aload_n hx hb d_4_7_93 rfl (lv_at hl 1 rfl) ?_
      refine q_get (ci := 5) (j := 2) (v := .ref (q 9)) C0 V i_DW rfl rfl hT0 (by decide) w_214 rfl d_4_7_94 ?_
      refine q_get (ci := 4) (j := 6) (v := .ref (q 22)) C0 V i_Mil rfl rfl hO81 (by decide) w_126 rfl d_4_7_97 ?_
      refine lv_iload_n hx hb d_4_7_100 rfl (lv_at hl 0 rfl) ?_
      refine q_gov V (q_runV (As := [.int a76]) (rest := []) (d := 2) (mc := 0) (ms := 0) (ci := 2) C0 V rfl LV_DW_77 (X_Big_timesTen l D g q u113 22 220 (n_b22 g q) (by decide) a76 hI y116 y117 hO115 f118 hA119  _) rfl rfl hO115 rfl hl.1 rfl (Nat.le_of_ble_eq_true rfl) ⟨by decide, by decide⟩ ⟨Nat.le_of_ble_eq_true rfl, Nat.le_of_ble_eq_true rfl⟩ d_4_7_101) (fun u137 H locs hp138 V => ?_)
      obtain ⟨hI, hZ9⟩ := hp138
      obtain ⟨hu149, hZ9⟩ := hZ9
      obtain ⟨y140, hZ9⟩ := hZ9
      obtain ⟨y141, hZ9⟩ := hZ9
      obtain ⟨f142, hZ9⟩ := hZ9
      obtain ⟨hO139, hZ9⟩ := hZ9
      obtain ⟨hA143, hZ9⟩ := hZ9
      replace hZ9 := hZ9.2.2.2
      obtain ⟨-, hE148⟩ := hZ9
      replace hO139 : u137[22]? = (some (q 22, .inr (2, [.ref (q 23), .int y140, .int y141])) : Option (Nat × va_E)) := hO139
      replace hA143 : u137[23]? = (some (q 23, .inl (g 0, (220 : Int32).toNatClampNeg, .inl f142)) : Option (Nat × va_E)) := hA143
      obtain ⟨p150, e151⟩ : ∃ z, z = (F_Big_timesTen (220 : Int32) a76 y116 y117 f118) := ⟨_, rfl⟩
      have e152 : y140 = p150.1 := congrArg (fun z => z.1) (hE148.trans e151.symm)
      have e153 : y141 = p150.2.1 := congrArg (fun z => z.2.1) (hE148.trans e151.symm)
      have e154 : f142 = p150.2.2 := congrArg (fun z => z.2.2) (hE148.trans e151.symm)
      replace hT0 := (hu149 _ (by decide)).trans hT0
      replace hO84 := (hu149 _ (by decide)).trans hO84
      replace hA88 := (hu149 _ (by decide)).trans hA88
      replace hT3 := (hu149 _ (by decide)).trans hT3
      replace hT4 := (hu149 _ (by decide)).trans hT4
      replace hT7 := (hu149 _ (by decide)).trans hT7
      replace hT8 := (hu149 _ (by decide)).trans hT8
      replace hT13 := (hu149 _ (by have z0 := zk3; simp only [List.mem_cons, List.not_mem_nil, or_false, not_or]; omega)).trans hT13
      replace hT14 := (hu149 _ (by have z0 := zk3; simp only [List.mem_cons, List.not_mem_nil, or_false, not_or]; omega)).trans hT14
      replace hO81 := (hu149 _ (by decide)).trans hO81
      replace hF := q_uc hF hu149 (by first | exact (q_sk (q_mi 4 rfl) (q_sk (q_mi 5 rfl) q_s0)) | simp)
      have hR155 := (show F_DW_rest_c101 R R2 t0_0 t0_1 t1_0 t1_1 t2_0 t3_0 t3_1 t4_0 t5_0 t5_1 t6_0 t7_0 t7_1 t8_0 t9_0 t9_1 t10_0 t10_1 t11_0 t12_0 t12_1 t13_0 t13_1 t14_0 a76 j66 p96 y85 y86 f87 p127 p150 = (F_DW_rest R R2 t0_0 t0_1 t1_0 t1_1 t2_0 t3_0 t3_1 t4_0 t5_0 t5_1 t6_0 t7_0 t7_1 t8_0 t9_0 t9_1 t10_0 t10_1 t11_0 t12_0 t12_1 t13_0 t13_1 t14_0) from Eq.trans (by rw [e151, e131, e130, e129, F_DW_rest_c90.eq_1]) hR132)
      have hS156 := (show True ∧ S_DW_rest_c101 R R2 t0_0 t0_1 t1_0 t1_1 t2_0 t3_0 t3_1 t4_0 t5_0 t5_1 t6_0 t7_0 t7_1 t8_0 t9_0 t9_1 t10_0 t10_1 t11_0 t12_0 t12_1 t13_0 t13_1 t14_0 a76 j66 p96 y85 y86 f87 p127 p150 from (by rw [e151, e131, e130, e129]; have h := hS133; rw [S_DW_rest_c90.eq_1] at h; with_reducible exact h))
      refine lv_aload_n hx hb d_4_7_104 rfl (lv_at hl 1 rfl) ?_
      refine q_get (ci := 5) (j := 2) (v := .ref (q 9)) C0 V i_DW rfl rfl hT0 (by decide) w_214 rfl d_4_7_105 ?_
      refine q_get (ci := 4) (j := 0) (v := .ref (q 10)) C0 V i_Mil rfl rfl hO81 (by decide) w_111 rfl d_4_7_108 ?_
      refine lv_aload_n hx hb d_4_7_111 rfl (lv_at hl 1 rfl) ?_
      refine q_get (ci := 5) (j := 2) (v := .ref (q 9)) C0 V i_DW rfl rfl hT0 (by decide) w_214 rfl d_4_7_112 ?_
      refine q_get (ci := 4) (j := 6) (v := .ref (q 22)) C0 V i_Mil rfl rfl hO81 (by decide) w_126 rfl d_4_7_115 ?_
      refine lv_aload_n hx hb d_4_7_118 rfl (lv_at hl 1 rfl) ?_
      refine q_get (ci := 5) (j := 2) (v := .ref (q 9)) C0 V i_DW rfl rfl hT0 (by decide) w_214 rfl d_4_7_119 ?_
      refine q_get (ci := 4) (j := 1) (v := .ref (q 12)) C0 V i_Mil rfl rfl hO81 (by decide) w_115 rfl d_4_7_122 ?_
      have ob160 : True ∧ S_Big_divideBy (220 : Int32) (220 : Int32) (220 : Int32) y85 y86 f87 y140 y141 f142 t3_0 t3_1 t4_0 := (by rw [e154, e153, e152]; have h := hS156; rw [S_DW_rest_c101.eq_1] at h; with_reducible exact h.2.1)
      refine q_gov V (q_runV (As := [.ref (q 22), .ref (q 12)]) (rest := []) (d := 4) (mc := 0) (ms := 0) (ci := 2) C0 V rfl LV_DW_109 (X_Big_divideBy l D g q u137 10 220 (n_b10 g q) (by decide) 22 220 (n_b22 g q) (by decide) 12 220 (n_b12 g q) (by decide)  (by decide) (by decide) (by decide) hI y85 y86 hO84 f87 hA88 y140 y141 hO139 f142 hA143 t3_0 t3_1 hT3 t4_0 hT4 ob160 _) rfl rfl hO84 rfl hl.1 rfl (Nat.le_of_ble_eq_true rfl) ⟨by decide, by decide⟩ ⟨Nat.le_of_ble_eq_true rfl, Nat.le_of_ble_eq_true rfl⟩ d_4_7_125) (fun u161 H locs hp162 V => ?_)
      obtain ⟨hI, hZ9⟩ := hp162
      obtain ⟨hu194, hZ9⟩ := hZ9
      obtain ⟨y164, hZ9⟩ := hZ9
      obtain ⟨y165, hZ9⟩ := hZ9
      obtain ⟨f166, hZ9⟩ := hZ9
      obtain ⟨y169, hZ9⟩ := hZ9
      obtain ⟨y170, hZ9⟩ := hZ9
      obtain ⟨f171, hZ9⟩ := hZ9
      obtain ⟨y174, hZ9⟩ := hZ9
      obtain ⟨y175, hZ9⟩ := hZ9
      obtain ⟨f176, hZ9⟩ := hZ9
      obtain ⟨hO163, hZ9⟩ := hZ9
      obtain ⟨hA167, hZ9⟩ := hZ9
      obtain ⟨hO168, hZ9⟩ := hZ9
      obtain ⟨hA172, hZ9⟩ := hZ9
      obtain ⟨hO173, hZ9⟩ := hZ9
      obtain ⟨hA177, hZ9⟩ := hZ9
      obtain ⟨b178, hZ9⟩ := hZ9
      obtain ⟨b179, hZ9⟩ := hZ9
      obtain ⟨b180, hZ9⟩ := hZ9
      obtain ⟨b181, hZ9⟩ := hZ9
      replace hZ9 := hZ9.2
      obtain ⟨b183, hZ9⟩ := hZ9
      replace hZ9 := hZ9.2.2.2
      obtain ⟨b187, hZ9⟩ := hZ9
      obtain ⟨b188, hZ9⟩ := hZ9
      obtain ⟨b189, hZ9⟩ := hZ9
      obtain ⟨b190, hZ9⟩ := hZ9
      obtain ⟨b191, hZ9⟩ := hZ9
      obtain ⟨b192, hE193⟩ := hZ9
      replace hO163 : u161[10]? = (some (q 10, .inr (2, [.ref (q 11), .int y164, .int y165])) : Option (Nat × va_E)) := hO163
      replace hA167 : u161[11]? = (some (q 11, .inl (g 0, (220 : Int32).toNatClampNeg, .inl f166)) : Option (Nat × va_E)) := hA167
      replace hO168 : u161[22]? = (some (q 22, .inr (2, [.ref (q 23), .int y169, .int y170])) : Option (Nat × va_E)) := hO168
      replace hA172 : u161[23]? = (some (q 23, .inl (g 0, (220 : Int32).toNatClampNeg, .inl f171)) : Option (Nat × va_E)) := hA172
      replace hO173 : u161[12]? = (some (q 12, .inr (2, [.ref (q 13), .int y174, .int y175])) : Option (Nat × va_E)) := hO173
      replace hA177 : u161[13]? = (some (q 13, .inl (g 0, (220 : Int32).toNatClampNeg, .inl f176)) : Option (Nat × va_E)) := hA177
      obtain ⟨p195, e196⟩ : ∃ z, z = (F_Big_divideBy (220 : Int32) (220 : Int32) (220 : Int32) y85 y86 f87 y140 y141 f142 t3_0 t3_1 t4_0) := ⟨_, rfl⟩
      have e197 : y164 = p195.1 := congrArg (fun z => z.1) (hE193.trans e196.symm)
      have e198 : y165 = p195.2.1 := congrArg (fun z => z.2.1) (hE193.trans e196.symm)
      have e199 : f166 = p195.2.2.1 := congrArg (fun z => z.2.2.1) (hE193.trans e196.symm)
      have e200 : y169 = p195.2.2.2.1 := congrArg (fun z => z.2.2.2.1) (hE193.trans e196.symm)
      have e201 : y170 = p195.2.2.2.2.1 := congrArg (fun z => z.2.2.2.2.1) (hE193.trans e196.symm)
      have e202 : f171 = p195.2.2.2.2.2.1 := congrArg (fun z => z.2.2.2.2.2.1) (hE193.trans e196.symm)
      have e203 : y174 = p195.2.2.2.2.2.2.1 := congrArg (fun z => z.2.2.2.2.2.2.1) (hE193.trans e196.symm)
      have e204 : y175 = p195.2.2.2.2.2.2.2.1 := congrArg (fun z => z.2.2.2.2.2.2.2.1) (hE193.trans e196.symm)
      have e205 : f176 = p195.2.2.2.2.2.2.2.2 := congrArg (fun z => z.2.2.2.2.2.2.2.2) (hE193.trans e196.symm)
      replace b178 : q_F (0 ≤ y175.toInt) := b178
      replace b179 : q_F (y175.toInt ≤ 0) := b179
      replace b180 : q_F (y164.toInt ≤ 220) := b180
      replace b181 : q_F (y165.toInt ≤ y86.toInt) := b181
      replace b183 : q_F (y169.toInt ≤ 220) := b183
      replace b187 : q_F (y174.toInt ≤ 220) := b187
      replace b188 : q_F (y175.toInt ≤ y164.toInt) := b188
      replace b189 : q_F (y175.toInt ≤ y165.toInt) := b189
      replace b190 : q_F (y175.toInt ≤ y169.toInt) := b190
      replace b191 : q_F (y175.toInt ≤ y170.toInt) := b191
      replace b192 : q_F (y175.toInt ≤ y174.toInt) := b192
      replace hT0 := (hu194 _ (by decide)).trans hT0
      replace hT7 := (hu194 _ (by decide)).trans hT7
      replace hT8 := (hu194 _ (by decide)).trans hT8
      replace hT13 := (hu194 _ (by have z0 := zk3; simp only [List.mem_cons, List.not_mem_nil, or_false, not_or]; omega)).trans hT13
      replace hT14 := (hu194 _ (by have z0 := zk3; simp only [List.mem_cons, List.not_mem_nil, or_false, not_or]; omega)).trans hT14
      replace hF := q_uc hF hu194 (by first | exact (q_sk (q_mi 0 rfl) (q_sk (q_mi 1 rfl) (q_sk (q_mi 4 rfl) (q_sk (q_mi 5 rfl) (q_sk (q_mi 2 rfl) (q_sk (q_mi 3 rfl) q_s0)))))) | simp)
      have hR206 := (show F_DW_rest_c125 R R2 t0_0 t0_1 t1_0 t1_1 t2_0 t3_0 t3_1 t4_0 t5_0 t5_1 t6_0 t7_0 t7_1 t8_0 t9_0 t9_1 t10_0 t10_1 t11_0 t12_0 t12_1 t13_0 t13_1 t14_0 a76 j66 p96 y85 y86 f87 p127 p150 p195 = (F_DW_rest R R2 t0_0 t0_1 t1_0 t1_1 t2_0 t3_0 t3_1 t4_0 t5_0 t5_1 t6_0 t7_0 t7_1 t8_0 t9_0 t9_1 t10_0 t10_1 t11_0 t12_0 t12_1 t13_0 t13_1 t14_0) from Eq.trans (by rw [e196, e154, e153, e152, F_DW_rest_c101.eq_1]) hR155)
      have hS207 := (show True ∧ S_DW_rest_c125 R R2 t0_0 t0_1 t1_0 t1_1 t2_0 t3_0 t3_1 t4_0 t5_0 t5_1 t6_0 t7_0 t7_1 t8_0 t9_0 t9_1 t10_0 t10_1 t11_0 t12_0 t12_1 t13_0 t13_1 t14_0 a76 j66 p96 y85 y86 f87 p127 p150 p195 from (by rw [e196, e154, e153, e152]; have h := hS156; rw [S_DW_rest_c101.eq_1] at h; replace h := q_s2 h; with_reducible exact h))
      exact q_retv C0 V (⟨hI, hF, j66, t0_1, y164, y165, f166, y174, y175, f176, y169, y170, f171, t7_0, t7_1, t8_0, t13_0, t13_1, t14_0, hT0, hO163, hA167, hO173, hA177, hO168, hA172, hT7, hT8, hT13, hT14, (show 0 ≤ j66.toInt + 10000 from (by have t1 : -10000 ≤ t9_0.toInt ∧ t9_0.toInt ≤ 10000 := btt9_0; have t2 : t9_0.toInt ≤ a63.toInt ∧ t12_0.toInt ≤ a63.toInt ∧ (a63.toInt = t9_0.toInt ∨ a63.toInt = t12_0.toInt) := b65; have t3 : j66.toInt = a63.toInt := b68; omega)), (show j66.toInt ≤ 10000 from (by have t1 : -10000 ≤ t9_0.toInt ∧ t9_0.toInt ≤ 10000 := btt9_0; have t2 : -10000 ≤ t12_0.toInt ∧ t12_0.toInt ≤ 10000 := btt12_0; have t3 : t9_0.toInt ≤ a63.toInt ∧ t12_0.toInt ≤ a63.toInt ∧ (a63.toInt = t9_0.toInt ∨ a63.toInt = t12_0.toInt) := b65; have t4 : j66.toInt = a63.toInt := b68; omega)), (show 0 ≤ t0_1.toInt from (by first | with_reducible exact (q_fe btt0_1).2 | with_reducible exact (q_fe btt0_1).1 | (have t1 : 0 ≤ t0_1.toInt ∧ t0_1.toInt ≤ 1 := btt0_1; omega))), (show t0_1.toInt ≤ 1 from (by first | with_reducible exact (q_fe btt0_1).2 | with_reducible exact (q_fe btt0_1).1 | (have t1 : 0 ≤ t0_1.toInt ∧ t0_1.toInt ≤ 1 := btt0_1; omega))), (show 0 ≤ y164.toInt from (by have t1 : 0 ≤ y175.toInt := b178; have t2 : y175.toInt ≤ y164.toInt := b188; omega)), (show y164.toInt ≤ 220 from (by first | with_reducible exact q_fe b180 | (have t1 : y164.toInt ≤ 220 := b180; omega))), (show 0 ≤ y165.toInt from (by have t1 : 0 ≤ y175.toInt := b178; have t2 : y175.toInt ≤ y165.toInt := b189; omega)), (show y165.toInt ≤ 1 from (by have t1 : 0 ≤ t10_1.toInt ∧ t10_1.toInt ≤ 1 := btt10_1; have t2 : y86.toInt ≤ t10_1.toInt := b93; have t3 : y165.toInt ≤ y86.toInt := b181; omega)), (show 0 ≤ y174.toInt from (by have t1 : 0 ≤ y175.toInt := b178; have t2 : y175.toInt ≤ y174.toInt := b192; omega)), (show y174.toInt ≤ 220 from (by first | with_reducible exact q_fe b187 | (have t1 : y174.toInt ≤ 220 := b187; omega))), (show 0 ≤ y175.toInt from (by first | with_reducible exact q_fe b178 | (have t1 : 0 ≤ y175.toInt := b178; omega))), (show y175.toInt ≤ 1 from (by first | with_reducible exact q_fe b179 | (have t1 : y175.toInt ≤ 0 := b179; omega))), (show 0 ≤ y169.toInt from (by have t1 : 0 ≤ y175.toInt := b178; have t2 : y175.toInt ≤ y169.toInt := b190; omega)), (show y169.toInt ≤ 220 from (by first | with_reducible exact q_fe b183 | (have t1 : y169.toInt ≤ 220 := b183; omega))), (show 0 ≤ y170.toInt from (by have t1 : 0 ≤ y175.toInt := b178; have t2 : y175.toInt ≤ y170.toInt := b191; omega)), (show 0 ≤ t7_0.toInt from (by first | with_reducible exact (q_fe btt7_0).2 | with_reducible exact (q_fe btt7_0).1 | (have t1 : 0 ≤ t7_0.toInt ∧ t7_0.toInt ≤ 220 := btt7_0; omega))), (show t7_0.toInt ≤ 220 from (by first | with_reducible exact (q_fe btt7_0).2 | with_reducible exact (q_fe btt7_0).1 | (have t1 : 0 ≤ t7_0.toInt ∧ t7_0.toInt ≤ 220 := btt7_0; omega))), (show 0 ≤ t7_1.toInt from (by first | with_reducible exact (q_fe btt7_1).2 | with_reducible exact (q_fe btt7_1).1 | (have t1 : 0 ≤ t7_1.toInt ∧ t7_1.toInt ≤ 1 := btt7_1; omega))), (show t7_1.toInt ≤ 1 from (by first | with_reducible exact (q_fe btt7_1).2 | with_reducible exact (q_fe btt7_1).1 | (have t1 : 0 ≤ t7_1.toInt ∧ t7_1.toInt ≤ 1 := btt7_1; omega))), (show 0 ≤ t13_0.toInt from (by first | with_reducible exact (q_fe btt13_0).2 | with_reducible exact (q_fe btt13_0).1 | (have t1 : 0 ≤ t13_0.toInt ∧ t13_0.toInt ≤ R2.toInt := btt13_0; omega))), (show t13_0.toInt ≤ 220 from (by have t1 : 0 ≤ R2.toInt ∧ R2.toInt ≤ 220 := hfk30; have t2 : 0 ≤ t13_0.toInt ∧ t13_0.toInt ≤ R2.toInt := btt13_0; omega)), (show 0 ≤ t13_1.toInt from (by first | with_reducible exact (q_fe btt13_1).2 | with_reducible exact (q_fe btt13_1).1 | (have t1 : 0 ≤ t13_1.toInt ∧ t13_1.toInt ≤ 1 := btt13_1; omega))), (show t13_1.toInt ≤ 1 from (by first | with_reducible exact (q_fe btt13_1).2 | with_reducible exact (q_fe btt13_1).1 | (have t1 : 0 ≤ t13_1.toInt ∧ t13_1.toInt ≤ 1 := btt13_1; omega))), (show t9_0.toInt ≤ j66.toInt from (by have t1 : t9_0.toInt ≤ a63.toInt ∧ t12_0.toInt ≤ a63.toInt ∧ (a63.toInt = t9_0.toInt ∨ a63.toInt = t12_0.toInt) := b65; have t2 : j66.toInt = a63.toInt := b68; omega)), (show t12_0.toInt ≤ j66.toInt from (by have t1 : t9_0.toInt ≤ a63.toInt ∧ t12_0.toInt ≤ a63.toInt ∧ (a63.toInt = t9_0.toInt ∨ a63.toInt = t12_0.toInt) := b65; have t2 : j66.toInt = a63.toInt := b68; omega)), (show t0_1.toInt ≤ t0_1.toInt from (by omega)), (show t0_1.toInt ≤ t0_1.toInt from (by omega)), (show y165.toInt ≤ t10_1.toInt from (by have t1 : y86.toInt ≤ t10_1.toInt := b93; have t2 : y165.toInt ≤ y86.toInt := b181; omega)), (show y175.toInt ≤ t3_1.toInt from (by have t1 : 0 ≤ t3_1.toInt ∧ t3_1.toInt ≤ 1 := btt3_1; have t2 : y175.toInt ≤ 0 := b179; omega)), (show t13_0.toInt ≤ R2.toInt from (by first | with_reducible exact (q_fe btt13_0).2 | with_reducible exact (q_fe btt13_0).1 | (have t1 : 0 ≤ t13_0.toInt ∧ t13_0.toInt ≤ R2.toInt := btt13_0; omega))), (show t13_1.toInt ≤ t13_1.toInt from (by omega)), (show (j66, t0_1, y164, y165, f166, y174, y175, f176, y169, y170, f171, t7_0, t7_1, t8_0, t13_0, t13_1, t14_0) = (F_DW_rest R R2 t0_0 t0_1 t1_0 t1_1 t2_0 t3_0 t3_1 t4_0 t5_0 t5_1 t6_0 t7_0 t7_1 t8_0 t9_0 t9_1 t10_0 t10_1 t11_0 t12_0 t12_1 t13_0 t13_1 t14_0) from Eq.trans (by rw [e205, e204, e203, e202, e201, e200, e199, e198, e197, F_DW_rest_c125.eq_1]) hR206)⟩) d_4_7_128
  ·
    refine lv_aload_n hx hb d_4_7_54 rfl (lv_at hl 1 rfl) ?_
    refine lv_iload_n hx hb d_4_7_55 rfl (lv_at hl 0 rfl) ?_
    refine lv_aload_n hx hb d_4_7_56 rfl (lv_at hl 3 rfl) ?_
    refine q_get (ci := 3) (j := 0) (v := .ref (q (k3 + 1))) C0 V i_Dec rfl rfl hT12 (by decide) w_171 rfl d_4_7_57 ?_
    have ob212 : True ∧ S_DW_raiseBelow a76 R2 y85 y86 f87 t3_0 t3_1 t4_0 t5_0 t5_1 t6_0 t7_0 t7_1 t8_0 t13_0 t13_1 t14_0 := (by rw [e100, e99, e98]; have h := hS102; rw [S_DW_rest_c40.eq_1] at h; rw [if_neg c106] at h; with_reducible exact h.2.1)
    refine q_gov V (q_runV (As := [.int a76, .ref (q (k3 + 1))]) (rest := []) (d := 5) (mc := 0) (ms := 0) (ci := 5) C0 V rfl LV_DW_102 (X_DW_raiseBelow l D g q u82 (k3 + 1) R2 hB3.2 (by have z := zk3; omega) a76 (by have z := ne_k3_9; omega) (by have z := ne_k3_10; omega) (by have z := ne_k3_8; omega) (by have z := ne_k3_11; omega) (by have z := ne_k3_12; omega) (by have z := ne_k3_10; omega) (by have z := ne_k3_21; omega) (by have z := ne_k3_22; omega) (by have z := ne_k3_20; omega) (by have z := ne_k3_23; omega) (by have z := ne_k3_24; omega) (by have z := ne_k3_22; omega) (by have z := ne_k3_29; omega) (by have z := ne_k3_28; omega) hI y85 y86 hO84 f87 hA88 t3_0 t3_1 hT3 t4_0 hT4 t5_0 t5_1 hT5 t6_0 hT6 t7_0 t7_1 hT7 t8_0 hT8 t13_0 t13_1 hT13 t14_0 hT14 ob212 _) rfl rfl hT0 rfl hl.1 rfl (Nat.le_of_ble_eq_true rfl) ⟨by decide, by decide⟩ ⟨Nat.le_of_ble_eq_true rfl, Nat.le_of_ble_eq_true rfl⟩ d_4_7_60) (fun u213 H locs hp214 V => ?_)
    obtain ⟨hI, hZ9⟩ := hp214
    obtain ⟨hu261, hZ9⟩ := hZ9
    obtain ⟨y216, hZ9⟩ := hZ9
    obtain ⟨y217, hZ9⟩ := hZ9
    obtain ⟨f218, hZ9⟩ := hZ9
    obtain ⟨y221, hZ9⟩ := hZ9
    obtain ⟨y222, hZ9⟩ := hZ9
    obtain ⟨f223, hZ9⟩ := hZ9
    obtain ⟨y226, hZ9⟩ := hZ9
    obtain ⟨y227, hZ9⟩ := hZ9
    obtain ⟨f228, hZ9⟩ := hZ9
    obtain ⟨y231, hZ9⟩ := hZ9
    obtain ⟨y232, hZ9⟩ := hZ9
    obtain ⟨f233, hZ9⟩ := hZ9
    obtain ⟨y236, hZ9⟩ := hZ9
    obtain ⟨y237, hZ9⟩ := hZ9
    obtain ⟨f238, hZ9⟩ := hZ9
    obtain ⟨hO215, hZ9⟩ := hZ9
    obtain ⟨hA219, hZ9⟩ := hZ9
    obtain ⟨hO220, hZ9⟩ := hZ9
    obtain ⟨hA224, hZ9⟩ := hZ9
    obtain ⟨hO225, hZ9⟩ := hZ9
    obtain ⟨hA229, hZ9⟩ := hZ9
    obtain ⟨hO230, hZ9⟩ := hZ9
    obtain ⟨hA234, hZ9⟩ := hZ9
    obtain ⟨hO235, hZ9⟩ := hZ9
    obtain ⟨hA239, hZ9⟩ := hZ9
    obtain ⟨b240, hZ9⟩ := hZ9
    obtain ⟨b241, hZ9⟩ := hZ9
    obtain ⟨b242, hZ9⟩ := hZ9
    replace hZ9 := hZ9.2
    obtain ⟨b244, hZ9⟩ := hZ9
    obtain ⟨b245, hZ9⟩ := hZ9
    obtain ⟨b246, hZ9⟩ := hZ9
    obtain ⟨b247, hZ9⟩ := hZ9
    obtain ⟨b248, hZ9⟩ := hZ9
    replace hZ9 := hZ9.2
    obtain ⟨b250, hZ9⟩ := hZ9
    obtain ⟨b251, hZ9⟩ := hZ9
    obtain ⟨b252, hZ9⟩ := hZ9
    obtain ⟨b253, hZ9⟩ := hZ9
    obtain ⟨b254, hZ9⟩ := hZ9
    obtain ⟨b255, hZ9⟩ := hZ9
    obtain ⟨b256, hZ9⟩ := hZ9
    obtain ⟨b257, hZ9⟩ := hZ9
    obtain ⟨b258, hZ9⟩ := hZ9
    obtain ⟨b259, hE260⟩ := hZ9
    replace hO215 : u213[10]? = (some (q 10, .inr (2, [.ref (q 11), .int y216, .int y217])) : Option (Nat × va_E)) := hO215
    replace hA219 : u213[11]? = (some (q 11, .inl (g 0, (220 : Int32).toNatClampNeg, .inl f218)) : Option (Nat × va_E)) := hA219
    replace hO220 : u213[12]? = (some (q 12, .inr (2, [.ref (q 13), .int y221, .int y222])) : Option (Nat × va_E)) := hO220
    replace hA224 : u213[13]? = (some (q 13, .inl (g 0, (220 : Int32).toNatClampNeg, .inl f223)) : Option (Nat × va_E)) := hA224
    replace hO225 : u213[22]? = (some (q 22, .inr (2, [.ref (q 23), .int y226, .int y227])) : Option (Nat × va_E)) := hO225
    replace hA229 : u213[23]? = (some (q 23, .inl (g 0, (220 : Int32).toNatClampNeg, .inl f228)) : Option (Nat × va_E)) := hA229
    replace hO230 : u213[24]? = (some (q 24, .inr (2, [.ref (q 25), .int y231, .int y232])) : Option (Nat × va_E)) := hO230
    replace hA234 : u213[25]? = (some (q 25, .inl (g 0, (220 : Int32).toNatClampNeg, .inl f233)) : Option (Nat × va_E)) := hA234
    replace hO235 : u213[k3 + 1]? = (some (q (k3 + 1), .inr (2, [.ref (q (k3 + 2)), .int y236, .int y237])) : Option (Nat × va_E)) := hO235
    replace hA239 : u213[k3 + 2]? = (some (q (k3 + 2), .inl (g 0, R2.toNatClampNeg, .inl f238)) : Option (Nat × va_E)) := hA239
    obtain ⟨p262, e263⟩ : ∃ z, z = (F_DW_raiseBelow a76 R2 y85 y86 f87 t3_0 t3_1 t4_0 t5_0 t5_1 t6_0 t7_0 t7_1 t8_0 t13_0 t13_1 t14_0) := ⟨_, rfl⟩
    have e264 : y216 = p262.1 := congrArg (fun z => z.1) (hE260.trans e263.symm)
    have e265 : y217 = p262.2.1 := congrArg (fun z => z.2.1) (hE260.trans e263.symm)
    have e266 : f218 = p262.2.2.1 := congrArg (fun z => z.2.2.1) (hE260.trans e263.symm)
    have e267 : y221 = p262.2.2.2.1 := congrArg (fun z => z.2.2.2.1) (hE260.trans e263.symm)
    have e268 : y222 = p262.2.2.2.2.1 := congrArg (fun z => z.2.2.2.2.1) (hE260.trans e263.symm)
    have e269 : f223 = p262.2.2.2.2.2.1 := congrArg (fun z => z.2.2.2.2.2.1) (hE260.trans e263.symm)
    have e270 : y226 = p262.2.2.2.2.2.2.1 := congrArg (fun z => z.2.2.2.2.2.2.1) (hE260.trans e263.symm)
    have e271 : y227 = p262.2.2.2.2.2.2.2.1 := congrArg (fun z => z.2.2.2.2.2.2.2.1) (hE260.trans e263.symm)
    have e272 : f228 = p262.2.2.2.2.2.2.2.2.1 := congrArg (fun z => z.2.2.2.2.2.2.2.2.1) (hE260.trans e263.symm)
    have e273 : y231 = p262.2.2.2.2.2.2.2.2.2.1 := congrArg (fun z => z.2.2.2.2.2.2.2.2.2.1) (hE260.trans e263.symm)
    have e274 : y232 = p262.2.2.2.2.2.2.2.2.2.2.1 := congrArg (fun z => z.2.2.2.2.2.2.2.2.2.2.1) (hE260.trans e263.symm)
    have e275 : f233 = p262.2.2.2.2.2.2.2.2.2.2.2.1 := congrArg (fun z => z.2.2.2.2.2.2.2.2.2.2.2.1) (hE260.trans e263.symm)
    have e276 : y236 = p262.2.2.2.2.2.2.2.2.2.2.2.2.1 := congrArg (fun z => z.2.2.2.2.2.2.2.2.2.2.2.2.1) (hE260.trans e263.symm)
    have e277 : y237 = p262.2.2.2.2.2.2.2.2.2.2.2.2.2.1 := congrArg (fun z => z.2.2.2.2.2.2.2.2.2.2.2.2.2.1) (hE260.trans e263.symm)
    have e278 : f238 = p262.2.2.2.2.2.2.2.2.2.2.2.2.2.2 := congrArg (fun z => z.2.2.2.2.2.2.2.2.2.2.2.2.2.2) (hE260.trans e263.symm)
    replace b240 : q_F (0 ≤ y222.toInt) := b240
    replace b241 : q_F (y222.toInt ≤ 0) := b241
    replace b242 : q_F (y217.toInt ≤ y86.toInt) := b242
    replace b244 : q_F (y236.toInt ≤ R2.toInt) := b244
    replace b245 : q_F (y237.toInt ≤ t13_1.toInt) := b245
    replace b246 : q_F (y222.toInt ≤ y216.toInt) := b246
    replace b247 : q_F (y216.toInt ≤ y231.toInt) := b247
    replace b248 : q_F (y222.toInt ≤ y217.toInt) := b248
    replace b250 : q_F (y222.toInt ≤ y221.toInt) := b250
    replace b251 : q_F (y221.toInt ≤ y222.toInt + 220) := b251
    replace b252 : q_F (y226.toInt ≤ y222.toInt + 220) := b252
    replace b253 : q_F (y222.toInt ≤ y226.toInt) := b253
    replace b254 : q_F (y222.toInt ≤ y227.toInt) := b254
    replace b255 : q_F (y231.toInt ≤ y222.toInt + 220) := b255
    replace b256 : q_F (y232.toInt ≤ y222.toInt + 1) := b256
    replace b257 : q_F (y222.toInt ≤ y232.toInt) := b257
    replace b258 : q_F (y222.toInt ≤ y236.toInt) := b258
    replace b259 : q_F (y222.toInt ≤ y237.toInt) := b259
    replace hT0 := (hu261 _ (by have z0 := zk3; simp only [List.mem_cons, List.not_mem_nil, or_false, not_or]; omega)).trans hT0
    replace hF := q_uc hF hu261 (by first | exact (q_sk (q_mi 0 rfl) (q_sk (q_mi 1 rfl) (q_sk (q_mi 2 rfl) (q_sk (q_mi 3 rfl) (q_sk (q_mi 4 rfl) (q_sk (q_mi 5 rfl) (q_sk (q_mi 6 rfl) (q_sk (q_mi 7 rfl) (q_sk (q_mi 9 rfl) (q_sk (q_mi 10 rfl) q_s0)))))))))) | simp)
    have hR279 := (show F_DW_rest_c60 R R2 t0_0 t0_1 t1_0 t1_1 t2_0 t3_0 t3_1 t4_0 t5_0 t5_1 t6_0 t7_0 t7_1 t8_0 t9_0 t9_1 t10_0 t10_1 t11_0 t12_0 t12_1 t13_0 t13_1 t14_0 a76 j66 p96 p262 = (F_DW_rest R R2 t0_0 t0_1 t1_0 t1_1 t2_0 t3_0 t3_1 t4_0 t5_0 t5_1 t6_0 t7_0 t7_1 t8_0 t9_0 t9_1 t10_0 t10_1 t11_0 t12_0 t12_1 t13_0 t13_1 t14_0) from Eq.trans (by rw [e263, e100, e99, e98, F_DW_rest_c40.eq_1, if_neg c106]) hR101)
    have hS280 := (show True ∧ S_DW_rest_c60 R R2 t0_0 t0_1 t1_0 t1_1 t2_0 t3_0 t3_1 t4_0 t5_0 t5_1 t6_0 t7_0 t7_1 t8_0 t9_0 t9_1 t10_0 t10_1 t11_0 t12_0 t12_1 t13_0 t13_1 t14_0 a76 j66 p96 p262 from (by rw [e263, e100, e99, e98]; have h := hS102; rw [S_DW_rest_c40.eq_1] at h; rw [if_neg c106] at h; replace h := q_s2 h; with_reducible exact h))
    refine lv_goto (tgt := 128) hx hb d_4_7_63 (by decide) ?_
    exact q_retv C0 V (⟨hI, hF, j66, t0_1, y216, y217, f218, y221, y222, f223, y226, y227, f228, y231, y232, f233, y236, y237, f238, hT0, hO215, hA219, hO220, hA224, hO225, hA229, hO230, hA234, hO235, hA239, (show 0 ≤ j66.toInt + 10000 from (by have t1 : -10000 ≤ t9_0.toInt ∧ t9_0.toInt ≤ 10000 := btt9_0; have t2 : t9_0.toInt ≤ a63.toInt ∧ t12_0.toInt ≤ a63.toInt ∧ (a63.toInt = t9_0.toInt ∨ a63.toInt = t12_0.toInt) := b65; have t3 : j66.toInt = a63.toInt := b68; omega)), (show j66.toInt ≤ 10000 from (by have t1 : -10000 ≤ t9_0.toInt ∧ t9_0.toInt ≤ 10000 := btt9_0; have t2 : -10000 ≤ t12_0.toInt ∧ t12_0.toInt ≤ 10000 := btt12_0; have t3 : t9_0.toInt ≤ a63.toInt ∧ t12_0.toInt ≤ a63.toInt ∧ (a63.toInt = t9_0.toInt ∨ a63.toInt = t12_0.toInt) := b65; have t4 : j66.toInt = a63.toInt := b68; omega)), (show 0 ≤ t0_1.toInt from (by first | with_reducible exact (q_fe btt0_1).2 | with_reducible exact (q_fe btt0_1).1 | (have t1 : 0 ≤ t0_1.toInt ∧ t0_1.toInt ≤ 1 := btt0_1; omega))), (show t0_1.toInt ≤ 1 from (by first | with_reducible exact (q_fe btt0_1).2 | with_reducible exact (q_fe btt0_1).1 | (have t1 : 0 ≤ t0_1.toInt ∧ t0_1.toInt ≤ 1 := btt0_1; omega))), (show 0 ≤ y216.toInt from (by have t1 : 0 ≤ y222.toInt := b240; have t2 : y222.toInt ≤ y216.toInt := b246; omega)), (show y216.toInt ≤ 220 from (by have t1 : y222.toInt ≤ 0 := b241; have t2 : y216.toInt ≤ y231.toInt := b247; have t3 : y231.toInt ≤ y222.toInt + 220 := b255; omega)), (show 0 ≤ y217.toInt from (by have t1 : 0 ≤ y222.toInt := b240; have t2 : y222.toInt ≤ y217.toInt := b248; omega)), (show y217.toInt ≤ 1 from (by have t1 : 0 ≤ t10_1.toInt ∧ t10_1.toInt ≤ 1 := btt10_1; have t2 : y86.toInt ≤ t10_1.toInt := b93; have t3 : y217.toInt ≤ y86.toInt := b242; omega)), (show 0 ≤ y221.toInt from (by have t1 : 0 ≤ y222.toInt := b240; have t2 : y222.toInt ≤ y221.toInt := b250; omega)), (show y221.toInt ≤ 220 from (by have t1 : y222.toInt ≤ 0 := b241; have t2 : y221.toInt ≤ y222.toInt + 220 := b251; omega)), (show 0 ≤ y222.toInt from (by first | with_reducible exact q_fe b240 | (have t1 : 0 ≤ y222.toInt := b240; omega))), (show y222.toInt ≤ 1 from (by first | with_reducible exact q_fe b241 | (have t1 : y222.toInt ≤ 0 := b241; omega))), (show 0 ≤ y226.toInt from (by have t1 : 0 ≤ y222.toInt := b240; have t2 : y222.toInt ≤ y226.toInt := b253; omega)), (show y226.toInt ≤ 220 from (by have t1 : y222.toInt ≤ 0 := b241; have t2 : y226.toInt ≤ y222.toInt + 220 := b252; omega)), (show 0 ≤ y227.toInt from (by have t1 : 0 ≤ y222.toInt := b240; have t2 : y222.toInt ≤ y227.toInt := b254; omega)), (show 0 ≤ y231.toInt from (by have t1 : 0 ≤ y222.toInt := b240; have t2 : y222.toInt ≤ y216.toInt := b246; have t3 : y216.toInt ≤ y231.toInt := b247; omega)), (show y231.toInt ≤ 220 from (by have t1 : y222.toInt ≤ 0 := b241; have t2 : y231.toInt ≤ y222.toInt + 220 := b255; omega)), (show 0 ≤ y232.toInt from (by have t1 : 0 ≤ y222.toInt := b240; have t2 : y222.toInt ≤ y232.toInt := b257; omega)), (show y232.toInt ≤ 1 from (by have t1 : y222.toInt ≤ 0 := b241; have t2 : y232.toInt ≤ y222.toInt + 1 := b256; omega)), (show 0 ≤ y236.toInt from (by have t1 : 0 ≤ y222.toInt := b240; have t2 : y222.toInt ≤ y236.toInt := b258; omega)), (show y236.toInt ≤ 220 from (by have t1 : 0 ≤ R2.toInt ∧ R2.toInt ≤ 220 := hfk30; have t2 : y236.toInt ≤ R2.toInt := b244; omega)), (show 0 ≤ y237.toInt from (by have t1 : 0 ≤ y222.toInt := b240; have t2 : y222.toInt ≤ y237.toInt := b259; omega)), (show y237.toInt ≤ 1 from (by have t1 : 0 ≤ t13_1.toInt ∧ t13_1.toInt ≤ 1 := btt13_1; have t2 : y237.toInt ≤ t13_1.toInt := b245; omega)), (show t9_0.toInt ≤ j66.toInt from (by have t1 : t9_0.toInt ≤ a63.toInt ∧ t12_0.toInt ≤ a63.toInt ∧ (a63.toInt = t9_0.toInt ∨ a63.toInt = t12_0.toInt) := b65; have t2 : j66.toInt = a63.toInt := b68; omega)), (show t12_0.toInt ≤ j66.toInt from (by have t1 : t9_0.toInt ≤ a63.toInt ∧ t12_0.toInt ≤ a63.toInt ∧ (a63.toInt = t9_0.toInt ∨ a63.toInt = t12_0.toInt) := b65; have t2 : j66.toInt = a63.toInt := b68; omega)), (show t0_1.toInt ≤ t0_1.toInt from (by omega)), (show t0_1.toInt ≤ t0_1.toInt from (by omega)), (show y217.toInt ≤ t10_1.toInt from (by have t1 : y86.toInt ≤ t10_1.toInt := b93; have t2 : y217.toInt ≤ y86.toInt := b242; omega)), (show y222.toInt ≤ t3_1.toInt from (by have t1 : 0 ≤ t3_1.toInt ∧ t3_1.toInt ≤ 1 := btt3_1; have t2 : y222.toInt ≤ 0 := b241; omega)), (show y236.toInt ≤ R2.toInt from (by first | with_reducible exact q_fe b244 | (have t1 : y236.toInt ≤ R2.toInt := b244; omega))), (show y237.toInt ≤ t13_1.toInt from (by first | with_reducible exact q_fe b245 | (have t1 : y237.toInt ≤ t13_1.toInt := b245; omega))), (show (j66, t0_1, y216, y217, f218, y221, y222, f223, y226, y227, f228, y231, y232, f233, y236, y237, f238) = (F_DW_rest R R2 t0_0 t0_1 t1_0 t1_1 t2_0 t3_0 t3_1 t4_0 t5_0 t5_1 t6_0 t7_0 t7_1 t8_0 t9_0 t9_1 t10_0 t10_1 t11_0 t12_0 t12_1 t13_0 t13_1 t14_0) from Eq.trans (by rw [e278, e277, e276, e275, e274, e273, e272, e271, e270, e269, e268, e267, e266, e265, e264, F_DW_rest_c60.eq_1]) hR279)⟩) d_4_7_128
def F_DW_rest_a_c125 (R2 : Int32) (t0_0 : Int64) (t0_1 : Int32) (t1_0 : Int32) (t1_1 : Int32) (t2_0 : (Nat → Int32)) (t3_0 : Int32) (t3_1 : Int32) (t4_0 : (Nat → Int32)) (t5_0 : Int32) (t5_1 : Int32) (t6_0 : (Nat → Int32)) (t7_0 : Int32) (t7_1 : Int32) (t8_0 : (Nat → Int32)) (t9_0 : Int32) (t9_1 : Int32) (t10_0 : Int32) (t10_1 : Int32) (t11_0 : (Nat → Int32)) (a63 : Int32) (j53 : Int64) (p83 : (Int32 × Int32 × (Nat → Int32))) (y72 : Int32) (y73 : Int32) (f74 : (Nat → Int32)) (p113 : (Int32 × Int32 × (Nat → Int32))) (p136 : (Int32 × Int32 × (Nat → Int32))) (p181 : (Int32 × Int32 × (Nat → Int32) × Int32 × Int32 × (Nat → Int32) × Int32 × Int32 × (Nat → Int32))) : Int64 × Int32 × Int32 × Int32 × (Nat → Int32) × Int32 × Int32 × (Nat → Int32) × Int32 × Int32 × (Nat → Int32) := (j53, t0_1, (p181.1 : Int32), (p181.2.1 : Int32), (p181.2.2.1 : (Nat → Int32)), (p181.2.2.2.2.2.2.1 : Int32), (p181.2.2.2.2.2.2.2.1 : Int32), (p181.2.2.2.2.2.2.2.2 : (Nat → Int32)), (p181.2.2.2.1 : Int32), (p181.2.2.2.2.1 : Int32), (p181.2.2.2.2.2.1 : (Nat → Int32)))
def F_DW_rest_a_c101 (R2 : Int32) (t0_0 : Int64) (t0_1 : Int32) (t1_0 : Int32) (t1_1 : Int32) (t2_0 : (Nat → Int32)) (t3_0 : Int32) (t3_1 : Int32) (t4_0 : (Nat → Int32)) (t5_0 : Int32) (t5_1 : Int32) (t6_0 : (Nat → Int32)) (t7_0 : Int32) (t7_1 : Int32) (t8_0 : (Nat → Int32)) (t9_0 : Int32) (t9_1 : Int32) (t10_0 : Int32) (t10_1 : Int32) (t11_0 : (Nat → Int32)) (a63 : Int32) (j53 : Int64) (p83 : (Int32 × Int32 × (Nat → Int32))) (y72 : Int32) (y73 : Int32) (f74 : (Nat → Int32)) (p113 : (Int32 × Int32 × (Nat → Int32))) (p136 : (Int32 × Int32 × (Nat → Int32))) : Int64 × Int32 × Int32 × Int32 × (Nat → Int32) × Int32 × Int32 × (Nat → Int32) × Int32 × Int32 × (Nat → Int32) := F_DW_rest_a_c125 R2 t0_0 t0_1 t1_0 t1_1 t2_0 t3_0 t3_1 t4_0 t5_0 t5_1 t6_0 t7_0 t7_1 t8_0 t9_0 t9_1 t10_0 t10_1 t11_0 a63 j53 p83 y72 y73 f74 p113 p136 ((F_Big_divideBy (220 : Int32) (220 : Int32) (220 : Int32) y72 y73 f74 (p136.1 : Int32) (p136.2.1 : Int32) (p136.2.2 : (Nat → Int32)) t3_0 t3_1 t4_0) : (Int32 × Int32 × (Nat → Int32) × Int32 × Int32 × (Nat → Int32) × Int32 × Int32 × (Nat → Int32)))
def F_DW_rest_a_c90 (R2 : Int32) (t0_0 : Int64) (t0_1 : Int32) (t1_0 : Int32) (t1_1 : Int32) (t2_0 : (Nat → Int32)) (t3_0 : Int32) (t3_1 : Int32) (t4_0 : (Nat → Int32)) (t5_0 : Int32) (t5_1 : Int32) (t6_0 : (Nat → Int32)) (t7_0 : Int32) (t7_1 : Int32) (t8_0 : (Nat → Int32)) (t9_0 : Int32) (t9_1 : Int32) (t10_0 : Int32) (t10_1 : Int32) (t11_0 : (Nat → Int32)) (a63 : Int32) (j53 : Int64) (p83 : (Int32 × Int32 × (Nat → Int32))) (y72 : Int32) (y73 : Int32) (f74 : (Nat → Int32)) (p113 : (Int32 × Int32 × (Nat → Int32))) : Int64 × Int32 × Int32 × Int32 × (Nat → Int32) × Int32 × Int32 × (Nat → Int32) × Int32 × Int32 × (Nat → Int32) := F_DW_rest_a_c101 R2 t0_0 t0_1 t1_0 t1_1 t2_0 t3_0 t3_1 t4_0 t5_0 t5_1 t6_0 t7_0 t7_1 t8_0 t9_0 t9_1 t10_0 t10_1 t11_0 a63 j53 p83 y72 y73 f74 p113 ((F_Big_timesTen (220 : Int32) a63 (p113.1 : Int32) (p113.2.1 : Int32) (p113.2.2 : (Nat → Int32))) : (Int32 × Int32 × (Nat → Int32)))
def F_DW_rest_a_c40 (R2 : Int32) (t0_0 : Int64) (t0_1 : Int32) (t1_0 : Int32) (t1_1 : Int32) (t2_0 : (Nat → Int32)) (t3_0 : Int32) (t3_1 : Int32) (t4_0 : (Nat → Int32)) (t5_0 : Int32) (t5_1 : Int32) (t6_0 : (Nat → Int32)) (t7_0 : Int32) (t7_1 : Int32) (t8_0 : (Nat → Int32)) (t9_0 : Int32) (t9_1 : Int32) (t10_0 : Int32) (t10_1 : Int32) (t11_0 : (Nat → Int32)) (a63 : Int32) (j53 : Int64) (p83 : (Int32 × Int32 × (Nat → Int32))) : Int64 × Int32 × Int32 × Int32 × (Nat → Int32) × Int32 × Int32 × (Nat → Int32) × Int32 × Int32 × (Nat → Int32) := if t9_1 < (t9_1 + a63 : Int32) then ((j53, t0_1, (p83.1 : Int32), (p83.2.1 : Int32), (p83.2.2 : (Nat → Int32)), t3_0, t3_1, t4_0, t5_0, t5_1, t6_0)) else (F_DW_rest_a_c90 R2 t0_0 t0_1 t1_0 t1_1 t2_0 t3_0 t3_1 t4_0 t5_0 t5_1 t6_0 t7_0 t7_1 t8_0 t9_0 t9_1 t10_0 t10_1 t11_0 a63 j53 p83 (p83.1 : Int32) (p83.2.1 : Int32) (p83.2.2 : (Nat → Int32)) ((F_Big_copy (220 : Int32) R2 t5_0 t5_1 t6_0 t10_0 t10_1 t11_0) : (Int32 × Int32 × (Nat → Int32))))
def F_DW_rest_a (R2 : Int32) (t0_0 : Int64) (t0_1 : Int32) (t1_0 : Int32) (t1_1 : Int32) (t2_0 : (Nat → Int32)) (t3_0 : Int32) (t3_1 : Int32) (t4_0 : (Nat → Int32)) (t5_0 : Int32) (t5_1 : Int32) (t6_0 : (Nat → Int32)) (t7_0 : Int32) (t7_1 : Int32) (t8_0 : (Nat → Int32)) (t9_0 : Int32) (t9_1 : Int32) (t10_0 : Int32) (t10_1 : Int32) (t11_0 : (Nat → Int32)) : Int64 × Int32 × Int32 × Int32 × (Nat → Int32) × Int32 × Int32 × (Nat → Int32) × Int32 × Int32 × (Nat → Int32) := F_DW_rest_a_c40 R2 t0_0 t0_1 t1_0 t1_1 t2_0 t3_0 t3_1 t4_0 t5_0 t5_1 t6_0 t7_0 t7_1 t8_0 t9_0 t9_1 t10_0 t10_1 t11_0 ((F_jMath_abs_II (t9_0 - t9_0 : Int32)) : Int32) ((if t9_0 < t9_0 then t9_0 else t9_0 : Int32).toInt64 : Int64) ((F_Big_copy (220 : Int32) R2 t1_0 t1_1 t2_0 t10_0 t10_1 t11_0) : (Int32 × Int32 × (Nat → Int32)))
def S_DW_rest_a_c125 (R2 : Int32) (t0_0 : Int64) (t0_1 : Int32) (t1_0 : Int32) (t1_1 : Int32) (t2_0 : (Nat → Int32)) (t3_0 : Int32) (t3_1 : Int32) (t4_0 : (Nat → Int32)) (t5_0 : Int32) (t5_1 : Int32) (t6_0 : (Nat → Int32)) (t7_0 : Int32) (t7_1 : Int32) (t8_0 : (Nat → Int32)) (t9_0 : Int32) (t9_1 : Int32) (t10_0 : Int32) (t10_1 : Int32) (t11_0 : (Nat → Int32)) (a63 : Int32) (j53 : Int64) (p83 : (Int32 × Int32 × (Nat → Int32))) (y72 : Int32) (y73 : Int32) (f74 : (Nat → Int32)) (p113 : (Int32 × Int32 × (Nat → Int32))) (p136 : (Int32 × Int32 × (Nat → Int32))) (p181 : (Int32 × Int32 × (Nat → Int32) × Int32 × Int32 × (Nat → Int32) × Int32 × Int32 × (Nat → Int32))) : Prop := True
def S_DW_rest_a_c101 (R2 : Int32) (t0_0 : Int64) (t0_1 : Int32) (t1_0 : Int32) (t1_1 : Int32) (t2_0 : (Nat → Int32)) (t3_0 : Int32) (t3_1 : Int32) (t4_0 : (Nat → Int32)) (t5_0 : Int32) (t5_1 : Int32) (t6_0 : (Nat → Int32)) (t7_0 : Int32) (t7_1 : Int32) (t8_0 : (Nat → Int32)) (t9_0 : Int32) (t9_1 : Int32) (t10_0 : Int32) (t10_1 : Int32) (t11_0 : (Nat → Int32)) (a63 : Int32) (j53 : Int64) (p83 : (Int32 × Int32 × (Nat → Int32))) (y72 : Int32) (y73 : Int32) (f74 : (Nat → Int32)) (p113 : (Int32 × Int32 × (Nat → Int32))) (p136 : (Int32 × Int32 × (Nat → Int32))) : Prop := (True ∧ S_Big_divideBy (220 : Int32) (220 : Int32) (220 : Int32) y72 y73 f74 (p136.1 : Int32) (p136.2.1 : Int32) (p136.2.2 : (Nat → Int32)) t3_0 t3_1 t4_0) ∧ (S_DW_rest_a_c125 R2 t0_0 t0_1 t1_0 t1_1 t2_0 t3_0 t3_1 t4_0 t5_0 t5_1 t6_0 t7_0 t7_1 t8_0 t9_0 t9_1 t10_0 t10_1 t11_0 a63 j53 p83 y72 y73 f74 p113 p136 ((F_Big_divideBy (220 : Int32) (220 : Int32) (220 : Int32) y72 y73 f74 (p136.1 : Int32) (p136.2.1 : Int32) (p136.2.2 : (Nat → Int32)) t3_0 t3_1 t4_0) : (Int32 × Int32 × (Nat → Int32) × Int32 × Int32 × (Nat → Int32) × Int32 × Int32 × (Nat → Int32))))
def S_DW_rest_a_c90 (R2 : Int32) (t0_0 : Int64) (t0_1 : Int32) (t1_0 : Int32) (t1_1 : Int32) (t2_0 : (Nat → Int32)) (t3_0 : Int32) (t3_1 : Int32) (t4_0 : (Nat → Int32)) (t5_0 : Int32) (t5_1 : Int32) (t6_0 : (Nat → Int32)) (t7_0 : Int32) (t7_1 : Int32) (t8_0 : (Nat → Int32)) (t9_0 : Int32) (t9_1 : Int32) (t10_0 : Int32) (t10_1 : Int32) (t11_0 : (Nat → Int32)) (a63 : Int32) (j53 : Int64) (p83 : (Int32 × Int32 × (Nat → Int32))) (y72 : Int32) (y73 : Int32) (f74 : (Nat → Int32)) (p113 : (Int32 × Int32 × (Nat → Int32))) : Prop := S_DW_rest_a_c101 R2 t0_0 t0_1 t1_0 t1_1 t2_0 t3_0 t3_1 t4_0 t5_0 t5_1 t6_0 t7_0 t7_1 t8_0 t9_0 t9_1 t10_0 t10_1 t11_0 a63 j53 p83 y72 y73 f74 p113 ((F_Big_timesTen (220 : Int32) a63 (p113.1 : Int32) (p113.2.1 : Int32) (p113.2.2 : (Nat → Int32))) : (Int32 × Int32 × (Nat → Int32)))
def S_DW_rest_a_c40 (R2 : Int32) (t0_0 : Int64) (t0_1 : Int32) (t1_0 : Int32) (t1_1 : Int32) (t2_0 : (Nat → Int32)) (t3_0 : Int32) (t3_1 : Int32) (t4_0 : (Nat → Int32)) (t5_0 : Int32) (t5_1 : Int32) (t6_0 : (Nat → Int32)) (t7_0 : Int32) (t7_1 : Int32) (t8_0 : (Nat → Int32)) (t9_0 : Int32) (t9_1 : Int32) (t10_0 : Int32) (t10_1 : Int32) (t11_0 : (Nat → Int32)) (a63 : Int32) (j53 : Int64) (p83 : (Int32 × Int32 × (Nat → Int32))) : Prop := if t9_1 < (t9_1 + a63 : Int32) then (True) else (S_DW_rest_a_c90 R2 t0_0 t0_1 t1_0 t1_1 t2_0 t3_0 t3_1 t4_0 t5_0 t5_1 t6_0 t7_0 t7_1 t8_0 t9_0 t9_1 t10_0 t10_1 t11_0 a63 j53 p83 (p83.1 : Int32) (p83.2.1 : Int32) (p83.2.2 : (Nat → Int32)) ((F_Big_copy (220 : Int32) R2 t5_0 t5_1 t6_0 t10_0 t10_1 t11_0) : (Int32 × Int32 × (Nat → Int32))))
def S_DW_rest_a (R2 : Int32) (t0_0 : Int64) (t0_1 : Int32) (t1_0 : Int32) (t1_1 : Int32) (t2_0 : (Nat → Int32)) (t3_0 : Int32) (t3_1 : Int32) (t4_0 : (Nat → Int32)) (t5_0 : Int32) (t5_1 : Int32) (t6_0 : (Nat → Int32)) (t7_0 : Int32) (t7_1 : Int32) (t8_0 : (Nat → Int32)) (t9_0 : Int32) (t9_1 : Int32) (t10_0 : Int32) (t10_1 : Int32) (t11_0 : (Nat → Int32)) : Prop := S_DW_rest_a_c40 R2 t0_0 t0_1 t1_0 t1_1 t2_0 t3_0 t3_1 t4_0 t5_0 t5_1 t6_0 t7_0 t7_1 t8_0 t9_0 t9_1 t10_0 t10_1 t11_0 ((F_jMath_abs_II (t9_0 - t9_0 : Int32)) : Int32) ((if t9_0 < t9_0 then t9_0 else t9_0 : Int32).toInt64 : Int64) ((F_Big_copy (220 : Int32) R2 t1_0 t1_1 t2_0 t10_0 t10_1 t11_0) : (Int32 × Int32 × (Nat → Int32)))
set_option maxRecDepth 100000 in
set_option maxHeartbeats 4000000 in
theorem X_DW_rest_a (l : Launch) (D : va_G) (g : Nat → ClassId) (q : Nat → Nat) (ws : va_W) (k2 : Nat) (R2 : Int32) (hB2 : q_isDec (nsh g q) g q k2 R2) (zk2 : (10 ≤ k2 ∧ k2 ≤ 31) ∨ 66 ≤ k2) (ne_k2_10 : k2 ≠ 10) (ne_k2_11 : k2 ≠ 11) (ne_k2_9 : k2 ≠ 9) (ne_k2_8 : k2 ≠ 8) (ne_k2_12 : k2 ≠ 12) (ne_k2_13 : k2 ≠ 13) (ne_k2_22 : k2 ≠ 22) (ne_k2_23 : k2 ≠ 23) (ne_k2_21 : k2 ≠ 21) (ne_k2_20 : k2 ≠ 20) (ne_k2_24 : k2 ≠ 24) (ne_k2_25 : k2 ≠ 25) (ne_k2_30 : k2 ≠ 30) (ne_k2_31 : k2 ≠ 31) (ne_k2_29 : k2 ≠ 29) (ne_k2_28 : k2 ≠ 28) (hI : q_I (nsh g q) q ws) (t0_0 : Int64) (t0_1 : Int32) (hT0 : ws[30]? = (some (q 30, .inr (5, [.ref (q 31), .long t0_0, .ref (q 9), .int t0_1])) : Option (Nat × va_E))) (t1_0 : Int32) (t1_1 : Int32) (hT1 : ws[10]? = (some (q 10, .inr (2, [.ref (q 11), .int t1_0, .int t1_1])) : Option (Nat × va_E))) (t2_0 : (Nat → Int32)) (hT2 : ws[11]? = (some (q 11, .inl (g 0, (220 : Int32).toNatClampNeg, .inl t2_0)) : Option (Nat × va_E))) (t3_0 : Int32) (t3_1 : Int32) (hT3 : ws[12]? = (some (q 12, .inr (2, [.ref (q 13), .int t3_0, .int t3_1])) : Option (Nat × va_E))) (t4_0 : (Nat → Int32)) (hT4 : ws[13]? = (some (q 13, .inl (g 0, (220 : Int32).toNatClampNeg, .inl t4_0)) : Option (Nat × va_E))) (t5_0 : Int32) (t5_1 : Int32) (hT5 : ws[22]? = (some (q 22, .inr (2, [.ref (q 23), .int t5_0, .int t5_1])) : Option (Nat × va_E))) (t6_0 : (Nat → Int32)) (hT6 : ws[23]? = (some (q 23, .inl (g 0, (220 : Int32).toNatClampNeg, .inl t6_0)) : Option (Nat × va_E))) (t7_0 : Int32) (t7_1 : Int32) (hT7 : ws[24]? = (some (q 24, .inr (2, [.ref (q 25), .int t7_0, .int t7_1])) : Option (Nat × va_E))) (t8_0 : (Nat → Int32)) (hT8 : ws[25]? = (some (q 25, .inl (g 0, (220 : Int32).toNatClampNeg, .inl t8_0)) : Option (Nat × va_E))) (t9_0 : Int32) (t9_1 : Int32) (hT9 : ws[k2]? = (some (q k2, .inr (3, [.ref (q (k2 + 1)), .int t9_0, .int t9_1])) : Option (Nat × va_E))) (t10_0 : Int32) (t10_1 : Int32) (hT10 : ws[k2 + 1]? = (some (q (k2 + 1), .inr (2, [.ref (q (k2 + 2)), .int t10_0, .int t10_1])) : Option (Nat × va_E))) (t11_0 : (Nat → Int32)) (hT11 : ws[k2 + 2]? = (some (q (k2 + 2), .inl (g 0, R2.toNatClampNeg, .inl t11_0)) : Option (Nat × va_E))) (hS : True ∧ S_DW_rest_a R2 t0_0 t0_1 t1_0 t1_1 t2_0 t3_0 t3_1 t4_0 t5_0 t5_1 t6_0 t7_0 t7_1 t8_0 t9_0 t9_1 t10_0 t10_1 t11_0) : q_mV l y_DW_rest prog_4_method_7_code 4 5 0 0 D g [.ref (q 30), .ref (q k2), .ref (q k2)] ws (fun u => q_I (nsh g q) q u ∧ q_un ws u [10, 11, 12, 13, 22, 23, 30] ∧ ∃ (u0_0 : Int64) (u0_1 : Int32) (u1_0 : Int32) (u1_1 : Int32) (u2_0 : (Nat → Int32)) (u3_0 : Int32) (u3_1 : Int32) (u4_0 : (Nat → Int32)) (u5_0 : Int32) (u5_1 : Int32) (u6_0 : (Nat → Int32)), u[30]? = (some (q 30, .inr (5, [.ref (q 31), .long u0_0, .ref (q 9), .int u0_1])) : Option (Nat × va_E)) ∧ u[10]? = (some (q 10, .inr (2, [.ref (q 11), .int u1_0, .int u1_1])) : Option (Nat × va_E)) ∧ u[11]? = (some (q 11, .inl (g 0, (220 : Int32).toNatClampNeg, .inl u2_0)) : Option (Nat × va_E)) ∧ u[12]? = (some (q 12, .inr (2, [.ref (q 13), .int u3_0, .int u3_1])) : Option (Nat × va_E)) ∧ u[13]? = (some (q 13, .inl (g 0, (220 : Int32).toNatClampNeg, .inl u4_0)) : Option (Nat × va_E)) ∧ u[22]? = (some (q 22, .inr (2, [.ref (q 23), .int u5_0, .int u5_1])) : Option (Nat × va_E)) ∧ u[23]? = (some (q 23, .inl (g 0, (220 : Int32).toNatClampNeg, .inl u6_0)) : Option (Nat × va_E)) ∧ (0 ≤ u1_0.toInt) ∧ (u1_0.toInt ≤ 220) ∧ (0 ≤ u1_1.toInt) ∧ (0 ≤ u3_0.toInt) ∧ (u3_0.toInt ≤ 220) ∧ (0 ≤ u3_1.toInt) ∧ (0 ≤ u5_0.toInt) ∧ (u5_0.toInt ≤ 220) ∧ (0 ≤ u5_1.toInt) ∧ (t9_0.toInt ≤ u0_0.toInt) ∧ (u0_0.toInt ≤ t9_0.toInt) ∧ (t0_1.toInt ≤ u0_1.toInt) ∧ (u0_1.toInt ≤ t0_1.toInt) ∧ (u1_1.toInt ≤ t10_1.toInt) ∧ (u3_1.toInt ≤ t3_1.toInt) ∧ (u5_1.toInt ≤ u1_1.toInt + 1) ∧ (u0_0, u0_1, u1_0, u1_1, u2_0, u3_0, u3_1, u4_0, u5_0, u5_1, u6_0) = (F_DW_rest_a R2 t0_0 t0_1 t1_0 t1_1 t2_0 t3_0 t3_1 t4_0 t5_0 t5_1 t6_0 t7_0 t7_1 t8_0 t9_0 t9_1 t10_0 t10_1 t11_0)) := by
  intro sz
  refine q_into (by decide) (Nat.le_of_ble_eq_true rfl) ?_
  intro p e s m below meth c ls hsz C0 V hl
  have hx := C0.1
  have hb := C0.2.1
  have btt0_1 := n_w30 hI hT0
  replace btt0_1 : q_F (0 ≤ t0_1.toInt ∧ t0_1.toInt ≤ 1) := btt0_1
  have btt1_1 := (q_bigW hI (n_b10 g q) hT1).2
  clear btt1_1
  obtain ⟨btt3_0, btt3_1⟩ := q_bigW hI (n_b12 g q) hT3
  replace btt3_0 : q_F (0 ≤ t3_0.toInt ∧ t3_0.toInt ≤ 220) := btt3_0
  replace btt3_1 : q_F (0 ≤ t3_1.toInt ∧ t3_1.toInt ≤ 1) := btt3_1
  obtain ⟨btt5_0, btt5_1⟩ := q_bigW hI (n_b22 g q) hT5
  replace btt5_0 : q_F (0 ≤ t5_0.toInt ∧ t5_0.toInt ≤ 220) := btt5_0
  replace btt5_1 : q_F (0 ≤ t5_1.toInt ∧ t5_1.toInt ≤ 1) := btt5_1
  have btt7_1 := (q_bigW hI (n_b24 g q) hT7).2
  clear btt7_1
  have btt9_1 := (n_deW hI hB2 hT9).2
  clear btt9_1
  have btt10_1 := (q_bigW hI hB2.2 hT10).2
  replace btt10_1 : q_F (0 ≤ t10_1.toInt ∧ t10_1.toInt ≤ 1) := btt10_1
  have hF : q_un ws ws [10, 11, 12, 13, 22, 23, 30] := q_u0
  have hl : lv_has ls 4 [(0, .ref (q 30)), (1, .ref (q k2)), (2, .ref (q k2))] := hl
  refine lv_aload_n hx hb d_4_7_0 rfl (lv_at hl 0 rfl) ?_
  refine lv_aload_n hx hb d_4_7_1 rfl (lv_at hl 1 rfl) ?_
  refine q_get (ci := 3) (j := 1) (v := .int t9_0) C0 V i_Dec rfl rfl hT9 (by decide) w_176 rfl d_4_7_2 ?_
  refine lv_aload_n hx hb d_4_7_5 rfl (lv_at hl 2 rfl) ?_
  refine q_get (ci := 3) (j := 1) (v := .int t9_0) C0 V i_Dec rfl rfl hT9 (by decide) w_176 rfl d_4_7_6 ?_
  refine q_max C0 hl.1 rfl w_1370 w_803 w_7 w_804 ⟨Nat.le_of_ble_eq_true rfl, Nat.le_of_ble_eq_true rfl⟩ ⟨Nat.le_of_ble_eq_true rfl, Nat.le_of_ble_eq_true rfl⟩ d_4_7_9 ?_
  obtain ⟨a50, e51⟩ := q_nm (if t9_0 < t9_0 then t9_0 else t9_0 : Int32)
  refine q_ti (v := a50) e51 ?_
  have b52 : q_F (t9_0.toInt ≤ a50.toInt ∧ t9_0.toInt ≤ a50.toInt ∧ (a50.toInt = t9_0.toInt ∨ a50.toInt = t9_0.toInt)) := (by rw [← e51]; show t9_0.toInt ≤ (if t9_0 < t9_0 then t9_0 else t9_0 : Int32).toInt ∧ t9_0.toInt ≤ (if t9_0 < t9_0 then t9_0 else t9_0 : Int32).toInt ∧ ((if t9_0 < t9_0 then t9_0 else t9_0 : Int32).toInt = t9_0.toInt ∨ (if t9_0 < t9_0 then t9_0 else t9_0 : Int32).toInt = t9_0.toInt); exact s_max (a := t9_0) (b := t9_0))
  refine lv_i2l hx hb d_4_7_12 rfl ?_
  obtain ⟨j53, e54⟩ := q_nm (a50.toInt64 : Int64)
  refine q_tl (v := j53) e54 ?_
  have b55 : q_F (j53.toInt = a50.toInt) := (by rw [← e54]; show (a50.toInt64 : Int64).toInt = a50.toInt; exact q_i2l rfl)
  refine q_put (ci := 5) (j := 1) (v := .long j53) (ty := .long) C0 V i_DW o_DW n_DW rfl rfl hT0 (by decide) w_212 rfl rfl rfl rfl (Nat.le_of_ble_eq_true rfl) d_4_7_13 (fun H locs w56 hu57 hT0 V => ?_)
  replace hT0 : w56[30]? = (some (q 30, .inr (5, [.ref (q 31), .long j53, .ref (q 9), .int t0_1])) : Option (Nat × va_E)) := hT0
  replace hI := n_p30 hI hu57 hT0 (by first | with_reducible exact q_fe btt0_1 | exact ⟨(by have t1 : 0 ≤ t0_1.toInt ∧ t0_1.toInt ≤ 1 := btt0_1; omega), (by have t1 : 0 ≤ t0_1.toInt ∧ t0_1.toInt ≤ 1 := btt0_1; omega)⟩)
  replace hT1 := (hu57 _ (by decide)).trans hT1
  replace hT2 := (hu57 _ (by decide)).trans hT2
  replace hT3 := (hu57 _ (by decide)).trans hT3
  replace hT4 := (hu57 _ (by decide)).trans hT4
  replace hT5 := (hu57 _ (by decide)).trans hT5
  replace hT6 := (hu57 _ (by decide)).trans hT6
  replace hT9 := (hu57 _ (by have z := ne_k2_30; omega)).trans hT9
  replace hT10 := (hu57 _ (by have z := ne_k2_29; omega)).trans hT10
  replace hT11 := (hu57 _ (by have z := ne_k2_28; omega)).trans hT11
  replace hF := q_us hF hu57 (by simp)
  refine lv_aload_n hx hb d_4_7_16 rfl (lv_at hl 1 rfl) ?_
  refine q_get (ci := 3) (j := 1) (v := .int t9_0) C0 V i_Dec rfl rfl hT9 (by decide) w_176 rfl d_4_7_17 ?_
  refine lv_aload_n hx hb d_4_7_20 rfl (lv_at hl 2 rfl) ?_
  refine q_get (ci := 3) (j := 1) (v := .int t9_0) C0 V i_Dec rfl rfl hT9 (by decide) w_176 rfl d_4_7_21 ?_
  refine lv_isub hx hb d_4_7_24 ?_
  obtain ⟨a58, e59⟩ := q_nm (t9_0 - t9_0 : Int32)
  refine q_ti (v := a58) e59 ?_
  have b60 : q_F (a58.toInt = t9_0.toInt - t9_0.toInt) := (by rw [← e59]; show (t9_0 - t9_0 : Int32).toInt = t9_0.toInt - t9_0.toInt; exact q_subI (x := t9_0.toInt) (y := t9_0.toInt) rfl rfl (by omega) (by omega))
  refine q_goi V (q_runS (As := [.int a58]) (rest := []) (d := 1) (mc := 0) (ms := 0) C0 V rfl LS_DW_98 (X_jMath_abs_II l D g q w56  a58 hI  (by first | with_reducible exact q_fe b60 | (have t1 : a58.toInt = t9_0.toInt - t9_0.toInt := b60; omega)) _) rfl hl.1 rfl (Nat.le_of_ble_eq_true rfl) ⟨by decide, by decide⟩ ⟨Nat.le_of_ble_eq_true rfl, Nat.le_of_ble_eq_true rfl⟩ d_4_7_25) (fun a63 u61 H locs hp62 V => ?_)
  obtain ⟨rfl, b64, b65, hE66⟩ := hp62
  have e67 : a63 = (F_jMath_abs_II a58) := hE66
  clear b64
  clear b65
  refine lv_istore_n (lv' := [(3, .int a63), (0, .ref (q 30)), (1, .ref (q k2)), (2, .ref (q k2))]) hx hb d_4_7_28 rfl hl (by decide) rfl (fun ls hl => ?_)
  refine lv_aload_n hx hb d_4_7_29 rfl (lv_at hl 1 rfl) ?_
  refine q_get (ci := 5) (j := 2) (v := .ref (q 9)) C0 V i_DW rfl rfl hT0 (by decide) w_214 rfl d_4_7_30 ?_
  have hO68 := n_o9 hI
  refine q_get (ci := 4) (j := 0) (v := .ref (q 10)) C0 V i_Mil rfl rfl hO68 (by decide) w_111 rfl d_4_7_33 ?_
  refine lv_aload_n hx hb d_4_7_36 rfl (lv_at hl 2 rfl) ?_
  refine q_get (ci := 3) (j := 0) (v := .ref (q (k2 + 1))) C0 V i_Dec rfl rfl hT9 (by decide) w_171 rfl d_4_7_37 ?_
  refine q_gov V (q_runV (As := [.ref (q (k2 + 1))]) (rest := []) (d := 2) (mc := 0) (ms := 0) (ci := 2) C0 V rfl LV_DW_44 (X_Big_copy l D g q w56 10 220 (n_b10 g q) (by decide) (k2 + 1) R2 hB2.2 (by have z := zk2; omega)  (by have z := ne_k2_9; omega) hI t1_0 t1_1 hT1 t2_0 hT2 t10_0 t10_1 hT10 t11_0 hT11  _) rfl rfl hT1 rfl hl.1 rfl (Nat.le_of_ble_eq_true rfl) ⟨by decide, by decide⟩ ⟨Nat.le_of_ble_eq_true rfl, Nat.le_of_ble_eq_true rfl⟩ d_4_7_40) (fun u69 H locs hp70 V => ?_)
  obtain ⟨hI, hZ9⟩ := hp70
  obtain ⟨hu82, hZ9⟩ := hZ9
  obtain ⟨y72, hZ9⟩ := hZ9
  obtain ⟨y73, hZ9⟩ := hZ9
  obtain ⟨f74, hZ9⟩ := hZ9
  obtain ⟨hO71, hZ9⟩ := hZ9
  obtain ⟨hA75, hZ9⟩ := hZ9
  obtain ⟨b76, hZ9⟩ := hZ9
  replace hZ9 := hZ9.2
  obtain ⟨b78, hZ9⟩ := hZ9
  obtain ⟨b79, hZ9⟩ := hZ9
  obtain ⟨b80, hE81⟩ := hZ9
  replace hO71 : u69[10]? = (some (q 10, .inr (2, [.ref (q 11), .int y72, .int y73])) : Option (Nat × va_E)) := hO71
  replace hA75 : u69[11]? = (some (q 11, .inl (g 0, (220 : Int32).toNatClampNeg, .inl f74)) : Option (Nat × va_E)) := hA75
  obtain ⟨p83, e84⟩ : ∃ z, z = (F_Big_copy (220 : Int32) R2 t1_0 t1_1 t2_0 t10_0 t10_1 t11_0) := ⟨_, rfl⟩
  have e85 : y72 = p83.1 := congrArg (fun z => z.1) (hE81.trans e84.symm)
  have e86 : y73 = p83.2.1 := congrArg (fun z => z.2.1) (hE81.trans e84.symm)
  have e87 : f74 = p83.2.2 := congrArg (fun z => z.2.2) (hE81.trans e84.symm)
  replace b76 : q_F (0 ≤ y72.toInt) := b76
  replace b78 : q_F (y72.toInt ≤ 220) := b78
  replace b79 : q_F (t10_1.toInt ≤ y73.toInt) := b79
  replace b80 : q_F (y73.toInt ≤ t10_1.toInt) := b80
  replace hT0 := (hu82 _ (by decide)).trans hT0
  replace hT3 := (hu82 _ (by decide)).trans hT3
  replace hT4 := (hu82 _ (by decide)).trans hT4
  replace hT5 := (hu82 _ (by decide)).trans hT5
  replace hT6 := (hu82 _ (by decide)).trans hT6
  replace hT9 := (hu82 _ (by have z0 := zk2; simp only [List.mem_cons, List.not_mem_nil, or_false, not_or]; omega)).trans hT9
  replace hT10 := (hu82 _ (by have z0 := zk2; simp only [List.mem_cons, List.not_mem_nil, or_false, not_or]; omega)).trans hT10
  replace hT11 := (hu82 _ (by have z0 := zk2; simp only [List.mem_cons, List.not_mem_nil, or_false, not_or]; omega)).trans hT11
  replace hO68 := (hu82 _ (by decide)).trans hO68
  replace hF := q_uc hF hu82 (by first | exact (q_sk (q_mi 0 rfl) (q_sk (q_mi 1 rfl) q_s0)) | simp)
  have hR88 := (show F_DW_rest_a_c40 R2 t0_0 t0_1 t1_0 t1_1 t2_0 t3_0 t3_1 t4_0 t5_0 t5_1 t6_0 t7_0 t7_1 t8_0 t9_0 t9_1 t10_0 t10_1 t11_0 a63 j53 p83 = (F_DW_rest_a R2 t0_0 t0_1 t1_0 t1_1 t2_0 t3_0 t3_1 t4_0 t5_0 t5_1 t6_0 t7_0 t7_1 t8_0 t9_0 t9_1 t10_0 t10_1 t11_0) from (by rw [e84, e67, ← e59, ← e54, ← e51, F_DW_rest_a.eq_1]))
  have hS89 := (show True ∧ S_DW_rest_a_c40 R2 t0_0 t0_1 t1_0 t1_1 t2_0 t3_0 t3_1 t4_0 t5_0 t5_1 t6_0 t7_0 t7_1 t8_0 t9_0 t9_1 t10_0 t10_1 t11_0 a63 j53 p83 from (by rw [e84, e67, ← e59, ← e54, ← e51]; have h := hS; rw [S_DW_rest_a.eq_1] at h; with_reducible exact h))
  refine lv_aload_n hx hb d_4_7_43 rfl (lv_at hl 2 rfl) ?_
  refine q_get (ci := 3) (j := 1) (v := .int t9_0) C0 V i_Dec rfl rfl hT9 (by decide) w_176 rfl d_4_7_44 ?_
  refine lv_aload_n hx hb d_4_7_47 rfl (lv_at hl 3 rfl) ?_
  refine q_get (ci := 3) (j := 1) (v := .int t9_0) C0 V i_Dec rfl rfl hT9 (by decide) w_176 rfl d_4_7_48 ?_
  refine lv_icmp_ge (tgt := 66) hx hb d_4_7_51 (by decide) (fun c93 => ?_) (fun c93 => absurd (show t9_0.toInt < t9_0.toInt from q_nleI c93) (by omega))
  refine lv_aload_n hx hb d_4_7_66 rfl (lv_at hl 2 rfl) ?_
  refine q_get (ci := 3) (j := 2) (v := .int t9_1) C0 V i_Dec rfl rfl hT9 (by decide) w_180 rfl d_4_7_67 ?_
  refine lv_aload_n hx hb d_4_7_70 rfl (lv_at hl 3 rfl) ?_
  refine q_get (ci := 3) (j := 2) (v := .int t9_1) C0 V i_Dec rfl rfl hT9 (by decide) w_180 rfl d_4_7_71 ?_
  refine lv_iload_n hx hb d_4_7_74 rfl (lv_at hl 0 rfl) ?_
  refine lv_iadd hx hb d_4_7_75 ?_
  obtain ⟨a94, e95⟩ := q_nm (t9_1 + a63 : Int32)
  refine q_ti (v := a94) e95 ?_
  refine lv_icmp_lt (tgt := 128) hx hb d_4_7_76 (by decide) (fun c96 => ?_) (fun c96 => ?_)
  ·
    exact q_retv C0 V (⟨hI, hF, j53, t0_1, y72, y73, f74, t3_0, t3_1, t4_0, t5_0, t5_1, t6_0, hT0, hO71, hA75, hT3, hT4, hT5, hT6, (show 0 ≤ y72.toInt from (by first | with_reducible exact q_fe b76 | (have t1 : 0 ≤ y72.toInt := b76; omega))), (show y72.toInt ≤ 220 from (by first | with_reducible exact q_fe b78 | (have t1 : y72.toInt ≤ 220 := b78; omega))), (show 0 ≤ y73.toInt from (by have t1 : 0 ≤ t10_1.toInt ∧ t10_1.toInt ≤ 1 := btt10_1; have t2 : t10_1.toInt ≤ y73.toInt := b79; omega)), (show 0 ≤ t3_0.toInt from (by first | with_reducible exact (q_fe btt3_0).2 | with_reducible exact (q_fe btt3_0).1 | (have t1 : 0 ≤ t3_0.toInt ∧ t3_0.toInt ≤ 220 := btt3_0; omega))), (show t3_0.toInt ≤ 220 from (by first | with_reducible exact (q_fe btt3_0).2 | with_reducible exact (q_fe btt3_0).1 | (have t1 : 0 ≤ t3_0.toInt ∧ t3_0.toInt ≤ 220 := btt3_0; omega))), (show 0 ≤ t3_1.toInt from (by first | with_reducible exact (q_fe btt3_1).2 | with_reducible exact (q_fe btt3_1).1 | (have t1 : 0 ≤ t3_1.toInt ∧ t3_1.toInt ≤ 1 := btt3_1; omega))), (show 0 ≤ t5_0.toInt from (by first | with_reducible exact (q_fe btt5_0).2 | with_reducible exact (q_fe btt5_0).1 | (have t1 : 0 ≤ t5_0.toInt ∧ t5_0.toInt ≤ 220 := btt5_0; omega))), (show t5_0.toInt ≤ 220 from (by first | with_reducible exact (q_fe btt5_0).2 | with_reducible exact (q_fe btt5_0).1 | (have t1 : 0 ≤ t5_0.toInt ∧ t5_0.toInt ≤ 220 := btt5_0; omega))), (show 0 ≤ t5_1.toInt from (by first | with_reducible exact (q_fe btt5_1).2 | with_reducible exact (q_fe btt5_1).1 | (have t1 : 0 ≤ t5_1.toInt ∧ t5_1.toInt ≤ 1 := btt5_1; omega))), (show t9_0.toInt ≤ j53.toInt from (by have t1 : t9_0.toInt ≤ a50.toInt ∧ t9_0.toInt ≤ a50.toInt ∧ (a50.toInt = t9_0.toInt ∨ a50.toInt = t9_0.toInt) := b52; have t2 : j53.toInt = a50.toInt := b55; omega)), (show j53.toInt ≤ t9_0.toInt from (by have t1 : t9_0.toInt ≤ a50.toInt ∧ t9_0.toInt ≤ a50.toInt ∧ (a50.toInt = t9_0.toInt ∨ a50.toInt = t9_0.toInt) := b52; have t2 : j53.toInt = a50.toInt := b55; omega)), (show t0_1.toInt ≤ t0_1.toInt from (by omega)), (show t0_1.toInt ≤ t0_1.toInt from (by omega)), (show y73.toInt ≤ t10_1.toInt from (by first | with_reducible exact q_fe b80 | (have t1 : y73.toInt ≤ t10_1.toInt := b80; omega))), (show t3_1.toInt ≤ t3_1.toInt from (by omega)), (show t5_1.toInt ≤ y73.toInt + 1 from (by have t1 : 0 ≤ t5_1.toInt ∧ t5_1.toInt ≤ 1 := btt5_1; have t2 : 0 ≤ t10_1.toInt ∧ t10_1.toInt ≤ 1 := btt10_1; have t3 : t10_1.toInt ≤ y73.toInt := b79; omega)), (show (j53, t0_1, y72, y73, f74, t3_0, t3_1, t4_0, t5_0, t5_1, t6_0) = (F_DW_rest_a R2 t0_0 t0_1 t1_0 t1_1 t2_0 t3_0 t3_1 t4_0 t5_0 t5_1 t6_0 t7_0 t7_1 t8_0 t9_0 t9_1 t10_0 t10_1 t11_0) from Eq.trans (by have c96x := c96; rw [← e95] at c96x; rw [e87, e86, e85, F_DW_rest_a_c40.eq_1, if_pos c96x]) hR88)⟩) d_4_7_128
  ·
    refine lv_aload_n hx hb d_4_7_79 rfl (lv_at hl 1 rfl) ?_
    refine q_get (ci := 5) (j := 2) (v := .ref (q 9)) C0 V i_DW rfl rfl hT0 (by decide) w_214 rfl d_4_7_80 ?_
    refine q_get (ci := 4) (j := 6) (v := .ref (q 22)) C0 V i_Mil rfl rfl hO68 (by decide) w_126 rfl d_4_7_83 ?_
    refine lv_aload_n hx hb d_4_7_86 rfl (lv_at hl 3 rfl) ?_
    refine q_get (ci := 3) (j := 0) (v := .ref (q (k2 + 1))) C0 V i_Dec rfl rfl hT9 (by decide) w_171 rfl d_4_7_87 ?_
    refine q_gov V (q_runV (As := [.ref (q (k2 + 1))]) (rest := []) (d := 2) (mc := 0) (ms := 0) (ci := 2) C0 V rfl LV_DW_44 (X_Big_copy l D g q u69 22 220 (n_b22 g q) (by decide) (k2 + 1) R2 hB2.2 (by have z := zk2; omega)  (by have z := ne_k2_21; omega) hI t5_0 t5_1 hT5 t6_0 hT6 t10_0 t10_1 hT10 t11_0 hT11  _) rfl rfl hT5 rfl hl.1 rfl (Nat.le_of_ble_eq_true rfl) ⟨by decide, by decide⟩ ⟨Nat.le_of_ble_eq_true rfl, Nat.le_of_ble_eq_true rfl⟩ d_4_7_90) (fun u99 H locs hp100 V => ?_)
    obtain ⟨hI, hZ9⟩ := hp100
    obtain ⟨hu112, hZ9⟩ := hZ9
    obtain ⟨y102, hZ9⟩ := hZ9
    obtain ⟨y103, hZ9⟩ := hZ9
    obtain ⟨f104, hZ9⟩ := hZ9
    obtain ⟨hO101, hZ9⟩ := hZ9
    obtain ⟨hA105, hZ9⟩ := hZ9
    replace hZ9 := hZ9.2.2.2.2
    obtain ⟨b110, hE111⟩ := hZ9
    replace hO101 : u99[22]? = (some (q 22, .inr (2, [.ref (q 23), .int y102, .int y103])) : Option (Nat × va_E)) := hO101
    replace hA105 : u99[23]? = (some (q 23, .inl (g 0, (220 : Int32).toNatClampNeg, .inl f104)) : Option (Nat × va_E)) := hA105
    obtain ⟨p113, e114⟩ : ∃ z, z = (F_Big_copy (220 : Int32) R2 t5_0 t5_1 t6_0 t10_0 t10_1 t11_0) := ⟨_, rfl⟩
    have e115 : y102 = p113.1 := congrArg (fun z => z.1) (hE111.trans e114.symm)
    have e116 : y103 = p113.2.1 := congrArg (fun z => z.2.1) (hE111.trans e114.symm)
    have e117 : f104 = p113.2.2 := congrArg (fun z => z.2.2) (hE111.trans e114.symm)
    replace b110 : q_F (y103.toInt ≤ t10_1.toInt) := b110
    replace hT0 := (hu112 _ (by decide)).trans hT0
    replace hO71 := (hu112 _ (by decide)).trans hO71
    replace hA75 := (hu112 _ (by decide)).trans hA75
    replace hT3 := (hu112 _ (by decide)).trans hT3
    replace hT4 := (hu112 _ (by decide)).trans hT4
    replace hO68 := (hu112 _ (by decide)).trans hO68
    replace hF := q_uc hF hu112 (by first | exact (q_sk (q_mi 4 rfl) (q_sk (q_mi 5 rfl) q_s0)) | simp)
    have hR118 := (show F_DW_rest_a_c90 R2 t0_0 t0_1 t1_0 t1_1 t2_0 t3_0 t3_1 t4_0 t5_0 t5_1 t6_0 t7_0 t7_1 t8_0 t9_0 t9_1 t10_0 t10_1 t11_0 a63 j53 p83 y72 y73 f74 p113 = (F_DW_rest_a R2 t0_0 t0_1 t1_0 t1_1 t2_0 t3_0 t3_1 t4_0 t5_0 t5_1 t6_0 t7_0 t7_1 t8_0 t9_0 t9_1 t10_0 t10_1 t11_0) from Eq.trans (by have c96x := c96; rw [← e95] at c96x; rw [e114, e87, e86, e85, F_DW_rest_a_c40.eq_1, if_neg c96x]) hR88)
    have hS119 := (show True ∧ S_DW_rest_a_c90 R2 t0_0 t0_1 t1_0 t1_1 t2_0 t3_0 t3_1 t4_0 t5_0 t5_1 t6_0 t7_0 t7_1 t8_0 t9_0 t9_1 t10_0 t10_1 t11_0 a63 j53 p83 y72 y73 f74 p113 from (by rw [e114, e87, e86, e85]; have h := hS89; rw [S_DW_rest_a_c40.eq_1] at h; have c96x := c96; rw [← e95] at c96x; rw [if_neg c96x] at h; with_reducible exact h))
    refine lv_aload_n hx hb d_4_7_93 rfl (lv_at hl 1 rfl) ?_
    refine q_get (ci := 5) (j := 2) (v := .ref (q 9)) C0 V i_DW rfl rfl hT0 (by decide) w_214 rfl d_4_7_94 ?_
    refine q_get (ci := 4) (j := 6) (v := .ref (q 22)) C0 V i_Mil rfl rfl hO68 (by decide) w_126 rfl d_4_7_97 ?_
    refine lv_iload_n hx hb d_4_7_100 rfl (lv_at hl 0 rfl) ?_
    refine q_gov V (q_runV (As := [.int a63]) (rest := []) (d := 2) (mc := 0) (ms := 0) (ci := 2) C0 V rfl LV_DW_77 (X_Big_timesTen l D g q u99 22 220 (n_b22 g q) (by decide) a63 hI y102 y103 hO101 f104 hA105  _) rfl rfl hO101 rfl hl.1 rfl (Nat.le_of_ble_eq_true rfl) ⟨by decide, by decide⟩ ⟨Nat.le_of_ble_eq_true rfl, Nat.le_of_ble_eq_true rfl⟩ d_4_7_101) (fun u123 H locs hp124 V => ?_)
    obtain ⟨hI, hZ9⟩ := hp124
    obtain ⟨hu135, hZ9⟩ := hZ9
    obtain ⟨y126, hZ9⟩ := hZ9
    obtain ⟨y127, hZ9⟩ := hZ9
    obtain ⟨f128, hZ9⟩ := hZ9
    obtain ⟨hO125, hZ9⟩ := hZ9
    obtain ⟨hA129, hZ9⟩ := hZ9
    replace hZ9 := hZ9.2.2.2
    obtain ⟨b133, hE134⟩ := hZ9
    replace hO125 : u123[22]? = (some (q 22, .inr (2, [.ref (q 23), .int y126, .int y127])) : Option (Nat × va_E)) := hO125
    replace hA129 : u123[23]? = (some (q 23, .inl (g 0, (220 : Int32).toNatClampNeg, .inl f128)) : Option (Nat × va_E)) := hA129
    obtain ⟨p136, e137⟩ : ∃ z, z = (F_Big_timesTen (220 : Int32) a63 y102 y103 f104) := ⟨_, rfl⟩
    have e138 : y126 = p136.1 := congrArg (fun z => z.1) (hE134.trans e137.symm)
    have e139 : y127 = p136.2.1 := congrArg (fun z => z.2.1) (hE134.trans e137.symm)
    have e140 : f128 = p136.2.2 := congrArg (fun z => z.2.2) (hE134.trans e137.symm)
    replace b133 : q_F (y127.toInt ≤ y103.toInt) := b133
    replace hT0 := (hu135 _ (by decide)).trans hT0
    replace hO71 := (hu135 _ (by decide)).trans hO71
    replace hA75 := (hu135 _ (by decide)).trans hA75
    replace hT3 := (hu135 _ (by decide)).trans hT3
    replace hT4 := (hu135 _ (by decide)).trans hT4
    replace hO68 := (hu135 _ (by decide)).trans hO68
    replace hF := q_uc hF hu135 (by first | exact (q_sk (q_mi 4 rfl) (q_sk (q_mi 5 rfl) q_s0)) | simp)
    have hR141 := (show F_DW_rest_a_c101 R2 t0_0 t0_1 t1_0 t1_1 t2_0 t3_0 t3_1 t4_0 t5_0 t5_1 t6_0 t7_0 t7_1 t8_0 t9_0 t9_1 t10_0 t10_1 t11_0 a63 j53 p83 y72 y73 f74 p113 p136 = (F_DW_rest_a R2 t0_0 t0_1 t1_0 t1_1 t2_0 t3_0 t3_1 t4_0 t5_0 t5_1 t6_0 t7_0 t7_1 t8_0 t9_0 t9_1 t10_0 t10_1 t11_0) from Eq.trans (by rw [e137, e117, e116, e115, F_DW_rest_a_c90.eq_1]) hR118)
    have hS142 := (show True ∧ S_DW_rest_a_c101 R2 t0_0 t0_1 t1_0 t1_1 t2_0 t3_0 t3_1 t4_0 t5_0 t5_1 t6_0 t7_0 t7_1 t8_0 t9_0 t9_1 t10_0 t10_1 t11_0 a63 j53 p83 y72 y73 f74 p113 p136 from (by rw [e137, e117, e116, e115]; have h := hS119; rw [S_DW_rest_a_c90.eq_1] at h; with_reducible exact h))
    refine lv_aload_n hx hb d_4_7_104 rfl (lv_at hl 1 rfl) ?_
    refine q_get (ci := 5) (j := 2) (v := .ref (q 9)) C0 V i_DW rfl rfl hT0 (by decide) w_214 rfl d_4_7_105 ?_
    refine q_get (ci := 4) (j := 0) (v := .ref (q 10)) C0 V i_Mil rfl rfl hO68 (by decide) w_111 rfl d_4_7_108 ?_
    refine lv_aload_n hx hb d_4_7_111 rfl (lv_at hl 1 rfl) ?_
    refine q_get (ci := 5) (j := 2) (v := .ref (q 9)) C0 V i_DW rfl rfl hT0 (by decide) w_214 rfl d_4_7_112 ?_
    refine q_get (ci := 4) (j := 6) (v := .ref (q 22)) C0 V i_Mil rfl rfl hO68 (by decide) w_126 rfl d_4_7_115 ?_
    refine lv_aload_n hx hb d_4_7_118 rfl (lv_at hl 1 rfl) ?_
    refine q_get (ci := 5) (j := 2) (v := .ref (q 9)) C0 V i_DW rfl rfl hT0 (by decide) w_214 rfl d_4_7_119 ?_
    refine q_get (ci := 4) (j := 1) (v := .ref (q 12)) C0 V i_Mil rfl rfl hO68 (by decide) w_115 rfl d_4_7_122 ?_
    have ob146 : True ∧ S_Big_divideBy (220 : Int32) (220 : Int32) (220 : Int32) y72 y73 f74 y126 y127 f128 t3_0 t3_1 t4_0 := (by rw [e140, e139, e138]; have h := hS142; rw [S_DW_rest_a_c101.eq_1] at h; with_reducible exact h.2.1)
    refine q_gov V (q_runV (As := [.ref (q 22), .ref (q 12)]) (rest := []) (d := 4) (mc := 0) (ms := 0) (ci := 2) C0 V rfl LV_DW_109 (X_Big_divideBy l D g q u123 10 220 (n_b10 g q) (by decide) 22 220 (n_b22 g q) (by decide) 12 220 (n_b12 g q) (by decide)  (by decide) (by decide) (by decide) hI y72 y73 hO71 f74 hA75 y126 y127 hO125 f128 hA129 t3_0 t3_1 hT3 t4_0 hT4 ob146 _) rfl rfl hO71 rfl hl.1 rfl (Nat.le_of_ble_eq_true rfl) ⟨by decide, by decide⟩ ⟨Nat.le_of_ble_eq_true rfl, Nat.le_of_ble_eq_true rfl⟩ d_4_7_125) (fun u147 H locs hp148 V => ?_)
    obtain ⟨hI, hZ9⟩ := hp148
    obtain ⟨hu180, hZ9⟩ := hZ9
    obtain ⟨y150, hZ9⟩ := hZ9
    obtain ⟨y151, hZ9⟩ := hZ9
    obtain ⟨f152, hZ9⟩ := hZ9
    obtain ⟨y155, hZ9⟩ := hZ9
    obtain ⟨y156, hZ9⟩ := hZ9
    obtain ⟨f157, hZ9⟩ := hZ9
    obtain ⟨y160, hZ9⟩ := hZ9
    obtain ⟨y161, hZ9⟩ := hZ9
    obtain ⟨f162, hZ9⟩ := hZ9
    obtain ⟨hO149, hZ9⟩ := hZ9
    obtain ⟨hA153, hZ9⟩ := hZ9
    obtain ⟨hO154, hZ9⟩ := hZ9
    obtain ⟨hA158, hZ9⟩ := hZ9
    obtain ⟨hO159, hZ9⟩ := hZ9
    obtain ⟨hA163, hZ9⟩ := hZ9
    obtain ⟨b164, hZ9⟩ := hZ9
    obtain ⟨b165, hZ9⟩ := hZ9
    obtain ⟨b166, hZ9⟩ := hZ9
    obtain ⟨b167, hZ9⟩ := hZ9
    replace hZ9 := hZ9.2
    obtain ⟨b169, hZ9⟩ := hZ9
    obtain ⟨b170, hZ9⟩ := hZ9
    replace hZ9 := hZ9.2.2
    obtain ⟨b173, hZ9⟩ := hZ9
    obtain ⟨b174, hZ9⟩ := hZ9
    obtain ⟨b175, hZ9⟩ := hZ9
    obtain ⟨b176, hZ9⟩ := hZ9
    obtain ⟨b177, hZ9⟩ := hZ9
    obtain ⟨b178, hE179⟩ := hZ9
    replace hO149 : u147[10]? = (some (q 10, .inr (2, [.ref (q 11), .int y150, .int y151])) : Option (Nat × va_E)) := hO149
    replace hA153 : u147[11]? = (some (q 11, .inl (g 0, (220 : Int32).toNatClampNeg, .inl f152)) : Option (Nat × va_E)) := hA153
    replace hO154 : u147[22]? = (some (q 22, .inr (2, [.ref (q 23), .int y155, .int y156])) : Option (Nat × va_E)) := hO154
    replace hA158 : u147[23]? = (some (q 23, .inl (g 0, (220 : Int32).toNatClampNeg, .inl f157)) : Option (Nat × va_E)) := hA158
    replace hO159 : u147[12]? = (some (q 12, .inr (2, [.ref (q 13), .int y160, .int y161])) : Option (Nat × va_E)) := hO159
    replace hA163 : u147[13]? = (some (q 13, .inl (g 0, (220 : Int32).toNatClampNeg, .inl f162)) : Option (Nat × va_E)) := hA163
    obtain ⟨p181, e182⟩ : ∃ z, z = (F_Big_divideBy (220 : Int32) (220 : Int32) (220 : Int32) y72 y73 f74 y126 y127 f128 t3_0 t3_1 t4_0) := ⟨_, rfl⟩
    have e183 : y150 = p181.1 := congrArg (fun z => z.1) (hE179.trans e182.symm)
    have e184 : y151 = p181.2.1 := congrArg (fun z => z.2.1) (hE179.trans e182.symm)
    have e185 : f152 = p181.2.2.1 := congrArg (fun z => z.2.2.1) (hE179.trans e182.symm)
    have e186 : y155 = p181.2.2.2.1 := congrArg (fun z => z.2.2.2.1) (hE179.trans e182.symm)
    have e187 : y156 = p181.2.2.2.2.1 := congrArg (fun z => z.2.2.2.2.1) (hE179.trans e182.symm)
    have e188 : f157 = p181.2.2.2.2.2.1 := congrArg (fun z => z.2.2.2.2.2.1) (hE179.trans e182.symm)
    have e189 : y160 = p181.2.2.2.2.2.2.1 := congrArg (fun z => z.2.2.2.2.2.2.1) (hE179.trans e182.symm)
    have e190 : y161 = p181.2.2.2.2.2.2.2.1 := congrArg (fun z => z.2.2.2.2.2.2.2.1) (hE179.trans e182.symm)
    have e191 : f162 = p181.2.2.2.2.2.2.2.2 := congrArg (fun z => z.2.2.2.2.2.2.2.2) (hE179.trans e182.symm)
    replace b164 : q_F (0 ≤ y161.toInt) := b164
    replace b165 : q_F (y161.toInt ≤ 0) := b165
    replace b166 : q_F (y150.toInt ≤ 220) := b166
    replace b167 : q_F (y151.toInt ≤ y73.toInt) := b167
    replace b169 : q_F (y155.toInt ≤ 220) := b169
    replace b170 : q_F (y156.toInt ≤ y127.toInt) := b170
    replace b173 : q_F (y160.toInt ≤ 220) := b173
    replace b174 : q_F (y161.toInt ≤ y150.toInt) := b174
    replace b175 : q_F (y161.toInt ≤ y151.toInt) := b175
    replace b176 : q_F (y161.toInt ≤ y155.toInt) := b176
    replace b177 : q_F (y161.toInt ≤ y156.toInt) := b177
    replace b178 : q_F (y161.toInt ≤ y160.toInt) := b178
    replace hT0 := (hu180 _ (by decide)).trans hT0
    replace hF := q_uc hF hu180 (by first | exact (q_sk (q_mi 0 rfl) (q_sk (q_mi 1 rfl) (q_sk (q_mi 4 rfl) (q_sk (q_mi 5 rfl) (q_sk (q_mi 2 rfl) (q_sk (q_mi 3 rfl) q_s0)))))) | simp)
    have hR192 := (show F_DW_rest_a_c125 R2 t0_0 t0_1 t1_0 t1_1 t2_0 t3_0 t3_1 t4_0 t5_0 t5_1 t6_0 t7_0 t7_1 t8_0 t9_0 t9_1 t10_0 t10_1 t11_0 a63 j53 p83 y72 y73 f74 p113 p136 p181 = (F_DW_rest_a R2 t0_0 t0_1 t1_0 t1_1 t2_0 t3_0 t3_1 t4_0 t5_0 t5_1 t6_0 t7_0 t7_1 t8_0 t9_0 t9_1 t10_0 t10_1 t11_0) from Eq.trans (by rw [e182, e140, e139, e138, F_DW_rest_a_c101.eq_1]) hR141)
    have hS193 := (show True ∧ S_DW_rest_a_c125 R2 t0_0 t0_1 t1_0 t1_1 t2_0 t3_0 t3_1 t4_0 t5_0 t5_1 t6_0 t7_0 t7_1 t8_0 t9_0 t9_1 t10_0 t10_1 t11_0 a63 j53 p83 y72 y73 f74 p113 p136 p181 from (by rw [e182, e140, e139, e138]; have h := hS142; rw [S_DW_rest_a_c101.eq_1] at h; replace h := q_s2 h; with_reducible exact h))
    exact q_retv C0 V (⟨hI, hF, j53, t0_1, y150, y151, f152, y160, y161, f162, y155, y156, f157, hT0, hO149, hA153, hO159, hA163, hO154, hA158, (show 0 ≤ y150.toInt from (by have t1 : 0 ≤ y161.toInt := b164; have t2 : y161.toInt ≤ y150.toInt := b174; omega)), (show y150.toInt ≤ 220 from (by first | with_reducible exact q_fe b166 | (have t1 : y150.toInt ≤ 220 := b166; omega))), (show 0 ≤ y151.toInt from (by have t1 : 0 ≤ y161.toInt := b164; have t2 : y161.toInt ≤ y151.toInt := b175; omega)), (show 0 ≤ y160.toInt from (by have t1 : 0 ≤ y161.toInt := b164; have t2 : y161.toInt ≤ y160.toInt := b178; omega)), (show y160.toInt ≤ 220 from (by first | with_reducible exact q_fe b173 | (have t1 : y160.toInt ≤ 220 := b173; omega))), (show 0 ≤ y161.toInt from (by first | with_reducible exact q_fe b164 | (have t1 : 0 ≤ y161.toInt := b164; omega))), (show 0 ≤ y155.toInt from (by have t1 : 0 ≤ y161.toInt := b164; have t2 : y161.toInt ≤ y155.toInt := b176; omega)), (show y155.toInt ≤ 220 from (by first | with_reducible exact q_fe b169 | (have t1 : y155.toInt ≤ 220 := b169; omega))), (show 0 ≤ y156.toInt from (by have t1 : 0 ≤ y161.toInt := b164; have t2 : y161.toInt ≤ y156.toInt := b177; omega)), (show t9_0.toInt ≤ j53.toInt from (by have t1 : t9_0.toInt ≤ a50.toInt ∧ t9_0.toInt ≤ a50.toInt ∧ (a50.toInt = t9_0.toInt ∨ a50.toInt = t9_0.toInt) := b52; have t2 : j53.toInt = a50.toInt := b55; omega)), (show j53.toInt ≤ t9_0.toInt from (by have t1 : t9_0.toInt ≤ a50.toInt ∧ t9_0.toInt ≤ a50.toInt ∧ (a50.toInt = t9_0.toInt ∨ a50.toInt = t9_0.toInt) := b52; have t2 : j53.toInt = a50.toInt := b55; omega)), (show t0_1.toInt ≤ t0_1.toInt from (by omega)), (show t0_1.toInt ≤ t0_1.toInt from (by omega)), (show y151.toInt ≤ t10_1.toInt from (by have t1 : y73.toInt ≤ t10_1.toInt := b80; have t2 : y151.toInt ≤ y73.toInt := b167; omega)), (show y161.toInt ≤ t3_1.toInt from (by have t1 : 0 ≤ t3_1.toInt ∧ t3_1.toInt ≤ 1 := btt3_1; have t2 : y161.toInt ≤ 0 := b165; omega)), (show y156.toInt ≤ y151.toInt + 1 from (by have t1 : 0 ≤ t10_1.toInt ∧ t10_1.toInt ≤ 1 := btt10_1; have t2 : y103.toInt ≤ t10_1.toInt := b110; have t3 : y127.toInt ≤ y103.toInt := b133; have t4 : 0 ≤ y161.toInt := b164; have t5 : y156.toInt ≤ y127.toInt := b170; have t6 : y161.toInt ≤ y151.toInt := b175; omega)), (show (j53, t0_1, y150, y151, f152, y160, y161, f162, y155, y156, f157) = (F_DW_rest_a R2 t0_0 t0_1 t1_0 t1_1 t2_0 t3_0 t3_1 t4_0 t5_0 t5_1 t6_0 t7_0 t7_1 t8_0 t9_0 t9_1 t10_0 t10_1 t11_0) from Eq.trans (by rw [e191, e190, e189, e188, e187, e186, e185, e184, e183, F_DW_rest_a_c125.eq_1]) hR192)⟩) d_4_7_128

