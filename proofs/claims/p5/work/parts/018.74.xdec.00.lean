/-! DecimalWork, exactly -/
def F_jMath_abs_II (x1 : Int32) : Int32 := if (0 : Int32) ≤ x1 then (x1) else ((-x1 : Int32))
set_option maxRecDepth 100000 in
set_option maxHeartbeats 4000000 in
theorem X_jMath_abs_II (l : Launch) (D : va_G) (g : Nat → ClassId) (q : Nat → Nat) (ws : va_W) (x1 : Int32) (hI : q_I (nsh g q) q ws) (pre0 : 0 ≤ x1.toInt + 2147483647) : q_mI l y_jMath_abs_II prog_29_method_59_code 1 (.int) 1 0 0 D g [.int x1] ws (fun r u => ws = u ∧ (0 ≤ r.toInt) ∧ (x1.toInt ≤ r.toInt) ∧ r = (F_jMath_abs_II x1)) := by
  intro sz
  refine q_intoF (by decide +kernel) (Nat.le_of_ble_eq_true rfl) ?_
  intro p e s m below meth c ls hsz C0 V hl
  have hx := C0.1
  have hb := C0.2.1
  replace pre0 : q_F (0 ≤ x1.toInt + 2147483647) := pre0
  have hl : lv_has ls 1 [(0, .int x1)] := hl
  refine lv_iload_n hx hb d_29_59_0 rfl (lv_at hl 0 rfl) ?_
  refine lv_if_ge (tgt := 9) hx hb d_29_59_1 (by decide) (fun c1 => ?_) (fun c1 => ?_)
  ·
    have b2 : q_F (0 ≤ x1.toInt) := (q_leI c1)
    refine lv_iload_n hx hb d_29_59_9 rfl (lv_at hl 0 rfl) ?_
    exact q_reti C0 V (⟨rfl, (show 0 ≤ x1.toInt from (by first | with_reducible exact q_fe b2 | (have t1 : 0 ≤ x1.toInt := b2; omega))), (show x1.toInt ≤ x1.toInt from (by omega)), (show x1 = (F_jMath_abs_II x1) from (by rw [F_jMath_abs_II.eq_1, if_pos c1]))⟩) d_29_59_10
  ·
    have b3 : q_F (x1.toInt < 0) := (q_nleI c1)
    refine lv_iload_n hx hb d_29_59_4 rfl (lv_at hl 0 rfl) ?_
    refine lv_ineg hx hb d_29_59_5 ?_
    obtain ⟨a4, e5⟩ := q_nm (-x1 : Int32)
    refine q_ti (v := a4) e5 ?_
    have b6 : q_F (a4.toInt = -x1.toInt) := (by rw [← e5]; show (-x1 : Int32).toInt = -x1.toInt; exact q_negI rfl (by first | with_reducible exact q_fe pre0 | (have t1 : 0 ≤ x1.toInt + 2147483647 := pre0; omega)))
    refine lv_goto (tgt := 10) hx hb d_29_59_6 (by decide) ?_
    exact q_reti C0 V (⟨rfl, (show 0 ≤ a4.toInt from (by have t1 : x1.toInt < 0 := b3; have t2 : a4.toInt = -x1.toInt := b6; omega)), (show x1.toInt ≤ a4.toInt from (by have t1 : x1.toInt < 0 := b3; have t2 : a4.toInt = -x1.toInt := b6; omega)), (show a4 = (F_jMath_abs_II x1) from (by rw [← e5, F_jMath_abs_II.eq_1, if_neg c1]))⟩) d_29_59_10
theorem d_29_47_0 : decode prog_29_method_47_code 0 = .ok (.iload_n 0, 1) := by decide +kernel
theorem d_29_47_1 : decode prog_29_method_47_code 1 = .ok (.iload_n 1, 1) := by decide +kernel
theorem d_29_47_2 : decode prog_29_method_47_code 2 = .ok (.idiv, 1) := by decide +kernel
theorem d_29_47_3 : decode prog_29_method_47_code 3 = .ok (.istore_n 2, 1) := by decide +kernel
theorem d_29_47_4 : decode prog_29_method_47_code 4 = .ok (.iload_n 0, 1) := by decide +kernel
theorem d_29_47_5 : decode prog_29_method_47_code 5 = .ok (.iload_n 1, 1) := by decide +kernel
theorem d_29_47_6 : decode prog_29_method_47_code 6 = .ok (.ixor, 1) := by decide +kernel
theorem d_29_47_7 : decode prog_29_method_47_code 7 = .ok (.ifCond .ge 14, 3) := by decide +kernel
theorem d_29_47_21 : decode prog_29_method_47_code 21 = .ok (.iload_n 2, 1) := by decide +kernel
theorem d_29_47_22 : decode prog_29_method_47_code 22 = .ok (.ireturn, 1) := by decide +kernel
theorem d_29_47_10 : decode prog_29_method_47_code 10 = .ok (.iload_n 2, 1) := by decide +kernel
theorem d_29_47_11 : decode prog_29_method_47_code 11 = .ok (.iload_n 1, 1) := by decide +kernel
theorem d_29_47_12 : decode prog_29_method_47_code 12 = .ok (.imul, 1) := by decide +kernel
theorem d_29_47_13 : decode prog_29_method_47_code 13 = .ok (.iload_n 0, 1) := by decide +kernel
theorem d_29_47_14 : decode prog_29_method_47_code 14 = .ok (.if_icmp .eq 7, 3) := by decide +kernel
theorem d_29_47_17 : decode prog_29_method_47_code 17 = .ok (.iload_n 2, 1) := by decide +kernel
theorem d_29_47_18 : decode prog_29_method_47_code 18 = .ok (.iconst 1, 1) := by decide +kernel
theorem d_29_47_19 : decode prog_29_method_47_code 19 = .ok (.isub, 1) := by decide +kernel
theorem d_29_47_20 : decode prog_29_method_47_code 20 = .ok (.ireturn, 1) := by decide +kernel
def y_jMath_floorDiv_III : MethodName := ⟨"java/lang/Math", "floorDiv", "(II)I"⟩
def F_jMath_floorDiv_III (x1 : Int32) (x2 : Int32) : Int32 := if (0 : Int32) ≤ (x1 ^^^ x2 : Int32) then ((x1 / x2 : Int32)) else (if ((x1 / x2 : Int32) * x2 : Int32) = x1 then ((x1 / x2 : Int32)) else (((x1 / x2 : Int32) - 1 : Int32)))
set_option maxRecDepth 100000 in
set_option maxHeartbeats 4000000 in
theorem X_jMath_floorDiv_III (l : Launch) (D : va_G) (g : Nat → ClassId) (q : Nat → Nat) (ws : va_W) (x1 : Int32) (x2 : Int32) (hI : q_I (nsh g q) q ws) (pre0 : 1 ≤ x2.toInt) : q_mI l y_jMath_floorDiv_III prog_29_method_47_code 3 (.int) 1 0 0 D g [.int x1, .int x2] ws (fun r u => ws = u ∧ r = (F_jMath_floorDiv_III x1 x2)) := by
  intro sz
  refine q_intoF (by decide +kernel) (Nat.le_of_ble_eq_true rfl) ?_
  intro p e s m below meth c ls hsz C0 V hl
  have hx := C0.1
  have hb := C0.2.1
  replace pre0 : q_F (1 ≤ x2.toInt) := pre0
  have hl : lv_has ls 3 [(0, .int x1), (1, .int x2)] := hl
  refine lv_iload_n hx hb d_29_47_0 rfl (lv_at hl 0 rfl) ?_
  refine lv_iload_n hx hb d_29_47_1 rfl (lv_at hl 1 rfl) ?_
  refine lv_idiv hx hb d_29_47_2 (s_nzI (by first | with_reducible exact q_fe pre0 | (have t1 : 1 ≤ x2.toInt := pre0; omega))) ?_
  obtain ⟨a1, e2⟩ := q_nm (x1 / x2 : Int32)
  refine q_ti (v := a1) e2 ?_
  refine lv_istore_n (lv' := [(2, .int a1), (0, .int x1), (1, .int x2)]) hx hb d_29_47_3 rfl hl (by decide) rfl (fun ls hl => ?_)
  refine lv_iload_n hx hb d_29_47_4 rfl (lv_at hl 1 rfl) ?_
  refine lv_iload_n hx hb d_29_47_5 rfl (lv_at hl 2 rfl) ?_
  refine lv_ixor hx hb d_29_47_6 ?_
  obtain ⟨a3, e4⟩ := q_nm (x1 ^^^ x2 : Int32)
  refine q_ti (v := a3) e4 ?_
  refine lv_if_ge (tgt := 21) hx hb d_29_47_7 (by decide) (fun c5 => ?_) (fun c5 => ?_)
  ·
    refine lv_iload_n hx hb d_29_47_21 rfl (lv_at hl 0 rfl) ?_
    exact q_reti C0 V (⟨rfl, (show a1 = (F_jMath_floorDiv_III x1 x2) from (by have c5x := c5; rw [← e4] at c5x; rw [← e2, F_jMath_floorDiv_III.eq_1, if_pos c5x]))⟩) d_29_47_22
  ·
    refine lv_iload_n hx hb d_29_47_10 rfl (lv_at hl 0 rfl) ?_
    refine lv_iload_n hx hb d_29_47_11 rfl (lv_at hl 2 rfl) ?_
    refine lv_imul hx hb d_29_47_12 ?_
    obtain ⟨a8, e9⟩ := q_nm (a1 * x2 : Int32)
    refine q_ti (v := a8) e9 ?_
    refine lv_iload_n hx hb d_29_47_13 rfl (lv_at hl 1 rfl) ?_
    refine lv_icmp_eq (tgt := 21) hx hb d_29_47_14 (by decide) (fun c10 => ?_) (fun c10 => ?_)
    ·
      refine lv_iload_n hx hb d_29_47_21 rfl (lv_at hl 0 rfl) ?_
      exact q_reti C0 V (⟨rfl, (show a1 = (F_jMath_floorDiv_III x1 x2) from (by have c5x := c5; rw [← e4] at c5x; have c10x := c10; rw [← e9, ← e2] at c10x; rw [← e2, F_jMath_floorDiv_III.eq_1, if_neg c5x, if_pos c10x]))⟩) d_29_47_22
    ·
      refine lv_iload_n hx hb d_29_47_17 rfl (lv_at hl 0 rfl) ?_
      refine lv_iconst (v := 1) hx hb d_29_47_18 (by decide) ?_
      refine lv_isub hx hb d_29_47_19 ?_
      obtain ⟨a13, e14⟩ := q_nm (a1 - 1 : Int32)
      refine q_ti (v := a13) e14 ?_
      exact q_reti C0 V (⟨rfl, (show a13 = (F_jMath_floorDiv_III x1 x2) from (by have c5x := c5; rw [← e4] at c5x; have c10x := c10; rw [← e9, ← e2] at c10x; rw [← e14, ← e2, F_jMath_floorDiv_III.eq_1, if_neg c5x, if_neg c10x]))⟩) d_29_47_20
theorem d_4_3_0 : decode prog_4_method_3_code 0 = .ok (.aload_n 0, 1) := by decide +kernel
theorem d_4_3_1 : decode prog_4_method_3_code 1 = .ok (.getfield 20, 3) := by decide +kernel
theorem d_4_3_4 : decode prog_4_method_3_code 4 = .ok (.getfield 55, 3) := by decide +kernel
set_option maxRecDepth 100000 in
theorem w_111 : (Cond.fieldLink "NumberHouse$DecimalWork" (55 : Nat) "NumberHouse$Mill" "number" "LNumberHouse$Big;") ∈ q_tbl := q_of1 111 rfl (by decide +kernel)
theorem d_4_3_7 : decode prog_4_method_3_code 7 = .ok (.aload_n 1, 1) := by decide +kernel
theorem d_4_3_8 : decode prog_4_method_3_code 8 = .ok (.getfield 24, 3) := by decide +kernel
theorem d_4_3_11 : decode prog_4_method_3_code 11 = .ok (.invokevirtual 44, 3) := by decide +kernel
set_option maxRecDepth 100000 in
theorem w_1091 : (Cond.methodLink "NumberHouse$DecimalWork" (44 : Nat) ({ cls := "NumberHouse$Big", name := "copy", desc := "(LNumberHouse$Big;)V" } : MethodName)) ∈ q_tbl := q_of5 131 rfl (by decide +kernel)
theorem LV_DW_44 : q_LV "NumberHouse$DecimalWork" 44 y_Big_copy prog_2_method_4_code 2 none 1 := ⟨w_790, w_4, w_1091, w_788, w_789, ⟨by decide, by decide, by decide +kernel⟩⟩
theorem d_4_3_14 : decode prog_4_method_3_code 14 = .ok (.aload_n 0, 1) := by decide +kernel
theorem d_4_3_15 : decode prog_4_method_3_code 15 = .ok (.aload_n 1, 1) := by decide +kernel
theorem d_4_3_16 : decode prog_4_method_3_code 16 = .ok (.getfield 48, 3) := by decide +kernel
set_option maxRecDepth 100000 in
theorem w_176 : (Cond.fieldLink "NumberHouse$DecimalWork" (48 : Nat) "NumberHouse$Dec" "scale" "I") ∈ q_tbl := q_of1 176 rfl (by decide +kernel)
theorem d_4_3_19 : decode prog_4_method_3_code 19 = .ok (.i2l, 1) := by decide +kernel
theorem d_4_3_20 : decode prog_4_method_3_code 20 = .ok (.putfield 56, 3) := by decide +kernel
set_option maxRecDepth 100000 in
theorem w_212 : (Cond.fieldLink "NumberHouse$DecimalWork" (56 : Nat) "NumberHouse$DecimalWork" "scale" "J") ∈ q_tbl := q_of1 212 rfl (by decide +kernel)
theorem d_4_3_23 : decode prog_4_method_3_code 23 = .ok (.return_, 1) := by decide +kernel
def y_DW_take : MethodName := ⟨"NumberHouse$DecimalWork", "take", "(LNumberHouse$Dec;)V"⟩
def F_DW_take_c11 (R : Int32) (t0_0 : Int64) (t0_1 : Int32) (t1_0 : Int32) (t1_1 : Int32) (t2_0 : (Nat → Int32)) (t3_0 : Int32) (t3_1 : Int32) (t4_0 : Int32) (t4_1 : Int32) (t5_0 : (Nat → Int32)) (p41 : (Int32 × Int32 × (Nat → Int32))) : Int64 × Int32 × Int32 × Int32 × (Nat → Int32) := ((t3_0.toInt64 : Int64), t0_1, (p41.1 : Int32), (p41.2.1 : Int32), (p41.2.2 : (Nat → Int32)))
def F_DW_take (R : Int32) (t0_0 : Int64) (t0_1 : Int32) (t1_0 : Int32) (t1_1 : Int32) (t2_0 : (Nat → Int32)) (t3_0 : Int32) (t3_1 : Int32) (t4_0 : Int32) (t4_1 : Int32) (t5_0 : (Nat → Int32)) : Int64 × Int32 × Int32 × Int32 × (Nat → Int32) := F_DW_take_c11 R t0_0 t0_1 t1_0 t1_1 t2_0 t3_0 t3_1 t4_0 t4_1 t5_0 ((F_Big_copy (220 : Int32) R t1_0 t1_1 t2_0 t4_0 t4_1 t5_0) : (Int32 × Int32 × (Nat → Int32)))
set_option maxRecDepth 100000 in
set_option maxHeartbeats 4000000 in
theorem X_DW_take (l : Launch) (D : va_G) (g : Nat → ClassId) (q : Nat → Nat) (ws : va_W) (k2 : Nat) (R : Int32) (hB2 : q_isDec (nsh g q) g q k2 R) (zk2 : (10 ≤ k2 ∧ k2 ≤ 31) ∨ 66 ≤ k2) (ne_k2_10 : k2 ≠ 10) (ne_k2_11 : k2 ≠ 11) (ne_k2_9 : k2 ≠ 9) (ne_k2_8 : k2 ≠ 8) (ne_k2_30 : k2 ≠ 30) (ne_k2_31 : k2 ≠ 31) (ne_k2_29 : k2 ≠ 29) (ne_k2_28 : k2 ≠ 28) (hI : q_I (nsh g q) q ws) (t0_0 : Int64) (t0_1 : Int32) (hT0 : ws[30]? = (some (q 30, .inr (5, [.ref (q 31), .long t0_0, .ref (q 9), .int t0_1])) : Option (Nat × va_E))) (t1_0 : Int32) (t1_1 : Int32) (hT1 : ws[10]? = (some (q 10, .inr (2, [.ref (q 11), .int t1_0, .int t1_1])) : Option (Nat × va_E))) (t2_0 : (Nat → Int32)) (hT2 : ws[11]? = (some (q 11, .inl (g 0, (220 : Int32).toNatClampNeg, .inl t2_0)) : Option (Nat × va_E))) (t3_0 : Int32) (t3_1 : Int32) (hT3 : ws[k2]? = (some (q k2, .inr (3, [.ref (q (k2 + 1)), .int t3_0, .int t3_1])) : Option (Nat × va_E))) (t4_0 : Int32) (t4_1 : Int32) (hT4 : ws[k2 + 1]? = (some (q (k2 + 1), .inr (2, [.ref (q (k2 + 2)), .int t4_0, .int t4_1])) : Option (Nat × va_E))) (t5_0 : (Nat → Int32)) (hT5 : ws[k2 + 2]? = (some (q (k2 + 2), .inl (g 0, R.toNatClampNeg, .inl t5_0)) : Option (Nat × va_E))) : q_mV l y_DW_take prog_4_method_3_code 2 3 0 0 D g [.ref (q 30), .ref (q k2)] ws (fun u => q_I (nsh g q) q u ∧ q_un ws u [10, 11, 30] ∧ ∃ (u0_0 : Int64) (u0_1 : Int32) (u1_0 : Int32) (u1_1 : Int32) (u2_0 : (Nat → Int32)), u[30]? = (some (q 30, .inr (5, [.ref (q 31), .long u0_0, .ref (q 9), .int u0_1])) : Option (Nat × va_E)) ∧ u[10]? = (some (q 10, .inr (2, [.ref (q 11), .int u1_0, .int u1_1])) : Option (Nat × va_E)) ∧ u[11]? = (some (q 11, .inl (g 0, (220 : Int32).toNatClampNeg, .inl u2_0)) : Option (Nat × va_E)) ∧ (0 ≤ u1_0.toInt) ∧ (t3_0.toInt ≤ u0_0.toInt) ∧ (u0_0.toInt ≤ t3_0.toInt) ∧ (t0_1.toInt ≤ u0_1.toInt) ∧ (u0_1.toInt ≤ t0_1.toInt) ∧ (u1_0.toInt ≤ t4_0.toInt) ∧ (t4_1.toInt ≤ u1_1.toInt) ∧ (u1_1.toInt ≤ t4_1.toInt) ∧ (u0_0, u0_1, u1_0, u1_1, u2_0) = (F_DW_take R t0_0 t0_1 t1_0 t1_1 t2_0 t3_0 t3_1 t4_0 t4_1 t5_0)) := by
  intro sz
  refine q_into (by decide) (Nat.le_of_ble_eq_true rfl) ?_
  intro p e s m below meth c ls hsz C0 V hl
  have hx := C0.1
  have hb := C0.2.1
  have btt0_1 := n_w30 hI hT0
  replace btt0_1 : q_F (0 ≤ t0_1.toInt ∧ t0_1.toInt ≤ 1) := btt0_1
  have btt1_1 := (q_bigW hI (n_b10 g q) hT1).2
  clear btt1_1
  have btt3_1 := (n_deW hI hB2 hT3).2
  clear btt3_1
  have btt4_1 := (q_bigW hI hB2.2 hT4).2
  clear btt4_1
  have hF : q_un ws ws [10, 11, 30] := q_u0
  have hl : lv_has ls 2 [(0, .ref (q 30)), (1, .ref (q k2))] := hl
  refine lv_aload_n hx hb d_4_3_0 rfl (lv_at hl 0 rfl) ?_
  refine q_get (ci := 5) (j := 2) (v := .ref (q 9)) C0 V i_DW rfl rfl hT0 (by decide) w_214 rfl d_4_3_1 ?_
  have hO26 := n_o9 hI
  refine q_get (ci := 4) (j := 0) (v := .ref (q 10)) C0 V i_Mil rfl rfl hO26 (by decide) w_111 rfl d_4_3_4 ?_
  refine lv_aload_n hx hb d_4_3_7 rfl (lv_at hl 1 rfl) ?_
  refine q_get (ci := 3) (j := 0) (v := .ref (q (k2 + 1))) C0 V i_Dec rfl rfl hT3 (by decide) w_171 rfl d_4_3_8 ?_
  refine q_gov V (q_runV (As := [.ref (q (k2 + 1))]) (rest := []) (d := 2) (mc := 0) (ms := 0) (ci := 2) C0 V rfl LV_DW_44 (X_Big_copy l D g q ws 10 220 (n_b10 g q) (by decide) (k2 + 1) R hB2.2 (by have z := zk2; omega)  (by have z := ne_k2_9; omega) hI t1_0 t1_1 hT1 t2_0 hT2 t4_0 t4_1 hT4 t5_0 hT5  _) rfl rfl hT1 rfl hl.1 rfl (Nat.le_of_ble_eq_true rfl) ⟨by decide, by decide⟩ ⟨Nat.le_of_ble_eq_true rfl, Nat.le_of_ble_eq_true rfl⟩ d_4_3_11) (fun u27 H locs hp28 V => ?_)
  obtain ⟨hI, hZ9⟩ := hp28
  obtain ⟨hu40, hZ9⟩ := hZ9
  obtain ⟨y30, hZ9⟩ := hZ9
  obtain ⟨y31, hZ9⟩ := hZ9
  obtain ⟨f32, hZ9⟩ := hZ9
  obtain ⟨hO29, hZ9⟩ := hZ9
  obtain ⟨hA33, hZ9⟩ := hZ9
  obtain ⟨b34, hZ9⟩ := hZ9
  obtain ⟨b35, hZ9⟩ := hZ9
  replace hZ9 := hZ9.2
  obtain ⟨b37, hZ9⟩ := hZ9
  obtain ⟨b38, hE39⟩ := hZ9
  replace hO29 : u27[10]? = (some (q 10, .inr (2, [.ref (q 11), .int y30, .int y31])) : Option (Nat × va_E)) := hO29
  replace hA33 : u27[11]? = (some (q 11, .inl (g 0, (220 : Int32).toNatClampNeg, .inl f32)) : Option (Nat × va_E)) := hA33
  obtain ⟨p41, e42⟩ : ∃ z, z = (F_Big_copy (220 : Int32) R t1_0 t1_1 t2_0 t4_0 t4_1 t5_0) := ⟨_, rfl⟩
  have e43 : y30 = p41.1 := congrArg (fun z => z.1) (hE39.trans e42.symm)
  have e44 : y31 = p41.2.1 := congrArg (fun z => z.2.1) (hE39.trans e42.symm)
  have e45 : f32 = p41.2.2 := congrArg (fun z => z.2.2) (hE39.trans e42.symm)
  replace b34 : q_F (0 ≤ y30.toInt) := b34
  replace b35 : q_F (y30.toInt ≤ t4_0.toInt) := b35
  replace b37 : q_F (t4_1.toInt ≤ y31.toInt) := b37
  replace b38 : q_F (y31.toInt ≤ t4_1.toInt) := b38
  replace hT0 := (hu40 _ (by decide)).trans hT0
  replace hT3 := (hu40 _ (by have z0 := zk2; simp only [List.mem_cons, List.not_mem_nil, or_false, not_or]; omega)).trans hT3
  replace hF := q_uc hF hu40 (by first | exact (q_sk (q_mi 0 rfl) (q_sk (q_mi 1 rfl) q_s0)) | simp)
  have hR46 := (show F_DW_take_c11 R t0_0 t0_1 t1_0 t1_1 t2_0 t3_0 t3_1 t4_0 t4_1 t5_0 p41 = (F_DW_take R t0_0 t0_1 t1_0 t1_1 t2_0 t3_0 t3_1 t4_0 t4_1 t5_0) from (by rw [e42, F_DW_take.eq_1]))
  refine lv_aload_n hx hb d_4_3_14 rfl (lv_at hl 0 rfl) ?_
  refine lv_aload_n hx hb d_4_3_15 rfl (lv_at hl 1 rfl) ?_
  refine q_get (ci := 3) (j := 1) (v := .int t3_0) C0 V i_Dec rfl rfl hT3 (by decide) w_176 rfl d_4_3_16 ?_
  refine lv_i2l hx hb d_4_3_19 rfl ?_
  obtain ⟨j51, e52⟩ := q_nm (t3_0.toInt64 : Int64)
  refine q_tl (v := j51) e52 ?_
  have b53 : q_F (j51.toInt = t3_0.toInt) := (by rw [← e52]; show (t3_0.toInt64 : Int64).toInt = t3_0.toInt; exact q_i2l rfl)
  refine q_put (ci := 5) (j := 1) (v := .long j51) (ty := .long) C0 V i_DW o_DW n_DW rfl rfl hT0 (by decide) w_212 rfl rfl rfl rfl (Nat.le_of_ble_eq_true rfl) d_4_3_20 (fun H locs w54 hu55 hT0 V => ?_)
  replace hT0 : w54[30]? = (some (q 30, .inr (5, [.ref (q 31), .long j51, .ref (q 9), .int t0_1])) : Option (Nat × va_E)) := hT0
  replace hI := n_p30 hI hu55 hT0 (by first | with_reducible exact q_fe btt0_1 | exact ⟨(by have t1 : 0 ≤ t0_1.toInt ∧ t0_1.toInt ≤ 1 := btt0_1; omega), (by have t1 : 0 ≤ t0_1.toInt ∧ t0_1.toInt ≤ 1 := btt0_1; omega)⟩)
  replace hO29 := (hu55 _ (by decide)).trans hO29
  replace hA33 := (hu55 _ (by decide)).trans hA33
  replace hF := q_us hF hu55 (by simp)
  exact q_retv C0 V (⟨hI, hF, j51, t0_1, y30, y31, f32, hT0, hO29, hA33, (show 0 ≤ y30.toInt from (by first | with_reducible exact q_fe b34 | (have t1 : 0 ≤ y30.toInt := b34; omega))), (show t3_0.toInt ≤ j51.toInt from (by first | with_reducible exact q_fe b53 | (have t1 : j51.toInt = t3_0.toInt := b53; omega))), (show j51.toInt ≤ t3_0.toInt from (by first | with_reducible exact q_fe b53 | (have t1 : j51.toInt = t3_0.toInt := b53; omega))), (show t0_1.toInt ≤ t0_1.toInt from (by omega)), (show t0_1.toInt ≤ t0_1.toInt from (by omega)), (show y30.toInt ≤ t4_0.toInt from (by first | with_reducible exact q_fe b35 | (have t1 : y30.toInt ≤ t4_0.toInt := b35; omega))), (show t4_1.toInt ≤ y31.toInt from (by first | with_reducible exact q_fe b37 | (have t1 : t4_1.toInt ≤ y31.toInt := b37; omega))), (show y31.toInt ≤ t4_1.toInt from (by first | with_reducible exact q_fe b38 | (have t1 : y31.toInt ≤ t4_1.toInt := b38; omega))), (show (j51, t0_1, y30, y31, f32) = (F_DW_take R t0_0 t0_1 t1_0 t1_1 t2_0 t3_0 t3_1 t4_0 t4_1 t5_0) from Eq.trans (by rw [← e52, e45, e44, e43, F_DW_take_c11.eq_1]) hR46)⟩) d_4_3_23
theorem d_4_2_0 : decode prog_4_method_2_code 0 = .ok (.aload_n 0, 1) := by decide +kernel
theorem d_4_2_1 : decode prog_4_method_2_code 1 = .ok (.getfield 20, 3) := by decide +kernel
theorem d_4_2_4 : decode prog_4_method_2_code 4 = .ok (.aload_n 1, 1) := by decide +kernel
theorem d_4_2_5 : decode prog_4_method_2_code 5 = .ok (.invokevirtual 34, 3) := by decide +kernel
set_option maxRecDepth 100000 in
theorem w_762 : (Cond.code ({ cls := "NumberHouse$Mill", name := "countFigures", desc := "(LNumberHouse$Big;)I" } : MethodName) prog_8_method_13_code (4 : Nat) (some .int)) ∈ q_tbl := q_of4 42 rfl (by decide +kernel)
set_option maxRecDepth 100000 in
theorem w_1088 : (Cond.methodLink "NumberHouse$DecimalWork" (34 : Nat) ({ cls := "NumberHouse$Mill", name := "countFigures", desc := "(LNumberHouse$Big;)I" } : MethodName)) ∈ q_tbl := q_of5 128 rfl (by decide +kernel)
set_option maxRecDepth 100000 in
theorem w_760 : (Cond.instanceMethod ({ cls := "NumberHouse$Mill", name := "countFigures", desc := "(LNumberHouse$Big;)I" } : MethodName)) ∈ q_tbl := q_of4 40 rfl (by decide +kernel)
set_option maxRecDepth 100000 in
theorem w_761 : (Cond.selects "NumberHouse$Mill" ({ cls := "NumberHouse$Mill", name := "countFigures", desc := "(LNumberHouse$Big;)I" } : MethodName) ({ cls := "NumberHouse$Mill", name := "countFigures", desc := "(LNumberHouse$Big;)I" } : MethodName)) ∈ q_tbl := q_of4 41 rfl (by decide +kernel)
theorem LV_DW_34 : q_LV "NumberHouse$DecimalWork" 34 y_Mil_countFigures prog_8_method_13_code 4 (some .int) 1 := ⟨w_762, w_3, w_1088, w_760, w_761, ⟨by decide, by decide, by decide +kernel⟩⟩
theorem d_4_2_8 : decode prog_4_method_2_code 8 = .ok (.istore 5, 2) := by decide +kernel
theorem d_4_2_10 : decode prog_4_method_2_code 10 = .ok (.iload 5, 2) := by decide +kernel
theorem d_4_2_12 : decode prog_4_method_2_code 12 = .ok (.sipush 1000, 3) := by decide +kernel
theorem d_4_2_15 : decode prog_4_method_2_code 15 = .ok (.if_icmp .gt 19, 3) := by decide +kernel
theorem d_4_2_34 : decode prog_4_method_2_code 34 = .ok (.iconst 0, 1) := by decide +kernel
theorem d_4_2_35 : decode prog_4_method_2_code 35 = .ok (.ireturn, 1) := by decide +kernel
theorem d_4_2_18 : decode prog_4_method_2_code 18 = .ok (.lload_n 2, 1) := by decide +kernel
theorem d_4_2_19 : decode prog_4_method_2_code 19 = .ok (.ldc2_w 40, 3) := by decide +kernel
set_option maxRecDepth 100000 in
theorem w_1089 : (Cond.constantLong "NumberHouse$DecimalWork" (40 : Nat) (-10000 : Int64)) ∈ q_tbl := q_of5 129 rfl (by decide +kernel)
theorem d_4_2_22 : decode prog_4_method_2_code 22 = .ok (.lcmp, 1) := by decide +kernel
theorem d_4_2_23 : decode prog_4_method_2_code 23 = .ok (.ifCond .lt 11, 3) := by decide +kernel
theorem d_4_2_26 : decode prog_4_method_2_code 26 = .ok (.lload_n 2, 1) := by decide +kernel
theorem d_4_2_27 : decode prog_4_method_2_code 27 = .ok (.ldc2_w 42, 3) := by decide +kernel
set_option maxRecDepth 100000 in
theorem w_1090 : (Cond.constantLong "NumberHouse$DecimalWork" (42 : Nat) (10000 : Int64)) ∈ q_tbl := q_of5 130 rfl (by decide +kernel)
theorem d_4_2_30 : decode prog_4_method_2_code 30 = .ok (.lcmp, 1) := by decide +kernel
theorem d_4_2_31 : decode prog_4_method_2_code 31 = .ok (.ifCond .le 5, 3) := by decide +kernel
theorem d_4_2_36 : decode prog_4_method_2_code 36 = .ok (.aload 4, 2) := by decide +kernel
theorem d_4_2_38 : decode prog_4_method_2_code 38 = .ok (.getfield 24, 3) := by decide +kernel
theorem d_4_2_41 : decode prog_4_method_2_code 41 = .ok (.aload_n 1, 1) := by decide +kernel
theorem d_4_2_42 : decode prog_4_method_2_code 42 = .ok (.invokevirtual 44, 3) := by decide +kernel
theorem d_4_2_45 : decode prog_4_method_2_code 45 = .ok (.aload 4, 2) := by decide +kernel
theorem d_4_2_47 : decode prog_4_method_2_code 47 = .ok (.lload_n 2, 1) := by decide +kernel
theorem d_4_2_48 : decode prog_4_method_2_code 48 = .ok (.l2i, 1) := by decide +kernel
theorem d_4_2_49 : decode prog_4_method_2_code 49 = .ok (.putfield 48, 3) := by decide +kernel
theorem d_4_2_52 : decode prog_4_method_2_code 52 = .ok (.aload 4, 2) := by decide +kernel
theorem d_4_2_54 : decode prog_4_method_2_code 54 = .ok (.iload 5, 2) := by decide +kernel
theorem d_4_2_56 : decode prog_4_method_2_code 56 = .ok (.putfield 52, 3) := by decide +kernel
set_option maxRecDepth 100000 in
theorem w_180 : (Cond.fieldLink "NumberHouse$DecimalWork" (52 : Nat) "NumberHouse$Dec" "figureCount" "I") ∈ q_tbl := q_of1 180 rfl (by decide +kernel)
theorem d_4_2_59 : decode prog_4_method_2_code 59 = .ok (.iconst 1, 1) := by decide +kernel
theorem d_4_2_60 : decode prog_4_method_2_code 60 = .ok (.ireturn, 1) := by decide +kernel
def y_DW_settle : MethodName := ⟨"NumberHouse$DecimalWork", "settle", "(LNumberHouse$Big;JLNumberHouse$Dec;)Z"⟩
def F_DW_settle_c42 (R : Int32) (x3 : Int64) (R2 : Int32) (t0_0 : Int32) (t0_1 : Int32) (t1_0 : (Nat → Int32)) (t2_0 : Int32) (t2_1 : Int32) (t3_0 : (Nat → Int32)) (t4_0 : Int32) (t4_1 : Int32) (t5_0 : Int32) (t5_1 : Int32) (t6_0 : (Nat → Int32)) (p49 : (Int32 × Int32 × Int32 × (Nat → Int32))) (a37 : Int32) (y39 : Int32) (y40 : Int32) (f41 : (Nat → Int32)) (p88 : (Int32 × Int32 × (Nat → Int32))) : Int32 × Int32 × Int32 × (Nat → Int32) × Int32 × Int32 × Int32 × Int32 × (Nat → Int32) := ((1 : Int32), y39, y40, f41, (x3.toInt32 : Int32), a37, (p88.1 : Int32), (p88.2.1 : Int32), (p88.2.2 : (Nat → Int32)))
def F_DW_settle_c5 (R : Int32) (x3 : Int64) (R2 : Int32) (t0_0 : Int32) (t0_1 : Int32) (t1_0 : (Nat → Int32)) (t2_0 : Int32) (t2_1 : Int32) (t3_0 : (Nat → Int32)) (t4_0 : Int32) (t4_1 : Int32) (t5_0 : Int32) (t5_1 : Int32) (t6_0 : (Nat → Int32)) (p49 : (Int32 × Int32 × Int32 × (Nat → Int32))) : Int32 × Int32 × Int32 × (Nat → Int32) × Int32 × Int32 × Int32 × Int32 × (Nat → Int32) := if (1000 : Int32) < (p49.1 : Int32) then (((0 : Int32), (p49.2.1 : Int32), (p49.2.2.1 : Int32), (p49.2.2.2 : (Nat → Int32)), t4_0, t4_1, t5_0, t5_1, t6_0)) else (if (lg_cmp x3 (-10000) : Int32) < (0 : Int32) then (((0 : Int32), (p49.2.1 : Int32), (p49.2.2.1 : Int32), (p49.2.2.2 : (Nat → Int32)), t4_0, t4_1, t5_0, t5_1, t6_0)) else (if (lg_cmp x3 10000 : Int32) ≤ (0 : Int32) then (F_DW_settle_c42 R x3 R2 t0_0 t0_1 t1_0 t2_0 t2_1 t3_0 t4_0 t4_1 t5_0 t5_1 t6_0 p49 (p49.1 : Int32) (p49.2.1 : Int32) (p49.2.2.1 : Int32) (p49.2.2.2 : (Nat → Int32)) ((F_Big_copy R2 R t5_0 t5_1 t6_0 t2_0 t2_1 t3_0) : (Int32 × Int32 × (Nat → Int32)))) else (((0 : Int32), (p49.2.1 : Int32), (p49.2.2.1 : Int32), (p49.2.2.2 : (Nat → Int32)), t4_0, t4_1, t5_0, t5_1, t6_0))))
def F_DW_settle (R : Int32) (x3 : Int64) (R2 : Int32) (t0_0 : Int32) (t0_1 : Int32) (t1_0 : (Nat → Int32)) (t2_0 : Int32) (t2_1 : Int32) (t3_0 : (Nat → Int32)) (t4_0 : Int32) (t4_1 : Int32) (t5_0 : Int32) (t5_1 : Int32) (t6_0 : (Nat → Int32)) : Int32 × Int32 × Int32 × (Nat → Int32) × Int32 × Int32 × Int32 × Int32 × (Nat → Int32) := F_DW_settle_c5 R x3 R2 t0_0 t0_1 t1_0 t2_0 t2_1 t3_0 t4_0 t4_1 t5_0 t5_1 t6_0 ((F_Mil_countFigures R t0_0 t0_1 t1_0 t2_0 t2_1 t3_0) : (Int32 × Int32 × Int32 × (Nat → Int32)))
def S_DW_settle_c42 (R : Int32) (x3 : Int64) (R2 : Int32) (t0_0 : Int32) (t0_1 : Int32) (t1_0 : (Nat → Int32)) (t2_0 : Int32) (t2_1 : Int32) (t3_0 : (Nat → Int32)) (t4_0 : Int32) (t4_1 : Int32) (t5_0 : Int32) (t5_1 : Int32) (t6_0 : (Nat → Int32)) (p49 : (Int32 × Int32 × Int32 × (Nat → Int32))) (a37 : Int32) (y39 : Int32) (y40 : Int32) (f41 : (Nat → Int32)) (p88 : (Int32 × Int32 × (Nat → Int32))) : Prop := (1 ≤ a37.toInt) ∧ (True)
def S_DW_settle_c5 (R : Int32) (x3 : Int64) (R2 : Int32) (t0_0 : Int32) (t0_1 : Int32) (t1_0 : (Nat → Int32)) (t2_0 : Int32) (t2_1 : Int32) (t3_0 : (Nat → Int32)) (t4_0 : Int32) (t4_1 : Int32) (t5_0 : Int32) (t5_1 : Int32) (t6_0 : (Nat → Int32)) (p49 : (Int32 × Int32 × Int32 × (Nat → Int32))) : Prop := if (1000 : Int32) < (p49.1 : Int32) then (True) else (if (lg_cmp x3 (-10000) : Int32) < (0 : Int32) then (True) else (if (lg_cmp x3 10000 : Int32) ≤ (0 : Int32) then (S_DW_settle_c42 R x3 R2 t0_0 t0_1 t1_0 t2_0 t2_1 t3_0 t4_0 t4_1 t5_0 t5_1 t6_0 p49 (p49.1 : Int32) (p49.2.1 : Int32) (p49.2.2.1 : Int32) (p49.2.2.2 : (Nat → Int32)) ((F_Big_copy R2 R t5_0 t5_1 t6_0 t2_0 t2_1 t3_0) : (Int32 × Int32 × (Nat → Int32)))) else (True)))
def S_DW_settle (R : Int32) (x3 : Int64) (R2 : Int32) (t0_0 : Int32) (t0_1 : Int32) (t1_0 : (Nat → Int32)) (t2_0 : Int32) (t2_1 : Int32) (t3_0 : (Nat → Int32)) (t4_0 : Int32) (t4_1 : Int32) (t5_0 : Int32) (t5_1 : Int32) (t6_0 : (Nat → Int32)) : Prop := S_DW_settle_c5 R x3 R2 t0_0 t0_1 t1_0 t2_0 t2_1 t3_0 t4_0 t4_1 t5_0 t5_1 t6_0 ((F_Mil_countFigures R t0_0 t0_1 t1_0 t2_0 t2_1 t3_0) : (Int32 × Int32 × Int32 × (Nat → Int32)))
set_option maxRecDepth 100000 in
set_option maxHeartbeats 4000000 in
theorem X_DW_settle (l : Launch) (D : va_G) (g : Nat → ClassId) (q : Nat → Nat) (ws : va_W) (k2 : Nat) (R : Int32) (hB2 : q_isBig (nsh g q) g q k2 R) (zk2 : (10 ≤ k2 ∧ k2 ≤ 32) ∨ 66 ≤ k2) (k4 : Nat) (R2 : Int32) (hB4 : q_isDec (nsh g q) g q k4 R2) (zk4 : (10 ≤ k4 ∧ k4 ≤ 31) ∨ 66 ≤ k4) (x3 : Int64) (ne_k2_20 : k2 ≠ 20) (ne_k2_21 : k2 ≠ 21) (ne_k2_19 : k2 ≠ 19) (ne_k2_30 : k2 ≠ 30) (ne_k2_29 : k2 ≠ 29) (ne_k4_20 : k4 ≠ 20) (ne_k4_21 : k4 ≠ 21) (ne_k4_19 : k4 ≠ 19) (ne_k4_18 : k4 ≠ 18) (ne_k4_30 : k4 ≠ 30) (ne_k4_31 : k4 ≠ 31) (ne_k4_29 : k4 ≠ 29) (ne_k4_28 : k4 ≠ 28) (ne_k2_k4 : k2 ≠ k4) (ne_k2_k4p1 : k2 ≠ k4 + 1) (ne_k2_k4p2 : k2 ≠ k4 + 2) (ne_k4_k2p1 : k4 ≠ k2 + 1) (hI : q_I (nsh g q) q ws) (t0_0 : Int32) (t0_1 : Int32) (hT0 : ws[20]? = (some (q 20, .inr (2, [.ref (q 21), .int t0_0, .int t0_1])) : Option (Nat × va_E))) (t1_0 : (Nat → Int32)) (hT1 : ws[21]? = (some (q 21, .inl (g 0, (220 : Int32).toNatClampNeg, .inl t1_0)) : Option (Nat × va_E))) (t2_0 : Int32) (t2_1 : Int32) (hT2 : ws[k2]? = (some (q k2, .inr (2, [.ref (q (k2 + 1)), .int t2_0, .int t2_1])) : Option (Nat × va_E))) (t3_0 : (Nat → Int32)) (hT3 : ws[k2 + 1]? = (some (q (k2 + 1), .inl (g 0, R.toNatClampNeg, .inl t3_0)) : Option (Nat × va_E))) (t4_0 : Int32) (t4_1 : Int32) (hT4 : ws[k4]? = (some (q k4, .inr (3, [.ref (q (k4 + 1)), .int t4_0, .int t4_1])) : Option (Nat × va_E))) (t5_0 : Int32) (t5_1 : Int32) (hT5 : ws[k4 + 1]? = (some (q (k4 + 1), .inr (2, [.ref (q (k4 + 2)), .int t5_0, .int t5_1])) : Option (Nat × va_E))) (t6_0 : (Nat → Int32)) (hT6 : ws[k4 + 2]? = (some (q (k4 + 2), .inl (g 0, R2.toNatClampNeg, .inl t6_0)) : Option (Nat × va_E))) (hS : True ∧ S_DW_settle R x3 R2 t0_0 t0_1 t1_0 t2_0 t2_1 t3_0 t4_0 t4_1 t5_0 t5_1 t6_0) : q_mI l y_DW_settle prog_4_method_2_code 6 (.boolean) 5 0 0 D g [.ref (q 30), .ref (q k2), .long x3, .ref (q k4)] ws (fun r u => q_I (nsh g q) q u ∧ q_un ws u [20, 21, k4, k4 + 1, k4 + 2] ∧ ∃ (u0_0 : Int32) (u0_1 : Int32) (u1_0 : (Nat → Int32)) (u4_0 : Int32) (u4_1 : Int32) (u5_0 : Int32) (u5_1 : Int32) (u6_0 : (Nat → Int32)), u[20]? = (some (q 20, .inr (2, [.ref (q 21), .int u0_0, .int u0_1])) : Option (Nat × va_E)) ∧ u[21]? = (some (q 21, .inl (g 0, (220 : Int32).toNatClampNeg, .inl u1_0)) : Option (Nat × va_E)) ∧ u[k4]? = (some (q k4, .inr (3, [.ref (q (k4 + 1)), .int u4_0, .int u4_1])) : Option (Nat × va_E)) ∧ u[k4 + 1]? = (some (q (k4 + 1), .inr (2, [.ref (q (k4 + 2)), .int u5_0, .int u5_1])) : Option (Nat × va_E)) ∧ u[k4 + 2]? = (some (q (k4 + 2), .inl (g 0, R2.toNatClampNeg, .inl u6_0)) : Option (Nat × va_E)) ∧ (0 ≤ r.toInt) ∧ (r.toInt ≤ 1) ∧ (0 ≤ u0_0.toInt) ∧ (u0_0.toInt ≤ 220) ∧ (0 ≤ u0_1.toInt) ∧ (u0_1.toInt ≤ 1) ∧ (0 ≤ u4_0.toInt + 10000) ∧ (u4_0.toInt ≤ 10000) ∧ (1 ≤ u4_1.toInt) ∧ (u4_1.toInt ≤ 1000) ∧ (0 ≤ u5_0.toInt) ∧ (0 ≤ u5_1.toInt) ∧ (u5_1.toInt ≤ 1) ∧ (u5_0.toInt ≤ R2.toInt) ∧ (r, u0_0, u0_1, u1_0, u4_0, u4_1, u5_0, u5_1, u6_0) = (F_DW_settle R x3 R2 t0_0 t0_1 t1_0 t2_0 t2_1 t3_0 t4_0 t4_1 t5_0 t5_1 t6_0)) := by
  intro sz
  refine q_into (by decide) (Nat.le_of_ble_eq_true rfl) ?_
  intro p e s m below meth c ls hsz C0 V hl
  have hx := C0.1
  have hb := C0.2.1
  have btt0_1 := (q_bigW hI (n_b20 g q) hT0).2
  clear btt0_1
  have btt2_1 := (q_bigW hI hB2 hT2).2
  replace btt2_1 : q_F (0 ≤ t2_1.toInt ∧ t2_1.toInt ≤ 1) := btt2_1
  obtain ⟨btt4_0, btt4_1⟩ := n_deW hI hB4 hT4
  replace btt4_0 : q_F (-10000 ≤ t4_0.toInt ∧ t4_0.toInt ≤ 10000) := btt4_0
  replace btt4_1 : q_F (1 ≤ t4_1.toInt ∧ t4_1.toInt ≤ 1000) := btt4_1
  obtain ⟨btt5_0, btt5_1⟩ := q_bigW hI hB4.2 hT5
  replace btt5_0 : q_F (0 ≤ t5_0.toInt ∧ t5_0.toInt ≤ R2.toInt) := btt5_0
  replace btt5_1 : q_F (0 ≤ t5_1.toInt ∧ t5_1.toInt ≤ 1) := btt5_1
  have hF : q_un ws ws [20, 21, k4, k4 + 1, k4 + 2] := q_u0
  have hl : lv_has ls 6 [(0, .ref (q 30)), (1, .ref (q k2)), (2, .long x3), (4, .ref (q k4))] := hl
  refine lv_aload_n hx hb d_4_2_0 rfl (lv_at hl 0 rfl) ?_
  obtain ⟨y31, y32, hO30, b33⟩ := n_o30 hI
  clear b33
  refine q_get (ci := 5) (j := 2) (v := .ref (q 9)) C0 V i_DW rfl rfl hO30 (by decide) w_214 rfl d_4_2_1 ?_
  refine lv_aload_n hx hb d_4_2_4 rfl (lv_at hl 1 rfl) ?_
  have hO34 := n_o9 hI
  refine q_goi V (q_runV (As := [.ref (q k2)]) (rest := []) (d := 4) (mc := 0) (ms := 0) (ci := 4) C0 V rfl LV_DW_34 (X_Mil_countFigures l D g q ws k2 R hB2 zk2  (by have z := ne_k2_20; omega) (by have z := ne_k2_21; omega) (by have z := ne_k2_19; omega) hI t0_0 t0_1 hT0 t1_0 hT1 t2_0 t2_1 hT2 t3_0 hT3  _) rfl rfl hO34 rfl hl.1 rfl (Nat.le_of_ble_eq_true rfl) ⟨by decide, by decide⟩ ⟨Nat.le_of_ble_eq_true rfl, Nat.le_of_ble_eq_true rfl⟩ d_4_2_5) (fun a37 u35 H locs hp36 V => ?_)
  obtain ⟨hI, hZ9⟩ := hp36
  obtain ⟨hu48, hZ9⟩ := hZ9
  obtain ⟨y39, hZ9⟩ := hZ9
  obtain ⟨y40, hZ9⟩ := hZ9
  obtain ⟨f41, hZ9⟩ := hZ9
  obtain ⟨hO38, hZ9⟩ := hZ9
  obtain ⟨hA42, hZ9⟩ := hZ9
  obtain ⟨b43, hZ9⟩ := hZ9
  obtain ⟨b44, hZ9⟩ := hZ9
  obtain ⟨b45, hZ9⟩ := hZ9
  obtain ⟨b46, hE47⟩ := hZ9
  replace hO38 : u35[20]? = (some (q 20, .inr (2, [.ref (q 21), .int y39, .int y40])) : Option (Nat × va_E)) := hO38
  replace hA42 : u35[21]? = (some (q 21, .inl (g 0, (220 : Int32).toNatClampNeg, .inl f41)) : Option (Nat × va_E)) := hA42
  obtain ⟨p49, e50⟩ : ∃ z, z = (F_Mil_countFigures R t0_0 t0_1 t1_0 t2_0 t2_1 t3_0) := ⟨_, rfl⟩
  have e51 : a37 = p49.1 := congrArg (fun z => z.1) (hE47.trans e50.symm)
  have e52 : y39 = p49.2.1 := congrArg (fun z => z.2.1) (hE47.trans e50.symm)
  have e53 : y40 = p49.2.2.1 := congrArg (fun z => z.2.2.1) (hE47.trans e50.symm)
  have e54 : f41 = p49.2.2.2 := congrArg (fun z => z.2.2.2) (hE47.trans e50.symm)
  replace b43 : q_F (0 ≤ y39.toInt) := b43
  replace b44 : q_F (y39.toInt ≤ 220) := b44
  replace b45 : q_F (0 ≤ y40.toInt) := b45
  replace b46 : q_F (y40.toInt ≤ 1) := b46
  replace hT2 := (hu48 _ (by first | exact (q_nc ne_k2_20 (q_nc ne_k2_21 List.not_mem_nil)) | (have z0 := zk2; simp only [List.mem_cons, List.not_mem_nil, or_false, not_or]; omega))).trans hT2
  replace hT3 := (hu48 _ (by first | exact (q_nc (q_nt1 ne_k2_19) (q_nc (q_nt1 ne_k2_20) List.not_mem_nil)) | (have z0 := zk2; simp only [List.mem_cons, List.not_mem_nil, or_false, not_or]; omega))).trans hT3
  replace hT4 := (hu48 _ (by have z0 := zk4; simp only [List.mem_cons, List.not_mem_nil, or_false, not_or]; omega)).trans hT4
  replace hT5 := (hu48 _ (by have z0 := zk4; simp only [List.mem_cons, List.not_mem_nil, or_false, not_or]; omega)).trans hT5
  replace hT6 := (hu48 _ (by have z0 := zk4; simp only [List.mem_cons, List.not_mem_nil, or_false, not_or]; omega)).trans hT6
  replace hF := q_uc hF hu48 (by first | exact (q_sk (q_mi 0 rfl) (q_sk (q_mi 1 rfl) q_s0)) | simp)
  have hR55 := (show F_DW_settle_c5 R x3 R2 t0_0 t0_1 t1_0 t2_0 t2_1 t3_0 t4_0 t4_1 t5_0 t5_1 t6_0 p49 = (F_DW_settle R x3 R2 t0_0 t0_1 t1_0 t2_0 t2_1 t3_0 t4_0 t4_1 t5_0 t5_1 t6_0) from (by rw [e50, F_DW_settle.eq_1]))
  have hS56 := (show True ∧ S_DW_settle_c5 R x3 R2 t0_0 t0_1 t1_0 t2_0 t2_1 t3_0 t4_0 t4_1 t5_0 t5_1 t6_0 p49 from (by rw [e50]; have h := hS; rw [S_DW_settle.eq_1] at h; with_reducible exact h))
  refine lv_istore (lv' := [(5, .int a37), (0, .ref (q 30)), (1, .ref (q k2)), (2, .long x3), (4, .ref (q k4))]) hx hb d_4_2_8 hl (by decide) rfl (fun ls hl => ?_)
  refine lv_iload hx hb d_4_2_10 (lv_at hl 0 rfl) ?_
  refine lv_sipush (v := 1000) hx hb d_4_2_12 (by decide) ?_
  refine lv_icmp_gt (tgt := 34) hx hb d_4_2_15 (by decide) (fun c60 => ?_) (fun c60 => ?_)
  ·
    refine lv_iconst (v := 0) hx hb d_4_2_34 (by decide) ?_
    exact q_retz C0 V (by decide) (⟨hI, hF, y39, y40, f41, t4_0, t4_1, t5_0, t5_1, t6_0, hO38, hA42, hT4, hT5, hT6, (show 0 ≤ (0 : Int32).toInt from (by have z14 : (0 : Int32).toInt = 0 := rfl; omega)), (show (0 : Int32).toInt ≤ 1 from (by have z14 : (0 : Int32).toInt = 0 := rfl; omega)), (show 0 ≤ y39.toInt from (by have z14 : (0 : Int32).toInt = 0 := rfl; have t1 : 0 ≤ y39.toInt := b43; omega)), (show y39.toInt ≤ 220 from (by have z14 : (0 : Int32).toInt = 0 := rfl; have t1 : y39.toInt ≤ 220 := b44; omega)), (show 0 ≤ y40.toInt from (by have z14 : (0 : Int32).toInt = 0 := rfl; have t1 : 0 ≤ y40.toInt := b45; omega)), (show y40.toInt ≤ 1 from (by have z14 : (0 : Int32).toInt = 0 := rfl; have t1 : y40.toInt ≤ 1 := b46; omega)), (show 0 ≤ t4_0.toInt + 10000 from (by have z14 : (0 : Int32).toInt = 0 := rfl; have t1 : -10000 ≤ t4_0.toInt ∧ t4_0.toInt ≤ 10000 := btt4_0; omega)), (show t4_0.toInt ≤ 10000 from (by have z14 : (0 : Int32).toInt = 0 := rfl; have t1 : -10000 ≤ t4_0.toInt ∧ t4_0.toInt ≤ 10000 := btt4_0; omega)), (show 1 ≤ t4_1.toInt from (by have z14 : (0 : Int32).toInt = 0 := rfl; have t1 : 1 ≤ t4_1.toInt ∧ t4_1.toInt ≤ 1000 := btt4_1; omega)), (show t4_1.toInt ≤ 1000 from (by have z14 : (0 : Int32).toInt = 0 := rfl; have t1 : 1 ≤ t4_1.toInt ∧ t4_1.toInt ≤ 1000 := btt4_1; omega)), (show 0 ≤ t5_0.toInt from (by have z14 : (0 : Int32).toInt = 0 := rfl; have t1 : 0 ≤ t5_0.toInt ∧ t5_0.toInt ≤ R2.toInt := btt5_0; omega)), (show 0 ≤ t5_1.toInt from (by have z14 : (0 : Int32).toInt = 0 := rfl; have t1 : 0 ≤ t5_1.toInt ∧ t5_1.toInt ≤ 1 := btt5_1; omega)), (show t5_1.toInt ≤ 1 from (by have z14 : (0 : Int32).toInt = 0 := rfl; have t1 : 0 ≤ t5_1.toInt ∧ t5_1.toInt ≤ 1 := btt5_1; omega)), (show t5_0.toInt ≤ R2.toInt from (by have z14 : (0 : Int32).toInt = 0 := rfl; have t1 : 0 ≤ t5_0.toInt ∧ t5_0.toInt ≤ R2.toInt := btt5_0; omega)), (show ((0 : Int32), y39, y40, f41, t4_0, t4_1, t5_0, t5_1, t6_0) = (F_DW_settle R x3 R2 t0_0 t0_1 t1_0 t2_0 t2_1 t3_0 t4_0 t4_1 t5_0 t5_1 t6_0) from Eq.trans (by have c60x := c60; rw [e51] at c60x; rw [e54, e53, e52, F_DW_settle_c5.eq_1, if_pos c60x]) hR55)⟩) d_4_2_35
  ·
    have b62 : q_F (a37.toInt ≤ 1000) := (q_nltI c60)
    refine lv_lload_n hx hb d_4_2_18 rfl (lv_at hl 3 rfl) ?_
    refine q_ldc2 C0 rfl w_1089 d_4_2_19 ?_
    refine W.lcmp hx hb d_4_2_22 ?_
    obtain ⟨a63, e64⟩ := q_nm (lg_cmp x3 (-10000) : Int32)
    refine q_ti (v := a63) e64 ?_
    have b65 : q_F (-1 ≤ a63.toInt ∧ a63.toInt ≤ 1 ∧ ((a63.toInt = -1 ∧ x3.toInt < (-10000)) ∨ (a63.toInt = 0 ∧ x3.toInt = (-10000)) ∨ (a63.toInt = 1 ∧ (-10000) < x3.toInt))) := (by rw [← e64]; show -1 ≤ (lg_cmp x3 (-10000) : Int32).toInt ∧ (lg_cmp x3 (-10000) : Int32).toInt ≤ 1 ∧ (((lg_cmp x3 (-10000) : Int32).toInt = -1 ∧ x3.toInt < (-10000)) ∨ ((lg_cmp x3 (-10000) : Int32).toInt = 0 ∧ x3.toInt = (-10000)) ∨ ((lg_cmp x3 (-10000) : Int32).toInt = 1 ∧ (-10000) < x3.toInt)); exact (by have y1 : (-10000 : Int64).toInt = -10000 := rfl; have z := s_lcmp (a := x3) (b := (-10000)); omega))
    refine lv_if_lt (tgt := 34) hx hb d_4_2_23 (by decide) (fun c66 => ?_) (fun c66 => ?_)
    ·
      refine lv_iconst (v := 0) hx hb d_4_2_34 (by decide) ?_
      exact q_retz C0 V (by decide) (⟨hI, hF, y39, y40, f41, t4_0, t4_1, t5_0, t5_1, t6_0, hO38, hA42, hT4, hT5, hT6, (show 0 ≤ (0 : Int32).toInt from (by have z14 : (0 : Int32).toInt = 0 := rfl; omega)), (show (0 : Int32).toInt ≤ 1 from (by have z14 : (0 : Int32).toInt = 0 := rfl; omega)), (show 0 ≤ y39.toInt from (by have z14 : (0 : Int32).toInt = 0 := rfl; have t1 : 0 ≤ y39.toInt := b43; omega)), (show y39.toInt ≤ 220 from (by have z14 : (0 : Int32).toInt = 0 := rfl; have t1 : y39.toInt ≤ 220 := b44; omega)), (show 0 ≤ y40.toInt from (by have z14 : (0 : Int32).toInt = 0 := rfl; have t1 : 0 ≤ y40.toInt := b45; omega)), (show y40.toInt ≤ 1 from (by have z14 : (0 : Int32).toInt = 0 := rfl; have t1 : y40.toInt ≤ 1 := b46; omega)), (show 0 ≤ t4_0.toInt + 10000 from (by have z14 : (0 : Int32).toInt = 0 := rfl; have t1 : -10000 ≤ t4_0.toInt ∧ t4_0.toInt ≤ 10000 := btt4_0; omega)), (show t4_0.toInt ≤ 10000 from (by have z14 : (0 : Int32).toInt = 0 := rfl; have t1 : -10000 ≤ t4_0.toInt ∧ t4_0.toInt ≤ 10000 := btt4_0; omega)), (show 1 ≤ t4_1.toInt from (by have z14 : (0 : Int32).toInt = 0 := rfl; have t1 : 1 ≤ t4_1.toInt ∧ t4_1.toInt ≤ 1000 := btt4_1; omega)), (show t4_1.toInt ≤ 1000 from (by have z14 : (0 : Int32).toInt = 0 := rfl; have t1 : 1 ≤ t4_1.toInt ∧ t4_1.toInt ≤ 1000 := btt4_1; omega)), (show 0 ≤ t5_0.toInt from (by have z14 : (0 : Int32).toInt = 0 := rfl; have t1 : 0 ≤ t5_0.toInt ∧ t5_0.toInt ≤ R2.toInt := btt5_0; omega)), (show 0 ≤ t5_1.toInt from (by have z14 : (0 : Int32).toInt = 0 := rfl; have t1 : 0 ≤ t5_1.toInt ∧ t5_1.toInt ≤ 1 := btt5_1; omega)), (show t5_1.toInt ≤ 1 from (by have z14 : (0 : Int32).toInt = 0 := rfl; have t1 : 0 ≤ t5_1.toInt ∧ t5_1.toInt ≤ 1 := btt5_1; omega)), (show t5_0.toInt ≤ R2.toInt from (by have z14 : (0 : Int32).toInt = 0 := rfl; have t1 : 0 ≤ t5_0.toInt ∧ t5_0.toInt ≤ R2.toInt := btt5_0; omega)), (show ((0 : Int32), y39, y40, f41, t4_0, t4_1, t5_0, t5_1, t6_0) = (F_DW_settle R x3 R2 t0_0 t0_1 t1_0 t2_0 t2_1 t3_0 t4_0 t4_1 t5_0 t5_1 t6_0) from Eq.trans (by have c60x := c60; rw [e51] at c60x; have c66x := c66; rw [← e64] at c66x; rw [e54, e53, e52, F_DW_settle_c5.eq_1, if_neg c60x, if_pos c66x]) hR55)⟩) d_4_2_35
    ·
      have b68 : q_F (0 ≤ a63.toInt) := (q_nltI c66)
      refine lv_lload_n hx hb d_4_2_26 rfl (lv_at hl 3 rfl) ?_
      refine q_ldc2 C0 rfl w_1090 d_4_2_27 ?_
      refine W.lcmp hx hb d_4_2_30 ?_
      obtain ⟨a69, e70⟩ := q_nm (lg_cmp x3 10000 : Int32)
      refine q_ti (v := a69) e70 ?_
      have b71 : q_F (-1 ≤ a69.toInt ∧ a69.toInt ≤ 1 ∧ ((a69.toInt = -1 ∧ x3.toInt < 10000) ∨ (a69.toInt = 0 ∧ x3.toInt = 10000) ∨ (a69.toInt = 1 ∧ 10000 < x3.toInt))) := (by rw [← e70]; show -1 ≤ (lg_cmp x3 10000 : Int32).toInt ∧ (lg_cmp x3 10000 : Int32).toInt ≤ 1 ∧ (((lg_cmp x3 10000 : Int32).toInt = -1 ∧ x3.toInt < 10000) ∨ ((lg_cmp x3 10000 : Int32).toInt = 0 ∧ x3.toInt = 10000) ∨ ((lg_cmp x3 10000 : Int32).toInt = 1 ∧ 10000 < x3.toInt)); exact (by have y1 : (10000 : Int64).toInt = 10000 := rfl; have z := s_lcmp (a := x3) (b := 10000); omega))
      refine lv_if_le (tgt := 36) hx hb d_4_2_31 (by decide) (fun c72 => ?_) (fun c72 => ?_)
      ·
        have b73 : q_F (a69.toInt ≤ 0) := (q_leI c72)
        refine lv_aload hx hb d_4_2_36 (lv_at hl 4 rfl) ?_
        refine q_get (ci := 3) (j := 0) (v := .ref (q (k4 + 1))) C0 V i_Dec rfl rfl hT4 (by decide) w_171 rfl d_4_2_38 ?_
        refine lv_aload_n hx hb d_4_2_41 rfl (lv_at hl 2 rfl) ?_
        refine q_gov V (q_runV (As := [.ref (q k2)]) (rest := []) (d := 2) (mc := 0) (ms := 0) (ci := 2) C0 V rfl LV_DW_44 (X_Big_copy l D g q u35 (k4 + 1) R2 hB4.2 (by have z := zk4; omega) k2 R hB2 zk2  (by have z := ne_k2_k4p1; omega) hI t5_0 t5_1 hT5 t6_0 hT6 t2_0 t2_1 hT2 t3_0 hT3  _) rfl rfl hT5 rfl hl.1 rfl (Nat.le_of_ble_eq_true rfl) ⟨by decide, by decide⟩ ⟨Nat.le_of_ble_eq_true rfl, Nat.le_of_ble_eq_true rfl⟩ d_4_2_42) (fun u74 H locs hp75 V => ?_)
        obtain ⟨hI, hZ9⟩ := hp75
        obtain ⟨hu87, hZ9⟩ := hZ9
        obtain ⟨y77, hZ9⟩ := hZ9
        obtain ⟨y78, hZ9⟩ := hZ9
        obtain ⟨f79, hZ9⟩ := hZ9
        obtain ⟨hO76, hZ9⟩ := hZ9
        obtain ⟨hA80, hZ9⟩ := hZ9
        obtain ⟨b81, hZ9⟩ := hZ9
        replace hZ9 := hZ9.2
        obtain ⟨b83, hZ9⟩ := hZ9
        obtain ⟨b84, hZ9⟩ := hZ9
        obtain ⟨b85, hE86⟩ := hZ9
        replace hO76 : u74[k4 + 1]? = (some (q (k4 + 1), .inr (2, [.ref (q (k4 + 2)), .int y77, .int y78])) : Option (Nat × va_E)) := hO76
        replace hA80 : u74[k4 + 2]? = (some (q (k4 + 2), .inl (g 0, R2.toNatClampNeg, .inl f79)) : Option (Nat × va_E)) := hA80
        obtain ⟨p88, e89⟩ : ∃ z, z = (F_Big_copy R2 R t5_0 t5_1 t6_0 t2_0 t2_1 t3_0) := ⟨_, rfl⟩
        have e90 : y77 = p88.1 := congrArg (fun z => z.1) (hE86.trans e89.symm)
        have e91 : y78 = p88.2.1 := congrArg (fun z => z.2.1) (hE86.trans e89.symm)
        have e92 : f79 = p88.2.2 := congrArg (fun z => z.2.2) (hE86.trans e89.symm)
        replace b81 : q_F (0 ≤ y77.toInt) := b81
        replace b83 : q_F (y77.toInt ≤ R2.toInt) := b83
        replace b84 : q_F (t2_1.toInt ≤ y78.toInt) := b84
        replace b85 : q_F (y78.toInt ≤ t2_1.toInt) := b85
        replace hO38 := (hu87 _ (by have z0 := zk4; simp only [List.mem_cons, List.not_mem_nil, or_false, not_or]; omega)).trans hO38
        replace hA42 := (hu87 _ (by have z0 := zk4; simp only [List.mem_cons, List.not_mem_nil, or_false, not_or]; omega)).trans hA42
        replace hT4 := (hu87 _ (by have z0 := zk4; simp only [List.mem_cons, List.not_mem_nil, or_false, not_or]; omega)).trans hT4
        replace hF := q_uc hF hu87 (by first | exact (q_sk (q_mi 3 rfl) (q_sk (q_mi 4 rfl) q_s0)) | simp)
        have hR93 := (show F_DW_settle_c42 R x3 R2 t0_0 t0_1 t1_0 t2_0 t2_1 t3_0 t4_0 t4_1 t5_0 t5_1 t6_0 p49 a37 y39 y40 f41 p88 = (F_DW_settle R x3 R2 t0_0 t0_1 t1_0 t2_0 t2_1 t3_0 t4_0 t4_1 t5_0 t5_1 t6_0) from Eq.trans (by have c60x := c60; rw [e51] at c60x; have c66x := c66; rw [← e64] at c66x; have c72x := c72; rw [← e70] at c72x; rw [e89, e54, e53, e52, e51, F_DW_settle_c5.eq_1, if_neg c60x, if_neg c66x, if_pos c72x]) hR55)
        have hS94 := (show True ∧ S_DW_settle_c42 R x3 R2 t0_0 t0_1 t1_0 t2_0 t2_1 t3_0 t4_0 t4_1 t5_0 t5_1 t6_0 p49 a37 y39 y40 f41 p88 from (by rw [e89, e54, e53, e52, e51]; have h := hS56; rw [S_DW_settle_c5.eq_1] at h; have c60x := c60; rw [e51] at c60x; rw [if_neg c60x] at h; have c66x := c66; rw [← e64] at c66x; rw [if_neg c66x] at h; have c72x := c72; rw [← e70] at c72x; rw [if_pos c72x] at h; with_reducible exact h))
        refine lv_aload hx hb d_4_2_45 (lv_at hl 4 rfl) ?_
        refine lv_lload_n hx hb d_4_2_47 rfl (lv_at hl 3 rfl) ?_
        refine lv_l2i hx hb d_4_2_48 rfl ?_
        obtain ⟨a98, e99⟩ := q_nm (x3.toInt32 : Int32)
        refine q_ti (v := a98) e99 ?_
        have b100 : q_F (a98.toInt = x3.toInt) := (by rw [← e99]; show (x3.toInt32 : Int32).toInt = x3.toInt; exact s_l2i (by have t1 : -1 ≤ a63.toInt ∧ a63.toInt ≤ 1 ∧ ((a63.toInt = -1 ∧ x3.toInt < (-10000)) ∨ (a63.toInt = 0 ∧ x3.toInt = (-10000)) ∨ (a63.toInt = 1 ∧ (-10000) < x3.toInt)) := b65; have t2 : 0 ≤ a63.toInt := b68; have t3 : -1 ≤ a69.toInt ∧ a69.toInt ≤ 1 ∧ ((a69.toInt = -1 ∧ x3.toInt < 10000) ∨ (a69.toInt = 0 ∧ x3.toInt = 10000) ∨ (a69.toInt = 1 ∧ 10000 < x3.toInt)) := b71; have t4 : a69.toInt ≤ 0 := b73; omega) (by have t1 : -1 ≤ a63.toInt ∧ a63.toInt ≤ 1 ∧ ((a63.toInt = -1 ∧ x3.toInt < (-10000)) ∨ (a63.toInt = 0 ∧ x3.toInt = (-10000)) ∨ (a63.toInt = 1 ∧ (-10000) < x3.toInt)) := b65; have t2 : 0 ≤ a63.toInt := b68; have t3 : -1 ≤ a69.toInt ∧ a69.toInt ≤ 1 ∧ ((a69.toInt = -1 ∧ x3.toInt < 10000) ∨ (a69.toInt = 0 ∧ x3.toInt = 10000) ∨ (a69.toInt = 1 ∧ 10000 < x3.toInt)) := b71; have t4 : a69.toInt ≤ 0 := b73; omega))
        refine q_put (ci := 3) (j := 1) (v := .int a98) (ty := .int) C0 V i_Dec o_Dec n_Dec rfl rfl hT4 (by decide) w_176 rfl rfl rfl rfl (Nat.le_of_ble_eq_true rfl) d_4_2_49 (fun H locs w101 hu102 hT4 V => ?_)
        replace hT4 : w101[k4]? = (some (q k4, .inr (3, [.ref (q (k4 + 1)), .int a98, .int t4_1])) : Option (Nat × va_E)) := hT4
        replace hI := n_deO' hI hB4 hu102 hT4 ⟨(by have t1 : -1 ≤ a63.toInt ∧ a63.toInt ≤ 1 ∧ ((a63.toInt = -1 ∧ x3.toInt < (-10000)) ∨ (a63.toInt = 0 ∧ x3.toInt = (-10000)) ∨ (a63.toInt = 1 ∧ (-10000) < x3.toInt)) := b65; have t2 : 0 ≤ a63.toInt := b68; have t3 : a98.toInt = x3.toInt := b100; omega), (by have t1 : -1 ≤ a69.toInt ∧ a69.toInt ≤ 1 ∧ ((a69.toInt = -1 ∧ x3.toInt < 10000) ∨ (a69.toInt = 0 ∧ x3.toInt = 10000) ∨ (a69.toInt = 1 ∧ 10000 < x3.toInt)) := b71; have t2 : a69.toInt ≤ 0 := b73; have t3 : a98.toInt = x3.toInt := b100; omega)⟩ (by first | with_reducible exact q_fe btt4_1 | exact ⟨(by have t1 : 1 ≤ t4_1.toInt ∧ t4_1.toInt ≤ 1000 := btt4_1; omega), (by have t1 : 1 ≤ t4_1.toInt ∧ t4_1.toInt ≤ 1000 := btt4_1; omega)⟩)
        replace hO38 := (hu102 _ (by have z := ne_k4_20; omega)).trans hO38
        replace hA42 := (hu102 _ (by have z := ne_k4_21; omega)).trans hA42
        replace hO76 := (hu102 _ (by omega)).trans hO76
        replace hA80 := (hu102 _ (by omega)).trans hA80
        replace hF := q_us hF hu102 (by simp)
        refine lv_aload hx hb d_4_2_52 (lv_at hl 4 rfl) ?_
        refine lv_iload hx hb d_4_2_54 (lv_at hl 0 rfl) ?_
        refine q_put (ci := 3) (j := 2) (v := .int a37) (ty := .int) C0 V i_Dec o_Dec n_Dec rfl rfl hT4 (by decide) w_180 rfl rfl rfl rfl (Nat.le_of_ble_eq_true rfl) d_4_2_56 (fun H locs w103 hu104 hT4 V => ?_)
        replace hT4 : w103[k4]? = (some (q k4, .inr (3, [.ref (q (k4 + 1)), .int a98, .int a37])) : Option (Nat × va_E)) := hT4
        have ob105 : q_F (1 ≤ a37.toInt) := (by have h := hS94; rw [S_DW_settle_c42.eq_1] at h; exact h.2.1)
        replace hI := n_deO' hI hB4 hu104 hT4 ⟨(by have t1 : -1 ≤ a63.toInt ∧ a63.toInt ≤ 1 ∧ ((a63.toInt = -1 ∧ x3.toInt < (-10000)) ∨ (a63.toInt = 0 ∧ x3.toInt = (-10000)) ∨ (a63.toInt = 1 ∧ (-10000) < x3.toInt)) := b65; have t2 : 0 ≤ a63.toInt := b68; have t3 : a98.toInt = x3.toInt := b100; omega), (by have t1 : -1 ≤ a69.toInt ∧ a69.toInt ≤ 1 ∧ ((a69.toInt = -1 ∧ x3.toInt < 10000) ∨ (a69.toInt = 0 ∧ x3.toInt = 10000) ∨ (a69.toInt = 1 ∧ 10000 < x3.toInt)) := b71; have t2 : a69.toInt ≤ 0 := b73; have t3 : a98.toInt = x3.toInt := b100; omega)⟩ ⟨(by first | with_reducible exact q_fe ob105 | (have t1 : 1 ≤ a37.toInt := ob105; omega)), (by first | with_reducible exact q_fe b62 | (have t1 : a37.toInt ≤ 1000 := b62; omega))⟩
        replace hO38 := (hu104 _ (by have z := ne_k4_20; omega)).trans hO38
        replace hA42 := (hu104 _ (by have z := ne_k4_21; omega)).trans hA42
        replace hO76 := (hu104 _ (by omega)).trans hO76
        replace hA80 := (hu104 _ (by omega)).trans hA80
        replace hF := q_us hF hu104 (by simp)
        refine lv_iconst (v := 1) hx hb d_4_2_59 (by decide) ?_
        exact q_retz C0 V (by decide) (⟨hI, hF, y39, y40, f41, a98, a37, y77, y78, f79, hO38, hA42, hT4, hO76, hA80, (show 0 ≤ (1 : Int32).toInt from (by have z14 : (1 : Int32).toInt = 1 := rfl; omega)), (show (1 : Int32).toInt ≤ 1 from (by have z14 : (1 : Int32).toInt = 1 := rfl; omega)), (show 0 ≤ y39.toInt from (by have z14 : (1 : Int32).toInt = 1 := rfl; have t1 : 0 ≤ y39.toInt := b43; omega)), (show y39.toInt ≤ 220 from (by have z14 : (1 : Int32).toInt = 1 := rfl; have t1 : y39.toInt ≤ 220 := b44; omega)), (show 0 ≤ y40.toInt from (by have z14 : (1 : Int32).toInt = 1 := rfl; have t1 : 0 ≤ y40.toInt := b45; omega)), (show y40.toInt ≤ 1 from (by have z14 : (1 : Int32).toInt = 1 := rfl; have t1 : y40.toInt ≤ 1 := b46; omega)), (show 0 ≤ a98.toInt + 10000 from (by have z14 : (1 : Int32).toInt = 1 := rfl; have t1 : -1 ≤ a63.toInt ∧ a63.toInt ≤ 1 ∧ ((a63.toInt = -1 ∧ x3.toInt < (-10000)) ∨ (a63.toInt = 0 ∧ x3.toInt = (-10000)) ∨ (a63.toInt = 1 ∧ (-10000) < x3.toInt)) := b65; have t2 : 0 ≤ a63.toInt := b68; have t3 : a98.toInt = x3.toInt := b100; omega)), (show a98.toInt ≤ 10000 from (by have z14 : (1 : Int32).toInt = 1 := rfl; have t1 : -1 ≤ a69.toInt ∧ a69.toInt ≤ 1 ∧ ((a69.toInt = -1 ∧ x3.toInt < 10000) ∨ (a69.toInt = 0 ∧ x3.toInt = 10000) ∨ (a69.toInt = 1 ∧ 10000 < x3.toInt)) := b71; have t2 : a69.toInt ≤ 0 := b73; have t3 : a98.toInt = x3.toInt := b100; omega)), (show 1 ≤ a37.toInt from (by have z14 : (1 : Int32).toInt = 1 := rfl; have t1 : 1 ≤ a37.toInt := ob105; omega)), (show a37.toInt ≤ 1000 from (by have z14 : (1 : Int32).toInt = 1 := rfl; have t1 : a37.toInt ≤ 1000 := b62; omega)), (show 0 ≤ y77.toInt from (by have z14 : (1 : Int32).toInt = 1 := rfl; have t1 : 0 ≤ y77.toInt := b81; omega)), (show 0 ≤ y78.toInt from (by have z14 : (1 : Int32).toInt = 1 := rfl; have t1 : 0 ≤ t2_1.toInt ∧ t2_1.toInt ≤ 1 := btt2_1; have t2 : t2_1.toInt ≤ y78.toInt := b84; omega)), (show y78.toInt ≤ 1 from (by have z14 : (1 : Int32).toInt = 1 := rfl; have t1 : 0 ≤ t2_1.toInt ∧ t2_1.toInt ≤ 1 := btt2_1; have t2 : y78.toInt ≤ t2_1.toInt := b85; omega)), (show y77.toInt ≤ R2.toInt from (by have z14 : (1 : Int32).toInt = 1 := rfl; have t1 : y77.toInt ≤ R2.toInt := b83; omega)), (show ((1 : Int32), y39, y40, f41, a98, a37, y77, y78, f79) = (F_DW_settle R x3 R2 t0_0 t0_1 t1_0 t2_0 t2_1 t3_0 t4_0 t4_1 t5_0 t5_1 t6_0) from Eq.trans (by rw [← e99, e92, e91, e90, F_DW_settle_c42.eq_1]) hR93)⟩) d_4_2_60
      ·
        refine lv_iconst (v := 0) hx hb d_4_2_34 (by decide) ?_
        exact q_retz C0 V (by decide) (⟨hI, hF, y39, y40, f41, t4_0, t4_1, t5_0, t5_1, t6_0, hO38, hA42, hT4, hT5, hT6, (show 0 ≤ (0 : Int32).toInt from (by have z14 : (0 : Int32).toInt = 0 := rfl; omega)), (show (0 : Int32).toInt ≤ 1 from (by have z14 : (0 : Int32).toInt = 0 := rfl; omega)), (show 0 ≤ y39.toInt from (by have z14 : (0 : Int32).toInt = 0 := rfl; have t1 : 0 ≤ y39.toInt := b43; omega)), (show y39.toInt ≤ 220 from (by have z14 : (0 : Int32).toInt = 0 := rfl; have t1 : y39.toInt ≤ 220 := b44; omega)), (show 0 ≤ y40.toInt from (by have z14 : (0 : Int32).toInt = 0 := rfl; have t1 : 0 ≤ y40.toInt := b45; omega)), (show y40.toInt ≤ 1 from (by have z14 : (0 : Int32).toInt = 0 := rfl; have t1 : y40.toInt ≤ 1 := b46; omega)), (show 0 ≤ t4_0.toInt + 10000 from (by have z14 : (0 : Int32).toInt = 0 := rfl; have t1 : -10000 ≤ t4_0.toInt ∧ t4_0.toInt ≤ 10000 := btt4_0; omega)), (show t4_0.toInt ≤ 10000 from (by have z14 : (0 : Int32).toInt = 0 := rfl; have t1 : -10000 ≤ t4_0.toInt ∧ t4_0.toInt ≤ 10000 := btt4_0; omega)), (show 1 ≤ t4_1.toInt from (by have z14 : (0 : Int32).toInt = 0 := rfl; have t1 : 1 ≤ t4_1.toInt ∧ t4_1.toInt ≤ 1000 := btt4_1; omega)), (show t4_1.toInt ≤ 1000 from (by have z14 : (0 : Int32).toInt = 0 := rfl; have t1 : 1 ≤ t4_1.toInt ∧ t4_1.toInt ≤ 1000 := btt4_1; omega)), (show 0 ≤ t5_0.toInt from (by have z14 : (0 : Int32).toInt = 0 := rfl; have t1 : 0 ≤ t5_0.toInt ∧ t5_0.toInt ≤ R2.toInt := btt5_0; omega)), (show 0 ≤ t5_1.toInt from (by have z14 : (0 : Int32).toInt = 0 := rfl; have t1 : 0 ≤ t5_1.toInt ∧ t5_1.toInt ≤ 1 := btt5_1; omega)), (show t5_1.toInt ≤ 1 from (by have z14 : (0 : Int32).toInt = 0 := rfl; have t1 : 0 ≤ t5_1.toInt ∧ t5_1.toInt ≤ 1 := btt5_1; omega)), (show t5_0.toInt ≤ R2.toInt from (by have z14 : (0 : Int32).toInt = 0 := rfl; have t1 : 0 ≤ t5_0.toInt ∧ t5_0.toInt ≤ R2.toInt := btt5_0; omega)), (show ((0 : Int32), y39, y40, f41, t4_0, t4_1, t5_0, t5_1, t6_0) = (F_DW_settle R x3 R2 t0_0 t0_1 t1_0 t2_0 t2_1 t3_0 t4_0 t4_1 t5_0 t5_1 t6_0) from Eq.trans (by have c60x := c60; rw [e51] at c60x; have c66x := c66; rw [← e64] at c66x; have c72x := c72; rw [← e70] at c72x; rw [e54, e53, e52, F_DW_settle_c5.eq_1, if_neg c60x, if_neg c66x, if_neg c72x]) hR55)⟩) d_4_2_35
theorem d_4_4_0 : decode prog_4_method_4_code 0 = .ok (.aload_n 1, 1) := by decide +kernel
theorem d_4_4_1 : decode prog_4_method_4_code 1 = .ok (.getfield 24, 3) := by decide +kernel
theorem d_4_4_4 : decode prog_4_method_4_code 4 = .ok (.invokevirtual 59, 3) := by decide +kernel
set_option maxRecDepth 100000 in
theorem w_1227 : (Cond.methodLink "NumberHouse$DecimalWork" (59 : Nat) ({ cls := "NumberHouse$Big", name := "sign", desc := "()I" } : MethodName)) ∈ q_tbl := q_of6 27 rfl (by decide +kernel)
theorem LV_DW_59 : q_LV "NumberHouse$DecimalWork" 59 y_Big_sign prog_2_method_8_code 1 (some .int) 0 := ⟨w_1122, w_4, w_1227, w_1120, w_1121, ⟨by decide, by decide, by decide +kernel⟩⟩
theorem d_4_4_7 : decode prog_4_method_4_code 7 = .ok (.aload_n 2, 1) := by decide +kernel
theorem d_4_4_8 : decode prog_4_method_4_code 8 = .ok (.getfield 24, 3) := by decide +kernel
theorem d_4_4_11 : decode prog_4_method_4_code 11 = .ok (.invokevirtual 59, 3) := by decide +kernel
theorem d_4_4_14 : decode prog_4_method_4_code 14 = .ok (.if_icmp .ne 13, 3) := by decide +kernel
theorem d_4_4_27 : decode prog_4_method_4_code 27 = .ok (.aload_n 1, 1) := by decide +kernel
theorem d_4_4_28 : decode prog_4_method_4_code 28 = .ok (.getfield 24, 3) := by decide +kernel
theorem d_4_4_31 : decode prog_4_method_4_code 31 = .ok (.invokevirtual 59, 3) := by decide +kernel
theorem d_4_4_34 : decode prog_4_method_4_code 34 = .ok (.aload_n 2, 1) := by decide +kernel
theorem d_4_4_35 : decode prog_4_method_4_code 35 = .ok (.getfield 24, 3) := by decide +kernel
theorem d_4_4_38 : decode prog_4_method_4_code 38 = .ok (.invokevirtual 59, 3) := by decide +kernel
theorem d_4_4_41 : decode prog_4_method_4_code 41 = .ok (.invokestatic 66, 3) := by decide +kernel
set_option maxRecDepth 100000 in
theorem w_1228 : (Cond.methodLink "NumberHouse$DecimalWork" (66 : Nat) ({ cls := "java/lang/Integer", name := "compare", desc := "(II)I" } : MethodName)) ∈ q_tbl := q_of6 28 rfl (by decide +kernel)
theorem LS_DW_66 : q_LS "NumberHouse$DecimalWork" 66 y_jInt_compare prog_27_method_40_code 2 (some .int) 2 := ⟨w_783, w_24, w_1228, w_782, ⟨by decide, by decide, by decide +kernel⟩⟩
theorem d_4_4_44 : decode prog_4_method_4_code 44 = .ok (.ireturn, 1) := by decide +kernel
theorem d_4_4_17 : decode prog_4_method_4_code 17 = .ok (.aload_n 1, 1) := by decide +kernel
theorem d_4_4_18 : decode prog_4_method_4_code 18 = .ok (.getfield 24, 3) := by decide +kernel
theorem d_4_4_21 : decode prog_4_method_4_code 21 = .ok (.getfield 63, 3) := by decide +kernel
set_option maxRecDepth 100000 in
theorem w_90 : (Cond.fieldLink "NumberHouse$DecimalWork" (63 : Nat) "NumberHouse$Big" "size" "I") ∈ q_tbl := q_of1 90 rfl (by decide +kernel)
theorem d_4_4_24 : decode prog_4_method_4_code 24 = .ok (.ifCond .ne 21, 3) := by decide +kernel
theorem d_4_4_45 : decode prog_4_method_4_code 45 = .ok (.aload_n 1, 1) := by decide +kernel
theorem d_4_4_46 : decode prog_4_method_4_code 46 = .ok (.getfield 24, 3) := by decide +kernel
theorem d_4_4_49 : decode prog_4_method_4_code 49 = .ok (.invokevirtual 59, 3) := by decide +kernel
theorem d_4_4_52 : decode prog_4_method_4_code 52 = .ok (.istore_n 3, 1) := by decide +kernel
theorem d_4_4_53 : decode prog_4_method_4_code 53 = .ok (.aload_n 1, 1) := by decide +kernel
theorem d_4_4_54 : decode prog_4_method_4_code 54 = .ok (.getfield 52, 3) := by decide +kernel
theorem d_4_4_57 : decode prog_4_method_4_code 57 = .ok (.aload_n 1, 1) := by decide +kernel
theorem d_4_4_58 : decode prog_4_method_4_code 58 = .ok (.getfield 48, 3) := by decide +kernel
theorem d_4_4_61 : decode prog_4_method_4_code 61 = .ok (.isub, 1) := by decide +kernel
theorem d_4_4_62 : decode prog_4_method_4_code 62 = .ok (.istore 4, 2) := by decide +kernel
theorem d_4_4_64 : decode prog_4_method_4_code 64 = .ok (.aload_n 2, 1) := by decide +kernel
theorem d_4_4_65 : decode prog_4_method_4_code 65 = .ok (.getfield 52, 3) := by decide +kernel
theorem d_4_4_68 : decode prog_4_method_4_code 68 = .ok (.aload_n 2, 1) := by decide +kernel
theorem d_4_4_69 : decode prog_4_method_4_code 69 = .ok (.getfield 48, 3) := by decide +kernel
theorem d_4_4_72 : decode prog_4_method_4_code 72 = .ok (.isub, 1) := by decide +kernel
theorem d_4_4_73 : decode prog_4_method_4_code 73 = .ok (.istore 5, 2) := by decide +kernel
theorem d_4_4_75 : decode prog_4_method_4_code 75 = .ok (.iload 4, 2) := by decide +kernel
theorem d_4_4_77 : decode prog_4_method_4_code 77 = .ok (.iload 5, 2) := by decide +kernel
theorem d_4_4_79 : decode prog_4_method_4_code 79 = .ok (.if_icmp .eq 17, 3) := by decide +kernel
theorem d_4_4_96 : decode prog_4_method_4_code 96 = .ok (.aload_n 0, 1) := by decide +kernel
theorem d_4_4_97 : decode prog_4_method_4_code 97 = .ok (.getfield 20, 3) := by decide +kernel
theorem d_4_4_100 : decode prog_4_method_4_code 100 = .ok (.getfield 72, 3) := by decide +kernel
set_option maxRecDepth 100000 in
theorem w_126 : (Cond.fieldLink "NumberHouse$DecimalWork" (72 : Nat) "NumberHouse$Mill" "one" "LNumberHouse$Big;") ∈ q_tbl := q_of1 126 rfl (by decide +kernel)
theorem d_4_4_103 : decode prog_4_method_4_code 103 = .ok (.aload_n 1, 1) := by decide +kernel
theorem d_4_4_104 : decode prog_4_method_4_code 104 = .ok (.getfield 24, 3) := by decide +kernel
theorem d_4_4_107 : decode prog_4_method_4_code 107 = .ok (.invokevirtual 44, 3) := by decide +kernel
theorem d_4_4_110 : decode prog_4_method_4_code 110 = .ok (.aload_n 0, 1) := by decide +kernel
theorem d_4_4_111 : decode prog_4_method_4_code 111 = .ok (.getfield 20, 3) := by decide +kernel
theorem d_4_4_114 : decode prog_4_method_4_code 114 = .ok (.getfield 74, 3) := by decide +kernel
set_option maxRecDepth 100000 in
theorem w_129 : (Cond.fieldLink "NumberHouse$DecimalWork" (74 : Nat) "NumberHouse$Mill" "two" "LNumberHouse$Big;") ∈ q_tbl := q_of1 129 rfl (by decide +kernel)
theorem d_4_4_117 : decode prog_4_method_4_code 117 = .ok (.aload_n 2, 1) := by decide +kernel
theorem d_4_4_118 : decode prog_4_method_4_code 118 = .ok (.getfield 24, 3) := by decide +kernel
theorem d_4_4_121 : decode prog_4_method_4_code 121 = .ok (.invokevirtual 44, 3) := by decide +kernel
theorem d_4_4_124 : decode prog_4_method_4_code 124 = .ok (.aload_n 0, 1) := by decide +kernel
theorem d_4_4_125 : decode prog_4_method_4_code 125 = .ok (.getfield 20, 3) := by decide +kernel
theorem d_4_4_128 : decode prog_4_method_4_code 128 = .ok (.getfield 72, 3) := by decide +kernel
theorem d_4_4_131 : decode prog_4_method_4_code 131 = .ok (.aload_n 2, 1) := by decide +kernel
theorem d_4_4_132 : decode prog_4_method_4_code 132 = .ok (.getfield 48, 3) := by decide +kernel
theorem d_4_4_135 : decode prog_4_method_4_code 135 = .ok (.aload_n 1, 1) := by decide +kernel
theorem d_4_4_136 : decode prog_4_method_4_code 136 = .ok (.getfield 48, 3) := by decide +kernel
theorem d_4_4_139 : decode prog_4_method_4_code 139 = .ok (.isub, 1) := by decide +kernel
theorem d_4_4_140 : decode prog_4_method_4_code 140 = .ok (.invokevirtual 77, 3) := by decide +kernel
set_option maxRecDepth 100000 in
theorem w_1229 : (Cond.methodLink "NumberHouse$DecimalWork" (77 : Nat) ({ cls := "NumberHouse$Big", name := "timesTen", desc := "(I)V" } : MethodName)) ∈ q_tbl := q_of6 29 rfl (by decide +kernel)
theorem LV_DW_77 : q_LV "NumberHouse$DecimalWork" 77 y_Big_timesTen prog_2_method_28_code 3 none 1 := ⟨w_770, w_4, w_1229, w_768, w_769, ⟨by decide, by decide, by decide +kernel⟩⟩
theorem d_4_4_143 : decode prog_4_method_4_code 143 = .ok (.aload_n 0, 1) := by decide +kernel
theorem d_4_4_144 : decode prog_4_method_4_code 144 = .ok (.getfield 20, 3) := by decide +kernel
theorem d_4_4_147 : decode prog_4_method_4_code 147 = .ok (.getfield 74, 3) := by decide +kernel
theorem d_4_4_150 : decode prog_4_method_4_code 150 = .ok (.aload_n 1, 1) := by decide +kernel
theorem d_4_4_151 : decode prog_4_method_4_code 151 = .ok (.getfield 48, 3) := by decide +kernel
theorem d_4_4_154 : decode prog_4_method_4_code 154 = .ok (.aload_n 2, 1) := by decide +kernel
theorem d_4_4_155 : decode prog_4_method_4_code 155 = .ok (.getfield 48, 3) := by decide +kernel
theorem d_4_4_158 : decode prog_4_method_4_code 158 = .ok (.isub, 1) := by decide +kernel
theorem d_4_4_159 : decode prog_4_method_4_code 159 = .ok (.invokevirtual 77, 3) := by decide +kernel
theorem d_4_4_162 : decode prog_4_method_4_code 162 = .ok (.aload_n 0, 1) := by decide +kernel
theorem d_4_4_163 : decode prog_4_method_4_code 163 = .ok (.getfield 20, 3) := by decide +kernel
theorem d_4_4_166 : decode prog_4_method_4_code 166 = .ok (.getfield 72, 3) := by decide +kernel
theorem d_4_4_169 : decode prog_4_method_4_code 169 = .ok (.aload_n 0, 1) := by decide +kernel
theorem d_4_4_170 : decode prog_4_method_4_code 170 = .ok (.getfield 20, 3) := by decide +kernel
theorem d_4_4_173 : decode prog_4_method_4_code 173 = .ok (.getfield 74, 3) := by decide +kernel
theorem d_4_4_176 : decode prog_4_method_4_code 176 = .ok (.invokevirtual 80, 3) := by decide +kernel
set_option maxRecDepth 100000 in
theorem w_1221 : (Cond.code ({ cls := "NumberHouse$Big", name := "order", desc := "(LNumberHouse$Big;)I" } : MethodName) prog_2_method_20_code (3 : Nat) (some .int)) ∈ q_tbl := q_of6 21 rfl (by decide +kernel)
set_option maxRecDepth 100000 in
theorem w_1230 : (Cond.methodLink "NumberHouse$DecimalWork" (80 : Nat) ({ cls := "NumberHouse$Big", name := "order", desc := "(LNumberHouse$Big;)I" } : MethodName)) ∈ q_tbl := q_of6 30 rfl (by decide +kernel)
set_option maxRecDepth 100000 in
theorem w_1219 : (Cond.instanceMethod ({ cls := "NumberHouse$Big", name := "order", desc := "(LNumberHouse$Big;)I" } : MethodName)) ∈ q_tbl := q_of6 19 rfl (by decide +kernel)
set_option maxRecDepth 100000 in
theorem w_1220 : (Cond.selects "NumberHouse$Big" ({ cls := "NumberHouse$Big", name := "order", desc := "(LNumberHouse$Big;)I" } : MethodName) ({ cls := "NumberHouse$Big", name := "order", desc := "(LNumberHouse$Big;)I" } : MethodName)) ∈ q_tbl := q_of6 20 rfl (by decide +kernel)
theorem LV_DW_80 : q_LV "NumberHouse$DecimalWork" 80 y_Big_order prog_2_method_20_code 3 (some .int) 1 := ⟨w_1221, w_4, w_1230, w_1219, w_1220, ⟨by decide, by decide, by decide +kernel⟩⟩
theorem d_4_4_179 : decode prog_4_method_4_code 179 = .ok (.ireturn, 1) := by decide +kernel
theorem d_4_4_82 : decode prog_4_method_4_code 82 = .ok (.iload 4, 2) := by decide +kernel
theorem d_4_4_84 : decode prog_4_method_4_code 84 = .ok (.iload 5, 2) := by decide +kernel
theorem d_4_4_86 : decode prog_4_method_4_code 86 = .ok (.if_icmp .ge 8, 3) := by decide +kernel
theorem d_4_4_94 : decode prog_4_method_4_code 94 = .ok (.iload_n 3, 1) := by decide +kernel
theorem d_4_4_95 : decode prog_4_method_4_code 95 = .ok (.ireturn, 1) := by decide +kernel
theorem d_4_4_89 : decode prog_4_method_4_code 89 = .ok (.iload_n 3, 1) := by decide +kernel
theorem d_4_4_90 : decode prog_4_method_4_code 90 = .ok (.ineg, 1) := by decide +kernel
theorem d_4_4_91 : decode prog_4_method_4_code 91 = .ok (.goto 4, 3) := by decide +kernel
def y_DW_order : MethodName := ⟨"NumberHouse$DecimalWork", "order", "(LNumberHouse$Dec;LNumberHouse$Dec;)I"⟩
def F_DW_order_c159 (R : Int32) (R2 : Int32) (t0_0 : Int32) (t0_1 : Int32) (t1_0 : (Nat → Int32)) (t2_0 : Int32) (t2_1 : Int32) (t3_0 : (Nat → Int32)) (t4_0 : Int32) (t4_1 : Int32) (t5_0 : Int32) (t5_1 : Int32) (t6_0 : (Nat → Int32)) (t7_0 : Int32) (t7_1 : Int32) (t8_0 : Int32) (t8_1 : Int32) (t9_0 : (Nat → Int32)) (a98 : Int32) (a95 : Int32) (a89 : Int32) (p122 : (Int32 × Int32 × (Nat → Int32))) (y111 : Int32) (y112 : Int32) (f113 : (Nat → Int32)) (p146 : (Int32 × Int32 × (Nat → Int32))) (y135 : Int32) (y136 : Int32) (f137 : (Nat → Int32)) (p172 : (Int32 × Int32 × (Nat → Int32))) (y162 : Int32) (y163 : Int32) (f164 : (Nat → Int32)) (p198 : (Int32 × Int32 × (Nat → Int32))) : Int32 × Int32 × Int32 × (Nat → Int32) × Int32 × Int32 × (Nat → Int32) := (((F_Big_order (220 : Int32) (220 : Int32) y162 y163 f164 (p198.1 : Int32) (p198.2.1 : Int32) (p198.2.2 : (Nat → Int32))) : Int32), y162, y163, f164, (p198.1 : Int32), (p198.2.1 : Int32), (p198.2.2 : (Nat → Int32)))
def F_DW_order_c140 (R : Int32) (R2 : Int32) (t0_0 : Int32) (t0_1 : Int32) (t1_0 : (Nat → Int32)) (t2_0 : Int32) (t2_1 : Int32) (t3_0 : (Nat → Int32)) (t4_0 : Int32) (t4_1 : Int32) (t5_0 : Int32) (t5_1 : Int32) (t6_0 : (Nat → Int32)) (t7_0 : Int32) (t7_1 : Int32) (t8_0 : Int32) (t8_1 : Int32) (t9_0 : (Nat → Int32)) (a98 : Int32) (a95 : Int32) (a89 : Int32) (p122 : (Int32 × Int32 × (Nat → Int32))) (y111 : Int32) (y112 : Int32) (f113 : (Nat → Int32)) (p146 : (Int32 × Int32 × (Nat → Int32))) (y135 : Int32) (y136 : Int32) (f137 : (Nat → Int32)) (p172 : (Int32 × Int32 × (Nat → Int32))) : Int32 × Int32 × Int32 × (Nat → Int32) × Int32 × Int32 × (Nat → Int32) := F_DW_order_c159 R R2 t0_0 t0_1 t1_0 t2_0 t2_1 t3_0 t4_0 t4_1 t5_0 t5_1 t6_0 t7_0 t7_1 t8_0 t8_1 t9_0 a98 a95 a89 p122 y111 y112 f113 p146 y135 y136 f137 p172 (p172.1 : Int32) (p172.2.1 : Int32) (p172.2.2 : (Nat → Int32)) ((F_Big_timesTen (220 : Int32) (t4_0 - t7_0 : Int32) y135 y136 f137) : (Int32 × Int32 × (Nat → Int32)))
def F_DW_order_c121 (R : Int32) (R2 : Int32) (t0_0 : Int32) (t0_1 : Int32) (t1_0 : (Nat → Int32)) (t2_0 : Int32) (t2_1 : Int32) (t3_0 : (Nat → Int32)) (t4_0 : Int32) (t4_1 : Int32) (t5_0 : Int32) (t5_1 : Int32) (t6_0 : (Nat → Int32)) (t7_0 : Int32) (t7_1 : Int32) (t8_0 : Int32) (t8_1 : Int32) (t9_0 : (Nat → Int32)) (a98 : Int32) (a95 : Int32) (a89 : Int32) (p122 : (Int32 × Int32 × (Nat → Int32))) (y111 : Int32) (y112 : Int32) (f113 : (Nat → Int32)) (p146 : (Int32 × Int32 × (Nat → Int32))) : Int32 × Int32 × Int32 × (Nat → Int32) × Int32 × Int32 × (Nat → Int32) := F_DW_order_c140 R R2 t0_0 t0_1 t1_0 t2_0 t2_1 t3_0 t4_0 t4_1 t5_0 t5_1 t6_0 t7_0 t7_1 t8_0 t8_1 t9_0 a98 a95 a89 p122 y111 y112 f113 p146 (p146.1 : Int32) (p146.2.1 : Int32) (p146.2.2 : (Nat → Int32)) ((F_Big_timesTen (220 : Int32) (t7_0 - t4_0 : Int32) y111 y112 f113) : (Int32 × Int32 × (Nat → Int32)))
def F_DW_order_c107 (R : Int32) (R2 : Int32) (t0_0 : Int32) (t0_1 : Int32) (t1_0 : (Nat → Int32)) (t2_0 : Int32) (t2_1 : Int32) (t3_0 : (Nat → Int32)) (t4_0 : Int32) (t4_1 : Int32) (t5_0 : Int32) (t5_1 : Int32) (t6_0 : (Nat → Int32)) (t7_0 : Int32) (t7_1 : Int32) (t8_0 : Int32) (t8_1 : Int32) (t9_0 : (Nat → Int32)) (a98 : Int32) (a95 : Int32) (a89 : Int32) (p122 : (Int32 × Int32 × (Nat → Int32))) : Int32 × Int32 × Int32 × (Nat → Int32) × Int32 × Int32 × (Nat → Int32) := F_DW_order_c121 R R2 t0_0 t0_1 t1_0 t2_0 t2_1 t3_0 t4_0 t4_1 t5_0 t5_1 t6_0 t7_0 t7_1 t8_0 t8_1 t9_0 a98 a95 a89 p122 (p122.1 : Int32) (p122.2.1 : Int32) (p122.2.2 : (Nat → Int32)) ((F_Big_copy (220 : Int32) R2 t2_0 t2_1 t3_0 t8_0 t8_1 t9_0) : (Int32 × Int32 × (Nat → Int32)))
def F_DW_order (R : Int32) (R2 : Int32) (t0_0 : Int32) (t0_1 : Int32) (t1_0 : (Nat → Int32)) (t2_0 : Int32) (t2_1 : Int32) (t3_0 : (Nat → Int32)) (t4_0 : Int32) (t4_1 : Int32) (t5_0 : Int32) (t5_1 : Int32) (t6_0 : (Nat → Int32)) (t7_0 : Int32) (t7_1 : Int32) (t8_0 : Int32) (t8_1 : Int32) (t9_0 : (Nat → Int32)) : Int32 × Int32 × Int32 × (Nat → Int32) × Int32 × Int32 × (Nat → Int32) := if ((F_Big_sign R t5_0 t5_1) : Int32) = ((F_Big_sign R2 t8_0 t8_1) : Int32) then (if t5_0 = (0 : Int32) then ((((F_jInt_compare ((F_Big_sign R t5_0 t5_1) : Int32) ((F_Big_sign R2 t8_0 t8_1) : Int32)) : Int32), t0_0, t0_1, t1_0, t2_0, t2_1, t3_0)) else (if (t4_1 - t4_0 : Int32) = (t7_1 - t7_0 : Int32) then (F_DW_order_c107 R R2 t0_0 t0_1 t1_0 t2_0 t2_1 t3_0 t4_0 t4_1 t5_0 t5_1 t6_0 t7_0 t7_1 t8_0 t8_1 t9_0 (t7_1 - t7_0 : Int32) (t4_1 - t4_0 : Int32) ((F_Big_sign R t5_0 t5_1) : Int32) ((F_Big_copy (220 : Int32) R t0_0 t0_1 t1_0 t5_0 t5_1 t6_0) : (Int32 × Int32 × (Nat → Int32)))) else (if (t7_1 - t7_0 : Int32) ≤ (t4_1 - t4_0 : Int32) then ((((F_Big_sign R t5_0 t5_1) : Int32), t0_0, t0_1, t1_0, t2_0, t2_1, t3_0)) else (((-((F_Big_sign R t5_0 t5_1) : Int32) : Int32), t0_0, t0_1, t1_0, t2_0, t2_1, t3_0))))) else ((((F_jInt_compare ((F_Big_sign R t5_0 t5_1) : Int32) ((F_Big_sign R2 t8_0 t8_1) : Int32)) : Int32), t0_0, t0_1, t1_0, t2_0, t2_1, t3_0))
set_option maxRecDepth 100000 in
set_option maxHeartbeats 4000000 in
theorem X_DW_order (l : Launch) (D : va_G) (g : Nat → ClassId) (q : Nat → Nat) (ws : va_W) (k2 : Nat) (R : Int32) (hB2 : q_isDec (nsh g q) g q k2 R) (zk2 : (10 ≤ k2 ∧ k2 ≤ 31) ∨ 66 ≤ k2) (k3 : Nat) (R2 : Int32) (hB3 : q_isDec (nsh g q) g q k3 R2) (zk3 : (10 ≤ k3 ∧ k3 ≤ 31) ∨ 66 ≤ k3) (ne_k2_22 : k2 ≠ 22) (ne_k2_23 : k2 ≠ 23) (ne_k2_21 : k2 ≠ 21) (ne_k2_20 : k2 ≠ 20) (ne_k2_24 : k2 ≠ 24) (ne_k2_25 : k2 ≠ 25) (ne_k2_30 : k2 ≠ 30) (ne_k2_31 : k2 ≠ 31) (ne_k2_29 : k2 ≠ 29) (ne_k2_28 : k2 ≠ 28) (ne_k3_22 : k3 ≠ 22) (ne_k3_23 : k3 ≠ 23) (ne_k3_21 : k3 ≠ 21) (ne_k3_20 : k3 ≠ 20) (ne_k3_24 : k3 ≠ 24) (ne_k3_25 : k3 ≠ 25) (ne_k3_30 : k3 ≠ 30) (ne_k3_31 : k3 ≠ 31) (ne_k3_29 : k3 ≠ 29) (ne_k3_28 : k3 ≠ 28) (hI : q_I (nsh g q) q ws) (t0_0 : Int32) (t0_1 : Int32) (hT0 : ws[22]? = (some (q 22, .inr (2, [.ref (q 23), .int t0_0, .int t0_1])) : Option (Nat × va_E))) (t1_0 : (Nat → Int32)) (hT1 : ws[23]? = (some (q 23, .inl (g 0, (220 : Int32).toNatClampNeg, .inl t1_0)) : Option (Nat × va_E))) (t2_0 : Int32) (t2_1 : Int32) (hT2 : ws[24]? = (some (q 24, .inr (2, [.ref (q 25), .int t2_0, .int t2_1])) : Option (Nat × va_E))) (t3_0 : (Nat → Int32)) (hT3 : ws[25]? = (some (q 25, .inl (g 0, (220 : Int32).toNatClampNeg, .inl t3_0)) : Option (Nat × va_E))) (t4_0 : Int32) (t4_1 : Int32) (hT4 : ws[k2]? = (some (q k2, .inr (3, [.ref (q (k2 + 1)), .int t4_0, .int t4_1])) : Option (Nat × va_E))) (t5_0 : Int32) (t5_1 : Int32) (hT5 : ws[k2 + 1]? = (some (q (k2 + 1), .inr (2, [.ref (q (k2 + 2)), .int t5_0, .int t5_1])) : Option (Nat × va_E))) (t6_0 : (Nat → Int32)) (hT6 : ws[k2 + 2]? = (some (q (k2 + 2), .inl (g 0, R.toNatClampNeg, .inl t6_0)) : Option (Nat × va_E))) (t7_0 : Int32) (t7_1 : Int32) (hT7 : ws[k3]? = (some (q k3, .inr (3, [.ref (q (k3 + 1)), .int t7_0, .int t7_1])) : Option (Nat × va_E))) (t8_0 : Int32) (t8_1 : Int32) (hT8 : ws[k3 + 1]? = (some (q (k3 + 1), .inr (2, [.ref (q (k3 + 2)), .int t8_0, .int t8_1])) : Option (Nat × va_E))) (t9_0 : (Nat → Int32)) (hT9 : ws[k3 + 2]? = (some (q (k3 + 2), .inl (g 0, R2.toNatClampNeg, .inl t9_0)) : Option (Nat × va_E))) : q_mI l y_DW_order prog_4_method_4_code 6 (.int) 4 0 0 D g [.ref (q 30), .ref (q k2), .ref (q k3)] ws (fun r u => q_I (nsh g q) q u ∧ q_un ws u [22, 23, 24, 25] ∧ ∃ (u0_0 : Int32) (u0_1 : Int32) (u1_0 : (Nat → Int32)) (u2_0 : Int32) (u2_1 : Int32) (u3_0 : (Nat → Int32)), u[22]? = (some (q 22, .inr (2, [.ref (q 23), .int u0_0, .int u0_1])) : Option (Nat × va_E)) ∧ u[23]? = (some (q 23, .inl (g 0, (220 : Int32).toNatClampNeg, .inl u1_0)) : Option (Nat × va_E)) ∧ u[24]? = (some (q 24, .inr (2, [.ref (q 25), .int u2_0, .int u2_1])) : Option (Nat × va_E)) ∧ u[25]? = (some (q 25, .inl (g 0, (220 : Int32).toNatClampNeg, .inl u3_0)) : Option (Nat × va_E)) ∧ (0 ≤ r.toInt + 1) ∧ (r.toInt ≤ 1) ∧ (0 ≤ u0_0.toInt) ∧ (u0_0.toInt ≤ 220) ∧ (0 ≤ u0_1.toInt) ∧ (u0_1.toInt ≤ 1) ∧ (0 ≤ u2_0.toInt) ∧ (u2_0.toInt ≤ 220) ∧ (0 ≤ u2_1.toInt) ∧ (u2_1.toInt ≤ 1) ∧ (r, u0_0, u0_1, u1_0, u2_0, u2_1, u3_0) = (F_DW_order R R2 t0_0 t0_1 t1_0 t2_0 t2_1 t3_0 t4_0 t4_1 t5_0 t5_1 t6_0 t7_0 t7_1 t8_0 t8_1 t9_0)) := by
  intro sz
  refine q_into (by decide) (Nat.le_of_ble_eq_true rfl) ?_
  intro p e s m below meth c ls hsz C0 V hl
  have hx := C0.1
  have hb := C0.2.1
  obtain ⟨btt0_0, btt0_1⟩ := q_bigW hI (n_b22 g q) hT0
  replace btt0_0 : q_F (0 ≤ t0_0.toInt ∧ t0_0.toInt ≤ 220) := btt0_0
  replace btt0_1 : q_F (0 ≤ t0_1.toInt ∧ t0_1.toInt ≤ 1) := btt0_1
  obtain ⟨btt2_0, btt2_1⟩ := q_bigW hI (n_b24 g q) hT2
  replace btt2_0 : q_F (0 ≤ t2_0.toInt ∧ t2_0.toInt ≤ 220) := btt2_0
  replace btt2_1 : q_F (0 ≤ t2_1.toInt ∧ t2_1.toInt ≤ 1) := btt2_1
  have btt4_1 := (n_deW hI hB2 hT4).2
  clear btt4_1
  have btt5_1 := (q_bigW hI hB2.2 hT5).2
  replace btt5_1 : q_F (0 ≤ t5_1.toInt ∧ t5_1.toInt ≤ 1) := btt5_1
  have btt7_1 := (n_deW hI hB3 hT7).2
  clear btt7_1
  have btt8_1 := (q_bigW hI hB3.2 hT8).2
  replace btt8_1 : q_F (0 ≤ t8_1.toInt ∧ t8_1.toInt ≤ 1) := btt8_1
  have hF : q_un ws ws [22, 23, 24, 25] := q_u0
  have hl : lv_has ls 6 [(0, .ref (q 30)), (1, .ref (q k2)), (2, .ref (q k3))] := hl
  refine lv_aload_n hx hb d_4_4_0 rfl (lv_at hl 1 rfl) ?_
  refine q_get (ci := 3) (j := 0) (v := .ref (q (k2 + 1))) C0 V i_Dec rfl rfl hT4 (by decide) w_171 rfl d_4_4_1 ?_
  refine q_goi V (q_runV (As := []) (rest := []) (d := 1) (mc := 0) (ms := 0) (ci := 2) C0 V rfl LV_DW_59 (X_Big_sign l D g q ws (k2 + 1) R hB2.2 (by have z := zk2; omega)  hI t5_0 t5_1 hT5  _) rfl rfl hT5 rfl hl.1 rfl (Nat.le_of_ble_eq_true rfl) ⟨by decide, by decide⟩ ⟨Nat.le_of_ble_eq_true rfl, Nat.le_of_ble_eq_true rfl⟩ d_4_4_4) (fun a45 u43 H locs hp44 V => ?_)
  obtain ⟨rfl, b46, b47, b48, hE49⟩ := hp44
  have e50 : a45 = (F_Big_sign R t5_0 t5_1) := hE49
  clear b46
  clear b47
  clear b48
  refine lv_aload_n hx hb d_4_4_7 rfl (lv_at hl 2 rfl) ?_
  refine q_get (ci := 3) (j := 0) (v := .ref (q (k3 + 1))) C0 V i_Dec rfl rfl hT7 (by decide) w_171 rfl d_4_4_8 ?_
  refine q_goi V (q_runV (As := []) (rest := [.int a45]) (d := 1) (mc := 0) (ms := 0) (ci := 2) C0 V rfl LV_DW_59 (X_Big_sign l D g q ws (k3 + 1) R2 hB3.2 (by have z := zk3; omega)  hI t8_0 t8_1 hT8  _) rfl rfl hT8 rfl hl.1 rfl (Nat.le_of_ble_eq_true rfl) ⟨by decide, by decide⟩ ⟨Nat.le_of_ble_eq_true rfl, Nat.le_of_ble_eq_true rfl⟩ d_4_4_11) (fun a53 u51 H locs hp52 V => ?_)
  obtain ⟨rfl, b54, b55, b56, hE57⟩ := hp52
  have e58 : a53 = (F_Big_sign R2 t8_0 t8_1) := hE57
  clear b54
  clear b55
  clear b56
  refine lv_icmp_ne (tgt := 27) hx hb d_4_4_14 (by decide) (fun c59 => ?_) (fun c59 => ?_)
  ·
    refine lv_aload_n hx hb d_4_4_27 rfl (lv_at hl 1 rfl) ?_
    refine q_get (ci := 3) (j := 0) (v := .ref (q (k2 + 1))) C0 V i_Dec rfl rfl hT4 (by decide) w_171 rfl d_4_4_28 ?_
    refine q_goi V (q_runV (As := []) (rest := []) (d := 1) (mc := 0) (ms := 0) (ci := 2) C0 V rfl LV_DW_59 (X_Big_sign l D g q ws (k2 + 1) R hB2.2 (by have z := zk2; omega)  hI t5_0 t5_1 hT5  _) rfl rfl hT5 rfl hl.1 rfl (Nat.le_of_ble_eq_true rfl) ⟨by decide, by decide⟩ ⟨Nat.le_of_ble_eq_true rfl, Nat.le_of_ble_eq_true rfl⟩ d_4_4_31) (fun a63 u61 H locs hp62 V => ?_)
    obtain ⟨rfl, b64, b65, b66, hE67⟩ := hp62
    have e68 : a63 = (F_Big_sign R t5_0 t5_1) := hE67
    clear b64
    clear b65
    clear b66
    refine lv_aload_n hx hb d_4_4_34 rfl (lv_at hl 2 rfl) ?_
    refine q_get (ci := 3) (j := 0) (v := .ref (q (k3 + 1))) C0 V i_Dec rfl rfl hT7 (by decide) w_171 rfl d_4_4_35 ?_
    refine q_goi V (q_runV (As := []) (rest := [.int a63]) (d := 1) (mc := 0) (ms := 0) (ci := 2) C0 V rfl LV_DW_59 (X_Big_sign l D g q ws (k3 + 1) R2 hB3.2 (by have z := zk3; omega)  hI t8_0 t8_1 hT8  _) rfl rfl hT8 rfl hl.1 rfl (Nat.le_of_ble_eq_true rfl) ⟨by decide, by decide⟩ ⟨Nat.le_of_ble_eq_true rfl, Nat.le_of_ble_eq_true rfl⟩ d_4_4_38) (fun a71 u69 H locs hp70 V => ?_)
    obtain ⟨rfl, b72, b73, b74, hE75⟩ := hp70
    have e76 : a71 = (F_Big_sign R2 t8_0 t8_1) := hE75
    clear b72
    clear b73
    clear b74
    refine q_goi V (q_runS (As := [.int a63, .int a71]) (rest := []) (d := 1) (mc := 0) (ms := 0) C0 V rfl LS_DW_66 (X_jInt_compare l D g q ws  a63 a71 hI   _) rfl hl.1 rfl (Nat.le_of_ble_eq_true rfl) ⟨by decide, by decide⟩ ⟨Nat.le_of_ble_eq_true rfl, Nat.le_of_ble_eq_true rfl⟩ d_4_4_41) (fun a79 u77 H locs hp78 V => ?_)
    obtain ⟨rfl, b80, b81, hE82⟩ := hp78
    have e83 : a79 = (F_jInt_compare a63 a71) := hE82
    replace b80 : q_F (0 ≤ a79.toInt + 1) := b80
    replace b81 : q_F (a79.toInt ≤ 1) := b81
    exact q_reti C0 V (⟨hI, hF, t0_0, t0_1, t1_0, t2_0, t2_1, t3_0, hT0, hT1, hT2, hT3, (show 0 ≤ a79.toInt + 1 from (by first | with_reducible exact q_fe b80 | (have t1 : 0 ≤ a79.toInt + 1 := b80; omega))), (show a79.toInt ≤ 1 from (by first | with_reducible exact q_fe b81 | (have t1 : a79.toInt ≤ 1 := b81; omega))), (show 0 ≤ t0_0.toInt from (by first | with_reducible exact (q_fe btt0_0).2 | with_reducible exact (q_fe btt0_0).1 | (have t1 : 0 ≤ t0_0.toInt ∧ t0_0.toInt ≤ 220 := btt0_0; omega))), (show t0_0.toInt ≤ 220 from (by first | with_reducible exact (q_fe btt0_0).2 | with_reducible exact (q_fe btt0_0).1 | (have t1 : 0 ≤ t0_0.toInt ∧ t0_0.toInt ≤ 220 := btt0_0; omega))), (show 0 ≤ t0_1.toInt from (by first | with_reducible exact (q_fe btt0_1).2 | with_reducible exact (q_fe btt0_1).1 | (have t1 : 0 ≤ t0_1.toInt ∧ t0_1.toInt ≤ 1 := btt0_1; omega))), (show t0_1.toInt ≤ 1 from (by first | with_reducible exact (q_fe btt0_1).2 | with_reducible exact (q_fe btt0_1).1 | (have t1 : 0 ≤ t0_1.toInt ∧ t0_1.toInt ≤ 1 := btt0_1; omega))), (show 0 ≤ t2_0.toInt from (by first | with_reducible exact (q_fe btt2_0).2 | with_reducible exact (q_fe btt2_0).1 | (have t1 : 0 ≤ t2_0.toInt ∧ t2_0.toInt ≤ 220 := btt2_0; omega))), (show t2_0.toInt ≤ 220 from (by first | with_reducible exact (q_fe btt2_0).2 | with_reducible exact (q_fe btt2_0).1 | (have t1 : 0 ≤ t2_0.toInt ∧ t2_0.toInt ≤ 220 := btt2_0; omega))), (show 0 ≤ t2_1.toInt from (by first | with_reducible exact (q_fe btt2_1).2 | with_reducible exact (q_fe btt2_1).1 | (have t1 : 0 ≤ t2_1.toInt ∧ t2_1.toInt ≤ 1 := btt2_1; omega))), (show t2_1.toInt ≤ 1 from (by first | with_reducible exact (q_fe btt2_1).2 | with_reducible exact (q_fe btt2_1).1 | (have t1 : 0 ≤ t2_1.toInt ∧ t2_1.toInt ≤ 1 := btt2_1; omega))), (show (a79, t0_0, t0_1, t1_0, t2_0, t2_1, t3_0) = (F_DW_order R R2 t0_0 t0_1 t1_0 t2_0 t2_1 t3_0 t4_0 t4_1 t5_0 t5_1 t6_0 t7_0 t7_1 t8_0 t8_1 t9_0) from (by have c59x := c59; rw [e58, e50] at c59x; rw [e83, e76, e68, F_DW_order.eq_1, if_neg c59x]))⟩) d_4_4_44
  ·
    refine lv_aload_n hx hb d_4_4_17 rfl (lv_at hl 1 rfl) ?_
    refine q_get (ci := 3) (j := 0) (v := .ref (q (k2 + 1))) C0 V i_Dec rfl rfl hT4 (by decide) w_171 rfl d_4_4_18 ?_
    refine q_get (ci := 2) (j := 1) (v := .int t5_0) C0 V i_Big rfl rfl hT5 (by decide) w_90 rfl d_4_4_21 ?_
    refine lv_if_ne (tgt := 45) hx hb d_4_4_24 (by decide) (fun c85 => ?_) (fun c85 => ?_)
    ·
      refine lv_aload_n hx hb d_4_4_45 rfl (lv_at hl 1 rfl) ?_
      refine q_get (ci := 3) (j := 0) (v := .ref (q (k2 + 1))) C0 V i_Dec rfl rfl hT4 (by decide) w_171 rfl d_4_4_46 ?_
      refine q_goi V (q_runV (As := []) (rest := []) (d := 1) (mc := 0) (ms := 0) (ci := 2) C0 V rfl LV_DW_59 (X_Big_sign l D g q ws (k2 + 1) R hB2.2 (by have z := zk2; omega)  hI t5_0 t5_1 hT5  _) rfl rfl hT5 rfl hl.1 rfl (Nat.le_of_ble_eq_true rfl) ⟨by decide, by decide⟩ ⟨Nat.le_of_ble_eq_true rfl, Nat.le_of_ble_eq_true rfl⟩ d_4_4_49) (fun a89 u87 H locs hp88 V => ?_)
      obtain ⟨rfl, b90, b91, b92, hE93⟩ := hp88
      have e94 : a89 = (F_Big_sign R t5_0 t5_1) := hE93
      replace b90 : q_F (0 ≤ a89.toInt + 1) := b90
      replace b91 : q_F (a89.toInt ≤ 1) := b91
      clear b92
      refine lv_istore_n (lv' := [(3, .int a89), (0, .ref (q 30)), (1, .ref (q k2)), (2, .ref (q k3))]) hx hb d_4_4_52 rfl hl (by decide) rfl (fun ls hl => ?_)
      refine lv_aload_n hx hb d_4_4_53 rfl (lv_at hl 2 rfl) ?_
      refine q_get (ci := 3) (j := 2) (v := .int t4_1) C0 V i_Dec rfl rfl hT4 (by decide) w_180 rfl d_4_4_54 ?_
      refine lv_aload_n hx hb d_4_4_57 rfl (lv_at hl 2 rfl) ?_
      refine q_get (ci := 3) (j := 1) (v := .int t4_0) C0 V i_Dec rfl rfl hT4 (by decide) w_176 rfl d_4_4_58 ?_
      refine lv_isub hx hb d_4_4_61 ?_
      obtain ⟨a95, e96⟩ := q_nm (t4_1 - t4_0 : Int32)
      refine q_ti (v := a95) e96 ?_
      refine lv_istore (lv' := [(4, .int a95), (3, .int a89), (0, .ref (q 30)), (1, .ref (q k2)), (2, .ref (q k3))]) hx hb d_4_4_62 hl (by decide) rfl (fun ls hl => ?_)
      refine lv_aload_n hx hb d_4_4_64 rfl (lv_at hl 4 rfl) ?_
      refine q_get (ci := 3) (j := 2) (v := .int t7_1) C0 V i_Dec rfl rfl hT7 (by decide) w_180 rfl d_4_4_65 ?_
      refine lv_aload_n hx hb d_4_4_68 rfl (lv_at hl 4 rfl) ?_
      refine q_get (ci := 3) (j := 1) (v := .int t7_0) C0 V i_Dec rfl rfl hT7 (by decide) w_176 rfl d_4_4_69 ?_
      refine lv_isub hx hb d_4_4_72 ?_
      obtain ⟨a98, e99⟩ := q_nm (t7_1 - t7_0 : Int32)
      refine q_ti (v := a98) e99 ?_
      refine lv_istore (lv' := [(5, .int a98), (4, .int a95), (3, .int a89), (0, .ref (q 30)), (1, .ref (q k2)), (2, .ref (q k3))]) hx hb d_4_4_73 hl (by decide) rfl (fun ls hl => ?_)
      refine lv_iload hx hb d_4_4_75 (lv_at hl 1 rfl) ?_
      refine lv_iload hx hb d_4_4_77 (lv_at hl 0 rfl) ?_
      refine lv_icmp_eq (tgt := 96) hx hb d_4_4_79 (by decide) (fun c101 => ?_) (fun c101 => ?_)
      ·
        refine lv_aload_n hx hb d_4_4_96 rfl (lv_at hl 3 rfl) ?_
        obtain ⟨y104, y105, hO103, b106⟩ := n_o30 hI
        clear b106
        refine q_get (ci := 5) (j := 2) (v := .ref (q 9)) C0 V i_DW rfl rfl hO103 (by decide) w_214 rfl d_4_4_97 ?_
        have hO107 := n_o9 hI
        refine q_get (ci := 4) (j := 6) (v := .ref (q 22)) C0 V i_Mil rfl rfl hO107 (by decide) w_126 rfl d_4_4_100 ?_
        refine lv_aload_n hx hb d_4_4_103 rfl (lv_at hl 4 rfl) ?_
        refine q_get (ci := 3) (j := 0) (v := .ref (q (k2 + 1))) C0 V i_Dec rfl rfl hT4 (by decide) w_171 rfl d_4_4_104 ?_
        refine q_gov V (q_runV (As := [.ref (q (k2 + 1))]) (rest := []) (d := 2) (mc := 0) (ms := 0) (ci := 2) C0 V rfl LV_DW_44 (X_Big_copy l D g q ws 22 220 (n_b22 g q) (by decide) (k2 + 1) R hB2.2 (by have z := zk2; omega)  (by have z := ne_k2_21; omega) hI t0_0 t0_1 hT0 t1_0 hT1 t5_0 t5_1 hT5 t6_0 hT6  _) rfl rfl hT0 rfl hl.1 rfl (Nat.le_of_ble_eq_true rfl) ⟨by decide, by decide⟩ ⟨Nat.le_of_ble_eq_true rfl, Nat.le_of_ble_eq_true rfl⟩ d_4_4_107) (fun u108 H locs hp109 V => ?_)
        obtain ⟨hI, hZ9⟩ := hp109
        obtain ⟨hu121, hZ9⟩ := hZ9
        obtain ⟨y111, hZ9⟩ := hZ9
        obtain ⟨y112, hZ9⟩ := hZ9
        obtain ⟨f113, hZ9⟩ := hZ9
        obtain ⟨hO110, hZ9⟩ := hZ9
        obtain ⟨hA114, hZ9⟩ := hZ9
        obtain ⟨b115, hZ9⟩ := hZ9
        replace hZ9 := hZ9.2.2
        obtain ⟨b118, hZ9⟩ := hZ9
        obtain ⟨b119, hE120⟩ := hZ9
        replace hO110 : u108[22]? = (some (q 22, .inr (2, [.ref (q 23), .int y111, .int y112])) : Option (Nat × va_E)) := hO110
        replace hA114 : u108[23]? = (some (q 23, .inl (g 0, (220 : Int32).toNatClampNeg, .inl f113)) : Option (Nat × va_E)) := hA114
        obtain ⟨p122, e123⟩ : ∃ z, z = (F_Big_copy (220 : Int32) R t0_0 t0_1 t1_0 t5_0 t5_1 t6_0) := ⟨_, rfl⟩
        have e124 : y111 = p122.1 := congrArg (fun z => z.1) (hE120.trans e123.symm)
        have e125 : y112 = p122.2.1 := congrArg (fun z => z.2.1) (hE120.trans e123.symm)
        have e126 : f113 = p122.2.2 := congrArg (fun z => z.2.2) (hE120.trans e123.symm)
        replace b115 : q_F (0 ≤ y111.toInt) := b115
        replace b118 : q_F (t5_1.toInt ≤ y112.toInt) := b118
        replace b119 : q_F (y112.toInt ≤ t5_1.toInt) := b119
        replace hT2 := (hu121 _ (by decide)).trans hT2
        replace hT3 := (hu121 _ (by decide)).trans hT3
        replace hT4 := (hu121 _ (by have z0 := zk2; simp only [List.mem_cons, List.not_mem_nil, or_false, not_or]; omega)).trans hT4
        replace hT7 := (hu121 _ (by have z0 := zk3; simp only [List.mem_cons, List.not_mem_nil, or_false, not_or]; omega)).trans hT7
        replace hT8 := (hu121 _ (by have z0 := zk3; simp only [List.mem_cons, List.not_mem_nil, or_false, not_or]; omega)).trans hT8
        replace hT9 := (hu121 _ (by have z0 := zk3; simp only [List.mem_cons, List.not_mem_nil, or_false, not_or]; omega)).trans hT9
        replace hO103 := (hu121 _ (by decide)).trans hO103
        replace hO107 := (hu121 _ (by decide)).trans hO107
        replace hF := q_uc hF hu121 (by first | exact (q_sk (q_mi 0 rfl) (q_sk (q_mi 1 rfl) q_s0)) | simp)
        have hR127 := (show F_DW_order_c107 R R2 t0_0 t0_1 t1_0 t2_0 t2_1 t3_0 t4_0 t4_1 t5_0 t5_1 t6_0 t7_0 t7_1 t8_0 t8_1 t9_0 a98 a95 a89 p122 = (F_DW_order R R2 t0_0 t0_1 t1_0 t2_0 t2_1 t3_0 t4_0 t4_1 t5_0 t5_1 t6_0 t7_0 t7_1 t8_0 t8_1 t9_0) from (by have c59x := c59; rw [e58, e50] at c59x; have c101x := c101; rw [← e99, ← e96] at c101x; rw [e123, ← e99, ← e96, e94, F_DW_order.eq_1, if_pos c59x, if_neg c85, if_pos c101x]))
        refine lv_aload_n hx hb d_4_4_110 rfl (lv_at hl 3 rfl) ?_
        refine q_get (ci := 5) (j := 2) (v := .ref (q 9)) C0 V i_DW rfl rfl hO103 (by decide) w_214 rfl d_4_4_111 ?_
        refine q_get (ci := 4) (j := 7) (v := .ref (q 24)) C0 V i_Mil rfl rfl hO107 (by decide) w_129 rfl d_4_4_114 ?_
        refine lv_aload_n hx hb d_4_4_117 rfl (lv_at hl 5 rfl) ?_
        refine q_get (ci := 3) (j := 0) (v := .ref (q (k3 + 1))) C0 V i_Dec rfl rfl hT7 (by decide) w_171 rfl d_4_4_118 ?_
        refine q_gov V (q_runV (As := [.ref (q (k3 + 1))]) (rest := []) (d := 2) (mc := 0) (ms := 0) (ci := 2) C0 V rfl LV_DW_44 (X_Big_copy l D g q u108 24 220 (n_b24 g q) (by decide) (k3 + 1) R2 hB3.2 (by have z := zk3; omega)  (by have z := ne_k3_23; omega) hI t2_0 t2_1 hT2 t3_0 hT3 t8_0 t8_1 hT8 t9_0 hT9  _) rfl rfl hT2 rfl hl.1 rfl (Nat.le_of_ble_eq_true rfl) ⟨by decide, by decide⟩ ⟨Nat.le_of_ble_eq_true rfl, Nat.le_of_ble_eq_true rfl⟩ d_4_4_121) (fun u132 H locs hp133 V => ?_)
        obtain ⟨hI, hZ9⟩ := hp133
        obtain ⟨hu145, hZ9⟩ := hZ9
        obtain ⟨y135, hZ9⟩ := hZ9
        obtain ⟨y136, hZ9⟩ := hZ9
        obtain ⟨f137, hZ9⟩ := hZ9
        obtain ⟨hO134, hZ9⟩ := hZ9
        obtain ⟨hA138, hZ9⟩ := hZ9
        obtain ⟨b139, hZ9⟩ := hZ9
        replace hZ9 := hZ9.2.2
        obtain ⟨b142, hZ9⟩ := hZ9
        obtain ⟨b143, hE144⟩ := hZ9
        replace hO134 : u132[24]? = (some (q 24, .inr (2, [.ref (q 25), .int y135, .int y136])) : Option (Nat × va_E)) := hO134
        replace hA138 : u132[25]? = (some (q 25, .inl (g 0, (220 : Int32).toNatClampNeg, .inl f137)) : Option (Nat × va_E)) := hA138
        obtain ⟨p146, e147⟩ : ∃ z, z = (F_Big_copy (220 : Int32) R2 t2_0 t2_1 t3_0 t8_0 t8_1 t9_0) := ⟨_, rfl⟩
        have e148 : y135 = p146.1 := congrArg (fun z => z.1) (hE144.trans e147.symm)
        have e149 : y136 = p146.2.1 := congrArg (fun z => z.2.1) (hE144.trans e147.symm)
        have e150 : f137 = p146.2.2 := congrArg (fun z => z.2.2) (hE144.trans e147.symm)
        replace b139 : q_F (0 ≤ y135.toInt) := b139
        replace b142 : q_F (t8_1.toInt ≤ y136.toInt) := b142
        replace b143 : q_F (y136.toInt ≤ t8_1.toInt) := b143
        replace hO110 := (hu145 _ (by decide)).trans hO110
        replace hA114 := (hu145 _ (by decide)).trans hA114
        replace hT4 := (hu145 _ (by have z0 := zk2; simp only [List.mem_cons, List.not_mem_nil, or_false, not_or]; omega)).trans hT4
        replace hT7 := (hu145 _ (by have z0 := zk3; simp only [List.mem_cons, List.not_mem_nil, or_false, not_or]; omega)).trans hT7
        replace hO103 := (hu145 _ (by decide)).trans hO103
        replace hO107 := (hu145 _ (by decide)).trans hO107
        replace hF := q_uc hF hu145 (by first | exact (q_sk (q_mi 2 rfl) (q_sk (q_mi 3 rfl) q_s0)) | simp)
        have hR151 := (show F_DW_order_c121 R R2 t0_0 t0_1 t1_0 t2_0 t2_1 t3_0 t4_0 t4_1 t5_0 t5_1 t6_0 t7_0 t7_1 t8_0 t8_1 t9_0 a98 a95 a89 p122 y111 y112 f113 p146 = (F_DW_order R R2 t0_0 t0_1 t1_0 t2_0 t2_1 t3_0 t4_0 t4_1 t5_0 t5_1 t6_0 t7_0 t7_1 t8_0 t8_1 t9_0) from Eq.trans (by rw [e147, e126, e125, e124, F_DW_order_c107.eq_1]) hR127)
        refine lv_aload_n hx hb d_4_4_124 rfl (lv_at hl 3 rfl) ?_
        refine q_get (ci := 5) (j := 2) (v := .ref (q 9)) C0 V i_DW rfl rfl hO103 (by decide) w_214 rfl d_4_4_125 ?_
        refine q_get (ci := 4) (j := 6) (v := .ref (q 22)) C0 V i_Mil rfl rfl hO107 (by decide) w_126 rfl d_4_4_128 ?_
        refine lv_aload_n hx hb d_4_4_131 rfl (lv_at hl 5 rfl) ?_
        refine q_get (ci := 3) (j := 1) (v := .int t7_0) C0 V i_Dec rfl rfl hT7 (by decide) w_176 rfl d_4_4_132 ?_
        refine lv_aload_n hx hb d_4_4_135 rfl (lv_at hl 4 rfl) ?_
        refine q_get (ci := 3) (j := 1) (v := .int t4_0) C0 V i_Dec rfl rfl hT4 (by decide) w_176 rfl d_4_4_136 ?_
        refine lv_isub hx hb d_4_4_139 ?_
        obtain ⟨a156, e157⟩ := q_nm (t7_0 - t4_0 : Int32)
        refine q_ti (v := a156) e157 ?_
        refine q_gov V (q_runV (As := [.int a156]) (rest := []) (d := 2) (mc := 0) (ms := 0) (ci := 2) C0 V rfl LV_DW_77 (X_Big_timesTen l D g q u132 22 220 (n_b22 g q) (by decide) a156 hI y111 y112 hO110 f113 hA114  _) rfl rfl hO110 rfl hl.1 rfl (Nat.le_of_ble_eq_true rfl) ⟨by decide, by decide⟩ ⟨Nat.le_of_ble_eq_true rfl, Nat.le_of_ble_eq_true rfl⟩ d_4_4_140) (fun u159 H locs hp160 V => ?_)
        obtain ⟨hI, hZ9⟩ := hp160
        obtain ⟨hu171, hZ9⟩ := hZ9
        obtain ⟨y162, hZ9⟩ := hZ9
        obtain ⟨y163, hZ9⟩ := hZ9
        obtain ⟨f164, hZ9⟩ := hZ9
        obtain ⟨hO161, hZ9⟩ := hZ9
        obtain ⟨hA165, hZ9⟩ := hZ9
        obtain ⟨b166, hZ9⟩ := hZ9
        obtain ⟨b167, hZ9⟩ := hZ9
        obtain ⟨b168, hZ9⟩ := hZ9
        obtain ⟨b169, hE170⟩ := hZ9
        replace hO161 : u159[22]? = (some (q 22, .inr (2, [.ref (q 23), .int y162, .int y163])) : Option (Nat × va_E)) := hO161
        replace hA165 : u159[23]? = (some (q 23, .inl (g 0, (220 : Int32).toNatClampNeg, .inl f164)) : Option (Nat × va_E)) := hA165
        obtain ⟨p172, e173⟩ : ∃ z, z = (F_Big_timesTen (220 : Int32) a156 y111 y112 f113) := ⟨_, rfl⟩
        have e174 : y162 = p172.1 := congrArg (fun z => z.1) (hE170.trans e173.symm)
        have e175 : y163 = p172.2.1 := congrArg (fun z => z.2.1) (hE170.trans e173.symm)
        have e176 : f164 = p172.2.2 := congrArg (fun z => z.2.2) (hE170.trans e173.symm)
        replace b166 : q_F (y111.toInt ≤ y162.toInt) := b166
        replace b167 : q_F (y162.toInt ≤ 220) := b167
        replace b168 : q_F (y112.toInt ≤ y163.toInt) := b168
        replace b169 : q_F (y163.toInt ≤ y112.toInt) := b169
        replace hO134 := (hu171 _ (by decide)).trans hO134
        replace hA138 := (hu171 _ (by decide)).trans hA138
        replace hT4 := (hu171 _ (by have z0 := zk2; simp only [List.mem_cons, List.not_mem_nil, or_false, not_or]; omega)).trans hT4
        replace hT7 := (hu171 _ (by have z0 := zk3; simp only [List.mem_cons, List.not_mem_nil, or_false, not_or]; omega)).trans hT7
        replace hO103 := (hu171 _ (by decide)).trans hO103
        replace hO107 := (hu171 _ (by decide)).trans hO107
        replace hF := q_uc hF hu171 (by first | exact (q_sk (q_mi 0 rfl) (q_sk (q_mi 1 rfl) q_s0)) | simp)
        have hR177 := (show F_DW_order_c140 R R2 t0_0 t0_1 t1_0 t2_0 t2_1 t3_0 t4_0 t4_1 t5_0 t5_1 t6_0 t7_0 t7_1 t8_0 t8_1 t9_0 a98 a95 a89 p122 y111 y112 f113 p146 y135 y136 f137 p172 = (F_DW_order R R2 t0_0 t0_1 t1_0 t2_0 t2_1 t3_0 t4_0 t4_1 t5_0 t5_1 t6_0 t7_0 t7_1 t8_0 t8_1 t9_0) from Eq.trans (by rw [e173, ← e157, e150, e149, e148, F_DW_order_c121.eq_1]) hR151)
        refine lv_aload_n hx hb d_4_4_143 rfl (lv_at hl 3 rfl) ?_
        refine q_get (ci := 5) (j := 2) (v := .ref (q 9)) C0 V i_DW rfl rfl hO103 (by decide) w_214 rfl d_4_4_144 ?_
        refine q_get (ci := 4) (j := 7) (v := .ref (q 24)) C0 V i_Mil rfl rfl hO107 (by decide) w_129 rfl d_4_4_147 ?_
        refine lv_aload_n hx hb d_4_4_150 rfl (lv_at hl 4 rfl) ?_
        refine q_get (ci := 3) (j := 1) (v := .int t4_0) C0 V i_Dec rfl rfl hT4 (by decide) w_176 rfl d_4_4_151 ?_
        refine lv_aload_n hx hb d_4_4_154 rfl (lv_at hl 5 rfl) ?_
        refine q_get (ci := 3) (j := 1) (v := .int t7_0) C0 V i_Dec rfl rfl hT7 (by decide) w_176 rfl d_4_4_155 ?_
        refine lv_isub hx hb d_4_4_158 ?_
        obtain ⟨a182, e183⟩ := q_nm (t4_0 - t7_0 : Int32)
        refine q_ti (v := a182) e183 ?_
        refine q_gov V (q_runV (As := [.int a182]) (rest := []) (d := 2) (mc := 0) (ms := 0) (ci := 2) C0 V rfl LV_DW_77 (X_Big_timesTen l D g q u159 24 220 (n_b24 g q) (by decide) a182 hI y135 y136 hO134 f137 hA138  _) rfl rfl hO134 rfl hl.1 rfl (Nat.le_of_ble_eq_true rfl) ⟨by decide, by decide⟩ ⟨Nat.le_of_ble_eq_true rfl, Nat.le_of_ble_eq_true rfl⟩ d_4_4_159) (fun u185 H locs hp186 V => ?_)
        obtain ⟨hI, hZ9⟩ := hp186
        obtain ⟨hu197, hZ9⟩ := hZ9
        obtain ⟨y188, hZ9⟩ := hZ9
        obtain ⟨y189, hZ9⟩ := hZ9
        obtain ⟨f190, hZ9⟩ := hZ9
        obtain ⟨hO187, hZ9⟩ := hZ9
        obtain ⟨hA191, hZ9⟩ := hZ9
        obtain ⟨b192, hZ9⟩ := hZ9
        obtain ⟨b193, hZ9⟩ := hZ9
        obtain ⟨b194, hZ9⟩ := hZ9
        obtain ⟨b195, hE196⟩ := hZ9
        replace hO187 : u185[24]? = (some (q 24, .inr (2, [.ref (q 25), .int y188, .int y189])) : Option (Nat × va_E)) := hO187
        replace hA191 : u185[25]? = (some (q 25, .inl (g 0, (220 : Int32).toNatClampNeg, .inl f190)) : Option (Nat × va_E)) := hA191
        obtain ⟨p198, e199⟩ : ∃ z, z = (F_Big_timesTen (220 : Int32) a182 y135 y136 f137) := ⟨_, rfl⟩
        have e200 : y188 = p198.1 := congrArg (fun z => z.1) (hE196.trans e199.symm)
        have e201 : y189 = p198.2.1 := congrArg (fun z => z.2.1) (hE196.trans e199.symm)
        have e202 : f190 = p198.2.2 := congrArg (fun z => z.2.2) (hE196.trans e199.symm)
        replace b192 : q_F (y135.toInt ≤ y188.toInt) := b192
        replace b193 : q_F (y188.toInt ≤ 220) := b193
        replace b194 : q_F (y136.toInt ≤ y189.toInt) := b194
        replace b195 : q_F (y189.toInt ≤ y136.toInt) := b195
        replace hO161 := (hu197 _ (by decide)).trans hO161
        replace hA165 := (hu197 _ (by decide)).trans hA165
        replace hO103 := (hu197 _ (by decide)).trans hO103
        replace hO107 := (hu197 _ (by decide)).trans hO107
        replace hF := q_uc hF hu197 (by first | exact (q_sk (q_mi 2 rfl) (q_sk (q_mi 3 rfl) q_s0)) | simp)
        have hR203 := (show F_DW_order_c159 R R2 t0_0 t0_1 t1_0 t2_0 t2_1 t3_0 t4_0 t4_1 t5_0 t5_1 t6_0 t7_0 t7_1 t8_0 t8_1 t9_0 a98 a95 a89 p122 y111 y112 f113 p146 y135 y136 f137 p172 y162 y163 f164 p198 = (F_DW_order R R2 t0_0 t0_1 t1_0 t2_0 t2_1 t3_0 t4_0 t4_1 t5_0 t5_1 t6_0 t7_0 t7_1 t8_0 t8_1 t9_0) from Eq.trans (by rw [e199, ← e183, e176, e175, e174, F_DW_order_c140.eq_1]) hR177)
        refine lv_aload_n hx hb d_4_4_162 rfl (lv_at hl 3 rfl) ?_
        refine q_get (ci := 5) (j := 2) (v := .ref (q 9)) C0 V i_DW rfl rfl hO103 (by decide) w_214 rfl d_4_4_163 ?_
        refine q_get (ci := 4) (j := 6) (v := .ref (q 22)) C0 V i_Mil rfl rfl hO107 (by decide) w_126 rfl d_4_4_166 ?_
        refine lv_aload_n hx hb d_4_4_169 rfl (lv_at hl 3 rfl) ?_
        refine q_get (ci := 5) (j := 2) (v := .ref (q 9)) C0 V i_DW rfl rfl hO103 (by decide) w_214 rfl d_4_4_170 ?_
        refine q_get (ci := 4) (j := 7) (v := .ref (q 24)) C0 V i_Mil rfl rfl hO107 (by decide) w_129 rfl d_4_4_173 ?_
        refine q_goi V (q_runV (As := [.ref (q 24)]) (rest := []) (d := 3) (mc := 0) (ms := 0) (ci := 2) C0 V rfl LV_DW_80 (X_Big_order l D g q u185 22 220 (n_b22 g q) (by decide) 24 220 (n_b24 g q) (by decide)  hI y162 y163 hO161 f164 hA165 y188 y189 hO187 f190 hA191  _) rfl rfl hO161 rfl hl.1 rfl (Nat.le_of_ble_eq_true rfl) ⟨by decide, by decide⟩ ⟨Nat.le_of_ble_eq_true rfl, Nat.le_of_ble_eq_true rfl⟩ d_4_4_176) (fun a210 u208 H locs hp209 V => ?_)
        obtain ⟨rfl, b211, b212, hE213⟩ := hp209
        have e214 : a210 = (F_Big_order (220 : Int32) (220 : Int32) y162 y163 f164 y188 y189 f190) := hE213
        replace b211 : q_F (0 ≤ a210.toInt + 1) := b211
        replace b212 : q_F (a210.toInt ≤ 1) := b212
        exact q_reti C0 V (⟨hI, hF, y162, y163, f164, y188, y189, f190, hO161, hA165, hO187, hA191, (show 0 ≤ a210.toInt + 1 from (by first | with_reducible exact q_fe b211 | (have t1 : 0 ≤ a210.toInt + 1 := b211; omega))), (show a210.toInt ≤ 1 from (by first | with_reducible exact q_fe b212 | (have t1 : a210.toInt ≤ 1 := b212; omega))), (show 0 ≤ y162.toInt from (by have t1 : 0 ≤ y111.toInt := b115; have t2 : y111.toInt ≤ y162.toInt := b166; omega)), (show y162.toInt ≤ 220 from (by first | with_reducible exact q_fe b167 | (have t1 : y162.toInt ≤ 220 := b167; omega))), (show 0 ≤ y163.toInt from (by have t1 : 0 ≤ t5_1.toInt ∧ t5_1.toInt ≤ 1 := btt5_1; have t2 : t5_1.toInt ≤ y112.toInt := b118; have t3 : y112.toInt ≤ y163.toInt := b168; omega)), (show y163.toInt ≤ 1 from (by have t1 : 0 ≤ t5_1.toInt ∧ t5_1.toInt ≤ 1 := btt5_1; have t2 : y112.toInt ≤ t5_1.toInt := b119; have t3 : y163.toInt ≤ y112.toInt := b169; omega)), (show 0 ≤ y188.toInt from (by have t1 : 0 ≤ y135.toInt := b139; have t2 : y135.toInt ≤ y188.toInt := b192; omega)), (show y188.toInt ≤ 220 from (by first | with_reducible exact q_fe b193 | (have t1 : y188.toInt ≤ 220 := b193; omega))), (show 0 ≤ y189.toInt from (by have t1 : 0 ≤ t8_1.toInt ∧ t8_1.toInt ≤ 1 := btt8_1; have t2 : t8_1.toInt ≤ y136.toInt := b142; have t3 : y136.toInt ≤ y189.toInt := b194; omega)), (show y189.toInt ≤ 1 from (by have t1 : 0 ≤ t8_1.toInt ∧ t8_1.toInt ≤ 1 := btt8_1; have t2 : y136.toInt ≤ t8_1.toInt := b143; have t3 : y189.toInt ≤ y136.toInt := b195; omega)), (show (a210, y162, y163, f164, y188, y189, f190) = (F_DW_order R R2 t0_0 t0_1 t1_0 t2_0 t2_1 t3_0 t4_0 t4_1 t5_0 t5_1 t6_0 t7_0 t7_1 t8_0 t8_1 t9_0) from Eq.trans (by rw [e214, e202, e201, e200, F_DW_order_c159.eq_1]) hR203)⟩) d_4_4_179
      ·
        refine lv_iload hx hb d_4_4_82 (lv_at hl 1 rfl) ?_
        refine lv_iload hx hb d_4_4_84 (lv_at hl 0 rfl) ?_
        refine lv_icmp_ge (tgt := 94) hx hb d_4_4_86 (by decide) (fun c216 => ?_) (fun c216 => ?_)
        ·
          refine lv_iload_n hx hb d_4_4_94 rfl (lv_at hl 2 rfl) ?_
          exact q_reti C0 V (⟨hI, hF, t0_0, t0_1, t1_0, t2_0, t2_1, t3_0, hT0, hT1, hT2, hT3, (show 0 ≤ a89.toInt + 1 from (by first | with_reducible exact q_fe b90 | (have t1 : 0 ≤ a89.toInt + 1 := b90; omega))), (show a89.toInt ≤ 1 from (by first | with_reducible exact q_fe b91 | (have t1 : a89.toInt ≤ 1 := b91; omega))), (show 0 ≤ t0_0.toInt from (by first | with_reducible exact (q_fe btt0_0).2 | with_reducible exact (q_fe btt0_0).1 | (have t1 : 0 ≤ t0_0.toInt ∧ t0_0.toInt ≤ 220 := btt0_0; omega))), (show t0_0.toInt ≤ 220 from (by first | with_reducible exact (q_fe btt0_0).2 | with_reducible exact (q_fe btt0_0).1 | (have t1 : 0 ≤ t0_0.toInt ∧ t0_0.toInt ≤ 220 := btt0_0; omega))), (show 0 ≤ t0_1.toInt from (by first | with_reducible exact (q_fe btt0_1).2 | with_reducible exact (q_fe btt0_1).1 | (have t1 : 0 ≤ t0_1.toInt ∧ t0_1.toInt ≤ 1 := btt0_1; omega))), (show t0_1.toInt ≤ 1 from (by first | with_reducible exact (q_fe btt0_1).2 | with_reducible exact (q_fe btt0_1).1 | (have t1 : 0 ≤ t0_1.toInt ∧ t0_1.toInt ≤ 1 := btt0_1; omega))), (show 0 ≤ t2_0.toInt from (by first | with_reducible exact (q_fe btt2_0).2 | with_reducible exact (q_fe btt2_0).1 | (have t1 : 0 ≤ t2_0.toInt ∧ t2_0.toInt ≤ 220 := btt2_0; omega))), (show t2_0.toInt ≤ 220 from (by first | with_reducible exact (q_fe btt2_0).2 | with_reducible exact (q_fe btt2_0).1 | (have t1 : 0 ≤ t2_0.toInt ∧ t2_0.toInt ≤ 220 := btt2_0; omega))), (show 0 ≤ t2_1.toInt from (by first | with_reducible exact (q_fe btt2_1).2 | with_reducible exact (q_fe btt2_1).1 | (have t1 : 0 ≤ t2_1.toInt ∧ t2_1.toInt ≤ 1 := btt2_1; omega))), (show t2_1.toInt ≤ 1 from (by first | with_reducible exact (q_fe btt2_1).2 | with_reducible exact (q_fe btt2_1).1 | (have t1 : 0 ≤ t2_1.toInt ∧ t2_1.toInt ≤ 1 := btt2_1; omega))), (show (a89, t0_0, t0_1, t1_0, t2_0, t2_1, t3_0) = (F_DW_order R R2 t0_0 t0_1 t1_0 t2_0 t2_1 t3_0 t4_0 t4_1 t5_0 t5_1 t6_0 t7_0 t7_1 t8_0 t8_1 t9_0) from (by have c59x := c59; rw [e58, e50] at c59x; have c101x := c101; rw [← e99, ← e96] at c101x; have c216x := c216; rw [← e99, ← e96] at c216x; rw [e94, F_DW_order.eq_1, if_pos c59x, if_neg c85, if_neg c101x, if_pos c216x]))⟩) d_4_4_95
        ·
          refine lv_iload_n hx hb d_4_4_89 rfl (lv_at hl 2 rfl) ?_
          refine lv_ineg hx hb d_4_4_90 ?_
          obtain ⟨a219, e220⟩ := q_nm (-a89 : Int32)
          refine q_ti (v := a219) e220 ?_
          have b221 : q_F (a219.toInt = -a89.toInt) := (by rw [← e220]; show (-a89 : Int32).toInt = -a89.toInt; exact q_negI rfl (by first | with_reducible exact q_fe b90 | (have t1 : 0 ≤ a89.toInt + 1 := b90; omega)))
          refine lv_goto (tgt := 95) hx hb d_4_4_91 (by decide) ?_
          exact q_reti C0 V (⟨hI, hF, t0_0, t0_1, t1_0, t2_0, t2_1, t3_0, hT0, hT1, hT2, hT3, (show 0 ≤ a219.toInt + 1 from (by have t1 : a89.toInt ≤ 1 := b91; have t2 : a219.toInt = -a89.toInt := b221; omega)), (show a219.toInt ≤ 1 from (by have t1 : 0 ≤ a89.toInt + 1 := b90; have t2 : a219.toInt = -a89.toInt := b221; omega)), (show 0 ≤ t0_0.toInt from (by first | with_reducible exact (q_fe btt0_0).2 | with_reducible exact (q_fe btt0_0).1 | (have t1 : 0 ≤ t0_0.toInt ∧ t0_0.toInt ≤ 220 := btt0_0; omega))), (show t0_0.toInt ≤ 220 from (by first | with_reducible exact (q_fe btt0_0).2 | with_reducible exact (q_fe btt0_0).1 | (have t1 : 0 ≤ t0_0.toInt ∧ t0_0.toInt ≤ 220 := btt0_0; omega))), (show 0 ≤ t0_1.toInt from (by first | with_reducible exact (q_fe btt0_1).2 | with_reducible exact (q_fe btt0_1).1 | (have t1 : 0 ≤ t0_1.toInt ∧ t0_1.toInt ≤ 1 := btt0_1; omega))), (show t0_1.toInt ≤ 1 from (by first | with_reducible exact (q_fe btt0_1).2 | with_reducible exact (q_fe btt0_1).1 | (have t1 : 0 ≤ t0_1.toInt ∧ t0_1.toInt ≤ 1 := btt0_1; omega))), (show 0 ≤ t2_0.toInt from (by first | with_reducible exact (q_fe btt2_0).2 | with_reducible exact (q_fe btt2_0).1 | (have t1 : 0 ≤ t2_0.toInt ∧ t2_0.toInt ≤ 220 := btt2_0; omega))), (show t2_0.toInt ≤ 220 from (by first | with_reducible exact (q_fe btt2_0).2 | with_reducible exact (q_fe btt2_0).1 | (have t1 : 0 ≤ t2_0.toInt ∧ t2_0.toInt ≤ 220 := btt2_0; omega))), (show 0 ≤ t2_1.toInt from (by first | with_reducible exact (q_fe btt2_1).2 | with_reducible exact (q_fe btt2_1).1 | (have t1 : 0 ≤ t2_1.toInt ∧ t2_1.toInt ≤ 1 := btt2_1; omega))), (show t2_1.toInt ≤ 1 from (by first | with_reducible exact (q_fe btt2_1).2 | with_reducible exact (q_fe btt2_1).1 | (have t1 : 0 ≤ t2_1.toInt ∧ t2_1.toInt ≤ 1 := btt2_1; omega))), (show (a219, t0_0, t0_1, t1_0, t2_0, t2_1, t3_0) = (F_DW_order R R2 t0_0 t0_1 t1_0 t2_0 t2_1 t3_0 t4_0 t4_1 t5_0 t5_1 t6_0 t7_0 t7_1 t8_0 t8_1 t9_0) from (by have c59x := c59; rw [e58, e50] at c59x; have c101x := c101; rw [← e99, ← e96] at c101x; have c216x := c216; rw [← e99, ← e96] at c216x; rw [← e220, e94, F_DW_order.eq_1, if_pos c59x, if_neg c85, if_neg c101x, if_neg c216x]))⟩) d_4_4_95
    ·
      refine lv_aload_n hx hb d_4_4_27 rfl (lv_at hl 1 rfl) ?_
      refine q_get (ci := 3) (j := 0) (v := .ref (q (k2 + 1))) C0 V i_Dec rfl rfl hT4 (by decide) w_171 rfl d_4_4_28 ?_
      refine q_goi V (q_runV (As := []) (rest := []) (d := 1) (mc := 0) (ms := 0) (ci := 2) C0 V rfl LV_DW_59 (X_Big_sign l D g q ws (k2 + 1) R hB2.2 (by have z := zk2; omega)  hI t5_0 t5_1 hT5  _) rfl rfl hT5 rfl hl.1 rfl (Nat.le_of_ble_eq_true rfl) ⟨by decide, by decide⟩ ⟨Nat.le_of_ble_eq_true rfl, Nat.le_of_ble_eq_true rfl⟩ d_4_4_31) (fun a225 u223 H locs hp224 V => ?_)
      obtain ⟨rfl, b226, b227, b228, hE229⟩ := hp224
      have e230 : a225 = (F_Big_sign R t5_0 t5_1) := hE229
      clear b226
      clear b227
      clear b228
      refine lv_aload_n hx hb d_4_4_34 rfl (lv_at hl 2 rfl) ?_
      refine q_get (ci := 3) (j := 0) (v := .ref (q (k3 + 1))) C0 V i_Dec rfl rfl hT7 (by decide) w_171 rfl d_4_4_35 ?_
      refine q_goi V (q_runV (As := []) (rest := [.int a225]) (d := 1) (mc := 0) (ms := 0) (ci := 2) C0 V rfl LV_DW_59 (X_Big_sign l D g q ws (k3 + 1) R2 hB3.2 (by have z := zk3; omega)  hI t8_0 t8_1 hT8  _) rfl rfl hT8 rfl hl.1 rfl (Nat.le_of_ble_eq_true rfl) ⟨by decide, by decide⟩ ⟨Nat.le_of_ble_eq_true rfl, Nat.le_of_ble_eq_true rfl⟩ d_4_4_38) (fun a233 u231 H locs hp232 V => ?_)
      obtain ⟨rfl, b234, b235, b236, hE237⟩ := hp232
      have e238 : a233 = (F_Big_sign R2 t8_0 t8_1) := hE237
      clear b234
      clear b235
      clear b236
      refine q_goi V (q_runS (As := [.int a225, .int a233]) (rest := []) (d := 1) (mc := 0) (ms := 0) C0 V rfl LS_DW_66 (X_jInt_compare l D g q ws  a225 a233 hI   _) rfl hl.1 rfl (Nat.le_of_ble_eq_true rfl) ⟨by decide, by decide⟩ ⟨Nat.le_of_ble_eq_true rfl, Nat.le_of_ble_eq_true rfl⟩ d_4_4_41) (fun a241 u239 H locs hp240 V => ?_)
      obtain ⟨rfl, b242, b243, hE244⟩ := hp240
      have e245 : a241 = (F_jInt_compare a225 a233) := hE244
      replace b242 : q_F (0 ≤ a241.toInt + 1) := b242
      replace b243 : q_F (a241.toInt ≤ 1) := b243
      exact q_reti C0 V (⟨hI, hF, t0_0, t0_1, t1_0, t2_0, t2_1, t3_0, hT0, hT1, hT2, hT3, (show 0 ≤ a241.toInt + 1 from (by first | with_reducible exact q_fe b242 | (have t1 : 0 ≤ a241.toInt + 1 := b242; omega))), (show a241.toInt ≤ 1 from (by first | with_reducible exact q_fe b243 | (have t1 : a241.toInt ≤ 1 := b243; omega))), (show 0 ≤ t0_0.toInt from (by first | with_reducible exact (q_fe btt0_0).2 | with_reducible exact (q_fe btt0_0).1 | (have t1 : 0 ≤ t0_0.toInt ∧ t0_0.toInt ≤ 220 := btt0_0; omega))), (show t0_0.toInt ≤ 220 from (by first | with_reducible exact (q_fe btt0_0).2 | with_reducible exact (q_fe btt0_0).1 | (have t1 : 0 ≤ t0_0.toInt ∧ t0_0.toInt ≤ 220 := btt0_0; omega))), (show 0 ≤ t0_1.toInt from (by first | with_reducible exact (q_fe btt0_1).2 | with_reducible exact (q_fe btt0_1).1 | (have t1 : 0 ≤ t0_1.toInt ∧ t0_1.toInt ≤ 1 := btt0_1; omega))), (show t0_1.toInt ≤ 1 from (by first | with_reducible exact (q_fe btt0_1).2 | with_reducible exact (q_fe btt0_1).1 | (have t1 : 0 ≤ t0_1.toInt ∧ t0_1.toInt ≤ 1 := btt0_1; omega))), (show 0 ≤ t2_0.toInt from (by first | with_reducible exact (q_fe btt2_0).2 | with_reducible exact (q_fe btt2_0).1 | (have t1 : 0 ≤ t2_0.toInt ∧ t2_0.toInt ≤ 220 := btt2_0; omega))), (show t2_0.toInt ≤ 220 from (by first | with_reducible exact (q_fe btt2_0).2 | with_reducible exact (q_fe btt2_0).1 | (have t1 : 0 ≤ t2_0.toInt ∧ t2_0.toInt ≤ 220 := btt2_0; omega))), (show 0 ≤ t2_1.toInt from (by first | with_reducible exact (q_fe btt2_1).2 | with_reducible exact (q_fe btt2_1).1 | (have t1 : 0 ≤ t2_1.toInt ∧ t2_1.toInt ≤ 1 := btt2_1; omega))), (show t2_1.toInt ≤ 1 from (by first | with_reducible exact (q_fe btt2_1).2 | with_reducible exact (q_fe btt2_1).1 | (have t1 : 0 ≤ t2_1.toInt ∧ t2_1.toInt ≤ 1 := btt2_1; omega))), (show (a241, t0_0, t0_1, t1_0, t2_0, t2_1, t3_0) = (F_DW_order R R2 t0_0 t0_1 t1_0 t2_0 t2_1 t3_0 t4_0 t4_1 t5_0 t5_1 t6_0 t7_0 t7_1 t8_0 t8_1 t9_0) from (by have c59x := c59; rw [e58, e50] at c59x; rw [e245, e238, e230, F_DW_order.eq_1, if_pos c59x, if_pos c85]))⟩) d_4_4_44
theorem d_4_5_0 : decode prog_4_method_5_code 0 = .ok (.aload_n 0, 1) := by decide +kernel
theorem d_4_5_1 : decode prog_4_method_5_code 1 = .ok (.aload_n 1, 1) := by decide +kernel
theorem d_4_5_2 : decode prog_4_method_5_code 2 = .ok (.getfield 48, 3) := by decide +kernel
theorem d_4_5_5 : decode prog_4_method_5_code 5 = .ok (.aload_n 2, 1) := by decide +kernel
theorem d_4_5_6 : decode prog_4_method_5_code 6 = .ok (.getfield 48, 3) := by decide +kernel
theorem d_4_5_9 : decode prog_4_method_5_code 9 = .ok (.invokestatic 83, 3) := by decide +kernel
set_option maxRecDepth 100000 in
theorem w_1370 : (Cond.methodLink "NumberHouse$DecimalWork" (83 : Nat) ({ cls := "java/lang/Math", name := "max", desc := "(II)I" } : MethodName)) ∈ q_tbl := q_of6 170 rfl (by decide +kernel)
theorem d_4_5_12 : decode prog_4_method_5_code 12 = .ok (.i2l, 1) := by decide +kernel
theorem d_4_5_13 : decode prog_4_method_5_code 13 = .ok (.putfield 56, 3) := by decide +kernel
theorem d_4_5_16 : decode prog_4_method_5_code 16 = .ok (.aload_n 0, 1) := by decide +kernel
theorem d_4_5_17 : decode prog_4_method_5_code 17 = .ok (.getfield 56, 3) := by decide +kernel
theorem d_4_5_20 : decode prog_4_method_5_code 20 = .ok (.aload_n 1, 1) := by decide +kernel
theorem d_4_5_21 : decode prog_4_method_5_code 21 = .ok (.getfield 48, 3) := by decide +kernel
theorem d_4_5_24 : decode prog_4_method_5_code 24 = .ok (.i2l, 1) := by decide +kernel
theorem d_4_5_25 : decode prog_4_method_5_code 25 = .ok (.lsub, 1) := by decide +kernel
theorem d_4_5_26 : decode prog_4_method_5_code 26 = .ok (.lstore 4, 2) := by decide +kernel
theorem d_4_5_28 : decode prog_4_method_5_code 28 = .ok (.aload_n 0, 1) := by decide +kernel
theorem d_4_5_29 : decode prog_4_method_5_code 29 = .ok (.getfield 56, 3) := by decide +kernel
theorem d_4_5_32 : decode prog_4_method_5_code 32 = .ok (.aload_n 2, 1) := by decide +kernel
theorem d_4_5_33 : decode prog_4_method_5_code 33 = .ok (.getfield 48, 3) := by decide +kernel
theorem d_4_5_36 : decode prog_4_method_5_code 36 = .ok (.i2l, 1) := by decide +kernel
theorem d_4_5_37 : decode prog_4_method_5_code 37 = .ok (.lsub, 1) := by decide +kernel
theorem d_4_5_38 : decode prog_4_method_5_code 38 = .ok (.lstore 6, 2) := by decide +kernel
theorem d_4_5_40 : decode prog_4_method_5_code 40 = .ok (.aload_n 1, 1) := by decide +kernel
theorem d_4_5_41 : decode prog_4_method_5_code 41 = .ok (.getfield 24, 3) := by decide +kernel
theorem d_4_5_44 : decode prog_4_method_5_code 44 = .ok (.getfield 63, 3) := by decide +kernel
theorem d_4_5_65 : decode prog_4_method_5_code 65 = .ok (.aload_n 2, 1) := by decide +kernel
theorem d_4_5_66 : decode prog_4_method_5_code 66 = .ok (.getfield 24, 3) := by decide +kernel
theorem d_4_5_69 : decode prog_4_method_5_code 69 = .ok (.getfield 63, 3) := by decide +kernel
theorem d_4_5_92 : decode prog_4_method_5_code 92 = .ok (.aload_n 0, 1) := by decide +kernel
theorem d_4_5_93 : decode prog_4_method_5_code 93 = .ok (.getfield 20, 3) := by decide +kernel
theorem d_4_5_96 : decode prog_4_method_5_code 96 = .ok (.getfield 55, 3) := by decide +kernel
theorem d_4_5_99 : decode prog_4_method_5_code 99 = .ok (.aload_n 1, 1) := by decide +kernel
theorem d_4_5_100 : decode prog_4_method_5_code 100 = .ok (.getfield 24, 3) := by decide +kernel
theorem d_4_5_103 : decode prog_4_method_5_code 103 = .ok (.invokevirtual 44, 3) := by decide +kernel
theorem d_4_5_106 : decode prog_4_method_5_code 106 = .ok (.aload_n 0, 1) := by decide +kernel
theorem d_4_5_107 : decode prog_4_method_5_code 107 = .ok (.getfield 20, 3) := by decide +kernel
theorem d_4_5_110 : decode prog_4_method_5_code 110 = .ok (.getfield 55, 3) := by decide +kernel
theorem d_4_5_113 : decode prog_4_method_5_code 113 = .ok (.lload 4, 2) := by decide +kernel
theorem d_4_5_115 : decode prog_4_method_5_code 115 = .ok (.l2i, 1) := by decide +kernel
theorem d_4_5_116 : decode prog_4_method_5_code 116 = .ok (.invokevirtual 77, 3) := by decide +kernel
theorem d_4_5_119 : decode prog_4_method_5_code 119 = .ok (.aload_n 0, 1) := by decide +kernel
theorem d_4_5_120 : decode prog_4_method_5_code 120 = .ok (.getfield 20, 3) := by decide +kernel
theorem d_4_5_123 : decode prog_4_method_5_code 123 = .ok (.getfield 72, 3) := by decide +kernel
theorem d_4_5_126 : decode prog_4_method_5_code 126 = .ok (.aload_n 2, 1) := by decide +kernel
theorem d_4_5_127 : decode prog_4_method_5_code 127 = .ok (.getfield 24, 3) := by decide +kernel
theorem d_4_5_130 : decode prog_4_method_5_code 130 = .ok (.invokevirtual 44, 3) := by decide +kernel
theorem d_4_5_133 : decode prog_4_method_5_code 133 = .ok (.aload_n 0, 1) := by decide +kernel
theorem d_4_5_134 : decode prog_4_method_5_code 134 = .ok (.getfield 20, 3) := by decide +kernel
theorem d_4_5_137 : decode prog_4_method_5_code 137 = .ok (.getfield 72, 3) := by decide +kernel
theorem d_4_5_140 : decode prog_4_method_5_code 140 = .ok (.lload 6, 2) := by decide +kernel
theorem d_4_5_142 : decode prog_4_method_5_code 142 = .ok (.l2i, 1) := by decide +kernel
theorem d_4_5_143 : decode prog_4_method_5_code 143 = .ok (.invokevirtual 77, 3) := by decide +kernel
theorem d_4_5_146 : decode prog_4_method_5_code 146 = .ok (.aload_n 0, 1) := by decide +kernel
theorem d_4_5_147 : decode prog_4_method_5_code 147 = .ok (.getfield 20, 3) := by decide +kernel
theorem d_4_5_150 : decode prog_4_method_5_code 150 = .ok (.getfield 55, 3) := by decide +kernel
theorem d_4_5_153 : decode prog_4_method_5_code 153 = .ok (.aload_n 0, 1) := by decide +kernel
theorem d_4_5_154 : decode prog_4_method_5_code 154 = .ok (.getfield 20, 3) := by decide +kernel
theorem d_4_5_157 : decode prog_4_method_5_code 157 = .ok (.getfield 72, 3) := by decide +kernel
theorem d_4_5_160 : decode prog_4_method_5_code 160 = .ok (.iload_n 3, 1) := by decide +kernel
theorem d_4_5_161 : decode prog_4_method_5_code 161 = .ok (.invokevirtual 90, 3) := by decide +kernel
set_option maxRecDepth 100000 in
theorem w_1372 : (Cond.methodLink "NumberHouse$DecimalWork" (90 : Nat) ({ cls := "NumberHouse$Big", name := "addSigned", desc := "(LNumberHouse$Big;Z)V" } : MethodName)) ∈ q_tbl := q_of6 172 rfl (by decide +kernel)
theorem LV_DW_90 : q_LV "NumberHouse$DecimalWork" 90 y_Big_addSigned prog_2_method_22_code 4 none 2 := ⟨w_1267, w_4, w_1372, w_1265, w_1266, ⟨by decide, by decide, by decide +kernel⟩⟩
theorem d_4_5_164 : decode prog_4_method_5_code 164 = .ok (.iconst 1, 1) := by decide +kernel
theorem d_4_5_165 : decode prog_4_method_5_code 165 = .ok (.ireturn, 1) := by decide +kernel
theorem d_4_5_72 : decode prog_4_method_5_code 72 = .ok (.ifCond .le 20, 3) := by decide +kernel
theorem d_4_5_75 : decode prog_4_method_5_code 75 = .ok (.aload_n 2, 1) := by decide +kernel
theorem d_4_5_76 : decode prog_4_method_5_code 76 = .ok (.getfield 52, 3) := by decide +kernel
theorem d_4_5_79 : decode prog_4_method_5_code 79 = .ok (.i2l, 1) := by decide +kernel
theorem d_4_5_80 : decode prog_4_method_5_code 80 = .ok (.lload 6, 2) := by decide +kernel
theorem d_4_5_82 : decode prog_4_method_5_code 82 = .ok (.ladd, 1) := by decide +kernel
theorem d_4_5_83 : decode prog_4_method_5_code 83 = .ok (.ldc2_w 88, 3) := by decide +kernel
set_option maxRecDepth 100000 in
theorem w_1371 : (Cond.constantLong "NumberHouse$DecimalWork" (88 : Nat) (1001 : Int64)) ∈ q_tbl := q_of6 171 rfl (by decide +kernel)
theorem d_4_5_86 : decode prog_4_method_5_code 86 = .ok (.lcmp, 1) := by decide +kernel
theorem d_4_5_87 : decode prog_4_method_5_code 87 = .ok (.ifCond .le 5, 3) := by decide +kernel
theorem d_4_5_90 : decode prog_4_method_5_code 90 = .ok (.iconst 0, 1) := by decide +kernel
theorem d_4_5_91 : decode prog_4_method_5_code 91 = .ok (.ireturn, 1) := by decide +kernel
theorem d_4_5_47 : decode prog_4_method_5_code 47 = .ok (.ifCond .le 18, 3) := by decide +kernel
theorem d_4_5_50 : decode prog_4_method_5_code 50 = .ok (.aload_n 1, 1) := by decide +kernel
theorem d_4_5_51 : decode prog_4_method_5_code 51 = .ok (.getfield 52, 3) := by decide +kernel
theorem d_4_5_54 : decode prog_4_method_5_code 54 = .ok (.i2l, 1) := by decide +kernel
theorem d_4_5_55 : decode prog_4_method_5_code 55 = .ok (.lload 4, 2) := by decide +kernel
theorem d_4_5_57 : decode prog_4_method_5_code 57 = .ok (.ladd, 1) := by decide +kernel
theorem d_4_5_58 : decode prog_4_method_5_code 58 = .ok (.ldc2_w 88, 3) := by decide +kernel
theorem d_4_5_61 : decode prog_4_method_5_code 61 = .ok (.lcmp, 1) := by decide +kernel
theorem d_4_5_62 : decode prog_4_method_5_code 62 = .ok (.ifCond .gt 28, 3) := by decide +kernel
def y_DW_sum : MethodName := ⟨"NumberHouse$DecimalWork", "sum", "(LNumberHouse$Dec;LNumberHouse$Dec;Z)Z"⟩
def F_DW_sum_c161 (R : Int32) (R2 : Int32) (x4 : Int32) (t0_0 : Int64) (t0_1 : Int32) (t1_0 : Int32) (t1_1 : Int32) (t2_0 : (Nat → Int32)) (t3_0 : Int32) (t3_1 : Int32) (t4_0 : (Nat → Int32)) (t5_0 : Int32) (t5_1 : Int32) (t6_0 : Int32) (t6_1 : Int32) (t7_0 : (Nat → Int32)) (t8_0 : Int32) (t8_1 : Int32) (t9_0 : Int32) (t9_1 : Int32) (t10_0 : (Nat → Int32)) (j64 : Int64) (j58 : Int64) (j50 : Int64) (p116 : (Int32 × Int32 × (Nat → Int32))) (p142 : (Int32 × Int32 × (Nat → Int32))) (y132 : Int32) (y133 : Int32) (f134 : (Nat → Int32)) (p166 : (Int32 × Int32 × (Nat → Int32))) (p192 : (Int32 × Int32 × (Nat → Int32))) (y182 : Int32) (y183 : Int32) (f184 : (Nat → Int32)) (p215 : (Int32 × Int32 × (Nat → Int32))) : Int32 × Int64 × Int32 × Int32 × Int32 × (Nat → Int32) × Int32 × Int32 × (Nat → Int32) := ((1 : Int32), j50, t0_1, (p215.1 : Int32), (p215.2.1 : Int32), (p215.2.2 : (Nat → Int32)), y182, y183, f184)
def F_DW_sum_c143 (R : Int32) (R2 : Int32) (x4 : Int32) (t0_0 : Int64) (t0_1 : Int32) (t1_0 : Int32) (t1_1 : Int32) (t2_0 : (Nat → Int32)) (t3_0 : Int32) (t3_1 : Int32) (t4_0 : (Nat → Int32)) (t5_0 : Int32) (t5_1 : Int32) (t6_0 : Int32) (t6_1 : Int32) (t7_0 : (Nat → Int32)) (t8_0 : Int32) (t8_1 : Int32) (t9_0 : Int32) (t9_1 : Int32) (t10_0 : (Nat → Int32)) (j64 : Int64) (j58 : Int64) (j50 : Int64) (p116 : (Int32 × Int32 × (Nat → Int32))) (p142 : (Int32 × Int32 × (Nat → Int32))) (y132 : Int32) (y133 : Int32) (f134 : (Nat → Int32)) (p166 : (Int32 × Int32 × (Nat → Int32))) (p192 : (Int32 × Int32 × (Nat → Int32))) : Int32 × Int64 × Int32 × Int32 × Int32 × (Nat → Int32) × Int32 × Int32 × (Nat → Int32) := F_DW_sum_c161 R R2 x4 t0_0 t0_1 t1_0 t1_1 t2_0 t3_0 t3_1 t4_0 t5_0 t5_1 t6_0 t6_1 t7_0 t8_0 t8_1 t9_0 t9_1 t10_0 j64 j58 j50 p116 p142 y132 y133 f134 p166 p192 (p192.1 : Int32) (p192.2.1 : Int32) (p192.2.2 : (Nat → Int32)) ((F_Big_addSigned (220 : Int32) (220 : Int32) x4 y132 y133 f134 (p192.1 : Int32) (p192.2.1 : Int32) (p192.2.2 : (Nat → Int32))) : (Int32 × Int32 × (Nat → Int32)))
def F_DW_sum_c130 (R : Int32) (R2 : Int32) (x4 : Int32) (t0_0 : Int64) (t0_1 : Int32) (t1_0 : Int32) (t1_1 : Int32) (t2_0 : (Nat → Int32)) (t3_0 : Int32) (t3_1 : Int32) (t4_0 : (Nat → Int32)) (t5_0 : Int32) (t5_1 : Int32) (t6_0 : Int32) (t6_1 : Int32) (t7_0 : (Nat → Int32)) (t8_0 : Int32) (t8_1 : Int32) (t9_0 : Int32) (t9_1 : Int32) (t10_0 : (Nat → Int32)) (j64 : Int64) (j58 : Int64) (j50 : Int64) (p116 : (Int32 × Int32 × (Nat → Int32))) (p142 : (Int32 × Int32 × (Nat → Int32))) (y132 : Int32) (y133 : Int32) (f134 : (Nat → Int32)) (p166 : (Int32 × Int32 × (Nat → Int32))) : Int32 × Int64 × Int32 × Int32 × Int32 × (Nat → Int32) × Int32 × Int32 × (Nat → Int32) := F_DW_sum_c143 R R2 x4 t0_0 t0_1 t1_0 t1_1 t2_0 t3_0 t3_1 t4_0 t5_0 t5_1 t6_0 t6_1 t7_0 t8_0 t8_1 t9_0 t9_1 t10_0 j64 j58 j50 p116 p142 y132 y133 f134 p166 ((F_Big_timesTen (220 : Int32) (j64.toInt32 : Int32) (p166.1 : Int32) (p166.2.1 : Int32) (p166.2.2 : (Nat → Int32))) : (Int32 × Int32 × (Nat → Int32)))
def F_DW_sum_c116 (R : Int32) (R2 : Int32) (x4 : Int32) (t0_0 : Int64) (t0_1 : Int32) (t1_0 : Int32) (t1_1 : Int32) (t2_0 : (Nat → Int32)) (t3_0 : Int32) (t3_1 : Int32) (t4_0 : (Nat → Int32)) (t5_0 : Int32) (t5_1 : Int32) (t6_0 : Int32) (t6_1 : Int32) (t7_0 : (Nat → Int32)) (t8_0 : Int32) (t8_1 : Int32) (t9_0 : Int32) (t9_1 : Int32) (t10_0 : (Nat → Int32)) (j64 : Int64) (j58 : Int64) (j50 : Int64) (p116 : (Int32 × Int32 × (Nat → Int32))) (p142 : (Int32 × Int32 × (Nat → Int32))) : Int32 × Int64 × Int32 × Int32 × Int32 × (Nat → Int32) × Int32 × Int32 × (Nat → Int32) := F_DW_sum_c130 R R2 x4 t0_0 t0_1 t1_0 t1_1 t2_0 t3_0 t3_1 t4_0 t5_0 t5_1 t6_0 t6_1 t7_0 t8_0 t8_1 t9_0 t9_1 t10_0 j64 j58 j50 p116 p142 (p142.1 : Int32) (p142.2.1 : Int32) (p142.2.2 : (Nat → Int32)) ((F_Big_copy (220 : Int32) R2 t3_0 t3_1 t4_0 t9_0 t9_1 t10_0) : (Int32 × Int32 × (Nat → Int32)))
def F_DW_sum_c103 (R : Int32) (R2 : Int32) (x4 : Int32) (t0_0 : Int64) (t0_1 : Int32) (t1_0 : Int32) (t1_1 : Int32) (t2_0 : (Nat → Int32)) (t3_0 : Int32) (t3_1 : Int32) (t4_0 : (Nat → Int32)) (t5_0 : Int32) (t5_1 : Int32) (t6_0 : Int32) (t6_1 : Int32) (t7_0 : (Nat → Int32)) (t8_0 : Int32) (t8_1 : Int32) (t9_0 : Int32) (t9_1 : Int32) (t10_0 : (Nat → Int32)) (j64 : Int64) (j58 : Int64) (j50 : Int64) (p116 : (Int32 × Int32 × (Nat → Int32))) : Int32 × Int64 × Int32 × Int32 × Int32 × (Nat → Int32) × Int32 × Int32 × (Nat → Int32) := F_DW_sum_c116 R R2 x4 t0_0 t0_1 t1_0 t1_1 t2_0 t3_0 t3_1 t4_0 t5_0 t5_1 t6_0 t6_1 t7_0 t8_0 t8_1 t9_0 t9_1 t10_0 j64 j58 j50 p116 ((F_Big_timesTen (220 : Int32) (j58.toInt32 : Int32) (p116.1 : Int32) (p116.2.1 : Int32) (p116.2.2 : (Nat → Int32))) : (Int32 × Int32 × (Nat → Int32)))
def F_DW_sum_J92 (R : Int32) (R2 : Int32) (x4 : Int32) (t0_0 : Int64) (t0_1 : Int32) (t1_0 : Int32) (t1_1 : Int32) (t2_0 : (Nat → Int32)) (t3_0 : Int32) (t3_1 : Int32) (t4_0 : (Nat → Int32)) (t5_0 : Int32) (t5_1 : Int32) (t6_0 : Int32) (t6_1 : Int32) (t7_0 : (Nat → Int32)) (t8_0 : Int32) (t8_1 : Int32) (t9_0 : Int32) (t9_1 : Int32) (t10_0 : (Nat → Int32)) (j64 : Int64) (j58 : Int64) (j50 : Int64) : Int32 × Int64 × Int32 × Int32 × Int32 × (Nat → Int32) × Int32 × Int32 × (Nat → Int32) := F_DW_sum_c103 R R2 x4 t0_0 t0_1 t1_0 t1_1 t2_0 t3_0 t3_1 t4_0 t5_0 t5_1 t6_0 t6_1 t7_0 t8_0 t8_1 t9_0 t9_1 t10_0 j64 j58 j50 ((F_Big_copy (220 : Int32) R t1_0 t1_1 t2_0 t6_0 t6_1 t7_0) : (Int32 × Int32 × (Nat → Int32)))
def F_DW_sum_J65 (R : Int32) (R2 : Int32) (x4 : Int32) (t0_0 : Int64) (t0_1 : Int32) (t1_0 : Int32) (t1_1 : Int32) (t2_0 : (Nat → Int32)) (t3_0 : Int32) (t3_1 : Int32) (t4_0 : (Nat → Int32)) (t5_0 : Int32) (t5_1 : Int32) (t6_0 : Int32) (t6_1 : Int32) (t7_0 : (Nat → Int32)) (t8_0 : Int32) (t8_1 : Int32) (t9_0 : Int32) (t9_1 : Int32) (t10_0 : (Nat → Int32)) (j64 : Int64) (j58 : Int64) (j50 : Int64) : Int32 × Int64 × Int32 × Int32 × Int32 × (Nat → Int32) × Int32 × Int32 × (Nat → Int32) := if t9_0 ≤ (0 : Int32) then (F_DW_sum_J92 R R2 x4 t0_0 t0_1 t1_0 t1_1 t2_0 t3_0 t3_1 t4_0 t5_0 t5_1 t6_0 t6_1 t7_0 t8_0 t8_1 t9_0 t9_1 t10_0 j64 j58 j50) else (if (lg_cmp ((t8_1.toInt64 : Int64) + j64 : Int64) 1001 : Int32) ≤ (0 : Int32) then (F_DW_sum_J92 R R2 x4 t0_0 t0_1 t1_0 t1_1 t2_0 t3_0 t3_1 t4_0 t5_0 t5_1 t6_0 t6_1 t7_0 t8_0 t8_1 t9_0 t9_1 t10_0 j64 j58 j50) else (((0 : Int32), j50, t0_1, t1_0, t1_1, t2_0, t3_0, t3_1, t4_0)))
def F_DW_sum (R : Int32) (R2 : Int32) (x4 : Int32) (t0_0 : Int64) (t0_1 : Int32) (t1_0 : Int32) (t1_1 : Int32) (t2_0 : (Nat → Int32)) (t3_0 : Int32) (t3_1 : Int32) (t4_0 : (Nat → Int32)) (t5_0 : Int32) (t5_1 : Int32) (t6_0 : Int32) (t6_1 : Int32) (t7_0 : (Nat → Int32)) (t8_0 : Int32) (t8_1 : Int32) (t9_0 : Int32) (t9_1 : Int32) (t10_0 : (Nat → Int32)) : Int32 × Int64 × Int32 × Int32 × Int32 × (Nat → Int32) × Int32 × Int32 × (Nat → Int32) := if t6_0 ≤ (0 : Int32) then (F_DW_sum_J65 R R2 x4 t0_0 t0_1 t1_0 t1_1 t2_0 t3_0 t3_1 t4_0 t5_0 t5_1 t6_0 t6_1 t7_0 t8_0 t8_1 t9_0 t9_1 t10_0 (((if t5_0 < t8_0 then t8_0 else t5_0 : Int32).toInt64 : Int64) - (t8_0.toInt64 : Int64) : Int64) (((if t5_0 < t8_0 then t8_0 else t5_0 : Int32).toInt64 : Int64) - (t5_0.toInt64 : Int64) : Int64) ((if t5_0 < t8_0 then t8_0 else t5_0 : Int32).toInt64 : Int64)) else (if (0 : Int32) < (lg_cmp ((t5_1.toInt64 : Int64) + (((if t5_0 < t8_0 then t8_0 else t5_0 : Int32).toInt64 : Int64) - (t5_0.toInt64 : Int64) : Int64) : Int64) 1001 : Int32) then (((0 : Int32), ((if t5_0 < t8_0 then t8_0 else t5_0 : Int32).toInt64 : Int64), t0_1, t1_0, t1_1, t2_0, t3_0, t3_1, t4_0)) else (F_DW_sum_J65 R R2 x4 t0_0 t0_1 t1_0 t1_1 t2_0 t3_0 t3_1 t4_0 t5_0 t5_1 t6_0 t6_1 t7_0 t8_0 t8_1 t9_0 t9_1 t10_0 (((if t5_0 < t8_0 then t8_0 else t5_0 : Int32).toInt64 : Int64) - (t8_0.toInt64 : Int64) : Int64) (((if t5_0 < t8_0 then t8_0 else t5_0 : Int32).toInt64 : Int64) - (t5_0.toInt64 : Int64) : Int64) ((if t5_0 < t8_0 then t8_0 else t5_0 : Int32).toInt64 : Int64)))
set_option maxRecDepth 100000 in
set_option maxHeartbeats 4000000 in
theorem X_DW_sum (l : Launch) (D : va_G) (g : Nat → ClassId) (q : Nat → Nat) (ws : va_W) (k2 : Nat) (R : Int32) (hB2 : q_isDec (nsh g q) g q k2 R) (zk2 : (10 ≤ k2 ∧ k2 ≤ 31) ∨ 66 ≤ k2) (k3 : Nat) (R2 : Int32) (hB3 : q_isDec (nsh g q) g q k3 R2) (zk3 : (10 ≤ k3 ∧ k3 ≤ 31) ∨ 66 ≤ k3) (x4 : Int32) (ne_k2_10 : k2 ≠ 10) (ne_k2_11 : k2 ≠ 11) (ne_k2_9 : k2 ≠ 9) (ne_k2_8 : k2 ≠ 8) (ne_k2_22 : k2 ≠ 22) (ne_k2_23 : k2 ≠ 23) (ne_k2_21 : k2 ≠ 21) (ne_k2_20 : k2 ≠ 20) (ne_k2_30 : k2 ≠ 30) (ne_k2_31 : k2 ≠ 31) (ne_k2_29 : k2 ≠ 29) (ne_k2_28 : k2 ≠ 28) (ne_k3_10 : k3 ≠ 10) (ne_k3_11 : k3 ≠ 11) (ne_k3_9 : k3 ≠ 9) (ne_k3_8 : k3 ≠ 8) (ne_k3_22 : k3 ≠ 22) (ne_k3_23 : k3 ≠ 23) (ne_k3_21 : k3 ≠ 21) (ne_k3_20 : k3 ≠ 20) (ne_k3_30 : k3 ≠ 30) (ne_k3_31 : k3 ≠ 31) (ne_k3_29 : k3 ≠ 29) (ne_k3_28 : k3 ≠ 28) (hI : q_I (nsh g q) q ws) (t0_0 : Int64) (t0_1 : Int32) (hT0 : ws[30]? = (some (q 30, .inr (5, [.ref (q 31), .long t0_0, .ref (q 9), .int t0_1])) : Option (Nat × va_E))) (t1_0 : Int32) (t1_1 : Int32) (hT1 : ws[10]? = (some (q 10, .inr (2, [.ref (q 11), .int t1_0, .int t1_1])) : Option (Nat × va_E))) (t2_0 : (Nat → Int32)) (hT2 : ws[11]? = (some (q 11, .inl (g 0, (220 : Int32).toNatClampNeg, .inl t2_0)) : Option (Nat × va_E))) (t3_0 : Int32) (t3_1 : Int32) (hT3 : ws[22]? = (some (q 22, .inr (2, [.ref (q 23), .int t3_0, .int t3_1])) : Option (Nat × va_E))) (t4_0 : (Nat → Int32)) (hT4 : ws[23]? = (some (q 23, .inl (g 0, (220 : Int32).toNatClampNeg, .inl t4_0)) : Option (Nat × va_E))) (t5_0 : Int32) (t5_1 : Int32) (hT5 : ws[k2]? = (some (q k2, .inr (3, [.ref (q (k2 + 1)), .int t5_0, .int t5_1])) : Option (Nat × va_E))) (t6_0 : Int32) (t6_1 : Int32) (hT6 : ws[k2 + 1]? = (some (q (k2 + 1), .inr (2, [.ref (q (k2 + 2)), .int t6_0, .int t6_1])) : Option (Nat × va_E))) (t7_0 : (Nat → Int32)) (hT7 : ws[k2 + 2]? = (some (q (k2 + 2), .inl (g 0, R.toNatClampNeg, .inl t7_0)) : Option (Nat × va_E))) (t8_0 : Int32) (t8_1 : Int32) (hT8 : ws[k3]? = (some (q k3, .inr (3, [.ref (q (k3 + 1)), .int t8_0, .int t8_1])) : Option (Nat × va_E))) (t9_0 : Int32) (t9_1 : Int32) (hT9 : ws[k3 + 1]? = (some (q (k3 + 1), .inr (2, [.ref (q (k3 + 2)), .int t9_0, .int t9_1])) : Option (Nat × va_E))) (t10_0 : (Nat → Int32)) (hT10 : ws[k3 + 2]? = (some (q (k3 + 2), .inl (g 0, R2.toNatClampNeg, .inl t10_0)) : Option (Nat × va_E))) (hzx4 : 0 ≤ x4.toInt ∧ x4.toInt ≤ 1) : q_mI l y_DW_sum prog_4_method_5_code 8 (.boolean) 4 0 0 D g [.ref (q 30), .ref (q k2), .ref (q k3), .int x4] ws (fun r u => q_I (nsh g q) q u ∧ q_un ws u [10, 11, 22, 23, 30] ∧ ∃ (u0_0 : Int64) (u0_1 : Int32) (u1_0 : Int32) (u1_1 : Int32) (u2_0 : (Nat → Int32)) (u3_0 : Int32) (u3_1 : Int32) (u4_0 : (Nat → Int32)), u[30]? = (some (q 30, .inr (5, [.ref (q 31), .long u0_0, .ref (q 9), .int u0_1])) : Option (Nat × va_E)) ∧ u[10]? = (some (q 10, .inr (2, [.ref (q 11), .int u1_0, .int u1_1])) : Option (Nat × va_E)) ∧ u[11]? = (some (q 11, .inl (g 0, (220 : Int32).toNatClampNeg, .inl u2_0)) : Option (Nat × va_E)) ∧ u[22]? = (some (q 22, .inr (2, [.ref (q 23), .int u3_0, .int u3_1])) : Option (Nat × va_E)) ∧ u[23]? = (some (q 23, .inl (g 0, (220 : Int32).toNatClampNeg, .inl u4_0)) : Option (Nat × va_E)) ∧ (0 ≤ r.toInt) ∧ (r.toInt ≤ 1) ∧ (u0_0.toInt ≤ 10000) ∧ (0 ≤ u1_0.toInt) ∧ (u1_0.toInt ≤ 220) ∧ (0 ≤ u1_1.toInt) ∧ (u1_1.toInt ≤ 1) ∧ (0 ≤ u3_0.toInt) ∧ (u3_0.toInt ≤ 220) ∧ (0 ≤ u3_1.toInt) ∧ (u3_1.toInt ≤ 1) ∧ (t5_0.toInt ≤ u0_0.toInt) ∧ (t8_0.toInt ≤ u0_0.toInt) ∧ (t0_1.toInt ≤ u0_1.toInt) ∧ (u0_1.toInt ≤ t0_1.toInt) ∧ (r, u0_0, u0_1, u1_0, u1_1, u2_0, u3_0, u3_1, u4_0) = (F_DW_sum R R2 x4 t0_0 t0_1 t1_0 t1_1 t2_0 t3_0 t3_1 t4_0 t5_0 t5_1 t6_0 t6_1 t7_0 t8_0 t8_1 t9_0 t9_1 t10_0)) := by
  intro sz
  refine q_into (by decide) (Nat.le_of_ble_eq_true rfl) ?_
  intro p e s m below meth c ls hsz C0 V hl
  have hx := C0.1
  have hb := C0.2.1
  replace hzx4 : q_F (0 ≤ x4.toInt ∧ x4.toInt ≤ 1) := hzx4
  have btt0_1 := n_w30 hI hT0
  replace btt0_1 : q_F (0 ≤ t0_1.toInt ∧ t0_1.toInt ≤ 1) := btt0_1
  obtain ⟨btt1_0, btt1_1⟩ := q_bigW hI (n_b10 g q) hT1
  replace btt1_0 : q_F (0 ≤ t1_0.toInt ∧ t1_0.toInt ≤ 220) := btt1_0
  replace btt1_1 : q_F (0 ≤ t1_1.toInt ∧ t1_1.toInt ≤ 1) := btt1_1
  obtain ⟨btt3_0, btt3_1⟩ := q_bigW hI (n_b22 g q) hT3
  replace btt3_0 : q_F (0 ≤ t3_0.toInt ∧ t3_0.toInt ≤ 220) := btt3_0
  replace btt3_1 : q_F (0 ≤ t3_1.toInt ∧ t3_1.toInt ≤ 1) := btt3_1
  have btt5_0 := (n_deW hI hB2 hT5).1
  replace btt5_0 : q_F (-10000 ≤ t5_0.toInt ∧ t5_0.toInt ≤ 10000) := btt5_0
  have btt6_1 := (q_bigW hI hB2.2 hT6).2
  clear btt6_1
  have btt8_0 := (n_deW hI hB3 hT8).1
  replace btt8_0 : q_F (-10000 ≤ t8_0.toInt ∧ t8_0.toInt ≤ 10000) := btt8_0
  have btt9_1 := (q_bigW hI hB3.2 hT9).2
  replace btt9_1 : q_F (0 ≤ t9_1.toInt ∧ t9_1.toInt ≤ 1) := btt9_1
  have hF : q_un ws ws [10, 11, 22, 23, 30] := q_u0
  have hl : lv_has ls 8 [(0, .ref (q 30)), (1, .ref (q k2)), (2, .ref (q k3)), (3, .int x4)] := hl
  refine lv_aload_n hx hb d_4_5_0 rfl (lv_at hl 0 rfl) ?_
  refine lv_aload_n hx hb d_4_5_1 rfl (lv_at hl 1 rfl) ?_
  refine q_get (ci := 3) (j := 1) (v := .int t5_0) C0 V i_Dec rfl rfl hT5 (by decide) w_176 rfl d_4_5_2 ?_
  refine lv_aload_n hx hb d_4_5_5 rfl (lv_at hl 2 rfl) ?_
  refine q_get (ci := 3) (j := 1) (v := .int t8_0) C0 V i_Dec rfl rfl hT8 (by decide) w_176 rfl d_4_5_6 ?_
  refine q_max C0 hl.1 rfl w_1370 w_803 w_7 w_804 ⟨Nat.le_of_ble_eq_true rfl, Nat.le_of_ble_eq_true rfl⟩ ⟨Nat.le_of_ble_eq_true rfl, Nat.le_of_ble_eq_true rfl⟩ d_4_5_9 ?_
  obtain ⟨a47, e48⟩ := q_nm (if t5_0 < t8_0 then t8_0 else t5_0 : Int32)
  refine q_ti (v := a47) e48 ?_
  have b49 : q_F (t5_0.toInt ≤ a47.toInt ∧ t8_0.toInt ≤ a47.toInt ∧ (a47.toInt = t5_0.toInt ∨ a47.toInt = t8_0.toInt)) := (by rw [← e48]; show t5_0.toInt ≤ (if t5_0 < t8_0 then t8_0 else t5_0 : Int32).toInt ∧ t8_0.toInt ≤ (if t5_0 < t8_0 then t8_0 else t5_0 : Int32).toInt ∧ ((if t5_0 < t8_0 then t8_0 else t5_0 : Int32).toInt = t5_0.toInt ∨ (if t5_0 < t8_0 then t8_0 else t5_0 : Int32).toInt = t8_0.toInt); exact s_max (a := t5_0) (b := t8_0))
  refine lv_i2l hx hb d_4_5_12 rfl ?_
  obtain ⟨j50, e51⟩ := q_nm (a47.toInt64 : Int64)
  refine q_tl (v := j50) e51 ?_
  have b52 : q_F (j50.toInt = a47.toInt) := (by rw [← e51]; show (a47.toInt64 : Int64).toInt = a47.toInt; exact q_i2l rfl)
  refine q_put (ci := 5) (j := 1) (v := .long j50) (ty := .long) C0 V i_DW o_DW n_DW rfl rfl hT0 (by decide) w_212 rfl rfl rfl rfl (Nat.le_of_ble_eq_true rfl) d_4_5_13 (fun H locs w53 hu54 hT0 V => ?_)
  replace hT0 : w53[30]? = (some (q 30, .inr (5, [.ref (q 31), .long j50, .ref (q 9), .int t0_1])) : Option (Nat × va_E)) := hT0
  replace hI := n_p30 hI hu54 hT0 (by first | with_reducible exact q_fe btt0_1 | exact ⟨(by have t1 : 0 ≤ t0_1.toInt ∧ t0_1.toInt ≤ 1 := btt0_1; omega), (by have t1 : 0 ≤ t0_1.toInt ∧ t0_1.toInt ≤ 1 := btt0_1; omega)⟩)
  replace hT1 := (hu54 _ (by decide)).trans hT1
  replace hT2 := (hu54 _ (by decide)).trans hT2
  replace hT3 := (hu54 _ (by decide)).trans hT3
  replace hT4 := (hu54 _ (by decide)).trans hT4
  replace hT5 := (hu54 _ (by have z := ne_k2_30; omega)).trans hT5
  replace hT6 := (hu54 _ (by have z := ne_k2_29; omega)).trans hT6
  replace hT7 := (hu54 _ (by have z := ne_k2_28; omega)).trans hT7
  replace hT8 := (hu54 _ (by have z := ne_k3_30; omega)).trans hT8
  replace hT9 := (hu54 _ (by have z := ne_k3_29; omega)).trans hT9
  replace hT10 := (hu54 _ (by have z := ne_k3_28; omega)).trans hT10
  replace hF := q_us hF hu54 (by simp)
  refine lv_aload_n hx hb d_4_5_16 rfl (lv_at hl 0 rfl) ?_
  refine q_get (ci := 5) (j := 1) (v := .long j50) C0 V i_DW rfl rfl hT0 (by decide) w_212 rfl d_4_5_17 ?_
  refine lv_aload_n hx hb d_4_5_20 rfl (lv_at hl 1 rfl) ?_
  refine q_get (ci := 3) (j := 1) (v := .int t5_0) C0 V i_Dec rfl rfl hT5 (by decide) w_176 rfl d_4_5_21 ?_
  refine lv_i2l hx hb d_4_5_24 rfl ?_
  obtain ⟨j55, e56⟩ := q_nm (t5_0.toInt64 : Int64)
  refine q_tl (v := j55) e56 ?_
  refine lv_lsub hx hb d_4_5_25 ?_
  obtain ⟨j58, e59⟩ := q_nm (j50 - j55 : Int64)
  refine q_tl (v := j58) e59 ?_
  refine lv_lstore (lv' := [(4, .long j58), (0, .ref (q 30)), (1, .ref (q k2)), (2, .ref (q k3)), (3, .int x4)]) hx hb d_4_5_26 hl (by decide) rfl (fun ls hl => ?_)
  refine lv_aload_n hx hb d_4_5_28 rfl (lv_at hl 1 rfl) ?_
  refine q_get (ci := 5) (j := 1) (v := .long j50) C0 V i_DW rfl rfl hT0 (by decide) w_212 rfl d_4_5_29 ?_
  refine lv_aload_n hx hb d_4_5_32 rfl (lv_at hl 3 rfl) ?_
  refine q_get (ci := 3) (j := 1) (v := .int t8_0) C0 V i_Dec rfl rfl hT8 (by decide) w_176 rfl d_4_5_33 ?_
  refine lv_i2l hx hb d_4_5_36 rfl ?_
  obtain ⟨j61, e62⟩ := q_nm (t8_0.toInt64 : Int64)
  refine q_tl (v := j61) e62 ?_
  refine lv_lsub hx hb d_4_5_37 ?_
  obtain ⟨j64, e65⟩ := q_nm (j50 - j61 : Int64)
  refine q_tl (v := j64) e65 ?_
  refine lv_lstore (lv' := [(6, .long j64), (4, .long j58), (0, .ref (q 30)), (1, .ref (q k2)), (2, .ref (q k3)), (3, .int x4)]) hx hb d_4_5_38 hl (by decide) rfl (fun ls hl => ?_)
  refine lv_aload_n hx hb d_4_5_40 rfl (lv_at hl 3 rfl) ?_
  refine q_get (ci := 3) (j := 0) (v := .ref (q (k2 + 1))) C0 V i_Dec rfl rfl hT5 (by decide) w_171 rfl d_4_5_41 ?_
  refine q_get (ci := 2) (j := 1) (v := .int t6_0) C0 V i_Big rfl rfl hT6 (by decide) w_90 rfl d_4_5_44 ?_
  refine q_join (X := Unit) (fun z H locs ls _ => q_Wd D g (va_A ws sz) s w53 H locs ∧ lv_has ls 8 [(6, .long j64), (4, .long j58), (0, .ref (q 30)), (1, .ref (q k2)), (2, .ref (q k3)), (3, .int x4)] ∧ F_DW_sum_J65 R R2 x4 t0_0 t0_1 t1_0 t1_1 t2_0 t3_0 t3_1 t4_0 t5_0 t5_1 t6_0 t6_1 t7_0 t8_0 t8_1 t9_0 t9_1 t10_0 j64 j58 j50 = (F_DW_sum R R2 x4 t0_0 t0_1 t1_0 t1_1 t2_0 t3_0 t3_1 t4_0 t5_0 t5_1 t6_0 t6_1 t7_0 t8_0 t8_1 t9_0 t9_1 t10_0)) (fun z => []) 65 0 0 ?_ ?_
  ·
    rintro _ H locs ls _ ⟨V, hl, hR79⟩
    replace hl : lv_has ls 8 [(6, .long j64), (4, .long j58), (0, .ref (q 30)), (1, .ref (q k2)), (2, .ref (q k3)), (3, .int x4)] := hl
    refine lv_aload_n hx hb d_4_5_65 rfl (lv_at hl 4 rfl) ?_
    refine q_get (ci := 3) (j := 0) (v := .ref (q (k3 + 1))) C0 V i_Dec rfl rfl hT8 (by decide) w_171 rfl d_4_5_66 ?_
    refine q_get (ci := 2) (j := 1) (v := .int t9_0) C0 V i_Big rfl rfl hT9 (by decide) w_90 rfl d_4_5_69 ?_
    refine q_join (X := Unit) (fun z H locs ls _ => q_Wd D g (va_A ws sz) s w53 H locs ∧ lv_has ls 8 [(6, .long j64), (4, .long j58), (0, .ref (q 30)), (1, .ref (q k2)), (2, .ref (q k3)), (3, .int x4)] ∧ F_DW_sum_J92 R R2 x4 t0_0 t0_1 t1_0 t1_1 t2_0 t3_0 t3_1 t4_0 t5_0 t5_1 t6_0 t6_1 t7_0 t8_0 t8_1 t9_0 t9_1 t10_0 j64 j58 j50 = (F_DW_sum R R2 x4 t0_0 t0_1 t1_0 t1_1 t2_0 t3_0 t3_1 t4_0 t5_0 t5_1 t6_0 t6_1 t7_0 t8_0 t8_1 t9_0 t9_1 t10_0)) (fun z => []) 92 0 0 ?_ ?_
    ·
      rintro _ H locs ls _ ⟨V, hl, hR96⟩
      replace hl : lv_has ls 8 [(6, .long j64), (4, .long j58), (0, .ref (q 30)), (1, .ref (q k2)), (2, .ref (q k3)), (3, .int x4)] := hl
      refine lv_aload_n hx hb d_4_5_92 rfl (lv_at hl 2 rfl) ?_
      refine q_get (ci := 5) (j := 2) (v := .ref (q 9)) C0 V i_DW rfl rfl hT0 (by decide) w_214 rfl d_4_5_93 ?_
      have hO101 := n_o9 hI
      refine q_get (ci := 4) (j := 0) (v := .ref (q 10)) C0 V i_Mil rfl rfl hO101 (by decide) w_111 rfl d_4_5_96 ?_
      refine lv_aload_n hx hb d_4_5_99 rfl (lv_at hl 3 rfl) ?_
      refine q_get (ci := 3) (j := 0) (v := .ref (q (k2 + 1))) C0 V i_Dec rfl rfl hT5 (by decide) w_171 rfl d_4_5_100 ?_
      refine q_gov V (q_runV (As := [.ref (q (k2 + 1))]) (rest := []) (d := 2) (mc := 0) (ms := 0) (ci := 2) C0 V rfl LV_DW_44 (X_Big_copy l D g q w53 10 220 (n_b10 g q) (by decide) (k2 + 1) R hB2.2 (by have z := zk2; omega)  (by have z := ne_k2_9; omega) hI t1_0 t1_1 hT1 t2_0 hT2 t6_0 t6_1 hT6 t7_0 hT7  _) rfl rfl hT1 rfl hl.1 rfl (Nat.le_of_ble_eq_true rfl) ⟨by decide, by decide⟩ ⟨Nat.le_of_ble_eq_true rfl, Nat.le_of_ble_eq_true rfl⟩ d_4_5_103) (fun u102 H locs hp103 V => ?_)
      obtain ⟨hI, hZ9⟩ := hp103
      obtain ⟨hu115, hZ9⟩ := hZ9
      obtain ⟨y105, hZ9⟩ := hZ9
      obtain ⟨y106, hZ9⟩ := hZ9
      obtain ⟨f107, hZ9⟩ := hZ9
      obtain ⟨hO104, hZ9⟩ := hZ9
      obtain ⟨hA108, hZ9⟩ := hZ9
      replace hZ9 := hZ9.2.2.2.2
      obtain ⟨-, hE114⟩ := hZ9
      replace hO104 : u102[10]? = (some (q 10, .inr (2, [.ref (q 11), .int y105, .int y106])) : Option (Nat × va_E)) := hO104
      replace hA108 : u102[11]? = (some (q 11, .inl (g 0, (220 : Int32).toNatClampNeg, .inl f107)) : Option (Nat × va_E)) := hA108
      obtain ⟨p116, e117⟩ : ∃ z, z = (F_Big_copy (220 : Int32) R t1_0 t1_1 t2_0 t6_0 t6_1 t7_0) := ⟨_, rfl⟩
      have e118 : y105 = p116.1 := congrArg (fun z => z.1) (hE114.trans e117.symm)
      have e119 : y106 = p116.2.1 := congrArg (fun z => z.2.1) (hE114.trans e117.symm)
      have e120 : f107 = p116.2.2 := congrArg (fun z => z.2.2) (hE114.trans e117.symm)
      replace hT0 := (hu115 _ (by decide)).trans hT0
      replace hT3 := (hu115 _ (by decide)).trans hT3
      replace hT4 := (hu115 _ (by decide)).trans hT4
      replace hT8 := (hu115 _ (by have z0 := zk3; simp only [List.mem_cons, List.not_mem_nil, or_false, not_or]; omega)).trans hT8
      replace hT9 := (hu115 _ (by have z0 := zk3; simp only [List.mem_cons, List.not_mem_nil, or_false, not_or]; omega)).trans hT9
      replace hT10 := (hu115 _ (by have z0 := zk3; simp only [List.mem_cons, List.not_mem_nil, or_false, not_or]; omega)).trans hT10
      replace hO101 := (hu115 _ (by decide)).trans hO101
      replace hF := q_uc hF hu115 (by first | exact (q_sk (q_mi 0 rfl) (q_sk (q_mi 1 rfl) q_s0)) | simp)
      have hR121 := (show F_DW_sum_c103 R R2 x4 t0_0 t0_1 t1_0 t1_1 t2_0 t3_0 t3_1 t4_0 t5_0 t5_1 t6_0 t6_1 t7_0 t8_0 t8_1 t9_0 t9_1 t10_0 j64 j58 j50 p116 = (F_DW_sum R R2 x4 t0_0 t0_1 t1_0 t1_1 t2_0 t3_0 t3_1 t4_0 t5_0 t5_1 t6_0 t6_1 t7_0 t8_0 t8_1 t9_0 t9_1 t10_0) from Eq.trans (by rw [e117, F_DW_sum_J92.eq_1]) hR96)
      refine lv_aload_n hx hb d_4_5_106 rfl (lv_at hl 2 rfl) ?_
      refine q_get (ci := 5) (j := 2) (v := .ref (q 9)) C0 V i_DW rfl rfl hT0 (by decide) w_214 rfl d_4_5_107 ?_
      refine q_get (ci := 4) (j := 0) (v := .ref (q 10)) C0 V i_Mil rfl rfl hO101 (by decide) w_111 rfl d_4_5_110 ?_
      refine lv_lload hx hb d_4_5_113 (lv_at hl 1 rfl) ?_
      refine lv_l2i hx hb d_4_5_115 rfl ?_
      obtain ⟨a126, e127⟩ := q_nm (j58.toInt32 : Int32)
      refine q_ti (v := a126) e127 ?_
      refine q_gov V (q_runV (As := [.int a126]) (rest := []) (d := 2) (mc := 0) (ms := 0) (ci := 2) C0 V rfl LV_DW_77 (X_Big_timesTen l D g q u102 10 220 (n_b10 g q) (by decide) a126 hI y105 y106 hO104 f107 hA108  _) rfl rfl hO104 rfl hl.1 rfl (Nat.le_of_ble_eq_true rfl) ⟨by decide, by decide⟩ ⟨Nat.le_of_ble_eq_true rfl, Nat.le_of_ble_eq_true rfl⟩ d_4_5_116) (fun u129 H locs hp130 V => ?_)
      obtain ⟨hI, hZ9⟩ := hp130
      obtain ⟨hu141, hZ9⟩ := hZ9
      obtain ⟨y132, hZ9⟩ := hZ9
      obtain ⟨y133, hZ9⟩ := hZ9
      obtain ⟨f134, hZ9⟩ := hZ9
      obtain ⟨hO131, hZ9⟩ := hZ9
      obtain ⟨hA135, hZ9⟩ := hZ9
      replace hZ9 := hZ9.2.2.2
      obtain ⟨-, hE140⟩ := hZ9
      replace hO131 : u129[10]? = (some (q 10, .inr (2, [.ref (q 11), .int y132, .int y133])) : Option (Nat × va_E)) := hO131
      replace hA135 : u129[11]? = (some (q 11, .inl (g 0, (220 : Int32).toNatClampNeg, .inl f134)) : Option (Nat × va_E)) := hA135
      obtain ⟨p142, e143⟩ : ∃ z, z = (F_Big_timesTen (220 : Int32) a126 y105 y106 f107) := ⟨_, rfl⟩
      have e144 : y132 = p142.1 := congrArg (fun z => z.1) (hE140.trans e143.symm)
      have e145 : y133 = p142.2.1 := congrArg (fun z => z.2.1) (hE140.trans e143.symm)
      have e146 : f134 = p142.2.2 := congrArg (fun z => z.2.2) (hE140.trans e143.symm)
      replace hT0 := (hu141 _ (by decide)).trans hT0
      replace hT3 := (hu141 _ (by decide)).trans hT3
      replace hT4 := (hu141 _ (by decide)).trans hT4
      replace hT8 := (hu141 _ (by have z0 := zk3; simp only [List.mem_cons, List.not_mem_nil, or_false, not_or]; omega)).trans hT8
      replace hT9 := (hu141 _ (by have z0 := zk3; simp only [List.mem_cons, List.not_mem_nil, or_false, not_or]; omega)).trans hT9
      replace hT10 := (hu141 _ (by have z0 := zk3; simp only [List.mem_cons, List.not_mem_nil, or_false, not_or]; omega)).trans hT10
      replace hO101 := (hu141 _ (by decide)).trans hO101
      replace hF := q_uc hF hu141 (by first | exact (q_sk (q_mi 0 rfl) (q_sk (q_mi 1 rfl) q_s0)) | simp)
      have hR147 := (show F_DW_sum_c116 R R2 x4 t0_0 t0_1 t1_0 t1_1 t2_0 t3_0 t3_1 t4_0 t5_0 t5_1 t6_0 t6_1 t7_0 t8_0 t8_1 t9_0 t9_1 t10_0 j64 j58 j50 p116 p142 = (F_DW_sum R R2 x4 t0_0 t0_1 t1_0 t1_1 t2_0 t3_0 t3_1 t4_0 t5_0 t5_1 t6_0 t6_1 t7_0 t8_0 t8_1 t9_0 t9_1 t10_0) from Eq.trans (by rw [e143, ← e127, e120, e119, e118, F_DW_sum_c103.eq_1]) hR121)
      refine lv_aload_n hx hb d_4_5_119 rfl (lv_at hl 2 rfl) ?_
      refine q_get (ci := 5) (j := 2) (v := .ref (q 9)) C0 V i_DW rfl rfl hT0 (by decide) w_214 rfl d_4_5_120 ?_
      refine q_get (ci := 4) (j := 6) (v := .ref (q 22)) C0 V i_Mil rfl rfl hO101 (by decide) w_126 rfl d_4_5_123 ?_
      refine lv_aload_n hx hb d_4_5_126 rfl (lv_at hl 4 rfl) ?_
      refine q_get (ci := 3) (j := 0) (v := .ref (q (k3 + 1))) C0 V i_Dec rfl rfl hT8 (by decide) w_171 rfl d_4_5_127 ?_
      refine q_gov V (q_runV (As := [.ref (q (k3 + 1))]) (rest := []) (d := 2) (mc := 0) (ms := 0) (ci := 2) C0 V rfl LV_DW_44 (X_Big_copy l D g q u129 22 220 (n_b22 g q) (by decide) (k3 + 1) R2 hB3.2 (by have z := zk3; omega)  (by have z := ne_k3_21; omega) hI t3_0 t3_1 hT3 t4_0 hT4 t9_0 t9_1 hT9 t10_0 hT10  _) rfl rfl hT3 rfl hl.1 rfl (Nat.le_of_ble_eq_true rfl) ⟨by decide, by decide⟩ ⟨Nat.le_of_ble_eq_true rfl, Nat.le_of_ble_eq_true rfl⟩ d_4_5_130) (fun u152 H locs hp153 V => ?_)
      obtain ⟨hI, hZ9⟩ := hp153
      obtain ⟨hu165, hZ9⟩ := hZ9
      obtain ⟨y155, hZ9⟩ := hZ9
      obtain ⟨y156, hZ9⟩ := hZ9
      obtain ⟨f157, hZ9⟩ := hZ9
      obtain ⟨hO154, hZ9⟩ := hZ9
      obtain ⟨hA158, hZ9⟩ := hZ9
      obtain ⟨b159, hZ9⟩ := hZ9
      replace hZ9 := hZ9.2.2
      obtain ⟨b162, hZ9⟩ := hZ9
      obtain ⟨b163, hE164⟩ := hZ9
      replace hO154 : u152[22]? = (some (q 22, .inr (2, [.ref (q 23), .int y155, .int y156])) : Option (Nat × va_E)) := hO154
      replace hA158 : u152[23]? = (some (q 23, .inl (g 0, (220 : Int32).toNatClampNeg, .inl f157)) : Option (Nat × va_E)) := hA158
      obtain ⟨p166, e167⟩ : ∃ z, z = (F_Big_copy (220 : Int32) R2 t3_0 t3_1 t4_0 t9_0 t9_1 t10_0) := ⟨_, rfl⟩
      have e168 : y155 = p166.1 := congrArg (fun z => z.1) (hE164.trans e167.symm)
      have e169 : y156 = p166.2.1 := congrArg (fun z => z.2.1) (hE164.trans e167.symm)
      have e170 : f157 = p166.2.2 := congrArg (fun z => z.2.2) (hE164.trans e167.symm)
      replace b159 : q_F (0 ≤ y155.toInt) := b159
      replace b162 : q_F (t9_1.toInt ≤ y156.toInt) := b162
      replace b163 : q_F (y156.toInt ≤ t9_1.toInt) := b163
      replace hT0 := (hu165 _ (by decide)).trans hT0
      replace hO131 := (hu165 _ (by decide)).trans hO131
      replace hA135 := (hu165 _ (by decide)).trans hA135
      replace hO101 := (hu165 _ (by decide)).trans hO101
      replace hF := q_uc hF hu165 (by first | exact (q_sk (q_mi 2 rfl) (q_sk (q_mi 3 rfl) q_s0)) | simp)
      have hR171 := (show F_DW_sum_c130 R R2 x4 t0_0 t0_1 t1_0 t1_1 t2_0 t3_0 t3_1 t4_0 t5_0 t5_1 t6_0 t6_1 t7_0 t8_0 t8_1 t9_0 t9_1 t10_0 j64 j58 j50 p116 p142 y132 y133 f134 p166 = (F_DW_sum R R2 x4 t0_0 t0_1 t1_0 t1_1 t2_0 t3_0 t3_1 t4_0 t5_0 t5_1 t6_0 t6_1 t7_0 t8_0 t8_1 t9_0 t9_1 t10_0) from Eq.trans (by rw [e167, e146, e145, e144, F_DW_sum_c116.eq_1]) hR147)
      refine lv_aload_n hx hb d_4_5_133 rfl (lv_at hl 2 rfl) ?_
      refine q_get (ci := 5) (j := 2) (v := .ref (q 9)) C0 V i_DW rfl rfl hT0 (by decide) w_214 rfl d_4_5_134 ?_
      refine q_get (ci := 4) (j := 6) (v := .ref (q 22)) C0 V i_Mil rfl rfl hO101 (by decide) w_126 rfl d_4_5_137 ?_
      refine lv_lload hx hb d_4_5_140 (lv_at hl 0 rfl) ?_
      refine lv_l2i hx hb d_4_5_142 rfl ?_
      obtain ⟨a176, e177⟩ := q_nm (j64.toInt32 : Int32)
      refine q_ti (v := a176) e177 ?_
      refine q_gov V (q_runV (As := [.int a176]) (rest := []) (d := 2) (mc := 0) (ms := 0) (ci := 2) C0 V rfl LV_DW_77 (X_Big_timesTen l D g q u152 22 220 (n_b22 g q) (by decide) a176 hI y155 y156 hO154 f157 hA158  _) rfl rfl hO154 rfl hl.1 rfl (Nat.le_of_ble_eq_true rfl) ⟨by decide, by decide⟩ ⟨Nat.le_of_ble_eq_true rfl, Nat.le_of_ble_eq_true rfl⟩ d_4_5_143) (fun u179 H locs hp180 V => ?_)
      obtain ⟨hI, hZ9⟩ := hp180
      obtain ⟨hu191, hZ9⟩ := hZ9
      obtain ⟨y182, hZ9⟩ := hZ9
      obtain ⟨y183, hZ9⟩ := hZ9
      obtain ⟨f184, hZ9⟩ := hZ9
      obtain ⟨hO181, hZ9⟩ := hZ9
      obtain ⟨hA185, hZ9⟩ := hZ9
      obtain ⟨b186, hZ9⟩ := hZ9
      obtain ⟨b187, hZ9⟩ := hZ9
      obtain ⟨b188, hZ9⟩ := hZ9
      obtain ⟨b189, hE190⟩ := hZ9
      replace hO181 : u179[22]? = (some (q 22, .inr (2, [.ref (q 23), .int y182, .int y183])) : Option (Nat × va_E)) := hO181
      replace hA185 : u179[23]? = (some (q 23, .inl (g 0, (220 : Int32).toNatClampNeg, .inl f184)) : Option (Nat × va_E)) := hA185
      obtain ⟨p192, e193⟩ : ∃ z, z = (F_Big_timesTen (220 : Int32) a176 y155 y156 f157) := ⟨_, rfl⟩
      have e194 : y182 = p192.1 := congrArg (fun z => z.1) (hE190.trans e193.symm)
      have e195 : y183 = p192.2.1 := congrArg (fun z => z.2.1) (hE190.trans e193.symm)
      have e196 : f184 = p192.2.2 := congrArg (fun z => z.2.2) (hE190.trans e193.symm)
      replace b186 : q_F (y155.toInt ≤ y182.toInt) := b186
      replace b187 : q_F (y182.toInt ≤ 220) := b187
      replace b188 : q_F (y156.toInt ≤ y183.toInt) := b188
      replace b189 : q_F (y183.toInt ≤ y156.toInt) := b189
      replace hT0 := (hu191 _ (by decide)).trans hT0
      replace hO131 := (hu191 _ (by decide)).trans hO131
      replace hA135 := (hu191 _ (by decide)).trans hA135
      replace hO101 := (hu191 _ (by decide)).trans hO101
      replace hF := q_uc hF hu191 (by first | exact (q_sk (q_mi 2 rfl) (q_sk (q_mi 3 rfl) q_s0)) | simp)
      have hR197 := (show F_DW_sum_c143 R R2 x4 t0_0 t0_1 t1_0 t1_1 t2_0 t3_0 t3_1 t4_0 t5_0 t5_1 t6_0 t6_1 t7_0 t8_0 t8_1 t9_0 t9_1 t10_0 j64 j58 j50 p116 p142 y132 y133 f134 p166 p192 = (F_DW_sum R R2 x4 t0_0 t0_1 t1_0 t1_1 t2_0 t3_0 t3_1 t4_0 t5_0 t5_1 t6_0 t6_1 t7_0 t8_0 t8_1 t9_0 t9_1 t10_0) from Eq.trans (by rw [e193, ← e177, e170, e169, e168, F_DW_sum_c130.eq_1]) hR171)
      refine lv_aload_n hx hb d_4_5_146 rfl (lv_at hl 2 rfl) ?_
      refine q_get (ci := 5) (j := 2) (v := .ref (q 9)) C0 V i_DW rfl rfl hT0 (by decide) w_214 rfl d_4_5_147 ?_
      refine q_get (ci := 4) (j := 0) (v := .ref (q 10)) C0 V i_Mil rfl rfl hO101 (by decide) w_111 rfl d_4_5_150 ?_
      refine lv_aload_n hx hb d_4_5_153 rfl (lv_at hl 2 rfl) ?_
      refine q_get (ci := 5) (j := 2) (v := .ref (q 9)) C0 V i_DW rfl rfl hT0 (by decide) w_214 rfl d_4_5_154 ?_
      refine q_get (ci := 4) (j := 6) (v := .ref (q 22)) C0 V i_Mil rfl rfl hO101 (by decide) w_126 rfl d_4_5_157 ?_
      refine lv_iload_n hx hb d_4_5_160 rfl (lv_at hl 5 rfl) ?_
      refine q_gov V (q_runV (As := [.ref (q 22), .int x4]) (rest := []) (d := 3) (mc := 0) (ms := 0) (ci := 2) C0 V rfl LV_DW_90 (X_Big_addSigned l D g q u179 10 220 (n_b10 g q) (by decide) 22 220 (n_b22 g q) (by decide) x4 (by decide) hI y132 y133 hO131 f134 hA135 y182 y183 hO181 f184 hA185 ⟨(by have y0 : (220 : Int32).toInt = 220 := rfl; have y1 : (220 : Int32).toInt = 220 := rfl; have t1 : 0 ≤ x4.toInt ∧ x4.toInt ≤ 1 := hzx4; omega), (by have y0 : (220 : Int32).toInt = 220 := rfl; have y1 : (220 : Int32).toInt = 220 := rfl; have t1 : 0 ≤ x4.toInt ∧ x4.toInt ≤ 1 := hzx4; omega)⟩ _) rfl rfl hO131 rfl hl.1 rfl (Nat.le_of_ble_eq_true rfl) ⟨by decide, by decide⟩ ⟨Nat.le_of_ble_eq_true rfl, Nat.le_of_ble_eq_true rfl⟩ d_4_5_161) (fun u202 H locs hp203 V => ?_)
      obtain ⟨hI, hZ9⟩ := hp203
      obtain ⟨hu214, hZ9⟩ := hZ9
      obtain ⟨y205, hZ9⟩ := hZ9
      obtain ⟨y206, hZ9⟩ := hZ9
      obtain ⟨f207, hZ9⟩ := hZ9
      obtain ⟨hO204, hZ9⟩ := hZ9
      obtain ⟨hA208, hZ9⟩ := hZ9
      obtain ⟨b209, hZ9⟩ := hZ9
      obtain ⟨b210, hZ9⟩ := hZ9
      obtain ⟨b211, hZ9⟩ := hZ9
      obtain ⟨b212, hE213⟩ := hZ9
      replace hO204 : u202[10]? = (some (q 10, .inr (2, [.ref (q 11), .int y205, .int y206])) : Option (Nat × va_E)) := hO204
      replace hA208 : u202[11]? = (some (q 11, .inl (g 0, (220 : Int32).toNatClampNeg, .inl f207)) : Option (Nat × va_E)) := hA208
      obtain ⟨p215, e216⟩ : ∃ z, z = (F_Big_addSigned (220 : Int32) (220 : Int32) x4 y132 y133 f134 y182 y183 f184) := ⟨_, rfl⟩
      have e217 : y205 = p215.1 := congrArg (fun z => z.1) (hE213.trans e216.symm)
      have e218 : y206 = p215.2.1 := congrArg (fun z => z.2.1) (hE213.trans e216.symm)
      have e219 : f207 = p215.2.2 := congrArg (fun z => z.2.2) (hE213.trans e216.symm)
      replace b209 : q_F (0 ≤ y205.toInt) := b209
      replace b210 : q_F (0 ≤ y206.toInt) := b210
      replace b211 : q_F (y206.toInt ≤ 1) := b211
      replace b212 : q_F (y205.toInt ≤ 220) := b212
      replace hT0 := (hu214 _ (by decide)).trans hT0
      replace hO181 := (hu214 _ (by decide)).trans hO181
      replace hA185 := (hu214 _ (by decide)).trans hA185
      replace hF := q_uc hF hu214 (by first | exact (q_sk (q_mi 0 rfl) (q_sk (q_mi 1 rfl) q_s0)) | simp)
      have hR220 := (show F_DW_sum_c161 R R2 x4 t0_0 t0_1 t1_0 t1_1 t2_0 t3_0 t3_1 t4_0 t5_0 t5_1 t6_0 t6_1 t7_0 t8_0 t8_1 t9_0 t9_1 t10_0 j64 j58 j50 p116 p142 y132 y133 f134 p166 p192 y182 y183 f184 p215 = (F_DW_sum R R2 x4 t0_0 t0_1 t1_0 t1_1 t2_0 t3_0 t3_1 t4_0 t5_0 t5_1 t6_0 t6_1 t7_0 t8_0 t8_1 t9_0 t9_1 t10_0) from Eq.trans (by rw [e216, e196, e195, e194, F_DW_sum_c143.eq_1]) hR197)
      refine lv_iconst (v := 1) hx hb d_4_5_164 (by decide) ?_
      exact q_retz C0 V (by decide) (⟨hI, hF, j50, t0_1, y205, y206, f207, y182, y183, f184, hT0, hO204, hA208, hO181, hA185, (show 0 ≤ (1 : Int32).toInt from (by have z21 : (1 : Int32).toInt = 1 := rfl; omega)), (show (1 : Int32).toInt ≤ 1 from (by have z21 : (1 : Int32).toInt = 1 := rfl; omega)), (show j50.toInt ≤ 10000 from (by have z21 : (1 : Int32).toInt = 1 := rfl; have t1 : -10000 ≤ t5_0.toInt ∧ t5_0.toInt ≤ 10000 := btt5_0; have t2 : -10000 ≤ t8_0.toInt ∧ t8_0.toInt ≤ 10000 := btt8_0; have t3 : t5_0.toInt ≤ a47.toInt ∧ t8_0.toInt ≤ a47.toInt ∧ (a47.toInt = t5_0.toInt ∨ a47.toInt = t8_0.toInt) := b49; have t4 : j50.toInt = a47.toInt := b52; omega)), (show 0 ≤ y205.toInt from (by have z21 : (1 : Int32).toInt = 1 := rfl; have t1 : 0 ≤ y205.toInt := b209; omega)), (show y205.toInt ≤ 220 from (by have z21 : (1 : Int32).toInt = 1 := rfl; have t1 : y205.toInt ≤ 220 := b212; omega)), (show 0 ≤ y206.toInt from (by have z21 : (1 : Int32).toInt = 1 := rfl; have t1 : 0 ≤ y206.toInt := b210; omega)), (show y206.toInt ≤ 1 from (by have z21 : (1 : Int32).toInt = 1 := rfl; have t1 : y206.toInt ≤ 1 := b211; omega)), (show 0 ≤ y182.toInt from (by have z21 : (1 : Int32).toInt = 1 := rfl; have t1 : 0 ≤ y155.toInt := b159; have t2 : y155.toInt ≤ y182.toInt := b186; omega)), (show y182.toInt ≤ 220 from (by have z21 : (1 : Int32).toInt = 1 := rfl; have t1 : y182.toInt ≤ 220 := b187; omega)), (show 0 ≤ y183.toInt from (by have z21 : (1 : Int32).toInt = 1 := rfl; have t1 : 0 ≤ t9_1.toInt ∧ t9_1.toInt ≤ 1 := btt9_1; have t2 : t9_1.toInt ≤ y156.toInt := b162; have t3 : y156.toInt ≤ y183.toInt := b188; omega)), (show y183.toInt ≤ 1 from (by have z21 : (1 : Int32).toInt = 1 := rfl; have t1 : 0 ≤ t9_1.toInt ∧ t9_1.toInt ≤ 1 := btt9_1; have t2 : y156.toInt ≤ t9_1.toInt := b163; have t3 : y183.toInt ≤ y156.toInt := b189; omega)), (show t5_0.toInt ≤ j50.toInt from (by have z21 : (1 : Int32).toInt = 1 := rfl; have t1 : t5_0.toInt ≤ a47.toInt ∧ t8_0.toInt ≤ a47.toInt ∧ (a47.toInt = t5_0.toInt ∨ a47.toInt = t8_0.toInt) := b49; have t2 : j50.toInt = a47.toInt := b52; omega)), (show t8_0.toInt ≤ j50.toInt from (by have z21 : (1 : Int32).toInt = 1 := rfl; have t1 : t5_0.toInt ≤ a47.toInt ∧ t8_0.toInt ≤ a47.toInt ∧ (a47.toInt = t5_0.toInt ∨ a47.toInt = t8_0.toInt) := b49; have t2 : j50.toInt = a47.toInt := b52; omega)), (show t0_1.toInt ≤ t0_1.toInt from (by have z21 : (1 : Int32).toInt = 1 := rfl; omega)), (show t0_1.toInt ≤ t0_1.toInt from (by have z21 : (1 : Int32).toInt = 1 := rfl; omega)), (show ((1 : Int32), j50, t0_1, y205, y206, f207, y182, y183, f184) = (F_DW_sum R R2 x4 t0_0 t0_1 t1_0 t1_1 t2_0 t3_0 t3_1 t4_0 t5_0 t5_1 t6_0 t6_1 t7_0 t8_0 t8_1 t9_0 t9_1 t10_0) from Eq.trans (by rw [e219, e218, e217, F_DW_sum_c161.eq_1]) hR220)⟩) d_4_5_165
    ·
      intro J95
      refine lv_if_le (tgt := 92) hx hb d_4_5_72 (by decide) (fun c225 => ?_) (fun c225 => ?_)
      ·
        exact J95 (()) _ _ _ w53 ⟨V, q_lw hl (q_lw1 0 rfl (q_lw1 1 rfl (q_lw1 2 rfl (q_lw1 3 rfl (q_lw1 4 rfl (q_lw1 5 rfl q_lw0)))))), (show F_DW_sum_J92 R R2 x4 t0_0 t0_1 t1_0 t1_1 t2_0 t3_0 t3_1 t4_0 t5_0 t5_1 t6_0 t6_1 t7_0 t8_0 t8_1 t9_0 t9_1 t10_0 j64 j58 j50 = (F_DW_sum R R2 x4 t0_0 t0_1 t1_0 t1_1 t2_0 t3_0 t3_1 t4_0 t5_0 t5_1 t6_0 t6_1 t7_0 t8_0 t8_1 t9_0 t9_1 t10_0) from Eq.trans (by rw [F_DW_sum_J65.eq_1, if_pos c225]) hR79)⟩
      ·
        refine lv_aload_n hx hb d_4_5_75 rfl (lv_at hl 4 rfl) ?_
        refine q_get (ci := 3) (j := 2) (v := .int t8_1) C0 V i_Dec rfl rfl hT8 (by decide) w_180 rfl d_4_5_76 ?_
        refine lv_i2l hx hb d_4_5_79 rfl ?_
        obtain ⟨j228, e229⟩ := q_nm (t8_1.toInt64 : Int64)
        refine q_tl (v := j228) e229 ?_
        refine lv_lload hx hb d_4_5_80 (lv_at hl 0 rfl) ?_
        refine lv_ladd hx hb d_4_5_82 ?_
        obtain ⟨j231, e232⟩ := q_nm (j228 + j64 : Int64)
        refine q_tl (v := j231) e232 ?_
        refine q_ldc2 C0 rfl w_1371 d_4_5_83 ?_
        refine W.lcmp hx hb d_4_5_86 ?_
        obtain ⟨a234, e235⟩ := q_nm (lg_cmp j231 1001 : Int32)
        refine q_ti (v := a234) e235 ?_
        refine lv_if_le (tgt := 92) hx hb d_4_5_87 (by decide) (fun c237 => ?_) (fun c237 => ?_)
        ·
          exact J95 (()) _ _ _ w53 ⟨V, q_lw hl (q_lw1 0 rfl (q_lw1 1 rfl (q_lw1 2 rfl (q_lw1 3 rfl (q_lw1 4 rfl (q_lw1 5 rfl q_lw0)))))), (show F_DW_sum_J92 R R2 x4 t0_0 t0_1 t1_0 t1_1 t2_0 t3_0 t3_1 t4_0 t5_0 t5_1 t6_0 t6_1 t7_0 t8_0 t8_1 t9_0 t9_1 t10_0 j64 j58 j50 = (F_DW_sum R R2 x4 t0_0 t0_1 t1_0 t1_1 t2_0 t3_0 t3_1 t4_0 t5_0 t5_1 t6_0 t6_1 t7_0 t8_0 t8_1 t9_0 t9_1 t10_0) from Eq.trans (by have c237x := c237; rw [← e235, ← e232, ← e229] at c237x; rw [F_DW_sum_J65.eq_1, if_neg c225, if_pos c237x]) hR79)⟩
        ·
          refine lv_iconst (v := 0) hx hb d_4_5_90 (by decide) ?_
          exact q_retz C0 V (by decide) (⟨hI, hF, j50, t0_1, t1_0, t1_1, t2_0, t3_0, t3_1, t4_0, hT0, hT1, hT2, hT3, hT4, (show 0 ≤ (0 : Int32).toInt from (by have z21 : (0 : Int32).toInt = 0 := rfl; omega)), (show (0 : Int32).toInt ≤ 1 from (by have z21 : (0 : Int32).toInt = 0 := rfl; omega)), (show j50.toInt ≤ 10000 from (by have z21 : (0 : Int32).toInt = 0 := rfl; have t1 : -10000 ≤ t5_0.toInt ∧ t5_0.toInt ≤ 10000 := btt5_0; have t2 : -10000 ≤ t8_0.toInt ∧ t8_0.toInt ≤ 10000 := btt8_0; have t3 : t5_0.toInt ≤ a47.toInt ∧ t8_0.toInt ≤ a47.toInt ∧ (a47.toInt = t5_0.toInt ∨ a47.toInt = t8_0.toInt) := b49; have t4 : j50.toInt = a47.toInt := b52; omega)), (show 0 ≤ t1_0.toInt from (by have z21 : (0 : Int32).toInt = 0 := rfl; have t1 : 0 ≤ t1_0.toInt ∧ t1_0.toInt ≤ 220 := btt1_0; omega)), (show t1_0.toInt ≤ 220 from (by have z21 : (0 : Int32).toInt = 0 := rfl; have t1 : 0 ≤ t1_0.toInt ∧ t1_0.toInt ≤ 220 := btt1_0; omega)), (show 0 ≤ t1_1.toInt from (by have z21 : (0 : Int32).toInt = 0 := rfl; have t1 : 0 ≤ t1_1.toInt ∧ t1_1.toInt ≤ 1 := btt1_1; omega)), (show t1_1.toInt ≤ 1 from (by have z21 : (0 : Int32).toInt = 0 := rfl; have t1 : 0 ≤ t1_1.toInt ∧ t1_1.toInt ≤ 1 := btt1_1; omega)), (show 0 ≤ t3_0.toInt from (by have z21 : (0 : Int32).toInt = 0 := rfl; have t1 : 0 ≤ t3_0.toInt ∧ t3_0.toInt ≤ 220 := btt3_0; omega)), (show t3_0.toInt ≤ 220 from (by have z21 : (0 : Int32).toInt = 0 := rfl; have t1 : 0 ≤ t3_0.toInt ∧ t3_0.toInt ≤ 220 := btt3_0; omega)), (show 0 ≤ t3_1.toInt from (by have z21 : (0 : Int32).toInt = 0 := rfl; have t1 : 0 ≤ t3_1.toInt ∧ t3_1.toInt ≤ 1 := btt3_1; omega)), (show t3_1.toInt ≤ 1 from (by have z21 : (0 : Int32).toInt = 0 := rfl; have t1 : 0 ≤ t3_1.toInt ∧ t3_1.toInt ≤ 1 := btt3_1; omega)), (show t5_0.toInt ≤ j50.toInt from (by have z21 : (0 : Int32).toInt = 0 := rfl; have t1 : t5_0.toInt ≤ a47.toInt ∧ t8_0.toInt ≤ a47.toInt ∧ (a47.toInt = t5_0.toInt ∨ a47.toInt = t8_0.toInt) := b49; have t2 : j50.toInt = a47.toInt := b52; omega)), (show t8_0.toInt ≤ j50.toInt from (by have z21 : (0 : Int32).toInt = 0 := rfl; have t1 : t5_0.toInt ≤ a47.toInt ∧ t8_0.toInt ≤ a47.toInt ∧ (a47.toInt = t5_0.toInt ∨ a47.toInt = t8_0.toInt) := b49; have t2 : j50.toInt = a47.toInt := b52; omega)), (show t0_1.toInt ≤ t0_1.toInt from (by have z21 : (0 : Int32).toInt = 0 := rfl; omega)), (show t0_1.toInt ≤ t0_1.toInt from (by have z21 : (0 : Int32).toInt = 0 := rfl; omega)), (show ((0 : Int32), j50, t0_1, t1_0, t1_1, t2_0, t3_0, t3_1, t4_0) = (F_DW_sum R R2 x4 t0_0 t0_1 t1_0 t1_1 t2_0 t3_0 t3_1 t4_0 t5_0 t5_1 t6_0 t6_1 t7_0 t8_0 t8_1 t9_0 t9_1 t10_0) from Eq.trans (by have c237x := c237; rw [← e235, ← e232, ← e229] at c237x; rw [F_DW_sum_J65.eq_1, if_neg c225, if_neg c237x]) hR79)⟩) d_4_5_91
  ·
    intro J78
    refine lv_if_le (tgt := 65) hx hb d_4_5_47 (by decide) (fun c240 => ?_) (fun c240 => ?_)
    ·
      exact J78 (()) _ _ _ w53 ⟨V, q_lw hl (q_lw1 0 rfl (q_lw1 1 rfl (q_lw1 2 rfl (q_lw1 3 rfl (q_lw1 4 rfl (q_lw1 5 rfl q_lw0)))))), (show F_DW_sum_J65 R R2 x4 t0_0 t0_1 t1_0 t1_1 t2_0 t3_0 t3_1 t4_0 t5_0 t5_1 t6_0 t6_1 t7_0 t8_0 t8_1 t9_0 t9_1 t10_0 j64 j58 j50 = (F_DW_sum R R2 x4 t0_0 t0_1 t1_0 t1_1 t2_0 t3_0 t3_1 t4_0 t5_0 t5_1 t6_0 t6_1 t7_0 t8_0 t8_1 t9_0 t9_1 t10_0) from (by rw [← e65, ← e62, ← e59, ← e56, ← e51, ← e48, F_DW_sum.eq_1, if_pos c240]))⟩
    ·
      refine lv_aload_n hx hb d_4_5_50 rfl (lv_at hl 3 rfl) ?_
      refine q_get (ci := 3) (j := 2) (v := .int t5_1) C0 V i_Dec rfl rfl hT5 (by decide) w_180 rfl d_4_5_51 ?_
      refine lv_i2l hx hb d_4_5_54 rfl ?_
      obtain ⟨j243, e244⟩ := q_nm (t5_1.toInt64 : Int64)
      refine q_tl (v := j243) e244 ?_
      refine lv_lload hx hb d_4_5_55 (lv_at hl 1 rfl) ?_
      refine lv_ladd hx hb d_4_5_57 ?_
      obtain ⟨j246, e247⟩ := q_nm (j243 + j58 : Int64)
      refine q_tl (v := j246) e247 ?_
      refine q_ldc2 C0 rfl w_1371 d_4_5_58 ?_
      refine W.lcmp hx hb d_4_5_61 ?_
      obtain ⟨a249, e250⟩ := q_nm (lg_cmp j246 1001 : Int32)
      refine q_ti (v := a249) e250 ?_
      refine lv_if_gt (tgt := 90) hx hb d_4_5_62 (by decide) (fun c252 => ?_) (fun c252 => ?_)
      ·
        refine lv_iconst (v := 0) hx hb d_4_5_90 (by decide) ?_
        exact q_retz C0 V (by decide) (⟨hI, hF, j50, t0_1, t1_0, t1_1, t2_0, t3_0, t3_1, t4_0, hT0, hT1, hT2, hT3, hT4, (show 0 ≤ (0 : Int32).toInt from (by have z21 : (0 : Int32).toInt = 0 := rfl; omega)), (show (0 : Int32).toInt ≤ 1 from (by have z21 : (0 : Int32).toInt = 0 := rfl; omega)), (show j50.toInt ≤ 10000 from (by have z21 : (0 : Int32).toInt = 0 := rfl; have t1 : -10000 ≤ t5_0.toInt ∧ t5_0.toInt ≤ 10000 := btt5_0; have t2 : -10000 ≤ t8_0.toInt ∧ t8_0.toInt ≤ 10000 := btt8_0; have t3 : t5_0.toInt ≤ a47.toInt ∧ t8_0.toInt ≤ a47.toInt ∧ (a47.toInt = t5_0.toInt ∨ a47.toInt = t8_0.toInt) := b49; have t4 : j50.toInt = a47.toInt := b52; omega)), (show 0 ≤ t1_0.toInt from (by have z21 : (0 : Int32).toInt = 0 := rfl; have t1 : 0 ≤ t1_0.toInt ∧ t1_0.toInt ≤ 220 := btt1_0; omega)), (show t1_0.toInt ≤ 220 from (by have z21 : (0 : Int32).toInt = 0 := rfl; have t1 : 0 ≤ t1_0.toInt ∧ t1_0.toInt ≤ 220 := btt1_0; omega)), (show 0 ≤ t1_1.toInt from (by have z21 : (0 : Int32).toInt = 0 := rfl; have t1 : 0 ≤ t1_1.toInt ∧ t1_1.toInt ≤ 1 := btt1_1; omega)), (show t1_1.toInt ≤ 1 from (by have z21 : (0 : Int32).toInt = 0 := rfl; have t1 : 0 ≤ t1_1.toInt ∧ t1_1.toInt ≤ 1 := btt1_1; omega)), (show 0 ≤ t3_0.toInt from (by have z21 : (0 : Int32).toInt = 0 := rfl; have t1 : 0 ≤ t3_0.toInt ∧ t3_0.toInt ≤ 220 := btt3_0; omega)), (show t3_0.toInt ≤ 220 from (by have z21 : (0 : Int32).toInt = 0 := rfl; have t1 : 0 ≤ t3_0.toInt ∧ t3_0.toInt ≤ 220 := btt3_0; omega)), (show 0 ≤ t3_1.toInt from (by have z21 : (0 : Int32).toInt = 0 := rfl; have t1 : 0 ≤ t3_1.toInt ∧ t3_1.toInt ≤ 1 := btt3_1; omega)), (show t3_1.toInt ≤ 1 from (by have z21 : (0 : Int32).toInt = 0 := rfl; have t1 : 0 ≤ t3_1.toInt ∧ t3_1.toInt ≤ 1 := btt3_1; omega)), (show t5_0.toInt ≤ j50.toInt from (by have z21 : (0 : Int32).toInt = 0 := rfl; have t1 : t5_0.toInt ≤ a47.toInt ∧ t8_0.toInt ≤ a47.toInt ∧ (a47.toInt = t5_0.toInt ∨ a47.toInt = t8_0.toInt) := b49; have t2 : j50.toInt = a47.toInt := b52; omega)), (show t8_0.toInt ≤ j50.toInt from (by have z21 : (0 : Int32).toInt = 0 := rfl; have t1 : t5_0.toInt ≤ a47.toInt ∧ t8_0.toInt ≤ a47.toInt ∧ (a47.toInt = t5_0.toInt ∨ a47.toInt = t8_0.toInt) := b49; have t2 : j50.toInt = a47.toInt := b52; omega)), (show t0_1.toInt ≤ t0_1.toInt from (by have z21 : (0 : Int32).toInt = 0 := rfl; omega)), (show t0_1.toInt ≤ t0_1.toInt from (by have z21 : (0 : Int32).toInt = 0 := rfl; omega)), (show ((0 : Int32), j50, t0_1, t1_0, t1_1, t2_0, t3_0, t3_1, t4_0) = (F_DW_sum R R2 x4 t0_0 t0_1 t1_0 t1_1 t2_0 t3_0 t3_1 t4_0 t5_0 t5_1 t6_0 t6_1 t7_0 t8_0 t8_1 t9_0 t9_1 t10_0) from (by have c252x := c252; rw [← e250, ← e247, ← e244, ← e59, ← e56, ← e51, ← e48] at c252x; rw [← e51, ← e48, F_DW_sum.eq_1, if_neg c240, if_pos c252x]))⟩) d_4_5_91
      ·
        exact J78 (()) _ _ _ w53 ⟨V, q_lw hl (q_lw1 0 rfl (q_lw1 1 rfl (q_lw1 2 rfl (q_lw1 3 rfl (q_lw1 4 rfl (q_lw1 5 rfl q_lw0)))))), (show F_DW_sum_J65 R R2 x4 t0_0 t0_1 t1_0 t1_1 t2_0 t3_0 t3_1 t4_0 t5_0 t5_1 t6_0 t6_1 t7_0 t8_0 t8_1 t9_0 t9_1 t10_0 j64 j58 j50 = (F_DW_sum R R2 x4 t0_0 t0_1 t1_0 t1_1 t2_0 t3_0 t3_1 t4_0 t5_0 t5_1 t6_0 t6_1 t7_0 t8_0 t8_1 t9_0 t9_1 t10_0) from (by have c252x := c252; rw [← e250, ← e247, ← e244, ← e59, ← e56, ← e51, ← e48] at c252x; rw [← e65, ← e62, ← e59, ← e56, ← e51, ← e48, F_DW_sum.eq_1, if_neg c240, if_neg c252x]))⟩

