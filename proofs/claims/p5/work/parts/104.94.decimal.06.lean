theorem d_15_28_0 : decode prog_15_method_28_code 0 = .ok (.aload_n 0, 1) := by decide +kernel
theorem d_15_28_1 : decode prog_15_method_28_code 1 = .ok (.iload_n 1, 1) := by decide +kernel
theorem d_15_28_2 : decode prog_15_method_28_code 2 = .ok (.invokestatic 113, 3) := by decide +kernel
theorem d_15_28_27 : decode prog_15_method_28_code 27 = .ok (.putfield 41, 3) := by decide +kernel
theorem d_15_28_30 : decode prog_15_method_28_code 30 = .ok (.aload_n 0, 1) := by decide +kernel
theorem d_15_28_31 : decode prog_15_method_28_code 31 = .ok (.getfield 41, 3) := by decide +kernel
theorem d_15_28_34 : decode prog_15_method_28_code 34 = .ok (.ifCond .le 4, 3) := by decide +kernel
theorem d_15_28_38 : decode prog_15_method_28_code 38 = .ok (.aload_n 0, 1) := by decide +kernel
theorem d_15_28_39 : decode prog_15_method_28_code 39 = .ok (.iconst 2, 1) := by decide +kernel
theorem d_15_28_40 : decode prog_15_method_28_code 40 = .ok (.putfield 66, 3) := by decide +kernel
theorem d_15_28_43 : decode prog_15_method_28_code 43 = .ok (.aload_n 0, 1) := by decide +kernel
theorem d_15_28_44 : decode prog_15_method_28_code 44 = .ok (.iload_n 1, 1) := by decide +kernel
theorem d_15_28_45 : decode prog_15_method_28_code 45 = .ok (.invokevirtual 132, 3) := by decide +kernel
set_option maxRecDepth 100000 in
theorem w_2793 : (Cond.code ({ cls := "NumberHouseModel$DecimalRows", name := "load", desc := "(I)V" } : MethodName) prog_15_method_6_code (3 : Nat) (none : Option ClassFile.FieldType)) ∈ q_tbl := q_of12 153 rfl (by decide +kernel)
set_option maxRecDepth 100000 in
theorem w_2790 : (Cond.methodLink "NumberHouseModel$DecimalRows" (132 : Nat) ({ cls := "NumberHouseModel$DecimalRows", name := "load", desc := "(I)V" } : MethodName)) ∈ q_tbl := q_of12 150 rfl (by decide +kernel)
set_option maxRecDepth 100000 in
theorem w_2792 : (Cond.instanceMethod ({ cls := "NumberHouseModel$DecimalRows", name := "load", desc := "(I)V" } : MethodName)) ∈ q_tbl := q_of12 152 rfl (by decide +kernel)
theorem ws_111 : Cond.selects "NumberHouseModel$DecimalRows" (⟨"NumberHouseModel$DecimalRows", "load", "(I)V"⟩ : MethodName) (⟨"NumberHouseModel$DecimalRows", "load", "(I)V"⟩ : MethodName) ∈ q_tbl := q_ofs 111 (by decide +kernel) (by decide +kernel)
theorem LV_DR_132 : q_LV "NumberHouseModel$DecimalRows" 132 y_DR_load prog_15_method_6_code 3 none 1 := ⟨w_2793, w_16, w_2790, w_2792, ws_111, ⟨by decide, by decide, by decide +kernel⟩⟩
theorem d_15_28_48 : decode prog_15_method_28_code 48 = .ok (.aload_n 0, 1) := by decide +kernel
theorem d_15_28_49 : decode prog_15_method_28_code 49 = .ok (.iload_n 2, 1) := by decide +kernel
theorem d_15_28_50 : decode prog_15_method_28_code 50 = .ok (.invokevirtual 135, 3) := by decide +kernel
set_option maxRecDepth 100000 in
theorem w_2797 : (Cond.code ({ cls := "NumberHouseModel$DecimalRows", name := "times", desc := "(I)Z" } : MethodName) prog_15_method_27_code (7 : Nat) (some .boolean)) ∈ q_tbl := q_of12 157 rfl (by decide +kernel)
set_option maxRecDepth 100000 in
theorem w_2794 : (Cond.methodLink "NumberHouseModel$DecimalRows" (135 : Nat) ({ cls := "NumberHouseModel$DecimalRows", name := "times", desc := "(I)Z" } : MethodName)) ∈ q_tbl := q_of12 154 rfl (by decide +kernel)
set_option maxRecDepth 100000 in
theorem w_2796 : (Cond.instanceMethod ({ cls := "NumberHouseModel$DecimalRows", name := "times", desc := "(I)Z" } : MethodName)) ∈ q_tbl := q_of12 156 rfl (by decide +kernel)
theorem ws_112 : Cond.selects "NumberHouseModel$DecimalRows" (⟨"NumberHouseModel$DecimalRows", "times", "(I)Z"⟩ : MethodName) (⟨"NumberHouseModel$DecimalRows", "times", "(I)Z"⟩ : MethodName) ∈ q_tbl := q_ofs 112 (by decide +kernel) (by decide +kernel)
theorem LV_DR_135 : q_LV "NumberHouseModel$DecimalRows" 135 y_DR_times prog_15_method_27_code 7 (some .boolean) 1 := ⟨w_2797, w_16, w_2794, w_2796, ws_112, ⟨by decide, by decide, by decide +kernel⟩⟩
theorem d_15_28_53 : decode prog_15_method_28_code 53 = .ok (.ifCond .eq 11, 3) := by decide +kernel
theorem d_15_28_64 : decode prog_15_method_28_code 64 = .ok (.aload_n 0, 1) := by decide +kernel
theorem d_15_28_65 : decode prog_15_method_28_code 65 = .ok (.iconst 2, 1) := by decide +kernel
theorem d_15_28_66 : decode prog_15_method_28_code 66 = .ok (.putfield 41, 3) := by decide +kernel
theorem d_15_28_69 : decode prog_15_method_28_code 69 = .ok (.return_, 1) := by decide +kernel
theorem d_15_28_56 : decode prog_15_method_28_code 56 = .ok (.aload_n 0, 1) := by decide +kernel
theorem d_15_28_57 : decode prog_15_method_28_code 57 = .ok (.iload_n 3, 1) := by decide +kernel
theorem d_15_28_58 : decode prog_15_method_28_code 58 = .ok (.invokevirtual 89, 3) := by decide +kernel
theorem d_15_28_61 : decode prog_15_method_28_code 61 = .ok (.goto 8, 3) := by decide +kernel
theorem d_15_28_37 : decode prog_15_method_28_code 37 = .ok (.return_, 1) := by decide +kernel
theorem d_15_28_22 : decode prog_15_method_28_code 22 = .ok (.iconst 1, 1) := by decide +kernel
theorem d_15_28_23 : decode prog_15_method_28_code 23 = .ok (.goto 4, 3) := by decide +kernel
theorem d_15_28_5 : decode prog_15_method_28_code 5 = .ok (.ifCond .ne 17, 3) := by decide +kernel
theorem d_15_28_8 : decode prog_15_method_28_code 8 = .ok (.iload_n 2, 1) := by decide +kernel
theorem d_15_28_9 : decode prog_15_method_28_code 9 = .ok (.invokestatic 113, 3) := by decide +kernel
theorem d_15_28_12 : decode prog_15_method_28_code 12 = .ok (.ifCond .ne 10, 3) := by decide +kernel
theorem d_15_28_15 : decode prog_15_method_28_code 15 = .ok (.iload_n 3, 1) := by decide +kernel
theorem d_15_28_16 : decode prog_15_method_28_code 16 = .ok (.invokestatic 113, 3) := by decide +kernel
theorem d_15_28_19 : decode prog_15_method_28_code 19 = .ok (.ifCond .eq 7, 3) := by decide +kernel
theorem d_15_28_26 : decode prog_15_method_28_code 26 = .ok (.iconst 0, 1) := by decide +kernel
def y_DR_multiply : MethodName := ⟨"NumberHouseModel$DecimalRows", "multiply", "(III)V"⟩
def F_DR_multiply_c58 (x2 : Int32) (x3 : Int32) (x4 : Int32) (t0_0 : Int32) (t0_1 : Int32) (t0_2 : Int32) (t0_3 : Int64) (t0_4 : Int32) (t0_5 : Int32) (t0_6 : Int32) (t0_7 : Int32) (t0_8 : Int32) (t0_9 : Int32) (t0_10 : Int32) (t1_0 : (Nat → Int32)) (t2_0 : (Nat → Int32)) (t3_0 : (Nat → Int32)) (t4_0 : (Nat → Int32)) (t5_0 : (Nat → Int32)) (t6_0 : (Nat → Int32)) (lx42 : Int32) (p106 : (Int32 × Int32 × Int32 × Int64 × Int32 × Int32 × Int32 × Int32 × Int32 × Int32 × Int32 × (Nat → Int32))) (p177 : (Int32 × Int32 × Int32 × Int32 × Int64 × Int32 × Int32 × Int32 × Int32 × Int32 × Int32 × Int32 × (Nat → Int32) × (Nat → Int32))) (f143 : (Nat → Int32)) (p252 : (Int32 × Int32 × Int32 × Int64 × Int32 × Int32 × Int32 × Int32 × Int32 × Int32 × Int32 × (Nat → Int32) × (Nat → Int32) × (Nat → Int32) × (Nat → Int32) × (Nat → Int32))) : Int32 × Int32 × Int32 × Int64 × Int32 × Int32 × Int32 × Int32 × Int32 × Int32 × Int32 × (Nat → Int32) × (Nat → Int32) × (Nat → Int32) × (Nat → Int32) × (Nat → Int32) × (Nat → Int32) := ((p252.1 : Int32), (p252.2.1 : Int32), (p252.2.2.1 : Int32), (p252.2.2.2.1 : Int64), (p252.2.2.2.2.1 : Int32), (p252.2.2.2.2.2.1 : Int32), (p252.2.2.2.2.2.2.1 : Int32), (p252.2.2.2.2.2.2.2.1 : Int32), (p252.2.2.2.2.2.2.2.2.1 : Int32), (p252.2.2.2.2.2.2.2.2.2.1 : Int32), (p252.2.2.2.2.2.2.2.2.2.2.1 : Int32), (p252.2.2.2.2.2.2.2.2.2.2.2.1 : (Nat → Int32)), (p252.2.2.2.2.2.2.2.2.2.2.2.2.1 : (Nat → Int32)), (p252.2.2.2.2.2.2.2.2.2.2.2.2.2.1 : (Nat → Int32)), (p252.2.2.2.2.2.2.2.2.2.2.2.2.2.2.1 : (Nat → Int32)), (p252.2.2.2.2.2.2.2.2.2.2.2.2.2.2.2 : (Nat → Int32)), f143)
def F_DR_multiply_c50 (x2 : Int32) (x3 : Int32) (x4 : Int32) (t0_0 : Int32) (t0_1 : Int32) (t0_2 : Int32) (t0_3 : Int64) (t0_4 : Int32) (t0_5 : Int32) (t0_6 : Int32) (t0_7 : Int32) (t0_8 : Int32) (t0_9 : Int32) (t0_10 : Int32) (t1_0 : (Nat → Int32)) (t2_0 : (Nat → Int32)) (t3_0 : (Nat → Int32)) (t4_0 : (Nat → Int32)) (t5_0 : (Nat → Int32)) (t6_0 : (Nat → Int32)) (lx42 : Int32) (p106 : (Int32 × Int32 × Int32 × Int64 × Int32 × Int32 × Int32 × Int32 × Int32 × Int32 × Int32 × (Nat → Int32))) (p177 : (Int32 × Int32 × Int32 × Int32 × Int64 × Int32 × Int32 × Int32 × Int32 × Int32 × Int32 × Int32 × (Nat → Int32) × (Nat → Int32))) : Int32 × Int32 × Int32 × Int64 × Int32 × Int32 × Int32 × Int32 × Int32 × Int32 × Int32 × (Nat → Int32) × (Nat → Int32) × (Nat → Int32) × (Nat → Int32) × (Nat → Int32) × (Nat → Int32) := if (p177.1 : Int32) = (0 : Int32) then (((2 : Int32), (p177.2.2.1 : Int32), (p177.2.2.2.1 : Int32), (p177.2.2.2.2.1 : Int64), (p177.2.2.2.2.2.1 : Int32), (p177.2.2.2.2.2.2.1 : Int32), (p177.2.2.2.2.2.2.2.1 : Int32), (p177.2.2.2.2.2.2.2.2.1 : Int32), (p177.2.2.2.2.2.2.2.2.2.1 : Int32), (p177.2.2.2.2.2.2.2.2.2.2.1 : Int32), (p177.2.2.2.2.2.2.2.2.2.2.2.1 : Int32), t1_0, t2_0, t3_0, t4_0, (p177.2.2.2.2.2.2.2.2.2.2.2.2.1 : (Nat → Int32)), (p177.2.2.2.2.2.2.2.2.2.2.2.2.2 : (Nat → Int32)))) else (F_DR_multiply_c58 x2 x3 x4 t0_0 t0_1 t0_2 t0_3 t0_4 t0_5 t0_6 t0_7 t0_8 t0_9 t0_10 t1_0 t2_0 t3_0 t4_0 t5_0 t6_0 lx42 p106 p177 (p177.2.2.2.2.2.2.2.2.2.2.2.2.2 : (Nat → Int32)) ((F_DR_store x4 (p177.2.1 : Int32) (p177.2.2.1 : Int32) (p177.2.2.2.1 : Int32) (p177.2.2.2.2.1 : Int64) (p177.2.2.2.2.2.1 : Int32) (p177.2.2.2.2.2.2.1 : Int32) (p177.2.2.2.2.2.2.2.1 : Int32) (p177.2.2.2.2.2.2.2.2.1 : Int32) (p177.2.2.2.2.2.2.2.2.2.1 : Int32) (p177.2.2.2.2.2.2.2.2.2.2.1 : Int32) (p177.2.2.2.2.2.2.2.2.2.2.2.1 : Int32) t1_0 t2_0 t3_0 t4_0 (p177.2.2.2.2.2.2.2.2.2.2.2.2.1 : (Nat → Int32))) : (Int32 × Int32 × Int32 × Int64 × Int32 × Int32 × Int32 × Int32 × Int32 × Int32 × Int32 × (Nat → Int32) × (Nat → Int32) × (Nat → Int32) × (Nat → Int32) × (Nat → Int32))))
def F_DR_multiply_c45 (x2 : Int32) (x3 : Int32) (x4 : Int32) (t0_0 : Int32) (t0_1 : Int32) (t0_2 : Int32) (t0_3 : Int64) (t0_4 : Int32) (t0_5 : Int32) (t0_6 : Int32) (t0_7 : Int32) (t0_8 : Int32) (t0_9 : Int32) (t0_10 : Int32) (t1_0 : (Nat → Int32)) (t2_0 : (Nat → Int32)) (t3_0 : (Nat → Int32)) (t4_0 : (Nat → Int32)) (t5_0 : (Nat → Int32)) (t6_0 : (Nat → Int32)) (lx42 : Int32) (p106 : (Int32 × Int32 × Int32 × Int64 × Int32 × Int32 × Int32 × Int32 × Int32 × Int32 × Int32 × (Nat → Int32))) : Int32 × Int32 × Int32 × Int64 × Int32 × Int32 × Int32 × Int32 × Int32 × Int32 × Int32 × (Nat → Int32) × (Nat → Int32) × (Nat → Int32) × (Nat → Int32) × (Nat → Int32) × (Nat → Int32) := F_DR_multiply_c50 x2 x3 x4 t0_0 t0_1 t0_2 t0_3 t0_4 t0_5 t0_6 t0_7 t0_8 t0_9 t0_10 t1_0 t2_0 t3_0 t4_0 t5_0 t6_0 lx42 p106 ((F_DR_times x3 (p106.1 : Int32) (p106.2.1 : Int32) (p106.2.2.1 : Int32) (p106.2.2.2.1 : Int64) (p106.2.2.2.2.1 : Int32) (p106.2.2.2.2.2.1 : Int32) (p106.2.2.2.2.2.2.1 : Int32) (p106.2.2.2.2.2.2.2.1 : Int32) (p106.2.2.2.2.2.2.2.2.1 : Int32) (p106.2.2.2.2.2.2.2.2.2.1 : Int32) (p106.2.2.2.2.2.2.2.2.2.2.1 : Int32) t1_0 t2_0 t3_0 t4_0 (p106.2.2.2.2.2.2.2.2.2.2.2 : (Nat → Int32)) t6_0) : (Int32 × Int32 × Int32 × Int32 × Int64 × Int32 × Int32 × Int32 × Int32 × Int32 × Int32 × Int32 × (Nat → Int32) × (Nat → Int32)))
def F_DR_multiply_J27 (x2 : Int32) (x3 : Int32) (x4 : Int32) (t0_0 : Int32) (t0_1 : Int32) (t0_2 : Int32) (t0_3 : Int64) (t0_4 : Int32) (t0_5 : Int32) (t0_6 : Int32) (t0_7 : Int32) (t0_8 : Int32) (t0_9 : Int32) (t0_10 : Int32) (t1_0 : (Nat → Int32)) (t2_0 : (Nat → Int32)) (t3_0 : (Nat → Int32)) (t4_0 : (Nat → Int32)) (t5_0 : (Nat → Int32)) (t6_0 : (Nat → Int32)) (lx42 : Int32) : Int32 × Int32 × Int32 × Int64 × Int32 × Int32 × Int32 × Int32 × Int32 × Int32 × Int32 × (Nat → Int32) × (Nat → Int32) × (Nat → Int32) × (Nat → Int32) × (Nat → Int32) × (Nat → Int32) := if lx42 ≤ (0 : Int32) then (F_DR_multiply_c45 x2 x3 x4 t0_0 t0_1 t0_2 t0_3 t0_4 t0_5 t0_6 t0_7 t0_8 t0_9 t0_10 t1_0 t2_0 t3_0 t4_0 t5_0 t6_0 lx42 ((F_DR_load x2 lx42 t0_1 t0_2 t0_3 t0_4 t0_5 t0_6 t0_7 t0_8 t0_9 (2 : Int32) t1_0 t2_0 t3_0 t4_0 t5_0) : (Int32 × Int32 × Int32 × Int64 × Int32 × Int32 × Int32 × Int32 × Int32 × Int32 × Int32 × (Nat → Int32)))) else ((lx42, t0_1, t0_2, t0_3, t0_4, t0_5, t0_6, t0_7, t0_8, t0_9, t0_10, t1_0, t2_0, t3_0, t4_0, t5_0, t6_0))
def F_DR_multiply_J22 (x2 : Int32) (x3 : Int32) (x4 : Int32) (t0_0 : Int32) (t0_1 : Int32) (t0_2 : Int32) (t0_3 : Int64) (t0_4 : Int32) (t0_5 : Int32) (t0_6 : Int32) (t0_7 : Int32) (t0_8 : Int32) (t0_9 : Int32) (t0_10 : Int32) (t1_0 : (Nat → Int32)) (t2_0 : (Nat → Int32)) (t3_0 : (Nat → Int32)) (t4_0 : (Nat → Int32)) (t5_0 : (Nat → Int32)) (t6_0 : (Nat → Int32)) : Int32 × Int32 × Int32 × Int64 × Int32 × Int32 × Int32 × Int32 × Int32 × Int32 × Int32 × (Nat → Int32) × (Nat → Int32) × (Nat → Int32) × (Nat → Int32) × (Nat → Int32) × (Nat → Int32) := F_DR_multiply_J27 x2 x3 x4 t0_0 t0_1 t0_2 t0_3 t0_4 t0_5 t0_6 t0_7 t0_8 t0_9 t0_10 t1_0 t2_0 t3_0 t4_0 t5_0 t6_0 1
def F_DR_multiply (x2 : Int32) (x3 : Int32) (x4 : Int32) (t0_0 : Int32) (t0_1 : Int32) (t0_2 : Int32) (t0_3 : Int64) (t0_4 : Int32) (t0_5 : Int32) (t0_6 : Int32) (t0_7 : Int32) (t0_8 : Int32) (t0_9 : Int32) (t0_10 : Int32) (t1_0 : (Nat → Int32)) (t2_0 : (Nat → Int32)) (t3_0 : (Nat → Int32)) (t4_0 : (Nat → Int32)) (t5_0 : (Nat → Int32)) (t6_0 : (Nat → Int32)) : Int32 × Int32 × Int32 × Int64 × Int32 × Int32 × Int32 × Int32 × Int32 × Int32 × Int32 × (Nat → Int32) × (Nat → Int32) × (Nat → Int32) × (Nat → Int32) × (Nat → Int32) × (Nat → Int32) := if ((F_DR_no x2) : Int32) = (0 : Int32) then (if ((F_DR_no x3) : Int32) = (0 : Int32) then (if ((F_DR_no x4) : Int32) = (0 : Int32) then (F_DR_multiply_J27 x2 x3 x4 t0_0 t0_1 t0_2 t0_3 t0_4 t0_5 t0_6 t0_7 t0_8 t0_9 t0_10 t1_0 t2_0 t3_0 t4_0 t5_0 t6_0 0) else (F_DR_multiply_J22 x2 x3 x4 t0_0 t0_1 t0_2 t0_3 t0_4 t0_5 t0_6 t0_7 t0_8 t0_9 t0_10 t1_0 t2_0 t3_0 t4_0 t5_0 t6_0)) else (F_DR_multiply_J22 x2 x3 x4 t0_0 t0_1 t0_2 t0_3 t0_4 t0_5 t0_6 t0_7 t0_8 t0_9 t0_10 t1_0 t2_0 t3_0 t4_0 t5_0 t6_0)) else (F_DR_multiply_J22 x2 x3 x4 t0_0 t0_1 t0_2 t0_3 t0_4 t0_5 t0_6 t0_7 t0_8 t0_9 t0_10 t1_0 t2_0 t3_0 t4_0 t5_0 t6_0)
def S_DR_multiply_c58 (x2 : Int32) (x3 : Int32) (x4 : Int32) (t0_0 : Int32) (t0_1 : Int32) (t0_2 : Int32) (t0_3 : Int64) (t0_4 : Int32) (t0_5 : Int32) (t0_6 : Int32) (t0_7 : Int32) (t0_8 : Int32) (t0_9 : Int32) (t0_10 : Int32) (t1_0 : (Nat → Int32)) (t2_0 : (Nat → Int32)) (t3_0 : (Nat → Int32)) (t4_0 : (Nat → Int32)) (t5_0 : (Nat → Int32)) (t6_0 : (Nat → Int32)) (lx42 : Int32) (p106 : (Int32 × Int32 × Int32 × Int64 × Int32 × Int32 × Int32 × Int32 × Int32 × Int32 × Int32 × (Nat → Int32))) (p177 : (Int32 × Int32 × Int32 × Int32 × Int64 × Int32 × Int32 × Int32 × Int32 × Int32 × Int32 × Int32 × (Nat → Int32) × (Nat → Int32))) (f143 : (Nat → Int32)) (p252 : (Int32 × Int32 × Int32 × Int64 × Int32 × Int32 × Int32 × Int32 × Int32 × Int32 × Int32 × (Nat → Int32) × (Nat → Int32) × (Nat → Int32) × (Nat → Int32) × (Nat → Int32))) : Prop := True
def S_DR_multiply_c50 (x2 : Int32) (x3 : Int32) (x4 : Int32) (t0_0 : Int32) (t0_1 : Int32) (t0_2 : Int32) (t0_3 : Int64) (t0_4 : Int32) (t0_5 : Int32) (t0_6 : Int32) (t0_7 : Int32) (t0_8 : Int32) (t0_9 : Int32) (t0_10 : Int32) (t1_0 : (Nat → Int32)) (t2_0 : (Nat → Int32)) (t3_0 : (Nat → Int32)) (t4_0 : (Nat → Int32)) (t5_0 : (Nat → Int32)) (t6_0 : (Nat → Int32)) (lx42 : Int32) (p106 : (Int32 × Int32 × Int32 × Int64 × Int32 × Int32 × Int32 × Int32 × Int32 × Int32 × Int32 × (Nat → Int32))) (p177 : (Int32 × Int32 × Int32 × Int32 × Int64 × Int32 × Int32 × Int32 × Int32 × Int32 × Int32 × Int32 × (Nat → Int32) × (Nat → Int32))) : Prop := if (p177.1 : Int32) = (0 : Int32) then (True) else ((True ∧ S_DR_store x4 (p177.2.1 : Int32) (p177.2.2.1 : Int32) (p177.2.2.2.1 : Int32) (p177.2.2.2.2.1 : Int64) (p177.2.2.2.2.2.1 : Int32) (p177.2.2.2.2.2.2.1 : Int32) (p177.2.2.2.2.2.2.2.1 : Int32) (p177.2.2.2.2.2.2.2.2.1 : Int32) (p177.2.2.2.2.2.2.2.2.2.1 : Int32) (p177.2.2.2.2.2.2.2.2.2.2.1 : Int32) (p177.2.2.2.2.2.2.2.2.2.2.2.1 : Int32) t1_0 t2_0 t3_0 t4_0 (p177.2.2.2.2.2.2.2.2.2.2.2.2.1 : (Nat → Int32))) ∧ (S_DR_multiply_c58 x2 x3 x4 t0_0 t0_1 t0_2 t0_3 t0_4 t0_5 t0_6 t0_7 t0_8 t0_9 t0_10 t1_0 t2_0 t3_0 t4_0 t5_0 t6_0 lx42 p106 p177 (p177.2.2.2.2.2.2.2.2.2.2.2.2.2 : (Nat → Int32)) ((F_DR_store x4 (p177.2.1 : Int32) (p177.2.2.1 : Int32) (p177.2.2.2.1 : Int32) (p177.2.2.2.2.1 : Int64) (p177.2.2.2.2.2.1 : Int32) (p177.2.2.2.2.2.2.1 : Int32) (p177.2.2.2.2.2.2.2.1 : Int32) (p177.2.2.2.2.2.2.2.2.1 : Int32) (p177.2.2.2.2.2.2.2.2.2.1 : Int32) (p177.2.2.2.2.2.2.2.2.2.2.1 : Int32) (p177.2.2.2.2.2.2.2.2.2.2.2.1 : Int32) t1_0 t2_0 t3_0 t4_0 (p177.2.2.2.2.2.2.2.2.2.2.2.2.1 : (Nat → Int32))) : (Int32 × Int32 × Int32 × Int64 × Int32 × Int32 × Int32 × Int32 × Int32 × Int32 × Int32 × (Nat → Int32) × (Nat → Int32) × (Nat → Int32) × (Nat → Int32) × (Nat → Int32)))))
def S_DR_multiply_c45 (x2 : Int32) (x3 : Int32) (x4 : Int32) (t0_0 : Int32) (t0_1 : Int32) (t0_2 : Int32) (t0_3 : Int64) (t0_4 : Int32) (t0_5 : Int32) (t0_6 : Int32) (t0_7 : Int32) (t0_8 : Int32) (t0_9 : Int32) (t0_10 : Int32) (t1_0 : (Nat → Int32)) (t2_0 : (Nat → Int32)) (t3_0 : (Nat → Int32)) (t4_0 : (Nat → Int32)) (t5_0 : (Nat → Int32)) (t6_0 : (Nat → Int32)) (lx42 : Int32) (p106 : (Int32 × Int32 × Int32 × Int64 × Int32 × Int32 × Int32 × Int32 × Int32 × Int32 × Int32 × (Nat → Int32))) : Prop := (True ∧ S_DR_times x3 (p106.1 : Int32) (p106.2.1 : Int32) (p106.2.2.1 : Int32) (p106.2.2.2.1 : Int64) (p106.2.2.2.2.1 : Int32) (p106.2.2.2.2.2.1 : Int32) (p106.2.2.2.2.2.2.1 : Int32) (p106.2.2.2.2.2.2.2.1 : Int32) (p106.2.2.2.2.2.2.2.2.1 : Int32) (p106.2.2.2.2.2.2.2.2.2.1 : Int32) (p106.2.2.2.2.2.2.2.2.2.2.1 : Int32) t1_0 t2_0 t3_0 t4_0 (p106.2.2.2.2.2.2.2.2.2.2.2 : (Nat → Int32)) t6_0) ∧ (S_DR_multiply_c50 x2 x3 x4 t0_0 t0_1 t0_2 t0_3 t0_4 t0_5 t0_6 t0_7 t0_8 t0_9 t0_10 t1_0 t2_0 t3_0 t4_0 t5_0 t6_0 lx42 p106 ((F_DR_times x3 (p106.1 : Int32) (p106.2.1 : Int32) (p106.2.2.1 : Int32) (p106.2.2.2.1 : Int64) (p106.2.2.2.2.1 : Int32) (p106.2.2.2.2.2.1 : Int32) (p106.2.2.2.2.2.2.1 : Int32) (p106.2.2.2.2.2.2.2.1 : Int32) (p106.2.2.2.2.2.2.2.2.1 : Int32) (p106.2.2.2.2.2.2.2.2.2.1 : Int32) (p106.2.2.2.2.2.2.2.2.2.2.1 : Int32) t1_0 t2_0 t3_0 t4_0 (p106.2.2.2.2.2.2.2.2.2.2.2 : (Nat → Int32)) t6_0) : (Int32 × Int32 × Int32 × Int32 × Int64 × Int32 × Int32 × Int32 × Int32 × Int32 × Int32 × Int32 × (Nat → Int32) × (Nat → Int32))))
def S_DR_multiply_J27 (x2 : Int32) (x3 : Int32) (x4 : Int32) (t0_0 : Int32) (t0_1 : Int32) (t0_2 : Int32) (t0_3 : Int64) (t0_4 : Int32) (t0_5 : Int32) (t0_6 : Int32) (t0_7 : Int32) (t0_8 : Int32) (t0_9 : Int32) (t0_10 : Int32) (t1_0 : (Nat → Int32)) (t2_0 : (Nat → Int32)) (t3_0 : (Nat → Int32)) (t4_0 : (Nat → Int32)) (t5_0 : (Nat → Int32)) (t6_0 : (Nat → Int32)) (lx42 : Int32) : Prop := if lx42 ≤ (0 : Int32) then ((True ∧ S_DR_load x2 lx42 t0_1 t0_2 t0_3 t0_4 t0_5 t0_6 t0_7 t0_8 t0_9 (2 : Int32) t1_0 t2_0 t3_0 t4_0 t5_0) ∧ (S_DR_multiply_c45 x2 x3 x4 t0_0 t0_1 t0_2 t0_3 t0_4 t0_5 t0_6 t0_7 t0_8 t0_9 t0_10 t1_0 t2_0 t3_0 t4_0 t5_0 t6_0 lx42 ((F_DR_load x2 lx42 t0_1 t0_2 t0_3 t0_4 t0_5 t0_6 t0_7 t0_8 t0_9 (2 : Int32) t1_0 t2_0 t3_0 t4_0 t5_0) : (Int32 × Int32 × Int32 × Int64 × Int32 × Int32 × Int32 × Int32 × Int32 × Int32 × Int32 × (Nat → Int32))))) else (True)
def S_DR_multiply_J22 (x2 : Int32) (x3 : Int32) (x4 : Int32) (t0_0 : Int32) (t0_1 : Int32) (t0_2 : Int32) (t0_3 : Int64) (t0_4 : Int32) (t0_5 : Int32) (t0_6 : Int32) (t0_7 : Int32) (t0_8 : Int32) (t0_9 : Int32) (t0_10 : Int32) (t1_0 : (Nat → Int32)) (t2_0 : (Nat → Int32)) (t3_0 : (Nat → Int32)) (t4_0 : (Nat → Int32)) (t5_0 : (Nat → Int32)) (t6_0 : (Nat → Int32)) : Prop := S_DR_multiply_J27 x2 x3 x4 t0_0 t0_1 t0_2 t0_3 t0_4 t0_5 t0_6 t0_7 t0_8 t0_9 t0_10 t1_0 t2_0 t3_0 t4_0 t5_0 t6_0 1
def S_DR_multiply (x2 : Int32) (x3 : Int32) (x4 : Int32) (t0_0 : Int32) (t0_1 : Int32) (t0_2 : Int32) (t0_3 : Int64) (t0_4 : Int32) (t0_5 : Int32) (t0_6 : Int32) (t0_7 : Int32) (t0_8 : Int32) (t0_9 : Int32) (t0_10 : Int32) (t1_0 : (Nat → Int32)) (t2_0 : (Nat → Int32)) (t3_0 : (Nat → Int32)) (t4_0 : (Nat → Int32)) (t5_0 : (Nat → Int32)) (t6_0 : (Nat → Int32)) : Prop := if ((F_DR_no x2) : Int32) = (0 : Int32) then (if ((F_DR_no x3) : Int32) = (0 : Int32) then (if ((F_DR_no x4) : Int32) = (0 : Int32) then (S_DR_multiply_J27 x2 x3 x4 t0_0 t0_1 t0_2 t0_3 t0_4 t0_5 t0_6 t0_7 t0_8 t0_9 t0_10 t1_0 t2_0 t3_0 t4_0 t5_0 t6_0 0) else (S_DR_multiply_J22 x2 x3 x4 t0_0 t0_1 t0_2 t0_3 t0_4 t0_5 t0_6 t0_7 t0_8 t0_9 t0_10 t1_0 t2_0 t3_0 t4_0 t5_0 t6_0)) else (S_DR_multiply_J22 x2 x3 x4 t0_0 t0_1 t0_2 t0_3 t0_4 t0_5 t0_6 t0_7 t0_8 t0_9 t0_10 t1_0 t2_0 t3_0 t4_0 t5_0 t6_0)) else (S_DR_multiply_J22 x2 x3 x4 t0_0 t0_1 t0_2 t0_3 t0_4 t0_5 t0_6 t0_7 t0_8 t0_9 t0_10 t1_0 t2_0 t3_0 t4_0 t5_0 t6_0)
set_option maxRecDepth 100000 in
set_option maxHeartbeats 4000000 in
theorem X_DR_multiply (l : Launch) (D : va_G) (g : Nat → ClassId) (q : Nat → Nat) (ws : va_W) (x2 : Int32) (x3 : Int32) (x4 : Int32) (hI : q_I (msh g q) q ws) (t0_0 : Int32) (t0_1 : Int32) (t0_2 : Int32) (t0_3 : Int64) (t0_4 : Int32) (t0_5 : Int32) (t0_6 : Int32) (t0_7 : Int32) (t0_8 : Int32) (t0_9 : Int32) (t0_10 : Int32) (hT0 : ws[134]? = (some (q 134, .inr (14, [.int t0_0, .ref (q 135), .int t0_1, .ref (q 136), .ref (q 137), .ref (q 138), .ref (q 139), .ref (q 140), .int t0_2, .long t0_3, .int t0_4, .int t0_5, .ref (q 141), .int t0_6, .ref (q 142), .int t0_7, .ref (q 143), .int t0_8, .ref (q 144), .int t0_9, .int t0_10])) : Option (Nat × va_E))) (t1_0 : (Nat → Int32)) (hT1 : ws[136]? = (some (q 136, .inl (g 0, (10000 : Int32).toNatClampNeg, .inl t1_0)) : Option (Nat × va_E))) (t2_0 : (Nat → Int32)) (hT2 : ws[137]? = (some (q 137, .inl (g 0, (10 : Int32).toNatClampNeg, .inl t2_0)) : Option (Nat × va_E))) (t3_0 : (Nat → Int32)) (hT3 : ws[138]? = (some (q 138, .inl (g 3, 10, .inl t3_0)) : Option (Nat × va_E))) (t4_0 : (Nat → Int32)) (hT4 : ws[139]? = (some (q 139, .inl (g 0, (10 : Int32).toNatClampNeg, .inl t4_0)) : Option (Nat × va_E))) (t5_0 : (Nat → Int32)) (hT5 : ws[140]? = (some (q 140, .inl (g 0, (4400 : Int32).toNatClampNeg, .inl t5_0)) : Option (Nat × va_E))) (t6_0 : (Nat → Int32)) (hT6 : ws[141]? = (some (q 141, .inl (g 0, (4400 : Int32).toNatClampNeg, .inl t6_0)) : Option (Nat × va_E))) (hS : True ∧ S_DR_multiply x2 x3 x4 t0_0 t0_1 t0_2 t0_3 t0_4 t0_5 t0_6 t0_7 t0_8 t0_9 t0_10 t1_0 t2_0 t3_0 t4_0 t5_0 t6_0) : q_mV l y_DR_multiply prog_15_method_28_code 4 3 0 0 D g [.ref (q 134), .int x2, .int x3, .int x4] ws (fun u => q_I (msh g q) q u ∧ q_un ws u [134, 136, 137, 138, 139, 140, 141] ∧ ∃ (u0_0 : Int32) (u0_1 : Int32) (u0_2 : Int32) (u0_3 : Int64) (u0_4 : Int32) (u0_5 : Int32) (u0_6 : Int32) (u0_7 : Int32) (u0_8 : Int32) (u0_9 : Int32) (u0_10 : Int32) (u1_0 : (Nat → Int32)) (u2_0 : (Nat → Int32)) (u3_0 : (Nat → Int32)) (u4_0 : (Nat → Int32)) (u5_0 : (Nat → Int32)) (u6_0 : (Nat → Int32)), u[134]? = (some (q 134, .inr (14, [.int u0_0, .ref (q 135), .int u0_1, .ref (q 136), .ref (q 137), .ref (q 138), .ref (q 139), .ref (q 140), .int u0_2, .long u0_3, .int u0_4, .int u0_5, .ref (q 141), .int u0_6, .ref (q 142), .int u0_7, .ref (q 143), .int u0_8, .ref (q 144), .int u0_9, .int u0_10])) : Option (Nat × va_E)) ∧ u[136]? = (some (q 136, .inl (g 0, (10000 : Int32).toNatClampNeg, .inl u1_0)) : Option (Nat × va_E)) ∧ u[137]? = (some (q 137, .inl (g 0, (10 : Int32).toNatClampNeg, .inl u2_0)) : Option (Nat × va_E)) ∧ u[138]? = (some (q 138, .inl (g 3, 10, .inl u3_0)) : Option (Nat × va_E)) ∧ u[139]? = (some (q 139, .inl (g 0, (10 : Int32).toNatClampNeg, .inl u4_0)) : Option (Nat × va_E)) ∧ u[140]? = (some (q 140, .inl (g 0, (4400 : Int32).toNatClampNeg, .inl u5_0)) : Option (Nat × va_E)) ∧ u[141]? = (some (q 141, .inl (g 0, (4400 : Int32).toNatClampNeg, .inl u6_0)) : Option (Nat × va_E)) ∧ (0 ≤ u0_4.toInt) ∧ (0 ≤ u0_5.toInt) ∧ (u0_5.toInt ≤ 1) ∧ (t0_1.toInt ≤ u0_1.toInt) ∧ (u0_1.toInt ≤ t0_1.toInt) ∧ (u0_4.toInt ≤ t0_4.toInt) ∧ (t0_6.toInt ≤ u0_6.toInt) ∧ (u0_6.toInt ≤ t0_6.toInt) ∧ (t0_7.toInt ≤ u0_7.toInt) ∧ (u0_7.toInt ≤ t0_7.toInt) ∧ (t0_8.toInt ≤ u0_8.toInt) ∧ (u0_8.toInt ≤ t0_8.toInt) ∧ (t0_9.toInt ≤ u0_9.toInt) ∧ (u0_9.toInt ≤ t0_9.toInt) ∧ (u0_0, u0_1, u0_2, u0_3, u0_4, u0_5, u0_6, u0_7, u0_8, u0_9, u0_10, u1_0, u2_0, u3_0, u4_0, u5_0, u6_0) = (F_DR_multiply x2 x3 x4 t0_0 t0_1 t0_2 t0_3 t0_4 t0_5 t0_6 t0_7 t0_8 t0_9 t0_10 t1_0 t2_0 t3_0 t4_0 t5_0 t6_0)) := by
  intro sz
  refine q_into (by decide) (Nat.le_of_ble_eq_true rfl) ?_
  intro p e s m below meth c ls hsz C0 V hl
  have hx := C0.1
  have hb := C0.2.1
  obtain ⟨btt0_1, hZ9⟩ := n_w134 hI hT0
  obtain ⟨btt0_4, hZ9⟩ := hZ9
  obtain ⟨btt0_5, btt0_9⟩ := hZ9
  replace btt0_1 : q_F (0 ≤ t0_1.toInt ∧ t0_1.toInt ≤ 4100) := btt0_1
  replace btt0_4 : q_F (0 ≤ t0_4.toInt ∧ t0_4.toInt ≤ 1) := btt0_4
  replace btt0_5 : q_F (0 ≤ t0_5.toInt ∧ t0_5.toInt ≤ 1) := btt0_5
  replace btt0_9 : q_F (0 ≤ t0_9.toInt ∧ t0_9.toInt ≤ 12200) := btt0_9
  have hF : q_un ws ws [134, 136, 137, 138, 139, 140, 141] := q_u0
  have hl : lv_has ls 4 [(0, .ref (q 134)), (1, .int x2), (2, .int x3), (3, .int x4)] := hl
  refine lv_aload_n hx hb d_15_28_0 rfl (lv_at hl 0 rfl) ?_
  refine lv_iload_n hx hb d_15_28_1 rfl (lv_at hl 1 rfl) ?_
  refine q_goi V (q_runS (As := [.int x2]) (rest := [.ref (q 134)]) (d := 1) (mc := 0) (ms := 0) C0 V rfl LS_DR_113 (X_DR_no l D g q ws  x2 hI   _) rfl hl.1 rfl (Nat.le_of_ble_eq_true rfl) ⟨by decide, by decide⟩ ⟨Nat.le_of_ble_eq_true rfl, Nat.le_of_ble_eq_true rfl⟩ d_15_28_2) (fun a37 u35 H locs hp36 V => ?_)
  obtain ⟨rfl, b38, b39, hE40⟩ := hp36
  have e41 : a37 = (F_DR_no x2) := hE40
  clear b38
  clear b39
  refine q_join (X := Int32) (fun z H locs ls _ => q_F (0 ≤ z.toInt) ∧ q_F (z.toInt ≤ 1) ∧ q_Wd D g (va_A ws sz) s ws H locs ∧ lv_has ls 4 [(0, .ref (q 134)), (1, .int x2), (2, .int x3), (3, .int x4)] ∧ F_DR_multiply_J27 x2 x3 x4 t0_0 t0_1 t0_2 t0_3 t0_4 t0_5 t0_6 t0_7 t0_8 t0_9 t0_10 t1_0 t2_0 t3_0 t4_0 t5_0 t6_0 z = (F_DR_multiply x2 x3 x4 t0_0 t0_1 t0_2 t0_3 t0_4 t0_5 t0_6 t0_7 t0_8 t0_9 t0_10 t1_0 t2_0 t3_0 t4_0 t5_0 t6_0) ∧ True ∧ S_DR_multiply_J27 x2 x3 x4 t0_0 t0_1 t0_2 t0_3 t0_4 t0_5 t0_6 t0_7 t0_8 t0_9 t0_10 t1_0 t2_0 t3_0 t4_0 t5_0 t6_0 z) (fun z => [.int z, .ref (q 134)]) 27 0 0 ?_ ?_
  ·
    rintro lx42 H locs ls _ hZ9
    replace hZ9 := hZ9.2.2
    obtain ⟨V, hZ9⟩ := hZ9
    obtain ⟨hl, hZ9⟩ := hZ9
    obtain ⟨hR53, hS54⟩ := hZ9
    replace hl : lv_has ls 4 [(0, .ref (q 134)), (1, .int x2), (2, .int x3), (3, .int x4)] := hl
    refine q_put (ci := 14) (j := 0) (v := .int lx42) (ty := .int) C0 V i_DR o_DR n_DR rfl rfl hT0 (by decide) w_1996 rfl rfl rfl rfl (Nat.le_of_ble_eq_true rfl) d_15_28_27 (fun H locs w58 hu59 hT0 V => ?_)
    replace hT0 : w58[134]? = (some (q 134, .inr (14, [.int lx42, .ref (q 135), .int t0_1, .ref (q 136), .ref (q 137), .ref (q 138), .ref (q 139), .ref (q 140), .int t0_2, .long t0_3, .int t0_4, .int t0_5, .ref (q 141), .int t0_6, .ref (q 142), .int t0_7, .ref (q 143), .int t0_8, .ref (q 144), .int t0_9, .int t0_10])) : Option (Nat × va_E)) := hT0
    replace hI := n_p134 hI hu59 hT0 (by first | with_reducible exact q_fe btt0_1 | exact ⟨(by have t1 : 0 ≤ t0_1.toInt ∧ t0_1.toInt ≤ 4100 := btt0_1; omega), (by have t1 : 0 ≤ t0_1.toInt ∧ t0_1.toInt ≤ 4100 := btt0_1; omega)⟩) (by first | with_reducible exact q_fe btt0_4 | exact ⟨(by have t1 : 0 ≤ t0_4.toInt ∧ t0_4.toInt ≤ 1 := btt0_4; omega), (by have t1 : 0 ≤ t0_4.toInt ∧ t0_4.toInt ≤ 1 := btt0_4; omega)⟩) (by first | with_reducible exact q_fe btt0_5 | exact ⟨(by have t1 : 0 ≤ t0_5.toInt ∧ t0_5.toInt ≤ 1 := btt0_5; omega), (by have t1 : 0 ≤ t0_5.toInt ∧ t0_5.toInt ≤ 1 := btt0_5; omega)⟩) (by first | with_reducible exact q_fe btt0_9 | exact ⟨(by have t1 : 0 ≤ t0_9.toInt ∧ t0_9.toInt ≤ 12200 := btt0_9; omega), (by have t1 : 0 ≤ t0_9.toInt ∧ t0_9.toInt ≤ 12200 := btt0_9; omega)⟩)
    replace hT1 := (hu59 _ (by decide)).trans hT1
    replace hT2 := (hu59 _ (by decide)).trans hT2
    replace hT3 := (hu59 _ (by decide)).trans hT3
    replace hT4 := (hu59 _ (by decide)).trans hT4
    replace hT5 := (hu59 _ (by decide)).trans hT5
    replace hT6 := (hu59 _ (by decide)).trans hT6
    replace hF := q_us hF hu59 (by simp)
    refine lv_aload_n hx hb d_15_28_30 rfl (lv_at hl 0 rfl) ?_
    refine q_get (ci := 14) (j := 0) (v := .int lx42) C0 V i_DR rfl rfl hT0 (by decide) w_1996 rfl d_15_28_31 ?_
    refine lv_if_le (tgt := 38) hx hb d_15_28_34 (by decide) (fun c60 => ?_) (fun c60 => ?_)
    ·
      refine lv_aload_n hx hb d_15_28_38 rfl (lv_at hl 0 rfl) ?_
      refine lv_iconst (v := 2) hx hb d_15_28_39 (by decide) ?_
      refine q_put (ci := 14) (j := 20) (v := .int 2) (ty := .int) C0 V i_DR o_DR n_DR rfl rfl hT0 (by decide) w_2024 rfl rfl rfl rfl (Nat.le_of_ble_eq_true rfl) d_15_28_40 (fun H locs w62 hu63 hT0 V => ?_)
      replace hT0 : w62[134]? = (some (q 134, .inr (14, [.int lx42, .ref (q 135), .int t0_1, .ref (q 136), .ref (q 137), .ref (q 138), .ref (q 139), .ref (q 140), .int t0_2, .long t0_3, .int t0_4, .int t0_5, .ref (q 141), .int t0_6, .ref (q 142), .int t0_7, .ref (q 143), .int t0_8, .ref (q 144), .int t0_9, .int 2])) : Option (Nat × va_E)) := hT0
      replace hI := n_p134 hI hu63 hT0 (by first | with_reducible exact q_fe btt0_1 | exact ⟨(by have t1 : 0 ≤ t0_1.toInt ∧ t0_1.toInt ≤ 4100 := btt0_1; omega), (by have t1 : 0 ≤ t0_1.toInt ∧ t0_1.toInt ≤ 4100 := btt0_1; omega)⟩) (by first | with_reducible exact q_fe btt0_4 | exact ⟨(by have t1 : 0 ≤ t0_4.toInt ∧ t0_4.toInt ≤ 1 := btt0_4; omega), (by have t1 : 0 ≤ t0_4.toInt ∧ t0_4.toInt ≤ 1 := btt0_4; omega)⟩) (by first | with_reducible exact q_fe btt0_5 | exact ⟨(by have t1 : 0 ≤ t0_5.toInt ∧ t0_5.toInt ≤ 1 := btt0_5; omega), (by have t1 : 0 ≤ t0_5.toInt ∧ t0_5.toInt ≤ 1 := btt0_5; omega)⟩) (by first | with_reducible exact q_fe btt0_9 | exact ⟨(by have t1 : 0 ≤ t0_9.toInt ∧ t0_9.toInt ≤ 12200 := btt0_9; omega), (by have t1 : 0 ≤ t0_9.toInt ∧ t0_9.toInt ≤ 12200 := btt0_9; omega)⟩)
      replace hT1 := (hu63 _ (by decide)).trans hT1
      replace hT2 := (hu63 _ (by decide)).trans hT2
      replace hT3 := (hu63 _ (by decide)).trans hT3
      replace hT4 := (hu63 _ (by decide)).trans hT4
      replace hT5 := (hu63 _ (by decide)).trans hT5
      replace hT6 := (hu63 _ (by decide)).trans hT6
      replace hF := q_us hF hu63 (by simp)
      refine lv_aload_n hx hb d_15_28_43 rfl (lv_at hl 0 rfl) ?_
      refine lv_iload_n hx hb d_15_28_44 rfl (lv_at hl 1 rfl) ?_
      have ob64 : True ∧ S_DR_load x2 lx42 t0_1 t0_2 t0_3 t0_4 t0_5 t0_6 t0_7 t0_8 t0_9 (2 : Int32) t1_0 t2_0 t3_0 t4_0 t5_0 := (by have h := hS54; rw [S_DR_multiply_J27.eq_1] at h; rw [if_pos c60] at h; with_reducible exact h.2.1)
      refine q_gov V (q_runV (As := [.int x2]) (rest := []) (d := 1) (mc := 0) (ms := 0) (ci := 14) C0 V rfl LV_DR_132 (X_DR_load l D g q w62  x2 hI lx42 t0_1 t0_2 t0_3 t0_4 t0_5 t0_6 t0_7 t0_8 t0_9 2 hT0 t1_0 hT1 t2_0 hT2 t3_0 hT3 t4_0 hT4 t5_0 hT5 ob64 _) rfl rfl hT0 rfl hl.1 rfl (Nat.le_of_ble_eq_true rfl) ⟨by decide, by decide⟩ ⟨Nat.le_of_ble_eq_true rfl, Nat.le_of_ble_eq_true rfl⟩ d_15_28_45) (fun u65 H locs hp66 V => ?_)
      obtain ⟨hI, hZ9⟩ := hp66
      obtain ⟨hu105, hZ9⟩ := hZ9
      obtain ⟨y68, hZ9⟩ := hZ9
      obtain ⟨y69, hZ9⟩ := hZ9
      obtain ⟨y70, hZ9⟩ := hZ9
      obtain ⟨y71, hZ9⟩ := hZ9
      obtain ⟨y72, hZ9⟩ := hZ9
      obtain ⟨y73, hZ9⟩ := hZ9
      obtain ⟨y74, hZ9⟩ := hZ9
      obtain ⟨y75, hZ9⟩ := hZ9
      obtain ⟨y76, hZ9⟩ := hZ9
      obtain ⟨y77, hZ9⟩ := hZ9
      obtain ⟨y78, hZ9⟩ := hZ9
      obtain ⟨f79, hZ9⟩ := hZ9
      obtain ⟨hO67, hZ9⟩ := hZ9
      obtain ⟨hA80, hZ9⟩ := hZ9
      replace hZ9 := hZ9.2.2
      obtain ⟨b83, hZ9⟩ := hZ9
      obtain ⟨b84, hZ9⟩ := hZ9
      replace hZ9 := hZ9.2.2
      obtain ⟨b87, hZ9⟩ := hZ9
      obtain ⟨b88, hZ9⟩ := hZ9
      replace hZ9 := hZ9.2.2
      obtain ⟨b91, hZ9⟩ := hZ9
      obtain ⟨b92, hZ9⟩ := hZ9
      obtain ⟨b93, hZ9⟩ := hZ9
      obtain ⟨b94, hZ9⟩ := hZ9
      obtain ⟨b95, hZ9⟩ := hZ9
      obtain ⟨b96, hZ9⟩ := hZ9
      obtain ⟨b97, hZ9⟩ := hZ9
      obtain ⟨b98, hZ9⟩ := hZ9
      replace hZ9 := hZ9.2.2.2.2
      obtain ⟨-, hE104⟩ := hZ9
      replace hO67 : u65[134]? = (some (q 134, .inr (14, [.int y68, .ref (q 135), .int y69, .ref (q 136), .ref (q 137), .ref (q 138), .ref (q 139), .ref (q 140), .int y70, .long y71, .int y72, .int y73, .ref (q 141), .int y74, .ref (q 142), .int y75, .ref (q 143), .int y76, .ref (q 144), .int y77, .int y78])) : Option (Nat × va_E)) := hO67
      replace hA80 : u65[140]? = (some (q 140, .inl (g 0, (4400 : Int32).toNatClampNeg, .inl f79)) : Option (Nat × va_E)) := hA80
      obtain ⟨p106, e107⟩ : ∃ z, z = (F_DR_load x2 lx42 t0_1 t0_2 t0_3 t0_4 t0_5 t0_6 t0_7 t0_8 t0_9 (2 : Int32) t1_0 t2_0 t3_0 t4_0 t5_0) := ⟨_, rfl⟩
      have e108 : y68 = p106.1 := congrArg (fun z => z.1) (hE104.trans e107.symm)
      have e109 : y69 = p106.2.1 := congrArg (fun z => z.2.1) (hE104.trans e107.symm)
      have e110 : y70 = p106.2.2.1 := congrArg (fun z => z.2.2.1) (hE104.trans e107.symm)
      have e111 : y71 = p106.2.2.2.1 := congrArg (fun z => z.2.2.2.1) (hE104.trans e107.symm)
      have e112 : y72 = p106.2.2.2.2.1 := congrArg (fun z => z.2.2.2.2.1) (hE104.trans e107.symm)
      have e113 : y73 = p106.2.2.2.2.2.1 := congrArg (fun z => z.2.2.2.2.2.1) (hE104.trans e107.symm)
      have e114 : y74 = p106.2.2.2.2.2.2.1 := congrArg (fun z => z.2.2.2.2.2.2.1) (hE104.trans e107.symm)
      have e115 : y75 = p106.2.2.2.2.2.2.2.1 := congrArg (fun z => z.2.2.2.2.2.2.2.1) (hE104.trans e107.symm)
      have e116 : y76 = p106.2.2.2.2.2.2.2.2.1 := congrArg (fun z => z.2.2.2.2.2.2.2.2.1) (hE104.trans e107.symm)
      have e117 : y77 = p106.2.2.2.2.2.2.2.2.2.1 := congrArg (fun z => z.2.2.2.2.2.2.2.2.2.1) (hE104.trans e107.symm)
      have e118 : y78 = p106.2.2.2.2.2.2.2.2.2.2.1 := congrArg (fun z => z.2.2.2.2.2.2.2.2.2.2.1) (hE104.trans e107.symm)
      have e119 : f79 = p106.2.2.2.2.2.2.2.2.2.2.2 := congrArg (fun z => z.2.2.2.2.2.2.2.2.2.2.2) (hE104.trans e107.symm)
      replace b83 : q_F (0 ≤ y72.toInt) := b83
      replace b84 : q_F (y72.toInt ≤ 0) := b84
      replace b87 : q_F (t0_1.toInt ≤ y69.toInt) := b87
      replace b88 : q_F (y69.toInt ≤ t0_1.toInt) := b88
      replace b91 : q_F (t0_6.toInt ≤ y74.toInt) := b91
      replace b92 : q_F (y74.toInt ≤ t0_6.toInt) := b92
      replace b93 : q_F (t0_7.toInt ≤ y75.toInt) := b93
      replace b94 : q_F (y75.toInt ≤ t0_7.toInt) := b94
      replace b95 : q_F (t0_8.toInt ≤ y76.toInt) := b95
      replace b96 : q_F (y76.toInt ≤ t0_8.toInt) := b96
      replace b97 : q_F (t0_9.toInt ≤ y77.toInt) := b97
      replace b98 : q_F (y77.toInt ≤ t0_9.toInt) := b98
      replace hT1 := (hu105 _ (by decide)).trans hT1
      replace hT2 := (hu105 _ (by decide)).trans hT2
      replace hT3 := (hu105 _ (by decide)).trans hT3
      replace hT4 := (hu105 _ (by decide)).trans hT4
      replace hT6 := (hu105 _ (by decide)).trans hT6
      replace hF := q_uc hF hu105 (by simp)
      have hR120 := (show F_DR_multiply_c45 x2 x3 x4 t0_0 t0_1 t0_2 t0_3 t0_4 t0_5 t0_6 t0_7 t0_8 t0_9 t0_10 t1_0 t2_0 t3_0 t4_0 t5_0 t6_0 lx42 p106 = (F_DR_multiply x2 x3 x4 t0_0 t0_1 t0_2 t0_3 t0_4 t0_5 t0_6 t0_7 t0_8 t0_9 t0_10 t1_0 t2_0 t3_0 t4_0 t5_0 t6_0) from Eq.trans (by rw [e107, F_DR_multiply_J27.eq_1, if_pos c60]) hR53)
      have hS121 := (show True ∧ S_DR_multiply_c45 x2 x3 x4 t0_0 t0_1 t0_2 t0_3 t0_4 t0_5 t0_6 t0_7 t0_8 t0_9 t0_10 t1_0 t2_0 t3_0 t4_0 t5_0 t6_0 lx42 p106 from (by rw [e107]; have h := hS54; rw [S_DR_multiply_J27.eq_1] at h; rw [if_pos c60] at h; replace h := q_s2 h; with_reducible exact h))
      refine lv_aload_n hx hb d_15_28_48 rfl (lv_at hl 0 rfl) ?_
      refine lv_iload_n hx hb d_15_28_49 rfl (lv_at hl 2 rfl) ?_
      have ob125 : True ∧ S_DR_times x3 y68 y69 y70 y71 y72 y73 y74 y75 y76 y77 y78 t1_0 t2_0 t3_0 t4_0 f79 t6_0 := (by rw [e119, e118, e117, e116, e115, e114, e113, e112, e111, e110, e109, e108]; have h := hS121; rw [S_DR_multiply_c45.eq_1] at h; with_reducible exact h.2.1)
      refine q_goi V (q_runV (As := [.int x3]) (rest := []) (d := 2) (mc := 0) (ms := 0) (ci := 14) C0 V rfl LV_DR_135 (X_DR_times l D g q u65  x3 hI y68 y69 y70 y71 y72 y73 y74 y75 y76 y77 y78 hO67 t1_0 hT1 t2_0 hT2 t3_0 hT3 t4_0 hT4 f79 hA80 t6_0 hT6 ob125 _) rfl rfl hO67 rfl hl.1 rfl (Nat.le_of_ble_eq_true rfl) ⟨by decide, by decide⟩ ⟨Nat.le_of_ble_eq_true rfl, Nat.le_of_ble_eq_true rfl⟩ d_15_28_50) (fun a128 u126 H locs hp127 V => ?_)
      obtain ⟨hI, hZ9⟩ := hp127
      obtain ⟨hu176, hZ9⟩ := hZ9
      obtain ⟨y130, hZ9⟩ := hZ9
      obtain ⟨y131, hZ9⟩ := hZ9
      obtain ⟨y132, hZ9⟩ := hZ9
      obtain ⟨y133, hZ9⟩ := hZ9
      obtain ⟨y134, hZ9⟩ := hZ9
      obtain ⟨y135, hZ9⟩ := hZ9
      obtain ⟨y136, hZ9⟩ := hZ9
      obtain ⟨y137, hZ9⟩ := hZ9
      obtain ⟨y138, hZ9⟩ := hZ9
      obtain ⟨y139, hZ9⟩ := hZ9
      obtain ⟨y140, hZ9⟩ := hZ9
      obtain ⟨f141, hZ9⟩ := hZ9
      obtain ⟨f143, hZ9⟩ := hZ9
      obtain ⟨hO129, hZ9⟩ := hZ9
      obtain ⟨hA142, hZ9⟩ := hZ9
      obtain ⟨hA144, hZ9⟩ := hZ9
      replace hZ9 := hZ9.2.2
      obtain ⟨b147, hZ9⟩ := hZ9
      obtain ⟨b148, hZ9⟩ := hZ9
      replace hZ9 := hZ9.2.2.2.2.2.2
      obtain ⟨b155, hZ9⟩ := hZ9
      obtain ⟨b156, hZ9⟩ := hZ9
      replace hZ9 := hZ9.2.2
      obtain ⟨b159, hZ9⟩ := hZ9
      obtain ⟨b160, hZ9⟩ := hZ9
      replace hZ9 := hZ9.2.2
      obtain ⟨b163, hZ9⟩ := hZ9
      obtain ⟨b164, hZ9⟩ := hZ9
      obtain ⟨b165, hZ9⟩ := hZ9
      obtain ⟨b166, hZ9⟩ := hZ9
      obtain ⟨b167, hZ9⟩ := hZ9
      obtain ⟨b168, hZ9⟩ := hZ9
      replace hZ9 := hZ9.2.2
      obtain ⟨b171, hZ9⟩ := hZ9
      obtain ⟨b172, hZ9⟩ := hZ9
      replace hZ9 := hZ9.2
      obtain ⟨-, hE175⟩ := hZ9
      replace hO129 : u126[134]? = (some (q 134, .inr (14, [.int y130, .ref (q 135), .int y131, .ref (q 136), .ref (q 137), .ref (q 138), .ref (q 139), .ref (q 140), .int y132, .long y133, .int y134, .int y135, .ref (q 141), .int y136, .ref (q 142), .int y137, .ref (q 143), .int y138, .ref (q 144), .int y139, .int y140])) : Option (Nat × va_E)) := hO129
      replace hA142 : u126[140]? = (some (q 140, .inl (g 0, (4400 : Int32).toNatClampNeg, .inl f141)) : Option (Nat × va_E)) := hA142
      replace hA144 : u126[141]? = (some (q 141, .inl (g 0, (4400 : Int32).toNatClampNeg, .inl f143)) : Option (Nat × va_E)) := hA144
      obtain ⟨p177, e178⟩ : ∃ z, z = (F_DR_times x3 y68 y69 y70 y71 y72 y73 y74 y75 y76 y77 y78 t1_0 t2_0 t3_0 t4_0 f79 t6_0) := ⟨_, rfl⟩
      have e179 : a128 = p177.1 := congrArg (fun z => z.1) (hE175.trans e178.symm)
      have e180 : y130 = p177.2.1 := congrArg (fun z => z.2.1) (hE175.trans e178.symm)
      have e181 : y131 = p177.2.2.1 := congrArg (fun z => z.2.2.1) (hE175.trans e178.symm)
      have e182 : y132 = p177.2.2.2.1 := congrArg (fun z => z.2.2.2.1) (hE175.trans e178.symm)
      have e183 : y133 = p177.2.2.2.2.1 := congrArg (fun z => z.2.2.2.2.1) (hE175.trans e178.symm)
      have e184 : y134 = p177.2.2.2.2.2.1 := congrArg (fun z => z.2.2.2.2.2.1) (hE175.trans e178.symm)
      have e185 : y135 = p177.2.2.2.2.2.2.1 := congrArg (fun z => z.2.2.2.2.2.2.1) (hE175.trans e178.symm)
      have e186 : y136 = p177.2.2.2.2.2.2.2.1 := congrArg (fun z => z.2.2.2.2.2.2.2.1) (hE175.trans e178.symm)
      have e187 : y137 = p177.2.2.2.2.2.2.2.2.1 := congrArg (fun z => z.2.2.2.2.2.2.2.2.1) (hE175.trans e178.symm)
      have e188 : y138 = p177.2.2.2.2.2.2.2.2.2.1 := congrArg (fun z => z.2.2.2.2.2.2.2.2.2.1) (hE175.trans e178.symm)
      have e189 : y139 = p177.2.2.2.2.2.2.2.2.2.2.1 := congrArg (fun z => z.2.2.2.2.2.2.2.2.2.2.1) (hE175.trans e178.symm)
      have e190 : y140 = p177.2.2.2.2.2.2.2.2.2.2.2.1 := congrArg (fun z => z.2.2.2.2.2.2.2.2.2.2.2.1) (hE175.trans e178.symm)
      have e191 : f141 = p177.2.2.2.2.2.2.2.2.2.2.2.2.1 := congrArg (fun z => z.2.2.2.2.2.2.2.2.2.2.2.2.1) (hE175.trans e178.symm)
      have e192 : f143 = p177.2.2.2.2.2.2.2.2.2.2.2.2.2 := congrArg (fun z => z.2.2.2.2.2.2.2.2.2.2.2.2.2) (hE175.trans e178.symm)
      replace b147 : q_F (0 ≤ y135.toInt) := b147
      replace b148 : q_F (y135.toInt ≤ 1) := b148
      replace b155 : q_F (y69.toInt ≤ y131.toInt) := b155
      replace b156 : q_F (y131.toInt ≤ y69.toInt) := b156
      replace b159 : q_F (y72.toInt ≤ y134.toInt) := b159
      replace b160 : q_F (y134.toInt ≤ y72.toInt) := b160
      replace b163 : q_F (y74.toInt ≤ y136.toInt) := b163
      replace b164 : q_F (y136.toInt ≤ y74.toInt) := b164
      replace b165 : q_F (y75.toInt ≤ y137.toInt) := b165
      replace b166 : q_F (y137.toInt ≤ y75.toInt) := b166
      replace b167 : q_F (y76.toInt ≤ y138.toInt) := b167
      replace b168 : q_F (y138.toInt ≤ y76.toInt) := b168
      replace b171 : q_F (y77.toInt ≤ y139.toInt) := b171
      replace b172 : q_F (y139.toInt ≤ y77.toInt) := b172
      replace hT1 := (hu176 _ (by decide)).trans hT1
      replace hT2 := (hu176 _ (by decide)).trans hT2
      replace hT3 := (hu176 _ (by decide)).trans hT3
      replace hT4 := (hu176 _ (by decide)).trans hT4
      replace hF := q_uc hF hu176 (by simp)
      have hR193 := (show F_DR_multiply_c50 x2 x3 x4 t0_0 t0_1 t0_2 t0_3 t0_4 t0_5 t0_6 t0_7 t0_8 t0_9 t0_10 t1_0 t2_0 t3_0 t4_0 t5_0 t6_0 lx42 p106 p177 = (F_DR_multiply x2 x3 x4 t0_0 t0_1 t0_2 t0_3 t0_4 t0_5 t0_6 t0_7 t0_8 t0_9 t0_10 t1_0 t2_0 t3_0 t4_0 t5_0 t6_0) from Eq.trans (by rw [e178, e119, e118, e117, e116, e115, e114, e113, e112, e111, e110, e109, e108, F_DR_multiply_c45.eq_1]) hR120)
      have hS194 := (show True ∧ S_DR_multiply_c50 x2 x3 x4 t0_0 t0_1 t0_2 t0_3 t0_4 t0_5 t0_6 t0_7 t0_8 t0_9 t0_10 t1_0 t2_0 t3_0 t4_0 t5_0 t6_0 lx42 p106 p177 from (by rw [e178, e119, e118, e117, e116, e115, e114, e113, e112, e111, e110, e109, e108]; have h := hS121; rw [S_DR_multiply_c45.eq_1] at h; replace h := q_s2 h; with_reducible exact h))
      refine lv_if_eq (tgt := 64) hx hb d_15_28_53 (by decide) (fun c198 => ?_) (fun c198 => ?_)
      ·
        refine lv_aload_n hx hb d_15_28_64 rfl (lv_at hl 0 rfl) ?_
        refine lv_iconst (v := 2) hx hb d_15_28_65 (by decide) ?_
        refine q_put (ci := 14) (j := 0) (v := .int 2) (ty := .int) C0 V i_DR o_DR n_DR rfl rfl hO129 (by decide) w_1996 rfl rfl rfl rfl (Nat.le_of_ble_eq_true rfl) d_15_28_66 (fun H locs w200 hu201 hO129 V => ?_)
        replace hO129 : w200[134]? = (some (q 134, .inr (14, [.int 2, .ref (q 135), .int y131, .ref (q 136), .ref (q 137), .ref (q 138), .ref (q 139), .ref (q 140), .int y132, .long y133, .int y134, .int y135, .ref (q 141), .int y136, .ref (q 142), .int y137, .ref (q 143), .int y138, .ref (q 144), .int y139, .int y140])) : Option (Nat × va_E)) := hO129
        replace hI := n_p134 hI hu201 hO129 ⟨(by have t1 : 0 ≤ t0_1.toInt ∧ t0_1.toInt ≤ 4100 := btt0_1; have t2 : t0_1.toInt ≤ y69.toInt := b87; have t3 : y69.toInt ≤ y131.toInt := b155; omega), (by have t1 : 0 ≤ t0_1.toInt ∧ t0_1.toInt ≤ 4100 := btt0_1; have t2 : y69.toInt ≤ t0_1.toInt := b88; have t3 : y131.toInt ≤ y69.toInt := b156; omega)⟩ ⟨(by have t1 : 0 ≤ y72.toInt := b83; have t2 : y72.toInt ≤ y134.toInt := b159; omega), (by have t1 : y72.toInt ≤ 0 := b84; have t2 : y134.toInt ≤ y72.toInt := b160; omega)⟩ ⟨(by first | with_reducible exact q_fe b147 | (have t1 : 0 ≤ y135.toInt := b147; omega)), (by first | with_reducible exact q_fe b148 | (have t1 : y135.toInt ≤ 1 := b148; omega))⟩ ⟨(by have t1 : 0 ≤ t0_9.toInt ∧ t0_9.toInt ≤ 12200 := btt0_9; have t2 : t0_9.toInt ≤ y77.toInt := b97; have t3 : y77.toInt ≤ y139.toInt := b171; omega), (by have t1 : 0 ≤ t0_9.toInt ∧ t0_9.toInt ≤ 12200 := btt0_9; have t2 : y77.toInt ≤ t0_9.toInt := b98; have t3 : y139.toInt ≤ y77.toInt := b172; omega)⟩
        replace hT1 := (hu201 _ (by decide)).trans hT1
        replace hT2 := (hu201 _ (by decide)).trans hT2
        replace hT3 := (hu201 _ (by decide)).trans hT3
        replace hT4 := (hu201 _ (by decide)).trans hT4
        replace hA142 := (hu201 _ (by decide)).trans hA142
        replace hA144 := (hu201 _ (by decide)).trans hA144
        replace hF := q_us hF hu201 (by simp)
        exact q_retv C0 V (⟨hI, hF, 2, y131, y132, y133, y134, y135, y136, y137, y138, y139, y140, t1_0, t2_0, t3_0, t4_0, f141, f143, hO129, hT1, hT2, hT3, hT4, hA142, hA144, (show 0 ≤ y134.toInt from (by have z20 : (2 : Int32).toInt = 2 := rfl; have t1 : 0 ≤ y72.toInt := b83; have t2 : y72.toInt ≤ y134.toInt := b159; omega)), (show 0 ≤ y135.toInt from (by have z20 : (2 : Int32).toInt = 2 := rfl; have t1 : 0 ≤ y135.toInt := b147; omega)), (show y135.toInt ≤ 1 from (by have z20 : (2 : Int32).toInt = 2 := rfl; have t1 : y135.toInt ≤ 1 := b148; omega)), (show t0_1.toInt ≤ y131.toInt from (by have z20 : (2 : Int32).toInt = 2 := rfl; have t1 : t0_1.toInt ≤ y69.toInt := b87; have t2 : y69.toInt ≤ y131.toInt := b155; omega)), (show y131.toInt ≤ t0_1.toInt from (by have z20 : (2 : Int32).toInt = 2 := rfl; have t1 : y69.toInt ≤ t0_1.toInt := b88; have t2 : y131.toInt ≤ y69.toInt := b156; omega)), (show y134.toInt ≤ t0_4.toInt from (by have z20 : (2 : Int32).toInt = 2 := rfl; have t1 : 0 ≤ t0_4.toInt ∧ t0_4.toInt ≤ 1 := btt0_4; have t2 : y72.toInt ≤ 0 := b84; have t3 : y134.toInt ≤ y72.toInt := b160; omega)), (show t0_6.toInt ≤ y136.toInt from (by have z20 : (2 : Int32).toInt = 2 := rfl; have t1 : t0_6.toInt ≤ y74.toInt := b91; have t2 : y74.toInt ≤ y136.toInt := b163; omega)), (show y136.toInt ≤ t0_6.toInt from (by have z20 : (2 : Int32).toInt = 2 := rfl; have t1 : y74.toInt ≤ t0_6.toInt := b92; have t2 : y136.toInt ≤ y74.toInt := b164; omega)), (show t0_7.toInt ≤ y137.toInt from (by have z20 : (2 : Int32).toInt = 2 := rfl; have t1 : t0_7.toInt ≤ y75.toInt := b93; have t2 : y75.toInt ≤ y137.toInt := b165; omega)), (show y137.toInt ≤ t0_7.toInt from (by have z20 : (2 : Int32).toInt = 2 := rfl; have t1 : y75.toInt ≤ t0_7.toInt := b94; have t2 : y137.toInt ≤ y75.toInt := b166; omega)), (show t0_8.toInt ≤ y138.toInt from (by have z20 : (2 : Int32).toInt = 2 := rfl; have t1 : t0_8.toInt ≤ y76.toInt := b95; have t2 : y76.toInt ≤ y138.toInt := b167; omega)), (show y138.toInt ≤ t0_8.toInt from (by have z20 : (2 : Int32).toInt = 2 := rfl; have t1 : y76.toInt ≤ t0_8.toInt := b96; have t2 : y138.toInt ≤ y76.toInt := b168; omega)), (show t0_9.toInt ≤ y139.toInt from (by have z20 : (2 : Int32).toInt = 2 := rfl; have t1 : t0_9.toInt ≤ y77.toInt := b97; have t2 : y77.toInt ≤ y139.toInt := b171; omega)), (show y139.toInt ≤ t0_9.toInt from (by have z20 : (2 : Int32).toInt = 2 := rfl; have t1 : y77.toInt ≤ t0_9.toInt := b98; have t2 : y139.toInt ≤ y77.toInt := b172; omega)), (show ((2 : Int32), y131, y132, y133, y134, y135, y136, y137, y138, y139, y140, t1_0, t2_0, t3_0, t4_0, f141, f143) = (F_DR_multiply x2 x3 x4 t0_0 t0_1 t0_2 t0_3 t0_4 t0_5 t0_6 t0_7 t0_8 t0_9 t0_10 t1_0 t2_0 t3_0 t4_0 t5_0 t6_0) from Eq.trans (by have c198x := c198; rw [e179] at c198x; rw [e192, e191, e190, e189, e188, e187, e186, e185, e184, e183, e182, e181, F_DR_multiply_c50.eq_1, if_pos c198x]) hR193)⟩) d_15_28_69
      ·
        refine lv_aload_n hx hb d_15_28_56 rfl (lv_at hl 0 rfl) ?_
        refine lv_iload_n hx hb d_15_28_57 rfl (lv_at hl 3 rfl) ?_
        have ob203 : True ∧ S_DR_store x4 y130 y131 y132 y133 y134 y135 y136 y137 y138 y139 y140 t1_0 t2_0 t3_0 t4_0 f141 := (by rw [e191, e190, e189, e188, e187, e186, e185, e184, e183, e182, e181, e180]; have h := hS194; rw [S_DR_multiply_c50.eq_1] at h; have c198x := c198; rw [e179] at c198x; rw [if_neg c198x] at h; with_reducible exact h.2.1)
        refine q_gov V (q_runV (As := [.int x4]) (rest := []) (d := 2) (mc := 0) (ms := 0) (ci := 14) C0 V rfl LV_DR_89 (X_DR_store l D g q u126  x4 hI y130 y131 y132 y133 y134 y135 y136 y137 y138 y139 y140 hO129 t1_0 hT1 t2_0 hT2 t3_0 hT3 t4_0 hT4 f141 hA142 ob203 _) rfl rfl hO129 rfl hl.1 rfl (Nat.le_of_ble_eq_true rfl) ⟨by decide, by decide⟩ ⟨Nat.le_of_ble_eq_true rfl, Nat.le_of_ble_eq_true rfl⟩ d_15_28_58) (fun u204 H locs hp205 V => ?_)
        obtain ⟨hI, hZ9⟩ := hp205
        obtain ⟨hu251, hZ9⟩ := hZ9
        obtain ⟨y207, hZ9⟩ := hZ9
        obtain ⟨y208, hZ9⟩ := hZ9
        obtain ⟨y209, hZ9⟩ := hZ9
        obtain ⟨y210, hZ9⟩ := hZ9
        obtain ⟨y211, hZ9⟩ := hZ9
        obtain ⟨y212, hZ9⟩ := hZ9
        obtain ⟨y213, hZ9⟩ := hZ9
        obtain ⟨y214, hZ9⟩ := hZ9
        obtain ⟨y215, hZ9⟩ := hZ9
        obtain ⟨y216, hZ9⟩ := hZ9
        obtain ⟨y217, hZ9⟩ := hZ9
        obtain ⟨f218, hZ9⟩ := hZ9
        obtain ⟨f220, hZ9⟩ := hZ9
        obtain ⟨f222, hZ9⟩ := hZ9
        obtain ⟨f224, hZ9⟩ := hZ9
        obtain ⟨f226, hZ9⟩ := hZ9
        obtain ⟨hO206, hZ9⟩ := hZ9
        obtain ⟨hA219, hZ9⟩ := hZ9
        obtain ⟨hA221, hZ9⟩ := hZ9
        obtain ⟨hA223, hZ9⟩ := hZ9
        obtain ⟨hA225, hZ9⟩ := hZ9
        obtain ⟨hA227, hZ9⟩ := hZ9
        obtain ⟨b228, hZ9⟩ := hZ9
        obtain ⟨b229, hZ9⟩ := hZ9
        obtain ⟨b230, hZ9⟩ := hZ9
        replace hZ9 := hZ9.2.2.2.2
        obtain ⟨b235, hZ9⟩ := hZ9
        obtain ⟨b236, hZ9⟩ := hZ9
        replace hZ9 := hZ9.2
        obtain ⟨b238, hZ9⟩ := hZ9
        obtain ⟨b239, hZ9⟩ := hZ9
        obtain ⟨b240, hZ9⟩ := hZ9
        obtain ⟨b241, hZ9⟩ := hZ9
        obtain ⟨b242, hZ9⟩ := hZ9
        obtain ⟨b243, hZ9⟩ := hZ9
        obtain ⟨b244, hZ9⟩ := hZ9
        replace hZ9 := hZ9.2
        obtain ⟨b246, hZ9⟩ := hZ9
        obtain ⟨b247, hZ9⟩ := hZ9
        replace hZ9 := hZ9.2
        obtain ⟨-, hE250⟩ := hZ9
        replace hO206 : u204[134]? = (some (q 134, .inr (14, [.int y207, .ref (q 135), .int y208, .ref (q 136), .ref (q 137), .ref (q 138), .ref (q 139), .ref (q 140), .int y209, .long y210, .int y211, .int y212, .ref (q 141), .int y213, .ref (q 142), .int y214, .ref (q 143), .int y215, .ref (q 144), .int y216, .int y217])) : Option (Nat × va_E)) := hO206
        replace hA219 : u204[136]? = (some (q 136, .inl (g 0, (10000 : Int32).toNatClampNeg, .inl f218)) : Option (Nat × va_E)) := hA219
        replace hA221 : u204[137]? = (some (q 137, .inl (g 0, (10 : Int32).toNatClampNeg, .inl f220)) : Option (Nat × va_E)) := hA221
        replace hA223 : u204[138]? = (some (q 138, .inl (g 3, 10, .inl f222)) : Option (Nat × va_E)) := hA223
        replace hA225 : u204[139]? = (some (q 139, .inl (g 0, (10 : Int32).toNatClampNeg, .inl f224)) : Option (Nat × va_E)) := hA225
        replace hA227 : u204[140]? = (some (q 140, .inl (g 0, (4400 : Int32).toNatClampNeg, .inl f226)) : Option (Nat × va_E)) := hA227
        obtain ⟨p252, e253⟩ : ∃ z, z = (F_DR_store x4 y130 y131 y132 y133 y134 y135 y136 y137 y138 y139 y140 t1_0 t2_0 t3_0 t4_0 f141) := ⟨_, rfl⟩
        have e254 : y207 = p252.1 := congrArg (fun z => z.1) (hE250.trans e253.symm)
        have e255 : y208 = p252.2.1 := congrArg (fun z => z.2.1) (hE250.trans e253.symm)
        have e256 : y209 = p252.2.2.1 := congrArg (fun z => z.2.2.1) (hE250.trans e253.symm)
        have e257 : y210 = p252.2.2.2.1 := congrArg (fun z => z.2.2.2.1) (hE250.trans e253.symm)
        have e258 : y211 = p252.2.2.2.2.1 := congrArg (fun z => z.2.2.2.2.1) (hE250.trans e253.symm)
        have e259 : y212 = p252.2.2.2.2.2.1 := congrArg (fun z => z.2.2.2.2.2.1) (hE250.trans e253.symm)
        have e260 : y213 = p252.2.2.2.2.2.2.1 := congrArg (fun z => z.2.2.2.2.2.2.1) (hE250.trans e253.symm)
        have e261 : y214 = p252.2.2.2.2.2.2.2.1 := congrArg (fun z => z.2.2.2.2.2.2.2.1) (hE250.trans e253.symm)
        have e262 : y215 = p252.2.2.2.2.2.2.2.2.1 := congrArg (fun z => z.2.2.2.2.2.2.2.2.1) (hE250.trans e253.symm)
        have e263 : y216 = p252.2.2.2.2.2.2.2.2.2.1 := congrArg (fun z => z.2.2.2.2.2.2.2.2.2.1) (hE250.trans e253.symm)
        have e264 : y217 = p252.2.2.2.2.2.2.2.2.2.2.1 := congrArg (fun z => z.2.2.2.2.2.2.2.2.2.2.1) (hE250.trans e253.symm)
        have e265 : f218 = p252.2.2.2.2.2.2.2.2.2.2.2.1 := congrArg (fun z => z.2.2.2.2.2.2.2.2.2.2.2.1) (hE250.trans e253.symm)
        have e266 : f220 = p252.2.2.2.2.2.2.2.2.2.2.2.2.1 := congrArg (fun z => z.2.2.2.2.2.2.2.2.2.2.2.2.1) (hE250.trans e253.symm)
        have e267 : f222 = p252.2.2.2.2.2.2.2.2.2.2.2.2.2.1 := congrArg (fun z => z.2.2.2.2.2.2.2.2.2.2.2.2.2.1) (hE250.trans e253.symm)
        have e268 : f224 = p252.2.2.2.2.2.2.2.2.2.2.2.2.2.2.1 := congrArg (fun z => z.2.2.2.2.2.2.2.2.2.2.2.2.2.2.1) (hE250.trans e253.symm)
        have e269 : f226 = p252.2.2.2.2.2.2.2.2.2.2.2.2.2.2.2 := congrArg (fun z => z.2.2.2.2.2.2.2.2.2.2.2.2.2.2.2) (hE250.trans e253.symm)
        replace b228 : q_F (0 ≤ y212.toInt) := b228
        replace b229 : q_F (y131.toInt ≤ y208.toInt) := b229
        replace b230 : q_F (y208.toInt ≤ y131.toInt) := b230
        replace b235 : q_F (y134.toInt ≤ y211.toInt) := b235
        replace b236 : q_F (y211.toInt ≤ y134.toInt) := b236
        replace b238 : q_F (y212.toInt ≤ y135.toInt) := b238
        replace b239 : q_F (y136.toInt ≤ y213.toInt) := b239
        replace b240 : q_F (y213.toInt ≤ y136.toInt) := b240
        replace b241 : q_F (y137.toInt ≤ y214.toInt) := b241
        replace b242 : q_F (y214.toInt ≤ y137.toInt) := b242
        replace b243 : q_F (y138.toInt ≤ y215.toInt) := b243
        replace b244 : q_F (y215.toInt ≤ y138.toInt) := b244
        replace b246 : q_F (y139.toInt ≤ y216.toInt) := b246
        replace b247 : q_F (y216.toInt ≤ y139.toInt) := b247
        replace hA144 := (hu251 _ (by decide)).trans hA144
        replace hF := q_uc hF hu251 (by simp)
        have hR270 := (show F_DR_multiply_c58 x2 x3 x4 t0_0 t0_1 t0_2 t0_3 t0_4 t0_5 t0_6 t0_7 t0_8 t0_9 t0_10 t1_0 t2_0 t3_0 t4_0 t5_0 t6_0 lx42 p106 p177 f143 p252 = (F_DR_multiply x2 x3 x4 t0_0 t0_1 t0_2 t0_3 t0_4 t0_5 t0_6 t0_7 t0_8 t0_9 t0_10 t1_0 t2_0 t3_0 t4_0 t5_0 t6_0) from Eq.trans (by have c198x := c198; rw [e179] at c198x; rw [e253, e192, e191, e190, e189, e188, e187, e186, e185, e184, e183, e182, e181, e180, F_DR_multiply_c50.eq_1, if_neg c198x]) hR193)
        have hS271 := (show True ∧ S_DR_multiply_c58 x2 x3 x4 t0_0 t0_1 t0_2 t0_3 t0_4 t0_5 t0_6 t0_7 t0_8 t0_9 t0_10 t1_0 t2_0 t3_0 t4_0 t5_0 t6_0 lx42 p106 p177 f143 p252 from (by rw [e253, e192, e191, e190, e189, e188, e187, e186, e185, e184, e183, e182, e181, e180]; have h := hS194; rw [S_DR_multiply_c50.eq_1] at h; have c198x := c198; rw [e179] at c198x; rw [if_neg c198x] at h; replace h := q_s2 h; with_reducible exact h))
        refine lv_goto (tgt := 69) hx hb d_15_28_61 (by decide) ?_
        exact q_retv C0 V (⟨hI, hF, y207, y208, y209, y210, y211, y212, y213, y214, y215, y216, y217, f218, f220, f222, f224, f226, f143, hO206, hA219, hA221, hA223, hA225, hA227, hA144, (show 0 ≤ y211.toInt from (by have t1 : 0 ≤ y72.toInt := b83; have t2 : y72.toInt ≤ y134.toInt := b159; have t3 : y134.toInt ≤ y211.toInt := b235; omega)), (show 0 ≤ y212.toInt from (by first | with_reducible exact q_fe b228 | (have t1 : 0 ≤ y212.toInt := b228; omega))), (show y212.toInt ≤ 1 from (by have t1 : y135.toInt ≤ 1 := b148; have t2 : y212.toInt ≤ y135.toInt := b238; omega)), (show t0_1.toInt ≤ y208.toInt from (by have t1 : t0_1.toInt ≤ y69.toInt := b87; have t2 : y69.toInt ≤ y131.toInt := b155; have t3 : y131.toInt ≤ y208.toInt := b229; omega)), (show y208.toInt ≤ t0_1.toInt from (by have t1 : y69.toInt ≤ t0_1.toInt := b88; have t2 : y131.toInt ≤ y69.toInt := b156; have t3 : y208.toInt ≤ y131.toInt := b230; omega)), (show y211.toInt ≤ t0_4.toInt from (by have t1 : 0 ≤ t0_4.toInt ∧ t0_4.toInt ≤ 1 := btt0_4; have t2 : y72.toInt ≤ 0 := b84; have t3 : y134.toInt ≤ y72.toInt := b160; have t4 : y211.toInt ≤ y134.toInt := b236; omega)), (show t0_6.toInt ≤ y213.toInt from (by have t1 : t0_6.toInt ≤ y74.toInt := b91; have t2 : y74.toInt ≤ y136.toInt := b163; have t3 : y136.toInt ≤ y213.toInt := b239; omega)), (show y213.toInt ≤ t0_6.toInt from (by have t1 : y74.toInt ≤ t0_6.toInt := b92; have t2 : y136.toInt ≤ y74.toInt := b164; have t3 : y213.toInt ≤ y136.toInt := b240; omega)), (show t0_7.toInt ≤ y214.toInt from (by have t1 : t0_7.toInt ≤ y75.toInt := b93; have t2 : y75.toInt ≤ y137.toInt := b165; have t3 : y137.toInt ≤ y214.toInt := b241; omega)), (show y214.toInt ≤ t0_7.toInt from (by have t1 : y75.toInt ≤ t0_7.toInt := b94; have t2 : y137.toInt ≤ y75.toInt := b166; have t3 : y214.toInt ≤ y137.toInt := b242; omega)), (show t0_8.toInt ≤ y215.toInt from (by have t1 : t0_8.toInt ≤ y76.toInt := b95; have t2 : y76.toInt ≤ y138.toInt := b167; have t3 : y138.toInt ≤ y215.toInt := b243; omega)), (show y215.toInt ≤ t0_8.toInt from (by have t1 : y76.toInt ≤ t0_8.toInt := b96; have t2 : y138.toInt ≤ y76.toInt := b168; have t3 : y215.toInt ≤ y138.toInt := b244; omega)), (show t0_9.toInt ≤ y216.toInt from (by have t1 : t0_9.toInt ≤ y77.toInt := b97; have t2 : y77.toInt ≤ y139.toInt := b171; have t3 : y139.toInt ≤ y216.toInt := b246; omega)), (show y216.toInt ≤ t0_9.toInt from (by have t1 : y77.toInt ≤ t0_9.toInt := b98; have t2 : y139.toInt ≤ y77.toInt := b172; have t3 : y216.toInt ≤ y139.toInt := b247; omega)), (show (y207, y208, y209, y210, y211, y212, y213, y214, y215, y216, y217, f218, f220, f222, f224, f226, f143) = (F_DR_multiply x2 x3 x4 t0_0 t0_1 t0_2 t0_3 t0_4 t0_5 t0_6 t0_7 t0_8 t0_9 t0_10 t1_0 t2_0 t3_0 t4_0 t5_0 t6_0) from Eq.trans (by rw [e269, e268, e267, e266, e265, e264, e263, e262, e261, e260, e259, e258, e257, e256, e255, e254, F_DR_multiply_c58.eq_1]) hR270)⟩) d_15_28_69
    ·
      exact q_retv C0 V (⟨hI, hF, lx42, t0_1, t0_2, t0_3, t0_4, t0_5, t0_6, t0_7, t0_8, t0_9, t0_10, t1_0, t2_0, t3_0, t4_0, t5_0, t6_0, hT0, hT1, hT2, hT3, hT4, hT5, hT6, (show 0 ≤ t0_4.toInt from (by first | with_reducible exact (q_fe btt0_4).2 | with_reducible exact (q_fe btt0_4).1 | (have t1 : 0 ≤ t0_4.toInt ∧ t0_4.toInt ≤ 1 := btt0_4; omega))), (show 0 ≤ t0_5.toInt from (by first | with_reducible exact (q_fe btt0_5).2 | with_reducible exact (q_fe btt0_5).1 | (have t1 : 0 ≤ t0_5.toInt ∧ t0_5.toInt ≤ 1 := btt0_5; omega))), (show t0_5.toInt ≤ 1 from (by first | with_reducible exact (q_fe btt0_5).2 | with_reducible exact (q_fe btt0_5).1 | (have t1 : 0 ≤ t0_5.toInt ∧ t0_5.toInt ≤ 1 := btt0_5; omega))), (show t0_1.toInt ≤ t0_1.toInt from (by omega)), (show t0_1.toInt ≤ t0_1.toInt from (by omega)), (show t0_4.toInt ≤ t0_4.toInt from (by omega)), (show t0_6.toInt ≤ t0_6.toInt from (by omega)), (show t0_6.toInt ≤ t0_6.toInt from (by omega)), (show t0_7.toInt ≤ t0_7.toInt from (by omega)), (show t0_7.toInt ≤ t0_7.toInt from (by omega)), (show t0_8.toInt ≤ t0_8.toInt from (by omega)), (show t0_8.toInt ≤ t0_8.toInt from (by omega)), (show t0_9.toInt ≤ t0_9.toInt from (by omega)), (show t0_9.toInt ≤ t0_9.toInt from (by omega)), (show (lx42, t0_1, t0_2, t0_3, t0_4, t0_5, t0_6, t0_7, t0_8, t0_9, t0_10, t1_0, t2_0, t3_0, t4_0, t5_0, t6_0) = (F_DR_multiply x2 x3 x4 t0_0 t0_1 t0_2 t0_3 t0_4 t0_5 t0_6 t0_7 t0_8 t0_9 t0_10 t1_0 t2_0 t3_0 t4_0 t5_0 t6_0) from Eq.trans (by rw [F_DR_multiply_J27.eq_1, if_neg c60]) hR53)⟩) d_15_28_37
  ·
    intro J50
    refine q_join (X := Unit) (fun z H locs ls _ => q_Wd D g (va_A ws sz) s ws H locs ∧ lv_has ls 4 [(0, .ref (q 134)), (1, .int x2), (2, .int x3), (3, .int x4)] ∧ F_DR_multiply_J22 x2 x3 x4 t0_0 t0_1 t0_2 t0_3 t0_4 t0_5 t0_6 t0_7 t0_8 t0_9 t0_10 t1_0 t2_0 t3_0 t4_0 t5_0 t6_0 = (F_DR_multiply x2 x3 x4 t0_0 t0_1 t0_2 t0_3 t0_4 t0_5 t0_6 t0_7 t0_8 t0_9 t0_10 t1_0 t2_0 t3_0 t4_0 t5_0 t6_0) ∧ True ∧ S_DR_multiply_J22 x2 x3 x4 t0_0 t0_1 t0_2 t0_3 t0_4 t0_5 t0_6 t0_7 t0_8 t0_9 t0_10 t1_0 t2_0 t3_0 t4_0 t5_0 t6_0) (fun z => [.ref (q 134)]) 22 0 0 ?_ ?_
    ·
      rintro _ H locs ls _ ⟨V, hl, hR284, hS285⟩
      replace hl : lv_has ls 4 [(0, .ref (q 134)), (1, .int x2), (2, .int x3), (3, .int x4)] := hl
      refine lv_iconst (v := 1) hx hb d_15_28_22 (by decide) ?_
      refine lv_goto (tgt := 27) hx hb d_15_28_23 (by decide) ?_
      exact J50 ((1 : Int32)) _ _ _ ws ⟨(show q_F (0 ≤ 1) from (show 0 ≤ 1 from by omega)), (show q_F (1 ≤ 1) from (show 1 ≤ 1 from by omega)), V, q_lw hl (q_lw1 0 rfl (q_lw1 1 rfl (q_lw1 2 rfl (q_lw1 3 rfl q_lw0)))), (show F_DR_multiply_J27 x2 x3 x4 t0_0 t0_1 t0_2 t0_3 t0_4 t0_5 t0_6 t0_7 t0_8 t0_9 t0_10 t1_0 t2_0 t3_0 t4_0 t5_0 t6_0 1 = (F_DR_multiply x2 x3 x4 t0_0 t0_1 t0_2 t0_3 t0_4 t0_5 t0_6 t0_7 t0_8 t0_9 t0_10 t1_0 t2_0 t3_0 t4_0 t5_0 t6_0) from Eq.trans (by rw [F_DR_multiply_J22.eq_1]) hR284), (show True ∧ S_DR_multiply_J27 x2 x3 x4 t0_0 t0_1 t0_2 t0_3 t0_4 t0_5 t0_6 t0_7 t0_8 t0_9 t0_10 t1_0 t2_0 t3_0 t4_0 t5_0 t6_0 1 from (by have h := hS285; rw [S_DR_multiply_J22.eq_1] at h; with_reducible exact h))⟩
    ·
      intro J283
      refine lv_if_ne (tgt := 22) hx hb d_15_28_5 (by decide) (fun c289 => ?_) (fun c289 => ?_)
      ·
        exact J283 (()) _ _ _ ws ⟨V, q_lw hl (q_lw1 0 rfl (q_lw1 1 rfl (q_lw1 2 rfl (q_lw1 3 rfl q_lw0)))), (show F_DR_multiply_J22 x2 x3 x4 t0_0 t0_1 t0_2 t0_3 t0_4 t0_5 t0_6 t0_7 t0_8 t0_9 t0_10 t1_0 t2_0 t3_0 t4_0 t5_0 t6_0 = (F_DR_multiply x2 x3 x4 t0_0 t0_1 t0_2 t0_3 t0_4 t0_5 t0_6 t0_7 t0_8 t0_9 t0_10 t1_0 t2_0 t3_0 t4_0 t5_0 t6_0) from (by have c289x := c289; rw [e41] at c289x; rw [F_DR_multiply.eq_1, if_neg c289x])), (show True ∧ S_DR_multiply_J22 x2 x3 x4 t0_0 t0_1 t0_2 t0_3 t0_4 t0_5 t0_6 t0_7 t0_8 t0_9 t0_10 t1_0 t2_0 t3_0 t4_0 t5_0 t6_0 from (by have h := hS; rw [S_DR_multiply.eq_1] at h; have c289x := c289; rw [e41] at c289x; rw [if_neg c289x] at h; with_reducible exact h))⟩
      ·
        refine lv_iload_n hx hb d_15_28_8 rfl (lv_at hl 2 rfl) ?_
        refine q_goi V (q_runS (As := [.int x3]) (rest := [.ref (q 134)]) (d := 1) (mc := 0) (ms := 0) C0 V rfl LS_DR_113 (X_DR_no l D g q ws  x3 hI   _) rfl hl.1 rfl (Nat.le_of_ble_eq_true rfl) ⟨by decide, by decide⟩ ⟨Nat.le_of_ble_eq_true rfl, Nat.le_of_ble_eq_true rfl⟩ d_15_28_9) (fun a294 u292 H locs hp293 V => ?_)
        obtain ⟨rfl, b295, b296, hE297⟩ := hp293
        have e298 : a294 = (F_DR_no x3) := hE297
        clear b295
        clear b296
        refine lv_if_ne (tgt := 22) hx hb d_15_28_12 (by decide) (fun c299 => ?_) (fun c299 => ?_)
        ·
          exact J283 (()) _ _ _ ws ⟨V, q_lw hl (q_lw1 0 rfl (q_lw1 1 rfl (q_lw1 2 rfl (q_lw1 3 rfl q_lw0)))), (show F_DR_multiply_J22 x2 x3 x4 t0_0 t0_1 t0_2 t0_3 t0_4 t0_5 t0_6 t0_7 t0_8 t0_9 t0_10 t1_0 t2_0 t3_0 t4_0 t5_0 t6_0 = (F_DR_multiply x2 x3 x4 t0_0 t0_1 t0_2 t0_3 t0_4 t0_5 t0_6 t0_7 t0_8 t0_9 t0_10 t1_0 t2_0 t3_0 t4_0 t5_0 t6_0) from (by have c289x := c289; rw [e41] at c289x; have c299x := c299; rw [e298] at c299x; rw [F_DR_multiply.eq_1, if_pos c289x, if_neg c299x])), (show True ∧ S_DR_multiply_J22 x2 x3 x4 t0_0 t0_1 t0_2 t0_3 t0_4 t0_5 t0_6 t0_7 t0_8 t0_9 t0_10 t1_0 t2_0 t3_0 t4_0 t5_0 t6_0 from (by have h := hS; rw [S_DR_multiply.eq_1] at h; have c289x := c289; rw [e41] at c289x; rw [if_pos c289x] at h; have c299x := c299; rw [e298] at c299x; rw [if_neg c299x] at h; with_reducible exact h))⟩
        ·
          refine lv_iload_n hx hb d_15_28_15 rfl (lv_at hl 3 rfl) ?_
          refine q_goi V (q_runS (As := [.int x4]) (rest := [.ref (q 134)]) (d := 1) (mc := 0) (ms := 0) C0 V rfl LS_DR_113 (X_DR_no l D g q ws  x4 hI   _) rfl hl.1 rfl (Nat.le_of_ble_eq_true rfl) ⟨by decide, by decide⟩ ⟨Nat.le_of_ble_eq_true rfl, Nat.le_of_ble_eq_true rfl⟩ d_15_28_16) (fun a304 u302 H locs hp303 V => ?_)
          obtain ⟨rfl, b305, b306, hE307⟩ := hp303
          have e308 : a304 = (F_DR_no x4) := hE307
          clear b305
          clear b306
          refine lv_if_eq (tgt := 26) hx hb d_15_28_19 (by decide) (fun c309 => ?_) (fun c309 => ?_)
          ·
            refine lv_iconst (v := 0) hx hb d_15_28_26 (by decide) ?_
            exact J50 ((0 : Int32)) _ _ _ ws ⟨(show q_F (0 ≤ 0) from (show 0 ≤ 0 from by omega)), (show q_F (0 ≤ 1) from (show 0 ≤ 1 from by omega)), V, q_lw hl (q_lw1 0 rfl (q_lw1 1 rfl (q_lw1 2 rfl (q_lw1 3 rfl q_lw0)))), (show F_DR_multiply_J27 x2 x3 x4 t0_0 t0_1 t0_2 t0_3 t0_4 t0_5 t0_6 t0_7 t0_8 t0_9 t0_10 t1_0 t2_0 t3_0 t4_0 t5_0 t6_0 0 = (F_DR_multiply x2 x3 x4 t0_0 t0_1 t0_2 t0_3 t0_4 t0_5 t0_6 t0_7 t0_8 t0_9 t0_10 t1_0 t2_0 t3_0 t4_0 t5_0 t6_0) from (by have c289x := c289; rw [e41] at c289x; have c299x := c299; rw [e298] at c299x; have c309x := c309; rw [e308] at c309x; rw [F_DR_multiply.eq_1, if_pos c289x, if_pos c299x, if_pos c309x])), (show True ∧ S_DR_multiply_J27 x2 x3 x4 t0_0 t0_1 t0_2 t0_3 t0_4 t0_5 t0_6 t0_7 t0_8 t0_9 t0_10 t1_0 t2_0 t3_0 t4_0 t5_0 t6_0 0 from (by have h := hS; rw [S_DR_multiply.eq_1] at h; have c289x := c289; rw [e41] at c289x; rw [if_pos c289x] at h; have c299x := c299; rw [e298] at c299x; rw [if_pos c299x] at h; have c309x := c309; rw [e308] at c309x; rw [if_pos c309x] at h; with_reducible exact h))⟩
          ·
            exact J283 (()) _ _ _ ws ⟨V, q_lw hl (q_lw1 0 rfl (q_lw1 1 rfl (q_lw1 2 rfl (q_lw1 3 rfl q_lw0)))), (show F_DR_multiply_J22 x2 x3 x4 t0_0 t0_1 t0_2 t0_3 t0_4 t0_5 t0_6 t0_7 t0_8 t0_9 t0_10 t1_0 t2_0 t3_0 t4_0 t5_0 t6_0 = (F_DR_multiply x2 x3 x4 t0_0 t0_1 t0_2 t0_3 t0_4 t0_5 t0_6 t0_7 t0_8 t0_9 t0_10 t1_0 t2_0 t3_0 t4_0 t5_0 t6_0) from (by have c289x := c289; rw [e41] at c289x; have c299x := c299; rw [e298] at c299x; have c309x := c309; rw [e308] at c309x; rw [F_DR_multiply.eq_1, if_pos c289x, if_pos c299x, if_neg c309x])), (show True ∧ S_DR_multiply_J22 x2 x3 x4 t0_0 t0_1 t0_2 t0_3 t0_4 t0_5 t0_6 t0_7 t0_8 t0_9 t0_10 t1_0 t2_0 t3_0 t4_0 t5_0 t6_0 from (by have h := hS; rw [S_DR_multiply.eq_1] at h; have c289x := c289; rw [e41] at c289x; rw [if_pos c289x] at h; have c299x := c299; rw [e298] at c299x; rw [if_pos c299x] at h; have c309x := c309; rw [e308] at c309x; rw [if_neg c309x] at h; with_reducible exact h))⟩
theorem d_15_12_0 : decode prog_15_method_12_code 0 = .ok (.lconst 0, 1) := by decide +kernel
theorem d_15_12_1 : decode prog_15_method_12_code 1 = .ok (.lstore_n 3, 1) := by decide +kernel
theorem d_15_12_2 : decode prog_15_method_12_code 2 = .ok (.lload_n 3, 1) := by decide +kernel
theorem d_15_12_3 : decode prog_15_method_12_code 3 = .ok (.lload_n 1, 1) := by decide +kernel
theorem d_15_12_4 : decode prog_15_method_12_code 4 = .ok (.lcmp, 1) := by decide +kernel
theorem d_15_12_5 : decode prog_15_method_12_code 5 = .ok (.ifCond .ge 30, 3) := by decide +kernel
theorem d_15_12_35 : decode prog_15_method_12_code 35 = .ok (.aload_n 0, 1) := by decide +kernel
theorem d_15_12_36 : decode prog_15_method_12_code 36 = .ok (.aload_n 0, 1) := by decide +kernel
theorem d_15_12_37 : decode prog_15_method_12_code 37 = .ok (.getfield 48, 3) := by decide +kernel
theorem d_15_12_40 : decode prog_15_method_12_code 40 = .ok (.lload_n 1, 1) := by decide +kernel
theorem d_15_12_41 : decode prog_15_method_12_code 41 = .ok (.ladd, 1) := by decide +kernel
theorem d_15_12_42 : decode prog_15_method_12_code 42 = .ok (.putfield 48, 3) := by decide +kernel
theorem d_15_12_45 : decode prog_15_method_12_code 45 = .ok (.return_, 1) := by decide +kernel
theorem d_15_12_8 : decode prog_15_method_12_code 8 = .ok (.aload_n 0, 1) := by decide +kernel
theorem d_15_12_9 : decode prog_15_method_12_code 9 = .ok (.getfield 26, 3) := by decide +kernel
theorem d_15_12_12 : decode prog_15_method_12_code 12 = .ok (.aload_n 0, 1) := by decide +kernel
theorem d_15_12_13 : decode prog_15_method_12_code 13 = .ok (.getfield 45, 3) := by decide +kernel
theorem d_15_12_16 : decode prog_15_method_12_code 16 = .ok (.iconst 0, 1) := by decide +kernel
theorem d_15_12_17 : decode prog_15_method_12_code 17 = .ok (.iastore, 1) := by decide +kernel
theorem d_15_12_18 : decode prog_15_method_12_code 18 = .ok (.aload_n 0, 1) := by decide +kernel
theorem d_15_12_19 : decode prog_15_method_12_code 19 = .ok (.dup, 1) := by decide +kernel
theorem d_15_12_20 : decode prog_15_method_12_code 20 = .ok (.getfield 45, 3) := by decide +kernel
theorem d_15_12_23 : decode prog_15_method_12_code 23 = .ok (.iconst 1, 1) := by decide +kernel
theorem d_15_12_24 : decode prog_15_method_12_code 24 = .ok (.iadd, 1) := by decide +kernel
theorem d_15_12_25 : decode prog_15_method_12_code 25 = .ok (.putfield 45, 3) := by decide +kernel
theorem d_15_12_28 : decode prog_15_method_12_code 28 = .ok (.lload_n 3, 1) := by decide +kernel
theorem d_15_12_29 : decode prog_15_method_12_code 29 = .ok (.lconst 1, 1) := by decide +kernel
theorem d_15_12_30 : decode prog_15_method_12_code 30 = .ok (.ladd, 1) := by decide +kernel
theorem d_15_12_31 : decode prog_15_method_12_code 31 = .ok (.lstore_n 3, 1) := by decide +kernel
theorem d_15_12_32 : decode prog_15_method_12_code 32 = .ok (.goto (-30), 3) := by decide +kernel
def y_DR_lengthen : MethodName := ⟨"NumberHouseModel$DecimalRows", "lengthen", "(J)V"⟩
def F_DR_lengthen_L2 (x2 : Int64) (t0_0 : Int32) (t0_1 : Int32) (t0_2 : Int32) (t0_3 : Int64) (t0_4 : Int32) (t0_5 : Int32) (t0_6 : Int32) (t0_7 : Int32) (t0_8 : Int32) (t0_9 : Int32) (t0_10 : Int32) (t1_0 : (Nat → Int32)) : Nat → Int64 → Int32 → (Nat → Int32) → (Int32 × Int32 × Int32 × Int64 × Int32 × Int32 × Int32 × Int32 × Int32 × Int32 × Int32 × (Nat → Int32))
  | 0, _, _, _ => default
  | fm + 1, lx21, lx22, lx23 => if (0 : Int32) ≤ (lg_cmp lx21 x2 : Int32) then ((t0_0, t0_1, lx22, (t0_3 + x2 : Int64), t0_4, t0_5, t0_6, t0_7, t0_8, t0_9, t0_10, lx23)) else (F_DR_lengthen_L2 x2 t0_0 t0_1 t0_2 t0_3 t0_4 t0_5 t0_6 t0_7 t0_8 t0_9 t0_10 t1_0 fm (lx21 + 1 : Int64) (lx22 + 1 : Int32) (upd lx23 lx22.toNatClampNeg 0 : (Nat → Int32)))
def F_DR_lengthen (x2 : Int64) (t0_0 : Int32) (t0_1 : Int32) (t0_2 : Int32) (t0_3 : Int64) (t0_4 : Int32) (t0_5 : Int32) (t0_6 : Int32) (t0_7 : Int32) (t0_8 : Int32) (t0_9 : Int32) (t0_10 : Int32) (t1_0 : (Nat → Int32)) : Int32 × Int32 × Int32 × Int64 × Int32 × Int32 × Int32 × Int32 × Int32 × Int32 × Int32 × (Nat → Int32) := F_DR_lengthen_L2 x2 t0_0 t0_1 t0_2 t0_3 t0_4 t0_5 t0_6 t0_7 t0_8 t0_9 t0_10 t1_0 ((x2.toInt - (0 : Int64).toInt).toNat + 1) 0 t0_2 t1_0
def S_DR_lengthen_L2 (x2 : Int64) (t0_0 : Int32) (t0_1 : Int32) (t0_2 : Int32) (t0_3 : Int64) (t0_4 : Int32) (t0_5 : Int32) (t0_6 : Int32) (t0_7 : Int32) (t0_8 : Int32) (t0_9 : Int32) (t0_10 : Int32) (t1_0 : (Nat → Int32)) : Nat → Int64 → Int32 → (Nat → Int32) → Prop
  | 0, _, _, _ => False
  | fm + 1, lx21, lx22, lx23 => if (0 : Int32) ≤ (lg_cmp lx21 x2 : Int32) then (True) else ((0 ≤ lx22.toInt) ∧ ((lx22.toInt ≤ 4399) ∧ (S_DR_lengthen_L2 x2 t0_0 t0_1 t0_2 t0_3 t0_4 t0_5 t0_6 t0_7 t0_8 t0_9 t0_10 t1_0 fm (lx21 + 1 : Int64) (lx22 + 1 : Int32) (upd lx23 lx22.toNatClampNeg 0 : (Nat → Int32)))))
def S_DR_lengthen (x2 : Int64) (t0_0 : Int32) (t0_1 : Int32) (t0_2 : Int32) (t0_3 : Int64) (t0_4 : Int32) (t0_5 : Int32) (t0_6 : Int32) (t0_7 : Int32) (t0_8 : Int32) (t0_9 : Int32) (t0_10 : Int32) (t1_0 : (Nat → Int32)) : Prop := S_DR_lengthen_L2 x2 t0_0 t0_1 t0_2 t0_3 t0_4 t0_5 t0_6 t0_7 t0_8 t0_9 t0_10 t1_0 ((x2.toInt - (0 : Int64).toInt).toNat + 1) 0 t0_2 t1_0
set_option maxRecDepth 100000 in
set_option maxHeartbeats 4000000 in
theorem X_DR_lengthen (l : Launch) (D : va_G) (g : Nat → ClassId) (q : Nat → Nat) (ws : va_W) (x2 : Int64) (hI : q_I (msh g q) q ws) (t0_0 : Int32) (t0_1 : Int32) (t0_2 : Int32) (t0_3 : Int64) (t0_4 : Int32) (t0_5 : Int32) (t0_6 : Int32) (t0_7 : Int32) (t0_8 : Int32) (t0_9 : Int32) (t0_10 : Int32) (hT0 : ws[134]? = (some (q 134, .inr (14, [.int t0_0, .ref (q 135), .int t0_1, .ref (q 136), .ref (q 137), .ref (q 138), .ref (q 139), .ref (q 140), .int t0_2, .long t0_3, .int t0_4, .int t0_5, .ref (q 141), .int t0_6, .ref (q 142), .int t0_7, .ref (q 143), .int t0_8, .ref (q 144), .int t0_9, .int t0_10])) : Option (Nat × va_E))) (t1_0 : (Nat → Int32)) (hT1 : ws[140]? = (some (q 140, .inl (g 0, (4400 : Int32).toNatClampNeg, .inl t1_0)) : Option (Nat × va_E))) (hS : True ∧ S_DR_lengthen x2 t0_0 t0_1 t0_2 t0_3 t0_4 t0_5 t0_6 t0_7 t0_8 t0_9 t0_10 t1_0) : q_mV l y_DR_lengthen prog_15_method_12_code 5 1 0 0 D g [.ref (q 134), .long x2] ws (fun u => q_I (msh g q) q u ∧ q_un ws u [134, 140] ∧ ∃ (u0_0 : Int32) (u0_1 : Int32) (u0_2 : Int32) (u0_3 : Int64) (u0_4 : Int32) (u0_5 : Int32) (u0_6 : Int32) (u0_7 : Int32) (u0_8 : Int32) (u0_9 : Int32) (u0_10 : Int32) (u1_0 : (Nat → Int32)), u[134]? = (some (q 134, .inr (14, [.int u0_0, .ref (q 135), .int u0_1, .ref (q 136), .ref (q 137), .ref (q 138), .ref (q 139), .ref (q 140), .int u0_2, .long u0_3, .int u0_4, .int u0_5, .ref (q 141), .int u0_6, .ref (q 142), .int u0_7, .ref (q 143), .int u0_8, .ref (q 144), .int u0_9, .int u0_10])) : Option (Nat × va_E)) ∧ u[140]? = (some (q 140, .inl (g 0, (4400 : Int32).toNatClampNeg, .inl u1_0)) : Option (Nat × va_E)) ∧ (t0_0.toInt ≤ u0_0.toInt) ∧ (u0_0.toInt ≤ t0_0.toInt) ∧ (t0_1.toInt ≤ u0_1.toInt) ∧ (u0_1.toInt ≤ t0_1.toInt) ∧ (t0_2.toInt ≤ u0_2.toInt) ∧ (t0_4.toInt ≤ u0_4.toInt) ∧ (u0_4.toInt ≤ t0_4.toInt) ∧ (t0_5.toInt ≤ u0_5.toInt) ∧ (u0_5.toInt ≤ t0_5.toInt) ∧ (t0_6.toInt ≤ u0_6.toInt) ∧ (u0_6.toInt ≤ t0_6.toInt) ∧ (t0_7.toInt ≤ u0_7.toInt) ∧ (u0_7.toInt ≤ t0_7.toInt) ∧ (t0_8.toInt ≤ u0_8.toInt) ∧ (u0_8.toInt ≤ t0_8.toInt) ∧ (t0_9.toInt ≤ u0_9.toInt) ∧ (u0_9.toInt ≤ t0_9.toInt) ∧ (t0_10.toInt ≤ u0_10.toInt) ∧ (u0_10.toInt ≤ t0_10.toInt) ∧ (u0_0, u0_1, u0_2, u0_3, u0_4, u0_5, u0_6, u0_7, u0_8, u0_9, u0_10, u1_0) = (F_DR_lengthen x2 t0_0 t0_1 t0_2 t0_3 t0_4 t0_5 t0_6 t0_7 t0_8 t0_9 t0_10 t1_0)) := by
  intro sz
  refine q_into (by decide) (Nat.le_of_ble_eq_true rfl) ?_
  intro p e s m below meth c ls hsz C0 V hl
  have hx := C0.1
  have hb := C0.2.1
  obtain ⟨btt0_1, hZ9⟩ := n_w134 hI hT0
  obtain ⟨btt0_4, hZ9⟩ := hZ9
  obtain ⟨btt0_5, btt0_9⟩ := hZ9
  replace btt0_1 : q_F (0 ≤ t0_1.toInt ∧ t0_1.toInt ≤ 4100) := btt0_1
  replace btt0_4 : q_F (0 ≤ t0_4.toInt ∧ t0_4.toInt ≤ 1) := btt0_4
  replace btt0_5 : q_F (0 ≤ t0_5.toInt ∧ t0_5.toInt ≤ 1) := btt0_5
  replace btt0_9 : q_F (0 ≤ t0_9.toInt ∧ t0_9.toInt ≤ 12200) := btt0_9
  have hF : q_un ws ws [134, 140] := q_u0
  have hl : lv_has ls 5 [(0, .ref (q 134)), (1, .long x2)] := hl
  refine lv_lconst (v := 0) hx hb d_15_12_0 (by decide) ?_
  refine lv_lstore_n (lv' := [(3, .long 0), (0, .ref (q 134)), (1, .long x2)]) hx hb d_15_12_1 rfl hl (by decide) rfl (fun ls hl => ?_)
  refine q_loop (X := Int64 × Int32 × (Nat → Int32)) (fun z H locs ls w28 => q_F (t0_2.toInt ≤ z.1.toInt + z.2.1.toInt) ∧ q_F (z.2.1.toInt ≤ z.1.toInt + t0_2.toInt) ∧ q_F (z.1.toInt + t0_2.toInt ≤ z.2.1.toInt) ∧ q_Wd D g (va_A ws sz) s w28 H locs ∧ lv_has ls 5 [(3, .long z.1), (0, .ref (q 134)), (1, .long x2)] ∧ q_I (msh g q) q w28 ∧ q_un ws w28 [134, 140] ∧ w28[134]? = (some (q 134, .inr (14, [.int t0_0, .ref (q 135), .int t0_1, .ref (q 136), .ref (q 137), .ref (q 138), .ref (q 139), .ref (q 140), .int z.2.1, .long t0_3, .int t0_4, .int t0_5, .ref (q 141), .int t0_6, .ref (q 142), .int t0_7, .ref (q 143), .int t0_8, .ref (q 144), .int t0_9, .int t0_10])) : Option (Nat × va_E)) ∧ w28[140]? = (some (q 140, .inl (g 0, (4400 : Int32).toNatClampNeg, .inl z.2.2)) : Option (Nat × va_E)) ∧ (∃ n, (x2.toInt - z.1.toInt).toNat < n ∧ F_DR_lengthen_L2 x2 t0_0 t0_1 t0_2 t0_3 t0_4 t0_5 t0_6 t0_7 t0_8 t0_9 t0_10 t1_0 n z.1 z.2.1 z.2.2 = (F_DR_lengthen x2 t0_0 t0_1 t0_2 t0_3 t0_4 t0_5 t0_6 t0_7 t0_8 t0_9 t0_10 t1_0) ∧ True ∧ S_DR_lengthen_L2 x2 t0_0 t0_1 t0_2 t0_3 t0_4 t0_5 t0_6 t0_7 t0_8 t0_9 t0_10 t1_0 n z.1 z.2.1 z.2.2)) (fun z => (x2.toInt - z.1.toInt).toNat) ?_ ((0 : Int64), (t0_2 : Int32), (t1_0 : (Nat → Int32))) _ _ _ ws ⟨(show q_F (t0_2.toInt ≤ 0 + t0_2.toInt) from (show t0_2.toInt ≤ 0 + t0_2.toInt from by omega)), (show q_F (t0_2.toInt ≤ 0 + t0_2.toInt) from (show t0_2.toInt ≤ 0 + t0_2.toInt from by omega)), (show q_F (0 + t0_2.toInt ≤ t0_2.toInt) from (show 0 + t0_2.toInt ≤ t0_2.toInt from by omega)), V, q_lw hl (q_lw1 0 rfl (q_lw1 1 rfl (q_lw1 2 rfl q_lw0))), hI, hF, hT0, hT1, ⟨((x2.toInt - (0 : Int64).toInt).toNat + 1), Nat.lt_succ_self _, (show F_DR_lengthen_L2 x2 t0_0 t0_1 t0_2 t0_3 t0_4 t0_5 t0_6 t0_7 t0_8 t0_9 t0_10 t1_0 ((x2.toInt - (0 : Int64).toInt).toNat + 1) 0 t0_2 t1_0 = (F_DR_lengthen x2 t0_0 t0_1 t0_2 t0_3 t0_4 t0_5 t0_6 t0_7 t0_8 t0_9 t0_10 t1_0) from (by rw [F_DR_lengthen.eq_1])), (show True ∧ S_DR_lengthen_L2 x2 t0_0 t0_1 t0_2 t0_3 t0_4 t0_5 t0_6 t0_7 t0_8 t0_9 t0_10 t1_0 ((x2.toInt - (0 : Int64).toInt).toNat + 1) 0 t0_2 t1_0 from (by have h := hS; rw [S_DR_lengthen.eq_1] at h; with_reducible exact h))⟩⟩
  rintro ⟨lx21, lx22, lx23⟩ H locs ls w28 ⟨i24, i25, i26, V, hl, hI, hF, hO29, hO30, ⟨fu33, hf34, hR31, hS32⟩⟩ ih27
  obtain ⟨fm35, rfl⟩ : ∃ m, fu33 = m + 1 := ⟨fu33 - 1, by omega⟩
  replace i24 : q_F (t0_2.toInt ≤ lx21.toInt + lx22.toInt) := i24
  replace i25 : q_F (lx22.toInt ≤ lx21.toInt + t0_2.toInt) := i25
  replace i26 : q_F (lx21.toInt + t0_2.toInt ≤ lx22.toInt) := i26
  replace hl : lv_has ls 5 [(3, .long lx21), (0, .ref (q 134)), (1, .long x2)] := hl
  replace hO29 : w28[134]? = (some (q 134, .inr (14, [.int t0_0, .ref (q 135), .int t0_1, .ref (q 136), .ref (q 137), .ref (q 138), .ref (q 139), .ref (q 140), .int lx22, .long t0_3, .int t0_4, .int t0_5, .ref (q 141), .int t0_6, .ref (q 142), .int t0_7, .ref (q 143), .int t0_8, .ref (q 144), .int t0_9, .int t0_10])) : Option (Nat × va_E)) := hO29
  replace hO30 : w28[140]? = (some (q 140, .inl (g 0, (4400 : Int32).toNatClampNeg, .inl lx23)) : Option (Nat × va_E)) := hO30
  refine lv_lload_n hx hb d_15_12_2 rfl (lv_at hl 0 rfl) ?_
  refine lv_lload_n hx hb d_15_12_3 rfl (lv_at hl 2 rfl) ?_
  refine W.lcmp hx hb d_15_12_4 ?_
  obtain ⟨a36, e37⟩ := q_nm (lg_cmp lx21 x2 : Int32)
  refine q_ti (v := a36) e37 ?_
  have b38 : q_F (-1 ≤ a36.toInt ∧ a36.toInt ≤ 1 ∧ ((a36.toInt = -1 ∧ lx21.toInt < x2.toInt) ∨ (a36.toInt = 0 ∧ lx21.toInt = x2.toInt) ∨ (a36.toInt = 1 ∧ x2.toInt < lx21.toInt))) := (by rw [← e37]; show -1 ≤ (lg_cmp lx21 x2 : Int32).toInt ∧ (lg_cmp lx21 x2 : Int32).toInt ≤ 1 ∧ (((lg_cmp lx21 x2 : Int32).toInt = -1 ∧ lx21.toInt < x2.toInt) ∨ ((lg_cmp lx21 x2 : Int32).toInt = 0 ∧ lx21.toInt = x2.toInt) ∨ ((lg_cmp lx21 x2 : Int32).toInt = 1 ∧ x2.toInt < lx21.toInt)); exact s_lcmp)
  refine lv_if_ge (tgt := 35) hx hb d_15_12_5 (by decide) (fun c39 => ?_) (fun c39 => ?_)
  ·
    refine lv_aload_n hx hb d_15_12_35 rfl (lv_at hl 1 rfl) ?_
    refine lv_aload_n hx hb d_15_12_36 rfl (lv_at hl 1 rfl) ?_
    refine q_get (ci := 14) (j := 9) (v := .long t0_3) C0 V i_DR rfl rfl hO29 (by decide) w_2012 rfl d_15_12_37 ?_
    refine lv_lload_n hx hb d_15_12_40 rfl (lv_at hl 2 rfl) ?_
    refine lv_ladd hx hb d_15_12_41 ?_
    obtain ⟨j41, e42⟩ := q_nm (t0_3 + x2 : Int64)
    refine q_tl (v := j41) e42 ?_
    refine q_put (ci := 14) (j := 9) (v := .long j41) (ty := .long) C0 V i_DR o_DR n_DR rfl rfl hO29 (by decide) w_2012 rfl rfl rfl rfl (Nat.le_of_ble_eq_true rfl) d_15_12_42 (fun H locs w43 hu44 hO29 V => ?_)
    replace hO29 : w43[134]? = (some (q 134, .inr (14, [.int t0_0, .ref (q 135), .int t0_1, .ref (q 136), .ref (q 137), .ref (q 138), .ref (q 139), .ref (q 140), .int lx22, .long j41, .int t0_4, .int t0_5, .ref (q 141), .int t0_6, .ref (q 142), .int t0_7, .ref (q 143), .int t0_8, .ref (q 144), .int t0_9, .int t0_10])) : Option (Nat × va_E)) := hO29
    replace hI := n_p134 hI hu44 hO29 (by first | with_reducible exact q_fe btt0_1 | exact ⟨(by have t1 : 0 ≤ t0_1.toInt ∧ t0_1.toInt ≤ 4100 := btt0_1; omega), (by have t1 : 0 ≤ t0_1.toInt ∧ t0_1.toInt ≤ 4100 := btt0_1; omega)⟩) (by first | with_reducible exact q_fe btt0_4 | exact ⟨(by have t1 : 0 ≤ t0_4.toInt ∧ t0_4.toInt ≤ 1 := btt0_4; omega), (by have t1 : 0 ≤ t0_4.toInt ∧ t0_4.toInt ≤ 1 := btt0_4; omega)⟩) (by first | with_reducible exact q_fe btt0_5 | exact ⟨(by have t1 : 0 ≤ t0_5.toInt ∧ t0_5.toInt ≤ 1 := btt0_5; omega), (by have t1 : 0 ≤ t0_5.toInt ∧ t0_5.toInt ≤ 1 := btt0_5; omega)⟩) (by first | with_reducible exact q_fe btt0_9 | exact ⟨(by have t1 : 0 ≤ t0_9.toInt ∧ t0_9.toInt ≤ 12200 := btt0_9; omega), (by have t1 : 0 ≤ t0_9.toInt ∧ t0_9.toInt ≤ 12200 := btt0_9; omega)⟩)
    replace hO30 := (hu44 _ (by decide)).trans hO30
    replace hF := q_us hF hu44 (by simp)
    exact q_retv C0 V (⟨hI, hF, t0_0, t0_1, lx22, j41, t0_4, t0_5, t0_6, t0_7, t0_8, t0_9, t0_10, lx23, hO29, hO30, (show t0_0.toInt ≤ t0_0.toInt from (by omega)), (show t0_0.toInt ≤ t0_0.toInt from (by omega)), (show t0_1.toInt ≤ t0_1.toInt from (by omega)), (show t0_1.toInt ≤ t0_1.toInt from (by omega)), (show t0_2.toInt ≤ lx22.toInt from (by have t1 : t0_2.toInt ≤ lx21.toInt + lx22.toInt := i24; have t2 : lx21.toInt + t0_2.toInt ≤ lx22.toInt := i26; omega)), (show t0_4.toInt ≤ t0_4.toInt from (by omega)), (show t0_4.toInt ≤ t0_4.toInt from (by omega)), (show t0_5.toInt ≤ t0_5.toInt from (by omega)), (show t0_5.toInt ≤ t0_5.toInt from (by omega)), (show t0_6.toInt ≤ t0_6.toInt from (by omega)), (show t0_6.toInt ≤ t0_6.toInt from (by omega)), (show t0_7.toInt ≤ t0_7.toInt from (by omega)), (show t0_7.toInt ≤ t0_7.toInt from (by omega)), (show t0_8.toInt ≤ t0_8.toInt from (by omega)), (show t0_8.toInt ≤ t0_8.toInt from (by omega)), (show t0_9.toInt ≤ t0_9.toInt from (by omega)), (show t0_9.toInt ≤ t0_9.toInt from (by omega)), (show t0_10.toInt ≤ t0_10.toInt from (by omega)), (show t0_10.toInt ≤ t0_10.toInt from (by omega)), (show (t0_0, t0_1, lx22, j41, t0_4, t0_5, t0_6, t0_7, t0_8, t0_9, t0_10, lx23) = (F_DR_lengthen x2 t0_0 t0_1 t0_2 t0_3 t0_4 t0_5 t0_6 t0_7 t0_8 t0_9 t0_10 t1_0) from Eq.trans (by have c39x := c39; rw [← e37] at c39x; rw [← e42, F_DR_lengthen_L2.eq_2, if_pos c39x]) hR31)⟩) d_15_12_45
  ·
    have b45 : q_F (a36.toInt < 0) := (q_nleI c39)
    refine lv_aload_n hx hb d_15_12_8 rfl (lv_at hl 1 rfl) ?_
    refine q_get (ci := 14) (j := 7) (v := .ref (q 140)) C0 V i_DR rfl rfl hO29 (by decide) w_2010 rfl d_15_12_9 ?_
    refine lv_aload_n hx hb d_15_12_12 rfl (lv_at hl 1 rfl) ?_
    refine q_get (ci := 14) (j := 8) (v := .int lx22) C0 V i_DR rfl rfl hO29 (by decide) w_2011 rfl d_15_12_13 ?_
    refine lv_iconst (v := 0) hx hb d_15_12_16 (by decide) ?_
    have ob46 : q_F (0 ≤ lx22.toInt) := (by have h := hS32; rw [S_DR_lengthen_L2.eq_2] at h; have c39x := c39; rw [← e37] at c39x; rw [if_neg c39x] at h; exact h.2.1)
    have ob47 : q_F (lx22.toInt ≤ 4399) := (by have h := hS32; rw [S_DR_lengthen_L2.eq_2] at h; have c39x := c39; rw [← e37] at c39x; rw [if_neg c39x] at h; replace h := q_s2 h; exact h.2.1)
    refine q_iast C0 V hO30 (q_ix (x := lx22.toInt) rfl (by first | with_reducible exact q_fe ob46 | (have t1 : 0 ≤ lx22.toInt := ob46; omega)) (by have t1 : 0 ≤ lx22.toInt := ob46; have t2 : lx22.toInt ≤ 4399 := ob47; have e9 : (((4400 : Int32).toNatClampNeg : Nat) : Int) = 4400 := (by decide); omega)) d_15_12_17 (fun H locs w48 hu49 hO30 V => ?_)
    replace hI := n_ai' hI (n_r140 g q).1 hu49 hO30 (q_updB (fun _ => s_bnd) s_bnd)
    replace hO29 := (hu49 _ (by decide)).trans hO29
    replace hF := q_us hF hu49 (by simp)
    obtain ⟨f50, e51⟩ := q_nm (upd lx23 lx22.toNatClampNeg 0 : (Nat → Int32))
    rw [e51] at hO30
    refine lv_aload_n hx hb d_15_12_18 rfl (lv_at hl 1 rfl) ?_
    refine lv_dup hx hb d_15_12_19 rfl ?_
    refine q_get (ci := 14) (j := 8) (v := .int lx22) C0 V i_DR rfl rfl hO29 (by decide) w_2011 rfl d_15_12_20 ?_
    refine lv_iconst (v := 1) hx hb d_15_12_23 (by decide) ?_
    refine lv_iadd hx hb d_15_12_24 ?_
    obtain ⟨a52, e53⟩ := q_nm (lx22 + 1 : Int32)
    refine q_ti (v := a52) e53 ?_
    have b54 : q_F (a52.toInt = lx22.toInt + 1) := (by rw [← e53]; show (lx22 + 1 : Int32).toInt = lx22.toInt + 1; exact q_addI (x := lx22.toInt) (y := 1) rfl (by decide) (by have t1 : 0 ≤ lx22.toInt := ob46; have t2 : lx22.toInt ≤ 4399 := ob47; omega) (by have t1 : 0 ≤ lx22.toInt := ob46; have t2 : lx22.toInt ≤ 4399 := ob47; omega))
    refine q_put (ci := 14) (j := 8) (v := .int a52) (ty := .int) C0 V i_DR o_DR n_DR rfl rfl hO29 (by decide) w_2011 rfl rfl rfl rfl (Nat.le_of_ble_eq_true rfl) d_15_12_25 (fun H locs w55 hu56 hO29 V => ?_)
    replace hO29 : w55[134]? = (some (q 134, .inr (14, [.int t0_0, .ref (q 135), .int t0_1, .ref (q 136), .ref (q 137), .ref (q 138), .ref (q 139), .ref (q 140), .int a52, .long t0_3, .int t0_4, .int t0_5, .ref (q 141), .int t0_6, .ref (q 142), .int t0_7, .ref (q 143), .int t0_8, .ref (q 144), .int t0_9, .int t0_10])) : Option (Nat × va_E)) := hO29
    replace hI := n_p134 hI hu56 hO29 (by first | with_reducible exact q_fe btt0_1 | exact ⟨(by have t1 : 0 ≤ t0_1.toInt ∧ t0_1.toInt ≤ 4100 := btt0_1; omega), (by have t1 : 0 ≤ t0_1.toInt ∧ t0_1.toInt ≤ 4100 := btt0_1; omega)⟩) (by first | with_reducible exact q_fe btt0_4 | exact ⟨(by have t1 : 0 ≤ t0_4.toInt ∧ t0_4.toInt ≤ 1 := btt0_4; omega), (by have t1 : 0 ≤ t0_4.toInt ∧ t0_4.toInt ≤ 1 := btt0_4; omega)⟩) (by first | with_reducible exact q_fe btt0_5 | exact ⟨(by have t1 : 0 ≤ t0_5.toInt ∧ t0_5.toInt ≤ 1 := btt0_5; omega), (by have t1 : 0 ≤ t0_5.toInt ∧ t0_5.toInt ≤ 1 := btt0_5; omega)⟩) (by first | with_reducible exact q_fe btt0_9 | exact ⟨(by have t1 : 0 ≤ t0_9.toInt ∧ t0_9.toInt ≤ 12200 := btt0_9; omega), (by have t1 : 0 ≤ t0_9.toInt ∧ t0_9.toInt ≤ 12200 := btt0_9; omega)⟩)
    replace hO30 := (hu56 _ (by decide)).trans hO30
    replace hF := q_us hF hu56 (by simp)
    refine lv_lload_n hx hb d_15_12_28 rfl (lv_at hl 0 rfl) ?_
    refine lv_lconst (v := 1) hx hb d_15_12_29 (by decide) ?_
    refine lv_ladd hx hb d_15_12_30 ?_
    obtain ⟨j57, e58⟩ := q_nm (lx21 + 1 : Int64)
    refine q_tl (v := j57) e58 ?_
    have b59 : q_F (j57.toInt = lx21.toInt + 1) := (by rw [← e58]; show (lx21 + 1 : Int64).toInt = lx21.toInt + 1; exact q_addL (x := lx21.toInt) (y := 1) rfl (by decide) (by have t1 : t0_2.toInt ≤ lx21.toInt + lx22.toInt := i24; have t2 : lx22.toInt ≤ lx21.toInt + t0_2.toInt := i25; have t3 : lx21.toInt + t0_2.toInt ≤ lx22.toInt := i26; have _ := q_lo32 (x := lx22); have _ := q_hi32 (x := lx22); have _ := q_lo32 (x := t0_2); have _ := q_hi32 (x := t0_2); omega) (by have t1 : t0_2.toInt ≤ lx21.toInt + lx22.toInt := i24; have t2 : lx22.toInt ≤ lx21.toInt + t0_2.toInt := i25; have t3 : lx21.toInt + t0_2.toInt ≤ lx22.toInt := i26; have _ := q_lo32 (x := lx22); have _ := q_hi32 (x := lx22); have _ := q_lo32 (x := t0_2); have _ := q_hi32 (x := t0_2); omega))
    refine lv_lstore_n (lv' := [(3, .long j57), (0, .ref (q 134)), (1, .long x2)]) hx hb d_15_12_31 rfl hl (by decide) rfl (fun ls hl => ?_)
    refine lv_goto (tgt := 2) hx hb d_15_12_32 (by decide) ?_
    exact ih27 ((j57 : Int64), (a52 : Int32), (f50 : (Nat → Int32))) _ _ _ _ (show (x2.toInt - j57.toInt).toNat < (x2.toInt - lx21.toInt).toNat from by have t1 : j57.toInt = lx21.toInt + 1 := b59; have t2 : -1 ≤ a36.toInt ∧ a36.toInt ≤ 1 ∧ ((a36.toInt = -1 ∧ lx21.toInt < x2.toInt) ∨ (a36.toInt = 0 ∧ lx21.toInt = x2.toInt) ∨ (a36.toInt = 1 ∧ x2.toInt < lx21.toInt)) := b38; have t3 : a36.toInt < 0 := b45; omega) ⟨(show q_F (t0_2.toInt ≤ j57.toInt + a52.toInt) from (show t0_2.toInt ≤ j57.toInt + a52.toInt from by have t1 : t0_2.toInt ≤ lx21.toInt + lx22.toInt := i24; have t2 : a52.toInt = lx22.toInt + 1 := b54; have t3 : j57.toInt = lx21.toInt + 1 := b59; omega)), (show q_F (a52.toInt ≤ j57.toInt + t0_2.toInt) from (show a52.toInt ≤ j57.toInt + t0_2.toInt from by have t1 : lx22.toInt ≤ lx21.toInt + t0_2.toInt := i25; have t2 : a52.toInt = lx22.toInt + 1 := b54; have t3 : j57.toInt = lx21.toInt + 1 := b59; omega)), (show q_F (j57.toInt + t0_2.toInt ≤ a52.toInt) from (show j57.toInt + t0_2.toInt ≤ a52.toInt from by have t1 : lx21.toInt + t0_2.toInt ≤ lx22.toInt := i26; have t2 : a52.toInt = lx22.toInt + 1 := b54; have t3 : j57.toInt = lx21.toInt + 1 := b59; omega)), V, q_lw hl (q_lw1 0 rfl (q_lw1 1 rfl (q_lw1 2 rfl q_lw0))), hI, hF, hO29, hO30, ⟨fm35, Nat.lt_of_lt_of_le (show (x2.toInt - j57.toInt).toNat < (x2.toInt - lx21.toInt).toNat from by have t1 : j57.toInt = lx21.toInt + 1 := b59; have t2 : -1 ≤ a36.toInt ∧ a36.toInt ≤ 1 ∧ ((a36.toInt = -1 ∧ lx21.toInt < x2.toInt) ∨ (a36.toInt = 0 ∧ lx21.toInt = x2.toInt) ∨ (a36.toInt = 1 ∧ x2.toInt < lx21.toInt)) := b38; have t3 : a36.toInt < 0 := b45; omega) (Nat.le_of_lt_succ hf34), (show F_DR_lengthen_L2 x2 t0_0 t0_1 t0_2 t0_3 t0_4 t0_5 t0_6 t0_7 t0_8 t0_9 t0_10 t1_0 fm35 j57 a52 f50 = (F_DR_lengthen x2 t0_0 t0_1 t0_2 t0_3 t0_4 t0_5 t0_6 t0_7 t0_8 t0_9 t0_10 t1_0) from Eq.trans (by have c39x := c39; rw [← e37] at c39x; rw [← e58, ← e53, ← e51, F_DR_lengthen_L2.eq_2, if_neg c39x]) hR31), (show True ∧ S_DR_lengthen_L2 x2 t0_0 t0_1 t0_2 t0_3 t0_4 t0_5 t0_6 t0_7 t0_8 t0_9 t0_10 t1_0 fm35 j57 a52 f50 from (by rw [← e58, ← e53, ← e51]; have h := hS32; rw [S_DR_lengthen_L2.eq_2] at h; have c39x := c39; rw [← e37] at c39x; rw [if_neg c39x] at h; replace h := q_s2 h; replace h := q_s2 h; with_reducible exact h))⟩⟩
theorem d_15_9_0 : decode prog_15_method_9_code 0 = .ok (.aload_n 0, 1) := by decide +kernel
theorem d_15_9_1 : decode prog_15_method_9_code 1 = .ok (.getfield 52, 3) := by decide +kernel
theorem d_15_9_4 : decode prog_15_method_9_code 4 = .ok (.istore_n 2, 1) := by decide +kernel
theorem d_15_9_5 : decode prog_15_method_9_code 5 = .ok (.iload_n 1, 1) := by decide +kernel
theorem d_15_9_14 : decode prog_15_method_9_code 14 = .ok (.istore_n 3, 1) := by decide +kernel
theorem d_15_9_15 : decode prog_15_method_9_code 15 = .ok (.iload_n 3, 1) := by decide +kernel
theorem d_15_9_16 : decode prog_15_method_9_code 16 = .ok (.aload_n 0, 1) := by decide +kernel
theorem d_15_9_17 : decode prog_15_method_9_code 17 = .ok (.getfield 45, 3) := by decide +kernel
theorem d_15_9_20 : decode prog_15_method_9_code 20 = .ok (.if_icmp .ge 28, 3) := by decide +kernel
theorem d_15_9_48 : decode prog_15_method_9_code 48 = .ok (.iload_n 2, 1) := by decide +kernel
theorem d_15_9_49 : decode prog_15_method_9_code 49 = .ok (.ireturn, 1) := by decide +kernel
theorem d_15_9_23 : decode prog_15_method_9_code 23 = .ok (.iload_n 2, 1) := by decide +kernel
theorem d_15_9_24 : decode prog_15_method_9_code 24 = .ok (.ifCond .ne 12, 3) := by decide +kernel
theorem d_15_9_36 : decode prog_15_method_9_code 36 = .ok (.iconst 1, 1) := by decide +kernel
theorem d_15_9_37 : decode prog_15_method_9_code 37 = .ok (.goto 4, 3) := by decide +kernel
theorem d_15_9_41 : decode prog_15_method_9_code 41 = .ok (.istore_n 2, 1) := by decide +kernel
theorem d_15_9_42 : decode prog_15_method_9_code 42 = .ok (.iinc 3 1, 3) := by decide +kernel
theorem d_15_9_45 : decode prog_15_method_9_code 45 = .ok (.goto (-30), 3) := by decide +kernel
theorem d_15_9_27 : decode prog_15_method_9_code 27 = .ok (.aload_n 0, 1) := by decide +kernel
theorem d_15_9_28 : decode prog_15_method_9_code 28 = .ok (.getfield 26, 3) := by decide +kernel
theorem d_15_9_31 : decode prog_15_method_9_code 31 = .ok (.iload_n 3, 1) := by decide +kernel
theorem d_15_9_32 : decode prog_15_method_9_code 32 = .ok (.iaload, 1) := by decide +kernel
theorem d_15_9_33 : decode prog_15_method_9_code 33 = .ok (.ifCond .eq 7, 3) := by decide +kernel
theorem d_15_9_40 : decode prog_15_method_9_code 40 = .ok (.iconst 0, 1) := by decide +kernel
theorem d_15_9_6 : decode prog_15_method_9_code 6 = .ok (.ifCond .ge 7, 3) := by decide +kernel
theorem d_15_9_13 : decode prog_15_method_9_code 13 = .ok (.iload_n 1, 1) := by decide +kernel
theorem d_15_9_9 : decode prog_15_method_9_code 9 = .ok (.iconst 0, 1) := by decide +kernel
theorem d_15_9_10 : decode prog_15_method_9_code 10 = .ok (.goto 4, 3) := by decide +kernel
def y_DR_isMore : MethodName := ⟨"NumberHouseModel$DecimalRows", "isMore", "(I)Z"⟩
def F_DR_isMore_L15 (x2 : Int32) (t0_0 : Int32) (t0_1 : Int32) (t0_2 : Int32) (t0_3 : Int64) (t0_4 : Int32) (t0_5 : Int32) (t0_6 : Int32) (t0_7 : Int32) (t0_8 : Int32) (t0_9 : Int32) (t0_10 : Int32) (t1_0 : (Nat → Int32)) (lx20 : Int32) : Nat → Int32 → Int32 → Int32
  | 0, _, _ => default
  | fm + 1, lx33, lx34 => if t0_2 ≤ lx33 then (lx34) else (if lx34 = (0 : Int32) then (if (t1_0 lx33.toNatClampNeg : Int32) = (0 : Int32) then (F_DR_isMore_L15 x2 t0_0 t0_1 t0_2 t0_3 t0_4 t0_5 t0_6 t0_7 t0_8 t0_9 t0_10 t1_0 lx20 fm (lx33 + 1 : Int32) 0) else (F_DR_isMore_L15 x2 t0_0 t0_1 t0_2 t0_3 t0_4 t0_5 t0_6 t0_7 t0_8 t0_9 t0_10 t1_0 lx20 fm (lx33 + 1 : Int32) 1)) else (F_DR_isMore_L15 x2 t0_0 t0_1 t0_2 t0_3 t0_4 t0_5 t0_6 t0_7 t0_8 t0_9 t0_10 t1_0 lx20 fm (lx33 + 1 : Int32) 1))
def F_DR_isMore_J14 (x2 : Int32) (t0_0 : Int32) (t0_1 : Int32) (t0_2 : Int32) (t0_3 : Int64) (t0_4 : Int32) (t0_5 : Int32) (t0_6 : Int32) (t0_7 : Int32) (t0_8 : Int32) (t0_9 : Int32) (t0_10 : Int32) (t1_0 : (Nat → Int32)) (lx20 : Int32) : Int32 := F_DR_isMore_L15 x2 t0_0 t0_1 t0_2 t0_3 t0_4 t0_5 t0_6 t0_7 t0_8 t0_9 t0_10 t1_0 lx20 ((t0_2.toInt - lx20.toInt).toNat + 1) lx20 t0_4
def F_DR_isMore (x2 : Int32) (t0_0 : Int32) (t0_1 : Int32) (t0_2 : Int32) (t0_3 : Int64) (t0_4 : Int32) (t0_5 : Int32) (t0_6 : Int32) (t0_7 : Int32) (t0_8 : Int32) (t0_9 : Int32) (t0_10 : Int32) (t1_0 : (Nat → Int32)) : Int32 := if (0 : Int32) ≤ x2 then (F_DR_isMore_J14 x2 t0_0 t0_1 t0_2 t0_3 t0_4 t0_5 t0_6 t0_7 t0_8 t0_9 t0_10 t1_0 x2) else (F_DR_isMore_J14 x2 t0_0 t0_1 t0_2 t0_3 t0_4 t0_5 t0_6 t0_7 t0_8 t0_9 t0_10 t1_0 0)
def S_DR_isMore_L15 (x2 : Int32) (t0_0 : Int32) (t0_1 : Int32) (t0_2 : Int32) (t0_3 : Int64) (t0_4 : Int32) (t0_5 : Int32) (t0_6 : Int32) (t0_7 : Int32) (t0_8 : Int32) (t0_9 : Int32) (t0_10 : Int32) (t1_0 : (Nat → Int32)) (lx20 : Int32) : Nat → Int32 → Int32 → Prop
  | 0, _, _ => False
  | fm + 1, lx33, lx34 => if t0_2 ≤ lx33 then (True) else (if lx34 = (0 : Int32) then ((lx33.toInt ≤ 4399) ∧ (if (t1_0 lx33.toNatClampNeg : Int32) = (0 : Int32) then (S_DR_isMore_L15 x2 t0_0 t0_1 t0_2 t0_3 t0_4 t0_5 t0_6 t0_7 t0_8 t0_9 t0_10 t1_0 lx20 fm (lx33 + 1 : Int32) 0) else (S_DR_isMore_L15 x2 t0_0 t0_1 t0_2 t0_3 t0_4 t0_5 t0_6 t0_7 t0_8 t0_9 t0_10 t1_0 lx20 fm (lx33 + 1 : Int32) 1))) else (S_DR_isMore_L15 x2 t0_0 t0_1 t0_2 t0_3 t0_4 t0_5 t0_6 t0_7 t0_8 t0_9 t0_10 t1_0 lx20 fm (lx33 + 1 : Int32) 1))
def S_DR_isMore_J14 (x2 : Int32) (t0_0 : Int32) (t0_1 : Int32) (t0_2 : Int32) (t0_3 : Int64) (t0_4 : Int32) (t0_5 : Int32) (t0_6 : Int32) (t0_7 : Int32) (t0_8 : Int32) (t0_9 : Int32) (t0_10 : Int32) (t1_0 : (Nat → Int32)) (lx20 : Int32) : Prop := S_DR_isMore_L15 x2 t0_0 t0_1 t0_2 t0_3 t0_4 t0_5 t0_6 t0_7 t0_8 t0_9 t0_10 t1_0 lx20 ((t0_2.toInt - lx20.toInt).toNat + 1) lx20 t0_4
def S_DR_isMore (x2 : Int32) (t0_0 : Int32) (t0_1 : Int32) (t0_2 : Int32) (t0_3 : Int64) (t0_4 : Int32) (t0_5 : Int32) (t0_6 : Int32) (t0_7 : Int32) (t0_8 : Int32) (t0_9 : Int32) (t0_10 : Int32) (t1_0 : (Nat → Int32)) : Prop := if (0 : Int32) ≤ x2 then (S_DR_isMore_J14 x2 t0_0 t0_1 t0_2 t0_3 t0_4 t0_5 t0_6 t0_7 t0_8 t0_9 t0_10 t1_0 x2) else (S_DR_isMore_J14 x2 t0_0 t0_1 t0_2 t0_3 t0_4 t0_5 t0_6 t0_7 t0_8 t0_9 t0_10 t1_0 0)
set_option maxRecDepth 100000 in
set_option maxHeartbeats 4000000 in
theorem X_DR_isMore (l : Launch) (D : va_G) (g : Nat → ClassId) (q : Nat → Nat) (ws : va_W) (x2 : Int32) (hI : q_I (msh g q) q ws) (t0_0 : Int32) (t0_1 : Int32) (t0_2 : Int32) (t0_3 : Int64) (t0_4 : Int32) (t0_5 : Int32) (t0_6 : Int32) (t0_7 : Int32) (t0_8 : Int32) (t0_9 : Int32) (t0_10 : Int32) (hT0 : ws[134]? = (some (q 134, .inr (14, [.int t0_0, .ref (q 135), .int t0_1, .ref (q 136), .ref (q 137), .ref (q 138), .ref (q 139), .ref (q 140), .int t0_2, .long t0_3, .int t0_4, .int t0_5, .ref (q 141), .int t0_6, .ref (q 142), .int t0_7, .ref (q 143), .int t0_8, .ref (q 144), .int t0_9, .int t0_10])) : Option (Nat × va_E))) (t1_0 : (Nat → Int32)) (hT1 : ws[140]? = (some (q 140, .inl (g 0, (4400 : Int32).toNatClampNeg, .inl t1_0)) : Option (Nat × va_E))) (hS : True ∧ S_DR_isMore x2 t0_0 t0_1 t0_2 t0_3 t0_4 t0_5 t0_6 t0_7 t0_8 t0_9 t0_10 t1_0) : q_mI l y_DR_isMore prog_15_method_9_code 4 (.boolean) 1 0 0 D g [.ref (q 134), .int x2] ws (fun r u => ws = u ∧ (r.toInt ≤ 1) ∧ (t0_4.toInt ≤ r.toInt) ∧ r = (F_DR_isMore x2 t0_0 t0_1 t0_2 t0_3 t0_4 t0_5 t0_6 t0_7 t0_8 t0_9 t0_10 t1_0)) := by
  intro sz
  refine q_into (by decide) (Nat.le_of_ble_eq_true rfl) ?_
  intro p e s m below meth c ls hsz C0 V hl
  have hx := C0.1
  have hb := C0.2.1
  have hZ9 := (n_w134 hI hT0).2
  obtain ⟨btt0_4, hZ9⟩ := hZ9
  obtain ⟨-, btt0_9⟩ := hZ9
  replace btt0_4 : q_F (0 ≤ t0_4.toInt ∧ t0_4.toInt ≤ 1) := btt0_4
  clear btt0_9
  have hl : lv_has ls 4 [(0, .ref (q 134)), (1, .int x2)] := hl
  refine lv_aload_n hx hb d_15_9_0 rfl (lv_at hl 0 rfl) ?_
  refine q_get (ci := 14) (j := 10) (v := .int t0_4) C0 V i_DR rfl rfl hT0 (by decide) w_2013 rfl d_15_9_1 ?_
  refine lv_istore_n (lv' := [(2, .int t0_4), (0, .ref (q 134)), (1, .int x2)]) hx hb d_15_9_4 rfl hl (by decide) rfl (fun ls hl => ?_)
  refine lv_iload_n hx hb d_15_9_5 rfl (lv_at hl 2 rfl) ?_
  refine q_join (X := Int32) (fun z H locs ls _ => q_F (0 ≤ z.toInt) ∧ q_F (x2.toInt ≤ z.toInt) ∧ q_Wd D g (va_A ws sz) s ws H locs ∧ lv_has ls 4 [(2, .int t0_4), (0, .ref (q 134))] ∧ F_DR_isMore_J14 x2 t0_0 t0_1 t0_2 t0_3 t0_4 t0_5 t0_6 t0_7 t0_8 t0_9 t0_10 t1_0 z = (F_DR_isMore x2 t0_0 t0_1 t0_2 t0_3 t0_4 t0_5 t0_6 t0_7 t0_8 t0_9 t0_10 t1_0) ∧ True ∧ S_DR_isMore_J14 x2 t0_0 t0_1 t0_2 t0_3 t0_4 t0_5 t0_6 t0_7 t0_8 t0_9 t0_10 t1_0 z) (fun z => [.int z]) 14 0 0 ?_ ?_
  ·
    rintro lx20 H locs ls _ hZ9
    obtain ⟨i24, hZ9⟩ := hZ9
    replace hZ9 := hZ9.2
    obtain ⟨V, hZ9⟩ := hZ9
    obtain ⟨hl, hZ9⟩ := hZ9
    obtain ⟨hR26, hS27⟩ := hZ9
    replace i24 : q_F (0 ≤ lx20.toInt) := i24
    replace hl : lv_has ls 4 [(2, .int t0_4), (0, .ref (q 134))] := hl
    refine lv_istore_n (lv' := [(3, .int lx20), (2, .int t0_4), (0, .ref (q 134))]) hx hb d_15_9_14 rfl hl (by decide) rfl (fun ls hl => ?_)
    refine q_loop (X := Int32 × Int32) (fun z H locs ls _ => q_F (z.2.toInt ≤ 1) ∧ q_F (t0_4.toInt ≤ z.2.toInt) ∧ q_F (z.2.toInt + lx20.toInt ≤ z.1.toInt + t0_4.toInt) ∧ q_Wd D g (va_A ws sz) s ws H locs ∧ lv_has ls 4 [(3, .int z.1), (2, .int z.2), (0, .ref (q 134))] ∧ (∃ n, (t0_2.toInt - z.1.toInt).toNat < n ∧ F_DR_isMore_L15 x2 t0_0 t0_1 t0_2 t0_3 t0_4 t0_5 t0_6 t0_7 t0_8 t0_9 t0_10 t1_0 lx20 n z.1 z.2 = (F_DR_isMore x2 t0_0 t0_1 t0_2 t0_3 t0_4 t0_5 t0_6 t0_7 t0_8 t0_9 t0_10 t1_0) ∧ True ∧ S_DR_isMore_L15 x2 t0_0 t0_1 t0_2 t0_3 t0_4 t0_5 t0_6 t0_7 t0_8 t0_9 t0_10 t1_0 lx20 n z.1 z.2)) (fun z => (t0_2.toInt - z.1.toInt).toNat) ?_ ((lx20 : Int32), (t0_4 : Int32)) _ _ _ ws ⟨(show q_F (t0_4.toInt ≤ 1) from (show t0_4.toInt ≤ 1 from by have t1 : 0 ≤ t0_4.toInt ∧ t0_4.toInt ≤ 1 := btt0_4; omega)), (show q_F (t0_4.toInt ≤ t0_4.toInt) from (show t0_4.toInt ≤ t0_4.toInt from by omega)), (show q_F (t0_4.toInt + lx20.toInt ≤ lx20.toInt + t0_4.toInt) from (show t0_4.toInt + lx20.toInt ≤ lx20.toInt + t0_4.toInt from by omega)), V, q_lw hl (q_lw1 0 rfl (q_lw1 1 rfl (q_lw1 2 rfl q_lw0))), ⟨((t0_2.toInt - lx20.toInt).toNat + 1), Nat.lt_succ_self _, (show F_DR_isMore_L15 x2 t0_0 t0_1 t0_2 t0_3 t0_4 t0_5 t0_6 t0_7 t0_8 t0_9 t0_10 t1_0 lx20 ((t0_2.toInt - lx20.toInt).toNat + 1) lx20 t0_4 = (F_DR_isMore x2 t0_0 t0_1 t0_2 t0_3 t0_4 t0_5 t0_6 t0_7 t0_8 t0_9 t0_10 t1_0) from Eq.trans (by rw [F_DR_isMore_J14.eq_1]) hR26), (show True ∧ S_DR_isMore_L15 x2 t0_0 t0_1 t0_2 t0_3 t0_4 t0_5 t0_6 t0_7 t0_8 t0_9 t0_10 t1_0 lx20 ((t0_2.toInt - lx20.toInt).toNat + 1) lx20 t0_4 from (by have h := hS27; rw [S_DR_isMore_J14.eq_1] at h; with_reducible exact h))⟩⟩
    rintro ⟨lx33, lx34⟩ H locs ls _ ⟨i35, i36, i37, V, hl, ⟨fu41, hf42, hR39, hS40⟩⟩ ih38
    obtain ⟨fm43, rfl⟩ : ∃ m, fu41 = m + 1 := ⟨fu41 - 1, by omega⟩
    replace i35 : q_F (lx34.toInt ≤ 1) := i35
    replace i36 : q_F (t0_4.toInt ≤ lx34.toInt) := i36
    replace i37 : q_F (lx34.toInt + lx20.toInt ≤ lx33.toInt + t0_4.toInt) := i37
    replace hl : lv_has ls 4 [(3, .int lx33), (2, .int lx34), (0, .ref (q 134))] := hl
    refine lv_iload_n hx hb d_15_9_15 rfl (lv_at hl 0 rfl) ?_
    refine lv_aload_n hx hb d_15_9_16 rfl (lv_at hl 2 rfl) ?_
    refine q_get (ci := 14) (j := 8) (v := .int t0_2) C0 V i_DR rfl rfl hT0 (by decide) w_2011 rfl d_15_9_17 ?_
    refine lv_icmp_ge (tgt := 48) hx hb d_15_9_20 (by decide) (fun c44 => ?_) (fun c44 => ?_)
    ·
      refine lv_iload_n hx hb d_15_9_48 rfl (lv_at hl 1 rfl) ?_
      exact q_retz C0 V (q_nz01 (q_Ile (x := 0) (y := lx34.toInt) (by decide) rfl (by have t1 : 0 ≤ t0_4.toInt ∧ t0_4.toInt ≤ 1 := btt0_4; have t2 : t0_4.toInt ≤ lx34.toInt := i36; omega)) (q_Ile (x := lx34.toInt) (y := 1) rfl (by decide) (by first | with_reducible exact q_fe i35 | (have t1 : lx34.toInt ≤ 1 := i35; omega)))) (⟨rfl, (show lx34.toInt ≤ 1 from (by first | with_reducible exact q_fe i35 | (have t1 : lx34.toInt ≤ 1 := i35; omega))), (show t0_4.toInt ≤ lx34.toInt from (by first | with_reducible exact q_fe i36 | (have t1 : t0_4.toInt ≤ lx34.toInt := i36; omega))), (show lx34 = (F_DR_isMore x2 t0_0 t0_1 t0_2 t0_3 t0_4 t0_5 t0_6 t0_7 t0_8 t0_9 t0_10 t1_0) from Eq.trans (by rw [F_DR_isMore_L15.eq_2, if_pos c44]) hR39)⟩) d_15_9_49
    ·
      have b46 : q_F (lx33.toInt < t0_2.toInt) := (q_nleI c44)
      refine lv_iload_n hx hb d_15_9_23 rfl (lv_at hl 1 rfl) ?_
      refine lv_if_ne (tgt := 36) hx hb d_15_9_24 (by decide) (fun c47 => ?_) (fun c47 => ?_)
      ·
        refine lv_iconst (v := 1) hx hb d_15_9_36 (by decide) ?_
        refine lv_goto (tgt := 41) hx hb d_15_9_37 (by decide) ?_
        refine lv_istore_n (lv' := [(2, .int 1), (3, .int lx33), (0, .ref (q 134))]) hx hb d_15_9_41 rfl hl (by decide) rfl (fun ls hl => ?_)
        obtain ⟨a49, e50⟩ := q_nm (lx33 + 1 : Int32)
        have b51 : q_F (a49.toInt = lx33.toInt + 1) := (by rw [← e50]; exact q_addI (y := 1) rfl (by decide) (by have _ := q_lo32 (x := lx33); have _ := q_hi32 (x := lx33); have t1 : lx33.toInt < t0_2.toInt := b46; have _ := q_lo32 (x := t0_2); have _ := q_hi32 (x := t0_2); omega) (by have _ := q_lo32 (x := lx33); have _ := q_hi32 (x := lx33); have t1 : lx33.toInt < t0_2.toInt := b46; have _ := q_lo32 (x := t0_2); have _ := q_hi32 (x := t0_2); omega))
        refine lv_iinc (v := a49) (lv' := [(3, .int a49), (2, .int 1), (0, .ref (q 134))]) hx hb d_15_9_42 hl (k := 1) rfl (e50) (by decide) rfl (fun ls hl => ?_)
        refine lv_goto (tgt := 15) hx hb d_15_9_45 (by decide) ?_
        exact ih38 ((a49 : Int32), (1 : Int32)) _ _ _ ws (show (t0_2.toInt - a49.toInt).toNat < (t0_2.toInt - lx33.toInt).toNat from by have t1 : a49.toInt = lx33.toInt + 1 := b51; have t2 : lx33.toInt < t0_2.toInt := b46; omega) ⟨(show q_F (1 ≤ 1) from (show 1 ≤ 1 from by omega)), (show q_F (t0_4.toInt ≤ 1) from (show t0_4.toInt ≤ 1 from by have t1 : 0 ≤ t0_4.toInt ∧ t0_4.toInt ≤ 1 := btt0_4; omega)), (show q_F (1 + lx20.toInt ≤ a49.toInt + t0_4.toInt) from (show 1 + lx20.toInt ≤ a49.toInt + t0_4.toInt from by have t1 : 0 ≤ t0_4.toInt ∧ t0_4.toInt ≤ 1 := btt0_4; have t2 : t0_4.toInt ≤ lx34.toInt := i36; have t3 : lx34.toInt + lx20.toInt ≤ lx33.toInt + t0_4.toInt := i37; have t4 : a49.toInt = lx33.toInt + 1 := b51; omega)), V, q_lw hl (q_lw1 0 rfl (q_lw1 1 rfl (q_lw1 2 rfl q_lw0))), ⟨fm43, Nat.lt_of_lt_of_le (show (t0_2.toInt - a49.toInt).toNat < (t0_2.toInt - lx33.toInt).toNat from by have t1 : a49.toInt = lx33.toInt + 1 := b51; have t2 : lx33.toInt < t0_2.toInt := b46; omega) (Nat.le_of_lt_succ hf42), (show F_DR_isMore_L15 x2 t0_0 t0_1 t0_2 t0_3 t0_4 t0_5 t0_6 t0_7 t0_8 t0_9 t0_10 t1_0 lx20 fm43 a49 1 = (F_DR_isMore x2 t0_0 t0_1 t0_2 t0_3 t0_4 t0_5 t0_6 t0_7 t0_8 t0_9 t0_10 t1_0) from Eq.trans (by rw [← e50, F_DR_isMore_L15.eq_2, if_neg c44, if_neg c47]) hR39), (show True ∧ S_DR_isMore_L15 x2 t0_0 t0_1 t0_2 t0_3 t0_4 t0_5 t0_6 t0_7 t0_8 t0_9 t0_10 t1_0 lx20 fm43 a49 1 from (by rw [← e50]; have h := hS40; rw [S_DR_isMore_L15.eq_2] at h; rw [if_neg c44] at h; rw [if_neg c47] at h; with_reducible exact h))⟩⟩
      ·
        have b52 : q_F (lx34.toInt = 0) := (q_eqI c47)
        refine lv_aload_n hx hb d_15_9_27 rfl (lv_at hl 2 rfl) ?_
        refine q_get (ci := 14) (j := 7) (v := .ref (q 140)) C0 V i_DR rfl rfl hT0 (by decide) w_2010 rfl d_15_9_28 ?_
        refine lv_iload_n hx hb d_15_9_31 rfl (lv_at hl 0 rfl) ?_
        have ob53 : q_F (lx33.toInt ≤ 4399) := (by have h := hS40; rw [S_DR_isMore_L15.eq_2] at h; rw [if_neg c44] at h; rw [if_pos c47] at h; exact h.2.1)
        refine q_iald C0 V hT1 (q_ix (x := lx33.toInt) rfl (by have t1 : 0 ≤ lx20.toInt := i24; have t2 : t0_4.toInt ≤ lx34.toInt := i36; have t3 : lx34.toInt + lx20.toInt ≤ lx33.toInt + t0_4.toInt := i37; omega) (by have t1 : 0 ≤ lx20.toInt := i24; have t2 : t0_4.toInt ≤ lx34.toInt := i36; have t3 : lx34.toInt + lx20.toInt ≤ lx33.toInt + t0_4.toInt := i37; have t4 : lx33.toInt ≤ 4399 := ob53; have e9 : (((4400 : Int32).toNatClampNeg : Nat) : Int) = 4400 := (by decide); omega)) d_15_9_32 ?_
        obtain ⟨a54, e55⟩ := q_nm (t1_0 lx33.toNatClampNeg : Int32)
        refine q_ti (v := a54) e55 ?_
        refine lv_if_eq (tgt := 40) hx hb d_15_9_33 (by decide) (fun c56 => ?_) (fun c56 => ?_)
        ·
          refine lv_iconst (v := 0) hx hb d_15_9_40 (by decide) ?_
          refine lv_istore_n (lv' := [(2, .int 0), (3, .int lx33), (0, .ref (q 134))]) hx hb d_15_9_41 rfl hl (by decide) rfl (fun ls hl => ?_)
          obtain ⟨a58, e59⟩ := q_nm (lx33 + 1 : Int32)
          have b60 : q_F (a58.toInt = lx33.toInt + 1) := (by rw [← e59]; exact q_addI (y := 1) rfl (by decide) (by have _ := q_lo32 (x := lx33); have _ := q_hi32 (x := lx33); have t1 : lx33.toInt ≤ 4399 := ob53; omega) (by have _ := q_lo32 (x := lx33); have _ := q_hi32 (x := lx33); have t1 : lx33.toInt ≤ 4399 := ob53; omega))
          refine lv_iinc (v := a58) (lv' := [(3, .int a58), (2, .int 0), (0, .ref (q 134))]) hx hb d_15_9_42 hl (k := 1) rfl (e59) (by decide) rfl (fun ls hl => ?_)
          refine lv_goto (tgt := 15) hx hb d_15_9_45 (by decide) ?_
          exact ih38 ((a58 : Int32), (0 : Int32)) _ _ _ ws (show (t0_2.toInt - a58.toInt).toNat < (t0_2.toInt - lx33.toInt).toNat from by have t1 : a58.toInt = lx33.toInt + 1 := b60; have t2 : lx33.toInt < t0_2.toInt := b46; omega) ⟨(show q_F (0 ≤ 1) from (show 0 ≤ 1 from by omega)), (show q_F (t0_4.toInt ≤ 0) from (show t0_4.toInt ≤ 0 from by have t1 : t0_4.toInt ≤ lx34.toInt := i36; have t2 : lx34.toInt = 0 := b52; omega)), (show q_F (0 + lx20.toInt ≤ a58.toInt + t0_4.toInt) from (show 0 + lx20.toInt ≤ a58.toInt + t0_4.toInt from by have t1 : 0 ≤ t0_4.toInt ∧ t0_4.toInt ≤ 1 := btt0_4; have t2 : t0_4.toInt ≤ lx34.toInt := i36; have t3 : lx34.toInt + lx20.toInt ≤ lx33.toInt + t0_4.toInt := i37; have t4 : a58.toInt = lx33.toInt + 1 := b60; omega)), V, q_lw hl (q_lw1 0 rfl (q_lw1 1 rfl (q_lw1 2 rfl q_lw0))), ⟨fm43, Nat.lt_of_lt_of_le (show (t0_2.toInt - a58.toInt).toNat < (t0_2.toInt - lx33.toInt).toNat from by have t1 : a58.toInt = lx33.toInt + 1 := b60; have t2 : lx33.toInt < t0_2.toInt := b46; omega) (Nat.le_of_lt_succ hf42), (show F_DR_isMore_L15 x2 t0_0 t0_1 t0_2 t0_3 t0_4 t0_5 t0_6 t0_7 t0_8 t0_9 t0_10 t1_0 lx20 fm43 a58 0 = (F_DR_isMore x2 t0_0 t0_1 t0_2 t0_3 t0_4 t0_5 t0_6 t0_7 t0_8 t0_9 t0_10 t1_0) from Eq.trans (by have c56x := c56; rw [← e55] at c56x; rw [← e59, F_DR_isMore_L15.eq_2, if_neg c44, if_pos c47, if_pos c56x]) hR39), (show True ∧ S_DR_isMore_L15 x2 t0_0 t0_1 t0_2 t0_3 t0_4 t0_5 t0_6 t0_7 t0_8 t0_9 t0_10 t1_0 lx20 fm43 a58 0 from (by rw [← e59]; have h := hS40; rw [S_DR_isMore_L15.eq_2] at h; rw [if_neg c44] at h; rw [if_pos c47] at h; replace h := q_s2 h; have c56x := c56; rw [← e55] at c56x; rw [if_pos c56x] at h; with_reducible exact h))⟩⟩
        ·
          refine lv_iconst (v := 1) hx hb d_15_9_36 (by decide) ?_
          refine lv_goto (tgt := 41) hx hb d_15_9_37 (by decide) ?_
          refine lv_istore_n (lv' := [(2, .int 1), (3, .int lx33), (0, .ref (q 134))]) hx hb d_15_9_41 rfl hl (by decide) rfl (fun ls hl => ?_)
          obtain ⟨a62, e63⟩ := q_nm (lx33 + 1 : Int32)
          have b64 : q_F (a62.toInt = lx33.toInt + 1) := (by rw [← e63]; exact q_addI (y := 1) rfl (by decide) (by have _ := q_lo32 (x := lx33); have _ := q_hi32 (x := lx33); have t1 : lx33.toInt ≤ 4399 := ob53; omega) (by have _ := q_lo32 (x := lx33); have _ := q_hi32 (x := lx33); have t1 : lx33.toInt ≤ 4399 := ob53; omega))
          refine lv_iinc (v := a62) (lv' := [(3, .int a62), (2, .int 1), (0, .ref (q 134))]) hx hb d_15_9_42 hl (k := 1) rfl (e63) (by decide) rfl (fun ls hl => ?_)
          refine lv_goto (tgt := 15) hx hb d_15_9_45 (by decide) ?_
          exact ih38 ((a62 : Int32), (1 : Int32)) _ _ _ ws (show (t0_2.toInt - a62.toInt).toNat < (t0_2.toInt - lx33.toInt).toNat from by have t1 : a62.toInt = lx33.toInt + 1 := b64; have t2 : lx33.toInt < t0_2.toInt := b46; omega) ⟨(show q_F (1 ≤ 1) from (show 1 ≤ 1 from by omega)), (show q_F (t0_4.toInt ≤ 1) from (show t0_4.toInt ≤ 1 from by have t1 : 0 ≤ t0_4.toInt ∧ t0_4.toInt ≤ 1 := btt0_4; omega)), (show q_F (1 + lx20.toInt ≤ a62.toInt + t0_4.toInt) from (show 1 + lx20.toInt ≤ a62.toInt + t0_4.toInt from by have t1 : 0 ≤ t0_4.toInt ∧ t0_4.toInt ≤ 1 := btt0_4; have t2 : t0_4.toInt ≤ lx34.toInt := i36; have t3 : lx34.toInt + lx20.toInt ≤ lx33.toInt + t0_4.toInt := i37; have t4 : a62.toInt = lx33.toInt + 1 := b64; omega)), V, q_lw hl (q_lw1 0 rfl (q_lw1 1 rfl (q_lw1 2 rfl q_lw0))), ⟨fm43, Nat.lt_of_lt_of_le (show (t0_2.toInt - a62.toInt).toNat < (t0_2.toInt - lx33.toInt).toNat from by have t1 : a62.toInt = lx33.toInt + 1 := b64; have t2 : lx33.toInt < t0_2.toInt := b46; omega) (Nat.le_of_lt_succ hf42), (show F_DR_isMore_L15 x2 t0_0 t0_1 t0_2 t0_3 t0_4 t0_5 t0_6 t0_7 t0_8 t0_9 t0_10 t1_0 lx20 fm43 a62 1 = (F_DR_isMore x2 t0_0 t0_1 t0_2 t0_3 t0_4 t0_5 t0_6 t0_7 t0_8 t0_9 t0_10 t1_0) from Eq.trans (by have c56x := c56; rw [← e55] at c56x; rw [← e63, F_DR_isMore_L15.eq_2, if_neg c44, if_pos c47, if_neg c56x]) hR39), (show True ∧ S_DR_isMore_L15 x2 t0_0 t0_1 t0_2 t0_3 t0_4 t0_5 t0_6 t0_7 t0_8 t0_9 t0_10 t1_0 lx20 fm43 a62 1 from (by rw [← e63]; have h := hS40; rw [S_DR_isMore_L15.eq_2] at h; rw [if_neg c44] at h; rw [if_pos c47] at h; replace h := q_s2 h; have c56x := c56; rw [← e55] at c56x; rw [if_neg c56x] at h; with_reducible exact h))⟩⟩
  ·
    intro J23
    refine lv_if_ge (tgt := 13) hx hb d_15_9_6 (by decide) (fun c65 => ?_) (fun c65 => ?_)
    ·
      have b66 : q_F (0 ≤ x2.toInt) := (q_leI c65)
      refine lv_iload_n hx hb d_15_9_13 rfl (lv_at hl 2 rfl) ?_
      exact J23 ((x2 : Int32)) _ _ _ ws ⟨(show q_F (0 ≤ x2.toInt) from (show 0 ≤ x2.toInt from by have t1 : 0 ≤ x2.toInt := b66; omega)), (show q_F (x2.toInt ≤ x2.toInt) from (show x2.toInt ≤ x2.toInt from by omega)), V, q_lw hl (q_lw1 0 rfl (q_lw1 1 rfl q_lw0)), (show F_DR_isMore_J14 x2 t0_0 t0_1 t0_2 t0_3 t0_4 t0_5 t0_6 t0_7 t0_8 t0_9 t0_10 t1_0 x2 = (F_DR_isMore x2 t0_0 t0_1 t0_2 t0_3 t0_4 t0_5 t0_6 t0_7 t0_8 t0_9 t0_10 t1_0) from (by rw [F_DR_isMore.eq_1, if_pos c65])), (show True ∧ S_DR_isMore_J14 x2 t0_0 t0_1 t0_2 t0_3 t0_4 t0_5 t0_6 t0_7 t0_8 t0_9 t0_10 t1_0 x2 from (by have h := hS; rw [S_DR_isMore.eq_1] at h; rw [if_pos c65] at h; with_reducible exact h))⟩
    ·
      have b67 : q_F (x2.toInt < 0) := (q_nleI c65)
      refine lv_iconst (v := 0) hx hb d_15_9_9 (by decide) ?_
      refine lv_goto (tgt := 14) hx hb d_15_9_10 (by decide) ?_
      exact J23 ((0 : Int32)) _ _ _ ws ⟨(show q_F (0 ≤ 0) from (show 0 ≤ 0 from by omega)), (show q_F (x2.toInt ≤ 0) from (show x2.toInt ≤ 0 from by have t1 : x2.toInt < 0 := b67; omega)), V, q_lw hl (q_lw1 0 rfl (q_lw1 1 rfl q_lw0)), (show F_DR_isMore_J14 x2 t0_0 t0_1 t0_2 t0_3 t0_4 t0_5 t0_6 t0_7 t0_8 t0_9 t0_10 t1_0 0 = (F_DR_isMore x2 t0_0 t0_1 t0_2 t0_3 t0_4 t0_5 t0_6 t0_7 t0_8 t0_9 t0_10 t1_0) from (by rw [F_DR_isMore.eq_1, if_neg c65])), (show True ∧ S_DR_isMore_J14 x2 t0_0 t0_1 t0_2 t0_3 t0_4 t0_5 t0_6 t0_7 t0_8 t0_9 t0_10 t1_0 0 from (by have h := hS; rw [S_DR_isMore.eq_1] at h; rw [if_neg c65] at h; with_reducible exact h))⟩
theorem d_15_10_0 : decode prog_15_method_10_code 0 = .ok (.iload_n 1, 1) := by decide +kernel
theorem d_15_10_22 : decode prog_15_method_10_code 22 = .ok (.istore_n 3, 1) := by decide +kernel
theorem d_15_10_23 : decode prog_15_method_10_code 23 = .ok (.aload_n 0, 1) := by decide +kernel
theorem d_15_10_24 : decode prog_15_method_10_code 24 = .ok (.iload_n 1, 1) := by decide +kernel
theorem d_15_10_25 : decode prog_15_method_10_code 25 = .ok (.iconst 1, 1) := by decide +kernel
theorem d_15_10_26 : decode prog_15_method_10_code 26 = .ok (.iadd, 1) := by decide +kernel
theorem d_15_10_27 : decode prog_15_method_10_code 27 = .ok (.invokevirtual 69, 3) := by decide +kernel
set_option maxRecDepth 100000 in
theorem w_2823 : (Cond.code ({ cls := "NumberHouseModel$DecimalRows", name := "isMore", desc := "(I)Z" } : MethodName) prog_15_method_9_code (4 : Nat) (some .boolean)) ∈ q_tbl := q_of12 183 rfl (by decide +kernel)
set_option maxRecDepth 100000 in
theorem w_2820 : (Cond.methodLink "NumberHouseModel$DecimalRows" (69 : Nat) ({ cls := "NumberHouseModel$DecimalRows", name := "isMore", desc := "(I)Z" } : MethodName)) ∈ q_tbl := q_of12 180 rfl (by decide +kernel)
set_option maxRecDepth 100000 in
theorem w_2822 : (Cond.instanceMethod ({ cls := "NumberHouseModel$DecimalRows", name := "isMore", desc := "(I)Z" } : MethodName)) ∈ q_tbl := q_of12 182 rfl (by decide +kernel)
theorem ws_117 : Cond.selects "NumberHouseModel$DecimalRows" (⟨"NumberHouseModel$DecimalRows", "isMore", "(I)Z"⟩ : MethodName) (⟨"NumberHouseModel$DecimalRows", "isMore", "(I)Z"⟩ : MethodName) ∈ q_tbl := q_ofs 117 (by decide +kernel) (by decide +kernel)
theorem LV_DR_69 : q_LV "NumberHouseModel$DecimalRows" 69 y_DR_isMore prog_15_method_9_code 4 (some .boolean) 1 := ⟨w_2823, w_16, w_2820, w_2822, ws_117, ⟨by decide, by decide, by decide +kernel⟩⟩
theorem d_15_10_50 : decode prog_15_method_10_code 50 = .ok (.istore 4, 2) := by decide +kernel
theorem d_15_10_52 : decode prog_15_method_10_code 52 = .ok (.iload_n 3, 1) := by decide +kernel
theorem d_15_10_66 : decode prog_15_method_10_code 66 = .ok (.istore 5, 2) := by decide +kernel
theorem d_15_10_68 : decode prog_15_method_10_code 68 = .ok (.iload_n 1, 1) := by decide +kernel
theorem d_15_10_92 : decode prog_15_method_10_code 92 = .ok (.istore 6, 2) := by decide +kernel
theorem d_15_10_94 : decode prog_15_method_10_code 94 = .ok (.iload_n 2, 1) := by decide +kernel
theorem d_15_10_95 : decode prog_15_method_10_code 95 = .ok (.tableswitch 151 0 6 #[41, 52, 54, 72, 90, 101, 122], 41) := by decide +kernel
theorem d_15_10_136 : decode prog_15_method_10_code 136 = .ok (.iload 5, 2) := by decide +kernel
theorem d_15_10_138 : decode prog_15_method_10_code 138 = .ok (.ifCond .eq 7, 3) := by decide +kernel
theorem d_15_10_145 : decode prog_15_method_10_code 145 = .ok (.iconst 1, 1) := by decide +kernel
theorem d_15_10_146 : decode prog_15_method_10_code 146 = .ok (.ireturn, 1) := by decide +kernel
theorem d_15_10_141 : decode prog_15_method_10_code 141 = .ok (.iconst 0, 1) := by decide +kernel
theorem d_15_10_142 : decode prog_15_method_10_code 142 = .ok (.goto 4, 3) := by decide +kernel
theorem d_15_10_147 : decode prog_15_method_10_code 147 = .ok (.iconst 0, 1) := by decide +kernel
theorem d_15_10_148 : decode prog_15_method_10_code 148 = .ok (.ireturn, 1) := by decide +kernel
theorem d_15_10_149 : decode prog_15_method_10_code 149 = .ok (.iload 5, 2) := by decide +kernel
theorem d_15_10_151 : decode prog_15_method_10_code 151 = .ok (.ifCond .ne 10, 3) := by decide +kernel
theorem d_15_10_161 : decode prog_15_method_10_code 161 = .ok (.iconst 0, 1) := by decide +kernel
theorem d_15_10_162 : decode prog_15_method_10_code 162 = .ok (.goto 4, 3) := by decide +kernel
theorem d_15_10_166 : decode prog_15_method_10_code 166 = .ok (.ireturn, 1) := by decide +kernel
theorem d_15_10_154 : decode prog_15_method_10_code 154 = .ok (.aload_n 0, 1) := by decide +kernel
theorem d_15_10_155 : decode prog_15_method_10_code 155 = .ok (.getfield 56, 3) := by decide +kernel
theorem d_15_10_158 : decode prog_15_method_10_code 158 = .ok (.ifCond .eq 7, 3) := by decide +kernel
theorem d_15_10_165 : decode prog_15_method_10_code 165 = .ok (.iconst 1, 1) := by decide +kernel
theorem d_15_10_167 : decode prog_15_method_10_code 167 = .ok (.iload 5, 2) := by decide +kernel
theorem d_15_10_169 : decode prog_15_method_10_code 169 = .ok (.ifCond .ne 10, 3) := by decide +kernel
theorem d_15_10_179 : decode prog_15_method_10_code 179 = .ok (.iconst 0, 1) := by decide +kernel
theorem d_15_10_180 : decode prog_15_method_10_code 180 = .ok (.goto 4, 3) := by decide +kernel
theorem d_15_10_184 : decode prog_15_method_10_code 184 = .ok (.ireturn, 1) := by decide +kernel
theorem d_15_10_172 : decode prog_15_method_10_code 172 = .ok (.aload_n 0, 1) := by decide +kernel
theorem d_15_10_173 : decode prog_15_method_10_code 173 = .ok (.getfield 56, 3) := by decide +kernel
theorem d_15_10_176 : decode prog_15_method_10_code 176 = .ok (.ifCond .ne 7, 3) := by decide +kernel
theorem d_15_10_183 : decode prog_15_method_10_code 183 = .ok (.iconst 1, 1) := by decide +kernel
theorem d_15_10_185 : decode prog_15_method_10_code 185 = .ok (.iload_n 3, 1) := by decide +kernel
theorem d_15_10_186 : decode prog_15_method_10_code 186 = .ok (.iconst 5, 1) := by decide +kernel
theorem d_15_10_187 : decode prog_15_method_10_code 187 = .ok (.if_icmp .lt 7, 3) := by decide +kernel
theorem d_15_10_194 : decode prog_15_method_10_code 194 = .ok (.iconst 0, 1) := by decide +kernel
theorem d_15_10_195 : decode prog_15_method_10_code 195 = .ok (.ireturn, 1) := by decide +kernel
theorem d_15_10_190 : decode prog_15_method_10_code 190 = .ok (.iconst 1, 1) := by decide +kernel
theorem d_15_10_191 : decode prog_15_method_10_code 191 = .ok (.goto 4, 3) := by decide +kernel
theorem d_15_10_196 : decode prog_15_method_10_code 196 = .ok (.iload_n 3, 1) := by decide +kernel
theorem d_15_10_197 : decode prog_15_method_10_code 197 = .ok (.iconst 5, 1) := by decide +kernel
theorem d_15_10_198 : decode prog_15_method_10_code 198 = .ok (.if_icmp .gt 13, 3) := by decide +kernel
theorem d_15_10_211 : decode prog_15_method_10_code 211 = .ok (.iconst 1, 1) := by decide +kernel
theorem d_15_10_212 : decode prog_15_method_10_code 212 = .ok (.goto 4, 3) := by decide +kernel
theorem d_15_10_216 : decode prog_15_method_10_code 216 = .ok (.ireturn, 1) := by decide +kernel
theorem d_15_10_201 : decode prog_15_method_10_code 201 = .ok (.iload_n 3, 1) := by decide +kernel
theorem d_15_10_202 : decode prog_15_method_10_code 202 = .ok (.iconst 5, 1) := by decide +kernel
theorem d_15_10_203 : decode prog_15_method_10_code 203 = .ok (.if_icmp .ne 12, 3) := by decide +kernel
theorem d_15_10_215 : decode prog_15_method_10_code 215 = .ok (.iconst 0, 1) := by decide +kernel
theorem d_15_10_206 : decode prog_15_method_10_code 206 = .ok (.iload 4, 2) := by decide +kernel
theorem d_15_10_208 : decode prog_15_method_10_code 208 = .ok (.ifCond .eq 7, 3) := by decide +kernel
theorem d_15_10_217 : decode prog_15_method_10_code 217 = .ok (.iload_n 3, 1) := by decide +kernel
theorem d_15_10_218 : decode prog_15_method_10_code 218 = .ok (.iconst 5, 1) := by decide +kernel
theorem d_15_10_219 : decode prog_15_method_10_code 219 = .ok (.if_icmp .gt 21, 3) := by decide +kernel
theorem d_15_10_240 : decode prog_15_method_10_code 240 = .ok (.iconst 1, 1) := by decide +kernel
theorem d_15_10_241 : decode prog_15_method_10_code 241 = .ok (.goto 4, 3) := by decide +kernel
theorem d_15_10_245 : decode prog_15_method_10_code 245 = .ok (.ireturn, 1) := by decide +kernel
theorem d_15_10_222 : decode prog_15_method_10_code 222 = .ok (.iload_n 3, 1) := by decide +kernel
theorem d_15_10_223 : decode prog_15_method_10_code 223 = .ok (.iconst 5, 1) := by decide +kernel
theorem d_15_10_224 : decode prog_15_method_10_code 224 = .ok (.if_icmp .ne 20, 3) := by decide +kernel
theorem d_15_10_244 : decode prog_15_method_10_code 244 = .ok (.iconst 0, 1) := by decide +kernel
theorem d_15_10_227 : decode prog_15_method_10_code 227 = .ok (.iload 4, 2) := by decide +kernel
theorem d_15_10_229 : decode prog_15_method_10_code 229 = .ok (.ifCond .ne 11, 3) := by decide +kernel
theorem d_15_10_232 : decode prog_15_method_10_code 232 = .ok (.iload 6, 2) := by decide +kernel
theorem d_15_10_234 : decode prog_15_method_10_code 234 = .ok (.iconst 2, 1) := by decide +kernel
theorem d_15_10_235 : decode prog_15_method_10_code 235 = .ok (.irem, 1) := by decide +kernel
theorem d_15_10_236 : decode prog_15_method_10_code 236 = .ok (.iconst 1, 1) := by decide +kernel
theorem d_15_10_237 : decode prog_15_method_10_code 237 = .ok (.if_icmp .ne 7, 3) := by decide +kernel
theorem d_15_10_246 : decode prog_15_method_10_code 246 = .ok (.iload 5, 2) := by decide +kernel
theorem d_15_10_248 : decode prog_15_method_10_code 248 = .ok (.ifCond .eq 7, 3) := by decide +kernel
theorem d_15_10_255 : decode prog_15_method_10_code 255 = .ok (.iconst 2, 1) := by decide +kernel
theorem d_15_10_256 : decode prog_15_method_10_code 256 = .ok (.ireturn, 1) := by decide +kernel
theorem d_15_10_251 : decode prog_15_method_10_code 251 = .ok (.iconst 0, 1) := by decide +kernel
theorem d_15_10_252 : decode prog_15_method_10_code 252 = .ok (.goto 4, 3) := by decide +kernel
theorem d_15_10_91 : decode prog_15_method_10_code 91 = .ok (.iconst 0, 1) := by decide +kernel
theorem d_15_10_69 : decode prog_15_method_10_code 69 = .ok (.ifCond .le 22, 3) := by decide +kernel
theorem d_15_10_72 : decode prog_15_method_10_code 72 = .ok (.iload_n 1, 1) := by decide +kernel
theorem d_15_10_73 : decode prog_15_method_10_code 73 = .ok (.aload_n 0, 1) := by decide +kernel
theorem d_15_10_74 : decode prog_15_method_10_code 74 = .ok (.getfield 45, 3) := by decide +kernel
theorem d_15_10_77 : decode prog_15_method_10_code 77 = .ok (.if_icmp .gt 14, 3) := by decide +kernel
theorem d_15_10_80 : decode prog_15_method_10_code 80 = .ok (.aload_n 0, 1) := by decide +kernel
theorem d_15_10_81 : decode prog_15_method_10_code 81 = .ok (.getfield 26, 3) := by decide +kernel
theorem d_15_10_84 : decode prog_15_method_10_code 84 = .ok (.iload_n 1, 1) := by decide +kernel
theorem d_15_10_85 : decode prog_15_method_10_code 85 = .ok (.iconst 1, 1) := by decide +kernel
theorem d_15_10_86 : decode prog_15_method_10_code 86 = .ok (.isub, 1) := by decide +kernel
theorem d_15_10_87 : decode prog_15_method_10_code 87 = .ok (.iaload, 1) := by decide +kernel
theorem d_15_10_88 : decode prog_15_method_10_code 88 = .ok (.goto 4, 3) := by decide +kernel
theorem d_15_10_65 : decode prog_15_method_10_code 65 = .ok (.iconst 0, 1) := by decide +kernel
theorem d_15_10_53 : decode prog_15_method_10_code 53 = .ok (.ifCond .ne 12, 3) := by decide +kernel
theorem d_15_10_56 : decode prog_15_method_10_code 56 = .ok (.iload 4, 2) := by decide +kernel
theorem d_15_10_58 : decode prog_15_method_10_code 58 = .ok (.ifCond .ne 7, 3) := by decide +kernel
theorem d_15_10_61 : decode prog_15_method_10_code 61 = .ok (.iconst 1, 1) := by decide +kernel
theorem d_15_10_62 : decode prog_15_method_10_code 62 = .ok (.goto 4, 3) := by decide +kernel
theorem d_15_10_45 : decode prog_15_method_10_code 45 = .ok (.iconst 1, 1) := by decide +kernel
theorem d_15_10_46 : decode prog_15_method_10_code 46 = .ok (.goto 4, 3) := by decide +kernel
theorem d_15_10_30 : decode prog_15_method_10_code 30 = .ok (.ifCond .ne 15, 3) := by decide +kernel
theorem d_15_10_33 : decode prog_15_method_10_code 33 = .ok (.iload_n 1, 1) := by decide +kernel
theorem d_15_10_49 : decode prog_15_method_10_code 49 = .ok (.iconst 0, 1) := by decide +kernel
theorem d_15_10_34 : decode prog_15_method_10_code 34 = .ok (.ifCond .ge 15, 3) := by decide +kernel
theorem d_15_10_37 : decode prog_15_method_10_code 37 = .ok (.aload_n 0, 1) := by decide +kernel
theorem d_15_10_38 : decode prog_15_method_10_code 38 = .ok (.iconst 0, 1) := by decide +kernel
theorem d_15_10_39 : decode prog_15_method_10_code 39 = .ok (.invokevirtual 69, 3) := by decide +kernel
theorem d_15_10_42 : decode prog_15_method_10_code 42 = .ok (.ifCond .eq 7, 3) := by decide +kernel
theorem d_15_10_21 : decode prog_15_method_10_code 21 = .ok (.iconst 0, 1) := by decide +kernel
theorem d_15_10_1 : decode prog_15_method_10_code 1 = .ok (.ifCond .lt 20, 3) := by decide +kernel
theorem d_15_10_4 : decode prog_15_method_10_code 4 = .ok (.iload_n 1, 1) := by decide +kernel
theorem d_15_10_5 : decode prog_15_method_10_code 5 = .ok (.aload_n 0, 1) := by decide +kernel
theorem d_15_10_6 : decode prog_15_method_10_code 6 = .ok (.getfield 45, 3) := by decide +kernel
theorem d_15_10_9 : decode prog_15_method_10_code 9 = .ok (.if_icmp .ge 12, 3) := by decide +kernel
theorem d_15_10_12 : decode prog_15_method_10_code 12 = .ok (.aload_n 0, 1) := by decide +kernel
theorem d_15_10_13 : decode prog_15_method_10_code 13 = .ok (.getfield 26, 3) := by decide +kernel
theorem d_15_10_16 : decode prog_15_method_10_code 16 = .ok (.iload_n 1, 1) := by decide +kernel
theorem d_15_10_17 : decode prog_15_method_10_code 17 = .ok (.iaload, 1) := by decide +kernel
theorem d_15_10_18 : decode prog_15_method_10_code 18 = .ok (.goto 4, 3) := by decide +kernel
def y_DR_grows : MethodName := ⟨"NumberHouseModel$DecimalRows", "grows", "(II)I"⟩
def F_DR_grows_J92 (x2 : Int32) (x3 : Int32) (t0_0 : Int32) (t0_1 : Int32) (t0_2 : Int32) (t0_3 : Int64) (t0_4 : Int32) (t0_5 : Int32) (t0_6 : Int32) (t0_7 : Int32) (t0_8 : Int32) (t0_9 : Int32) (t0_10 : Int32) (t1_0 : (Nat → Int32)) (lx20 : Int32) (lx39 : Int32) (lx50 : Int32) (lx61 : Int32) : Int32 := if x3 = (0 : Int32) then (if lx50 = (0 : Int32) then ((1 : Int32)) else ((0 : Int32))) else (if x3 = (1 : Int32) then ((0 : Int32)) else (if x3 = (2 : Int32) then (if lx50 = (0 : Int32) then (if t0_5 = (0 : Int32) then ((1 : Int32)) else ((0 : Int32))) else ((0 : Int32))) else (if x3 = (3 : Int32) then (if lx50 = (0 : Int32) then (if t0_5 = (0 : Int32) then ((0 : Int32)) else ((1 : Int32))) else ((0 : Int32))) else (if x3 = (4 : Int32) then (if lx20 < (5 : Int32) then ((0 : Int32)) else ((1 : Int32))) else (if x3 = (5 : Int32) then (if (5 : Int32) < lx20 then ((1 : Int32)) else (if lx20 = (5 : Int32) then (if lx39 = (0 : Int32) then ((0 : Int32)) else ((1 : Int32))) else ((0 : Int32)))) else (if x3 = (6 : Int32) then (if (5 : Int32) < lx20 then ((1 : Int32)) else (if lx20 = (5 : Int32) then (if lx39 = (0 : Int32) then (if (lx61 - lx61 / 2 * 2 : Int32) = (1 : Int32) then ((1 : Int32)) else ((0 : Int32))) else ((1 : Int32))) else ((0 : Int32)))) else (if lx50 = (0 : Int32) then ((2 : Int32)) else ((0 : Int32)))))))))
def F_DR_grows_J91 (x2 : Int32) (x3 : Int32) (t0_0 : Int32) (t0_1 : Int32) (t0_2 : Int32) (t0_3 : Int64) (t0_4 : Int32) (t0_5 : Int32) (t0_6 : Int32) (t0_7 : Int32) (t0_8 : Int32) (t0_9 : Int32) (t0_10 : Int32) (t1_0 : (Nat → Int32)) (lx20 : Int32) (lx39 : Int32) (lx50 : Int32) : Int32 := F_DR_grows_J92 x2 x3 t0_0 t0_1 t0_2 t0_3 t0_4 t0_5 t0_6 t0_7 t0_8 t0_9 t0_10 t1_0 lx20 lx39 lx50 0
def F_DR_grows_J66 (x2 : Int32) (x3 : Int32) (t0_0 : Int32) (t0_1 : Int32) (t0_2 : Int32) (t0_3 : Int64) (t0_4 : Int32) (t0_5 : Int32) (t0_6 : Int32) (t0_7 : Int32) (t0_8 : Int32) (t0_9 : Int32) (t0_10 : Int32) (t1_0 : (Nat → Int32)) (lx20 : Int32) (lx39 : Int32) (lx50 : Int32) : Int32 := if x2 ≤ (0 : Int32) then (F_DR_grows_J91 x2 x3 t0_0 t0_1 t0_2 t0_3 t0_4 t0_5 t0_6 t0_7 t0_8 t0_9 t0_10 t1_0 lx20 lx39 lx50) else (if t0_2 < x2 then (F_DR_grows_J91 x2 x3 t0_0 t0_1 t0_2 t0_3 t0_4 t0_5 t0_6 t0_7 t0_8 t0_9 t0_10 t1_0 lx20 lx39 lx50) else (F_DR_grows_J92 x2 x3 t0_0 t0_1 t0_2 t0_3 t0_4 t0_5 t0_6 t0_7 t0_8 t0_9 t0_10 t1_0 lx20 lx39 lx50 (t1_0 (x2 - 1 : Int32).toNatClampNeg : Int32)))
def F_DR_grows_J65 (x2 : Int32) (x3 : Int32) (t0_0 : Int32) (t0_1 : Int32) (t0_2 : Int32) (t0_3 : Int64) (t0_4 : Int32) (t0_5 : Int32) (t0_6 : Int32) (t0_7 : Int32) (t0_8 : Int32) (t0_9 : Int32) (t0_10 : Int32) (t1_0 : (Nat → Int32)) (lx20 : Int32) (lx39 : Int32) : Int32 := F_DR_grows_J66 x2 x3 t0_0 t0_1 t0_2 t0_3 t0_4 t0_5 t0_6 t0_7 t0_8 t0_9 t0_10 t1_0 lx20 lx39 0
def F_DR_grows_J50 (x2 : Int32) (x3 : Int32) (t0_0 : Int32) (t0_1 : Int32) (t0_2 : Int32) (t0_3 : Int64) (t0_4 : Int32) (t0_5 : Int32) (t0_6 : Int32) (t0_7 : Int32) (t0_8 : Int32) (t0_9 : Int32) (t0_10 : Int32) (t1_0 : (Nat → Int32)) (lx20 : Int32) (lx39 : Int32) : Int32 := if lx20 = (0 : Int32) then (if lx39 = (0 : Int32) then (F_DR_grows_J66 x2 x3 t0_0 t0_1 t0_2 t0_3 t0_4 t0_5 t0_6 t0_7 t0_8 t0_9 t0_10 t1_0 lx20 lx39 1) else (F_DR_grows_J65 x2 x3 t0_0 t0_1 t0_2 t0_3 t0_4 t0_5 t0_6 t0_7 t0_8 t0_9 t0_10 t1_0 lx20 lx39)) else (F_DR_grows_J65 x2 x3 t0_0 t0_1 t0_2 t0_3 t0_4 t0_5 t0_6 t0_7 t0_8 t0_9 t0_10 t1_0 lx20 lx39)
def F_DR_grows_J45 (x2 : Int32) (x3 : Int32) (t0_0 : Int32) (t0_1 : Int32) (t0_2 : Int32) (t0_3 : Int64) (t0_4 : Int32) (t0_5 : Int32) (t0_6 : Int32) (t0_7 : Int32) (t0_8 : Int32) (t0_9 : Int32) (t0_10 : Int32) (t1_0 : (Nat → Int32)) (lx20 : Int32) : Int32 := F_DR_grows_J50 x2 x3 t0_0 t0_1 t0_2 t0_3 t0_4 t0_5 t0_6 t0_7 t0_8 t0_9 t0_10 t1_0 lx20 1
def F_DR_grows_J49 (x2 : Int32) (x3 : Int32) (t0_0 : Int32) (t0_1 : Int32) (t0_2 : Int32) (t0_3 : Int64) (t0_4 : Int32) (t0_5 : Int32) (t0_6 : Int32) (t0_7 : Int32) (t0_8 : Int32) (t0_9 : Int32) (t0_10 : Int32) (t1_0 : (Nat → Int32)) (lx20 : Int32) : Int32 := F_DR_grows_J50 x2 x3 t0_0 t0_1 t0_2 t0_3 t0_4 t0_5 t0_6 t0_7 t0_8 t0_9 t0_10 t1_0 lx20 0
def F_DR_grows_J22 (x2 : Int32) (x3 : Int32) (t0_0 : Int32) (t0_1 : Int32) (t0_2 : Int32) (t0_3 : Int64) (t0_4 : Int32) (t0_5 : Int32) (t0_6 : Int32) (t0_7 : Int32) (t0_8 : Int32) (t0_9 : Int32) (t0_10 : Int32) (t1_0 : (Nat → Int32)) (lx20 : Int32) : Int32 := if ((F_DR_isMore (x2 + 1 : Int32) t0_0 t0_1 t0_2 t0_3 t0_4 t0_5 t0_6 t0_7 t0_8 t0_9 t0_10 t1_0) : Int32) = (0 : Int32) then (if (0 : Int32) ≤ x2 then (F_DR_grows_J49 x2 x3 t0_0 t0_1 t0_2 t0_3 t0_4 t0_5 t0_6 t0_7 t0_8 t0_9 t0_10 t1_0 lx20) else (if ((F_DR_isMore (0 : Int32) t0_0 t0_1 t0_2 t0_3 t0_4 t0_5 t0_6 t0_7 t0_8 t0_9 t0_10 t1_0) : Int32) = (0 : Int32) then (F_DR_grows_J49 x2 x3 t0_0 t0_1 t0_2 t0_3 t0_4 t0_5 t0_6 t0_7 t0_8 t0_9 t0_10 t1_0 lx20) else (F_DR_grows_J45 x2 x3 t0_0 t0_1 t0_2 t0_3 t0_4 t0_5 t0_6 t0_7 t0_8 t0_9 t0_10 t1_0 lx20))) else (F_DR_grows_J45 x2 x3 t0_0 t0_1 t0_2 t0_3 t0_4 t0_5 t0_6 t0_7 t0_8 t0_9 t0_10 t1_0 lx20)
def F_DR_grows_J21 (x2 : Int32) (x3 : Int32) (t0_0 : Int32) (t0_1 : Int32) (t0_2 : Int32) (t0_3 : Int64) (t0_4 : Int32) (t0_5 : Int32) (t0_6 : Int32) (t0_7 : Int32) (t0_8 : Int32) (t0_9 : Int32) (t0_10 : Int32) (t1_0 : (Nat → Int32)) : Int32 := F_DR_grows_J22 x2 x3 t0_0 t0_1 t0_2 t0_3 t0_4 t0_5 t0_6 t0_7 t0_8 t0_9 t0_10 t1_0 0
def F_DR_grows (x2 : Int32) (x3 : Int32) (t0_0 : Int32) (t0_1 : Int32) (t0_2 : Int32) (t0_3 : Int64) (t0_4 : Int32) (t0_5 : Int32) (t0_6 : Int32) (t0_7 : Int32) (t0_8 : Int32) (t0_9 : Int32) (t0_10 : Int32) (t1_0 : (Nat → Int32)) : Int32 := if x2 < (0 : Int32) then (F_DR_grows_J21 x2 x3 t0_0 t0_1 t0_2 t0_3 t0_4 t0_5 t0_6 t0_7 t0_8 t0_9 t0_10 t1_0) else (if t0_2 ≤ x2 then (F_DR_grows_J21 x2 x3 t0_0 t0_1 t0_2 t0_3 t0_4 t0_5 t0_6 t0_7 t0_8 t0_9 t0_10 t1_0) else (F_DR_grows_J22 x2 x3 t0_0 t0_1 t0_2 t0_3 t0_4 t0_5 t0_6 t0_7 t0_8 t0_9 t0_10 t1_0 (t1_0 x2.toNatClampNeg : Int32)))
def S_DR_grows_J92 (x2 : Int32) (x3 : Int32) (t0_0 : Int32) (t0_1 : Int32) (t0_2 : Int32) (t0_3 : Int64) (t0_4 : Int32) (t0_5 : Int32) (t0_6 : Int32) (t0_7 : Int32) (t0_8 : Int32) (t0_9 : Int32) (t0_10 : Int32) (t1_0 : (Nat → Int32)) (lx20 : Int32) (lx39 : Int32) (lx50 : Int32) (lx61 : Int32) : Prop := if x3 = (0 : Int32) then (if lx50 = (0 : Int32) then (True) else (True)) else (if x3 = (1 : Int32) then (True) else (if x3 = (2 : Int32) then (if lx50 = (0 : Int32) then (if t0_5 = (0 : Int32) then (True) else (True)) else (True)) else (if x3 = (3 : Int32) then (if lx50 = (0 : Int32) then (if t0_5 = (0 : Int32) then (True) else (True)) else (True)) else (if x3 = (4 : Int32) then (if lx20 < (5 : Int32) then (True) else (True)) else (if x3 = (5 : Int32) then (if (5 : Int32) < lx20 then (True) else (if lx20 = (5 : Int32) then (if lx39 = (0 : Int32) then (True) else (True)) else (True))) else (if x3 = (6 : Int32) then (if (5 : Int32) < lx20 then (True) else (if lx20 = (5 : Int32) then (if lx39 = (0 : Int32) then (if (lx61 - lx61 / 2 * 2 : Int32) = (1 : Int32) then (True) else (True)) else (True)) else (True))) else (if lx50 = (0 : Int32) then (True) else (True))))))))
def S_DR_grows_J91 (x2 : Int32) (x3 : Int32) (t0_0 : Int32) (t0_1 : Int32) (t0_2 : Int32) (t0_3 : Int64) (t0_4 : Int32) (t0_5 : Int32) (t0_6 : Int32) (t0_7 : Int32) (t0_8 : Int32) (t0_9 : Int32) (t0_10 : Int32) (t1_0 : (Nat → Int32)) (lx20 : Int32) (lx39 : Int32) (lx50 : Int32) : Prop := S_DR_grows_J92 x2 x3 t0_0 t0_1 t0_2 t0_3 t0_4 t0_5 t0_6 t0_7 t0_8 t0_9 t0_10 t1_0 lx20 lx39 lx50 0
def S_DR_grows_J66 (x2 : Int32) (x3 : Int32) (t0_0 : Int32) (t0_1 : Int32) (t0_2 : Int32) (t0_3 : Int64) (t0_4 : Int32) (t0_5 : Int32) (t0_6 : Int32) (t0_7 : Int32) (t0_8 : Int32) (t0_9 : Int32) (t0_10 : Int32) (t1_0 : (Nat → Int32)) (lx20 : Int32) (lx39 : Int32) (lx50 : Int32) : Prop := if x2 ≤ (0 : Int32) then (S_DR_grows_J91 x2 x3 t0_0 t0_1 t0_2 t0_3 t0_4 t0_5 t0_6 t0_7 t0_8 t0_9 t0_10 t1_0 lx20 lx39 lx50) else (if t0_2 < x2 then (S_DR_grows_J91 x2 x3 t0_0 t0_1 t0_2 t0_3 t0_4 t0_5 t0_6 t0_7 t0_8 t0_9 t0_10 t1_0 lx20 lx39 lx50) else (((x2 - 1 : Int32).toInt ≤ 4399) ∧ (S_DR_grows_J92 x2 x3 t0_0 t0_1 t0_2 t0_3 t0_4 t0_5 t0_6 t0_7 t0_8 t0_9 t0_10 t1_0 lx20 lx39 lx50 (t1_0 (x2 - 1 : Int32).toNatClampNeg : Int32))))
def S_DR_grows_J65 (x2 : Int32) (x3 : Int32) (t0_0 : Int32) (t0_1 : Int32) (t0_2 : Int32) (t0_3 : Int64) (t0_4 : Int32) (t0_5 : Int32) (t0_6 : Int32) (t0_7 : Int32) (t0_8 : Int32) (t0_9 : Int32) (t0_10 : Int32) (t1_0 : (Nat → Int32)) (lx20 : Int32) (lx39 : Int32) : Prop := S_DR_grows_J66 x2 x3 t0_0 t0_1 t0_2 t0_3 t0_4 t0_5 t0_6 t0_7 t0_8 t0_9 t0_10 t1_0 lx20 lx39 0
def S_DR_grows_J50 (x2 : Int32) (x3 : Int32) (t0_0 : Int32) (t0_1 : Int32) (t0_2 : Int32) (t0_3 : Int64) (t0_4 : Int32) (t0_5 : Int32) (t0_6 : Int32) (t0_7 : Int32) (t0_8 : Int32) (t0_9 : Int32) (t0_10 : Int32) (t1_0 : (Nat → Int32)) (lx20 : Int32) (lx39 : Int32) : Prop := if lx20 = (0 : Int32) then (if lx39 = (0 : Int32) then (S_DR_grows_J66 x2 x3 t0_0 t0_1 t0_2 t0_3 t0_4 t0_5 t0_6 t0_7 t0_8 t0_9 t0_10 t1_0 lx20 lx39 1) else (S_DR_grows_J65 x2 x3 t0_0 t0_1 t0_2 t0_3 t0_4 t0_5 t0_6 t0_7 t0_8 t0_9 t0_10 t1_0 lx20 lx39)) else (S_DR_grows_J65 x2 x3 t0_0 t0_1 t0_2 t0_3 t0_4 t0_5 t0_6 t0_7 t0_8 t0_9 t0_10 t1_0 lx20 lx39)
def S_DR_grows_J45 (x2 : Int32) (x3 : Int32) (t0_0 : Int32) (t0_1 : Int32) (t0_2 : Int32) (t0_3 : Int64) (t0_4 : Int32) (t0_5 : Int32) (t0_6 : Int32) (t0_7 : Int32) (t0_8 : Int32) (t0_9 : Int32) (t0_10 : Int32) (t1_0 : (Nat → Int32)) (lx20 : Int32) : Prop := S_DR_grows_J50 x2 x3 t0_0 t0_1 t0_2 t0_3 t0_4 t0_5 t0_6 t0_7 t0_8 t0_9 t0_10 t1_0 lx20 1
def S_DR_grows_J49 (x2 : Int32) (x3 : Int32) (t0_0 : Int32) (t0_1 : Int32) (t0_2 : Int32) (t0_3 : Int64) (t0_4 : Int32) (t0_5 : Int32) (t0_6 : Int32) (t0_7 : Int32) (t0_8 : Int32) (t0_9 : Int32) (t0_10 : Int32) (t1_0 : (Nat → Int32)) (lx20 : Int32) : Prop := S_DR_grows_J50 x2 x3 t0_0 t0_1 t0_2 t0_3 t0_4 t0_5 t0_6 t0_7 t0_8 t0_9 t0_10 t1_0 lx20 0
def S_DR_grows_J22 (x2 : Int32) (x3 : Int32) (t0_0 : Int32) (t0_1 : Int32) (t0_2 : Int32) (t0_3 : Int64) (t0_4 : Int32) (t0_5 : Int32) (t0_6 : Int32) (t0_7 : Int32) (t0_8 : Int32) (t0_9 : Int32) (t0_10 : Int32) (t1_0 : (Nat → Int32)) (lx20 : Int32) : Prop := (True ∧ S_DR_isMore (x2 + 1 : Int32) t0_0 t0_1 t0_2 t0_3 t0_4 t0_5 t0_6 t0_7 t0_8 t0_9 t0_10 t1_0) ∧ (if ((F_DR_isMore (x2 + 1 : Int32) t0_0 t0_1 t0_2 t0_3 t0_4 t0_5 t0_6 t0_7 t0_8 t0_9 t0_10 t1_0) : Int32) = (0 : Int32) then (if (0 : Int32) ≤ x2 then (S_DR_grows_J49 x2 x3 t0_0 t0_1 t0_2 t0_3 t0_4 t0_5 t0_6 t0_7 t0_8 t0_9 t0_10 t1_0 lx20) else ((True ∧ S_DR_isMore (0 : Int32) t0_0 t0_1 t0_2 t0_3 t0_4 t0_5 t0_6 t0_7 t0_8 t0_9 t0_10 t1_0) ∧ (if ((F_DR_isMore (0 : Int32) t0_0 t0_1 t0_2 t0_3 t0_4 t0_5 t0_6 t0_7 t0_8 t0_9 t0_10 t1_0) : Int32) = (0 : Int32) then (S_DR_grows_J49 x2 x3 t0_0 t0_1 t0_2 t0_3 t0_4 t0_5 t0_6 t0_7 t0_8 t0_9 t0_10 t1_0 lx20) else (S_DR_grows_J45 x2 x3 t0_0 t0_1 t0_2 t0_3 t0_4 t0_5 t0_6 t0_7 t0_8 t0_9 t0_10 t1_0 lx20)))) else (S_DR_grows_J45 x2 x3 t0_0 t0_1 t0_2 t0_3 t0_4 t0_5 t0_6 t0_7 t0_8 t0_9 t0_10 t1_0 lx20))
def S_DR_grows_J21 (x2 : Int32) (x3 : Int32) (t0_0 : Int32) (t0_1 : Int32) (t0_2 : Int32) (t0_3 : Int64) (t0_4 : Int32) (t0_5 : Int32) (t0_6 : Int32) (t0_7 : Int32) (t0_8 : Int32) (t0_9 : Int32) (t0_10 : Int32) (t1_0 : (Nat → Int32)) : Prop := S_DR_grows_J22 x2 x3 t0_0 t0_1 t0_2 t0_3 t0_4 t0_5 t0_6 t0_7 t0_8 t0_9 t0_10 t1_0 0
def S_DR_grows (x2 : Int32) (x3 : Int32) (t0_0 : Int32) (t0_1 : Int32) (t0_2 : Int32) (t0_3 : Int64) (t0_4 : Int32) (t0_5 : Int32) (t0_6 : Int32) (t0_7 : Int32) (t0_8 : Int32) (t0_9 : Int32) (t0_10 : Int32) (t1_0 : (Nat → Int32)) : Prop := if x2 < (0 : Int32) then (S_DR_grows_J21 x2 x3 t0_0 t0_1 t0_2 t0_3 t0_4 t0_5 t0_6 t0_7 t0_8 t0_9 t0_10 t1_0) else (if t0_2 ≤ x2 then (S_DR_grows_J21 x2 x3 t0_0 t0_1 t0_2 t0_3 t0_4 t0_5 t0_6 t0_7 t0_8 t0_9 t0_10 t1_0) else ((x2.toInt ≤ 4399) ∧ (S_DR_grows_J22 x2 x3 t0_0 t0_1 t0_2 t0_3 t0_4 t0_5 t0_6 t0_7 t0_8 t0_9 t0_10 t1_0 (t1_0 x2.toNatClampNeg : Int32))))
set_option maxRecDepth 100000 in
set_option maxHeartbeats 4000000 in
theorem X_DR_grows (l : Launch) (D : va_G) (g : Nat → ClassId) (q : Nat → Nat) (ws : va_W) (x2 : Int32) (x3 : Int32) (hI : q_I (msh g q) q ws) (t0_0 : Int32) (t0_1 : Int32) (t0_2 : Int32) (t0_3 : Int64) (t0_4 : Int32) (t0_5 : Int32) (t0_6 : Int32) (t0_7 : Int32) (t0_8 : Int32) (t0_9 : Int32) (t0_10 : Int32) (hT0 : ws[134]? = (some (q 134, .inr (14, [.int t0_0, .ref (q 135), .int t0_1, .ref (q 136), .ref (q 137), .ref (q 138), .ref (q 139), .ref (q 140), .int t0_2, .long t0_3, .int t0_4, .int t0_5, .ref (q 141), .int t0_6, .ref (q 142), .int t0_7, .ref (q 143), .int t0_8, .ref (q 144), .int t0_9, .int t0_10])) : Option (Nat × va_E))) (t1_0 : (Nat → Int32)) (hT1 : ws[140]? = (some (q 140, .inl (g 0, (4400 : Int32).toNatClampNeg, .inl t1_0)) : Option (Nat × va_E))) (hS : True ∧ S_DR_grows x2 x3 t0_0 t0_1 t0_2 t0_3 t0_4 t0_5 t0_6 t0_7 t0_8 t0_9 t0_10 t1_0) : q_mI l y_DR_grows prog_15_method_10_code 7 (.int) 2 0 0 D g [.ref (q 134), .int x2, .int x3] ws (fun r u => ws = u ∧ (0 ≤ r.toInt) ∧ (r.toInt ≤ 2) ∧ r = (F_DR_grows x2 x3 t0_0 t0_1 t0_2 t0_3 t0_4 t0_5 t0_6 t0_7 t0_8 t0_9 t0_10 t1_0)) := by
  intro sz
  refine q_into (by decide) (Nat.le_of_ble_eq_true rfl) ?_
  intro p e s m below meth c ls hsz C0 V hl
  have hx := C0.1
  have hb := C0.2.1
  have hZ9 := (n_w134 hI hT0).2
  obtain ⟨btt0_4, hZ9⟩ := hZ9
  obtain ⟨-, btt0_9⟩ := hZ9
  replace btt0_4 : q_F (0 ≤ t0_4.toInt ∧ t0_4.toInt ≤ 1) := btt0_4
  clear btt0_9
  have hl : lv_has ls 7 [(0, .ref (q 134)), (1, .int x2), (2, .int x3)] := hl
  refine lv_iload_n hx hb d_15_10_0 rfl (lv_at hl 1 rfl) ?_
  refine q_join (X := Int32) (fun z H locs ls _ => q_Wd D g (va_A ws sz) s ws H locs ∧ lv_has ls 7 [(0, .ref (q 134)), (1, .int x2), (2, .int x3)] ∧ F_DR_grows_J22 x2 x3 t0_0 t0_1 t0_2 t0_3 t0_4 t0_5 t0_6 t0_7 t0_8 t0_9 t0_10 t1_0 z = (F_DR_grows x2 x3 t0_0 t0_1 t0_2 t0_3 t0_4 t0_5 t0_6 t0_7 t0_8 t0_9 t0_10 t1_0) ∧ True ∧ S_DR_grows_J22 x2 x3 t0_0 t0_1 t0_2 t0_3 t0_4 t0_5 t0_6 t0_7 t0_8 t0_9 t0_10 t1_0 z) (fun z => [.int z]) 22 0 0 ?_ ?_
  ·
    rintro lx20 H locs ls _ ⟨V, hl, hR24, hS25⟩
    replace hl : lv_has ls 7 [(0, .ref (q 134)), (1, .int x2), (2, .int x3)] := hl
    refine lv_istore_n (lv' := [(3, .int lx20), (0, .ref (q 134)), (1, .int x2), (2, .int x3)]) hx hb d_15_10_22 rfl hl (by decide) rfl (fun ls hl => ?_)
    refine lv_aload_n hx hb d_15_10_23 rfl (lv_at hl 1 rfl) ?_
    refine lv_iload_n hx hb d_15_10_24 rfl (lv_at hl 2 rfl) ?_
    refine lv_iconst (v := 1) hx hb d_15_10_25 (by decide) ?_
    refine lv_iadd hx hb d_15_10_26 ?_
    obtain ⟨a29, e30⟩ := q_nm (x2 + 1 : Int32)
    refine q_ti (v := a29) e30 ?_
    have ob31 : True ∧ S_DR_isMore a29 t0_0 t0_1 t0_2 t0_3 t0_4 t0_5 t0_6 t0_7 t0_8 t0_9 t0_10 t1_0 := (by rw [← e30]; have h := hS25; rw [S_DR_grows_J22.eq_1] at h; with_reducible exact h.2.1)
    refine q_goi V (q_runV (As := [.int a29]) (rest := []) (d := 1) (mc := 0) (ms := 0) (ci := 14) C0 V rfl LV_DR_69 (X_DR_isMore l D g q ws  a29 hI t0_0 t0_1 t0_2 t0_3 t0_4 t0_5 t0_6 t0_7 t0_8 t0_9 t0_10 hT0 t1_0 hT1 ob31 _) rfl rfl hT0 rfl hl.1 rfl (Nat.le_of_ble_eq_true rfl) ⟨by decide, by decide⟩ ⟨Nat.le_of_ble_eq_true rfl, Nat.le_of_ble_eq_true rfl⟩ d_15_10_27) (fun a34 u32 H locs hp33 V => ?_)
    obtain ⟨rfl, b35, b36, hE37⟩ := hp33
    have e38 : a34 = (F_DR_isMore a29 t0_0 t0_1 t0_2 t0_3 t0_4 t0_5 t0_6 t0_7 t0_8 t0_9 t0_10 t1_0) := hE37
    clear b35
    replace b36 : q_F (t0_4.toInt ≤ a34.toInt) := b36
    refine q_join (X := Int32) (fun z H locs ls _ => q_F (z.toInt ≤ 1) ∧ q_F (t0_4.toInt ≤ z.toInt) ∧ q_Wd D g (va_A ws sz) s ws H locs ∧ lv_has ls 7 [(3, .int lx20), (0, .ref (q 134)), (1, .int x2), (2, .int x3)] ∧ F_DR_grows_J50 x2 x3 t0_0 t0_1 t0_2 t0_3 t0_4 t0_5 t0_6 t0_7 t0_8 t0_9 t0_10 t1_0 lx20 z = (F_DR_grows x2 x3 t0_0 t0_1 t0_2 t0_3 t0_4 t0_5 t0_6 t0_7 t0_8 t0_9 t0_10 t1_0) ∧ True ∧ S_DR_grows_J50 x2 x3 t0_0 t0_1 t0_2 t0_3 t0_4 t0_5 t0_6 t0_7 t0_8 t0_9 t0_10 t1_0 lx20 z) (fun z => [.int z]) 50 0 0 ?_ ?_
    ·
      rintro lx39 H locs ls _ hZ9
      replace hZ9 := hZ9.2.2
      obtain ⟨V, hZ9⟩ := hZ9
      obtain ⟨hl, hZ9⟩ := hZ9
      obtain ⟨hR45, hS46⟩ := hZ9
      replace hl : lv_has ls 7 [(3, .int lx20), (0, .ref (q 134)), (1, .int x2), (2, .int x3)] := hl
      refine lv_istore (lv' := [(4, .int lx39), (3, .int lx20), (0, .ref (q 134)), (1, .int x2), (2, .int x3)]) hx hb d_15_10_50 hl (by decide) rfl (fun ls hl => ?_)
      refine lv_iload_n hx hb d_15_10_52 rfl (lv_at hl 1 rfl) ?_
      refine q_join (X := Int32) (fun z H locs ls _ => q_F (0 ≤ z.toInt) ∧ q_F (z.toInt ≤ 1) ∧ q_Wd D g (va_A ws sz) s ws H locs ∧ lv_has ls 7 [(4, .int lx39), (3, .int lx20), (0, .ref (q 134)), (1, .int x2), (2, .int x3)] ∧ F_DR_grows_J66 x2 x3 t0_0 t0_1 t0_2 t0_3 t0_4 t0_5 t0_6 t0_7 t0_8 t0_9 t0_10 t1_0 lx20 lx39 z = (F_DR_grows x2 x3 t0_0 t0_1 t0_2 t0_3 t0_4 t0_5 t0_6 t0_7 t0_8 t0_9 t0_10 t1_0) ∧ True ∧ S_DR_grows_J66 x2 x3 t0_0 t0_1 t0_2 t0_3 t0_4 t0_5 t0_6 t0_7 t0_8 t0_9 t0_10 t1_0 lx20 lx39 z) (fun z => [.int z]) 66 0 0 ?_ ?_
      ·
        rintro lx50 H locs ls _ hZ9
        replace hZ9 := hZ9.2.2
        obtain ⟨V, hZ9⟩ := hZ9
        obtain ⟨hl, hZ9⟩ := hZ9
        obtain ⟨hR56, hS57⟩ := hZ9
        replace hl : lv_has ls 7 [(4, .int lx39), (3, .int lx20), (0, .ref (q 134)), (1, .int x2), (2, .int x3)] := hl
        refine lv_istore (lv' := [(5, .int lx50), (4, .int lx39), (3, .int lx20), (0, .ref (q 134)), (1, .int x2), (2, .int x3)]) hx hb d_15_10_66 hl (by decide) rfl (fun ls hl => ?_)
        refine lv_iload_n hx hb d_15_10_68 rfl (lv_at hl 4 rfl) ?_
        refine q_join (X := Int32) (fun z H locs ls _ => q_Wd D g (va_A ws sz) s ws H locs ∧ lv_has ls 7 [(5, .int lx50), (4, .int lx39), (3, .int lx20), (0, .ref (q 134)), (2, .int x3)] ∧ F_DR_grows_J92 x2 x3 t0_0 t0_1 t0_2 t0_3 t0_4 t0_5 t0_6 t0_7 t0_8 t0_9 t0_10 t1_0 lx20 lx39 lx50 z = (F_DR_grows x2 x3 t0_0 t0_1 t0_2 t0_3 t0_4 t0_5 t0_6 t0_7 t0_8 t0_9 t0_10 t1_0) ∧ True ∧ S_DR_grows_J92 x2 x3 t0_0 t0_1 t0_2 t0_3 t0_4 t0_5 t0_6 t0_7 t0_8 t0_9 t0_10 t1_0 lx20 lx39 lx50 z) (fun z => [.int z]) 92 0 0 ?_ ?_
        ·
          rintro lx61 H locs ls _ ⟨V, hl, hR65, hS66⟩
          replace hl : lv_has ls 7 [(5, .int lx50), (4, .int lx39), (3, .int lx20), (0, .ref (q 134)), (2, .int x3)] := hl
          refine lv_istore (lv' := [(6, .int lx61), (5, .int lx50), (4, .int lx39), (3, .int lx20), (0, .ref (q 134)), (2, .int x3)]) hx hb d_15_10_92 hl (by decide) rfl (fun ls hl => ?_)
          refine lv_iload_n hx hb d_15_10_94 rfl (lv_at hl 5 rfl) ?_
          by_cases c70 : x3 = 0
          ·
            refine q_ti (v := 0) c70 ?_
            refine lv_tableIn (tgt := 136) (off := 41) hx hb d_15_10_95 (by decide) (by decide) (by decide) (by decide) ?_
            refine lv_iload hx hb d_15_10_136 (lv_at hl 1 rfl) ?_
            refine lv_if_eq (tgt := 145) hx hb d_15_10_138 (by decide) (fun c72 => ?_) (fun c72 => ?_)
            ·
              refine lv_iconst (v := 1) hx hb d_15_10_145 (by decide) ?_
              exact q_reti C0 V (⟨rfl, (show 0 ≤ (1 : Int32).toInt from (by have z14 : (1 : Int32).toInt = 1 := rfl; omega)), (show (1 : Int32).toInt ≤ 2 from (by have z14 : (1 : Int32).toInt = 1 := rfl; omega)), (show (1 : Int32) = (F_DR_grows x2 x3 t0_0 t0_1 t0_2 t0_3 t0_4 t0_5 t0_6 t0_7 t0_8 t0_9 t0_10 t1_0) from Eq.trans (by rw [F_DR_grows_J92.eq_1, if_pos c70, if_pos c72]) hR65)⟩) d_15_10_146
            ·
              refine lv_iconst (v := 0) hx hb d_15_10_141 (by decide) ?_
              refine lv_goto (tgt := 146) hx hb d_15_10_142 (by decide) ?_
              exact q_reti C0 V (⟨rfl, (show 0 ≤ (0 : Int32).toInt from (by have z14 : (0 : Int32).toInt = 0 := rfl; omega)), (show (0 : Int32).toInt ≤ 2 from (by have z14 : (0 : Int32).toInt = 0 := rfl; omega)), (show (0 : Int32) = (F_DR_grows x2 x3 t0_0 t0_1 t0_2 t0_3 t0_4 t0_5 t0_6 t0_7 t0_8 t0_9 t0_10 t1_0) from Eq.trans (by rw [F_DR_grows_J92.eq_1, if_pos c70, if_neg c72]) hR65)⟩) d_15_10_146
          by_cases c76 : x3 = 1
          ·
            refine q_ti (v := 1) c76 ?_
            refine lv_tableIn (tgt := 147) (off := 52) hx hb d_15_10_95 (by decide) (by decide) (by decide) (by decide) ?_
            refine lv_iconst (v := 0) hx hb d_15_10_147 (by decide) ?_
            exact q_reti C0 V (⟨rfl, (show 0 ≤ (0 : Int32).toInt from (by have z14 : (0 : Int32).toInt = 0 := rfl; omega)), (show (0 : Int32).toInt ≤ 2 from (by have z14 : (0 : Int32).toInt = 0 := rfl; omega)), (show (0 : Int32) = (F_DR_grows x2 x3 t0_0 t0_1 t0_2 t0_3 t0_4 t0_5 t0_6 t0_7 t0_8 t0_9 t0_10 t1_0) from Eq.trans (by rw [F_DR_grows_J92.eq_1, if_neg c70, if_pos c76]) hR65)⟩) d_15_10_148
          by_cases c79 : x3 = 2
          ·
            refine q_ti (v := 2) c79 ?_
            refine lv_tableIn (tgt := 149) (off := 54) hx hb d_15_10_95 (by decide) (by decide) (by decide) (by decide) ?_
            refine lv_iload hx hb d_15_10_149 (lv_at hl 1 rfl) ?_
            refine lv_if_ne (tgt := 161) hx hb d_15_10_151 (by decide) (fun c81 => ?_) (fun c81 => ?_)
            ·
              refine lv_iconst (v := 0) hx hb d_15_10_161 (by decide) ?_
              refine lv_goto (tgt := 166) hx hb d_15_10_162 (by decide) ?_
              exact q_reti C0 V (⟨rfl, (show 0 ≤ (0 : Int32).toInt from (by have z14 : (0 : Int32).toInt = 0 := rfl; omega)), (show (0 : Int32).toInt ≤ 2 from (by have z14 : (0 : Int32).toInt = 0 := rfl; omega)), (show (0 : Int32) = (F_DR_grows x2 x3 t0_0 t0_1 t0_2 t0_3 t0_4 t0_5 t0_6 t0_7 t0_8 t0_9 t0_10 t1_0) from Eq.trans (by rw [F_DR_grows_J92.eq_1, if_neg c70, if_neg c76, if_pos c79, if_neg c81]) hR65)⟩) d_15_10_166
            ·
              refine lv_aload_n hx hb d_15_10_154 rfl (lv_at hl 4 rfl) ?_
              refine q_get (ci := 14) (j := 11) (v := .int t0_5) C0 V i_DR rfl rfl hT0 (by decide) w_2014 rfl d_15_10_155 ?_
              refine lv_if_eq (tgt := 165) hx hb d_15_10_158 (by decide) (fun c84 => ?_) (fun c84 => ?_)
              ·
                refine lv_iconst (v := 1) hx hb d_15_10_165 (by decide) ?_
                exact q_reti C0 V (⟨rfl, (show 0 ≤ (1 : Int32).toInt from (by have z14 : (1 : Int32).toInt = 1 := rfl; omega)), (show (1 : Int32).toInt ≤ 2 from (by have z14 : (1 : Int32).toInt = 1 := rfl; omega)), (show (1 : Int32) = (F_DR_grows x2 x3 t0_0 t0_1 t0_2 t0_3 t0_4 t0_5 t0_6 t0_7 t0_8 t0_9 t0_10 t1_0) from Eq.trans (by rw [F_DR_grows_J92.eq_1, if_neg c70, if_neg c76, if_pos c79, if_pos c81, if_pos c84]) hR65)⟩) d_15_10_166
              ·
                refine lv_iconst (v := 0) hx hb d_15_10_161 (by decide) ?_
                refine lv_goto (tgt := 166) hx hb d_15_10_162 (by decide) ?_
                exact q_reti C0 V (⟨rfl, (show 0 ≤ (0 : Int32).toInt from (by have z14 : (0 : Int32).toInt = 0 := rfl; omega)), (show (0 : Int32).toInt ≤ 2 from (by have z14 : (0 : Int32).toInt = 0 := rfl; omega)), (show (0 : Int32) = (F_DR_grows x2 x3 t0_0 t0_1 t0_2 t0_3 t0_4 t0_5 t0_6 t0_7 t0_8 t0_9 t0_10 t1_0) from Eq.trans (by rw [F_DR_grows_J92.eq_1, if_neg c70, if_neg c76, if_pos c79, if_pos c81, if_neg c84]) hR65)⟩) d_15_10_166
          by_cases c88 : x3 = 3
          ·
            refine q_ti (v := 3) c88 ?_
            refine lv_tableIn (tgt := 167) (off := 72) hx hb d_15_10_95 (by decide) (by decide) (by decide) (by decide) ?_
            refine lv_iload hx hb d_15_10_167 (lv_at hl 1 rfl) ?_
            refine lv_if_ne (tgt := 179) hx hb d_15_10_169 (by decide) (fun c90 => ?_) (fun c90 => ?_)
            ·
              refine lv_iconst (v := 0) hx hb d_15_10_179 (by decide) ?_
              refine lv_goto (tgt := 184) hx hb d_15_10_180 (by decide) ?_
              exact q_reti C0 V (⟨rfl, (show 0 ≤ (0 : Int32).toInt from (by have z14 : (0 : Int32).toInt = 0 := rfl; omega)), (show (0 : Int32).toInt ≤ 2 from (by have z14 : (0 : Int32).toInt = 0 := rfl; omega)), (show (0 : Int32) = (F_DR_grows x2 x3 t0_0 t0_1 t0_2 t0_3 t0_4 t0_5 t0_6 t0_7 t0_8 t0_9 t0_10 t1_0) from Eq.trans (by rw [F_DR_grows_J92.eq_1, if_neg c70, if_neg c76, if_neg c79, if_pos c88, if_neg c90]) hR65)⟩) d_15_10_184
            ·
              refine lv_aload_n hx hb d_15_10_172 rfl (lv_at hl 4 rfl) ?_
              refine q_get (ci := 14) (j := 11) (v := .int t0_5) C0 V i_DR rfl rfl hT0 (by decide) w_2014 rfl d_15_10_173 ?_
              refine lv_if_ne (tgt := 183) hx hb d_15_10_176 (by decide) (fun c93 => ?_) (fun c93 => ?_)
              ·
                refine lv_iconst (v := 1) hx hb d_15_10_183 (by decide) ?_
                exact q_reti C0 V (⟨rfl, (show 0 ≤ (1 : Int32).toInt from (by have z14 : (1 : Int32).toInt = 1 := rfl; omega)), (show (1 : Int32).toInt ≤ 2 from (by have z14 : (1 : Int32).toInt = 1 := rfl; omega)), (show (1 : Int32) = (F_DR_grows x2 x3 t0_0 t0_1 t0_2 t0_3 t0_4 t0_5 t0_6 t0_7 t0_8 t0_9 t0_10 t1_0) from Eq.trans (by rw [F_DR_grows_J92.eq_1, if_neg c70, if_neg c76, if_neg c79, if_pos c88, if_pos c90, if_neg c93]) hR65)⟩) d_15_10_184
              ·
                refine lv_iconst (v := 0) hx hb d_15_10_179 (by decide) ?_
                refine lv_goto (tgt := 184) hx hb d_15_10_180 (by decide) ?_
                exact q_reti C0 V (⟨rfl, (show 0 ≤ (0 : Int32).toInt from (by have z14 : (0 : Int32).toInt = 0 := rfl; omega)), (show (0 : Int32).toInt ≤ 2 from (by have z14 : (0 : Int32).toInt = 0 := rfl; omega)), (show (0 : Int32) = (F_DR_grows x2 x3 t0_0 t0_1 t0_2 t0_3 t0_4 t0_5 t0_6 t0_7 t0_8 t0_9 t0_10 t1_0) from Eq.trans (by rw [F_DR_grows_J92.eq_1, if_neg c70, if_neg c76, if_neg c79, if_pos c88, if_pos c90, if_pos c93]) hR65)⟩) d_15_10_184
          by_cases c97 : x3 = 4
          ·
            refine q_ti (v := 4) c97 ?_
            refine lv_tableIn (tgt := 185) (off := 90) hx hb d_15_10_95 (by decide) (by decide) (by decide) (by decide) ?_
            refine lv_iload_n hx hb d_15_10_185 rfl (lv_at hl 3 rfl) ?_
            refine lv_iconst (v := 5) hx hb d_15_10_186 (by decide) ?_
            refine lv_icmp_lt (tgt := 194) hx hb d_15_10_187 (by decide) (fun c99 => ?_) (fun c99 => ?_)
            ·
              refine lv_iconst (v := 0) hx hb d_15_10_194 (by decide) ?_
              exact q_reti C0 V (⟨rfl, (show 0 ≤ (0 : Int32).toInt from (by have z14 : (0 : Int32).toInt = 0 := rfl; omega)), (show (0 : Int32).toInt ≤ 2 from (by have z14 : (0 : Int32).toInt = 0 := rfl; omega)), (show (0 : Int32) = (F_DR_grows x2 x3 t0_0 t0_1 t0_2 t0_3 t0_4 t0_5 t0_6 t0_7 t0_8 t0_9 t0_10 t1_0) from Eq.trans (by rw [F_DR_grows_J92.eq_1, if_neg c70, if_neg c76, if_neg c79, if_neg c88, if_pos c97, if_pos c99]) hR65)⟩) d_15_10_195
            ·
              refine lv_iconst (v := 1) hx hb d_15_10_190 (by decide) ?_
              refine lv_goto (tgt := 195) hx hb d_15_10_191 (by decide) ?_
              exact q_reti C0 V (⟨rfl, (show 0 ≤ (1 : Int32).toInt from (by have z14 : (1 : Int32).toInt = 1 := rfl; omega)), (show (1 : Int32).toInt ≤ 2 from (by have z14 : (1 : Int32).toInt = 1 := rfl; omega)), (show (1 : Int32) = (F_DR_grows x2 x3 t0_0 t0_1 t0_2 t0_3 t0_4 t0_5 t0_6 t0_7 t0_8 t0_9 t0_10 t1_0) from Eq.trans (by rw [F_DR_grows_J92.eq_1, if_neg c70, if_neg c76, if_neg c79, if_neg c88, if_pos c97, if_neg c99]) hR65)⟩) d_15_10_195
          by_cases c103 : x3 = 5
          ·
            refine q_ti (v := 5) c103 ?_
            refine lv_tableIn (tgt := 196) (off := 101) hx hb d_15_10_95 (by decide) (by decide) (by decide) (by decide) ?_
            refine lv_iload_n hx hb d_15_10_196 rfl (lv_at hl 3 rfl) ?_
            refine lv_iconst (v := 5) hx hb d_15_10_197 (by decide) ?_
            refine lv_icmp_gt (tgt := 211) hx hb d_15_10_198 (by decide) (fun c105 => ?_) (fun c105 => ?_)
            ·
              refine lv_iconst (v := 1) hx hb d_15_10_211 (by decide) ?_
              refine lv_goto (tgt := 216) hx hb d_15_10_212 (by decide) ?_
              exact q_reti C0 V (⟨rfl, (show 0 ≤ (1 : Int32).toInt from (by have z14 : (1 : Int32).toInt = 1 := rfl; omega)), (show (1 : Int32).toInt ≤ 2 from (by have z14 : (1 : Int32).toInt = 1 := rfl; omega)), (show (1 : Int32) = (F_DR_grows x2 x3 t0_0 t0_1 t0_2 t0_3 t0_4 t0_5 t0_6 t0_7 t0_8 t0_9 t0_10 t1_0) from Eq.trans (by rw [F_DR_grows_J92.eq_1, if_neg c70, if_neg c76, if_neg c79, if_neg c88, if_neg c97, if_pos c103, if_pos c105]) hR65)⟩) d_15_10_216
            ·
              refine lv_iload_n hx hb d_15_10_201 rfl (lv_at hl 3 rfl) ?_
              refine lv_iconst (v := 5) hx hb d_15_10_202 (by decide) ?_
              refine lv_icmp_ne (tgt := 215) hx hb d_15_10_203 (by decide) (fun c108 => ?_) (fun c108 => ?_)
              ·
                refine lv_iconst (v := 0) hx hb d_15_10_215 (by decide) ?_
                exact q_reti C0 V (⟨rfl, (show 0 ≤ (0 : Int32).toInt from (by have z14 : (0 : Int32).toInt = 0 := rfl; omega)), (show (0 : Int32).toInt ≤ 2 from (by have z14 : (0 : Int32).toInt = 0 := rfl; omega)), (show (0 : Int32) = (F_DR_grows x2 x3 t0_0 t0_1 t0_2 t0_3 t0_4 t0_5 t0_6 t0_7 t0_8 t0_9 t0_10 t1_0) from Eq.trans (by rw [F_DR_grows_J92.eq_1, if_neg c70, if_neg c76, if_neg c79, if_neg c88, if_neg c97, if_pos c103, if_neg c105, if_neg c108]) hR65)⟩) d_15_10_216
              ·
                refine lv_iload hx hb d_15_10_206 (lv_at hl 2 rfl) ?_
                refine lv_if_eq (tgt := 215) hx hb d_15_10_208 (by decide) (fun c111 => ?_) (fun c111 => ?_)
                ·
                  refine lv_iconst (v := 0) hx hb d_15_10_215 (by decide) ?_
                  exact q_reti C0 V (⟨rfl, (show 0 ≤ (0 : Int32).toInt from (by have z14 : (0 : Int32).toInt = 0 := rfl; omega)), (show (0 : Int32).toInt ≤ 2 from (by have z14 : (0 : Int32).toInt = 0 := rfl; omega)), (show (0 : Int32) = (F_DR_grows x2 x3 t0_0 t0_1 t0_2 t0_3 t0_4 t0_5 t0_6 t0_7 t0_8 t0_9 t0_10 t1_0) from Eq.trans (by rw [F_DR_grows_J92.eq_1, if_neg c70, if_neg c76, if_neg c79, if_neg c88, if_neg c97, if_pos c103, if_neg c105, if_pos c108, if_pos c111]) hR65)⟩) d_15_10_216
                ·
                  refine lv_iconst (v := 1) hx hb d_15_10_211 (by decide) ?_
                  refine lv_goto (tgt := 216) hx hb d_15_10_212 (by decide) ?_
                  exact q_reti C0 V (⟨rfl, (show 0 ≤ (1 : Int32).toInt from (by have z14 : (1 : Int32).toInt = 1 := rfl; omega)), (show (1 : Int32).toInt ≤ 2 from (by have z14 : (1 : Int32).toInt = 1 := rfl; omega)), (show (1 : Int32) = (F_DR_grows x2 x3 t0_0 t0_1 t0_2 t0_3 t0_4 t0_5 t0_6 t0_7 t0_8 t0_9 t0_10 t1_0) from Eq.trans (by rw [F_DR_grows_J92.eq_1, if_neg c70, if_neg c76, if_neg c79, if_neg c88, if_neg c97, if_pos c103, if_neg c105, if_pos c108, if_neg c111]) hR65)⟩) d_15_10_216
          by_cases c115 : x3 = 6
          ·
            refine q_ti (v := 6) c115 ?_
            refine lv_tableIn (tgt := 217) (off := 122) hx hb d_15_10_95 (by decide) (by decide) (by decide) (by decide) ?_
            refine lv_iload_n hx hb d_15_10_217 rfl (lv_at hl 3 rfl) ?_
            refine lv_iconst (v := 5) hx hb d_15_10_218 (by decide) ?_
            refine lv_icmp_gt (tgt := 240) hx hb d_15_10_219 (by decide) (fun c117 => ?_) (fun c117 => ?_)
            ·
              refine lv_iconst (v := 1) hx hb d_15_10_240 (by decide) ?_
              refine lv_goto (tgt := 245) hx hb d_15_10_241 (by decide) ?_
              exact q_reti C0 V (⟨rfl, (show 0 ≤ (1 : Int32).toInt from (by have z14 : (1 : Int32).toInt = 1 := rfl; omega)), (show (1 : Int32).toInt ≤ 2 from (by have z14 : (1 : Int32).toInt = 1 := rfl; omega)), (show (1 : Int32) = (F_DR_grows x2 x3 t0_0 t0_1 t0_2 t0_3 t0_4 t0_5 t0_6 t0_7 t0_8 t0_9 t0_10 t1_0) from Eq.trans (by rw [F_DR_grows_J92.eq_1, if_neg c70, if_neg c76, if_neg c79, if_neg c88, if_neg c97, if_neg c103, if_pos c115, if_pos c117]) hR65)⟩) d_15_10_245
            ·
              refine lv_iload_n hx hb d_15_10_222 rfl (lv_at hl 3 rfl) ?_
              refine lv_iconst (v := 5) hx hb d_15_10_223 (by decide) ?_
              refine lv_icmp_ne (tgt := 244) hx hb d_15_10_224 (by decide) (fun c120 => ?_) (fun c120 => ?_)
              ·
                refine lv_iconst (v := 0) hx hb d_15_10_244 (by decide) ?_
                exact q_reti C0 V (⟨rfl, (show 0 ≤ (0 : Int32).toInt from (by have z14 : (0 : Int32).toInt = 0 := rfl; omega)), (show (0 : Int32).toInt ≤ 2 from (by have z14 : (0 : Int32).toInt = 0 := rfl; omega)), (show (0 : Int32) = (F_DR_grows x2 x3 t0_0 t0_1 t0_2 t0_3 t0_4 t0_5 t0_6 t0_7 t0_8 t0_9 t0_10 t1_0) from Eq.trans (by rw [F_DR_grows_J92.eq_1, if_neg c70, if_neg c76, if_neg c79, if_neg c88, if_neg c97, if_neg c103, if_pos c115, if_neg c117, if_neg c120]) hR65)⟩) d_15_10_245
              ·
                refine lv_iload hx hb d_15_10_227 (lv_at hl 2 rfl) ?_
                refine lv_if_ne (tgt := 240) hx hb d_15_10_229 (by decide) (fun c123 => ?_) (fun c123 => ?_)
                ·
                  refine lv_iconst (v := 1) hx hb d_15_10_240 (by decide) ?_
                  refine lv_goto (tgt := 245) hx hb d_15_10_241 (by decide) ?_
                  exact q_reti C0 V (⟨rfl, (show 0 ≤ (1 : Int32).toInt from (by have z14 : (1 : Int32).toInt = 1 := rfl; omega)), (show (1 : Int32).toInt ≤ 2 from (by have z14 : (1 : Int32).toInt = 1 := rfl; omega)), (show (1 : Int32) = (F_DR_grows x2 x3 t0_0 t0_1 t0_2 t0_3 t0_4 t0_5 t0_6 t0_7 t0_8 t0_9 t0_10 t1_0) from Eq.trans (by rw [F_DR_grows_J92.eq_1, if_neg c70, if_neg c76, if_neg c79, if_neg c88, if_neg c97, if_neg c103, if_pos c115, if_neg c117, if_pos c120, if_neg c123]) hR65)⟩) d_15_10_245
                ·
                  refine lv_iload hx hb d_15_10_232 (lv_at hl 0 rfl) ?_
                  refine lv_iconst (v := 2) hx hb d_15_10_234 (by decide) ?_
                  refine lv_irem hx hb d_15_10_235 (by decide) ?_
                  obtain ⟨a126, e127⟩ := q_nm (lx61 - lx61 / 2 * 2 : Int32)
                  refine q_ti (v := a126) e127 ?_
                  refine lv_iconst (v := 1) hx hb d_15_10_236 (by decide) ?_
                  refine lv_icmp_ne (tgt := 244) hx hb d_15_10_237 (by decide) (fun c128 => ?_) (fun c128 => ?_)
                  ·
                    refine lv_iconst (v := 0) hx hb d_15_10_244 (by decide) ?_
                    exact q_reti C0 V (⟨rfl, (show 0 ≤ (0 : Int32).toInt from (by have z14 : (0 : Int32).toInt = 0 := rfl; omega)), (show (0 : Int32).toInt ≤ 2 from (by have z14 : (0 : Int32).toInt = 0 := rfl; omega)), (show (0 : Int32) = (F_DR_grows x2 x3 t0_0 t0_1 t0_2 t0_3 t0_4 t0_5 t0_6 t0_7 t0_8 t0_9 t0_10 t1_0) from Eq.trans (by have c128x := c128; rw [← e127] at c128x; rw [F_DR_grows_J92.eq_1, if_neg c70, if_neg c76, if_neg c79, if_neg c88, if_neg c97, if_neg c103, if_pos c115, if_neg c117, if_pos c120, if_pos c123, if_neg c128x]) hR65)⟩) d_15_10_245
                  ·
                    refine lv_iconst (v := 1) hx hb d_15_10_240 (by decide) ?_
                    refine lv_goto (tgt := 245) hx hb d_15_10_241 (by decide) ?_
                    exact q_reti C0 V (⟨rfl, (show 0 ≤ (1 : Int32).toInt from (by have z14 : (1 : Int32).toInt = 1 := rfl; omega)), (show (1 : Int32).toInt ≤ 2 from (by have z14 : (1 : Int32).toInt = 1 := rfl; omega)), (show (1 : Int32) = (F_DR_grows x2 x3 t0_0 t0_1 t0_2 t0_3 t0_4 t0_5 t0_6 t0_7 t0_8 t0_9 t0_10 t1_0) from Eq.trans (by have c128x := c128; rw [← e127] at c128x; rw [F_DR_grows_J92.eq_1, if_neg c70, if_neg c76, if_neg c79, if_neg c88, if_neg c97, if_neg c103, if_pos c115, if_neg c117, if_pos c120, if_pos c123, if_pos c128x]) hR65)⟩) d_15_10_245
          refine lv_tableOut (tgt := 246) hx hb d_15_10_95 (by have z0 : x3.toInt ≠ 0 := q_neI c70; have z1 : x3.toInt ≠ 1 := q_neI c76; have z2 : x3.toInt ≠ 2 := q_neI c79; have z3 : x3.toInt ≠ 3 := q_neI c88; have z4 : x3.toInt ≠ 4 := q_neI c97; have z5 : x3.toInt ≠ 5 := q_neI c103; have z6 : x3.toInt ≠ 6 := q_neI c115; omega) (by decide) ?_
          refine lv_iload hx hb d_15_10_246 (lv_at hl 1 rfl) ?_
          refine lv_if_eq (tgt := 255) hx hb d_15_10_248 (by decide) (fun c132 => ?_) (fun c132 => ?_)
          ·
            refine lv_iconst (v := 2) hx hb d_15_10_255 (by decide) ?_
            exact q_reti C0 V (⟨rfl, (show 0 ≤ (2 : Int32).toInt from (by have z14 : (2 : Int32).toInt = 2 := rfl; omega)), (show (2 : Int32).toInt ≤ 2 from (by have z14 : (2 : Int32).toInt = 2 := rfl; omega)), (show (2 : Int32) = (F_DR_grows x2 x3 t0_0 t0_1 t0_2 t0_3 t0_4 t0_5 t0_6 t0_7 t0_8 t0_9 t0_10 t1_0) from Eq.trans (by rw [F_DR_grows_J92.eq_1, if_neg c70, if_neg c76, if_neg c79, if_neg c88, if_neg c97, if_neg c103, if_neg c115, if_pos c132]) hR65)⟩) d_15_10_256
          ·
            refine lv_iconst (v := 0) hx hb d_15_10_251 (by decide) ?_
            refine lv_goto (tgt := 256) hx hb d_15_10_252 (by decide) ?_
            exact q_reti C0 V (⟨rfl, (show 0 ≤ (0 : Int32).toInt from (by have z14 : (0 : Int32).toInt = 0 := rfl; omega)), (show (0 : Int32).toInt ≤ 2 from (by have z14 : (0 : Int32).toInt = 0 := rfl; omega)), (show (0 : Int32) = (F_DR_grows x2 x3 t0_0 t0_1 t0_2 t0_3 t0_4 t0_5 t0_6 t0_7 t0_8 t0_9 t0_10 t1_0) from Eq.trans (by rw [F_DR_grows_J92.eq_1, if_neg c70, if_neg c76, if_neg c79, if_neg c88, if_neg c97, if_neg c103, if_neg c115, if_neg c132]) hR65)⟩) d_15_10_256
        ·
          intro J64
          refine q_join (X := Unit) (fun z H locs ls _ => q_Wd D g (va_A ws sz) s ws H locs ∧ lv_has ls 7 [(5, .int lx50), (4, .int lx39), (3, .int lx20), (0, .ref (q 134)), (2, .int x3)] ∧ F_DR_grows_J91 x2 x3 t0_0 t0_1 t0_2 t0_3 t0_4 t0_5 t0_6 t0_7 t0_8 t0_9 t0_10 t1_0 lx20 lx39 lx50 = (F_DR_grows x2 x3 t0_0 t0_1 t0_2 t0_3 t0_4 t0_5 t0_6 t0_7 t0_8 t0_9 t0_10 t1_0) ∧ True ∧ S_DR_grows_J91 x2 x3 t0_0 t0_1 t0_2 t0_3 t0_4 t0_5 t0_6 t0_7 t0_8 t0_9 t0_10 t1_0 lx20 lx39 lx50) (fun z => []) 91 0 0 ?_ ?_
          ·
            rintro _ H locs ls _ ⟨V, hl, hR138, hS139⟩
            replace hl : lv_has ls 7 [(5, .int lx50), (4, .int lx39), (3, .int lx20), (0, .ref (q 134)), (2, .int x3)] := hl
            refine lv_iconst (v := 0) hx hb d_15_10_91 (by decide) ?_
            exact J64 ((0 : Int32)) _ _ _ ws ⟨V, q_lw hl (q_lw1 0 rfl (q_lw1 1 rfl (q_lw1 2 rfl (q_lw1 3 rfl (q_lw1 4 rfl q_lw0))))), (show F_DR_grows_J92 x2 x3 t0_0 t0_1 t0_2 t0_3 t0_4 t0_5 t0_6 t0_7 t0_8 t0_9 t0_10 t1_0 lx20 lx39 lx50 0 = (F_DR_grows x2 x3 t0_0 t0_1 t0_2 t0_3 t0_4 t0_5 t0_6 t0_7 t0_8 t0_9 t0_10 t1_0) from Eq.trans (by rw [F_DR_grows_J91.eq_1]) hR138), (show True ∧ S_DR_grows_J92 x2 x3 t0_0 t0_1 t0_2 t0_3 t0_4 t0_5 t0_6 t0_7 t0_8 t0_9 t0_10 t1_0 lx20 lx39 lx50 0 from (by have h := hS139; rw [S_DR_grows_J91.eq_1] at h; with_reducible exact h))⟩
          ·
            intro J137
            refine lv_if_le (tgt := 91) hx hb d_15_10_69 (by decide) (fun c143 => ?_) (fun c143 => ?_)
            ·
              exact J137 (()) _ _ _ ws ⟨V, q_lw hl (q_lw1 0 rfl (q_lw1 1 rfl (q_lw1 2 rfl (q_lw1 3 rfl (q_lw1 5 rfl q_lw0))))), (show F_DR_grows_J91 x2 x3 t0_0 t0_1 t0_2 t0_3 t0_4 t0_5 t0_6 t0_7 t0_8 t0_9 t0_10 t1_0 lx20 lx39 lx50 = (F_DR_grows x2 x3 t0_0 t0_1 t0_2 t0_3 t0_4 t0_5 t0_6 t0_7 t0_8 t0_9 t0_10 t1_0) from Eq.trans (by rw [F_DR_grows_J66.eq_1, if_pos c143]) hR56), (show True ∧ S_DR_grows_J91 x2 x3 t0_0 t0_1 t0_2 t0_3 t0_4 t0_5 t0_6 t0_7 t0_8 t0_9 t0_10 t1_0 lx20 lx39 lx50 from (by have h := hS57; rw [S_DR_grows_J66.eq_1] at h; rw [if_pos c143] at h; with_reducible exact h))⟩
            ·
              have b145 : q_F (0 < x2.toInt) := (q_nleI c143)
              refine lv_iload_n hx hb d_15_10_72 rfl (lv_at hl 4 rfl) ?_
              refine lv_aload_n hx hb d_15_10_73 rfl (lv_at hl 3 rfl) ?_
              refine q_get (ci := 14) (j := 8) (v := .int t0_2) C0 V i_DR rfl rfl hT0 (by decide) w_2011 rfl d_15_10_74 ?_
              refine lv_icmp_gt (tgt := 91) hx hb d_15_10_77 (by decide) (fun c146 => ?_) (fun c146 => ?_)
              ·
                exact J137 (()) _ _ _ ws ⟨V, q_lw hl (q_lw1 0 rfl (q_lw1 1 rfl (q_lw1 2 rfl (q_lw1 3 rfl (q_lw1 5 rfl q_lw0))))), (show F_DR_grows_J91 x2 x3 t0_0 t0_1 t0_2 t0_3 t0_4 t0_5 t0_6 t0_7 t0_8 t0_9 t0_10 t1_0 lx20 lx39 lx50 = (F_DR_grows x2 x3 t0_0 t0_1 t0_2 t0_3 t0_4 t0_5 t0_6 t0_7 t0_8 t0_9 t0_10 t1_0) from Eq.trans (by rw [F_DR_grows_J66.eq_1, if_neg c143, if_pos c146]) hR56), (show True ∧ S_DR_grows_J91 x2 x3 t0_0 t0_1 t0_2 t0_3 t0_4 t0_5 t0_6 t0_7 t0_8 t0_9 t0_10 t1_0 lx20 lx39 lx50 from (by have h := hS57; rw [S_DR_grows_J66.eq_1] at h; rw [if_neg c143] at h; rw [if_pos c146] at h; with_reducible exact h))⟩
              ·
                have b148 : q_F (x2.toInt ≤ t0_2.toInt) := (q_nltI c146)
                refine lv_aload_n hx hb d_15_10_80 rfl (lv_at hl 3 rfl) ?_
                refine q_get (ci := 14) (j := 7) (v := .ref (q 140)) C0 V i_DR rfl rfl hT0 (by decide) w_2010 rfl d_15_10_81 ?_
                refine lv_iload_n hx hb d_15_10_84 rfl (lv_at hl 4 rfl) ?_
                refine lv_iconst (v := 1) hx hb d_15_10_85 (by decide) ?_
                refine lv_isub hx hb d_15_10_86 ?_
                obtain ⟨a149, e150⟩ := q_nm (x2 - 1 : Int32)
                refine q_ti (v := a149) e150 ?_
                have b151 : q_F (a149.toInt = x2.toInt - 1) := (by rw [← e150]; show (x2 - 1 : Int32).toInt = x2.toInt - 1; exact q_subI (x := x2.toInt) (y := 1) rfl (by decide) (by have t1 : 0 < x2.toInt := b145; have t2 : x2.toInt ≤ t0_2.toInt := b148; have _ := q_lo32 (x := t0_2); have _ := q_hi32 (x := t0_2); omega) (by have t1 : 0 < x2.toInt := b145; have t2 : x2.toInt ≤ t0_2.toInt := b148; have _ := q_lo32 (x := t0_2); have _ := q_hi32 (x := t0_2); omega))
                have ob152 : q_F (a149.toInt ≤ 4399) := (by rw [← e150]; have h := hS57; rw [S_DR_grows_J66.eq_1] at h; rw [if_neg c143] at h; rw [if_neg c146] at h; exact h.2.1)
                refine q_iald C0 V hT1 (q_ix (x := a149.toInt) rfl (by have t1 : 0 < x2.toInt := b145; have t2 : a149.toInt = x2.toInt - 1 := b151; omega) (by have t1 : 0 < x2.toInt := b145; have t2 : a149.toInt = x2.toInt - 1 := b151; have t3 : a149.toInt ≤ 4399 := ob152; have e9 : (((4400 : Int32).toNatClampNeg : Nat) : Int) = 4400 := (by decide); omega)) d_15_10_87 ?_
                obtain ⟨a153, e154⟩ := q_nm (t1_0 a149.toNatClampNeg : Int32)
                refine q_ti (v := a153) e154 ?_
                refine lv_goto (tgt := 92) hx hb d_15_10_88 (by decide) ?_
                exact J64 ((a153 : Int32)) _ _ _ ws ⟨V, q_lw hl (q_lw1 0 rfl (q_lw1 1 rfl (q_lw1 2 rfl (q_lw1 3 rfl (q_lw1 5 rfl q_lw0))))), (show F_DR_grows_J92 x2 x3 t0_0 t0_1 t0_2 t0_3 t0_4 t0_5 t0_6 t0_7 t0_8 t0_9 t0_10 t1_0 lx20 lx39 lx50 a153 = (F_DR_grows x2 x3 t0_0 t0_1 t0_2 t0_3 t0_4 t0_5 t0_6 t0_7 t0_8 t0_9 t0_10 t1_0) from Eq.trans (by rw [← e154, ← e150, F_DR_grows_J66.eq_1, if_neg c143, if_neg c146]) hR56), (show True ∧ S_DR_grows_J92 x2 x3 t0_0 t0_1 t0_2 t0_3 t0_4 t0_5 t0_6 t0_7 t0_8 t0_9 t0_10 t1_0 lx20 lx39 lx50 a153 from (by rw [← e154, ← e150]; have h := hS57; rw [S_DR_grows_J66.eq_1] at h; rw [if_neg c143] at h; rw [if_neg c146] at h; replace h := q_s2 h; with_reducible exact h))⟩
      ·
        intro J53
        refine q_join (X := Unit) (fun z H locs ls _ => q_Wd D g (va_A ws sz) s ws H locs ∧ lv_has ls 7 [(4, .int lx39), (3, .int lx20), (0, .ref (q 134)), (1, .int x2), (2, .int x3)] ∧ F_DR_grows_J65 x2 x3 t0_0 t0_1 t0_2 t0_3 t0_4 t0_5 t0_6 t0_7 t0_8 t0_9 t0_10 t1_0 lx20 lx39 = (F_DR_grows x2 x3 t0_0 t0_1 t0_2 t0_3 t0_4 t0_5 t0_6 t0_7 t0_8 t0_9 t0_10 t1_0) ∧ True ∧ S_DR_grows_J65 x2 x3 t0_0 t0_1 t0_2 t0_3 t0_4 t0_5 t0_6 t0_7 t0_8 t0_9 t0_10 t1_0 lx20 lx39) (fun z => []) 65 0 0 ?_ ?_
        ·
          rintro _ H locs ls _ ⟨V, hl, hR158, hS159⟩
          replace hl : lv_has ls 7 [(4, .int lx39), (3, .int lx20), (0, .ref (q 134)), (1, .int x2), (2, .int x3)] := hl
          refine lv_iconst (v := 0) hx hb d_15_10_65 (by decide) ?_
          exact J53 ((0 : Int32)) _ _ _ ws ⟨(show q_F (0 ≤ 0) from (show 0 ≤ 0 from by omega)), (show q_F (0 ≤ 1) from (show 0 ≤ 1 from by omega)), V, q_lw hl (q_lw1 0 rfl (q_lw1 1 rfl (q_lw1 2 rfl (q_lw1 3 rfl (q_lw1 4 rfl q_lw0))))), (show F_DR_grows_J66 x2 x3 t0_0 t0_1 t0_2 t0_3 t0_4 t0_5 t0_6 t0_7 t0_8 t0_9 t0_10 t1_0 lx20 lx39 0 = (F_DR_grows x2 x3 t0_0 t0_1 t0_2 t0_3 t0_4 t0_5 t0_6 t0_7 t0_8 t0_9 t0_10 t1_0) from Eq.trans (by rw [F_DR_grows_J65.eq_1]) hR158), (show True ∧ S_DR_grows_J66 x2 x3 t0_0 t0_1 t0_2 t0_3 t0_4 t0_5 t0_6 t0_7 t0_8 t0_9 t0_10 t1_0 lx20 lx39 0 from (by have h := hS159; rw [S_DR_grows_J65.eq_1] at h; with_reducible exact h))⟩
        ·
          intro J157
          refine lv_if_ne (tgt := 65) hx hb d_15_10_53 (by decide) (fun c163 => ?_) (fun c163 => ?_)
          ·
            exact J157 (()) _ _ _ ws ⟨V, q_lw hl (q_lw1 0 rfl (q_lw1 1 rfl (q_lw1 2 rfl (q_lw1 3 rfl (q_lw1 4 rfl q_lw0))))), (show F_DR_grows_J65 x2 x3 t0_0 t0_1 t0_2 t0_3 t0_4 t0_5 t0_6 t0_7 t0_8 t0_9 t0_10 t1_0 lx20 lx39 = (F_DR_grows x2 x3 t0_0 t0_1 t0_2 t0_3 t0_4 t0_5 t0_6 t0_7 t0_8 t0_9 t0_10 t1_0) from Eq.trans (by rw [F_DR_grows_J50.eq_1, if_neg c163]) hR45), (show True ∧ S_DR_grows_J65 x2 x3 t0_0 t0_1 t0_2 t0_3 t0_4 t0_5 t0_6 t0_7 t0_8 t0_9 t0_10 t1_0 lx20 lx39 from (by have h := hS46; rw [S_DR_grows_J50.eq_1] at h; rw [if_neg c163] at h; with_reducible exact h))⟩
          ·
            refine lv_iload hx hb d_15_10_56 (lv_at hl 0 rfl) ?_
            refine lv_if_ne (tgt := 65) hx hb d_15_10_58 (by decide) (fun c166 => ?_) (fun c166 => ?_)
            ·
              exact J157 (()) _ _ _ ws ⟨V, q_lw hl (q_lw1 0 rfl (q_lw1 1 rfl (q_lw1 2 rfl (q_lw1 3 rfl (q_lw1 4 rfl q_lw0))))), (show F_DR_grows_J65 x2 x3 t0_0 t0_1 t0_2 t0_3 t0_4 t0_5 t0_6 t0_7 t0_8 t0_9 t0_10 t1_0 lx20 lx39 = (F_DR_grows x2 x3 t0_0 t0_1 t0_2 t0_3 t0_4 t0_5 t0_6 t0_7 t0_8 t0_9 t0_10 t1_0) from Eq.trans (by rw [F_DR_grows_J50.eq_1, if_pos c163, if_neg c166]) hR45), (show True ∧ S_DR_grows_J65 x2 x3 t0_0 t0_1 t0_2 t0_3 t0_4 t0_5 t0_6 t0_7 t0_8 t0_9 t0_10 t1_0 lx20 lx39 from (by have h := hS46; rw [S_DR_grows_J50.eq_1] at h; rw [if_pos c163] at h; rw [if_neg c166] at h; with_reducible exact h))⟩
            ·
              refine lv_iconst (v := 1) hx hb d_15_10_61 (by decide) ?_
              refine lv_goto (tgt := 66) hx hb d_15_10_62 (by decide) ?_
              exact J53 ((1 : Int32)) _ _ _ ws ⟨(show q_F (0 ≤ 1) from (show 0 ≤ 1 from by omega)), (show q_F (1 ≤ 1) from (show 1 ≤ 1 from by omega)), V, q_lw hl (q_lw1 0 rfl (q_lw1 1 rfl (q_lw1 2 rfl (q_lw1 3 rfl (q_lw1 4 rfl q_lw0))))), (show F_DR_grows_J66 x2 x3 t0_0 t0_1 t0_2 t0_3 t0_4 t0_5 t0_6 t0_7 t0_8 t0_9 t0_10 t1_0 lx20 lx39 1 = (F_DR_grows x2 x3 t0_0 t0_1 t0_2 t0_3 t0_4 t0_5 t0_6 t0_7 t0_8 t0_9 t0_10 t1_0) from Eq.trans (by rw [F_DR_grows_J50.eq_1, if_pos c163, if_pos c166]) hR45), (show True ∧ S_DR_grows_J66 x2 x3 t0_0 t0_1 t0_2 t0_3 t0_4 t0_5 t0_6 t0_7 t0_8 t0_9 t0_10 t1_0 lx20 lx39 1 from (by have h := hS46; rw [S_DR_grows_J50.eq_1] at h; rw [if_pos c163] at h; rw [if_pos c166] at h; with_reducible exact h))⟩
    ·
      intro J42
      refine q_join (X := Unit) (fun z H locs ls _ => q_Wd D g (va_A ws sz) s ws H locs ∧ lv_has ls 7 [(3, .int lx20), (0, .ref (q 134)), (1, .int x2), (2, .int x3)] ∧ F_DR_grows_J45 x2 x3 t0_0 t0_1 t0_2 t0_3 t0_4 t0_5 t0_6 t0_7 t0_8 t0_9 t0_10 t1_0 lx20 = (F_DR_grows x2 x3 t0_0 t0_1 t0_2 t0_3 t0_4 t0_5 t0_6 t0_7 t0_8 t0_9 t0_10 t1_0) ∧ True ∧ S_DR_grows_J45 x2 x3 t0_0 t0_1 t0_2 t0_3 t0_4 t0_5 t0_6 t0_7 t0_8 t0_9 t0_10 t1_0 lx20) (fun z => []) 45 0 0 ?_ ?_
      ·
        rintro _ H locs ls _ ⟨V, hl, hR172, hS173⟩
        replace hl : lv_has ls 7 [(3, .int lx20), (0, .ref (q 134)), (1, .int x2), (2, .int x3)] := hl
        refine lv_iconst (v := 1) hx hb d_15_10_45 (by decide) ?_
        refine lv_goto (tgt := 50) hx hb d_15_10_46 (by decide) ?_
        exact J42 ((1 : Int32)) _ _ _ ws ⟨(show q_F (1 ≤ 1) from (show 1 ≤ 1 from by omega)), (show q_F (t0_4.toInt ≤ 1) from (show t0_4.toInt ≤ 1 from by have t1 : 0 ≤ t0_4.toInt ∧ t0_4.toInt ≤ 1 := btt0_4; omega)), V, q_lw hl (q_lw1 0 rfl (q_lw1 1 rfl (q_lw1 2 rfl (q_lw1 3 rfl q_lw0)))), (show F_DR_grows_J50 x2 x3 t0_0 t0_1 t0_2 t0_3 t0_4 t0_5 t0_6 t0_7 t0_8 t0_9 t0_10 t1_0 lx20 1 = (F_DR_grows x2 x3 t0_0 t0_1 t0_2 t0_3 t0_4 t0_5 t0_6 t0_7 t0_8 t0_9 t0_10 t1_0) from Eq.trans (by rw [F_DR_grows_J45.eq_1]) hR172), (show True ∧ S_DR_grows_J50 x2 x3 t0_0 t0_1 t0_2 t0_3 t0_4 t0_5 t0_6 t0_7 t0_8 t0_9 t0_10 t1_0 lx20 1 from (by have h := hS173; rw [S_DR_grows_J45.eq_1] at h; with_reducible exact h))⟩
      ·
        intro J171
        refine lv_if_ne (tgt := 45) hx hb d_15_10_30 (by decide) (fun c177 => ?_) (fun c177 => ?_)
        ·
          exact J171 (()) _ _ _ ws ⟨V, q_lw hl (q_lw1 0 rfl (q_lw1 1 rfl (q_lw1 2 rfl (q_lw1 3 rfl q_lw0)))), (show F_DR_grows_J45 x2 x3 t0_0 t0_1 t0_2 t0_3 t0_4 t0_5 t0_6 t0_7 t0_8 t0_9 t0_10 t1_0 lx20 = (F_DR_grows x2 x3 t0_0 t0_1 t0_2 t0_3 t0_4 t0_5 t0_6 t0_7 t0_8 t0_9 t0_10 t1_0) from Eq.trans (by have c177x := c177; rw [e38, ← e30] at c177x; rw [F_DR_grows_J22.eq_1, if_neg c177x]) hR24), (show True ∧ S_DR_grows_J45 x2 x3 t0_0 t0_1 t0_2 t0_3 t0_4 t0_5 t0_6 t0_7 t0_8 t0_9 t0_10 t1_0 lx20 from (by have h := hS25; rw [S_DR_grows_J22.eq_1] at h; replace h := q_s2 h; have c177x := c177; rw [e38, ← e30] at c177x; rw [if_neg c177x] at h; with_reducible exact h))⟩
        ·
          have b179 : q_F (a34.toInt = 0) := (q_eqI c177)
          refine lv_iload_n hx hb d_15_10_33 rfl (lv_at hl 2 rfl) ?_
          refine q_join (X := Unit) (fun z H locs ls _ => q_Wd D g (va_A ws sz) s ws H locs ∧ lv_has ls 7 [(3, .int lx20), (0, .ref (q 134)), (1, .int x2), (2, .int x3)] ∧ F_DR_grows_J49 x2 x3 t0_0 t0_1 t0_2 t0_3 t0_4 t0_5 t0_6 t0_7 t0_8 t0_9 t0_10 t1_0 lx20 = (F_DR_grows x2 x3 t0_0 t0_1 t0_2 t0_3 t0_4 t0_5 t0_6 t0_7 t0_8 t0_9 t0_10 t1_0) ∧ True ∧ S_DR_grows_J49 x2 x3 t0_0 t0_1 t0_2 t0_3 t0_4 t0_5 t0_6 t0_7 t0_8 t0_9 t0_10 t1_0 lx20) (fun z => []) 49 0 0 ?_ ?_
          ·
            rintro _ H locs ls _ ⟨V, hl, hR183, hS184⟩
            replace hl : lv_has ls 7 [(3, .int lx20), (0, .ref (q 134)), (1, .int x2), (2, .int x3)] := hl
            refine lv_iconst (v := 0) hx hb d_15_10_49 (by decide) ?_
            exact J42 ((0 : Int32)) _ _ _ ws ⟨(show q_F (0 ≤ 1) from (show 0 ≤ 1 from by omega)), (show q_F (t0_4.toInt ≤ 0) from (show t0_4.toInt ≤ 0 from by have t1 : t0_4.toInt ≤ a34.toInt := b36; have t2 : a34.toInt = 0 := b179; omega)), V, q_lw hl (q_lw1 0 rfl (q_lw1 1 rfl (q_lw1 2 rfl (q_lw1 3 rfl q_lw0)))), (show F_DR_grows_J50 x2 x3 t0_0 t0_1 t0_2 t0_3 t0_4 t0_5 t0_6 t0_7 t0_8 t0_9 t0_10 t1_0 lx20 0 = (F_DR_grows x2 x3 t0_0 t0_1 t0_2 t0_3 t0_4 t0_5 t0_6 t0_7 t0_8 t0_9 t0_10 t1_0) from Eq.trans (by rw [F_DR_grows_J49.eq_1]) hR183), (show True ∧ S_DR_grows_J50 x2 x3 t0_0 t0_1 t0_2 t0_3 t0_4 t0_5 t0_6 t0_7 t0_8 t0_9 t0_10 t1_0 lx20 0 from (by have h := hS184; rw [S_DR_grows_J49.eq_1] at h; with_reducible exact h))⟩
          ·
            intro J182
            refine lv_if_ge (tgt := 49) hx hb d_15_10_34 (by decide) (fun c188 => ?_) (fun c188 => ?_)
            ·
              exact J182 (()) _ _ _ ws ⟨V, q_lw hl (q_lw1 0 rfl (q_lw1 1 rfl (q_lw1 2 rfl (q_lw1 3 rfl q_lw0)))), (show F_DR_grows_J49 x2 x3 t0_0 t0_1 t0_2 t0_3 t0_4 t0_5 t0_6 t0_7 t0_8 t0_9 t0_10 t1_0 lx20 = (F_DR_grows x2 x3 t0_0 t0_1 t0_2 t0_3 t0_4 t0_5 t0_6 t0_7 t0_8 t0_9 t0_10 t1_0) from Eq.trans (by have c177x := c177; rw [e38, ← e30] at c177x; rw [F_DR_grows_J22.eq_1, if_pos c177x, if_pos c188]) hR24), (show True ∧ S_DR_grows_J49 x2 x3 t0_0 t0_1 t0_2 t0_3 t0_4 t0_5 t0_6 t0_7 t0_8 t0_9 t0_10 t1_0 lx20 from (by have h := hS25; rw [S_DR_grows_J22.eq_1] at h; replace h := q_s2 h; have c177x := c177; rw [e38, ← e30] at c177x; rw [if_pos c177x] at h; rw [if_pos c188] at h; with_reducible exact h))⟩
            ·
              refine lv_aload_n hx hb d_15_10_37 rfl (lv_at hl 1 rfl) ?_
              refine lv_iconst (v := 0) hx hb d_15_10_38 (by decide) ?_
              have ob191 : True ∧ S_DR_isMore (0 : Int32) t0_0 t0_1 t0_2 t0_3 t0_4 t0_5 t0_6 t0_7 t0_8 t0_9 t0_10 t1_0 := (by have h := hS25; rw [S_DR_grows_J22.eq_1] at h; replace h := q_s2 h; have c177x := c177; rw [e38, ← e30] at c177x; rw [if_pos c177x] at h; rw [if_neg c188] at h; with_reducible exact h.2.1)
              refine q_goi V (q_runV (As := [.int 0]) (rest := []) (d := 1) (mc := 0) (ms := 0) (ci := 14) C0 V rfl LV_DR_69 (X_DR_isMore l D g q ws  0 hI t0_0 t0_1 t0_2 t0_3 t0_4 t0_5 t0_6 t0_7 t0_8 t0_9 t0_10 hT0 t1_0 hT1 ob191 _) rfl rfl hT0 rfl hl.1 rfl (Nat.le_of_ble_eq_true rfl) ⟨by decide, by decide⟩ ⟨Nat.le_of_ble_eq_true rfl, Nat.le_of_ble_eq_true rfl⟩ d_15_10_39) (fun a194 u192 H locs hp193 V => ?_)
              obtain ⟨rfl, b195, b196, hE197⟩ := hp193
              have e198 : a194 = (F_DR_isMore (0 : Int32) t0_0 t0_1 t0_2 t0_3 t0_4 t0_5 t0_6 t0_7 t0_8 t0_9 t0_10 t1_0) := hE197
              clear b195
              clear b196
              refine lv_if_eq (tgt := 49) hx hb d_15_10_42 (by decide) (fun c199 => ?_) (fun c199 => ?_)
              ·
                exact J182 (()) _ _ _ ws ⟨V, q_lw hl (q_lw1 0 rfl (q_lw1 1 rfl (q_lw1 2 rfl (q_lw1 3 rfl q_lw0)))), (show F_DR_grows_J49 x2 x3 t0_0 t0_1 t0_2 t0_3 t0_4 t0_5 t0_6 t0_7 t0_8 t0_9 t0_10 t1_0 lx20 = (F_DR_grows x2 x3 t0_0 t0_1 t0_2 t0_3 t0_4 t0_5 t0_6 t0_7 t0_8 t0_9 t0_10 t1_0) from Eq.trans (by have c177x := c177; rw [e38, ← e30] at c177x; have c199x := c199; rw [e198] at c199x; rw [F_DR_grows_J22.eq_1, if_pos c177x, if_neg c188, if_pos c199x]) hR24), (show True ∧ S_DR_grows_J49 x2 x3 t0_0 t0_1 t0_2 t0_3 t0_4 t0_5 t0_6 t0_7 t0_8 t0_9 t0_10 t1_0 lx20 from (by have h := hS25; rw [S_DR_grows_J22.eq_1] at h; replace h := q_s2 h; have c177x := c177; rw [e38, ← e30] at c177x; rw [if_pos c177x] at h; rw [if_neg c188] at h; replace h := q_s2 h; have c199x := c199; rw [e198] at c199x; rw [if_pos c199x] at h; with_reducible exact h))⟩
              ·
                exact J171 (()) _ _ _ ws ⟨V, q_lw hl (q_lw1 0 rfl (q_lw1 1 rfl (q_lw1 2 rfl (q_lw1 3 rfl q_lw0)))), (show F_DR_grows_J45 x2 x3 t0_0 t0_1 t0_2 t0_3 t0_4 t0_5 t0_6 t0_7 t0_8 t0_9 t0_10 t1_0 lx20 = (F_DR_grows x2 x3 t0_0 t0_1 t0_2 t0_3 t0_4 t0_5 t0_6 t0_7 t0_8 t0_9 t0_10 t1_0) from Eq.trans (by have c177x := c177; rw [e38, ← e30] at c177x; have c199x := c199; rw [e198] at c199x; rw [F_DR_grows_J22.eq_1, if_pos c177x, if_neg c188, if_neg c199x]) hR24), (show True ∧ S_DR_grows_J45 x2 x3 t0_0 t0_1 t0_2 t0_3 t0_4 t0_5 t0_6 t0_7 t0_8 t0_9 t0_10 t1_0 lx20 from (by have h := hS25; rw [S_DR_grows_J22.eq_1] at h; replace h := q_s2 h; have c177x := c177; rw [e38, ← e30] at c177x; rw [if_pos c177x] at h; rw [if_neg c188] at h; replace h := q_s2 h; have c199x := c199; rw [e198] at c199x; rw [if_neg c199x] at h; with_reducible exact h))⟩
  ·
    intro J23
    refine q_join (X := Unit) (fun z H locs ls _ => q_Wd D g (va_A ws sz) s ws H locs ∧ lv_has ls 7 [(0, .ref (q 134)), (1, .int x2), (2, .int x3)] ∧ F_DR_grows_J21 x2 x3 t0_0 t0_1 t0_2 t0_3 t0_4 t0_5 t0_6 t0_7 t0_8 t0_9 t0_10 t1_0 = (F_DR_grows x2 x3 t0_0 t0_1 t0_2 t0_3 t0_4 t0_5 t0_6 t0_7 t0_8 t0_9 t0_10 t1_0) ∧ True ∧ S_DR_grows_J21 x2 x3 t0_0 t0_1 t0_2 t0_3 t0_4 t0_5 t0_6 t0_7 t0_8 t0_9 t0_10 t1_0) (fun z => []) 21 0 0 ?_ ?_
    ·
      rintro _ H locs ls _ ⟨V, hl, hR205, hS206⟩
      replace hl : lv_has ls 7 [(0, .ref (q 134)), (1, .int x2), (2, .int x3)] := hl
      refine lv_iconst (v := 0) hx hb d_15_10_21 (by decide) ?_
      exact J23 ((0 : Int32)) _ _ _ ws ⟨V, q_lw hl (q_lw1 0 rfl (q_lw1 1 rfl (q_lw1 2 rfl q_lw0))), (show F_DR_grows_J22 x2 x3 t0_0 t0_1 t0_2 t0_3 t0_4 t0_5 t0_6 t0_7 t0_8 t0_9 t0_10 t1_0 0 = (F_DR_grows x2 x3 t0_0 t0_1 t0_2 t0_3 t0_4 t0_5 t0_6 t0_7 t0_8 t0_9 t0_10 t1_0) from Eq.trans (by rw [F_DR_grows_J21.eq_1]) hR205), (show True ∧ S_DR_grows_J22 x2 x3 t0_0 t0_1 t0_2 t0_3 t0_4 t0_5 t0_6 t0_7 t0_8 t0_9 t0_10 t1_0 0 from (by have h := hS206; rw [S_DR_grows_J21.eq_1] at h; with_reducible exact h))⟩
    ·
      intro J204
      refine lv_if_lt (tgt := 21) hx hb d_15_10_1 (by decide) (fun c210 => ?_) (fun c210 => ?_)
      ·
        exact J204 (()) _ _ _ ws ⟨V, q_lw hl (q_lw1 0 rfl (q_lw1 1 rfl (q_lw1 2 rfl q_lw0))), (show F_DR_grows_J21 x2 x3 t0_0 t0_1 t0_2 t0_3 t0_4 t0_5 t0_6 t0_7 t0_8 t0_9 t0_10 t1_0 = (F_DR_grows x2 x3 t0_0 t0_1 t0_2 t0_3 t0_4 t0_5 t0_6 t0_7 t0_8 t0_9 t0_10 t1_0) from (by rw [F_DR_grows.eq_1, if_pos c210])), (show True ∧ S_DR_grows_J21 x2 x3 t0_0 t0_1 t0_2 t0_3 t0_4 t0_5 t0_6 t0_7 t0_8 t0_9 t0_10 t1_0 from (by have h := hS; rw [S_DR_grows.eq_1] at h; rw [if_pos c210] at h; with_reducible exact h))⟩
      ·
        have b212 : q_F (0 ≤ x2.toInt) := (q_nltI c210)
        refine lv_iload_n hx hb d_15_10_4 rfl (lv_at hl 1 rfl) ?_
        refine lv_aload_n hx hb d_15_10_5 rfl (lv_at hl 0 rfl) ?_
        refine q_get (ci := 14) (j := 8) (v := .int t0_2) C0 V i_DR rfl rfl hT0 (by decide) w_2011 rfl d_15_10_6 ?_
        refine lv_icmp_ge (tgt := 21) hx hb d_15_10_9 (by decide) (fun c213 => ?_) (fun c213 => ?_)
        ·
          exact J204 (()) _ _ _ ws ⟨V, q_lw hl (q_lw1 0 rfl (q_lw1 1 rfl (q_lw1 2 rfl q_lw0))), (show F_DR_grows_J21 x2 x3 t0_0 t0_1 t0_2 t0_3 t0_4 t0_5 t0_6 t0_7 t0_8 t0_9 t0_10 t1_0 = (F_DR_grows x2 x3 t0_0 t0_1 t0_2 t0_3 t0_4 t0_5 t0_6 t0_7 t0_8 t0_9 t0_10 t1_0) from (by rw [F_DR_grows.eq_1, if_neg c210, if_pos c213])), (show True ∧ S_DR_grows_J21 x2 x3 t0_0 t0_1 t0_2 t0_3 t0_4 t0_5 t0_6 t0_7 t0_8 t0_9 t0_10 t1_0 from (by have h := hS; rw [S_DR_grows.eq_1] at h; rw [if_neg c210] at h; rw [if_pos c213] at h; with_reducible exact h))⟩
        ·
          refine lv_aload_n hx hb d_15_10_12 rfl (lv_at hl 0 rfl) ?_
          refine q_get (ci := 14) (j := 7) (v := .ref (q 140)) C0 V i_DR rfl rfl hT0 (by decide) w_2010 rfl d_15_10_13 ?_
          refine lv_iload_n hx hb d_15_10_16 rfl (lv_at hl 1 rfl) ?_
          have ob216 : q_F (x2.toInt ≤ 4399) := (by have h := hS; rw [S_DR_grows.eq_1] at h; rw [if_neg c210] at h; rw [if_neg c213] at h; exact h.2.1)
          refine q_iald C0 V hT1 (q_ix (x := x2.toInt) rfl (by first | with_reducible exact q_fe b212 | (have t1 : 0 ≤ x2.toInt := b212; omega)) (by have t1 : 0 ≤ x2.toInt := b212; have t2 : x2.toInt ≤ 4399 := ob216; have e9 : (((4400 : Int32).toNatClampNeg : Nat) : Int) = 4400 := (by decide); omega)) d_15_10_17 ?_
          obtain ⟨a217, e218⟩ := q_nm (t1_0 x2.toNatClampNeg : Int32)
          refine q_ti (v := a217) e218 ?_
          refine lv_goto (tgt := 22) hx hb d_15_10_18 (by decide) ?_
          exact J23 ((a217 : Int32)) _ _ _ ws ⟨V, q_lw hl (q_lw1 0 rfl (q_lw1 1 rfl (q_lw1 2 rfl q_lw0))), (show F_DR_grows_J22 x2 x3 t0_0 t0_1 t0_2 t0_3 t0_4 t0_5 t0_6 t0_7 t0_8 t0_9 t0_10 t1_0 a217 = (F_DR_grows x2 x3 t0_0 t0_1 t0_2 t0_3 t0_4 t0_5 t0_6 t0_7 t0_8 t0_9 t0_10 t1_0) from (by rw [← e218, F_DR_grows.eq_1, if_neg c210, if_neg c213])), (show True ∧ S_DR_grows_J22 x2 x3 t0_0 t0_1 t0_2 t0_3 t0_4 t0_5 t0_6 t0_7 t0_8 t0_9 t0_10 t1_0 a217 from (by rw [← e218]; have h := hS; rw [S_DR_grows.eq_1] at h; rw [if_neg c210] at h; rw [if_neg c213] at h; replace h := q_s2 h; with_reducible exact h))⟩

