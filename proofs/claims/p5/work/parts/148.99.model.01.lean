theorem d_14_16_0 : decode prog_14_method_16_code 0 = .ok (.aload_n 0, 1) := by decide +kernel
theorem d_14_16_1 : decode prog_14_method_16_code 1 = .ok (.iload_n 1, 1) := by decide +kernel
theorem d_14_16_2 : decode prog_14_method_16_code 2 = .ok (.iload_n 2, 1) := by decide +kernel
theorem d_14_16_3 : decode prog_14_method_16_code 3 = .ok (.invokestatic 84, 3) := by decide +kernel
theorem d_14_16_28 : decode prog_14_method_16_code 28 = .ok (.putfield 58, 3) := by decide +kernel
theorem d_14_16_31 : decode prog_14_method_16_code 31 = .ok (.aload_n 0, 1) := by decide +kernel
theorem d_14_16_32 : decode prog_14_method_16_code 32 = .ok (.getfield 58, 3) := by decide +kernel
theorem d_14_16_35 : decode prog_14_method_16_code 35 = .ok (.ifCond .le 4, 3) := by decide +kernel
theorem d_14_16_39 : decode prog_14_method_16_code 39 = .ok (.iload_n 1, 1) := by decide +kernel
theorem d_14_16_40 : decode prog_14_method_16_code 40 = .ok (.ifCond .ne 15, 3) := by decide +kernel
theorem d_14_16_55 : decode prog_14_method_16_code 55 = .ok (.iload_n 1, 1) := by decide +kernel
theorem d_14_16_56 : decode prog_14_method_16_code 56 = .ok (.iconst 1, 1) := by decide +kernel
theorem d_14_16_57 : decode prog_14_method_16_code 57 = .ok (.if_icmp .ne 16, 3) := by decide +kernel
theorem d_14_16_73 : decode prog_14_method_16_code 73 = .ok (.aload_n 0, 1) := by decide +kernel
theorem d_14_16_74 : decode prog_14_method_16_code 74 = .ok (.iload_n 1, 1) := by decide +kernel
theorem d_14_16_75 : decode prog_14_method_16_code 75 = .ok (.iload_n 2, 1) := by decide +kernel
theorem d_14_16_76 : decode prog_14_method_16_code 76 = .ok (.lload_n 3, 1) := by decide +kernel
theorem d_14_16_77 : decode prog_14_method_16_code 77 = .ok (.invokevirtual 120, 3) := by decide +kernel
theorem d_14_16_80 : decode prog_14_method_16_code 80 = .ok (.return_, 1) := by decide +kernel
theorem d_14_16_60 : decode prog_14_method_16_code 60 = .ok (.aload_n 0, 1) := by decide +kernel
theorem d_14_16_61 : decode prog_14_method_16_code 61 = .ok (.getfield 26, 3) := by decide +kernel
theorem d_14_16_64 : decode prog_14_method_16_code 64 = .ok (.iload_n 2, 1) := by decide +kernel
theorem d_14_16_65 : decode prog_14_method_16_code 65 = .ok (.lload_n 3, 1) := by decide +kernel
theorem d_14_16_66 : decode prog_14_method_16_code 66 = .ok (.iconst 0, 1) := by decide +kernel
theorem d_14_16_67 : decode prog_14_method_16_code 67 = .ok (.invokevirtual 128, 3) := by decide +kernel
set_option maxRecDepth 100000 in
theorem w_2546 : (Cond.code ({ cls := "NumberHouseModel$DecimalRows", name := "put", desc := "(IJI)V" } : MethodName) prog_15_method_22_code (10 : Nat) (none : Option ClassFile.FieldType)) ∈ q_tbl := q_of11 146 rfl (by decide +kernel)
set_option maxRecDepth 100000 in
theorem w_2543 : (Cond.methodLink "NumberHouseModel" (128 : Nat) ({ cls := "NumberHouseModel$DecimalRows", name := "put", desc := "(IJI)V" } : MethodName)) ∈ q_tbl := q_of11 143 rfl (by decide +kernel)
set_option maxRecDepth 100000 in
theorem w_2544 : (Cond.instanceMethod ({ cls := "NumberHouseModel$DecimalRows", name := "put", desc := "(IJI)V" } : MethodName)) ∈ q_tbl := q_of11 144 rfl (by decide +kernel)
set_option maxRecDepth 100000 in
theorem w_2545 : (Cond.selects "NumberHouseModel$DecimalRows" ({ cls := "NumberHouseModel$DecimalRows", name := "put", desc := "(IJI)V" } : MethodName) ({ cls := "NumberHouseModel$DecimalRows", name := "put", desc := "(IJI)V" } : MethodName)) ∈ q_tbl := q_of11 145 rfl (by decide +kernel)
theorem LV_NM_128 : q_LV "NumberHouseModel" 128 y_DR_put prog_15_method_22_code 10 none 3 := ⟨w_2546, w_16, w_2543, w_2544, w_2545, ⟨by decide, by decide, by decide +kernel⟩⟩
theorem d_14_16_70 : decode prog_14_method_16_code 70 = .ok (.goto 10, 3) := by decide +kernel
theorem d_14_16_43 : decode prog_14_method_16_code 43 = .ok (.aload_n 0, 1) := by decide +kernel
theorem d_14_16_44 : decode prog_14_method_16_code 44 = .ok (.getfield 19, 3) := by decide +kernel
theorem d_14_16_47 : decode prog_14_method_16_code 47 = .ok (.iload_n 2, 1) := by decide +kernel
theorem d_14_16_48 : decode prog_14_method_16_code 48 = .ok (.lload_n 3, 1) := by decide +kernel
theorem d_14_16_49 : decode prog_14_method_16_code 49 = .ok (.invokevirtual 124, 3) := by decide +kernel
set_option maxRecDepth 100000 in
theorem w_2542 : (Cond.code ({ cls := "NumberHouseModel$WholeRows", name := "put", desc := "(IJ)V" } : MethodName) prog_19_method_20_code (7 : Nat) (none : Option ClassFile.FieldType)) ∈ q_tbl := q_of11 142 rfl (by decide +kernel)
set_option maxRecDepth 100000 in
theorem w_2539 : (Cond.methodLink "NumberHouseModel" (124 : Nat) ({ cls := "NumberHouseModel$WholeRows", name := "put", desc := "(IJ)V" } : MethodName)) ∈ q_tbl := q_of11 139 rfl (by decide +kernel)
set_option maxRecDepth 100000 in
theorem w_2540 : (Cond.instanceMethod ({ cls := "NumberHouseModel$WholeRows", name := "put", desc := "(IJ)V" } : MethodName)) ∈ q_tbl := q_of11 140 rfl (by decide +kernel)
set_option maxRecDepth 100000 in
theorem w_2541 : (Cond.selects "NumberHouseModel$WholeRows" ({ cls := "NumberHouseModel$WholeRows", name := "put", desc := "(IJ)V" } : MethodName) ({ cls := "NumberHouseModel$WholeRows", name := "put", desc := "(IJ)V" } : MethodName)) ∈ q_tbl := q_of11 141 rfl (by decide +kernel)
theorem LV_NM_124 : q_LV "NumberHouseModel" 124 y_WR_put prog_19_method_20_code 7 none 2 := ⟨w_2542, w_15, w_2539, w_2540, w_2541, ⟨by decide, by decide, by decide +kernel⟩⟩
theorem d_14_16_52 : decode prog_14_method_16_code 52 = .ok (.goto 28, 3) := by decide +kernel
theorem d_14_16_38 : decode prog_14_method_16_code 38 = .ok (.return_, 1) := by decide +kernel
theorem d_14_16_23 : decode prog_14_method_16_code 23 = .ok (.iconst 1, 1) := by decide +kernel
theorem d_14_16_24 : decode prog_14_method_16_code 24 = .ok (.goto 4, 3) := by decide +kernel
theorem d_14_16_6 : decode prog_14_method_16_code 6 = .ok (.ifCond .ne 17, 3) := by decide +kernel
theorem d_14_16_9 : decode prog_14_method_16_code 9 = .ok (.iload_n 1, 1) := by decide +kernel
theorem d_14_16_10 : decode prog_14_method_16_code 10 = .ok (.iconst 3, 1) := by decide +kernel
theorem d_14_16_27 : decode prog_14_method_16_code 27 = .ok (.iconst 0, 1) := by decide +kernel
theorem d_14_16_11 : decode prog_14_method_16_code 11 = .ok (.if_icmp .ne 16, 3) := by decide +kernel
theorem d_14_16_14 : decode prog_14_method_16_code 14 = .ok (.lload_n 3, 1) := by decide +kernel
theorem d_14_16_15 : decode prog_14_method_16_code 15 = .ok (.bipush 32, 2) := by decide +kernel
theorem d_14_16_17 : decode prog_14_method_16_code 17 = .ok (.lushr, 1) := by decide +kernel
theorem d_14_16_18 : decode prog_14_method_16_code 18 = .ok (.lconst 0, 1) := by decide +kernel
theorem d_14_16_19 : decode prog_14_method_16_code 19 = .ok (.lcmp, 1) := by decide +kernel
theorem d_14_16_20 : decode prog_14_method_16_code 20 = .ok (.ifCond .eq 7, 3) := by decide +kernel
def y_NM_put : MethodName := ⟨"NumberHouseModel", "put", "(IIJ)V"⟩
def F_NM_put_c67 (x2 : Int32) (x3 : Int32) (x4 : Int64) (t0_0 : Int32) (t0_1 : Int32) (t0_2 : Int32) (t1_0 : Int32) (t1_1 : Int32) (t1_2 : Int32) (t1_3 : Int32) (t1_4 : Int32) (t1_5 : Int32) (t1_6 : Int32) (t2_0 : (Nat → Int32)) (t3_0 : (Nat → Int32)) (t4_0 : (Nat → Int32)) (t5_0 : Int32) (t5_1 : Int32) (t5_2 : Int32) (t5_3 : Int64) (t5_4 : Int32) (t5_5 : Int32) (t5_6 : Int32) (t5_7 : Int32) (t5_8 : Int32) (t5_9 : Int32) (t5_10 : Int32) (t6_0 : (Nat → Int32)) (t7_0 : (Nat → Int32)) (t8_0 : (Nat → Int32)) (t9_0 : (Nat → Int32)) (t10_0 : (Nat → Int32)) (t11_0 : (Nat → Int64)) (lx69 : Int32) (p148 : (Int32 × Int32 × Int32 × Int64 × Int32 × Int32 × Int32 × Int32 × Int32 × Int32 × Int32 × (Nat → Int32) × (Nat → Int32) × (Nat → Int32) × (Nat → Int32) × (Nat → Int32))) : Int32 × Int32 × Int32 × Int32 × Int32 × Int32 × Int32 × Int32 × (Nat → Int32) × (Nat → Int32) × (Nat → Int32) × Int32 × Int32 × Int32 × Int64 × Int32 × Int32 × Int32 × Int32 × Int32 × Int32 × Int32 × (Nat → Int32) × (Nat → Int32) × (Nat → Int32) × (Nat → Int32) × (Nat → Int32) × (Nat → Int64) := (lx69, t1_0, t1_1, t1_2, t1_3, t1_4, t1_5, t1_6, t2_0, t3_0, t4_0, (p148.1 : Int32), (p148.2.1 : Int32), (p148.2.2.1 : Int32), (p148.2.2.2.1 : Int64), (p148.2.2.2.2.1 : Int32), (p148.2.2.2.2.2.1 : Int32), (p148.2.2.2.2.2.2.1 : Int32), (p148.2.2.2.2.2.2.2.1 : Int32), (p148.2.2.2.2.2.2.2.2.1 : Int32), (p148.2.2.2.2.2.2.2.2.2.1 : Int32), (p148.2.2.2.2.2.2.2.2.2.2.1 : Int32), (p148.2.2.2.2.2.2.2.2.2.2.2.1 : (Nat → Int32)), (p148.2.2.2.2.2.2.2.2.2.2.2.2.1 : (Nat → Int32)), (p148.2.2.2.2.2.2.2.2.2.2.2.2.2.1 : (Nat → Int32)), (p148.2.2.2.2.2.2.2.2.2.2.2.2.2.2.1 : (Nat → Int32)), (p148.2.2.2.2.2.2.2.2.2.2.2.2.2.2.2 : (Nat → Int32)), t11_0)
def F_NM_put_c49 (x2 : Int32) (x3 : Int32) (x4 : Int64) (t0_0 : Int32) (t0_1 : Int32) (t0_2 : Int32) (t1_0 : Int32) (t1_1 : Int32) (t1_2 : Int32) (t1_3 : Int32) (t1_4 : Int32) (t1_5 : Int32) (t1_6 : Int32) (t2_0 : (Nat → Int32)) (t3_0 : (Nat → Int32)) (t4_0 : (Nat → Int32)) (t5_0 : Int32) (t5_1 : Int32) (t5_2 : Int32) (t5_3 : Int64) (t5_4 : Int32) (t5_5 : Int32) (t5_6 : Int32) (t5_7 : Int32) (t5_8 : Int32) (t5_9 : Int32) (t5_10 : Int32) (t6_0 : (Nat → Int32)) (t7_0 : (Nat → Int32)) (t8_0 : (Nat → Int32)) (t9_0 : (Nat → Int32)) (t10_0 : (Nat → Int32)) (t11_0 : (Nat → Int64)) (lx69 : Int32) (p203 : (Int32 × Int32 × Int32 × Int32 × Int32 × Int32 × Int32 × (Nat → Int32) × (Nat → Int32) × (Nat → Int32))) : Int32 × Int32 × Int32 × Int32 × Int32 × Int32 × Int32 × Int32 × (Nat → Int32) × (Nat → Int32) × (Nat → Int32) × Int32 × Int32 × Int32 × Int64 × Int32 × Int32 × Int32 × Int32 × Int32 × Int32 × Int32 × (Nat → Int32) × (Nat → Int32) × (Nat → Int32) × (Nat → Int32) × (Nat → Int32) × (Nat → Int64) := (lx69, (p203.1 : Int32), (p203.2.1 : Int32), (p203.2.2.1 : Int32), (p203.2.2.2.1 : Int32), (p203.2.2.2.2.1 : Int32), (p203.2.2.2.2.2.1 : Int32), (p203.2.2.2.2.2.2.1 : Int32), (p203.2.2.2.2.2.2.2.1 : (Nat → Int32)), (p203.2.2.2.2.2.2.2.2.1 : (Nat → Int32)), (p203.2.2.2.2.2.2.2.2.2 : (Nat → Int32)), t5_0, t5_1, t5_2, t5_3, t5_4, t5_5, t5_6, t5_7, t5_8, t5_9, t5_10, t6_0, t7_0, t8_0, t9_0, t10_0, t11_0)
def F_NM_put_J28 (x2 : Int32) (x3 : Int32) (x4 : Int64) (t0_0 : Int32) (t0_1 : Int32) (t0_2 : Int32) (t1_0 : Int32) (t1_1 : Int32) (t1_2 : Int32) (t1_3 : Int32) (t1_4 : Int32) (t1_5 : Int32) (t1_6 : Int32) (t2_0 : (Nat → Int32)) (t3_0 : (Nat → Int32)) (t4_0 : (Nat → Int32)) (t5_0 : Int32) (t5_1 : Int32) (t5_2 : Int32) (t5_3 : Int64) (t5_4 : Int32) (t5_5 : Int32) (t5_6 : Int32) (t5_7 : Int32) (t5_8 : Int32) (t5_9 : Int32) (t5_10 : Int32) (t6_0 : (Nat → Int32)) (t7_0 : (Nat → Int32)) (t8_0 : (Nat → Int32)) (t9_0 : (Nat → Int32)) (t10_0 : (Nat → Int32)) (t11_0 : (Nat → Int64)) (lx69 : Int32) : Int32 × Int32 × Int32 × Int32 × Int32 × Int32 × Int32 × Int32 × (Nat → Int32) × (Nat → Int32) × (Nat → Int32) × Int32 × Int32 × Int32 × Int64 × Int32 × Int32 × Int32 × Int32 × Int32 × Int32 × Int32 × (Nat → Int32) × (Nat → Int32) × (Nat → Int32) × (Nat → Int32) × (Nat → Int32) × (Nat → Int64) := if lx69 ≤ (0 : Int32) then (if x2 = (0 : Int32) then (F_NM_put_c49 x2 x3 x4 t0_0 t0_1 t0_2 t1_0 t1_1 t1_2 t1_3 t1_4 t1_5 t1_6 t2_0 t3_0 t4_0 t5_0 t5_1 t5_2 t5_3 t5_4 t5_5 t5_6 t5_7 t5_8 t5_9 t5_10 t6_0 t7_0 t8_0 t9_0 t10_0 t11_0 lx69 ((F_WR_put x3 x4 t1_0 t1_1 t1_2 t1_3 t1_4 t1_5 t1_6 t2_0 t3_0 t4_0) : (Int32 × Int32 × Int32 × Int32 × Int32 × Int32 × Int32 × (Nat → Int32) × (Nat → Int32) × (Nat → Int32)))) else (if x2 = (1 : Int32) then (F_NM_put_c67 x2 x3 x4 t0_0 t0_1 t0_2 t1_0 t1_1 t1_2 t1_3 t1_4 t1_5 t1_6 t2_0 t3_0 t4_0 t5_0 t5_1 t5_2 t5_3 t5_4 t5_5 t5_6 t5_7 t5_8 t5_9 t5_10 t6_0 t7_0 t8_0 t9_0 t10_0 t11_0 lx69 ((F_DR_put x3 x4 (0 : Int32) t5_0 t5_1 t5_2 t5_3 t5_4 t5_5 t5_6 t5_7 t5_8 t5_9 t5_10 t6_0 t7_0 t8_0 t9_0 t10_0) : (Int32 × Int32 × Int32 × Int64 × Int32 × Int32 × Int32 × Int32 × Int32 × Int32 × Int32 × (Nat → Int32) × (Nat → Int32) × (Nat → Int32) × (Nat → Int32) × (Nat → Int32)))) else ((lx69, t1_0, t1_1, t1_2, t1_3, t1_4, t1_5, t1_6, t2_0, t3_0, t4_0, t5_0, t5_1, t5_2, t5_3, t5_4, t5_5, t5_6, t5_7, t5_8, t5_9, t5_10, t6_0, t7_0, t8_0, t9_0, t10_0, ((F_NM_setBits x2 x3 x4 lx69 t0_1 t0_2 t11_0) : (Nat → Int64)))))) else ((lx69, t1_0, t1_1, t1_2, t1_3, t1_4, t1_5, t1_6, t2_0, t3_0, t4_0, t5_0, t5_1, t5_2, t5_3, t5_4, t5_5, t5_6, t5_7, t5_8, t5_9, t5_10, t6_0, t7_0, t8_0, t9_0, t10_0, t11_0))
def F_NM_put_J23 (x2 : Int32) (x3 : Int32) (x4 : Int64) (t0_0 : Int32) (t0_1 : Int32) (t0_2 : Int32) (t1_0 : Int32) (t1_1 : Int32) (t1_2 : Int32) (t1_3 : Int32) (t1_4 : Int32) (t1_5 : Int32) (t1_6 : Int32) (t2_0 : (Nat → Int32)) (t3_0 : (Nat → Int32)) (t4_0 : (Nat → Int32)) (t5_0 : Int32) (t5_1 : Int32) (t5_2 : Int32) (t5_3 : Int64) (t5_4 : Int32) (t5_5 : Int32) (t5_6 : Int32) (t5_7 : Int32) (t5_8 : Int32) (t5_9 : Int32) (t5_10 : Int32) (t6_0 : (Nat → Int32)) (t7_0 : (Nat → Int32)) (t8_0 : (Nat → Int32)) (t9_0 : (Nat → Int32)) (t10_0 : (Nat → Int32)) (t11_0 : (Nat → Int64)) : Int32 × Int32 × Int32 × Int32 × Int32 × Int32 × Int32 × Int32 × (Nat → Int32) × (Nat → Int32) × (Nat → Int32) × Int32 × Int32 × Int32 × Int64 × Int32 × Int32 × Int32 × Int32 × Int32 × Int32 × Int32 × (Nat → Int32) × (Nat → Int32) × (Nat → Int32) × (Nat → Int32) × (Nat → Int32) × (Nat → Int64) := F_NM_put_J28 x2 x3 x4 t0_0 t0_1 t0_2 t1_0 t1_1 t1_2 t1_3 t1_4 t1_5 t1_6 t2_0 t3_0 t4_0 t5_0 t5_1 t5_2 t5_3 t5_4 t5_5 t5_6 t5_7 t5_8 t5_9 t5_10 t6_0 t7_0 t8_0 t9_0 t10_0 t11_0 1
def F_NM_put_J27 (x2 : Int32) (x3 : Int32) (x4 : Int64) (t0_0 : Int32) (t0_1 : Int32) (t0_2 : Int32) (t1_0 : Int32) (t1_1 : Int32) (t1_2 : Int32) (t1_3 : Int32) (t1_4 : Int32) (t1_5 : Int32) (t1_6 : Int32) (t2_0 : (Nat → Int32)) (t3_0 : (Nat → Int32)) (t4_0 : (Nat → Int32)) (t5_0 : Int32) (t5_1 : Int32) (t5_2 : Int32) (t5_3 : Int64) (t5_4 : Int32) (t5_5 : Int32) (t5_6 : Int32) (t5_7 : Int32) (t5_8 : Int32) (t5_9 : Int32) (t5_10 : Int32) (t6_0 : (Nat → Int32)) (t7_0 : (Nat → Int32)) (t8_0 : (Nat → Int32)) (t9_0 : (Nat → Int32)) (t10_0 : (Nat → Int32)) (t11_0 : (Nat → Int64)) : Int32 × Int32 × Int32 × Int32 × Int32 × Int32 × Int32 × Int32 × (Nat → Int32) × (Nat → Int32) × (Nat → Int32) × Int32 × Int32 × Int32 × Int64 × Int32 × Int32 × Int32 × Int32 × Int32 × Int32 × Int32 × (Nat → Int32) × (Nat → Int32) × (Nat → Int32) × (Nat → Int32) × (Nat → Int32) × (Nat → Int64) := F_NM_put_J28 x2 x3 x4 t0_0 t0_1 t0_2 t1_0 t1_1 t1_2 t1_3 t1_4 t1_5 t1_6 t2_0 t3_0 t4_0 t5_0 t5_1 t5_2 t5_3 t5_4 t5_5 t5_6 t5_7 t5_8 t5_9 t5_10 t6_0 t7_0 t8_0 t9_0 t10_0 t11_0 0
def F_NM_put (x2 : Int32) (x3 : Int32) (x4 : Int64) (t0_0 : Int32) (t0_1 : Int32) (t0_2 : Int32) (t1_0 : Int32) (t1_1 : Int32) (t1_2 : Int32) (t1_3 : Int32) (t1_4 : Int32) (t1_5 : Int32) (t1_6 : Int32) (t2_0 : (Nat → Int32)) (t3_0 : (Nat → Int32)) (t4_0 : (Nat → Int32)) (t5_0 : Int32) (t5_1 : Int32) (t5_2 : Int32) (t5_3 : Int64) (t5_4 : Int32) (t5_5 : Int32) (t5_6 : Int32) (t5_7 : Int32) (t5_8 : Int32) (t5_9 : Int32) (t5_10 : Int32) (t6_0 : (Nat → Int32)) (t7_0 : (Nat → Int32)) (t8_0 : (Nat → Int32)) (t9_0 : (Nat → Int32)) (t10_0 : (Nat → Int32)) (t11_0 : (Nat → Int64)) : Int32 × Int32 × Int32 × Int32 × Int32 × Int32 × Int32 × Int32 × (Nat → Int32) × (Nat → Int32) × (Nat → Int32) × Int32 × Int32 × Int32 × Int64 × Int32 × Int32 × Int32 × Int32 × Int32 × Int32 × Int32 × (Nat → Int32) × (Nat → Int32) × (Nat → Int32) × (Nat → Int32) × (Nat → Int32) × (Nat → Int64) := if ((F_NM_no_IIZ x2 x3) : Int32) = (0 : Int32) then (if x2 = (3 : Int32) then (if (lg_cmp ((x4.toUInt64 >>> ((32 : Int32).toInt64.toUInt64 &&& Int64.toUInt64 63)).toInt64 : Int64) 0 : Int32) = (0 : Int32) then (F_NM_put_J27 x2 x3 x4 t0_0 t0_1 t0_2 t1_0 t1_1 t1_2 t1_3 t1_4 t1_5 t1_6 t2_0 t3_0 t4_0 t5_0 t5_1 t5_2 t5_3 t5_4 t5_5 t5_6 t5_7 t5_8 t5_9 t5_10 t6_0 t7_0 t8_0 t9_0 t10_0 t11_0) else (F_NM_put_J23 x2 x3 x4 t0_0 t0_1 t0_2 t1_0 t1_1 t1_2 t1_3 t1_4 t1_5 t1_6 t2_0 t3_0 t4_0 t5_0 t5_1 t5_2 t5_3 t5_4 t5_5 t5_6 t5_7 t5_8 t5_9 t5_10 t6_0 t7_0 t8_0 t9_0 t10_0 t11_0)) else (F_NM_put_J27 x2 x3 x4 t0_0 t0_1 t0_2 t1_0 t1_1 t1_2 t1_3 t1_4 t1_5 t1_6 t2_0 t3_0 t4_0 t5_0 t5_1 t5_2 t5_3 t5_4 t5_5 t5_6 t5_7 t5_8 t5_9 t5_10 t6_0 t7_0 t8_0 t9_0 t10_0 t11_0)) else (F_NM_put_J23 x2 x3 x4 t0_0 t0_1 t0_2 t1_0 t1_1 t1_2 t1_3 t1_4 t1_5 t1_6 t2_0 t3_0 t4_0 t5_0 t5_1 t5_2 t5_3 t5_4 t5_5 t5_6 t5_7 t5_8 t5_9 t5_10 t6_0 t7_0 t8_0 t9_0 t10_0 t11_0)
def S_NM_put_c67 (x2 : Int32) (x3 : Int32) (x4 : Int64) (t0_0 : Int32) (t0_1 : Int32) (t0_2 : Int32) (t1_0 : Int32) (t1_1 : Int32) (t1_2 : Int32) (t1_3 : Int32) (t1_4 : Int32) (t1_5 : Int32) (t1_6 : Int32) (t2_0 : (Nat → Int32)) (t3_0 : (Nat → Int32)) (t4_0 : (Nat → Int32)) (t5_0 : Int32) (t5_1 : Int32) (t5_2 : Int32) (t5_3 : Int64) (t5_4 : Int32) (t5_5 : Int32) (t5_6 : Int32) (t5_7 : Int32) (t5_8 : Int32) (t5_9 : Int32) (t5_10 : Int32) (t6_0 : (Nat → Int32)) (t7_0 : (Nat → Int32)) (t8_0 : (Nat → Int32)) (t9_0 : (Nat → Int32)) (t10_0 : (Nat → Int32)) (t11_0 : (Nat → Int64)) (lx69 : Int32) (p148 : (Int32 × Int32 × Int32 × Int64 × Int32 × Int32 × Int32 × Int32 × Int32 × Int32 × Int32 × (Nat → Int32) × (Nat → Int32) × (Nat → Int32) × (Nat → Int32) × (Nat → Int32))) : Prop := True
def S_NM_put_c49 (x2 : Int32) (x3 : Int32) (x4 : Int64) (t0_0 : Int32) (t0_1 : Int32) (t0_2 : Int32) (t1_0 : Int32) (t1_1 : Int32) (t1_2 : Int32) (t1_3 : Int32) (t1_4 : Int32) (t1_5 : Int32) (t1_6 : Int32) (t2_0 : (Nat → Int32)) (t3_0 : (Nat → Int32)) (t4_0 : (Nat → Int32)) (t5_0 : Int32) (t5_1 : Int32) (t5_2 : Int32) (t5_3 : Int64) (t5_4 : Int32) (t5_5 : Int32) (t5_6 : Int32) (t5_7 : Int32) (t5_8 : Int32) (t5_9 : Int32) (t5_10 : Int32) (t6_0 : (Nat → Int32)) (t7_0 : (Nat → Int32)) (t8_0 : (Nat → Int32)) (t9_0 : (Nat → Int32)) (t10_0 : (Nat → Int32)) (t11_0 : (Nat → Int64)) (lx69 : Int32) (p203 : (Int32 × Int32 × Int32 × Int32 × Int32 × Int32 × Int32 × (Nat → Int32) × (Nat → Int32) × (Nat → Int32))) : Prop := True
def S_NM_put_J28 (x2 : Int32) (x3 : Int32) (x4 : Int64) (t0_0 : Int32) (t0_1 : Int32) (t0_2 : Int32) (t1_0 : Int32) (t1_1 : Int32) (t1_2 : Int32) (t1_3 : Int32) (t1_4 : Int32) (t1_5 : Int32) (t1_6 : Int32) (t2_0 : (Nat → Int32)) (t3_0 : (Nat → Int32)) (t4_0 : (Nat → Int32)) (t5_0 : Int32) (t5_1 : Int32) (t5_2 : Int32) (t5_3 : Int64) (t5_4 : Int32) (t5_5 : Int32) (t5_6 : Int32) (t5_7 : Int32) (t5_8 : Int32) (t5_9 : Int32) (t5_10 : Int32) (t6_0 : (Nat → Int32)) (t7_0 : (Nat → Int32)) (t8_0 : (Nat → Int32)) (t9_0 : (Nat → Int32)) (t10_0 : (Nat → Int32)) (t11_0 : (Nat → Int64)) (lx69 : Int32) : Prop := if lx69 ≤ (0 : Int32) then (if x2 = (0 : Int32) then ((True ∧ S_WR_put x3 x4 t1_0 t1_1 t1_2 t1_3 t1_4 t1_5 t1_6 t2_0 t3_0 t4_0) ∧ (S_NM_put_c49 x2 x3 x4 t0_0 t0_1 t0_2 t1_0 t1_1 t1_2 t1_3 t1_4 t1_5 t1_6 t2_0 t3_0 t4_0 t5_0 t5_1 t5_2 t5_3 t5_4 t5_5 t5_6 t5_7 t5_8 t5_9 t5_10 t6_0 t7_0 t8_0 t9_0 t10_0 t11_0 lx69 ((F_WR_put x3 x4 t1_0 t1_1 t1_2 t1_3 t1_4 t1_5 t1_6 t2_0 t3_0 t4_0) : (Int32 × Int32 × Int32 × Int32 × Int32 × Int32 × Int32 × (Nat → Int32) × (Nat → Int32) × (Nat → Int32))))) else (if x2 = (1 : Int32) then ((True ∧ S_DR_put x3 x4 (0 : Int32) t5_0 t5_1 t5_2 t5_3 t5_4 t5_5 t5_6 t5_7 t5_8 t5_9 t5_10 t6_0 t7_0 t8_0 t9_0 t10_0) ∧ (S_NM_put_c67 x2 x3 x4 t0_0 t0_1 t0_2 t1_0 t1_1 t1_2 t1_3 t1_4 t1_5 t1_6 t2_0 t3_0 t4_0 t5_0 t5_1 t5_2 t5_3 t5_4 t5_5 t5_6 t5_7 t5_8 t5_9 t5_10 t6_0 t7_0 t8_0 t9_0 t10_0 t11_0 lx69 ((F_DR_put x3 x4 (0 : Int32) t5_0 t5_1 t5_2 t5_3 t5_4 t5_5 t5_6 t5_7 t5_8 t5_9 t5_10 t6_0 t7_0 t8_0 t9_0 t10_0) : (Int32 × Int32 × Int32 × Int64 × Int32 × Int32 × Int32 × Int32 × Int32 × Int32 × Int32 × (Nat → Int32) × (Nat → Int32) × (Nat → Int32) × (Nat → Int32) × (Nat → Int32))))) else ((True ∧ S_NM_setBits x2 x3 x4 lx69 t0_1 t0_2 t11_0) ∧ (True)))) else (True)
def S_NM_put_J23 (x2 : Int32) (x3 : Int32) (x4 : Int64) (t0_0 : Int32) (t0_1 : Int32) (t0_2 : Int32) (t1_0 : Int32) (t1_1 : Int32) (t1_2 : Int32) (t1_3 : Int32) (t1_4 : Int32) (t1_5 : Int32) (t1_6 : Int32) (t2_0 : (Nat → Int32)) (t3_0 : (Nat → Int32)) (t4_0 : (Nat → Int32)) (t5_0 : Int32) (t5_1 : Int32) (t5_2 : Int32) (t5_3 : Int64) (t5_4 : Int32) (t5_5 : Int32) (t5_6 : Int32) (t5_7 : Int32) (t5_8 : Int32) (t5_9 : Int32) (t5_10 : Int32) (t6_0 : (Nat → Int32)) (t7_0 : (Nat → Int32)) (t8_0 : (Nat → Int32)) (t9_0 : (Nat → Int32)) (t10_0 : (Nat → Int32)) (t11_0 : (Nat → Int64)) : Prop := S_NM_put_J28 x2 x3 x4 t0_0 t0_1 t0_2 t1_0 t1_1 t1_2 t1_3 t1_4 t1_5 t1_6 t2_0 t3_0 t4_0 t5_0 t5_1 t5_2 t5_3 t5_4 t5_5 t5_6 t5_7 t5_8 t5_9 t5_10 t6_0 t7_0 t8_0 t9_0 t10_0 t11_0 1
def S_NM_put_J27 (x2 : Int32) (x3 : Int32) (x4 : Int64) (t0_0 : Int32) (t0_1 : Int32) (t0_2 : Int32) (t1_0 : Int32) (t1_1 : Int32) (t1_2 : Int32) (t1_3 : Int32) (t1_4 : Int32) (t1_5 : Int32) (t1_6 : Int32) (t2_0 : (Nat → Int32)) (t3_0 : (Nat → Int32)) (t4_0 : (Nat → Int32)) (t5_0 : Int32) (t5_1 : Int32) (t5_2 : Int32) (t5_3 : Int64) (t5_4 : Int32) (t5_5 : Int32) (t5_6 : Int32) (t5_7 : Int32) (t5_8 : Int32) (t5_9 : Int32) (t5_10 : Int32) (t6_0 : (Nat → Int32)) (t7_0 : (Nat → Int32)) (t8_0 : (Nat → Int32)) (t9_0 : (Nat → Int32)) (t10_0 : (Nat → Int32)) (t11_0 : (Nat → Int64)) : Prop := S_NM_put_J28 x2 x3 x4 t0_0 t0_1 t0_2 t1_0 t1_1 t1_2 t1_3 t1_4 t1_5 t1_6 t2_0 t3_0 t4_0 t5_0 t5_1 t5_2 t5_3 t5_4 t5_5 t5_6 t5_7 t5_8 t5_9 t5_10 t6_0 t7_0 t8_0 t9_0 t10_0 t11_0 0
def S_NM_put (x2 : Int32) (x3 : Int32) (x4 : Int64) (t0_0 : Int32) (t0_1 : Int32) (t0_2 : Int32) (t1_0 : Int32) (t1_1 : Int32) (t1_2 : Int32) (t1_3 : Int32) (t1_4 : Int32) (t1_5 : Int32) (t1_6 : Int32) (t2_0 : (Nat → Int32)) (t3_0 : (Nat → Int32)) (t4_0 : (Nat → Int32)) (t5_0 : Int32) (t5_1 : Int32) (t5_2 : Int32) (t5_3 : Int64) (t5_4 : Int32) (t5_5 : Int32) (t5_6 : Int32) (t5_7 : Int32) (t5_8 : Int32) (t5_9 : Int32) (t5_10 : Int32) (t6_0 : (Nat → Int32)) (t7_0 : (Nat → Int32)) (t8_0 : (Nat → Int32)) (t9_0 : (Nat → Int32)) (t10_0 : (Nat → Int32)) (t11_0 : (Nat → Int64)) : Prop := if ((F_NM_no_IIZ x2 x3) : Int32) = (0 : Int32) then (if x2 = (3 : Int32) then (if (lg_cmp ((x4.toUInt64 >>> ((32 : Int32).toInt64.toUInt64 &&& Int64.toUInt64 63)).toInt64 : Int64) 0 : Int32) = (0 : Int32) then (S_NM_put_J27 x2 x3 x4 t0_0 t0_1 t0_2 t1_0 t1_1 t1_2 t1_3 t1_4 t1_5 t1_6 t2_0 t3_0 t4_0 t5_0 t5_1 t5_2 t5_3 t5_4 t5_5 t5_6 t5_7 t5_8 t5_9 t5_10 t6_0 t7_0 t8_0 t9_0 t10_0 t11_0) else (S_NM_put_J23 x2 x3 x4 t0_0 t0_1 t0_2 t1_0 t1_1 t1_2 t1_3 t1_4 t1_5 t1_6 t2_0 t3_0 t4_0 t5_0 t5_1 t5_2 t5_3 t5_4 t5_5 t5_6 t5_7 t5_8 t5_9 t5_10 t6_0 t7_0 t8_0 t9_0 t10_0 t11_0)) else (S_NM_put_J27 x2 x3 x4 t0_0 t0_1 t0_2 t1_0 t1_1 t1_2 t1_3 t1_4 t1_5 t1_6 t2_0 t3_0 t4_0 t5_0 t5_1 t5_2 t5_3 t5_4 t5_5 t5_6 t5_7 t5_8 t5_9 t5_10 t6_0 t7_0 t8_0 t9_0 t10_0 t11_0)) else (S_NM_put_J23 x2 x3 x4 t0_0 t0_1 t0_2 t1_0 t1_1 t1_2 t1_3 t1_4 t1_5 t1_6 t2_0 t3_0 t4_0 t5_0 t5_1 t5_2 t5_3 t5_4 t5_5 t5_6 t5_7 t5_8 t5_9 t5_10 t6_0 t7_0 t8_0 t9_0 t10_0 t11_0)
set_option maxRecDepth 100000 in
set_option maxHeartbeats 4000000 in
theorem X_NM_put (l : Launch) (D : va_G) (g : Nat → ClassId) (q : Nat → Nat) (ws : va_W) (x2 : Int32) (x3 : Int32) (x4 : Int64) (hI : q_I (msh g q) q ws) (t0_0 : Int32) (t0_1 : Int32) (t0_2 : Int32) (hT0 : ws[116]? = (some (q 116, .inr (12, [.int t0_0, .ref (q 117), .int t0_1, .ref (q 118), .int t0_2, .ref (q 119), .ref (q 134), .ref (q 145), .ref (q 153), .ref (q 157), .ref (q 167), .ref (q 168)])) : Option (Nat × va_E))) (t1_0 : Int32) (t1_1 : Int32) (t1_2 : Int32) (t1_3 : Int32) (t1_4 : Int32) (t1_5 : Int32) (t1_6 : Int32) (hT1 : ws[119]? = (some (q 119, .inr (13, [.int t1_0, .int t1_1, .ref (q 120), .int t1_2, .ref (q 121), .ref (q 122), .ref (q 123), .int t1_3, .ref (q 124), .ref (q 125), .ref (q 126), .ref (q 127), .ref (q 128), .ref (q 129), .ref (q 130), .ref (q 131), .int t1_4, .int t1_5, .ref (q 132), .ref (q 133), .int t1_6])) : Option (Nat × va_E))) (t2_0 : (Nat → Int32)) (hT2 : ws[121]? = (some (q 121, .inl (g 0, (1408 : Int32).toNatClampNeg, .inl t2_0)) : Option (Nat × va_E))) (t3_0 : (Nat → Int32)) (hT3 : ws[122]? = (some (q 122, .inl (g 3, 11, .inl t3_0)) : Option (Nat × va_E))) (t4_0 : (Nat → Int32)) (hT4 : ws[123]? = (some (q 123, .inl (g 0, (264 : Int32).toNatClampNeg, .inl t4_0)) : Option (Nat × va_E))) (t5_0 : Int32) (t5_1 : Int32) (t5_2 : Int32) (t5_3 : Int64) (t5_4 : Int32) (t5_5 : Int32) (t5_6 : Int32) (t5_7 : Int32) (t5_8 : Int32) (t5_9 : Int32) (t5_10 : Int32) (hT5 : ws[134]? = (some (q 134, .inr (14, [.int t5_0, .ref (q 135), .int t5_1, .ref (q 136), .ref (q 137), .ref (q 138), .ref (q 139), .ref (q 140), .int t5_2, .long t5_3, .int t5_4, .int t5_5, .ref (q 141), .int t5_6, .ref (q 142), .int t5_7, .ref (q 143), .int t5_8, .ref (q 144), .int t5_9, .int t5_10])) : Option (Nat × va_E))) (t6_0 : (Nat → Int32)) (hT6 : ws[136]? = (some (q 136, .inl (g 0, (10000 : Int32).toNatClampNeg, .inl t6_0)) : Option (Nat × va_E))) (t7_0 : (Nat → Int32)) (hT7 : ws[137]? = (some (q 137, .inl (g 0, (10 : Int32).toNatClampNeg, .inl t7_0)) : Option (Nat × va_E))) (t8_0 : (Nat → Int32)) (hT8 : ws[138]? = (some (q 138, .inl (g 3, 10, .inl t8_0)) : Option (Nat × va_E))) (t9_0 : (Nat → Int32)) (hT9 : ws[139]? = (some (q 139, .inl (g 0, (10 : Int32).toNatClampNeg, .inl t9_0)) : Option (Nat × va_E))) (t10_0 : (Nat → Int32)) (hT10 : ws[140]? = (some (q 140, .inl (g 0, (4400 : Int32).toNatClampNeg, .inl t10_0)) : Option (Nat × va_E))) (t11_0 : (Nat → Int64)) (hT11 : ws[167]? = (some (q 167, .inl (g 1, 20, .inr (.inl t11_0))) : Option (Nat × va_E))) (hS : True ∧ S_NM_put x2 x3 x4 t0_0 t0_1 t0_2 t1_0 t1_1 t1_2 t1_3 t1_4 t1_5 t1_6 t2_0 t3_0 t4_0 t5_0 t5_1 t5_2 t5_3 t5_4 t5_5 t5_6 t5_7 t5_8 t5_9 t5_10 t6_0 t7_0 t8_0 t9_0 t10_0 t11_0) : q_mV l y_NM_put prog_14_method_16_code 5 4 0 0 D g [.ref (q 116), .int x2, .int x3, .long x4] ws (fun u => q_I (msh g q) q u ∧ q_un ws u [116, 119, 121, 122, 123, 134, 136, 137, 138, 139, 140, 167] ∧ ∃ (u0_0 : Int32) (u1_0 : Int32) (u1_1 : Int32) (u1_2 : Int32) (u1_3 : Int32) (u1_4 : Int32) (u1_5 : Int32) (u1_6 : Int32) (u2_0 : (Nat → Int32)) (u3_0 : (Nat → Int32)) (u4_0 : (Nat → Int32)) (u5_0 : Int32) (u5_1 : Int32) (u5_2 : Int32) (u5_3 : Int64) (u5_4 : Int32) (u5_5 : Int32) (u5_6 : Int32) (u5_7 : Int32) (u5_8 : Int32) (u5_9 : Int32) (u5_10 : Int32) (u6_0 : (Nat → Int32)) (u7_0 : (Nat → Int32)) (u8_0 : (Nat → Int32)) (u9_0 : (Nat → Int32)) (u10_0 : (Nat → Int32)) (u11_0 : (Nat → Int64)), u[116]? = (some (q 116, .inr (12, [.int u0_0, .ref (q 117), .int t0_1, .ref (q 118), .int t0_2, .ref (q 119), .ref (q 134), .ref (q 145), .ref (q 153), .ref (q 157), .ref (q 167), .ref (q 168)])) : Option (Nat × va_E)) ∧ u[119]? = (some (q 119, .inr (13, [.int u1_0, .int u1_1, .ref (q 120), .int u1_2, .ref (q 121), .ref (q 122), .ref (q 123), .int u1_3, .ref (q 124), .ref (q 125), .ref (q 126), .ref (q 127), .ref (q 128), .ref (q 129), .ref (q 130), .ref (q 131), .int u1_4, .int u1_5, .ref (q 132), .ref (q 133), .int u1_6])) : Option (Nat × va_E)) ∧ u[121]? = (some (q 121, .inl (g 0, (1408 : Int32).toNatClampNeg, .inl u2_0)) : Option (Nat × va_E)) ∧ u[122]? = (some (q 122, .inl (g 3, 11, .inl u3_0)) : Option (Nat × va_E)) ∧ u[123]? = (some (q 123, .inl (g 0, (264 : Int32).toNatClampNeg, .inl u4_0)) : Option (Nat × va_E)) ∧ u[134]? = (some (q 134, .inr (14, [.int u5_0, .ref (q 135), .int u5_1, .ref (q 136), .ref (q 137), .ref (q 138), .ref (q 139), .ref (q 140), .int u5_2, .long u5_3, .int u5_4, .int u5_5, .ref (q 141), .int u5_6, .ref (q 142), .int u5_7, .ref (q 143), .int u5_8, .ref (q 144), .int u5_9, .int u5_10])) : Option (Nat × va_E)) ∧ u[136]? = (some (q 136, .inl (g 0, (10000 : Int32).toNatClampNeg, .inl u6_0)) : Option (Nat × va_E)) ∧ u[137]? = (some (q 137, .inl (g 0, (10 : Int32).toNatClampNeg, .inl u7_0)) : Option (Nat × va_E)) ∧ u[138]? = (some (q 138, .inl (g 3, 10, .inl u8_0)) : Option (Nat × va_E)) ∧ u[139]? = (some (q 139, .inl (g 0, (10 : Int32).toNatClampNeg, .inl u9_0)) : Option (Nat × va_E)) ∧ u[140]? = (some (q 140, .inl (g 0, (4400 : Int32).toNatClampNeg, .inl u10_0)) : Option (Nat × va_E)) ∧ u[167]? = (some (q 167, .inl (g 1, 20, .inr (.inl u11_0))) : Option (Nat × va_E)) ∧ (0 ≤ u0_0.toInt) ∧ (u0_0.toInt ≤ 1) ∧ (0 ≤ u1_3.toInt) ∧ (u1_3.toInt ≤ 1) ∧ (0 ≤ u5_4.toInt) ∧ (0 ≤ u5_5.toInt) ∧ (u5_5.toInt ≤ 1) ∧ (t1_1.toInt ≤ u1_1.toInt) ∧ (u1_1.toInt ≤ t1_1.toInt) ∧ (t1_2.toInt ≤ u1_2.toInt) ∧ (u1_2.toInt ≤ t1_2.toInt) ∧ (t1_4.toInt ≤ u1_4.toInt) ∧ (u1_4.toInt ≤ t1_4.toInt) ∧ (t1_5.toInt ≤ u1_5.toInt) ∧ (u1_5.toInt ≤ t1_5.toInt) ∧ (t1_6.toInt ≤ u1_6.toInt) ∧ (u1_6.toInt ≤ t1_6.toInt) ∧ (t5_1.toInt ≤ u5_1.toInt) ∧ (u5_1.toInt ≤ t5_1.toInt) ∧ (u5_4.toInt ≤ t5_4.toInt) ∧ (t5_6.toInt ≤ u5_6.toInt) ∧ (u5_6.toInt ≤ t5_6.toInt) ∧ (t5_7.toInt ≤ u5_7.toInt) ∧ (u5_7.toInt ≤ t5_7.toInt) ∧ (t5_8.toInt ≤ u5_8.toInt) ∧ (u5_8.toInt ≤ t5_8.toInt) ∧ (t5_9.toInt ≤ u5_9.toInt) ∧ (u5_9.toInt ≤ t5_9.toInt) ∧ (u0_0, u1_0, u1_1, u1_2, u1_3, u1_4, u1_5, u1_6, u2_0, u3_0, u4_0, u5_0, u5_1, u5_2, u5_3, u5_4, u5_5, u5_6, u5_7, u5_8, u5_9, u5_10, u6_0, u7_0, u8_0, u9_0, u10_0, u11_0) = (F_NM_put x2 x3 x4 t0_0 t0_1 t0_2 t1_0 t1_1 t1_2 t1_3 t1_4 t1_5 t1_6 t2_0 t3_0 t4_0 t5_0 t5_1 t5_2 t5_3 t5_4 t5_5 t5_6 t5_7 t5_8 t5_9 t5_10 t6_0 t7_0 t8_0 t9_0 t10_0 t11_0)) := by
  intro sz
  refine q_into (by decide) (Nat.le_of_ble_eq_true rfl) ?_
  intro p e s m below meth c ls hsz C0 V hl
  have hx := C0.1
  have hb := C0.2.1
  obtain ⟨btt0_1, btt0_2⟩ := n_w116 hI hT0
  replace btt0_1 : q_F (0 ≤ t0_1.toInt ∧ t0_1.toInt ≤ 4100) := btt0_1
  replace btt0_2 : q_F (0 ≤ t0_2.toInt ∧ t0_2.toInt ≤ 12200) := btt0_2
  have hZ9 := (n_w119 hI hT1).2
  obtain ⟨btt1_3, hZ9⟩ := hZ9
  replace hZ9 := hZ9.2
  obtain ⟨-, btt1_6⟩ := hZ9
  replace btt1_3 : q_F (0 ≤ t1_3.toInt ∧ t1_3.toInt ≤ 1) := btt1_3
  clear btt1_6
  have hZ9 := (n_w134 hI hT5).2
  obtain ⟨btt5_4, hZ9⟩ := hZ9
  obtain ⟨btt5_5, -⟩ := hZ9
  replace btt5_4 : q_F (0 ≤ t5_4.toInt ∧ t5_4.toInt ≤ 1) := btt5_4
  replace btt5_5 : q_F (0 ≤ t5_5.toInt ∧ t5_5.toInt ≤ 1) := btt5_5
  have hF : q_un ws ws [116, 119, 121, 122, 123, 134, 136, 137, 138, 139, 140, 167] := q_u0
  have hl : lv_has ls 5 [(0, .ref (q 116)), (1, .int x2), (2, .int x3), (3, .long x4)] := hl
  refine lv_aload_n hx hb d_14_16_0 rfl (lv_at hl 0 rfl) ?_
  refine lv_iload_n hx hb d_14_16_1 rfl (lv_at hl 1 rfl) ?_
  refine lv_iload_n hx hb d_14_16_2 rfl (lv_at hl 2 rfl) ?_
  refine q_goi V (q_runS (As := [.int x2, .int x3]) (rest := [.ref (q 116)]) (d := 2) (mc := 0) (ms := 0) C0 V rfl LS_NM_84 (X_NM_no_IIZ l D g q ws  x2 x3 hI   _) rfl hl.1 rfl (Nat.le_of_ble_eq_true rfl) ⟨by decide, by decide⟩ ⟨Nat.le_of_ble_eq_true rfl, Nat.le_of_ble_eq_true rfl⟩ d_14_16_3) (fun a64 u62 H locs hp63 V => ?_)
  obtain ⟨rfl, b65, b66, hE67⟩ := hp63
  have e68 : a64 = (F_NM_no_IIZ x2 x3) := hE67
  clear b65
  clear b66
  refine q_join (X := Int32) (fun z H locs ls _ => q_F (0 ≤ z.toInt) ∧ q_F (z.toInt ≤ 1) ∧ q_Wd D g (va_A ws sz) s ws H locs ∧ lv_has ls 5 [(0, .ref (q 116)), (1, .int x2), (2, .int x3), (3, .long x4)] ∧ F_NM_put_J28 x2 x3 x4 t0_0 t0_1 t0_2 t1_0 t1_1 t1_2 t1_3 t1_4 t1_5 t1_6 t2_0 t3_0 t4_0 t5_0 t5_1 t5_2 t5_3 t5_4 t5_5 t5_6 t5_7 t5_8 t5_9 t5_10 t6_0 t7_0 t8_0 t9_0 t10_0 t11_0 z = (F_NM_put x2 x3 x4 t0_0 t0_1 t0_2 t1_0 t1_1 t1_2 t1_3 t1_4 t1_5 t1_6 t2_0 t3_0 t4_0 t5_0 t5_1 t5_2 t5_3 t5_4 t5_5 t5_6 t5_7 t5_8 t5_9 t5_10 t6_0 t7_0 t8_0 t9_0 t10_0 t11_0) ∧ True ∧ S_NM_put_J28 x2 x3 x4 t0_0 t0_1 t0_2 t1_0 t1_1 t1_2 t1_3 t1_4 t1_5 t1_6 t2_0 t3_0 t4_0 t5_0 t5_1 t5_2 t5_3 t5_4 t5_5 t5_6 t5_7 t5_8 t5_9 t5_10 t6_0 t7_0 t8_0 t9_0 t10_0 t11_0 z) (fun z => [.int z, .ref (q 116)]) 28 0 0 ?_ ?_
  ·
    rintro lx69 H locs ls _ hZ9
    obtain ⟨i83, hZ9⟩ := hZ9
    obtain ⟨i84, hZ9⟩ := hZ9
    obtain ⟨V, hZ9⟩ := hZ9
    obtain ⟨hl, hZ9⟩ := hZ9
    obtain ⟨hR85, hS86⟩ := hZ9
    replace i83 : q_F (0 ≤ lx69.toInt) := i83
    replace i84 : q_F (lx69.toInt ≤ 1) := i84
    replace hl : lv_has ls 5 [(0, .ref (q 116)), (1, .int x2), (2, .int x3), (3, .long x4)] := hl
    refine q_put (ci := 12) (j := 0) (v := .int lx69) (ty := .int) C0 V i_NM o_NM n_NM rfl rfl hT0 (by decide) w_2298 rfl rfl rfl rfl (Nat.le_of_ble_eq_true rfl) d_14_16_28 (fun H locs w90 hu91 hT0 V => ?_)
    replace hT0 : w90[116]? = (some (q 116, .inr (12, [.int lx69, .ref (q 117), .int t0_1, .ref (q 118), .int t0_2, .ref (q 119), .ref (q 134), .ref (q 145), .ref (q 153), .ref (q 157), .ref (q 167), .ref (q 168)])) : Option (Nat × va_E)) := hT0
    replace hI := n_p116 hI hu91 hT0 (by first | with_reducible exact q_fe btt0_1 | exact ⟨(by have t1 : 0 ≤ t0_1.toInt ∧ t0_1.toInt ≤ 4100 := btt0_1; omega), (by have t1 : 0 ≤ t0_1.toInt ∧ t0_1.toInt ≤ 4100 := btt0_1; omega)⟩) (by first | with_reducible exact q_fe btt0_2 | exact ⟨(by have t1 : 0 ≤ t0_2.toInt ∧ t0_2.toInt ≤ 12200 := btt0_2; omega), (by have t1 : 0 ≤ t0_2.toInt ∧ t0_2.toInt ≤ 12200 := btt0_2; omega)⟩)
    replace hT1 := (hu91 _ (by decide)).trans hT1
    replace hT2 := (hu91 _ (by decide)).trans hT2
    replace hT3 := (hu91 _ (by decide)).trans hT3
    replace hT4 := (hu91 _ (by decide)).trans hT4
    replace hT5 := (hu91 _ (by decide)).trans hT5
    replace hT6 := (hu91 _ (by decide)).trans hT6
    replace hT7 := (hu91 _ (by decide)).trans hT7
    replace hT8 := (hu91 _ (by decide)).trans hT8
    replace hT9 := (hu91 _ (by decide)).trans hT9
    replace hT10 := (hu91 _ (by decide)).trans hT10
    replace hT11 := (hu91 _ (by decide)).trans hT11
    replace hF := q_us hF hu91 (by simp)
    refine lv_aload_n hx hb d_14_16_31 rfl (lv_at hl 0 rfl) ?_
    refine q_get (ci := 12) (j := 0) (v := .int lx69) C0 V i_NM rfl rfl hT0 (by decide) w_2298 rfl d_14_16_32 ?_
    refine lv_if_le (tgt := 39) hx hb d_14_16_35 (by decide) (fun c92 => ?_) (fun c92 => ?_)
    ·
      refine lv_iload_n hx hb d_14_16_39 rfl (lv_at hl 1 rfl) ?_
      refine lv_if_ne (tgt := 55) hx hb d_14_16_40 (by decide) (fun c94 => ?_) (fun c94 => ?_)
      ·
        refine lv_iload_n hx hb d_14_16_55 rfl (lv_at hl 1 rfl) ?_
        refine lv_iconst (v := 1) hx hb d_14_16_56 (by decide) ?_
        refine lv_icmp_ne (tgt := 73) hx hb d_14_16_57 (by decide) (fun c96 => ?_) (fun c96 => ?_)
        ·
          refine lv_aload_n hx hb d_14_16_73 rfl (lv_at hl 0 rfl) ?_
          refine lv_iload_n hx hb d_14_16_74 rfl (lv_at hl 1 rfl) ?_
          refine lv_iload_n hx hb d_14_16_75 rfl (lv_at hl 2 rfl) ?_
          refine lv_lload_n hx hb d_14_16_76 rfl (lv_at hl 3 rfl) ?_
          have ob98 : True ∧ S_NM_setBits x2 x3 x4 lx69 t0_1 t0_2 t11_0 := (by have h := hS86; rw [S_NM_put_J28.eq_1] at h; rw [if_pos c92] at h; rw [if_neg c94] at h; rw [if_neg c96] at h; with_reducible exact h.2.1)
          refine q_gov V (q_runV (As := [.int x2, .int x3, .long x4]) (rest := []) (d := 1) (mc := 0) (ms := 0) (ci := 12) C0 V rfl LV_NM_120 (X_NM_setBits l D g q w90  x2 x3 x4 hI lx69 t0_1 t0_2 hT0 t11_0 hT11 ob98 _) rfl rfl hT0 rfl hl.1 rfl (Nat.le_of_ble_eq_true rfl) ⟨by decide, by decide⟩ ⟨Nat.le_of_ble_eq_true rfl, Nat.le_of_ble_eq_true rfl⟩ d_14_16_77) (fun u99 H locs hp100 V => ?_)
          obtain ⟨hI, hu104, f101, hA102, hE103⟩ := hp100
          replace hA102 : u99[167]? = (some (q 167, .inl (g 1, 20, .inr (.inl f101))) : Option (Nat × va_E)) := hA102
          have e105 : f101 = (F_NM_setBits x2 x3 x4 lx69 t0_1 t0_2 t11_0) := hE103
          replace hT0 := (hu104 _ (by decide)).trans hT0
          replace hT1 := (hu104 _ (by decide)).trans hT1
          replace hT2 := (hu104 _ (by decide)).trans hT2
          replace hT3 := (hu104 _ (by decide)).trans hT3
          replace hT4 := (hu104 _ (by decide)).trans hT4
          replace hT5 := (hu104 _ (by decide)).trans hT5
          replace hT6 := (hu104 _ (by decide)).trans hT6
          replace hT7 := (hu104 _ (by decide)).trans hT7
          replace hT8 := (hu104 _ (by decide)).trans hT8
          replace hT9 := (hu104 _ (by decide)).trans hT9
          replace hT10 := (hu104 _ (by decide)).trans hT10
          replace hF := q_uc hF hu104 (by simp)
          exact q_retv C0 V (⟨hI, hF, lx69, t1_0, t1_1, t1_2, t1_3, t1_4, t1_5, t1_6, t2_0, t3_0, t4_0, t5_0, t5_1, t5_2, t5_3, t5_4, t5_5, t5_6, t5_7, t5_8, t5_9, t5_10, t6_0, t7_0, t8_0, t9_0, t10_0, f101, hT0, hT1, hT2, hT3, hT4, hT5, hT6, hT7, hT8, hT9, hT10, hA102, (show 0 ≤ lx69.toInt from (by first | with_reducible exact q_fe i83 | (have t1 : 0 ≤ lx69.toInt := i83; omega))), (show lx69.toInt ≤ 1 from (by first | with_reducible exact q_fe i84 | (have t1 : lx69.toInt ≤ 1 := i84; omega))), (show 0 ≤ t1_3.toInt from (by first | with_reducible exact (q_fe btt1_3).2 | with_reducible exact (q_fe btt1_3).1 | (have t1 : 0 ≤ t1_3.toInt ∧ t1_3.toInt ≤ 1 := btt1_3; omega))), (show t1_3.toInt ≤ 1 from (by first | with_reducible exact (q_fe btt1_3).2 | with_reducible exact (q_fe btt1_3).1 | (have t1 : 0 ≤ t1_3.toInt ∧ t1_3.toInt ≤ 1 := btt1_3; omega))), (show 0 ≤ t5_4.toInt from (by first | with_reducible exact (q_fe btt5_4).2 | with_reducible exact (q_fe btt5_4).1 | (have t1 : 0 ≤ t5_4.toInt ∧ t5_4.toInt ≤ 1 := btt5_4; omega))), (show 0 ≤ t5_5.toInt from (by first | with_reducible exact (q_fe btt5_5).2 | with_reducible exact (q_fe btt5_5).1 | (have t1 : 0 ≤ t5_5.toInt ∧ t5_5.toInt ≤ 1 := btt5_5; omega))), (show t5_5.toInt ≤ 1 from (by first | with_reducible exact (q_fe btt5_5).2 | with_reducible exact (q_fe btt5_5).1 | (have t1 : 0 ≤ t5_5.toInt ∧ t5_5.toInt ≤ 1 := btt5_5; omega))), (show t1_1.toInt ≤ t1_1.toInt from (by omega)), (show t1_1.toInt ≤ t1_1.toInt from (by omega)), (show t1_2.toInt ≤ t1_2.toInt from (by omega)), (show t1_2.toInt ≤ t1_2.toInt from (by omega)), (show t1_4.toInt ≤ t1_4.toInt from (by omega)), (show t1_4.toInt ≤ t1_4.toInt from (by omega)), (show t1_5.toInt ≤ t1_5.toInt from (by omega)), (show t1_5.toInt ≤ t1_5.toInt from (by omega)), (show t1_6.toInt ≤ t1_6.toInt from (by omega)), (show t1_6.toInt ≤ t1_6.toInt from (by omega)), (show t5_1.toInt ≤ t5_1.toInt from (by omega)), (show t5_1.toInt ≤ t5_1.toInt from (by omega)), (show t5_4.toInt ≤ t5_4.toInt from (by omega)), (show t5_6.toInt ≤ t5_6.toInt from (by omega)), (show t5_6.toInt ≤ t5_6.toInt from (by omega)), (show t5_7.toInt ≤ t5_7.toInt from (by omega)), (show t5_7.toInt ≤ t5_7.toInt from (by omega)), (show t5_8.toInt ≤ t5_8.toInt from (by omega)), (show t5_8.toInt ≤ t5_8.toInt from (by omega)), (show t5_9.toInt ≤ t5_9.toInt from (by omega)), (show t5_9.toInt ≤ t5_9.toInt from (by omega)), (show (lx69, t1_0, t1_1, t1_2, t1_3, t1_4, t1_5, t1_6, t2_0, t3_0, t4_0, t5_0, t5_1, t5_2, t5_3, t5_4, t5_5, t5_6, t5_7, t5_8, t5_9, t5_10, t6_0, t7_0, t8_0, t9_0, t10_0, f101) = (F_NM_put x2 x3 x4 t0_0 t0_1 t0_2 t1_0 t1_1 t1_2 t1_3 t1_4 t1_5 t1_6 t2_0 t3_0 t4_0 t5_0 t5_1 t5_2 t5_3 t5_4 t5_5 t5_6 t5_7 t5_8 t5_9 t5_10 t6_0 t7_0 t8_0 t9_0 t10_0 t11_0) from Eq.trans (by rw [e105, F_NM_put_J28.eq_1, if_pos c92, if_neg c94, if_neg c96]) hR85)⟩) d_14_16_80
        ·
          refine lv_aload_n hx hb d_14_16_60 rfl (lv_at hl 0 rfl) ?_
          refine q_get (ci := 12) (j := 6) (v := .ref (q 134)) C0 V i_NM rfl rfl hT0 (by decide) w_2304 rfl d_14_16_61 ?_
          refine lv_iload_n hx hb d_14_16_64 rfl (lv_at hl 2 rfl) ?_
          refine lv_lload_n hx hb d_14_16_65 rfl (lv_at hl 3 rfl) ?_
          refine lv_iconst (v := 0) hx hb d_14_16_66 (by decide) ?_
          have ob107 : True ∧ S_DR_put x3 x4 (0 : Int32) t5_0 t5_1 t5_2 t5_3 t5_4 t5_5 t5_6 t5_7 t5_8 t5_9 t5_10 t6_0 t7_0 t8_0 t9_0 t10_0 := (by have h := hS86; rw [S_NM_put_J28.eq_1] at h; rw [if_pos c92] at h; rw [if_neg c94] at h; rw [if_pos c96] at h; with_reducible exact h.2.1)
          refine q_gov V (q_runV (As := [.int x3, .long x4, .int 0]) (rest := []) (d := 3) (mc := 0) (ms := 0) (ci := 14) C0 V rfl LV_NM_128 (X_DR_put l D g q w90  x3 x4 0 hI t5_0 t5_1 t5_2 t5_3 t5_4 t5_5 t5_6 t5_7 t5_8 t5_9 t5_10 hT5 t6_0 hT6 t7_0 hT7 t8_0 hT8 t9_0 hT9 t10_0 hT10 ob107 _) rfl rfl hT5 rfl hl.1 rfl (Nat.le_of_ble_eq_true rfl) ⟨by decide, by decide⟩ ⟨Nat.le_of_ble_eq_true rfl, Nat.le_of_ble_eq_true rfl⟩ d_14_16_67) (fun u108 H locs hp109 V => ?_)
          obtain ⟨hI, hZ9⟩ := hp109
          obtain ⟨hu147, hZ9⟩ := hZ9
          obtain ⟨y111, hZ9⟩ := hZ9
          obtain ⟨y112, hZ9⟩ := hZ9
          obtain ⟨y113, hZ9⟩ := hZ9
          obtain ⟨y114, hZ9⟩ := hZ9
          obtain ⟨y115, hZ9⟩ := hZ9
          obtain ⟨y116, hZ9⟩ := hZ9
          obtain ⟨y117, hZ9⟩ := hZ9
          obtain ⟨y118, hZ9⟩ := hZ9
          obtain ⟨y119, hZ9⟩ := hZ9
          obtain ⟨y120, hZ9⟩ := hZ9
          obtain ⟨y121, hZ9⟩ := hZ9
          obtain ⟨f122, hZ9⟩ := hZ9
          obtain ⟨f124, hZ9⟩ := hZ9
          obtain ⟨f126, hZ9⟩ := hZ9
          obtain ⟨f128, hZ9⟩ := hZ9
          obtain ⟨f130, hZ9⟩ := hZ9
          obtain ⟨hO110, hZ9⟩ := hZ9
          obtain ⟨hA123, hZ9⟩ := hZ9
          obtain ⟨hA125, hZ9⟩ := hZ9
          obtain ⟨hA127, hZ9⟩ := hZ9
          obtain ⟨hA129, hZ9⟩ := hZ9
          obtain ⟨hA131, hZ9⟩ := hZ9
          obtain ⟨b132, hZ9⟩ := hZ9
          obtain ⟨b133, hZ9⟩ := hZ9
          obtain ⟨b134, hZ9⟩ := hZ9
          obtain ⟨b135, hZ9⟩ := hZ9
          obtain ⟨b136, hZ9⟩ := hZ9
          obtain ⟨b137, hZ9⟩ := hZ9
          obtain ⟨b138, hZ9⟩ := hZ9
          obtain ⟨b139, hZ9⟩ := hZ9
          obtain ⟨b140, hZ9⟩ := hZ9
          obtain ⟨b141, hZ9⟩ := hZ9
          obtain ⟨b142, hZ9⟩ := hZ9
          obtain ⟨b143, hZ9⟩ := hZ9
          obtain ⟨b144, hZ9⟩ := hZ9
          obtain ⟨b145, hE146⟩ := hZ9
          replace hO110 : u108[134]? = (some (q 134, .inr (14, [.int y111, .ref (q 135), .int y112, .ref (q 136), .ref (q 137), .ref (q 138), .ref (q 139), .ref (q 140), .int y113, .long y114, .int y115, .int y116, .ref (q 141), .int y117, .ref (q 142), .int y118, .ref (q 143), .int y119, .ref (q 144), .int y120, .int y121])) : Option (Nat × va_E)) := hO110
          replace hA123 : u108[136]? = (some (q 136, .inl (g 0, (10000 : Int32).toNatClampNeg, .inl f122)) : Option (Nat × va_E)) := hA123
          replace hA125 : u108[137]? = (some (q 137, .inl (g 0, (10 : Int32).toNatClampNeg, .inl f124)) : Option (Nat × va_E)) := hA125
          replace hA127 : u108[138]? = (some (q 138, .inl (g 3, 10, .inl f126)) : Option (Nat × va_E)) := hA127
          replace hA129 : u108[139]? = (some (q 139, .inl (g 0, (10 : Int32).toNatClampNeg, .inl f128)) : Option (Nat × va_E)) := hA129
          replace hA131 : u108[140]? = (some (q 140, .inl (g 0, (4400 : Int32).toNatClampNeg, .inl f130)) : Option (Nat × va_E)) := hA131
          obtain ⟨p148, e149⟩ : ∃ z, z = (F_DR_put x3 x4 (0 : Int32) t5_0 t5_1 t5_2 t5_3 t5_4 t5_5 t5_6 t5_7 t5_8 t5_9 t5_10 t6_0 t7_0 t8_0 t9_0 t10_0) := ⟨_, rfl⟩
          have e150 : y111 = p148.1 := congrArg (fun z => z.1) (hE146.trans e149.symm)
          have e151 : y112 = p148.2.1 := congrArg (fun z => z.2.1) (hE146.trans e149.symm)
          have e152 : y113 = p148.2.2.1 := congrArg (fun z => z.2.2.1) (hE146.trans e149.symm)
          have e153 : y114 = p148.2.2.2.1 := congrArg (fun z => z.2.2.2.1) (hE146.trans e149.symm)
          have e154 : y115 = p148.2.2.2.2.1 := congrArg (fun z => z.2.2.2.2.1) (hE146.trans e149.symm)
          have e155 : y116 = p148.2.2.2.2.2.1 := congrArg (fun z => z.2.2.2.2.2.1) (hE146.trans e149.symm)
          have e156 : y117 = p148.2.2.2.2.2.2.1 := congrArg (fun z => z.2.2.2.2.2.2.1) (hE146.trans e149.symm)
          have e157 : y118 = p148.2.2.2.2.2.2.2.1 := congrArg (fun z => z.2.2.2.2.2.2.2.1) (hE146.trans e149.symm)
          have e158 : y119 = p148.2.2.2.2.2.2.2.2.1 := congrArg (fun z => z.2.2.2.2.2.2.2.2.1) (hE146.trans e149.symm)
          have e159 : y120 = p148.2.2.2.2.2.2.2.2.2.1 := congrArg (fun z => z.2.2.2.2.2.2.2.2.2.1) (hE146.trans e149.symm)
          have e160 : y121 = p148.2.2.2.2.2.2.2.2.2.2.1 := congrArg (fun z => z.2.2.2.2.2.2.2.2.2.2.1) (hE146.trans e149.symm)
          have e161 : f122 = p148.2.2.2.2.2.2.2.2.2.2.2.1 := congrArg (fun z => z.2.2.2.2.2.2.2.2.2.2.2.1) (hE146.trans e149.symm)
          have e162 : f124 = p148.2.2.2.2.2.2.2.2.2.2.2.2.1 := congrArg (fun z => z.2.2.2.2.2.2.2.2.2.2.2.2.1) (hE146.trans e149.symm)
          have e163 : f126 = p148.2.2.2.2.2.2.2.2.2.2.2.2.2.1 := congrArg (fun z => z.2.2.2.2.2.2.2.2.2.2.2.2.2.1) (hE146.trans e149.symm)
          have e164 : f128 = p148.2.2.2.2.2.2.2.2.2.2.2.2.2.2.1 := congrArg (fun z => z.2.2.2.2.2.2.2.2.2.2.2.2.2.2.1) (hE146.trans e149.symm)
          have e165 : f130 = p148.2.2.2.2.2.2.2.2.2.2.2.2.2.2.2 := congrArg (fun z => z.2.2.2.2.2.2.2.2.2.2.2.2.2.2.2) (hE146.trans e149.symm)
          replace b132 : q_F (0 ≤ y115.toInt) := b132
          replace b133 : q_F (0 ≤ y116.toInt) := b133
          replace b134 : q_F (y116.toInt ≤ 1) := b134
          replace b135 : q_F (t5_1.toInt ≤ y112.toInt) := b135
          replace b136 : q_F (y112.toInt ≤ t5_1.toInt) := b136
          replace b137 : q_F (y115.toInt ≤ t5_4.toInt) := b137
          replace b138 : q_F (t5_6.toInt ≤ y117.toInt) := b138
          replace b139 : q_F (y117.toInt ≤ t5_6.toInt) := b139
          replace b140 : q_F (t5_7.toInt ≤ y118.toInt) := b140
          replace b141 : q_F (y118.toInt ≤ t5_7.toInt) := b141
          replace b142 : q_F (t5_8.toInt ≤ y119.toInt) := b142
          replace b143 : q_F (y119.toInt ≤ t5_8.toInt) := b143
          replace b144 : q_F (t5_9.toInt ≤ y120.toInt) := b144
          replace b145 : q_F (y120.toInt ≤ t5_9.toInt) := b145
          replace hT0 := (hu147 _ (by decide)).trans hT0
          replace hT1 := (hu147 _ (by decide)).trans hT1
          replace hT2 := (hu147 _ (by decide)).trans hT2
          replace hT3 := (hu147 _ (by decide)).trans hT3
          replace hT4 := (hu147 _ (by decide)).trans hT4
          replace hT11 := (hu147 _ (by decide)).trans hT11
          replace hF := q_uc hF hu147 (by simp)
          have hR166 := (show F_NM_put_c67 x2 x3 x4 t0_0 t0_1 t0_2 t1_0 t1_1 t1_2 t1_3 t1_4 t1_5 t1_6 t2_0 t3_0 t4_0 t5_0 t5_1 t5_2 t5_3 t5_4 t5_5 t5_6 t5_7 t5_8 t5_9 t5_10 t6_0 t7_0 t8_0 t9_0 t10_0 t11_0 lx69 p148 = (F_NM_put x2 x3 x4 t0_0 t0_1 t0_2 t1_0 t1_1 t1_2 t1_3 t1_4 t1_5 t1_6 t2_0 t3_0 t4_0 t5_0 t5_1 t5_2 t5_3 t5_4 t5_5 t5_6 t5_7 t5_8 t5_9 t5_10 t6_0 t7_0 t8_0 t9_0 t10_0 t11_0) from Eq.trans (by rw [e149, F_NM_put_J28.eq_1, if_pos c92, if_neg c94, if_pos c96]) hR85)
          have hS167 := (show True ∧ S_NM_put_c67 x2 x3 x4 t0_0 t0_1 t0_2 t1_0 t1_1 t1_2 t1_3 t1_4 t1_5 t1_6 t2_0 t3_0 t4_0 t5_0 t5_1 t5_2 t5_3 t5_4 t5_5 t5_6 t5_7 t5_8 t5_9 t5_10 t6_0 t7_0 t8_0 t9_0 t10_0 t11_0 lx69 p148 from (by rw [e149]; have h := hS86; rw [S_NM_put_J28.eq_1] at h; rw [if_pos c92] at h; rw [if_neg c94] at h; rw [if_pos c96] at h; replace h := q_s2 h; with_reducible exact h))
          refine lv_goto (tgt := 80) hx hb d_14_16_70 (by decide) ?_
          exact q_retv C0 V (⟨hI, hF, lx69, t1_0, t1_1, t1_2, t1_3, t1_4, t1_5, t1_6, t2_0, t3_0, t4_0, y111, y112, y113, y114, y115, y116, y117, y118, y119, y120, y121, f122, f124, f126, f128, f130, t11_0, hT0, hT1, hT2, hT3, hT4, hO110, hA123, hA125, hA127, hA129, hA131, hT11, (show 0 ≤ lx69.toInt from (by first | with_reducible exact q_fe i83 | (have t1 : 0 ≤ lx69.toInt := i83; omega))), (show lx69.toInt ≤ 1 from (by first | with_reducible exact q_fe i84 | (have t1 : lx69.toInt ≤ 1 := i84; omega))), (show 0 ≤ t1_3.toInt from (by first | with_reducible exact (q_fe btt1_3).2 | with_reducible exact (q_fe btt1_3).1 | (have t1 : 0 ≤ t1_3.toInt ∧ t1_3.toInt ≤ 1 := btt1_3; omega))), (show t1_3.toInt ≤ 1 from (by first | with_reducible exact (q_fe btt1_3).2 | with_reducible exact (q_fe btt1_3).1 | (have t1 : 0 ≤ t1_3.toInt ∧ t1_3.toInt ≤ 1 := btt1_3; omega))), (show 0 ≤ y115.toInt from (by first | with_reducible exact q_fe b132 | (have t1 : 0 ≤ y115.toInt := b132; omega))), (show 0 ≤ y116.toInt from (by first | with_reducible exact q_fe b133 | (have t1 : 0 ≤ y116.toInt := b133; omega))), (show y116.toInt ≤ 1 from (by first | with_reducible exact q_fe b134 | (have t1 : y116.toInt ≤ 1 := b134; omega))), (show t1_1.toInt ≤ t1_1.toInt from (by omega)), (show t1_1.toInt ≤ t1_1.toInt from (by omega)), (show t1_2.toInt ≤ t1_2.toInt from (by omega)), (show t1_2.toInt ≤ t1_2.toInt from (by omega)), (show t1_4.toInt ≤ t1_4.toInt from (by omega)), (show t1_4.toInt ≤ t1_4.toInt from (by omega)), (show t1_5.toInt ≤ t1_5.toInt from (by omega)), (show t1_5.toInt ≤ t1_5.toInt from (by omega)), (show t1_6.toInt ≤ t1_6.toInt from (by omega)), (show t1_6.toInt ≤ t1_6.toInt from (by omega)), (show t5_1.toInt ≤ y112.toInt from (by first | with_reducible exact q_fe b135 | (have t1 : t5_1.toInt ≤ y112.toInt := b135; omega))), (show y112.toInt ≤ t5_1.toInt from (by first | with_reducible exact q_fe b136 | (have t1 : y112.toInt ≤ t5_1.toInt := b136; omega))), (show y115.toInt ≤ t5_4.toInt from (by first | with_reducible exact q_fe b137 | (have t1 : y115.toInt ≤ t5_4.toInt := b137; omega))), (show t5_6.toInt ≤ y117.toInt from (by first | with_reducible exact q_fe b138 | (have t1 : t5_6.toInt ≤ y117.toInt := b138; omega))), (show y117.toInt ≤ t5_6.toInt from (by first | with_reducible exact q_fe b139 | (have t1 : y117.toInt ≤ t5_6.toInt := b139; omega))), (show t5_7.toInt ≤ y118.toInt from (by first | with_reducible exact q_fe b140 | (have t1 : t5_7.toInt ≤ y118.toInt := b140; omega))), (show y118.toInt ≤ t5_7.toInt from (by first | with_reducible exact q_fe b141 | (have t1 : y118.toInt ≤ t5_7.toInt := b141; omega))), (show t5_8.toInt ≤ y119.toInt from (by first | with_reducible exact q_fe b142 | (have t1 : t5_8.toInt ≤ y119.toInt := b142; omega))), (show y119.toInt ≤ t5_8.toInt from (by first | with_reducible exact q_fe b143 | (have t1 : y119.toInt ≤ t5_8.toInt := b143; omega))), (show t5_9.toInt ≤ y120.toInt from (by first | with_reducible exact q_fe b144 | (have t1 : t5_9.toInt ≤ y120.toInt := b144; omega))), (show y120.toInt ≤ t5_9.toInt from (by first | with_reducible exact q_fe b145 | (have t1 : y120.toInt ≤ t5_9.toInt := b145; omega))), (show (lx69, t1_0, t1_1, t1_2, t1_3, t1_4, t1_5, t1_6, t2_0, t3_0, t4_0, y111, y112, y113, y114, y115, y116, y117, y118, y119, y120, y121, f122, f124, f126, f128, f130, t11_0) = (F_NM_put x2 x3 x4 t0_0 t0_1 t0_2 t1_0 t1_1 t1_2 t1_3 t1_4 t1_5 t1_6 t2_0 t3_0 t4_0 t5_0 t5_1 t5_2 t5_3 t5_4 t5_5 t5_6 t5_7 t5_8 t5_9 t5_10 t6_0 t7_0 t8_0 t9_0 t10_0 t11_0) from Eq.trans (by rw [e165, e164, e163, e162, e161, e160, e159, e158, e157, e156, e155, e154, e153, e152, e151, e150, F_NM_put_c67.eq_1]) hR166)⟩) d_14_16_80
      ·
        refine lv_aload_n hx hb d_14_16_43 rfl (lv_at hl 0 rfl) ?_
        refine q_get (ci := 12) (j := 5) (v := .ref (q 119)) C0 V i_NM rfl rfl hT0 (by decide) w_2303 rfl d_14_16_44 ?_
        refine lv_iload_n hx hb d_14_16_47 rfl (lv_at hl 2 rfl) ?_
        refine lv_lload_n hx hb d_14_16_48 rfl (lv_at hl 3 rfl) ?_
        have ob172 : True ∧ S_WR_put x3 x4 t1_0 t1_1 t1_2 t1_3 t1_4 t1_5 t1_6 t2_0 t3_0 t4_0 := (by have h := hS86; rw [S_NM_put_J28.eq_1] at h; rw [if_pos c92] at h; rw [if_pos c94] at h; with_reducible exact h.2.1)
        refine q_gov V (q_runV (As := [.int x3, .long x4]) (rest := []) (d := 3) (mc := 0) (ms := 0) (ci := 13) C0 V rfl LV_NM_124 (X_WR_put l D g q w90  x3 x4 hI t1_0 t1_1 t1_2 t1_3 t1_4 t1_5 t1_6 hT1 t2_0 hT2 t3_0 hT3 t4_0 hT4 ob172 _) rfl rfl hT1 rfl hl.1 rfl (Nat.le_of_ble_eq_true rfl) ⟨by decide, by decide⟩ ⟨Nat.le_of_ble_eq_true rfl, Nat.le_of_ble_eq_true rfl⟩ d_14_16_49) (fun u173 H locs hp174 V => ?_)
        obtain ⟨hI, hZ9⟩ := hp174
        obtain ⟨hu202, hZ9⟩ := hZ9
        obtain ⟨y176, hZ9⟩ := hZ9
        obtain ⟨y177, hZ9⟩ := hZ9
        obtain ⟨y178, hZ9⟩ := hZ9
        obtain ⟨y179, hZ9⟩ := hZ9
        obtain ⟨y180, hZ9⟩ := hZ9
        obtain ⟨y181, hZ9⟩ := hZ9
        obtain ⟨y182, hZ9⟩ := hZ9
        obtain ⟨f183, hZ9⟩ := hZ9
        obtain ⟨f185, hZ9⟩ := hZ9
        obtain ⟨f187, hZ9⟩ := hZ9
        obtain ⟨hO175, hZ9⟩ := hZ9
        obtain ⟨hA184, hZ9⟩ := hZ9
        obtain ⟨hA186, hZ9⟩ := hZ9
        obtain ⟨hA188, hZ9⟩ := hZ9
        obtain ⟨b189, hZ9⟩ := hZ9
        obtain ⟨b190, hZ9⟩ := hZ9
        obtain ⟨b191, hZ9⟩ := hZ9
        obtain ⟨b192, hZ9⟩ := hZ9
        obtain ⟨b193, hZ9⟩ := hZ9
        obtain ⟨b194, hZ9⟩ := hZ9
        obtain ⟨b195, hZ9⟩ := hZ9
        obtain ⟨b196, hZ9⟩ := hZ9
        obtain ⟨b197, hZ9⟩ := hZ9
        obtain ⟨b198, hZ9⟩ := hZ9
        obtain ⟨b199, hZ9⟩ := hZ9
        obtain ⟨b200, hE201⟩ := hZ9
        replace hO175 : u173[119]? = (some (q 119, .inr (13, [.int y176, .int y177, .ref (q 120), .int y178, .ref (q 121), .ref (q 122), .ref (q 123), .int y179, .ref (q 124), .ref (q 125), .ref (q 126), .ref (q 127), .ref (q 128), .ref (q 129), .ref (q 130), .ref (q 131), .int y180, .int y181, .ref (q 132), .ref (q 133), .int y182])) : Option (Nat × va_E)) := hO175
        replace hA184 : u173[121]? = (some (q 121, .inl (g 0, (1408 : Int32).toNatClampNeg, .inl f183)) : Option (Nat × va_E)) := hA184
        replace hA186 : u173[122]? = (some (q 122, .inl (g 3, 11, .inl f185)) : Option (Nat × va_E)) := hA186
        replace hA188 : u173[123]? = (some (q 123, .inl (g 0, (264 : Int32).toNatClampNeg, .inl f187)) : Option (Nat × va_E)) := hA188
        obtain ⟨p203, e204⟩ : ∃ z, z = (F_WR_put x3 x4 t1_0 t1_1 t1_2 t1_3 t1_4 t1_5 t1_6 t2_0 t3_0 t4_0) := ⟨_, rfl⟩
        have e205 : y176 = p203.1 := congrArg (fun z => z.1) (hE201.trans e204.symm)
        have e206 : y177 = p203.2.1 := congrArg (fun z => z.2.1) (hE201.trans e204.symm)
        have e207 : y178 = p203.2.2.1 := congrArg (fun z => z.2.2.1) (hE201.trans e204.symm)
        have e208 : y179 = p203.2.2.2.1 := congrArg (fun z => z.2.2.2.1) (hE201.trans e204.symm)
        have e209 : y180 = p203.2.2.2.2.1 := congrArg (fun z => z.2.2.2.2.1) (hE201.trans e204.symm)
        have e210 : y181 = p203.2.2.2.2.2.1 := congrArg (fun z => z.2.2.2.2.2.1) (hE201.trans e204.symm)
        have e211 : y182 = p203.2.2.2.2.2.2.1 := congrArg (fun z => z.2.2.2.2.2.2.1) (hE201.trans e204.symm)
        have e212 : f183 = p203.2.2.2.2.2.2.2.1 := congrArg (fun z => z.2.2.2.2.2.2.2.1) (hE201.trans e204.symm)
        have e213 : f185 = p203.2.2.2.2.2.2.2.2.1 := congrArg (fun z => z.2.2.2.2.2.2.2.2.1) (hE201.trans e204.symm)
        have e214 : f187 = p203.2.2.2.2.2.2.2.2.2 := congrArg (fun z => z.2.2.2.2.2.2.2.2.2) (hE201.trans e204.symm)
        replace b189 : q_F (0 ≤ y179.toInt) := b189
        replace b190 : q_F (y179.toInt ≤ 1) := b190
        replace b191 : q_F (t1_1.toInt ≤ y177.toInt) := b191
        replace b192 : q_F (y177.toInt ≤ t1_1.toInt) := b192
        replace b193 : q_F (t1_2.toInt ≤ y178.toInt) := b193
        replace b194 : q_F (y178.toInt ≤ t1_2.toInt) := b194
        replace b195 : q_F (t1_4.toInt ≤ y180.toInt) := b195
        replace b196 : q_F (y180.toInt ≤ t1_4.toInt) := b196
        replace b197 : q_F (t1_5.toInt ≤ y181.toInt) := b197
        replace b198 : q_F (y181.toInt ≤ t1_5.toInt) := b198
        replace b199 : q_F (t1_6.toInt ≤ y182.toInt) := b199
        replace b200 : q_F (y182.toInt ≤ t1_6.toInt) := b200
        replace hT0 := (hu202 _ (by decide)).trans hT0
        replace hT5 := (hu202 _ (by decide)).trans hT5
        replace hT6 := (hu202 _ (by decide)).trans hT6
        replace hT7 := (hu202 _ (by decide)).trans hT7
        replace hT8 := (hu202 _ (by decide)).trans hT8
        replace hT9 := (hu202 _ (by decide)).trans hT9
        replace hT10 := (hu202 _ (by decide)).trans hT10
        replace hT11 := (hu202 _ (by decide)).trans hT11
        replace hF := q_uc hF hu202 (by simp)
        have hR215 := (show F_NM_put_c49 x2 x3 x4 t0_0 t0_1 t0_2 t1_0 t1_1 t1_2 t1_3 t1_4 t1_5 t1_6 t2_0 t3_0 t4_0 t5_0 t5_1 t5_2 t5_3 t5_4 t5_5 t5_6 t5_7 t5_8 t5_9 t5_10 t6_0 t7_0 t8_0 t9_0 t10_0 t11_0 lx69 p203 = (F_NM_put x2 x3 x4 t0_0 t0_1 t0_2 t1_0 t1_1 t1_2 t1_3 t1_4 t1_5 t1_6 t2_0 t3_0 t4_0 t5_0 t5_1 t5_2 t5_3 t5_4 t5_5 t5_6 t5_7 t5_8 t5_9 t5_10 t6_0 t7_0 t8_0 t9_0 t10_0 t11_0) from Eq.trans (by rw [e204, F_NM_put_J28.eq_1, if_pos c92, if_pos c94]) hR85)
        have hS216 := (show True ∧ S_NM_put_c49 x2 x3 x4 t0_0 t0_1 t0_2 t1_0 t1_1 t1_2 t1_3 t1_4 t1_5 t1_6 t2_0 t3_0 t4_0 t5_0 t5_1 t5_2 t5_3 t5_4 t5_5 t5_6 t5_7 t5_8 t5_9 t5_10 t6_0 t7_0 t8_0 t9_0 t10_0 t11_0 lx69 p203 from (by rw [e204]; have h := hS86; rw [S_NM_put_J28.eq_1] at h; rw [if_pos c92] at h; rw [if_pos c94] at h; replace h := q_s2 h; with_reducible exact h))
        refine lv_goto (tgt := 80) hx hb d_14_16_52 (by decide) ?_
        exact q_retv C0 V (⟨hI, hF, lx69, y176, y177, y178, y179, y180, y181, y182, f183, f185, f187, t5_0, t5_1, t5_2, t5_3, t5_4, t5_5, t5_6, t5_7, t5_8, t5_9, t5_10, t6_0, t7_0, t8_0, t9_0, t10_0, t11_0, hT0, hO175, hA184, hA186, hA188, hT5, hT6, hT7, hT8, hT9, hT10, hT11, (show 0 ≤ lx69.toInt from (by first | with_reducible exact q_fe i83 | (have t1 : 0 ≤ lx69.toInt := i83; omega))), (show lx69.toInt ≤ 1 from (by first | with_reducible exact q_fe i84 | (have t1 : lx69.toInt ≤ 1 := i84; omega))), (show 0 ≤ y179.toInt from (by first | with_reducible exact q_fe b189 | (have t1 : 0 ≤ y179.toInt := b189; omega))), (show y179.toInt ≤ 1 from (by first | with_reducible exact q_fe b190 | (have t1 : y179.toInt ≤ 1 := b190; omega))), (show 0 ≤ t5_4.toInt from (by first | with_reducible exact (q_fe btt5_4).2 | with_reducible exact (q_fe btt5_4).1 | (have t1 : 0 ≤ t5_4.toInt ∧ t5_4.toInt ≤ 1 := btt5_4; omega))), (show 0 ≤ t5_5.toInt from (by first | with_reducible exact (q_fe btt5_5).2 | with_reducible exact (q_fe btt5_5).1 | (have t1 : 0 ≤ t5_5.toInt ∧ t5_5.toInt ≤ 1 := btt5_5; omega))), (show t5_5.toInt ≤ 1 from (by first | with_reducible exact (q_fe btt5_5).2 | with_reducible exact (q_fe btt5_5).1 | (have t1 : 0 ≤ t5_5.toInt ∧ t5_5.toInt ≤ 1 := btt5_5; omega))), (show t1_1.toInt ≤ y177.toInt from (by first | with_reducible exact q_fe b191 | (have t1 : t1_1.toInt ≤ y177.toInt := b191; omega))), (show y177.toInt ≤ t1_1.toInt from (by first | with_reducible exact q_fe b192 | (have t1 : y177.toInt ≤ t1_1.toInt := b192; omega))), (show t1_2.toInt ≤ y178.toInt from (by first | with_reducible exact q_fe b193 | (have t1 : t1_2.toInt ≤ y178.toInt := b193; omega))), (show y178.toInt ≤ t1_2.toInt from (by first | with_reducible exact q_fe b194 | (have t1 : y178.toInt ≤ t1_2.toInt := b194; omega))), (show t1_4.toInt ≤ y180.toInt from (by first | with_reducible exact q_fe b195 | (have t1 : t1_4.toInt ≤ y180.toInt := b195; omega))), (show y180.toInt ≤ t1_4.toInt from (by first | with_reducible exact q_fe b196 | (have t1 : y180.toInt ≤ t1_4.toInt := b196; omega))), (show t1_5.toInt ≤ y181.toInt from (by first | with_reducible exact q_fe b197 | (have t1 : t1_5.toInt ≤ y181.toInt := b197; omega))), (show y181.toInt ≤ t1_5.toInt from (by first | with_reducible exact q_fe b198 | (have t1 : y181.toInt ≤ t1_5.toInt := b198; omega))), (show t1_6.toInt ≤ y182.toInt from (by first | with_reducible exact q_fe b199 | (have t1 : t1_6.toInt ≤ y182.toInt := b199; omega))), (show y182.toInt ≤ t1_6.toInt from (by first | with_reducible exact q_fe b200 | (have t1 : y182.toInt ≤ t1_6.toInt := b200; omega))), (show t5_1.toInt ≤ t5_1.toInt from (by omega)), (show t5_1.toInt ≤ t5_1.toInt from (by omega)), (show t5_4.toInt ≤ t5_4.toInt from (by omega)), (show t5_6.toInt ≤ t5_6.toInt from (by omega)), (show t5_6.toInt ≤ t5_6.toInt from (by omega)), (show t5_7.toInt ≤ t5_7.toInt from (by omega)), (show t5_7.toInt ≤ t5_7.toInt from (by omega)), (show t5_8.toInt ≤ t5_8.toInt from (by omega)), (show t5_8.toInt ≤ t5_8.toInt from (by omega)), (show t5_9.toInt ≤ t5_9.toInt from (by omega)), (show t5_9.toInt ≤ t5_9.toInt from (by omega)), (show (lx69, y176, y177, y178, y179, y180, y181, y182, f183, f185, f187, t5_0, t5_1, t5_2, t5_3, t5_4, t5_5, t5_6, t5_7, t5_8, t5_9, t5_10, t6_0, t7_0, t8_0, t9_0, t10_0, t11_0) = (F_NM_put x2 x3 x4 t0_0 t0_1 t0_2 t1_0 t1_1 t1_2 t1_3 t1_4 t1_5 t1_6 t2_0 t3_0 t4_0 t5_0 t5_1 t5_2 t5_3 t5_4 t5_5 t5_6 t5_7 t5_8 t5_9 t5_10 t6_0 t7_0 t8_0 t9_0 t10_0 t11_0) from Eq.trans (by rw [e214, e213, e212, e211, e210, e209, e208, e207, e206, e205, F_NM_put_c49.eq_1]) hR215)⟩) d_14_16_80
    ·
      exact q_retv C0 V (⟨hI, hF, lx69, t1_0, t1_1, t1_2, t1_3, t1_4, t1_5, t1_6, t2_0, t3_0, t4_0, t5_0, t5_1, t5_2, t5_3, t5_4, t5_5, t5_6, t5_7, t5_8, t5_9, t5_10, t6_0, t7_0, t8_0, t9_0, t10_0, t11_0, hT0, hT1, hT2, hT3, hT4, hT5, hT6, hT7, hT8, hT9, hT10, hT11, (show 0 ≤ lx69.toInt from (by first | with_reducible exact q_fe i83 | (have t1 : 0 ≤ lx69.toInt := i83; omega))), (show lx69.toInt ≤ 1 from (by first | with_reducible exact q_fe i84 | (have t1 : lx69.toInt ≤ 1 := i84; omega))), (show 0 ≤ t1_3.toInt from (by first | with_reducible exact (q_fe btt1_3).2 | with_reducible exact (q_fe btt1_3).1 | (have t1 : 0 ≤ t1_3.toInt ∧ t1_3.toInt ≤ 1 := btt1_3; omega))), (show t1_3.toInt ≤ 1 from (by first | with_reducible exact (q_fe btt1_3).2 | with_reducible exact (q_fe btt1_3).1 | (have t1 : 0 ≤ t1_3.toInt ∧ t1_3.toInt ≤ 1 := btt1_3; omega))), (show 0 ≤ t5_4.toInt from (by first | with_reducible exact (q_fe btt5_4).2 | with_reducible exact (q_fe btt5_4).1 | (have t1 : 0 ≤ t5_4.toInt ∧ t5_4.toInt ≤ 1 := btt5_4; omega))), (show 0 ≤ t5_5.toInt from (by first | with_reducible exact (q_fe btt5_5).2 | with_reducible exact (q_fe btt5_5).1 | (have t1 : 0 ≤ t5_5.toInt ∧ t5_5.toInt ≤ 1 := btt5_5; omega))), (show t5_5.toInt ≤ 1 from (by first | with_reducible exact (q_fe btt5_5).2 | with_reducible exact (q_fe btt5_5).1 | (have t1 : 0 ≤ t5_5.toInt ∧ t5_5.toInt ≤ 1 := btt5_5; omega))), (show t1_1.toInt ≤ t1_1.toInt from (by omega)), (show t1_1.toInt ≤ t1_1.toInt from (by omega)), (show t1_2.toInt ≤ t1_2.toInt from (by omega)), (show t1_2.toInt ≤ t1_2.toInt from (by omega)), (show t1_4.toInt ≤ t1_4.toInt from (by omega)), (show t1_4.toInt ≤ t1_4.toInt from (by omega)), (show t1_5.toInt ≤ t1_5.toInt from (by omega)), (show t1_5.toInt ≤ t1_5.toInt from (by omega)), (show t1_6.toInt ≤ t1_6.toInt from (by omega)), (show t1_6.toInt ≤ t1_6.toInt from (by omega)), (show t5_1.toInt ≤ t5_1.toInt from (by omega)), (show t5_1.toInt ≤ t5_1.toInt from (by omega)), (show t5_4.toInt ≤ t5_4.toInt from (by omega)), (show t5_6.toInt ≤ t5_6.toInt from (by omega)), (show t5_6.toInt ≤ t5_6.toInt from (by omega)), (show t5_7.toInt ≤ t5_7.toInt from (by omega)), (show t5_7.toInt ≤ t5_7.toInt from (by omega)), (show t5_8.toInt ≤ t5_8.toInt from (by omega)), (show t5_8.toInt ≤ t5_8.toInt from (by omega)), (show t5_9.toInt ≤ t5_9.toInt from (by omega)), (show t5_9.toInt ≤ t5_9.toInt from (by omega)), (show (lx69, t1_0, t1_1, t1_2, t1_3, t1_4, t1_5, t1_6, t2_0, t3_0, t4_0, t5_0, t5_1, t5_2, t5_3, t5_4, t5_5, t5_6, t5_7, t5_8, t5_9, t5_10, t6_0, t7_0, t8_0, t9_0, t10_0, t11_0) = (F_NM_put x2 x3 x4 t0_0 t0_1 t0_2 t1_0 t1_1 t1_2 t1_3 t1_4 t1_5 t1_6 t2_0 t3_0 t4_0 t5_0 t5_1 t5_2 t5_3 t5_4 t5_5 t5_6 t5_7 t5_8 t5_9 t5_10 t6_0 t7_0 t8_0 t9_0 t10_0 t11_0) from Eq.trans (by rw [F_NM_put_J28.eq_1, if_neg c92]) hR85)⟩) d_14_16_38
  ·
    intro J82
    refine q_join (X := Unit) (fun z H locs ls _ => q_Wd D g (va_A ws sz) s ws H locs ∧ lv_has ls 5 [(0, .ref (q 116)), (1, .int x2), (2, .int x3), (3, .long x4)] ∧ F_NM_put_J23 x2 x3 x4 t0_0 t0_1 t0_2 t1_0 t1_1 t1_2 t1_3 t1_4 t1_5 t1_6 t2_0 t3_0 t4_0 t5_0 t5_1 t5_2 t5_3 t5_4 t5_5 t5_6 t5_7 t5_8 t5_9 t5_10 t6_0 t7_0 t8_0 t9_0 t10_0 t11_0 = (F_NM_put x2 x3 x4 t0_0 t0_1 t0_2 t1_0 t1_1 t1_2 t1_3 t1_4 t1_5 t1_6 t2_0 t3_0 t4_0 t5_0 t5_1 t5_2 t5_3 t5_4 t5_5 t5_6 t5_7 t5_8 t5_9 t5_10 t6_0 t7_0 t8_0 t9_0 t10_0 t11_0) ∧ True ∧ S_NM_put_J23 x2 x3 x4 t0_0 t0_1 t0_2 t1_0 t1_1 t1_2 t1_3 t1_4 t1_5 t1_6 t2_0 t3_0 t4_0 t5_0 t5_1 t5_2 t5_3 t5_4 t5_5 t5_6 t5_7 t5_8 t5_9 t5_10 t6_0 t7_0 t8_0 t9_0 t10_0 t11_0) (fun z => [.ref (q 116)]) 23 0 0 ?_ ?_
    ·
      rintro _ H locs ls _ ⟨V, hl, hR234, hS235⟩
      replace hl : lv_has ls 5 [(0, .ref (q 116)), (1, .int x2), (2, .int x3), (3, .long x4)] := hl
      refine lv_iconst (v := 1) hx hb d_14_16_23 (by decide) ?_
      refine lv_goto (tgt := 28) hx hb d_14_16_24 (by decide) ?_
      exact J82 ((1 : Int32)) _ _ _ ws ⟨(show q_F (0 ≤ 1) from (show 0 ≤ 1 from by omega)), (show q_F (1 ≤ 1) from (show 1 ≤ 1 from by omega)), V, q_lw hl (q_lw1 0 rfl (q_lw1 1 rfl (q_lw1 2 rfl (q_lw1 3 rfl q_lw0)))), (show F_NM_put_J28 x2 x3 x4 t0_0 t0_1 t0_2 t1_0 t1_1 t1_2 t1_3 t1_4 t1_5 t1_6 t2_0 t3_0 t4_0 t5_0 t5_1 t5_2 t5_3 t5_4 t5_5 t5_6 t5_7 t5_8 t5_9 t5_10 t6_0 t7_0 t8_0 t9_0 t10_0 t11_0 1 = (F_NM_put x2 x3 x4 t0_0 t0_1 t0_2 t1_0 t1_1 t1_2 t1_3 t1_4 t1_5 t1_6 t2_0 t3_0 t4_0 t5_0 t5_1 t5_2 t5_3 t5_4 t5_5 t5_6 t5_7 t5_8 t5_9 t5_10 t6_0 t7_0 t8_0 t9_0 t10_0 t11_0) from Eq.trans (by rw [F_NM_put_J23.eq_1]) hR234), (show True ∧ S_NM_put_J28 x2 x3 x4 t0_0 t0_1 t0_2 t1_0 t1_1 t1_2 t1_3 t1_4 t1_5 t1_6 t2_0 t3_0 t4_0 t5_0 t5_1 t5_2 t5_3 t5_4 t5_5 t5_6 t5_7 t5_8 t5_9 t5_10 t6_0 t7_0 t8_0 t9_0 t10_0 t11_0 1 from (by have h := hS235; rw [S_NM_put_J23.eq_1] at h; with_reducible exact h))⟩
    ·
      intro J233
      refine lv_if_ne (tgt := 23) hx hb d_14_16_6 (by decide) (fun c239 => ?_) (fun c239 => ?_)
      ·
        exact J233 (()) _ _ _ ws ⟨V, q_lw hl (q_lw1 0 rfl (q_lw1 1 rfl (q_lw1 2 rfl (q_lw1 3 rfl q_lw0)))), (show F_NM_put_J23 x2 x3 x4 t0_0 t0_1 t0_2 t1_0 t1_1 t1_2 t1_3 t1_4 t1_5 t1_6 t2_0 t3_0 t4_0 t5_0 t5_1 t5_2 t5_3 t5_4 t5_5 t5_6 t5_7 t5_8 t5_9 t5_10 t6_0 t7_0 t8_0 t9_0 t10_0 t11_0 = (F_NM_put x2 x3 x4 t0_0 t0_1 t0_2 t1_0 t1_1 t1_2 t1_3 t1_4 t1_5 t1_6 t2_0 t3_0 t4_0 t5_0 t5_1 t5_2 t5_3 t5_4 t5_5 t5_6 t5_7 t5_8 t5_9 t5_10 t6_0 t7_0 t8_0 t9_0 t10_0 t11_0) from (by have c239x := c239; rw [e68] at c239x; rw [F_NM_put.eq_1, if_neg c239x])), (show True ∧ S_NM_put_J23 x2 x3 x4 t0_0 t0_1 t0_2 t1_0 t1_1 t1_2 t1_3 t1_4 t1_5 t1_6 t2_0 t3_0 t4_0 t5_0 t5_1 t5_2 t5_3 t5_4 t5_5 t5_6 t5_7 t5_8 t5_9 t5_10 t6_0 t7_0 t8_0 t9_0 t10_0 t11_0 from (by have h := hS; rw [S_NM_put.eq_1] at h; have c239x := c239; rw [e68] at c239x; rw [if_neg c239x] at h; with_reducible exact h))⟩
      ·
        refine lv_iload_n hx hb d_14_16_9 rfl (lv_at hl 1 rfl) ?_
        refine lv_iconst (v := 3) hx hb d_14_16_10 (by decide) ?_
        refine q_join (X := Unit) (fun z H locs ls _ => q_Wd D g (va_A ws sz) s ws H locs ∧ lv_has ls 5 [(0, .ref (q 116)), (1, .int x2), (2, .int x3), (3, .long x4)] ∧ F_NM_put_J27 x2 x3 x4 t0_0 t0_1 t0_2 t1_0 t1_1 t1_2 t1_3 t1_4 t1_5 t1_6 t2_0 t3_0 t4_0 t5_0 t5_1 t5_2 t5_3 t5_4 t5_5 t5_6 t5_7 t5_8 t5_9 t5_10 t6_0 t7_0 t8_0 t9_0 t10_0 t11_0 = (F_NM_put x2 x3 x4 t0_0 t0_1 t0_2 t1_0 t1_1 t1_2 t1_3 t1_4 t1_5 t1_6 t2_0 t3_0 t4_0 t5_0 t5_1 t5_2 t5_3 t5_4 t5_5 t5_6 t5_7 t5_8 t5_9 t5_10 t6_0 t7_0 t8_0 t9_0 t10_0 t11_0) ∧ True ∧ S_NM_put_J27 x2 x3 x4 t0_0 t0_1 t0_2 t1_0 t1_1 t1_2 t1_3 t1_4 t1_5 t1_6 t2_0 t3_0 t4_0 t5_0 t5_1 t5_2 t5_3 t5_4 t5_5 t5_6 t5_7 t5_8 t5_9 t5_10 t6_0 t7_0 t8_0 t9_0 t10_0 t11_0) (fun z => [.ref (q 116)]) 27 0 0 ?_ ?_
        ·
          rintro _ H locs ls _ ⟨V, hl, hR255, hS256⟩
          replace hl : lv_has ls 5 [(0, .ref (q 116)), (1, .int x2), (2, .int x3), (3, .long x4)] := hl
          refine lv_iconst (v := 0) hx hb d_14_16_27 (by decide) ?_
          exact J82 ((0 : Int32)) _ _ _ ws ⟨(show q_F (0 ≤ 0) from (show 0 ≤ 0 from by omega)), (show q_F (0 ≤ 1) from (show 0 ≤ 1 from by omega)), V, q_lw hl (q_lw1 0 rfl (q_lw1 1 rfl (q_lw1 2 rfl (q_lw1 3 rfl q_lw0)))), (show F_NM_put_J28 x2 x3 x4 t0_0 t0_1 t0_2 t1_0 t1_1 t1_2 t1_3 t1_4 t1_5 t1_6 t2_0 t3_0 t4_0 t5_0 t5_1 t5_2 t5_3 t5_4 t5_5 t5_6 t5_7 t5_8 t5_9 t5_10 t6_0 t7_0 t8_0 t9_0 t10_0 t11_0 0 = (F_NM_put x2 x3 x4 t0_0 t0_1 t0_2 t1_0 t1_1 t1_2 t1_3 t1_4 t1_5 t1_6 t2_0 t3_0 t4_0 t5_0 t5_1 t5_2 t5_3 t5_4 t5_5 t5_6 t5_7 t5_8 t5_9 t5_10 t6_0 t7_0 t8_0 t9_0 t10_0 t11_0) from Eq.trans (by rw [F_NM_put_J27.eq_1]) hR255), (show True ∧ S_NM_put_J28 x2 x3 x4 t0_0 t0_1 t0_2 t1_0 t1_1 t1_2 t1_3 t1_4 t1_5 t1_6 t2_0 t3_0 t4_0 t5_0 t5_1 t5_2 t5_3 t5_4 t5_5 t5_6 t5_7 t5_8 t5_9 t5_10 t6_0 t7_0 t8_0 t9_0 t10_0 t11_0 0 from (by have h := hS256; rw [S_NM_put_J27.eq_1] at h; with_reducible exact h))⟩
        ·
          intro J254
          refine lv_icmp_ne (tgt := 27) hx hb d_14_16_11 (by decide) (fun c260 => ?_) (fun c260 => ?_)
          ·
            exact J254 (()) _ _ _ ws ⟨V, q_lw hl (q_lw1 0 rfl (q_lw1 1 rfl (q_lw1 2 rfl (q_lw1 3 rfl q_lw0)))), (show F_NM_put_J27 x2 x3 x4 t0_0 t0_1 t0_2 t1_0 t1_1 t1_2 t1_3 t1_4 t1_5 t1_6 t2_0 t3_0 t4_0 t5_0 t5_1 t5_2 t5_3 t5_4 t5_5 t5_6 t5_7 t5_8 t5_9 t5_10 t6_0 t7_0 t8_0 t9_0 t10_0 t11_0 = (F_NM_put x2 x3 x4 t0_0 t0_1 t0_2 t1_0 t1_1 t1_2 t1_3 t1_4 t1_5 t1_6 t2_0 t3_0 t4_0 t5_0 t5_1 t5_2 t5_3 t5_4 t5_5 t5_6 t5_7 t5_8 t5_9 t5_10 t6_0 t7_0 t8_0 t9_0 t10_0 t11_0) from (by have c239x := c239; rw [e68] at c239x; rw [F_NM_put.eq_1, if_pos c239x, if_neg c260])), (show True ∧ S_NM_put_J27 x2 x3 x4 t0_0 t0_1 t0_2 t1_0 t1_1 t1_2 t1_3 t1_4 t1_5 t1_6 t2_0 t3_0 t4_0 t5_0 t5_1 t5_2 t5_3 t5_4 t5_5 t5_6 t5_7 t5_8 t5_9 t5_10 t6_0 t7_0 t8_0 t9_0 t10_0 t11_0 from (by have h := hS; rw [S_NM_put.eq_1] at h; have c239x := c239; rw [e68] at c239x; rw [if_pos c239x] at h; rw [if_neg c260] at h; with_reducible exact h))⟩
          ·
            refine lv_lload_n hx hb d_14_16_14 rfl (lv_at hl 3 rfl) ?_
            refine lv_bipush (v := 32) hx hb d_14_16_15 (by decide) ?_
            refine lv_lushr hx hb d_14_16_17 rfl ?_
            obtain ⟨j263, e264⟩ := q_nm ((x4.toUInt64 >>> ((32 : Int32).toInt64.toUInt64 &&& Int64.toUInt64 63)).toInt64 : Int64)
            refine q_tl (v := j263) e264 ?_
            refine lv_lconst (v := 0) hx hb d_14_16_18 (by decide) ?_
            refine W.lcmp hx hb d_14_16_19 ?_
            obtain ⟨a266, e267⟩ := q_nm (lg_cmp j263 0 : Int32)
            refine q_ti (v := a266) e267 ?_
            refine lv_if_eq (tgt := 27) hx hb d_14_16_20 (by decide) (fun c269 => ?_) (fun c269 => ?_)
            ·
              exact J254 (()) _ _ _ ws ⟨V, q_lw hl (q_lw1 0 rfl (q_lw1 1 rfl (q_lw1 2 rfl (q_lw1 3 rfl q_lw0)))), (show F_NM_put_J27 x2 x3 x4 t0_0 t0_1 t0_2 t1_0 t1_1 t1_2 t1_3 t1_4 t1_5 t1_6 t2_0 t3_0 t4_0 t5_0 t5_1 t5_2 t5_3 t5_4 t5_5 t5_6 t5_7 t5_8 t5_9 t5_10 t6_0 t7_0 t8_0 t9_0 t10_0 t11_0 = (F_NM_put x2 x3 x4 t0_0 t0_1 t0_2 t1_0 t1_1 t1_2 t1_3 t1_4 t1_5 t1_6 t2_0 t3_0 t4_0 t5_0 t5_1 t5_2 t5_3 t5_4 t5_5 t5_6 t5_7 t5_8 t5_9 t5_10 t6_0 t7_0 t8_0 t9_0 t10_0 t11_0) from (by have c239x := c239; rw [e68] at c239x; have c269x := c269; rw [← e267, ← e264] at c269x; rw [F_NM_put.eq_1, if_pos c239x, if_pos c260, if_pos c269x])), (show True ∧ S_NM_put_J27 x2 x3 x4 t0_0 t0_1 t0_2 t1_0 t1_1 t1_2 t1_3 t1_4 t1_5 t1_6 t2_0 t3_0 t4_0 t5_0 t5_1 t5_2 t5_3 t5_4 t5_5 t5_6 t5_7 t5_8 t5_9 t5_10 t6_0 t7_0 t8_0 t9_0 t10_0 t11_0 from (by have h := hS; rw [S_NM_put.eq_1] at h; have c239x := c239; rw [e68] at c239x; rw [if_pos c239x] at h; rw [if_pos c260] at h; have c269x := c269; rw [← e267, ← e264] at c269x; rw [if_pos c269x] at h; with_reducible exact h))⟩
            ·
              exact J233 (()) _ _ _ ws ⟨V, q_lw hl (q_lw1 0 rfl (q_lw1 1 rfl (q_lw1 2 rfl (q_lw1 3 rfl q_lw0)))), (show F_NM_put_J23 x2 x3 x4 t0_0 t0_1 t0_2 t1_0 t1_1 t1_2 t1_3 t1_4 t1_5 t1_6 t2_0 t3_0 t4_0 t5_0 t5_1 t5_2 t5_3 t5_4 t5_5 t5_6 t5_7 t5_8 t5_9 t5_10 t6_0 t7_0 t8_0 t9_0 t10_0 t11_0 = (F_NM_put x2 x3 x4 t0_0 t0_1 t0_2 t1_0 t1_1 t1_2 t1_3 t1_4 t1_5 t1_6 t2_0 t3_0 t4_0 t5_0 t5_1 t5_2 t5_3 t5_4 t5_5 t5_6 t5_7 t5_8 t5_9 t5_10 t6_0 t7_0 t8_0 t9_0 t10_0 t11_0) from (by have c239x := c239; rw [e68] at c239x; have c269x := c269; rw [← e267, ← e264] at c269x; rw [F_NM_put.eq_1, if_pos c239x, if_pos c260, if_neg c269x])), (show True ∧ S_NM_put_J23 x2 x3 x4 t0_0 t0_1 t0_2 t1_0 t1_1 t1_2 t1_3 t1_4 t1_5 t1_6 t2_0 t3_0 t4_0 t5_0 t5_1 t5_2 t5_3 t5_4 t5_5 t5_6 t5_7 t5_8 t5_9 t5_10 t6_0 t7_0 t8_0 t9_0 t10_0 t11_0 from (by have h := hS; rw [S_NM_put.eq_1] at h; have c239x := c239; rw [e68] at c239x; rw [if_pos c239x] at h; rw [if_pos c260] at h; have c269x := c269; rw [← e267, ← e264] at c269x; rw [if_neg c269x] at h; with_reducible exact h))⟩
theorem d_14_11_0 : decode prog_14_method_11_code 0 = .ok (.aload_n 0, 1) := by decide +kernel
theorem d_14_11_1 : decode prog_14_method_11_code 1 = .ok (.getfield 51, 3) := by decide +kernel
theorem d_14_11_4 : decode prog_14_method_11_code 4 = .ok (.iload_n 1, 1) := by decide +kernel
theorem d_14_11_5 : decode prog_14_method_11_code 5 = .ok (.iconst 3, 1) := by decide +kernel
theorem d_14_11_6 : decode prog_14_method_11_code 6 = .ok (.if_icmp .ne 10, 3) := by decide +kernel
theorem d_14_11_16 : decode prog_14_method_11_code 16 = .ok (.iload_n 2, 1) := by decide +kernel
theorem d_14_11_17 : decode prog_14_method_11_code 17 = .ok (.laload, 1) := by decide +kernel
theorem d_14_11_18 : decode prog_14_method_11_code 18 = .ok (.lreturn, 1) := by decide +kernel
theorem d_14_11_9 : decode prog_14_method_11_code 9 = .ok (.bipush 10, 2) := by decide +kernel
theorem d_14_11_11 : decode prog_14_method_11_code 11 = .ok (.iload_n 2, 1) := by decide +kernel
theorem d_14_11_12 : decode prog_14_method_11_code 12 = .ok (.iadd, 1) := by decide +kernel
theorem d_14_11_13 : decode prog_14_method_11_code 13 = .ok (.goto 4, 3) := by decide +kernel
def y_NM_bitsOf : MethodName := ⟨"NumberHouseModel", "bitsOf", "(II)J"⟩
def F_NM_bitsOf (x2 : Int32) (x3 : Int32) (t0_0 : Int32) (t0_1 : Int32) (t0_2 : Int32) (t1_0 : (Nat → Int64)) : Int64 := if x2 = (3 : Int32) then ((t1_0 (10 + x3 : Int32).toNatClampNeg : Int64)) else ((t1_0 x3.toNatClampNeg : Int64))
def S_NM_bitsOf (x2 : Int32) (x3 : Int32) (t0_0 : Int32) (t0_1 : Int32) (t0_2 : Int32) (t1_0 : (Nat → Int64)) : Prop := if x2 = (3 : Int32) then ((0 ≤ (10 + x3 : Int32).toInt) ∧ (((10 + x3 : Int32).toInt ≤ 19) ∧ (True))) else ((0 ≤ x3.toInt) ∧ ((x3.toInt ≤ 19) ∧ (True)))
set_option maxRecDepth 100000 in
set_option maxHeartbeats 4000000 in
theorem X_NM_bitsOf (l : Launch) (D : va_G) (g : Nat → ClassId) (q : Nat → Nat) (ws : va_W) (x2 : Int32) (x3 : Int32) (hI : q_I (msh g q) q ws) (t0_0 : Int32) (t0_1 : Int32) (t0_2 : Int32) (hT0 : ws[116]? = (some (q 116, .inr (12, [.int t0_0, .ref (q 117), .int t0_1, .ref (q 118), .int t0_2, .ref (q 119), .ref (q 134), .ref (q 145), .ref (q 153), .ref (q 157), .ref (q 167), .ref (q 168)])) : Option (Nat × va_E))) (t1_0 : (Nat → Int64)) (hT1 : ws[167]? = (some (q 167, .inl (g 1, 20, .inr (.inl t1_0))) : Option (Nat × va_E))) (hS : True ∧ S_NM_bitsOf x2 x3 t0_0 t0_1 t0_2 t1_0) : q_mL l y_NM_bitsOf prog_14_method_11_code 3 1 0 0 D g [.ref (q 116), .int x2, .int x3] ws (fun r u => ws = u ∧ r = (F_NM_bitsOf x2 x3 t0_0 t0_1 t0_2 t1_0)) := by
  intro sz
  refine q_into (by decide) (Nat.le_of_ble_eq_true rfl) ?_
  intro p e s m below meth c ls hsz C0 V hl
  have hx := C0.1
  have hb := C0.2.1
  have btt0_2 := (n_w116 hI hT0).2
  clear btt0_2
  have hl : lv_has ls 3 [(0, .ref (q 116)), (1, .int x2), (2, .int x3)] := hl
  refine lv_aload_n hx hb d_14_11_0 rfl (lv_at hl 0 rfl) ?_
  refine q_get (ci := 12) (j := 10) (v := .ref (q 167)) C0 V i_NM rfl rfl hT0 (by decide) w_2308 rfl d_14_11_1 ?_
  refine lv_iload_n hx hb d_14_11_4 rfl (lv_at hl 1 rfl) ?_
  refine lv_iconst (v := 3) hx hb d_14_11_5 (by decide) ?_
  refine lv_icmp_ne (tgt := 16) hx hb d_14_11_6 (by decide) (fun c9 => ?_) (fun c9 => ?_)
  ·
    refine lv_iload_n hx hb d_14_11_16 rfl (lv_at hl 2 rfl) ?_
    have ob11 : q_F (0 ≤ x3.toInt) := (by have h := hS; rw [S_NM_bitsOf.eq_1] at h; rw [if_neg c9] at h; exact h.2.1)
    have ob12 : q_F (x3.toInt ≤ 19) := (by have h := hS; rw [S_NM_bitsOf.eq_1] at h; rw [if_neg c9] at h; replace h := q_s2 h; exact h.2.1)
    refine q_lald C0 V hT1 (q_ix (x := x3.toInt) rfl (by first | with_reducible exact q_fe ob11 | (have t1 : 0 ≤ x3.toInt := ob11; omega)) (by have t1 : 0 ≤ x3.toInt := ob11; have t2 : x3.toInt ≤ 19 := ob12; omega)) d_14_11_17 ?_
    obtain ⟨j13, e14⟩ := q_nm (t1_0 x3.toNatClampNeg : Int64)
    refine q_tl (v := j13) e14 ?_
    exact q_retl C0 V (⟨rfl, (show j13 = (F_NM_bitsOf x2 x3 t0_0 t0_1 t0_2 t1_0) from (by rw [← e14, F_NM_bitsOf.eq_1, if_neg c9]))⟩) d_14_11_18
  ·
    refine lv_bipush (v := 10) hx hb d_14_11_9 (by decide) ?_
    refine lv_iload_n hx hb d_14_11_11 rfl (lv_at hl 2 rfl) ?_
    refine lv_iadd hx hb d_14_11_12 ?_
    obtain ⟨a16, e17⟩ := q_nm (10 + x3 : Int32)
    refine q_ti (v := a16) e17 ?_
    refine lv_goto (tgt := 17) hx hb d_14_11_13 (by decide) ?_
    have ob18 : q_F (0 ≤ a16.toInt) := (by rw [← e17]; have h := hS; rw [S_NM_bitsOf.eq_1] at h; rw [if_pos c9] at h; exact h.2.1)
    have ob19 : q_F (a16.toInt ≤ 19) := (by rw [← e17]; have h := hS; rw [S_NM_bitsOf.eq_1] at h; rw [if_pos c9] at h; replace h := q_s2 h; exact h.2.1)
    refine q_lald C0 V hT1 (q_ix (x := a16.toInt) rfl (by first | with_reducible exact q_fe ob18 | (have t1 : 0 ≤ a16.toInt := ob18; omega)) (by have t1 : 0 ≤ a16.toInt := ob18; have t2 : a16.toInt ≤ 19 := ob19; omega)) d_14_11_17 ?_
    obtain ⟨j20, e21⟩ := q_nm (t1_0 a16.toNatClampNeg : Int64)
    refine q_tl (v := j20) e21 ?_
    exact q_retl C0 V (⟨rfl, (show j20 = (F_NM_bitsOf x2 x3 t0_0 t0_1 t0_2 t1_0) from (by rw [← e21, ← e17, F_NM_bitsOf.eq_1, if_pos c9]))⟩) d_14_11_18
theorem d_14_13_0 : decode prog_14_method_13_code 0 = .ok (.iload_n 0, 1) := by decide +kernel
theorem d_14_13_1 : decode prog_14_method_13_code 1 = .ok (.iconst 3, 1) := by decide +kernel
theorem d_14_13_2 : decode prog_14_method_13_code 2 = .ok (.if_icmp .ne 26, 3) := by decide +kernel
theorem d_14_13_28 : decode prog_14_method_13_code 28 = .ok (.lload_n 1, 1) := by decide +kernel
theorem d_14_13_29 : decode prog_14_method_13_code 29 = .ok (.bipush 52, 2) := by decide +kernel
theorem d_14_13_31 : decode prog_14_method_13_code 31 = .ok (.lushr, 1) := by decide +kernel
theorem d_14_13_32 : decode prog_14_method_13_code 32 = .ok (.ldc2_w 74, 3) := by decide +kernel
set_option maxRecDepth 100000 in
theorem w_2580 : (Cond.constantLong "NumberHouseModel" (74 : Nat) (2047 : Int64)) ∈ q_tbl := q_of11 180 rfl (by decide +kernel)
theorem d_14_13_35 : decode prog_14_method_13_code 35 = .ok (.land, 1) := by decide +kernel
theorem d_14_13_36 : decode prog_14_method_13_code 36 = .ok (.ldc2_w 74, 3) := by decide +kernel
theorem d_14_13_39 : decode prog_14_method_13_code 39 = .ok (.lcmp, 1) := by decide +kernel
theorem d_14_13_40 : decode prog_14_method_13_code 40 = .ok (.ifCond .ge 7, 3) := by decide +kernel
theorem d_14_13_47 : decode prog_14_method_13_code 47 = .ok (.iconst 0, 1) := by decide +kernel
theorem d_14_13_48 : decode prog_14_method_13_code 48 = .ok (.ireturn, 1) := by decide +kernel
theorem d_14_13_43 : decode prog_14_method_13_code 43 = .ok (.iconst 1, 1) := by decide +kernel
theorem d_14_13_44 : decode prog_14_method_13_code 44 = .ok (.goto 4, 3) := by decide +kernel
theorem d_14_13_5 : decode prog_14_method_13_code 5 = .ok (.lload_n 1, 1) := by decide +kernel
theorem d_14_13_6 : decode prog_14_method_13_code 6 = .ok (.bipush 23, 2) := by decide +kernel
theorem d_14_13_8 : decode prog_14_method_13_code 8 = .ok (.lushr, 1) := by decide +kernel
theorem d_14_13_9 : decode prog_14_method_13_code 9 = .ok (.ldc2_w 65, 3) := by decide +kernel
theorem d_14_13_12 : decode prog_14_method_13_code 12 = .ok (.land, 1) := by decide +kernel
theorem d_14_13_13 : decode prog_14_method_13_code 13 = .ok (.ldc2_w 65, 3) := by decide +kernel
theorem d_14_13_16 : decode prog_14_method_13_code 16 = .ok (.lcmp, 1) := by decide +kernel
theorem d_14_13_17 : decode prog_14_method_13_code 17 = .ok (.ifCond .ge 7, 3) := by decide +kernel
theorem d_14_13_24 : decode prog_14_method_13_code 24 = .ok (.iconst 0, 1) := by decide +kernel
theorem d_14_13_25 : decode prog_14_method_13_code 25 = .ok (.goto 23, 3) := by decide +kernel
theorem d_14_13_20 : decode prog_14_method_13_code 20 = .ok (.iconst 1, 1) := by decide +kernel
theorem d_14_13_21 : decode prog_14_method_13_code 21 = .ok (.goto 27, 3) := by decide +kernel
def y_NM_isFinite : MethodName := ⟨"NumberHouseModel", "isFinite", "(IJ)Z"⟩
def F_NM_isFinite (x1 : Int32) (x2 : Int64) : Int32 := if x1 = (3 : Int32) then (if (0 : Int32) ≤ (lg_cmp (((x2.toUInt64 >>> ((23 : Int32).toInt64.toUInt64 &&& Int64.toUInt64 63)).toInt64 : Int64) &&& 255 : Int64) 255 : Int32) then ((0 : Int32)) else ((1 : Int32))) else (if (0 : Int32) ≤ (lg_cmp (((x2.toUInt64 >>> ((52 : Int32).toInt64.toUInt64 &&& Int64.toUInt64 63)).toInt64 : Int64) &&& 2047 : Int64) 2047 : Int32) then ((0 : Int32)) else ((1 : Int32)))
set_option maxRecDepth 100000 in
set_option maxHeartbeats 4000000 in
theorem X_NM_isFinite (l : Launch) (D : va_G) (g : Nat → ClassId) (q : Nat → Nat) (ws : va_W) (x1 : Int32) (x2 : Int64) (hI : q_I (msh g q) q ws) : q_mI l y_NM_isFinite prog_14_method_13_code 3 (.boolean) 1 0 0 D g [.int x1, .long x2] ws (fun r u => ws = u ∧ (0 ≤ r.toInt) ∧ (r.toInt ≤ 1) ∧ r = (F_NM_isFinite x1 x2)) := by
  intro sz
  refine q_into (by decide) (Nat.le_of_ble_eq_true rfl) ?_
  intro p e s m below meth c ls hsz C0 V hl
  have hx := C0.1
  have hb := C0.2.1
  have hl : lv_has ls 3 [(0, .int x1), (1, .long x2)] := hl
  refine lv_iload_n hx hb d_14_13_0 rfl (lv_at hl 0 rfl) ?_
  refine lv_iconst (v := 3) hx hb d_14_13_1 (by decide) ?_
  refine lv_icmp_ne (tgt := 28) hx hb d_14_13_2 (by decide) (fun c1 => ?_) (fun c1 => ?_)
  ·
    refine lv_lload_n hx hb d_14_13_28 rfl (lv_at hl 1 rfl) ?_
    refine lv_bipush (v := 52) hx hb d_14_13_29 (by decide) ?_
    refine lv_lushr hx hb d_14_13_31 rfl ?_
    obtain ⟨j3, e4⟩ := q_nm ((x2.toUInt64 >>> ((52 : Int32).toInt64.toUInt64 &&& Int64.toUInt64 63)).toInt64 : Int64)
    refine q_tl (v := j3) e4 ?_
    refine q_ldc2 C0 rfl w_2580 d_14_13_32 ?_
    refine lv_land hx hb d_14_13_35 ?_
    obtain ⟨j6, e7⟩ := q_nm (j3 &&& 2047 : Int64)
    refine q_tl (v := j6) e7 ?_
    refine q_ldc2 C0 rfl w_2580 d_14_13_36 ?_
    refine W.lcmp hx hb d_14_13_39 ?_
    obtain ⟨a9, e10⟩ := q_nm (lg_cmp j6 2047 : Int32)
    refine q_ti (v := a9) e10 ?_
    refine lv_if_ge (tgt := 47) hx hb d_14_13_40 (by decide) (fun c12 => ?_) (fun c12 => ?_)
    ·
      refine lv_iconst (v := 0) hx hb d_14_13_47 (by decide) ?_
      exact q_retz C0 V (by decide) (⟨rfl, (show 0 ≤ (0 : Int32).toInt from (by have z2 : (0 : Int32).toInt = 0 := rfl; omega)), (show (0 : Int32).toInt ≤ 1 from (by have z2 : (0 : Int32).toInt = 0 := rfl; omega)), (show (0 : Int32) = (F_NM_isFinite x1 x2) from (by have c12x := c12; rw [← e10, ← e7, ← e4] at c12x; rw [F_NM_isFinite.eq_1, if_neg c1, if_pos c12x]))⟩) d_14_13_48
    ·
      refine lv_iconst (v := 1) hx hb d_14_13_43 (by decide) ?_
      refine lv_goto (tgt := 48) hx hb d_14_13_44 (by decide) ?_
      exact q_retz C0 V (by decide) (⟨rfl, (show 0 ≤ (1 : Int32).toInt from (by have z2 : (1 : Int32).toInt = 1 := rfl; omega)), (show (1 : Int32).toInt ≤ 1 from (by have z2 : (1 : Int32).toInt = 1 := rfl; omega)), (show (1 : Int32) = (F_NM_isFinite x1 x2) from (by have c12x := c12; rw [← e10, ← e7, ← e4] at c12x; rw [F_NM_isFinite.eq_1, if_neg c1, if_neg c12x]))⟩) d_14_13_48
  ·
    refine lv_lload_n hx hb d_14_13_5 rfl (lv_at hl 1 rfl) ?_
    refine lv_bipush (v := 23) hx hb d_14_13_6 (by decide) ?_
    refine lv_lushr hx hb d_14_13_8 rfl ?_
    obtain ⟨j16, e17⟩ := q_nm ((x2.toUInt64 >>> ((23 : Int32).toInt64.toUInt64 &&& Int64.toUInt64 63)).toInt64 : Int64)
    refine q_tl (v := j16) e17 ?_
    refine q_ldc2 C0 rfl w_2343 d_14_13_9 ?_
    refine lv_land hx hb d_14_13_12 ?_
    obtain ⟨j19, e20⟩ := q_nm (j16 &&& 255 : Int64)
    refine q_tl (v := j19) e20 ?_
    refine q_ldc2 C0 rfl w_2343 d_14_13_13 ?_
    refine W.lcmp hx hb d_14_13_16 ?_
    obtain ⟨a22, e23⟩ := q_nm (lg_cmp j19 255 : Int32)
    refine q_ti (v := a22) e23 ?_
    refine lv_if_ge (tgt := 24) hx hb d_14_13_17 (by decide) (fun c25 => ?_) (fun c25 => ?_)
    ·
      refine lv_iconst (v := 0) hx hb d_14_13_24 (by decide) ?_
      refine lv_goto (tgt := 48) hx hb d_14_13_25 (by decide) ?_
      exact q_retz C0 V (by decide) (⟨rfl, (show 0 ≤ (0 : Int32).toInt from (by have z2 : (0 : Int32).toInt = 0 := rfl; omega)), (show (0 : Int32).toInt ≤ 1 from (by have z2 : (0 : Int32).toInt = 0 := rfl; omega)), (show (0 : Int32) = (F_NM_isFinite x1 x2) from (by have c25x := c25; rw [← e23, ← e20, ← e17] at c25x; rw [F_NM_isFinite.eq_1, if_pos c1, if_pos c25x]))⟩) d_14_13_48
    ·
      refine lv_iconst (v := 1) hx hb d_14_13_20 (by decide) ?_
      refine lv_goto (tgt := 48) hx hb d_14_13_21 (by decide) ?_
      exact q_retz C0 V (by decide) (⟨rfl, (show 0 ≤ (1 : Int32).toInt from (by have z2 : (1 : Int32).toInt = 1 := rfl; omega)), (show (1 : Int32).toInt ≤ 1 from (by have z2 : (1 : Int32).toInt = 1 := rfl; omega)), (show (1 : Int32) = (F_NM_isFinite x1 x2) from (by have c25x := c25; rw [← e23, ← e20, ← e17] at c25x; rw [F_NM_isFinite.eq_1, if_pos c1, if_neg c25x]))⟩) d_14_13_48
theorem d_14_17_0 : decode prog_14_method_17_code 0 = .ok (.aload_n 0, 1) := by decide +kernel
theorem d_14_17_1 : decode prog_14_method_17_code 1 = .ok (.iload_n 1, 1) := by decide +kernel
theorem d_14_17_2 : decode prog_14_method_17_code 2 = .ok (.iload_n 2, 1) := by decide +kernel
theorem d_14_17_3 : decode prog_14_method_17_code 3 = .ok (.invokestatic 84, 3) := by decide +kernel
theorem d_14_17_18 : decode prog_14_method_17_code 18 = .ok (.putfield 58, 3) := by decide +kernel
theorem d_14_17_21 : decode prog_14_method_17_code 21 = .ok (.aload_n 0, 1) := by decide +kernel
theorem d_14_17_22 : decode prog_14_method_17_code 22 = .ok (.getfield 58, 3) := by decide +kernel
theorem d_14_17_25 : decode prog_14_method_17_code 25 = .ok (.ifCond .le 5, 3) := by decide +kernel
theorem d_14_17_30 : decode prog_14_method_17_code 30 = .ok (.iload_n 1, 1) := by decide +kernel
theorem d_14_17_31 : decode prog_14_method_17_code 31 = .ok (.ifCond .ne 28, 3) := by decide +kernel
theorem d_14_17_59 : decode prog_14_method_17_code 59 = .ok (.iload_n 1, 1) := by decide +kernel
theorem d_14_17_60 : decode prog_14_method_17_code 60 = .ok (.iconst 1, 1) := by decide +kernel
theorem d_14_17_61 : decode prog_14_method_17_code 61 = .ok (.if_icmp .ne 37, 3) := by decide +kernel
theorem d_14_17_98 : decode prog_14_method_17_code 98 = .ok (.aload_n 0, 1) := by decide +kernel
theorem d_14_17_99 : decode prog_14_method_17_code 99 = .ok (.iload_n 1, 1) := by decide +kernel
theorem d_14_17_100 : decode prog_14_method_17_code 100 = .ok (.iload_n 2, 1) := by decide +kernel
theorem d_14_17_101 : decode prog_14_method_17_code 101 = .ok (.invokevirtual 138, 3) := by decide +kernel
set_option maxRecDepth 100000 in
theorem w_2576 : (Cond.code ({ cls := "NumberHouseModel", name := "bitsOf", desc := "(II)J" } : MethodName) prog_14_method_11_code (3 : Nat) (some .long)) ∈ q_tbl := q_of11 176 rfl (by decide +kernel)
set_option maxRecDepth 100000 in
theorem w_2573 : (Cond.methodLink "NumberHouseModel" (138 : Nat) ({ cls := "NumberHouseModel", name := "bitsOf", desc := "(II)J" } : MethodName)) ∈ q_tbl := q_of11 173 rfl (by decide +kernel)
set_option maxRecDepth 100000 in
theorem w_2575 : (Cond.instanceMethod ({ cls := "NumberHouseModel", name := "bitsOf", desc := "(II)J" } : MethodName)) ∈ q_tbl := q_of11 175 rfl (by decide +kernel)
theorem ws_88 : Cond.selects "NumberHouseModel" (⟨"NumberHouseModel", "bitsOf", "(II)J"⟩ : MethodName) (⟨"NumberHouseModel", "bitsOf", "(II)J"⟩ : MethodName) ∈ q_tbl := q_ofs 88 (by decide +kernel) (by decide +kernel)
theorem LV_NM_138 : q_LV "NumberHouseModel" 138 y_NM_bitsOf prog_14_method_11_code 3 (some .long) 2 := ⟨w_2576, w_14, w_2573, w_2575, ws_88, ⟨by decide, by decide, by decide +kernel⟩⟩
theorem d_14_17_104 : decode prog_14_method_17_code 104 = .ok (.lstore 4, 2) := by decide +kernel
theorem d_14_17_106 : decode prog_14_method_17_code 106 = .ok (.aload_n 0, 1) := by decide +kernel
theorem d_14_17_107 : decode prog_14_method_17_code 107 = .ok (.iload_n 3, 1) := by decide +kernel
theorem d_14_17_108 : decode prog_14_method_17_code 108 = .ok (.iconst 2, 1) := by decide +kernel
theorem d_14_17_134 : decode prog_14_method_17_code 134 = .ok (.putfield 58, 3) := by decide +kernel
theorem d_14_17_137 : decode prog_14_method_17_code 137 = .ok (.aload_n 0, 1) := by decide +kernel
theorem d_14_17_138 : decode prog_14_method_17_code 138 = .ok (.getfield 58, 3) := by decide +kernel
theorem d_14_17_141 : decode prog_14_method_17_code 141 = .ok (.ifCond .le 7, 3) := by decide +kernel
theorem d_14_17_148 : decode prog_14_method_17_code 148 = .ok (.iload_n 3, 1) := by decide +kernel
theorem d_14_17_149 : decode prog_14_method_17_code 149 = .ok (.ifCond .ne 8, 3) := by decide +kernel
theorem d_14_17_157 : decode prog_14_method_17_code 157 = .ok (.iload_n 3, 1) := by decide +kernel
theorem d_14_17_158 : decode prog_14_method_17_code 158 = .ok (.iconst 1, 1) := by decide +kernel
theorem d_14_17_159 : decode prog_14_method_17_code 159 = .ok (.if_icmp .ne 25, 3) := by decide +kernel
theorem d_14_17_184 : decode prog_14_method_17_code 184 = .ok (.aload_n 0, 1) := by decide +kernel
theorem d_14_17_185 : decode prog_14_method_17_code 185 = .ok (.getfield 33, 3) := by decide +kernel
theorem d_14_17_188 : decode prog_14_method_17_code 188 = .ok (.lload 4, 2) := by decide +kernel
theorem d_14_17_190 : decode prog_14_method_17_code 190 = .ok (.iload_n 1, 1) := by decide +kernel
theorem d_14_17_191 : decode prog_14_method_17_code 191 = .ok (.iconst 3, 1) := by decide +kernel
theorem d_14_17_192 : decode prog_14_method_17_code 192 = .ok (.if_icmp .ne 7, 3) := by decide +kernel
theorem d_14_17_199 : decode prog_14_method_17_code 199 = .ok (.iconst 0, 1) := by decide +kernel
theorem d_14_17_200 : decode prog_14_method_17_code 200 = .ok (.invokevirtual 145, 3) := by decide +kernel
set_option maxRecDepth 100000 in
theorem w_2643 : (Cond.code ({ cls := "NumberHouseModel$FloatRows", name := "power", desc := "(JZ)I" } : MethodName) prog_17_method_34_code (4 : Nat) (some .int)) ∈ q_tbl := q_of12 3 rfl (by decide +kernel)
set_option maxRecDepth 100000 in
theorem w_2640 : (Cond.methodLink "NumberHouseModel" (145 : Nat) ({ cls := "NumberHouseModel$FloatRows", name := "power", desc := "(JZ)I" } : MethodName)) ∈ q_tbl := q_of12 0 rfl (by decide +kernel)
set_option maxRecDepth 100000 in
theorem w_2641 : (Cond.instanceMethod ({ cls := "NumberHouseModel$FloatRows", name := "power", desc := "(JZ)I" } : MethodName)) ∈ q_tbl := q_of12 1 rfl (by decide +kernel)
set_option maxRecDepth 100000 in
theorem w_2642 : (Cond.selects "NumberHouseModel$FloatRows" ({ cls := "NumberHouseModel$FloatRows", name := "power", desc := "(JZ)I" } : MethodName) ({ cls := "NumberHouseModel$FloatRows", name := "power", desc := "(JZ)I" } : MethodName)) ∈ q_tbl := q_of12 2 rfl (by decide +kernel)
theorem LV_NM_145 : q_LV "NumberHouseModel" 145 y_FR_power prog_17_method_34_code 4 (some .int) 2 := ⟨w_2643, w_17, w_2640, w_2641, w_2642, ⟨by decide, by decide, by decide +kernel⟩⟩
theorem d_14_17_203 : decode prog_14_method_17_code 203 = .ok (.i2l, 1) := by decide +kernel
theorem d_14_17_204 : decode prog_14_method_17_code 204 = .ok (.lreturn, 1) := by decide +kernel
theorem d_14_17_195 : decode prog_14_method_17_code 195 = .ok (.iconst 1, 1) := by decide +kernel
theorem d_14_17_196 : decode prog_14_method_17_code 196 = .ok (.goto 4, 3) := by decide +kernel
theorem d_14_17_162 : decode prog_14_method_17_code 162 = .ok (.aload_n 0, 1) := by decide +kernel
theorem d_14_17_163 : decode prog_14_method_17_code 163 = .ok (.getfield 33, 3) := by decide +kernel
theorem d_14_17_166 : decode prog_14_method_17_code 166 = .ok (.lload 4, 2) := by decide +kernel
theorem d_14_17_168 : decode prog_14_method_17_code 168 = .ok (.iload_n 1, 1) := by decide +kernel
theorem d_14_17_169 : decode prog_14_method_17_code 169 = .ok (.iconst 3, 1) := by decide +kernel
theorem d_14_17_170 : decode prog_14_method_17_code 170 = .ok (.if_icmp .ne 7, 3) := by decide +kernel
theorem d_14_17_177 : decode prog_14_method_17_code 177 = .ok (.iconst 0, 1) := by decide +kernel
theorem d_14_17_178 : decode prog_14_method_17_code 178 = .ok (.invokevirtual 141, 3) := by decide +kernel
set_option maxRecDepth 100000 in
theorem w_2584 : (Cond.code ({ cls := "NumberHouseModel$FloatRows", name := "digits", desc := "(JZ)J" } : MethodName) prog_17_method_33_code (4 : Nat) (some .long)) ∈ q_tbl := q_of11 184 rfl (by decide +kernel)
set_option maxRecDepth 100000 in
theorem w_2581 : (Cond.methodLink "NumberHouseModel" (141 : Nat) ({ cls := "NumberHouseModel$FloatRows", name := "digits", desc := "(JZ)J" } : MethodName)) ∈ q_tbl := q_of11 181 rfl (by decide +kernel)
set_option maxRecDepth 100000 in
theorem w_2582 : (Cond.instanceMethod ({ cls := "NumberHouseModel$FloatRows", name := "digits", desc := "(JZ)J" } : MethodName)) ∈ q_tbl := q_of11 182 rfl (by decide +kernel)
set_option maxRecDepth 100000 in
theorem w_2583 : (Cond.selects "NumberHouseModel$FloatRows" ({ cls := "NumberHouseModel$FloatRows", name := "digits", desc := "(JZ)J" } : MethodName) ({ cls := "NumberHouseModel$FloatRows", name := "digits", desc := "(JZ)J" } : MethodName)) ∈ q_tbl := q_of11 183 rfl (by decide +kernel)
theorem LV_NM_141 : q_LV "NumberHouseModel" 141 y_FR_digits prog_17_method_33_code 4 (some .long) 2 := ⟨w_2584, w_17, w_2581, w_2582, w_2583, ⟨by decide, by decide, by decide +kernel⟩⟩
theorem d_14_17_181 : decode prog_14_method_17_code 181 = .ok (.goto 23, 3) := by decide +kernel
theorem d_14_17_173 : decode prog_14_method_17_code 173 = .ok (.iconst 1, 1) := by decide +kernel
theorem d_14_17_174 : decode prog_14_method_17_code 174 = .ok (.goto 4, 3) := by decide +kernel
theorem d_14_17_152 : decode prog_14_method_17_code 152 = .ok (.lload 4, 2) := by decide +kernel
theorem d_14_17_154 : decode prog_14_method_17_code 154 = .ok (.goto 50, 3) := by decide +kernel
theorem d_14_17_144 : decode prog_14_method_17_code 144 = .ok (.lconst 0, 1) := by decide +kernel
theorem d_14_17_145 : decode prog_14_method_17_code 145 = .ok (.goto 59, 3) := by decide +kernel
theorem d_14_17_109 : decode prog_14_method_17_code 109 = .ok (.if_icmp .le 7, 3) := by decide +kernel
theorem d_14_17_116 : decode prog_14_method_17_code 116 = .ok (.iload_n 3, 1) := by decide +kernel
theorem d_14_17_133 : decode prog_14_method_17_code 133 = .ok (.iconst 0, 1) := by decide +kernel
theorem d_14_17_117 : decode prog_14_method_17_code 117 = .ok (.ifCond .le 16, 3) := by decide +kernel
theorem d_14_17_120 : decode prog_14_method_17_code 120 = .ok (.iload_n 1, 1) := by decide +kernel
theorem d_14_17_121 : decode prog_14_method_17_code 121 = .ok (.lload 4, 2) := by decide +kernel
theorem d_14_17_123 : decode prog_14_method_17_code 123 = .ok (.invokestatic 76, 3) := by decide +kernel
set_option maxRecDepth 100000 in
theorem w_2579 : (Cond.code ({ cls := "NumberHouseModel", name := "isFinite", desc := "(IJ)Z" } : MethodName) prog_14_method_13_code (3 : Nat) (some .boolean)) ∈ q_tbl := q_of11 179 rfl (by decide +kernel)
set_option maxRecDepth 100000 in
theorem w_2577 : (Cond.methodLink "NumberHouseModel" (76 : Nat) ({ cls := "NumberHouseModel", name := "isFinite", desc := "(IJ)Z" } : MethodName)) ∈ q_tbl := q_of11 177 rfl (by decide +kernel)
set_option maxRecDepth 100000 in
theorem w_2578 : (Cond.static ({ cls := "NumberHouseModel", name := "isFinite", desc := "(IJ)Z" } : MethodName)) ∈ q_tbl := q_of11 178 rfl (by decide +kernel)
theorem LS_NM_76 : q_LS "NumberHouseModel" 76 y_NM_isFinite prog_14_method_13_code 3 (some .boolean) 2 := ⟨w_2579, w_14, w_2577, w_2578, ⟨by decide, by decide, by decide +kernel⟩⟩
theorem d_14_17_126 : decode prog_14_method_17_code 126 = .ok (.ifCond .ne 7, 3) := by decide +kernel
theorem d_14_17_129 : decode prog_14_method_17_code 129 = .ok (.iconst 2, 1) := by decide +kernel
theorem d_14_17_130 : decode prog_14_method_17_code 130 = .ok (.goto 4, 3) := by decide +kernel
theorem d_14_17_112 : decode prog_14_method_17_code 112 = .ok (.iconst 1, 1) := by decide +kernel
theorem d_14_17_113 : decode prog_14_method_17_code 113 = .ok (.goto 21, 3) := by decide +kernel
theorem d_14_17_64 : decode prog_14_method_17_code 64 = .ok (.aload_n 0, 1) := by decide +kernel
theorem d_14_17_65 : decode prog_14_method_17_code 65 = .ok (.getfield 26, 3) := by decide +kernel
theorem d_14_17_68 : decode prog_14_method_17_code 68 = .ok (.iload_n 2, 1) := by decide +kernel
theorem d_14_17_69 : decode prog_14_method_17_code 69 = .ok (.iload_n 3, 1) := by decide +kernel
theorem d_14_17_70 : decode prog_14_method_17_code 70 = .ok (.invokevirtual 135, 3) := by decide +kernel
set_option maxRecDepth 100000 in
theorem w_2568 : (Cond.code ({ cls := "NumberHouseModel$DecimalRows", name := "told", desc := "(II)I" } : MethodName) prog_15_method_48_code (3 : Nat) (some .int)) ∈ q_tbl := q_of11 168 rfl (by decide +kernel)
set_option maxRecDepth 100000 in
theorem w_2565 : (Cond.methodLink "NumberHouseModel" (135 : Nat) ({ cls := "NumberHouseModel$DecimalRows", name := "told", desc := "(II)I" } : MethodName)) ∈ q_tbl := q_of11 165 rfl (by decide +kernel)
set_option maxRecDepth 100000 in
theorem w_2566 : (Cond.instanceMethod ({ cls := "NumberHouseModel$DecimalRows", name := "told", desc := "(II)I" } : MethodName)) ∈ q_tbl := q_of11 166 rfl (by decide +kernel)
set_option maxRecDepth 100000 in
theorem w_2567 : (Cond.selects "NumberHouseModel$DecimalRows" ({ cls := "NumberHouseModel$DecimalRows", name := "told", desc := "(II)I" } : MethodName) ({ cls := "NumberHouseModel$DecimalRows", name := "told", desc := "(II)I" } : MethodName)) ∈ q_tbl := q_of11 167 rfl (by decide +kernel)
theorem LV_NM_135 : q_LV "NumberHouseModel" 135 y_DR_told prog_15_method_48_code 3 (some .int) 2 := ⟨w_2568, w_16, w_2565, w_2566, w_2567, ⟨by decide, by decide, by decide +kernel⟩⟩
theorem d_14_17_73 : decode prog_14_method_17_code 73 = .ok (.istore 4, 2) := by decide +kernel
theorem d_14_17_75 : decode prog_14_method_17_code 75 = .ok (.aload_n 0, 1) := by decide +kernel
theorem d_14_17_76 : decode prog_14_method_17_code 76 = .ok (.aload_n 0, 1) := by decide +kernel
theorem d_14_17_77 : decode prog_14_method_17_code 77 = .ok (.getfield 26, 3) := by decide +kernel
theorem d_14_17_80 : decode prog_14_method_17_code 80 = .ok (.getfield 105, 3) := by decide +kernel
theorem d_14_17_83 : decode prog_14_method_17_code 83 = .ok (.ifCond .le 7, 3) := by decide +kernel
theorem d_14_17_90 : decode prog_14_method_17_code 90 = .ok (.iconst 0, 1) := by decide +kernel
theorem d_14_17_91 : decode prog_14_method_17_code 91 = .ok (.putfield 58, 3) := by decide +kernel
theorem d_14_17_94 : decode prog_14_method_17_code 94 = .ok (.iload 4, 2) := by decide +kernel
theorem d_14_17_96 : decode prog_14_method_17_code 96 = .ok (.i2l, 1) := by decide +kernel
theorem d_14_17_97 : decode prog_14_method_17_code 97 = .ok (.lreturn, 1) := by decide +kernel
theorem d_14_17_86 : decode prog_14_method_17_code 86 = .ok (.iconst 1, 1) := by decide +kernel
theorem d_14_17_87 : decode prog_14_method_17_code 87 = .ok (.goto 4, 3) := by decide +kernel
theorem d_14_17_34 : decode prog_14_method_17_code 34 = .ok (.aload_n 0, 1) := by decide +kernel
theorem d_14_17_35 : decode prog_14_method_17_code 35 = .ok (.getfield 19, 3) := by decide +kernel
theorem d_14_17_38 : decode prog_14_method_17_code 38 = .ok (.iload_n 2, 1) := by decide +kernel
theorem d_14_17_39 : decode prog_14_method_17_code 39 = .ok (.iload_n 3, 1) := by decide +kernel
theorem d_14_17_40 : decode prog_14_method_17_code 40 = .ok (.invokevirtual 131, 3) := by decide +kernel
set_option maxRecDepth 100000 in
theorem w_2554 : (Cond.code ({ cls := "NumberHouseModel$WholeRows", name := "told", desc := "(II)J" } : MethodName) prog_19_method_41_code (12 : Nat) (some .long)) ∈ q_tbl := q_of11 154 rfl (by decide +kernel)
set_option maxRecDepth 100000 in
theorem w_2551 : (Cond.methodLink "NumberHouseModel" (131 : Nat) ({ cls := "NumberHouseModel$WholeRows", name := "told", desc := "(II)J" } : MethodName)) ∈ q_tbl := q_of11 151 rfl (by decide +kernel)
set_option maxRecDepth 100000 in
theorem w_2552 : (Cond.instanceMethod ({ cls := "NumberHouseModel$WholeRows", name := "told", desc := "(II)J" } : MethodName)) ∈ q_tbl := q_of11 152 rfl (by decide +kernel)
set_option maxRecDepth 100000 in
theorem w_2553 : (Cond.selects "NumberHouseModel$WholeRows" ({ cls := "NumberHouseModel$WholeRows", name := "told", desc := "(II)J" } : MethodName) ({ cls := "NumberHouseModel$WholeRows", name := "told", desc := "(II)J" } : MethodName)) ∈ q_tbl := q_of11 153 rfl (by decide +kernel)
theorem LV_NM_131 : q_LV "NumberHouseModel" 131 y_WR_told prog_19_method_41_code 12 (some .long) 2 := ⟨w_2554, w_15, w_2551, w_2552, w_2553, ⟨by decide, by decide, by decide +kernel⟩⟩
theorem d_14_17_43 : decode prog_14_method_17_code 43 = .ok (.lstore 4, 2) := by decide +kernel
theorem d_14_17_45 : decode prog_14_method_17_code 45 = .ok (.aload_n 0, 1) := by decide +kernel
theorem d_14_17_46 : decode prog_14_method_17_code 46 = .ok (.aload_n 0, 1) := by decide +kernel
theorem d_14_17_47 : decode prog_14_method_17_code 47 = .ok (.getfield 19, 3) := by decide +kernel
theorem d_14_17_50 : decode prog_14_method_17_code 50 = .ok (.getfield 99, 3) := by decide +kernel
theorem d_14_17_53 : decode prog_14_method_17_code 53 = .ok (.putfield 58, 3) := by decide +kernel
theorem d_14_17_56 : decode prog_14_method_17_code 56 = .ok (.lload 4, 2) := by decide +kernel
theorem d_14_17_58 : decode prog_14_method_17_code 58 = .ok (.lreturn, 1) := by decide +kernel
theorem d_14_17_28 : decode prog_14_method_17_code 28 = .ok (.lconst 0, 1) := by decide +kernel
theorem d_14_17_29 : decode prog_14_method_17_code 29 = .ok (.lreturn, 1) := by decide +kernel
theorem d_14_17_13 : decode prog_14_method_17_code 13 = .ok (.iconst 1, 1) := by decide +kernel
theorem d_14_17_14 : decode prog_14_method_17_code 14 = .ok (.goto 4, 3) := by decide +kernel
theorem d_14_17_6 : decode prog_14_method_17_code 6 = .ok (.ifCond .ne 7, 3) := by decide +kernel
theorem d_14_17_9 : decode prog_14_method_17_code 9 = .ok (.iload_n 3, 1) := by decide +kernel
theorem d_14_17_10 : decode prog_14_method_17_code 10 = .ok (.ifCond .ge 7, 3) := by decide +kernel
theorem d_14_17_17 : decode prog_14_method_17_code 17 = .ok (.iconst 0, 1) := by decide +kernel
def y_NM_told : MethodName := ⟨"NumberHouseModel", "told", "(III)J"⟩
def F_NM_told_c200 (x2 : Int32) (x3 : Int32) (x4 : Int32) (t0_0 : Int32) (t0_1 : Int32) (t0_2 : Int32) (t1_0 : Int32) (t1_1 : Int32) (t1_2 : Int32) (t1_3 : Int32) (t1_4 : Int32) (t1_5 : Int32) (t1_6 : Int32) (t2_0 : (Nat → Int32)) (t3_0 : (Nat → Int32)) (t4_0 : Int32) (t4_1 : Int32) (t4_2 : Int32) (t4_3 : Int64) (t4_4 : Int32) (t4_5 : Int32) (t4_6 : Int32) (t4_7 : Int32) (t4_8 : Int32) (t4_9 : Int32) (t4_10 : Int32) (t5_0 : (Nat → Int32)) (t6_0 : (Nat → Int32)) (t7_0 : (Nat → Int32)) (t8_0 : (Nat → Int32)) (t9_0 : Int32) (t9_1 : Int32) (t9_2 : Int32) (t9_3 : Int32) (t9_4 : Int64) (t9_5 : Int32) (t9_6 : Int32) (t9_7 : Int64) (t9_8 : Int32) (t9_9 : Int64) (t9_10 : Int32) (t10_0 : (Nat → Int32)) (t11_0 : (Nat → Int32)) (t12_0 : (Nat → Int32)) (t13_0 : (Nat → Int32)) (t14_0 : (Nat → Int32)) (t15_0 : (Nat → Int32)) (t16_0 : (Nat → Int64)) (lx94 : Int32) (j131 : Int64) (lx134 : Int32) (p217 : (Int32 × Int32 × Int32 × Int32 × Int32 × Int64 × Int32 × Int32 × Int64 × Int32 × Int64 × Int32 × (Nat → Int32) × (Nat → Int32) × (Nat → Int32) × (Nat → Int32) × (Nat → Int32) × (Nat → Int32))) : Int64 × Int32 × Int32 × Int32 × Int32 × Int32 × Int32 × Int32 × Int32 × Int32 × Int32 × Int32 × Int64 × Int32 × Int32 × Int32 × Int32 × Int32 × Int32 × Int32 × Int32 × Int32 × Int32 × Int32 × Int64 × Int32 × Int32 × Int64 × Int32 × Int64 × Int32 × (Nat → Int32) × (Nat → Int32) × (Nat → Int32) × (Nat → Int32) × (Nat → Int32) × (Nat → Int32) := (((p217.1 : Int32).toInt64 : Int64), lx134, t1_0, t1_1, t1_2, t1_3, t1_4, t1_5, t1_6, t4_0, t4_1, t4_2, t4_3, t4_4, t4_5, t4_6, t4_7, t4_8, t4_9, t4_10, (p217.2.1 : Int32), (p217.2.2.1 : Int32), (p217.2.2.2.1 : Int32), (p217.2.2.2.2.1 : Int32), (p217.2.2.2.2.2.1 : Int64), (p217.2.2.2.2.2.2.1 : Int32), (p217.2.2.2.2.2.2.2.1 : Int32), (p217.2.2.2.2.2.2.2.2.1 : Int64), (p217.2.2.2.2.2.2.2.2.2.1 : Int32), (p217.2.2.2.2.2.2.2.2.2.2.1 : Int64), (p217.2.2.2.2.2.2.2.2.2.2.2.1 : Int32), (p217.2.2.2.2.2.2.2.2.2.2.2.2.1 : (Nat → Int32)), (p217.2.2.2.2.2.2.2.2.2.2.2.2.2.1 : (Nat → Int32)), (p217.2.2.2.2.2.2.2.2.2.2.2.2.2.2.1 : (Nat → Int32)), (p217.2.2.2.2.2.2.2.2.2.2.2.2.2.2.2.1 : (Nat → Int32)), (p217.2.2.2.2.2.2.2.2.2.2.2.2.2.2.2.2.1 : (Nat → Int32)), (p217.2.2.2.2.2.2.2.2.2.2.2.2.2.2.2.2.2 : (Nat → Int32)))
def F_NM_told_c200_4 (x2 : Int32) (x3 : Int32) (x4 : Int32) (t0_0 : Int32) (t0_1 : Int32) (t0_2 : Int32) (t1_0 : Int32) (t1_1 : Int32) (t1_2 : Int32) (t1_3 : Int32) (t1_4 : Int32) (t1_5 : Int32) (t1_6 : Int32) (t2_0 : (Nat → Int32)) (t3_0 : (Nat → Int32)) (t4_0 : Int32) (t4_1 : Int32) (t4_2 : Int32) (t4_3 : Int64) (t4_4 : Int32) (t4_5 : Int32) (t4_6 : Int32) (t4_7 : Int32) (t4_8 : Int32) (t4_9 : Int32) (t4_10 : Int32) (t5_0 : (Nat → Int32)) (t6_0 : (Nat → Int32)) (t7_0 : (Nat → Int32)) (t8_0 : (Nat → Int32)) (t9_0 : Int32) (t9_1 : Int32) (t9_2 : Int32) (t9_3 : Int32) (t9_4 : Int64) (t9_5 : Int32) (t9_6 : Int32) (t9_7 : Int64) (t9_8 : Int32) (t9_9 : Int64) (t9_10 : Int32) (t10_0 : (Nat → Int32)) (t11_0 : (Nat → Int32)) (t12_0 : (Nat → Int32)) (t13_0 : (Nat → Int32)) (t14_0 : (Nat → Int32)) (t15_0 : (Nat → Int32)) (t16_0 : (Nat → Int64)) (lx94 : Int32) (j131 : Int64) (lx134 : Int32) (p293 : (Int32 × Int32 × Int32 × Int32 × Int32 × Int64 × Int32 × Int32 × Int64 × Int32 × Int64 × Int32 × (Nat → Int32) × (Nat → Int32) × (Nat → Int32) × (Nat → Int32) × (Nat → Int32) × (Nat → Int32))) : Int64 × Int32 × Int32 × Int32 × Int32 × Int32 × Int32 × Int32 × Int32 × Int32 × Int32 × Int32 × Int64 × Int32 × Int32 × Int32 × Int32 × Int32 × Int32 × Int32 × Int32 × Int32 × Int32 × Int32 × Int64 × Int32 × Int32 × Int64 × Int32 × Int64 × Int32 × (Nat → Int32) × (Nat → Int32) × (Nat → Int32) × (Nat → Int32) × (Nat → Int32) × (Nat → Int32) := (((p293.1 : Int32).toInt64 : Int64), lx134, t1_0, t1_1, t1_2, t1_3, t1_4, t1_5, t1_6, t4_0, t4_1, t4_2, t4_3, t4_4, t4_5, t4_6, t4_7, t4_8, t4_9, t4_10, (p293.2.1 : Int32), (p293.2.2.1 : Int32), (p293.2.2.2.1 : Int32), (p293.2.2.2.2.1 : Int32), (p293.2.2.2.2.2.1 : Int64), (p293.2.2.2.2.2.2.1 : Int32), (p293.2.2.2.2.2.2.2.1 : Int32), (p293.2.2.2.2.2.2.2.2.1 : Int64), (p293.2.2.2.2.2.2.2.2.2.1 : Int32), (p293.2.2.2.2.2.2.2.2.2.2.1 : Int64), (p293.2.2.2.2.2.2.2.2.2.2.2.1 : Int32), (p293.2.2.2.2.2.2.2.2.2.2.2.2.1 : (Nat → Int32)), (p293.2.2.2.2.2.2.2.2.2.2.2.2.2.1 : (Nat → Int32)), (p293.2.2.2.2.2.2.2.2.2.2.2.2.2.2.1 : (Nat → Int32)), (p293.2.2.2.2.2.2.2.2.2.2.2.2.2.2.2.1 : (Nat → Int32)), (p293.2.2.2.2.2.2.2.2.2.2.2.2.2.2.2.2.1 : (Nat → Int32)), (p293.2.2.2.2.2.2.2.2.2.2.2.2.2.2.2.2.2 : (Nat → Int32)))
def F_NM_told_c178 (x2 : Int32) (x3 : Int32) (x4 : Int32) (t0_0 : Int32) (t0_1 : Int32) (t0_2 : Int32) (t1_0 : Int32) (t1_1 : Int32) (t1_2 : Int32) (t1_3 : Int32) (t1_4 : Int32) (t1_5 : Int32) (t1_6 : Int32) (t2_0 : (Nat → Int32)) (t3_0 : (Nat → Int32)) (t4_0 : Int32) (t4_1 : Int32) (t4_2 : Int32) (t4_3 : Int64) (t4_4 : Int32) (t4_5 : Int32) (t4_6 : Int32) (t4_7 : Int32) (t4_8 : Int32) (t4_9 : Int32) (t4_10 : Int32) (t5_0 : (Nat → Int32)) (t6_0 : (Nat → Int32)) (t7_0 : (Nat → Int32)) (t8_0 : (Nat → Int32)) (t9_0 : Int32) (t9_1 : Int32) (t9_2 : Int32) (t9_3 : Int32) (t9_4 : Int64) (t9_5 : Int32) (t9_6 : Int32) (t9_7 : Int64) (t9_8 : Int32) (t9_9 : Int64) (t9_10 : Int32) (t10_0 : (Nat → Int32)) (t11_0 : (Nat → Int32)) (t12_0 : (Nat → Int32)) (t13_0 : (Nat → Int32)) (t14_0 : (Nat → Int32)) (t15_0 : (Nat → Int32)) (t16_0 : (Nat → Int64)) (lx94 : Int32) (j131 : Int64) (lx134 : Int32) (p371 : (Int64 × Int32 × Int32 × Int32 × Int32 × Int64 × Int32 × Int32 × Int64 × Int32 × Int64 × Int32 × (Nat → Int32) × (Nat → Int32) × (Nat → Int32) × (Nat → Int32) × (Nat → Int32) × (Nat → Int32))) : Int64 × Int32 × Int32 × Int32 × Int32 × Int32 × Int32 × Int32 × Int32 × Int32 × Int32 × Int32 × Int64 × Int32 × Int32 × Int32 × Int32 × Int32 × Int32 × Int32 × Int32 × Int32 × Int32 × Int32 × Int64 × Int32 × Int32 × Int64 × Int32 × Int64 × Int32 × (Nat → Int32) × (Nat → Int32) × (Nat → Int32) × (Nat → Int32) × (Nat → Int32) × (Nat → Int32) := ((p371.1 : Int64), lx134, t1_0, t1_1, t1_2, t1_3, t1_4, t1_5, t1_6, t4_0, t4_1, t4_2, t4_3, t4_4, t4_5, t4_6, t4_7, t4_8, t4_9, t4_10, (p371.2.1 : Int32), (p371.2.2.1 : Int32), (p371.2.2.2.1 : Int32), (p371.2.2.2.2.1 : Int32), (p371.2.2.2.2.2.1 : Int64), (p371.2.2.2.2.2.2.1 : Int32), (p371.2.2.2.2.2.2.2.1 : Int32), (p371.2.2.2.2.2.2.2.2.1 : Int64), (p371.2.2.2.2.2.2.2.2.2.1 : Int32), (p371.2.2.2.2.2.2.2.2.2.2.1 : Int64), (p371.2.2.2.2.2.2.2.2.2.2.2.1 : Int32), (p371.2.2.2.2.2.2.2.2.2.2.2.2.1 : (Nat → Int32)), (p371.2.2.2.2.2.2.2.2.2.2.2.2.2.1 : (Nat → Int32)), (p371.2.2.2.2.2.2.2.2.2.2.2.2.2.2.1 : (Nat → Int32)), (p371.2.2.2.2.2.2.2.2.2.2.2.2.2.2.2.1 : (Nat → Int32)), (p371.2.2.2.2.2.2.2.2.2.2.2.2.2.2.2.2.1 : (Nat → Int32)), (p371.2.2.2.2.2.2.2.2.2.2.2.2.2.2.2.2.2 : (Nat → Int32)))
def F_NM_told_c178_6 (x2 : Int32) (x3 : Int32) (x4 : Int32) (t0_0 : Int32) (t0_1 : Int32) (t0_2 : Int32) (t1_0 : Int32) (t1_1 : Int32) (t1_2 : Int32) (t1_3 : Int32) (t1_4 : Int32) (t1_5 : Int32) (t1_6 : Int32) (t2_0 : (Nat → Int32)) (t3_0 : (Nat → Int32)) (t4_0 : Int32) (t4_1 : Int32) (t4_2 : Int32) (t4_3 : Int64) (t4_4 : Int32) (t4_5 : Int32) (t4_6 : Int32) (t4_7 : Int32) (t4_8 : Int32) (t4_9 : Int32) (t4_10 : Int32) (t5_0 : (Nat → Int32)) (t6_0 : (Nat → Int32)) (t7_0 : (Nat → Int32)) (t8_0 : (Nat → Int32)) (t9_0 : Int32) (t9_1 : Int32) (t9_2 : Int32) (t9_3 : Int32) (t9_4 : Int64) (t9_5 : Int32) (t9_6 : Int32) (t9_7 : Int64) (t9_8 : Int32) (t9_9 : Int64) (t9_10 : Int32) (t10_0 : (Nat → Int32)) (t11_0 : (Nat → Int32)) (t12_0 : (Nat → Int32)) (t13_0 : (Nat → Int32)) (t14_0 : (Nat → Int32)) (t15_0 : (Nat → Int32)) (t16_0 : (Nat → Int64)) (lx94 : Int32) (j131 : Int64) (lx134 : Int32) (p444 : (Int64 × Int32 × Int32 × Int32 × Int32 × Int64 × Int32 × Int32 × Int64 × Int32 × Int64 × Int32 × (Nat → Int32) × (Nat → Int32) × (Nat → Int32) × (Nat → Int32) × (Nat → Int32) × (Nat → Int32))) : Int64 × Int32 × Int32 × Int32 × Int32 × Int32 × Int32 × Int32 × Int32 × Int32 × Int32 × Int32 × Int64 × Int32 × Int32 × Int32 × Int32 × Int32 × Int32 × Int32 × Int32 × Int32 × Int32 × Int32 × Int64 × Int32 × Int32 × Int64 × Int32 × Int64 × Int32 × (Nat → Int32) × (Nat → Int32) × (Nat → Int32) × (Nat → Int32) × (Nat → Int32) × (Nat → Int32) := ((p444.1 : Int64), lx134, t1_0, t1_1, t1_2, t1_3, t1_4, t1_5, t1_6, t4_0, t4_1, t4_2, t4_3, t4_4, t4_5, t4_6, t4_7, t4_8, t4_9, t4_10, (p444.2.1 : Int32), (p444.2.2.1 : Int32), (p444.2.2.2.1 : Int32), (p444.2.2.2.2.1 : Int32), (p444.2.2.2.2.2.1 : Int64), (p444.2.2.2.2.2.2.1 : Int32), (p444.2.2.2.2.2.2.2.1 : Int32), (p444.2.2.2.2.2.2.2.2.1 : Int64), (p444.2.2.2.2.2.2.2.2.2.1 : Int32), (p444.2.2.2.2.2.2.2.2.2.2.1 : Int64), (p444.2.2.2.2.2.2.2.2.2.2.2.1 : Int32), (p444.2.2.2.2.2.2.2.2.2.2.2.2.1 : (Nat → Int32)), (p444.2.2.2.2.2.2.2.2.2.2.2.2.2.1 : (Nat → Int32)), (p444.2.2.2.2.2.2.2.2.2.2.2.2.2.2.1 : (Nat → Int32)), (p444.2.2.2.2.2.2.2.2.2.2.2.2.2.2.2.1 : (Nat → Int32)), (p444.2.2.2.2.2.2.2.2.2.2.2.2.2.2.2.2.1 : (Nat → Int32)), (p444.2.2.2.2.2.2.2.2.2.2.2.2.2.2.2.2.2 : (Nat → Int32)))
def F_NM_told_J134 (x2 : Int32) (x3 : Int32) (x4 : Int32) (t0_0 : Int32) (t0_1 : Int32) (t0_2 : Int32) (t1_0 : Int32) (t1_1 : Int32) (t1_2 : Int32) (t1_3 : Int32) (t1_4 : Int32) (t1_5 : Int32) (t1_6 : Int32) (t2_0 : (Nat → Int32)) (t3_0 : (Nat → Int32)) (t4_0 : Int32) (t4_1 : Int32) (t4_2 : Int32) (t4_3 : Int64) (t4_4 : Int32) (t4_5 : Int32) (t4_6 : Int32) (t4_7 : Int32) (t4_8 : Int32) (t4_9 : Int32) (t4_10 : Int32) (t5_0 : (Nat → Int32)) (t6_0 : (Nat → Int32)) (t7_0 : (Nat → Int32)) (t8_0 : (Nat → Int32)) (t9_0 : Int32) (t9_1 : Int32) (t9_2 : Int32) (t9_3 : Int32) (t9_4 : Int64) (t9_5 : Int32) (t9_6 : Int32) (t9_7 : Int64) (t9_8 : Int32) (t9_9 : Int64) (t9_10 : Int32) (t10_0 : (Nat → Int32)) (t11_0 : (Nat → Int32)) (t12_0 : (Nat → Int32)) (t13_0 : (Nat → Int32)) (t14_0 : (Nat → Int32)) (t15_0 : (Nat → Int32)) (t16_0 : (Nat → Int64)) (lx94 : Int32) (j131 : Int64) (lx134 : Int32) : Int64 × Int32 × Int32 × Int32 × Int32 × Int32 × Int32 × Int32 × Int32 × Int32 × Int32 × Int32 × Int64 × Int32 × Int32 × Int32 × Int32 × Int32 × Int32 × Int32 × Int32 × Int32 × Int32 × Int32 × Int64 × Int32 × Int32 × Int64 × Int32 × Int64 × Int32 × (Nat → Int32) × (Nat → Int32) × (Nat → Int32) × (Nat → Int32) × (Nat → Int32) × (Nat → Int32) := if lx134 ≤ (0 : Int32) then (if x4 = (0 : Int32) then ((j131, lx134, t1_0, t1_1, t1_2, t1_3, t1_4, t1_5, t1_6, t4_0, t4_1, t4_2, t4_3, t4_4, t4_5, t4_6, t4_7, t4_8, t4_9, t4_10, t9_0, t9_1, t9_2, t9_3, t9_4, t9_5, t9_6, t9_7, t9_8, t9_9, t9_10, t10_0, t11_0, t12_0, t13_0, t14_0, t15_0)) else (if x4 = (1 : Int32) then (if x2 = (3 : Int32) then (F_NM_told_c178_6 x2 x3 x4 t0_0 t0_1 t0_2 t1_0 t1_1 t1_2 t1_3 t1_4 t1_5 t1_6 t2_0 t3_0 t4_0 t4_1 t4_2 t4_3 t4_4 t4_5 t4_6 t4_7 t4_8 t4_9 t4_10 t5_0 t6_0 t7_0 t8_0 t9_0 t9_1 t9_2 t9_3 t9_4 t9_5 t9_6 t9_7 t9_8 t9_9 t9_10 t10_0 t11_0 t12_0 t13_0 t14_0 t15_0 t16_0 lx94 j131 lx134 ((F_FR_digits j131 (1 : Int32) t9_0 t9_1 t9_2 t9_3 t9_4 t9_5 t9_6 t9_7 t9_8 t9_9 t9_10 t10_0 t11_0 t12_0 t13_0 t14_0 t15_0) : (Int64 × Int32 × Int32 × Int32 × Int32 × Int64 × Int32 × Int32 × Int64 × Int32 × Int64 × Int32 × (Nat → Int32) × (Nat → Int32) × (Nat → Int32) × (Nat → Int32) × (Nat → Int32) × (Nat → Int32)))) else (F_NM_told_c178 x2 x3 x4 t0_0 t0_1 t0_2 t1_0 t1_1 t1_2 t1_3 t1_4 t1_5 t1_6 t2_0 t3_0 t4_0 t4_1 t4_2 t4_3 t4_4 t4_5 t4_6 t4_7 t4_8 t4_9 t4_10 t5_0 t6_0 t7_0 t8_0 t9_0 t9_1 t9_2 t9_3 t9_4 t9_5 t9_6 t9_7 t9_8 t9_9 t9_10 t10_0 t11_0 t12_0 t13_0 t14_0 t15_0 t16_0 lx94 j131 lx134 ((F_FR_digits j131 (0 : Int32) t9_0 t9_1 t9_2 t9_3 t9_4 t9_5 t9_6 t9_7 t9_8 t9_9 t9_10 t10_0 t11_0 t12_0 t13_0 t14_0 t15_0) : (Int64 × Int32 × Int32 × Int32 × Int32 × Int64 × Int32 × Int32 × Int64 × Int32 × Int64 × Int32 × (Nat → Int32) × (Nat → Int32) × (Nat → Int32) × (Nat → Int32) × (Nat → Int32) × (Nat → Int32))))) else (if x2 = (3 : Int32) then (F_NM_told_c200_4 x2 x3 x4 t0_0 t0_1 t0_2 t1_0 t1_1 t1_2 t1_3 t1_4 t1_5 t1_6 t2_0 t3_0 t4_0 t4_1 t4_2 t4_3 t4_4 t4_5 t4_6 t4_7 t4_8 t4_9 t4_10 t5_0 t6_0 t7_0 t8_0 t9_0 t9_1 t9_2 t9_3 t9_4 t9_5 t9_6 t9_7 t9_8 t9_9 t9_10 t10_0 t11_0 t12_0 t13_0 t14_0 t15_0 t16_0 lx94 j131 lx134 ((F_FR_power j131 (1 : Int32) t9_0 t9_1 t9_2 t9_3 t9_4 t9_5 t9_6 t9_7 t9_8 t9_9 t9_10 t10_0 t11_0 t12_0 t13_0 t14_0 t15_0) : (Int32 × Int32 × Int32 × Int32 × Int32 × Int64 × Int32 × Int32 × Int64 × Int32 × Int64 × Int32 × (Nat → Int32) × (Nat → Int32) × (Nat → Int32) × (Nat → Int32) × (Nat → Int32) × (Nat → Int32)))) else (F_NM_told_c200 x2 x3 x4 t0_0 t0_1 t0_2 t1_0 t1_1 t1_2 t1_3 t1_4 t1_5 t1_6 t2_0 t3_0 t4_0 t4_1 t4_2 t4_3 t4_4 t4_5 t4_6 t4_7 t4_8 t4_9 t4_10 t5_0 t6_0 t7_0 t8_0 t9_0 t9_1 t9_2 t9_3 t9_4 t9_5 t9_6 t9_7 t9_8 t9_9 t9_10 t10_0 t11_0 t12_0 t13_0 t14_0 t15_0 t16_0 lx94 j131 lx134 ((F_FR_power j131 (0 : Int32) t9_0 t9_1 t9_2 t9_3 t9_4 t9_5 t9_6 t9_7 t9_8 t9_9 t9_10 t10_0 t11_0 t12_0 t13_0 t14_0 t15_0) : (Int32 × Int32 × Int32 × Int32 × Int32 × Int64 × Int32 × Int32 × Int64 × Int32 × Int64 × Int32 × (Nat → Int32) × (Nat → Int32) × (Nat → Int32) × (Nat → Int32) × (Nat → Int32) × (Nat → Int32))))))) else (((0 : Int64), lx134, t1_0, t1_1, t1_2, t1_3, t1_4, t1_5, t1_6, t4_0, t4_1, t4_2, t4_3, t4_4, t4_5, t4_6, t4_7, t4_8, t4_9, t4_10, t9_0, t9_1, t9_2, t9_3, t9_4, t9_5, t9_6, t9_7, t9_8, t9_9, t9_10, t10_0, t11_0, t12_0, t13_0, t14_0, t15_0))
def F_NM_told_J133 (x2 : Int32) (x3 : Int32) (x4 : Int32) (t0_0 : Int32) (t0_1 : Int32) (t0_2 : Int32) (t1_0 : Int32) (t1_1 : Int32) (t1_2 : Int32) (t1_3 : Int32) (t1_4 : Int32) (t1_5 : Int32) (t1_6 : Int32) (t2_0 : (Nat → Int32)) (t3_0 : (Nat → Int32)) (t4_0 : Int32) (t4_1 : Int32) (t4_2 : Int32) (t4_3 : Int64) (t4_4 : Int32) (t4_5 : Int32) (t4_6 : Int32) (t4_7 : Int32) (t4_8 : Int32) (t4_9 : Int32) (t4_10 : Int32) (t5_0 : (Nat → Int32)) (t6_0 : (Nat → Int32)) (t7_0 : (Nat → Int32)) (t8_0 : (Nat → Int32)) (t9_0 : Int32) (t9_1 : Int32) (t9_2 : Int32) (t9_3 : Int32) (t9_4 : Int64) (t9_5 : Int32) (t9_6 : Int32) (t9_7 : Int64) (t9_8 : Int32) (t9_9 : Int64) (t9_10 : Int32) (t10_0 : (Nat → Int32)) (t11_0 : (Nat → Int32)) (t12_0 : (Nat → Int32)) (t13_0 : (Nat → Int32)) (t14_0 : (Nat → Int32)) (t15_0 : (Nat → Int32)) (t16_0 : (Nat → Int64)) (lx94 : Int32) (j131 : Int64) : Int64 × Int32 × Int32 × Int32 × Int32 × Int32 × Int32 × Int32 × Int32 × Int32 × Int32 × Int32 × Int64 × Int32 × Int32 × Int32 × Int32 × Int32 × Int32 × Int32 × Int32 × Int32 × Int32 × Int32 × Int64 × Int32 × Int32 × Int64 × Int32 × Int64 × Int32 × (Nat → Int32) × (Nat → Int32) × (Nat → Int32) × (Nat → Int32) × (Nat → Int32) × (Nat → Int32) := F_NM_told_J134 x2 x3 x4 t0_0 t0_1 t0_2 t1_0 t1_1 t1_2 t1_3 t1_4 t1_5 t1_6 t2_0 t3_0 t4_0 t4_1 t4_2 t4_3 t4_4 t4_5 t4_6 t4_7 t4_8 t4_9 t4_10 t5_0 t6_0 t7_0 t8_0 t9_0 t9_1 t9_2 t9_3 t9_4 t9_5 t9_6 t9_7 t9_8 t9_9 t9_10 t10_0 t11_0 t12_0 t13_0 t14_0 t15_0 t16_0 lx94 j131 0
def F_NM_told_c70 (x2 : Int32) (x3 : Int32) (x4 : Int32) (t0_0 : Int32) (t0_1 : Int32) (t0_2 : Int32) (t1_0 : Int32) (t1_1 : Int32) (t1_2 : Int32) (t1_3 : Int32) (t1_4 : Int32) (t1_5 : Int32) (t1_6 : Int32) (t2_0 : (Nat → Int32)) (t3_0 : (Nat → Int32)) (t4_0 : Int32) (t4_1 : Int32) (t4_2 : Int32) (t4_3 : Int64) (t4_4 : Int32) (t4_5 : Int32) (t4_6 : Int32) (t4_7 : Int32) (t4_8 : Int32) (t4_9 : Int32) (t4_10 : Int32) (t5_0 : (Nat → Int32)) (t6_0 : (Nat → Int32)) (t7_0 : (Nat → Int32)) (t8_0 : (Nat → Int32)) (t9_0 : Int32) (t9_1 : Int32) (t9_2 : Int32) (t9_3 : Int32) (t9_4 : Int64) (t9_5 : Int32) (t9_6 : Int32) (t9_7 : Int64) (t9_8 : Int32) (t9_9 : Int64) (t9_10 : Int32) (t10_0 : (Nat → Int32)) (t11_0 : (Nat → Int32)) (t12_0 : (Nat → Int32)) (t13_0 : (Nat → Int32)) (t14_0 : (Nat → Int32)) (t15_0 : (Nat → Int32)) (t16_0 : (Nat → Int64)) (lx94 : Int32) (p551 : (Int32 × Int32 × Int32 × Int32 × Int64 × Int32 × Int32 × Int32 × Int32 × Int32 × Int32 × Int32)) : Int64 × Int32 × Int32 × Int32 × Int32 × Int32 × Int32 × Int32 × Int32 × Int32 × Int32 × Int32 × Int64 × Int32 × Int32 × Int32 × Int32 × Int32 × Int32 × Int32 × Int32 × Int32 × Int32 × Int32 × Int64 × Int32 × Int32 × Int64 × Int32 × Int64 × Int32 × (Nat → Int32) × (Nat → Int32) × (Nat → Int32) × (Nat → Int32) × (Nat → Int32) × (Nat → Int32) := if (p551.2.1 : Int32) ≤ (0 : Int32) then ((((p551.1 : Int32).toInt64 : Int64), (0 : Int32), t1_0, t1_1, t1_2, t1_3, t1_4, t1_5, t1_6, (p551.2.1 : Int32), (p551.2.2.1 : Int32), (p551.2.2.2.1 : Int32), (p551.2.2.2.2.1 : Int64), (p551.2.2.2.2.2.1 : Int32), (p551.2.2.2.2.2.2.1 : Int32), (p551.2.2.2.2.2.2.2.1 : Int32), (p551.2.2.2.2.2.2.2.2.1 : Int32), (p551.2.2.2.2.2.2.2.2.2.1 : Int32), (p551.2.2.2.2.2.2.2.2.2.2.1 : Int32), (p551.2.2.2.2.2.2.2.2.2.2.2 : Int32), t9_0, t9_1, t9_2, t9_3, t9_4, t9_5, t9_6, t9_7, t9_8, t9_9, t9_10, t10_0, t11_0, t12_0, t13_0, t14_0, t15_0)) else ((((p551.1 : Int32).toInt64 : Int64), (1 : Int32), t1_0, t1_1, t1_2, t1_3, t1_4, t1_5, t1_6, (p551.2.1 : Int32), (p551.2.2.1 : Int32), (p551.2.2.2.1 : Int32), (p551.2.2.2.2.1 : Int64), (p551.2.2.2.2.2.1 : Int32), (p551.2.2.2.2.2.2.1 : Int32), (p551.2.2.2.2.2.2.2.1 : Int32), (p551.2.2.2.2.2.2.2.2.1 : Int32), (p551.2.2.2.2.2.2.2.2.2.1 : Int32), (p551.2.2.2.2.2.2.2.2.2.2.1 : Int32), (p551.2.2.2.2.2.2.2.2.2.2.2 : Int32), t9_0, t9_1, t9_2, t9_3, t9_4, t9_5, t9_6, t9_7, t9_8, t9_9, t9_10, t10_0, t11_0, t12_0, t13_0, t14_0, t15_0))
def F_NM_told_c40 (x2 : Int32) (x3 : Int32) (x4 : Int32) (t0_0 : Int32) (t0_1 : Int32) (t0_2 : Int32) (t1_0 : Int32) (t1_1 : Int32) (t1_2 : Int32) (t1_3 : Int32) (t1_4 : Int32) (t1_5 : Int32) (t1_6 : Int32) (t2_0 : (Nat → Int32)) (t3_0 : (Nat → Int32)) (t4_0 : Int32) (t4_1 : Int32) (t4_2 : Int32) (t4_3 : Int64) (t4_4 : Int32) (t4_5 : Int32) (t4_6 : Int32) (t4_7 : Int32) (t4_8 : Int32) (t4_9 : Int32) (t4_10 : Int32) (t5_0 : (Nat → Int32)) (t6_0 : (Nat → Int32)) (t7_0 : (Nat → Int32)) (t8_0 : (Nat → Int32)) (t9_0 : Int32) (t9_1 : Int32) (t9_2 : Int32) (t9_3 : Int32) (t9_4 : Int64) (t9_5 : Int32) (t9_6 : Int32) (t9_7 : Int64) (t9_8 : Int32) (t9_9 : Int64) (t9_10 : Int32) (t10_0 : (Nat → Int32)) (t11_0 : (Nat → Int32)) (t12_0 : (Nat → Int32)) (t13_0 : (Nat → Int32)) (t14_0 : (Nat → Int32)) (t15_0 : (Nat → Int32)) (t16_0 : (Nat → Int64)) (lx94 : Int32) (p612 : (Int64 × Int32 × Int32 × Int32 × Int32 × Int32 × Int32 × Int32)) : Int64 × Int32 × Int32 × Int32 × Int32 × Int32 × Int32 × Int32 × Int32 × Int32 × Int32 × Int32 × Int64 × Int32 × Int32 × Int32 × Int32 × Int32 × Int32 × Int32 × Int32 × Int32 × Int32 × Int32 × Int64 × Int32 × Int32 × Int64 × Int32 × Int64 × Int32 × (Nat → Int32) × (Nat → Int32) × (Nat → Int32) × (Nat → Int32) × (Nat → Int32) × (Nat → Int32) := ((p612.1 : Int64), (p612.2.1 : Int32), (p612.2.1 : Int32), (p612.2.2.1 : Int32), (p612.2.2.2.1 : Int32), (p612.2.2.2.2.1 : Int32), (p612.2.2.2.2.2.1 : Int32), (p612.2.2.2.2.2.2.1 : Int32), (p612.2.2.2.2.2.2.2 : Int32), t4_0, t4_1, t4_2, t4_3, t4_4, t4_5, t4_6, t4_7, t4_8, t4_9, t4_10, t9_0, t9_1, t9_2, t9_3, t9_4, t9_5, t9_6, t9_7, t9_8, t9_9, t9_10, t10_0, t11_0, t12_0, t13_0, t14_0, t15_0)
def F_NM_told_J18 (x2 : Int32) (x3 : Int32) (x4 : Int32) (t0_0 : Int32) (t0_1 : Int32) (t0_2 : Int32) (t1_0 : Int32) (t1_1 : Int32) (t1_2 : Int32) (t1_3 : Int32) (t1_4 : Int32) (t1_5 : Int32) (t1_6 : Int32) (t2_0 : (Nat → Int32)) (t3_0 : (Nat → Int32)) (t4_0 : Int32) (t4_1 : Int32) (t4_2 : Int32) (t4_3 : Int64) (t4_4 : Int32) (t4_5 : Int32) (t4_6 : Int32) (t4_7 : Int32) (t4_8 : Int32) (t4_9 : Int32) (t4_10 : Int32) (t5_0 : (Nat → Int32)) (t6_0 : (Nat → Int32)) (t7_0 : (Nat → Int32)) (t8_0 : (Nat → Int32)) (t9_0 : Int32) (t9_1 : Int32) (t9_2 : Int32) (t9_3 : Int32) (t9_4 : Int64) (t9_5 : Int32) (t9_6 : Int32) (t9_7 : Int64) (t9_8 : Int32) (t9_9 : Int64) (t9_10 : Int32) (t10_0 : (Nat → Int32)) (t11_0 : (Nat → Int32)) (t12_0 : (Nat → Int32)) (t13_0 : (Nat → Int32)) (t14_0 : (Nat → Int32)) (t15_0 : (Nat → Int32)) (t16_0 : (Nat → Int64)) (lx94 : Int32) : Int64 × Int32 × Int32 × Int32 × Int32 × Int32 × Int32 × Int32 × Int32 × Int32 × Int32 × Int32 × Int64 × Int32 × Int32 × Int32 × Int32 × Int32 × Int32 × Int32 × Int32 × Int32 × Int32 × Int32 × Int64 × Int32 × Int32 × Int64 × Int32 × Int64 × Int32 × (Nat → Int32) × (Nat → Int32) × (Nat → Int32) × (Nat → Int32) × (Nat → Int32) × (Nat → Int32) := if lx94 ≤ (0 : Int32) then (if x2 = (0 : Int32) then (F_NM_told_c40 x2 x3 x4 t0_0 t0_1 t0_2 t1_0 t1_1 t1_2 t1_3 t1_4 t1_5 t1_6 t2_0 t3_0 t4_0 t4_1 t4_2 t4_3 t4_4 t4_5 t4_6 t4_7 t4_8 t4_9 t4_10 t5_0 t6_0 t7_0 t8_0 t9_0 t9_1 t9_2 t9_3 t9_4 t9_5 t9_6 t9_7 t9_8 t9_9 t9_10 t10_0 t11_0 t12_0 t13_0 t14_0 t15_0 t16_0 lx94 ((F_WR_told x3 x4 t1_0 t1_1 t1_2 t1_3 t1_4 t1_5 t1_6 t2_0 t3_0) : (Int64 × Int32 × Int32 × Int32 × Int32 × Int32 × Int32 × Int32))) else (if x2 = (1 : Int32) then (F_NM_told_c70 x2 x3 x4 t0_0 t0_1 t0_2 t1_0 t1_1 t1_2 t1_3 t1_4 t1_5 t1_6 t2_0 t3_0 t4_0 t4_1 t4_2 t4_3 t4_4 t4_5 t4_6 t4_7 t4_8 t4_9 t4_10 t5_0 t6_0 t7_0 t8_0 t9_0 t9_1 t9_2 t9_3 t9_4 t9_5 t9_6 t9_7 t9_8 t9_9 t9_10 t10_0 t11_0 t12_0 t13_0 t14_0 t15_0 t16_0 lx94 ((F_DR_told x3 x4 t4_0 t4_1 t4_2 t4_3 t4_4 t4_5 t4_6 t4_7 t4_8 t4_9 t4_10 t5_0 t6_0 t7_0 t8_0) : (Int32 × Int32 × Int32 × Int32 × Int64 × Int32 × Int32 × Int32 × Int32 × Int32 × Int32 × Int32))) else (if x4 ≤ (2 : Int32) then (if x4 ≤ (0 : Int32) then (F_NM_told_J133 x2 x3 x4 t0_0 t0_1 t0_2 t1_0 t1_1 t1_2 t1_3 t1_4 t1_5 t1_6 t2_0 t3_0 t4_0 t4_1 t4_2 t4_3 t4_4 t4_5 t4_6 t4_7 t4_8 t4_9 t4_10 t5_0 t6_0 t7_0 t8_0 t9_0 t9_1 t9_2 t9_3 t9_4 t9_5 t9_6 t9_7 t9_8 t9_9 t9_10 t10_0 t11_0 t12_0 t13_0 t14_0 t15_0 t16_0 lx94 ((F_NM_bitsOf x2 x3 lx94 t0_1 t0_2 t16_0) : Int64)) else (if ((F_NM_isFinite x2 ((F_NM_bitsOf x2 x3 lx94 t0_1 t0_2 t16_0) : Int64)) : Int32) = (0 : Int32) then (F_NM_told_J134 x2 x3 x4 t0_0 t0_1 t0_2 t1_0 t1_1 t1_2 t1_3 t1_4 t1_5 t1_6 t2_0 t3_0 t4_0 t4_1 t4_2 t4_3 t4_4 t4_5 t4_6 t4_7 t4_8 t4_9 t4_10 t5_0 t6_0 t7_0 t8_0 t9_0 t9_1 t9_2 t9_3 t9_4 t9_5 t9_6 t9_7 t9_8 t9_9 t9_10 t10_0 t11_0 t12_0 t13_0 t14_0 t15_0 t16_0 lx94 ((F_NM_bitsOf x2 x3 lx94 t0_1 t0_2 t16_0) : Int64) 2) else (F_NM_told_J133 x2 x3 x4 t0_0 t0_1 t0_2 t1_0 t1_1 t1_2 t1_3 t1_4 t1_5 t1_6 t2_0 t3_0 t4_0 t4_1 t4_2 t4_3 t4_4 t4_5 t4_6 t4_7 t4_8 t4_9 t4_10 t5_0 t6_0 t7_0 t8_0 t9_0 t9_1 t9_2 t9_3 t9_4 t9_5 t9_6 t9_7 t9_8 t9_9 t9_10 t10_0 t11_0 t12_0 t13_0 t14_0 t15_0 t16_0 lx94 ((F_NM_bitsOf x2 x3 lx94 t0_1 t0_2 t16_0) : Int64)))) else (F_NM_told_J134 x2 x3 x4 t0_0 t0_1 t0_2 t1_0 t1_1 t1_2 t1_3 t1_4 t1_5 t1_6 t2_0 t3_0 t4_0 t4_1 t4_2 t4_3 t4_4 t4_5 t4_6 t4_7 t4_8 t4_9 t4_10 t5_0 t6_0 t7_0 t8_0 t9_0 t9_1 t9_2 t9_3 t9_4 t9_5 t9_6 t9_7 t9_8 t9_9 t9_10 t10_0 t11_0 t12_0 t13_0 t14_0 t15_0 t16_0 lx94 ((F_NM_bitsOf x2 x3 lx94 t0_1 t0_2 t16_0) : Int64) 1)))) else (((0 : Int64), lx94, t1_0, t1_1, t1_2, t1_3, t1_4, t1_5, t1_6, t4_0, t4_1, t4_2, t4_3, t4_4, t4_5, t4_6, t4_7, t4_8, t4_9, t4_10, t9_0, t9_1, t9_2, t9_3, t9_4, t9_5, t9_6, t9_7, t9_8, t9_9, t9_10, t10_0, t11_0, t12_0, t13_0, t14_0, t15_0))
def F_NM_told_J13 (x2 : Int32) (x3 : Int32) (x4 : Int32) (t0_0 : Int32) (t0_1 : Int32) (t0_2 : Int32) (t1_0 : Int32) (t1_1 : Int32) (t1_2 : Int32) (t1_3 : Int32) (t1_4 : Int32) (t1_5 : Int32) (t1_6 : Int32) (t2_0 : (Nat → Int32)) (t3_0 : (Nat → Int32)) (t4_0 : Int32) (t4_1 : Int32) (t4_2 : Int32) (t4_3 : Int64) (t4_4 : Int32) (t4_5 : Int32) (t4_6 : Int32) (t4_7 : Int32) (t4_8 : Int32) (t4_9 : Int32) (t4_10 : Int32) (t5_0 : (Nat → Int32)) (t6_0 : (Nat → Int32)) (t7_0 : (Nat → Int32)) (t8_0 : (Nat → Int32)) (t9_0 : Int32) (t9_1 : Int32) (t9_2 : Int32) (t9_3 : Int32) (t9_4 : Int64) (t9_5 : Int32) (t9_6 : Int32) (t9_7 : Int64) (t9_8 : Int32) (t9_9 : Int64) (t9_10 : Int32) (t10_0 : (Nat → Int32)) (t11_0 : (Nat → Int32)) (t12_0 : (Nat → Int32)) (t13_0 : (Nat → Int32)) (t14_0 : (Nat → Int32)) (t15_0 : (Nat → Int32)) (t16_0 : (Nat → Int64)) : Int64 × Int32 × Int32 × Int32 × Int32 × Int32 × Int32 × Int32 × Int32 × Int32 × Int32 × Int32 × Int64 × Int32 × Int32 × Int32 × Int32 × Int32 × Int32 × Int32 × Int32 × Int32 × Int32 × Int32 × Int64 × Int32 × Int32 × Int64 × Int32 × Int64 × Int32 × (Nat → Int32) × (Nat → Int32) × (Nat → Int32) × (Nat → Int32) × (Nat → Int32) × (Nat → Int32) := F_NM_told_J18 x2 x3 x4 t0_0 t0_1 t0_2 t1_0 t1_1 t1_2 t1_3 t1_4 t1_5 t1_6 t2_0 t3_0 t4_0 t4_1 t4_2 t4_3 t4_4 t4_5 t4_6 t4_7 t4_8 t4_9 t4_10 t5_0 t6_0 t7_0 t8_0 t9_0 t9_1 t9_2 t9_3 t9_4 t9_5 t9_6 t9_7 t9_8 t9_9 t9_10 t10_0 t11_0 t12_0 t13_0 t14_0 t15_0 t16_0 1
def F_NM_told (x2 : Int32) (x3 : Int32) (x4 : Int32) (t0_0 : Int32) (t0_1 : Int32) (t0_2 : Int32) (t1_0 : Int32) (t1_1 : Int32) (t1_2 : Int32) (t1_3 : Int32) (t1_4 : Int32) (t1_5 : Int32) (t1_6 : Int32) (t2_0 : (Nat → Int32)) (t3_0 : (Nat → Int32)) (t4_0 : Int32) (t4_1 : Int32) (t4_2 : Int32) (t4_3 : Int64) (t4_4 : Int32) (t4_5 : Int32) (t4_6 : Int32) (t4_7 : Int32) (t4_8 : Int32) (t4_9 : Int32) (t4_10 : Int32) (t5_0 : (Nat → Int32)) (t6_0 : (Nat → Int32)) (t7_0 : (Nat → Int32)) (t8_0 : (Nat → Int32)) (t9_0 : Int32) (t9_1 : Int32) (t9_2 : Int32) (t9_3 : Int32) (t9_4 : Int64) (t9_5 : Int32) (t9_6 : Int32) (t9_7 : Int64) (t9_8 : Int32) (t9_9 : Int64) (t9_10 : Int32) (t10_0 : (Nat → Int32)) (t11_0 : (Nat → Int32)) (t12_0 : (Nat → Int32)) (t13_0 : (Nat → Int32)) (t14_0 : (Nat → Int32)) (t15_0 : (Nat → Int32)) (t16_0 : (Nat → Int64)) : Int64 × Int32 × Int32 × Int32 × Int32 × Int32 × Int32 × Int32 × Int32 × Int32 × Int32 × Int32 × Int64 × Int32 × Int32 × Int32 × Int32 × Int32 × Int32 × Int32 × Int32 × Int32 × Int32 × Int32 × Int64 × Int32 × Int32 × Int64 × Int32 × Int64 × Int32 × (Nat → Int32) × (Nat → Int32) × (Nat → Int32) × (Nat → Int32) × (Nat → Int32) × (Nat → Int32) := if ((F_NM_no_IIZ x2 x3) : Int32) = (0 : Int32) then (if (0 : Int32) ≤ x4 then (F_NM_told_J18 x2 x3 x4 t0_0 t0_1 t0_2 t1_0 t1_1 t1_2 t1_3 t1_4 t1_5 t1_6 t2_0 t3_0 t4_0 t4_1 t4_2 t4_3 t4_4 t4_5 t4_6 t4_7 t4_8 t4_9 t4_10 t5_0 t6_0 t7_0 t8_0 t9_0 t9_1 t9_2 t9_3 t9_4 t9_5 t9_6 t9_7 t9_8 t9_9 t9_10 t10_0 t11_0 t12_0 t13_0 t14_0 t15_0 t16_0 0) else (F_NM_told_J13 x2 x3 x4 t0_0 t0_1 t0_2 t1_0 t1_1 t1_2 t1_3 t1_4 t1_5 t1_6 t2_0 t3_0 t4_0 t4_1 t4_2 t4_3 t4_4 t4_5 t4_6 t4_7 t4_8 t4_9 t4_10 t5_0 t6_0 t7_0 t8_0 t9_0 t9_1 t9_2 t9_3 t9_4 t9_5 t9_6 t9_7 t9_8 t9_9 t9_10 t10_0 t11_0 t12_0 t13_0 t14_0 t15_0 t16_0)) else (F_NM_told_J13 x2 x3 x4 t0_0 t0_1 t0_2 t1_0 t1_1 t1_2 t1_3 t1_4 t1_5 t1_6 t2_0 t3_0 t4_0 t4_1 t4_2 t4_3 t4_4 t4_5 t4_6 t4_7 t4_8 t4_9 t4_10 t5_0 t6_0 t7_0 t8_0 t9_0 t9_1 t9_2 t9_3 t9_4 t9_5 t9_6 t9_7 t9_8 t9_9 t9_10 t10_0 t11_0 t12_0 t13_0 t14_0 t15_0 t16_0)
def S_NM_told_c200 (x2 : Int32) (x3 : Int32) (x4 : Int32) (t0_0 : Int32) (t0_1 : Int32) (t0_2 : Int32) (t1_0 : Int32) (t1_1 : Int32) (t1_2 : Int32) (t1_3 : Int32) (t1_4 : Int32) (t1_5 : Int32) (t1_6 : Int32) (t2_0 : (Nat → Int32)) (t3_0 : (Nat → Int32)) (t4_0 : Int32) (t4_1 : Int32) (t4_2 : Int32) (t4_3 : Int64) (t4_4 : Int32) (t4_5 : Int32) (t4_6 : Int32) (t4_7 : Int32) (t4_8 : Int32) (t4_9 : Int32) (t4_10 : Int32) (t5_0 : (Nat → Int32)) (t6_0 : (Nat → Int32)) (t7_0 : (Nat → Int32)) (t8_0 : (Nat → Int32)) (t9_0 : Int32) (t9_1 : Int32) (t9_2 : Int32) (t9_3 : Int32) (t9_4 : Int64) (t9_5 : Int32) (t9_6 : Int32) (t9_7 : Int64) (t9_8 : Int32) (t9_9 : Int64) (t9_10 : Int32) (t10_0 : (Nat → Int32)) (t11_0 : (Nat → Int32)) (t12_0 : (Nat → Int32)) (t13_0 : (Nat → Int32)) (t14_0 : (Nat → Int32)) (t15_0 : (Nat → Int32)) (t16_0 : (Nat → Int64)) (lx94 : Int32) (j131 : Int64) (lx134 : Int32) (p217 : (Int32 × Int32 × Int32 × Int32 × Int32 × Int64 × Int32 × Int32 × Int64 × Int32 × Int64 × Int32 × (Nat → Int32) × (Nat → Int32) × (Nat → Int32) × (Nat → Int32) × (Nat → Int32) × (Nat → Int32))) : Prop := True
def S_NM_told_c200_4 (x2 : Int32) (x3 : Int32) (x4 : Int32) (t0_0 : Int32) (t0_1 : Int32) (t0_2 : Int32) (t1_0 : Int32) (t1_1 : Int32) (t1_2 : Int32) (t1_3 : Int32) (t1_4 : Int32) (t1_5 : Int32) (t1_6 : Int32) (t2_0 : (Nat → Int32)) (t3_0 : (Nat → Int32)) (t4_0 : Int32) (t4_1 : Int32) (t4_2 : Int32) (t4_3 : Int64) (t4_4 : Int32) (t4_5 : Int32) (t4_6 : Int32) (t4_7 : Int32) (t4_8 : Int32) (t4_9 : Int32) (t4_10 : Int32) (t5_0 : (Nat → Int32)) (t6_0 : (Nat → Int32)) (t7_0 : (Nat → Int32)) (t8_0 : (Nat → Int32)) (t9_0 : Int32) (t9_1 : Int32) (t9_2 : Int32) (t9_3 : Int32) (t9_4 : Int64) (t9_5 : Int32) (t9_6 : Int32) (t9_7 : Int64) (t9_8 : Int32) (t9_9 : Int64) (t9_10 : Int32) (t10_0 : (Nat → Int32)) (t11_0 : (Nat → Int32)) (t12_0 : (Nat → Int32)) (t13_0 : (Nat → Int32)) (t14_0 : (Nat → Int32)) (t15_0 : (Nat → Int32)) (t16_0 : (Nat → Int64)) (lx94 : Int32) (j131 : Int64) (lx134 : Int32) (p293 : (Int32 × Int32 × Int32 × Int32 × Int32 × Int64 × Int32 × Int32 × Int64 × Int32 × Int64 × Int32 × (Nat → Int32) × (Nat → Int32) × (Nat → Int32) × (Nat → Int32) × (Nat → Int32) × (Nat → Int32))) : Prop := True
def S_NM_told_c178 (x2 : Int32) (x3 : Int32) (x4 : Int32) (t0_0 : Int32) (t0_1 : Int32) (t0_2 : Int32) (t1_0 : Int32) (t1_1 : Int32) (t1_2 : Int32) (t1_3 : Int32) (t1_4 : Int32) (t1_5 : Int32) (t1_6 : Int32) (t2_0 : (Nat → Int32)) (t3_0 : (Nat → Int32)) (t4_0 : Int32) (t4_1 : Int32) (t4_2 : Int32) (t4_3 : Int64) (t4_4 : Int32) (t4_5 : Int32) (t4_6 : Int32) (t4_7 : Int32) (t4_8 : Int32) (t4_9 : Int32) (t4_10 : Int32) (t5_0 : (Nat → Int32)) (t6_0 : (Nat → Int32)) (t7_0 : (Nat → Int32)) (t8_0 : (Nat → Int32)) (t9_0 : Int32) (t9_1 : Int32) (t9_2 : Int32) (t9_3 : Int32) (t9_4 : Int64) (t9_5 : Int32) (t9_6 : Int32) (t9_7 : Int64) (t9_8 : Int32) (t9_9 : Int64) (t9_10 : Int32) (t10_0 : (Nat → Int32)) (t11_0 : (Nat → Int32)) (t12_0 : (Nat → Int32)) (t13_0 : (Nat → Int32)) (t14_0 : (Nat → Int32)) (t15_0 : (Nat → Int32)) (t16_0 : (Nat → Int64)) (lx94 : Int32) (j131 : Int64) (lx134 : Int32) (p371 : (Int64 × Int32 × Int32 × Int32 × Int32 × Int64 × Int32 × Int32 × Int64 × Int32 × Int64 × Int32 × (Nat → Int32) × (Nat → Int32) × (Nat → Int32) × (Nat → Int32) × (Nat → Int32) × (Nat → Int32))) : Prop := True
def S_NM_told_c178_6 (x2 : Int32) (x3 : Int32) (x4 : Int32) (t0_0 : Int32) (t0_1 : Int32) (t0_2 : Int32) (t1_0 : Int32) (t1_1 : Int32) (t1_2 : Int32) (t1_3 : Int32) (t1_4 : Int32) (t1_5 : Int32) (t1_6 : Int32) (t2_0 : (Nat → Int32)) (t3_0 : (Nat → Int32)) (t4_0 : Int32) (t4_1 : Int32) (t4_2 : Int32) (t4_3 : Int64) (t4_4 : Int32) (t4_5 : Int32) (t4_6 : Int32) (t4_7 : Int32) (t4_8 : Int32) (t4_9 : Int32) (t4_10 : Int32) (t5_0 : (Nat → Int32)) (t6_0 : (Nat → Int32)) (t7_0 : (Nat → Int32)) (t8_0 : (Nat → Int32)) (t9_0 : Int32) (t9_1 : Int32) (t9_2 : Int32) (t9_3 : Int32) (t9_4 : Int64) (t9_5 : Int32) (t9_6 : Int32) (t9_7 : Int64) (t9_8 : Int32) (t9_9 : Int64) (t9_10 : Int32) (t10_0 : (Nat → Int32)) (t11_0 : (Nat → Int32)) (t12_0 : (Nat → Int32)) (t13_0 : (Nat → Int32)) (t14_0 : (Nat → Int32)) (t15_0 : (Nat → Int32)) (t16_0 : (Nat → Int64)) (lx94 : Int32) (j131 : Int64) (lx134 : Int32) (p444 : (Int64 × Int32 × Int32 × Int32 × Int32 × Int64 × Int32 × Int32 × Int64 × Int32 × Int64 × Int32 × (Nat → Int32) × (Nat → Int32) × (Nat → Int32) × (Nat → Int32) × (Nat → Int32) × (Nat → Int32))) : Prop := True
def S_NM_told_J134 (x2 : Int32) (x3 : Int32) (x4 : Int32) (t0_0 : Int32) (t0_1 : Int32) (t0_2 : Int32) (t1_0 : Int32) (t1_1 : Int32) (t1_2 : Int32) (t1_3 : Int32) (t1_4 : Int32) (t1_5 : Int32) (t1_6 : Int32) (t2_0 : (Nat → Int32)) (t3_0 : (Nat → Int32)) (t4_0 : Int32) (t4_1 : Int32) (t4_2 : Int32) (t4_3 : Int64) (t4_4 : Int32) (t4_5 : Int32) (t4_6 : Int32) (t4_7 : Int32) (t4_8 : Int32) (t4_9 : Int32) (t4_10 : Int32) (t5_0 : (Nat → Int32)) (t6_0 : (Nat → Int32)) (t7_0 : (Nat → Int32)) (t8_0 : (Nat → Int32)) (t9_0 : Int32) (t9_1 : Int32) (t9_2 : Int32) (t9_3 : Int32) (t9_4 : Int64) (t9_5 : Int32) (t9_6 : Int32) (t9_7 : Int64) (t9_8 : Int32) (t9_9 : Int64) (t9_10 : Int32) (t10_0 : (Nat → Int32)) (t11_0 : (Nat → Int32)) (t12_0 : (Nat → Int32)) (t13_0 : (Nat → Int32)) (t14_0 : (Nat → Int32)) (t15_0 : (Nat → Int32)) (t16_0 : (Nat → Int64)) (lx94 : Int32) (j131 : Int64) (lx134 : Int32) : Prop := if lx134 ≤ (0 : Int32) then (if x4 = (0 : Int32) then (True) else (if x4 = (1 : Int32) then (if x2 = (3 : Int32) then ((True ∧ S_FR_digits j131 (1 : Int32) t9_0 t9_1 t9_2 t9_3 t9_4 t9_5 t9_6 t9_7 t9_8 t9_9 t9_10 t10_0 t11_0 t12_0 t13_0 t14_0 t15_0) ∧ (S_NM_told_c178_6 x2 x3 x4 t0_0 t0_1 t0_2 t1_0 t1_1 t1_2 t1_3 t1_4 t1_5 t1_6 t2_0 t3_0 t4_0 t4_1 t4_2 t4_3 t4_4 t4_5 t4_6 t4_7 t4_8 t4_9 t4_10 t5_0 t6_0 t7_0 t8_0 t9_0 t9_1 t9_2 t9_3 t9_4 t9_5 t9_6 t9_7 t9_8 t9_9 t9_10 t10_0 t11_0 t12_0 t13_0 t14_0 t15_0 t16_0 lx94 j131 lx134 ((F_FR_digits j131 (1 : Int32) t9_0 t9_1 t9_2 t9_3 t9_4 t9_5 t9_6 t9_7 t9_8 t9_9 t9_10 t10_0 t11_0 t12_0 t13_0 t14_0 t15_0) : (Int64 × Int32 × Int32 × Int32 × Int32 × Int64 × Int32 × Int32 × Int64 × Int32 × Int64 × Int32 × (Nat → Int32) × (Nat → Int32) × (Nat → Int32) × (Nat → Int32) × (Nat → Int32) × (Nat → Int32))))) else ((True ∧ S_FR_digits j131 (0 : Int32) t9_0 t9_1 t9_2 t9_3 t9_4 t9_5 t9_6 t9_7 t9_8 t9_9 t9_10 t10_0 t11_0 t12_0 t13_0 t14_0 t15_0) ∧ (S_NM_told_c178 x2 x3 x4 t0_0 t0_1 t0_2 t1_0 t1_1 t1_2 t1_3 t1_4 t1_5 t1_6 t2_0 t3_0 t4_0 t4_1 t4_2 t4_3 t4_4 t4_5 t4_6 t4_7 t4_8 t4_9 t4_10 t5_0 t6_0 t7_0 t8_0 t9_0 t9_1 t9_2 t9_3 t9_4 t9_5 t9_6 t9_7 t9_8 t9_9 t9_10 t10_0 t11_0 t12_0 t13_0 t14_0 t15_0 t16_0 lx94 j131 lx134 ((F_FR_digits j131 (0 : Int32) t9_0 t9_1 t9_2 t9_3 t9_4 t9_5 t9_6 t9_7 t9_8 t9_9 t9_10 t10_0 t11_0 t12_0 t13_0 t14_0 t15_0) : (Int64 × Int32 × Int32 × Int32 × Int32 × Int64 × Int32 × Int32 × Int64 × Int32 × Int64 × Int32 × (Nat → Int32) × (Nat → Int32) × (Nat → Int32) × (Nat → Int32) × (Nat → Int32) × (Nat → Int32)))))) else (if x2 = (3 : Int32) then ((True ∧ S_FR_power j131 (1 : Int32) t9_0 t9_1 t9_2 t9_3 t9_4 t9_5 t9_6 t9_7 t9_8 t9_9 t9_10 t10_0 t11_0 t12_0 t13_0 t14_0 t15_0) ∧ (S_NM_told_c200_4 x2 x3 x4 t0_0 t0_1 t0_2 t1_0 t1_1 t1_2 t1_3 t1_4 t1_5 t1_6 t2_0 t3_0 t4_0 t4_1 t4_2 t4_3 t4_4 t4_5 t4_6 t4_7 t4_8 t4_9 t4_10 t5_0 t6_0 t7_0 t8_0 t9_0 t9_1 t9_2 t9_3 t9_4 t9_5 t9_6 t9_7 t9_8 t9_9 t9_10 t10_0 t11_0 t12_0 t13_0 t14_0 t15_0 t16_0 lx94 j131 lx134 ((F_FR_power j131 (1 : Int32) t9_0 t9_1 t9_2 t9_3 t9_4 t9_5 t9_6 t9_7 t9_8 t9_9 t9_10 t10_0 t11_0 t12_0 t13_0 t14_0 t15_0) : (Int32 × Int32 × Int32 × Int32 × Int32 × Int64 × Int32 × Int32 × Int64 × Int32 × Int64 × Int32 × (Nat → Int32) × (Nat → Int32) × (Nat → Int32) × (Nat → Int32) × (Nat → Int32) × (Nat → Int32))))) else ((True ∧ S_FR_power j131 (0 : Int32) t9_0 t9_1 t9_2 t9_3 t9_4 t9_5 t9_6 t9_7 t9_8 t9_9 t9_10 t10_0 t11_0 t12_0 t13_0 t14_0 t15_0) ∧ (S_NM_told_c200 x2 x3 x4 t0_0 t0_1 t0_2 t1_0 t1_1 t1_2 t1_3 t1_4 t1_5 t1_6 t2_0 t3_0 t4_0 t4_1 t4_2 t4_3 t4_4 t4_5 t4_6 t4_7 t4_8 t4_9 t4_10 t5_0 t6_0 t7_0 t8_0 t9_0 t9_1 t9_2 t9_3 t9_4 t9_5 t9_6 t9_7 t9_8 t9_9 t9_10 t10_0 t11_0 t12_0 t13_0 t14_0 t15_0 t16_0 lx94 j131 lx134 ((F_FR_power j131 (0 : Int32) t9_0 t9_1 t9_2 t9_3 t9_4 t9_5 t9_6 t9_7 t9_8 t9_9 t9_10 t10_0 t11_0 t12_0 t13_0 t14_0 t15_0) : (Int32 × Int32 × Int32 × Int32 × Int32 × Int64 × Int32 × Int32 × Int64 × Int32 × Int64 × Int32 × (Nat → Int32) × (Nat → Int32) × (Nat → Int32) × (Nat → Int32) × (Nat → Int32) × (Nat → Int32)))))))) else (True)
def S_NM_told_J133 (x2 : Int32) (x3 : Int32) (x4 : Int32) (t0_0 : Int32) (t0_1 : Int32) (t0_2 : Int32) (t1_0 : Int32) (t1_1 : Int32) (t1_2 : Int32) (t1_3 : Int32) (t1_4 : Int32) (t1_5 : Int32) (t1_6 : Int32) (t2_0 : (Nat → Int32)) (t3_0 : (Nat → Int32)) (t4_0 : Int32) (t4_1 : Int32) (t4_2 : Int32) (t4_3 : Int64) (t4_4 : Int32) (t4_5 : Int32) (t4_6 : Int32) (t4_7 : Int32) (t4_8 : Int32) (t4_9 : Int32) (t4_10 : Int32) (t5_0 : (Nat → Int32)) (t6_0 : (Nat → Int32)) (t7_0 : (Nat → Int32)) (t8_0 : (Nat → Int32)) (t9_0 : Int32) (t9_1 : Int32) (t9_2 : Int32) (t9_3 : Int32) (t9_4 : Int64) (t9_5 : Int32) (t9_6 : Int32) (t9_7 : Int64) (t9_8 : Int32) (t9_9 : Int64) (t9_10 : Int32) (t10_0 : (Nat → Int32)) (t11_0 : (Nat → Int32)) (t12_0 : (Nat → Int32)) (t13_0 : (Nat → Int32)) (t14_0 : (Nat → Int32)) (t15_0 : (Nat → Int32)) (t16_0 : (Nat → Int64)) (lx94 : Int32) (j131 : Int64) : Prop := S_NM_told_J134 x2 x3 x4 t0_0 t0_1 t0_2 t1_0 t1_1 t1_2 t1_3 t1_4 t1_5 t1_6 t2_0 t3_0 t4_0 t4_1 t4_2 t4_3 t4_4 t4_5 t4_6 t4_7 t4_8 t4_9 t4_10 t5_0 t6_0 t7_0 t8_0 t9_0 t9_1 t9_2 t9_3 t9_4 t9_5 t9_6 t9_7 t9_8 t9_9 t9_10 t10_0 t11_0 t12_0 t13_0 t14_0 t15_0 t16_0 lx94 j131 0
def S_NM_told_c70 (x2 : Int32) (x3 : Int32) (x4 : Int32) (t0_0 : Int32) (t0_1 : Int32) (t0_2 : Int32) (t1_0 : Int32) (t1_1 : Int32) (t1_2 : Int32) (t1_3 : Int32) (t1_4 : Int32) (t1_5 : Int32) (t1_6 : Int32) (t2_0 : (Nat → Int32)) (t3_0 : (Nat → Int32)) (t4_0 : Int32) (t4_1 : Int32) (t4_2 : Int32) (t4_3 : Int64) (t4_4 : Int32) (t4_5 : Int32) (t4_6 : Int32) (t4_7 : Int32) (t4_8 : Int32) (t4_9 : Int32) (t4_10 : Int32) (t5_0 : (Nat → Int32)) (t6_0 : (Nat → Int32)) (t7_0 : (Nat → Int32)) (t8_0 : (Nat → Int32)) (t9_0 : Int32) (t9_1 : Int32) (t9_2 : Int32) (t9_3 : Int32) (t9_4 : Int64) (t9_5 : Int32) (t9_6 : Int32) (t9_7 : Int64) (t9_8 : Int32) (t9_9 : Int64) (t9_10 : Int32) (t10_0 : (Nat → Int32)) (t11_0 : (Nat → Int32)) (t12_0 : (Nat → Int32)) (t13_0 : (Nat → Int32)) (t14_0 : (Nat → Int32)) (t15_0 : (Nat → Int32)) (t16_0 : (Nat → Int64)) (lx94 : Int32) (p551 : (Int32 × Int32 × Int32 × Int32 × Int64 × Int32 × Int32 × Int32 × Int32 × Int32 × Int32 × Int32)) : Prop := if (p551.2.1 : Int32) ≤ (0 : Int32) then (True) else (True)
def S_NM_told_c40 (x2 : Int32) (x3 : Int32) (x4 : Int32) (t0_0 : Int32) (t0_1 : Int32) (t0_2 : Int32) (t1_0 : Int32) (t1_1 : Int32) (t1_2 : Int32) (t1_3 : Int32) (t1_4 : Int32) (t1_5 : Int32) (t1_6 : Int32) (t2_0 : (Nat → Int32)) (t3_0 : (Nat → Int32)) (t4_0 : Int32) (t4_1 : Int32) (t4_2 : Int32) (t4_3 : Int64) (t4_4 : Int32) (t4_5 : Int32) (t4_6 : Int32) (t4_7 : Int32) (t4_8 : Int32) (t4_9 : Int32) (t4_10 : Int32) (t5_0 : (Nat → Int32)) (t6_0 : (Nat → Int32)) (t7_0 : (Nat → Int32)) (t8_0 : (Nat → Int32)) (t9_0 : Int32) (t9_1 : Int32) (t9_2 : Int32) (t9_3 : Int32) (t9_4 : Int64) (t9_5 : Int32) (t9_6 : Int32) (t9_7 : Int64) (t9_8 : Int32) (t9_9 : Int64) (t9_10 : Int32) (t10_0 : (Nat → Int32)) (t11_0 : (Nat → Int32)) (t12_0 : (Nat → Int32)) (t13_0 : (Nat → Int32)) (t14_0 : (Nat → Int32)) (t15_0 : (Nat → Int32)) (t16_0 : (Nat → Int64)) (lx94 : Int32) (p612 : (Int64 × Int32 × Int32 × Int32 × Int32 × Int32 × Int32 × Int32)) : Prop := True
def S_NM_told_J18 (x2 : Int32) (x3 : Int32) (x4 : Int32) (t0_0 : Int32) (t0_1 : Int32) (t0_2 : Int32) (t1_0 : Int32) (t1_1 : Int32) (t1_2 : Int32) (t1_3 : Int32) (t1_4 : Int32) (t1_5 : Int32) (t1_6 : Int32) (t2_0 : (Nat → Int32)) (t3_0 : (Nat → Int32)) (t4_0 : Int32) (t4_1 : Int32) (t4_2 : Int32) (t4_3 : Int64) (t4_4 : Int32) (t4_5 : Int32) (t4_6 : Int32) (t4_7 : Int32) (t4_8 : Int32) (t4_9 : Int32) (t4_10 : Int32) (t5_0 : (Nat → Int32)) (t6_0 : (Nat → Int32)) (t7_0 : (Nat → Int32)) (t8_0 : (Nat → Int32)) (t9_0 : Int32) (t9_1 : Int32) (t9_2 : Int32) (t9_3 : Int32) (t9_4 : Int64) (t9_5 : Int32) (t9_6 : Int32) (t9_7 : Int64) (t9_8 : Int32) (t9_9 : Int64) (t9_10 : Int32) (t10_0 : (Nat → Int32)) (t11_0 : (Nat → Int32)) (t12_0 : (Nat → Int32)) (t13_0 : (Nat → Int32)) (t14_0 : (Nat → Int32)) (t15_0 : (Nat → Int32)) (t16_0 : (Nat → Int64)) (lx94 : Int32) : Prop := if lx94 ≤ (0 : Int32) then (if x2 = (0 : Int32) then ((True ∧ S_WR_told x3 x4 t1_0 t1_1 t1_2 t1_3 t1_4 t1_5 t1_6 t2_0 t3_0) ∧ (S_NM_told_c40 x2 x3 x4 t0_0 t0_1 t0_2 t1_0 t1_1 t1_2 t1_3 t1_4 t1_5 t1_6 t2_0 t3_0 t4_0 t4_1 t4_2 t4_3 t4_4 t4_5 t4_6 t4_7 t4_8 t4_9 t4_10 t5_0 t6_0 t7_0 t8_0 t9_0 t9_1 t9_2 t9_3 t9_4 t9_5 t9_6 t9_7 t9_8 t9_9 t9_10 t10_0 t11_0 t12_0 t13_0 t14_0 t15_0 t16_0 lx94 ((F_WR_told x3 x4 t1_0 t1_1 t1_2 t1_3 t1_4 t1_5 t1_6 t2_0 t3_0) : (Int64 × Int32 × Int32 × Int32 × Int32 × Int32 × Int32 × Int32)))) else (if x2 = (1 : Int32) then ((True ∧ S_DR_told x3 x4 t4_0 t4_1 t4_2 t4_3 t4_4 t4_5 t4_6 t4_7 t4_8 t4_9 t4_10 t5_0 t6_0 t7_0 t8_0) ∧ (S_NM_told_c70 x2 x3 x4 t0_0 t0_1 t0_2 t1_0 t1_1 t1_2 t1_3 t1_4 t1_5 t1_6 t2_0 t3_0 t4_0 t4_1 t4_2 t4_3 t4_4 t4_5 t4_6 t4_7 t4_8 t4_9 t4_10 t5_0 t6_0 t7_0 t8_0 t9_0 t9_1 t9_2 t9_3 t9_4 t9_5 t9_6 t9_7 t9_8 t9_9 t9_10 t10_0 t11_0 t12_0 t13_0 t14_0 t15_0 t16_0 lx94 ((F_DR_told x3 x4 t4_0 t4_1 t4_2 t4_3 t4_4 t4_5 t4_6 t4_7 t4_8 t4_9 t4_10 t5_0 t6_0 t7_0 t8_0) : (Int32 × Int32 × Int32 × Int32 × Int64 × Int32 × Int32 × Int32 × Int32 × Int32 × Int32 × Int32)))) else ((True ∧ S_NM_bitsOf x2 x3 lx94 t0_1 t0_2 t16_0) ∧ (if x4 ≤ (2 : Int32) then (if x4 ≤ (0 : Int32) then (S_NM_told_J133 x2 x3 x4 t0_0 t0_1 t0_2 t1_0 t1_1 t1_2 t1_3 t1_4 t1_5 t1_6 t2_0 t3_0 t4_0 t4_1 t4_2 t4_3 t4_4 t4_5 t4_6 t4_7 t4_8 t4_9 t4_10 t5_0 t6_0 t7_0 t8_0 t9_0 t9_1 t9_2 t9_3 t9_4 t9_5 t9_6 t9_7 t9_8 t9_9 t9_10 t10_0 t11_0 t12_0 t13_0 t14_0 t15_0 t16_0 lx94 ((F_NM_bitsOf x2 x3 lx94 t0_1 t0_2 t16_0) : Int64)) else (if ((F_NM_isFinite x2 ((F_NM_bitsOf x2 x3 lx94 t0_1 t0_2 t16_0) : Int64)) : Int32) = (0 : Int32) then (S_NM_told_J134 x2 x3 x4 t0_0 t0_1 t0_2 t1_0 t1_1 t1_2 t1_3 t1_4 t1_5 t1_6 t2_0 t3_0 t4_0 t4_1 t4_2 t4_3 t4_4 t4_5 t4_6 t4_7 t4_8 t4_9 t4_10 t5_0 t6_0 t7_0 t8_0 t9_0 t9_1 t9_2 t9_3 t9_4 t9_5 t9_6 t9_7 t9_8 t9_9 t9_10 t10_0 t11_0 t12_0 t13_0 t14_0 t15_0 t16_0 lx94 ((F_NM_bitsOf x2 x3 lx94 t0_1 t0_2 t16_0) : Int64) 2) else (S_NM_told_J133 x2 x3 x4 t0_0 t0_1 t0_2 t1_0 t1_1 t1_2 t1_3 t1_4 t1_5 t1_6 t2_0 t3_0 t4_0 t4_1 t4_2 t4_3 t4_4 t4_5 t4_6 t4_7 t4_8 t4_9 t4_10 t5_0 t6_0 t7_0 t8_0 t9_0 t9_1 t9_2 t9_3 t9_4 t9_5 t9_6 t9_7 t9_8 t9_9 t9_10 t10_0 t11_0 t12_0 t13_0 t14_0 t15_0 t16_0 lx94 ((F_NM_bitsOf x2 x3 lx94 t0_1 t0_2 t16_0) : Int64)))) else (S_NM_told_J134 x2 x3 x4 t0_0 t0_1 t0_2 t1_0 t1_1 t1_2 t1_3 t1_4 t1_5 t1_6 t2_0 t3_0 t4_0 t4_1 t4_2 t4_3 t4_4 t4_5 t4_6 t4_7 t4_8 t4_9 t4_10 t5_0 t6_0 t7_0 t8_0 t9_0 t9_1 t9_2 t9_3 t9_4 t9_5 t9_6 t9_7 t9_8 t9_9 t9_10 t10_0 t11_0 t12_0 t13_0 t14_0 t15_0 t16_0 lx94 ((F_NM_bitsOf x2 x3 lx94 t0_1 t0_2 t16_0) : Int64) 1))))) else (True)
def S_NM_told_J13 (x2 : Int32) (x3 : Int32) (x4 : Int32) (t0_0 : Int32) (t0_1 : Int32) (t0_2 : Int32) (t1_0 : Int32) (t1_1 : Int32) (t1_2 : Int32) (t1_3 : Int32) (t1_4 : Int32) (t1_5 : Int32) (t1_6 : Int32) (t2_0 : (Nat → Int32)) (t3_0 : (Nat → Int32)) (t4_0 : Int32) (t4_1 : Int32) (t4_2 : Int32) (t4_3 : Int64) (t4_4 : Int32) (t4_5 : Int32) (t4_6 : Int32) (t4_7 : Int32) (t4_8 : Int32) (t4_9 : Int32) (t4_10 : Int32) (t5_0 : (Nat → Int32)) (t6_0 : (Nat → Int32)) (t7_0 : (Nat → Int32)) (t8_0 : (Nat → Int32)) (t9_0 : Int32) (t9_1 : Int32) (t9_2 : Int32) (t9_3 : Int32) (t9_4 : Int64) (t9_5 : Int32) (t9_6 : Int32) (t9_7 : Int64) (t9_8 : Int32) (t9_9 : Int64) (t9_10 : Int32) (t10_0 : (Nat → Int32)) (t11_0 : (Nat → Int32)) (t12_0 : (Nat → Int32)) (t13_0 : (Nat → Int32)) (t14_0 : (Nat → Int32)) (t15_0 : (Nat → Int32)) (t16_0 : (Nat → Int64)) : Prop := S_NM_told_J18 x2 x3 x4 t0_0 t0_1 t0_2 t1_0 t1_1 t1_2 t1_3 t1_4 t1_5 t1_6 t2_0 t3_0 t4_0 t4_1 t4_2 t4_3 t4_4 t4_5 t4_6 t4_7 t4_8 t4_9 t4_10 t5_0 t6_0 t7_0 t8_0 t9_0 t9_1 t9_2 t9_3 t9_4 t9_5 t9_6 t9_7 t9_8 t9_9 t9_10 t10_0 t11_0 t12_0 t13_0 t14_0 t15_0 t16_0 1
def S_NM_told (x2 : Int32) (x3 : Int32) (x4 : Int32) (t0_0 : Int32) (t0_1 : Int32) (t0_2 : Int32) (t1_0 : Int32) (t1_1 : Int32) (t1_2 : Int32) (t1_3 : Int32) (t1_4 : Int32) (t1_5 : Int32) (t1_6 : Int32) (t2_0 : (Nat → Int32)) (t3_0 : (Nat → Int32)) (t4_0 : Int32) (t4_1 : Int32) (t4_2 : Int32) (t4_3 : Int64) (t4_4 : Int32) (t4_5 : Int32) (t4_6 : Int32) (t4_7 : Int32) (t4_8 : Int32) (t4_9 : Int32) (t4_10 : Int32) (t5_0 : (Nat → Int32)) (t6_0 : (Nat → Int32)) (t7_0 : (Nat → Int32)) (t8_0 : (Nat → Int32)) (t9_0 : Int32) (t9_1 : Int32) (t9_2 : Int32) (t9_3 : Int32) (t9_4 : Int64) (t9_5 : Int32) (t9_6 : Int32) (t9_7 : Int64) (t9_8 : Int32) (t9_9 : Int64) (t9_10 : Int32) (t10_0 : (Nat → Int32)) (t11_0 : (Nat → Int32)) (t12_0 : (Nat → Int32)) (t13_0 : (Nat → Int32)) (t14_0 : (Nat → Int32)) (t15_0 : (Nat → Int32)) (t16_0 : (Nat → Int64)) : Prop := if ((F_NM_no_IIZ x2 x3) : Int32) = (0 : Int32) then (if (0 : Int32) ≤ x4 then (S_NM_told_J18 x2 x3 x4 t0_0 t0_1 t0_2 t1_0 t1_1 t1_2 t1_3 t1_4 t1_5 t1_6 t2_0 t3_0 t4_0 t4_1 t4_2 t4_3 t4_4 t4_5 t4_6 t4_7 t4_8 t4_9 t4_10 t5_0 t6_0 t7_0 t8_0 t9_0 t9_1 t9_2 t9_3 t9_4 t9_5 t9_6 t9_7 t9_8 t9_9 t9_10 t10_0 t11_0 t12_0 t13_0 t14_0 t15_0 t16_0 0) else (S_NM_told_J13 x2 x3 x4 t0_0 t0_1 t0_2 t1_0 t1_1 t1_2 t1_3 t1_4 t1_5 t1_6 t2_0 t3_0 t4_0 t4_1 t4_2 t4_3 t4_4 t4_5 t4_6 t4_7 t4_8 t4_9 t4_10 t5_0 t6_0 t7_0 t8_0 t9_0 t9_1 t9_2 t9_3 t9_4 t9_5 t9_6 t9_7 t9_8 t9_9 t9_10 t10_0 t11_0 t12_0 t13_0 t14_0 t15_0 t16_0)) else (S_NM_told_J13 x2 x3 x4 t0_0 t0_1 t0_2 t1_0 t1_1 t1_2 t1_3 t1_4 t1_5 t1_6 t2_0 t3_0 t4_0 t4_1 t4_2 t4_3 t4_4 t4_5 t4_6 t4_7 t4_8 t4_9 t4_10 t5_0 t6_0 t7_0 t8_0 t9_0 t9_1 t9_2 t9_3 t9_4 t9_5 t9_6 t9_7 t9_8 t9_9 t9_10 t10_0 t11_0 t12_0 t13_0 t14_0 t15_0 t16_0)
set_option maxRecDepth 100000 in
set_option maxHeartbeats 4000000 in
theorem X_NM_told (l : Launch) (D : va_G) (g : Nat → ClassId) (q : Nat → Nat) (ws : va_W) (x2 : Int32) (x3 : Int32) (x4 : Int32) (hI : q_I (msh g q) q ws) (t0_0 : Int32) (t0_1 : Int32) (t0_2 : Int32) (hT0 : ws[116]? = (some (q 116, .inr (12, [.int t0_0, .ref (q 117), .int t0_1, .ref (q 118), .int t0_2, .ref (q 119), .ref (q 134), .ref (q 145), .ref (q 153), .ref (q 157), .ref (q 167), .ref (q 168)])) : Option (Nat × va_E))) (t1_0 : Int32) (t1_1 : Int32) (t1_2 : Int32) (t1_3 : Int32) (t1_4 : Int32) (t1_5 : Int32) (t1_6 : Int32) (hT1 : ws[119]? = (some (q 119, .inr (13, [.int t1_0, .int t1_1, .ref (q 120), .int t1_2, .ref (q 121), .ref (q 122), .ref (q 123), .int t1_3, .ref (q 124), .ref (q 125), .ref (q 126), .ref (q 127), .ref (q 128), .ref (q 129), .ref (q 130), .ref (q 131), .int t1_4, .int t1_5, .ref (q 132), .ref (q 133), .int t1_6])) : Option (Nat × va_E))) (t2_0 : (Nat → Int32)) (hT2 : ws[121]? = (some (q 121, .inl (g 0, (1408 : Int32).toNatClampNeg, .inl t2_0)) : Option (Nat × va_E))) (t3_0 : (Nat → Int32)) (hT3 : ws[122]? = (some (q 122, .inl (g 3, 11, .inl t3_0)) : Option (Nat × va_E))) (t4_0 : Int32) (t4_1 : Int32) (t4_2 : Int32) (t4_3 : Int64) (t4_4 : Int32) (t4_5 : Int32) (t4_6 : Int32) (t4_7 : Int32) (t4_8 : Int32) (t4_9 : Int32) (t4_10 : Int32) (hT4 : ws[134]? = (some (q 134, .inr (14, [.int t4_0, .ref (q 135), .int t4_1, .ref (q 136), .ref (q 137), .ref (q 138), .ref (q 139), .ref (q 140), .int t4_2, .long t4_3, .int t4_4, .int t4_5, .ref (q 141), .int t4_6, .ref (q 142), .int t4_7, .ref (q 143), .int t4_8, .ref (q 144), .int t4_9, .int t4_10])) : Option (Nat × va_E))) (t5_0 : (Nat → Int32)) (hT5 : ws[136]? = (some (q 136, .inl (g 0, (10000 : Int32).toNatClampNeg, .inl t5_0)) : Option (Nat × va_E))) (t6_0 : (Nat → Int32)) (hT6 : ws[137]? = (some (q 137, .inl (g 0, (10 : Int32).toNatClampNeg, .inl t6_0)) : Option (Nat × va_E))) (t7_0 : (Nat → Int32)) (hT7 : ws[138]? = (some (q 138, .inl (g 3, 10, .inl t7_0)) : Option (Nat × va_E))) (t8_0 : (Nat → Int32)) (hT8 : ws[139]? = (some (q 139, .inl (g 0, (10 : Int32).toNatClampNeg, .inl t8_0)) : Option (Nat × va_E))) (t9_0 : Int32) (t9_1 : Int32) (t9_2 : Int32) (t9_3 : Int32) (t9_4 : Int64) (t9_5 : Int32) (t9_6 : Int32) (t9_7 : Int64) (t9_8 : Int32) (t9_9 : Int64) (t9_10 : Int32) (hT9 : ws[145]? = (some (q 145, .inr (15, [.int t9_0, .ref (q 146), .ref (q 147), .ref (q 148), .ref (q 149), .ref (q 150), .ref (q 151), .ref (q 152), .int t9_1, .int t9_2, .int t9_3, .long t9_4, .int t9_5, .int t9_6, .long t9_7, .int t9_8, .long t9_9, .int t9_10])) : Option (Nat × va_E))) (t10_0 : (Nat → Int32)) (hT10 : ws[146]? = (some (q 146, .inl (g 0, (156 : Int32).toNatClampNeg, .inl t10_0)) : Option (Nat × va_E))) (t11_0 : (Nat → Int32)) (hT11 : ws[147]? = (some (q 147, .inl (g 0, (156 : Int32).toNatClampNeg, .inl t11_0)) : Option (Nat × va_E))) (t12_0 : (Nat → Int32)) (hT12 : ws[148]? = (some (q 148, .inl (g 0, (1404 : Int32).toNatClampNeg, .inl t12_0)) : Option (Nat × va_E))) (t13_0 : (Nat → Int32)) (hT13 : ws[149]? = (some (q 149, .inl (g 0, (1404 : Int32).toNatClampNeg, .inl t13_0)) : Option (Nat × va_E))) (t14_0 : (Nat → Int32)) (hT14 : ws[150]? = (some (q 150, .inl (g 0, (1404 : Int32).toNatClampNeg, .inl t14_0)) : Option (Nat × va_E))) (t15_0 : (Nat → Int32)) (hT15 : ws[151]? = (some (q 151, .inl (g 0, (1404 : Int32).toNatClampNeg, .inl t15_0)) : Option (Nat × va_E))) (t16_0 : (Nat → Int64)) (hT16 : ws[167]? = (some (q 167, .inl (g 1, 20, .inr (.inl t16_0))) : Option (Nat × va_E))) (hS : True ∧ S_NM_told x2 x3 x4 t0_0 t0_1 t0_2 t1_0 t1_1 t1_2 t1_3 t1_4 t1_5 t1_6 t2_0 t3_0 t4_0 t4_1 t4_2 t4_3 t4_4 t4_5 t4_6 t4_7 t4_8 t4_9 t4_10 t5_0 t6_0 t7_0 t8_0 t9_0 t9_1 t9_2 t9_3 t9_4 t9_5 t9_6 t9_7 t9_8 t9_9 t9_10 t10_0 t11_0 t12_0 t13_0 t14_0 t15_0 t16_0) : q_mL l y_NM_told prog_14_method_17_code 6 6 0 0 D g [.ref (q 116), .int x2, .int x3, .int x4] ws (fun r u => q_I (msh g q) q u ∧ q_un ws u [116, 119, 134, 145, 146, 147, 148, 149, 150, 151] ∧ ∃ (u0_0 : Int32) (u1_0 : Int32) (u1_1 : Int32) (u1_2 : Int32) (u1_3 : Int32) (u1_4 : Int32) (u1_5 : Int32) (u1_6 : Int32) (u4_0 : Int32) (u4_1 : Int32) (u4_2 : Int32) (u4_3 : Int64) (u4_4 : Int32) (u4_5 : Int32) (u4_6 : Int32) (u4_7 : Int32) (u4_8 : Int32) (u4_9 : Int32) (u4_10 : Int32) (u9_0 : Int32) (u9_1 : Int32) (u9_2 : Int32) (u9_3 : Int32) (u9_4 : Int64) (u9_5 : Int32) (u9_6 : Int32) (u9_7 : Int64) (u9_8 : Int32) (u9_9 : Int64) (u9_10 : Int32) (u10_0 : (Nat → Int32)) (u11_0 : (Nat → Int32)) (u12_0 : (Nat → Int32)) (u13_0 : (Nat → Int32)) (u14_0 : (Nat → Int32)) (u15_0 : (Nat → Int32)), u[116]? = (some (q 116, .inr (12, [.int u0_0, .ref (q 117), .int t0_1, .ref (q 118), .int t0_2, .ref (q 119), .ref (q 134), .ref (q 145), .ref (q 153), .ref (q 157), .ref (q 167), .ref (q 168)])) : Option (Nat × va_E)) ∧ u[119]? = (some (q 119, .inr (13, [.int u1_0, .int u1_1, .ref (q 120), .int u1_2, .ref (q 121), .ref (q 122), .ref (q 123), .int u1_3, .ref (q 124), .ref (q 125), .ref (q 126), .ref (q 127), .ref (q 128), .ref (q 129), .ref (q 130), .ref (q 131), .int u1_4, .int u1_5, .ref (q 132), .ref (q 133), .int u1_6])) : Option (Nat × va_E)) ∧ u[134]? = (some (q 134, .inr (14, [.int u4_0, .ref (q 135), .int u4_1, .ref (q 136), .ref (q 137), .ref (q 138), .ref (q 139), .ref (q 140), .int u4_2, .long u4_3, .int u4_4, .int u4_5, .ref (q 141), .int u4_6, .ref (q 142), .int u4_7, .ref (q 143), .int u4_8, .ref (q 144), .int u4_9, .int u4_10])) : Option (Nat × va_E)) ∧ u[145]? = (some (q 145, .inr (15, [.int u9_0, .ref (q 146), .ref (q 147), .ref (q 148), .ref (q 149), .ref (q 150), .ref (q 151), .ref (q 152), .int u9_1, .int u9_2, .int u9_3, .long u9_4, .int u9_5, .int u9_6, .long u9_7, .int u9_8, .long u9_9, .int u9_10])) : Option (Nat × va_E)) ∧ u[146]? = (some (q 146, .inl (g 0, (156 : Int32).toNatClampNeg, .inl u10_0)) : Option (Nat × va_E)) ∧ u[147]? = (some (q 147, .inl (g 0, (156 : Int32).toNatClampNeg, .inl u11_0)) : Option (Nat × va_E)) ∧ u[148]? = (some (q 148, .inl (g 0, (1404 : Int32).toNatClampNeg, .inl u12_0)) : Option (Nat × va_E)) ∧ u[149]? = (some (q 149, .inl (g 0, (1404 : Int32).toNatClampNeg, .inl u13_0)) : Option (Nat × va_E)) ∧ u[150]? = (some (q 150, .inl (g 0, (1404 : Int32).toNatClampNeg, .inl u14_0)) : Option (Nat × va_E)) ∧ u[151]? = (some (q 151, .inl (g 0, (1404 : Int32).toNatClampNeg, .inl u15_0)) : Option (Nat × va_E)) ∧ (0 ≤ u0_0.toInt) ∧ (u0_0.toInt ≤ 2) ∧ (0 ≤ u9_2.toInt) ∧ (u9_2.toInt ≤ 1) ∧ (t1_1.toInt ≤ u1_1.toInt) ∧ (u1_1.toInt ≤ t1_1.toInt) ∧ (t1_2.toInt ≤ u1_2.toInt) ∧ (u1_2.toInt ≤ t1_2.toInt) ∧ (t1_3.toInt ≤ u1_3.toInt) ∧ (u1_3.toInt ≤ t1_3.toInt) ∧ (t1_4.toInt ≤ u1_4.toInt) ∧ (u1_4.toInt ≤ t1_4.toInt) ∧ (t1_5.toInt ≤ u1_5.toInt) ∧ (u1_5.toInt ≤ t1_5.toInt) ∧ (t1_6.toInt ≤ u1_6.toInt) ∧ (u1_6.toInt ≤ t1_6.toInt) ∧ (t4_1.toInt ≤ u4_1.toInt) ∧ (u4_1.toInt ≤ t4_1.toInt) ∧ (t4_2.toInt ≤ u4_2.toInt) ∧ (u4_2.toInt ≤ t4_2.toInt) ∧ (t4_3.toInt ≤ u4_3.toInt) ∧ (u4_3.toInt ≤ t4_3.toInt) ∧ (t4_4.toInt ≤ u4_4.toInt) ∧ (u4_4.toInt ≤ t4_4.toInt) ∧ (t4_5.toInt ≤ u4_5.toInt) ∧ (u4_5.toInt ≤ t4_5.toInt) ∧ (t4_6.toInt ≤ u4_6.toInt) ∧ (u4_6.toInt ≤ t4_6.toInt) ∧ (t4_7.toInt ≤ u4_7.toInt) ∧ (u4_7.toInt ≤ t4_7.toInt) ∧ (t4_8.toInt ≤ u4_8.toInt) ∧ (u4_8.toInt ≤ t4_8.toInt) ∧ (t4_9.toInt ≤ u4_9.toInt) ∧ (u4_9.toInt ≤ t4_9.toInt) ∧ (t4_10.toInt ≤ u4_10.toInt) ∧ (u4_10.toInt ≤ t4_10.toInt) ∧ (t9_1.toInt ≤ u9_1.toInt) ∧ (u9_1.toInt ≤ t9_1.toInt) ∧ (r, u0_0, u1_0, u1_1, u1_2, u1_3, u1_4, u1_5, u1_6, u4_0, u4_1, u4_2, u4_3, u4_4, u4_5, u4_6, u4_7, u4_8, u4_9, u4_10, u9_0, u9_1, u9_2, u9_3, u9_4, u9_5, u9_6, u9_7, u9_8, u9_9, u9_10, u10_0, u11_0, u12_0, u13_0, u14_0, u15_0) = (F_NM_told x2 x3 x4 t0_0 t0_1 t0_2 t1_0 t1_1 t1_2 t1_3 t1_4 t1_5 t1_6 t2_0 t3_0 t4_0 t4_1 t4_2 t4_3 t4_4 t4_5 t4_6 t4_7 t4_8 t4_9 t4_10 t5_0 t6_0 t7_0 t8_0 t9_0 t9_1 t9_2 t9_3 t9_4 t9_5 t9_6 t9_7 t9_8 t9_9 t9_10 t10_0 t11_0 t12_0 t13_0 t14_0 t15_0 t16_0)) := by
  intro sz
  refine q_into (by decide) (Nat.le_of_ble_eq_true rfl) ?_
  intro p e s m below meth c ls hsz C0 V hl
  have hx := C0.1
  have hb := C0.2.1
  obtain ⟨btt0_1, btt0_2⟩ := n_w116 hI hT0
  replace btt0_1 : q_F (0 ≤ t0_1.toInt ∧ t0_1.toInt ≤ 4100) := btt0_1
  replace btt0_2 : q_F (0 ≤ t0_2.toInt ∧ t0_2.toInt ≤ 12200) := btt0_2
  have hZ9 := (n_w119 hI hT1).2.2.2
  obtain ⟨-, btt1_6⟩ := hZ9
  clear btt1_6
  have hZ9 := (n_w134 hI hT4).2.2
  obtain ⟨-, btt4_9⟩ := hZ9
  clear btt4_9
  have btt9_2 := n_w145 hI hT9
  replace btt9_2 : q_F (0 ≤ t9_2.toInt ∧ t9_2.toInt ≤ 1) := btt9_2
  have hF : q_un ws ws [116, 119, 134, 145, 146, 147, 148, 149, 150, 151] := q_u0
  have hl : lv_has ls 6 [(0, .ref (q 116)), (1, .int x2), (2, .int x3), (3, .int x4)] := hl
  refine lv_aload_n hx hb d_14_17_0 rfl (lv_at hl 0 rfl) ?_
  refine lv_iload_n hx hb d_14_17_1 rfl (lv_at hl 1 rfl) ?_
  refine lv_iload_n hx hb d_14_17_2 rfl (lv_at hl 2 rfl) ?_
  refine q_goi V (q_runS (As := [.int x2, .int x3]) (rest := [.ref (q 116)]) (d := 2) (mc := 0) (ms := 0) C0 V rfl LS_NM_84 (X_NM_no_IIZ l D g q ws  x2 x3 hI   _) rfl hl.1 rfl (Nat.le_of_ble_eq_true rfl) ⟨by decide, by decide⟩ ⟨Nat.le_of_ble_eq_true rfl, Nat.le_of_ble_eq_true rfl⟩ d_14_17_3) (fun a89 u87 H locs hp88 V => ?_)
  obtain ⟨rfl, b90, b91, hE92⟩ := hp88
  have e93 : a89 = (F_NM_no_IIZ x2 x3) := hE92
  clear b90
  clear b91
  refine q_join (X := Int32) (fun z H locs ls _ => q_F (0 ≤ z.toInt) ∧ q_F (z.toInt ≤ 1) ∧ q_Wd D g (va_A ws sz) s ws H locs ∧ lv_has ls 6 [(0, .ref (q 116)), (1, .int x2), (2, .int x3), (3, .int x4)] ∧ F_NM_told_J18 x2 x3 x4 t0_0 t0_1 t0_2 t1_0 t1_1 t1_2 t1_3 t1_4 t1_5 t1_6 t2_0 t3_0 t4_0 t4_1 t4_2 t4_3 t4_4 t4_5 t4_6 t4_7 t4_8 t4_9 t4_10 t5_0 t6_0 t7_0 t8_0 t9_0 t9_1 t9_2 t9_3 t9_4 t9_5 t9_6 t9_7 t9_8 t9_9 t9_10 t10_0 t11_0 t12_0 t13_0 t14_0 t15_0 t16_0 z = (F_NM_told x2 x3 x4 t0_0 t0_1 t0_2 t1_0 t1_1 t1_2 t1_3 t1_4 t1_5 t1_6 t2_0 t3_0 t4_0 t4_1 t4_2 t4_3 t4_4 t4_5 t4_6 t4_7 t4_8 t4_9 t4_10 t5_0 t6_0 t7_0 t8_0 t9_0 t9_1 t9_2 t9_3 t9_4 t9_5 t9_6 t9_7 t9_8 t9_9 t9_10 t10_0 t11_0 t12_0 t13_0 t14_0 t15_0 t16_0) ∧ True ∧ S_NM_told_J18 x2 x3 x4 t0_0 t0_1 t0_2 t1_0 t1_1 t1_2 t1_3 t1_4 t1_5 t1_6 t2_0 t3_0 t4_0 t4_1 t4_2 t4_3 t4_4 t4_5 t4_6 t4_7 t4_8 t4_9 t4_10 t5_0 t6_0 t7_0 t8_0 t9_0 t9_1 t9_2 t9_3 t9_4 t9_5 t9_6 t9_7 t9_8 t9_9 t9_10 t10_0 t11_0 t12_0 t13_0 t14_0 t15_0 t16_0 z) (fun z => [.int z, .ref (q 116)]) 18 0 0 ?_ ?_
  ·
    rintro lx94 H locs ls _ hZ9
    obtain ⟨i113, hZ9⟩ := hZ9
    obtain ⟨i114, hZ9⟩ := hZ9
    obtain ⟨V, hZ9⟩ := hZ9
    obtain ⟨hl, hZ9⟩ := hZ9
    obtain ⟨hR115, hS116⟩ := hZ9
    replace i113 : q_F (0 ≤ lx94.toInt) := i113
    replace i114 : q_F (lx94.toInt ≤ 1) := i114
    replace hl : lv_has ls 6 [(0, .ref (q 116)), (1, .int x2), (2, .int x3), (3, .int x4)] := hl
    refine q_put (ci := 12) (j := 0) (v := .int lx94) (ty := .int) C0 V i_NM o_NM n_NM rfl rfl hT0 (by decide) w_2298 rfl rfl rfl rfl (Nat.le_of_ble_eq_true rfl) d_14_17_18 (fun H locs w120 hu121 hT0 V => ?_)
    replace hT0 : w120[116]? = (some (q 116, .inr (12, [.int lx94, .ref (q 117), .int t0_1, .ref (q 118), .int t0_2, .ref (q 119), .ref (q 134), .ref (q 145), .ref (q 153), .ref (q 157), .ref (q 167), .ref (q 168)])) : Option (Nat × va_E)) := hT0
    replace hI := n_p116 hI hu121 hT0 (by first | with_reducible exact q_fe btt0_1 | exact ⟨(by have t1 : 0 ≤ t0_1.toInt ∧ t0_1.toInt ≤ 4100 := btt0_1; omega), (by have t1 : 0 ≤ t0_1.toInt ∧ t0_1.toInt ≤ 4100 := btt0_1; omega)⟩) (by first | with_reducible exact q_fe btt0_2 | exact ⟨(by have t1 : 0 ≤ t0_2.toInt ∧ t0_2.toInt ≤ 12200 := btt0_2; omega), (by have t1 : 0 ≤ t0_2.toInt ∧ t0_2.toInt ≤ 12200 := btt0_2; omega)⟩)
    replace hT1 := (hu121 _ (by decide)).trans hT1
    replace hT2 := (hu121 _ (by decide)).trans hT2
    replace hT3 := (hu121 _ (by decide)).trans hT3
    replace hT4 := (hu121 _ (by decide)).trans hT4
    replace hT5 := (hu121 _ (by decide)).trans hT5
    replace hT6 := (hu121 _ (by decide)).trans hT6
    replace hT7 := (hu121 _ (by decide)).trans hT7
    replace hT8 := (hu121 _ (by decide)).trans hT8
    replace hT9 := (hu121 _ (by decide)).trans hT9
    replace hT10 := (hu121 _ (by decide)).trans hT10
    replace hT11 := (hu121 _ (by decide)).trans hT11
    replace hT12 := (hu121 _ (by decide)).trans hT12
    replace hT13 := (hu121 _ (by decide)).trans hT13
    replace hT14 := (hu121 _ (by decide)).trans hT14
    replace hT15 := (hu121 _ (by decide)).trans hT15
    replace hT16 := (hu121 _ (by decide)).trans hT16
    replace hF := q_us hF hu121 (by simp)
    refine lv_aload_n hx hb d_14_17_21 rfl (lv_at hl 0 rfl) ?_
    refine q_get (ci := 12) (j := 0) (v := .int lx94) C0 V i_NM rfl rfl hT0 (by decide) w_2298 rfl d_14_17_22 ?_
    refine lv_if_le (tgt := 30) hx hb d_14_17_25 (by decide) (fun c122 => ?_) (fun c122 => ?_)
    ·
      have b123 : q_F (lx94.toInt ≤ 0) := (q_leI c122)
      refine lv_iload_n hx hb d_14_17_30 rfl (lv_at hl 1 rfl) ?_
      refine lv_if_ne (tgt := 59) hx hb d_14_17_31 (by decide) (fun c124 => ?_) (fun c124 => ?_)
      ·
        refine lv_iload_n hx hb d_14_17_59 rfl (lv_at hl 1 rfl) ?_
        refine lv_iconst (v := 1) hx hb d_14_17_60 (by decide) ?_
        refine lv_icmp_ne (tgt := 98) hx hb d_14_17_61 (by decide) (fun c126 => ?_) (fun c126 => ?_)
        ·
          refine lv_aload_n hx hb d_14_17_98 rfl (lv_at hl 0 rfl) ?_
          refine lv_iload_n hx hb d_14_17_99 rfl (lv_at hl 1 rfl) ?_
          refine lv_iload_n hx hb d_14_17_100 rfl (lv_at hl 2 rfl) ?_
          have ob128 : True ∧ S_NM_bitsOf x2 x3 lx94 t0_1 t0_2 t16_0 := (by have h := hS116; rw [S_NM_told_J18.eq_1] at h; rw [if_pos c122] at h; rw [if_neg c124] at h; rw [if_neg c126] at h; with_reducible exact h.2.1)
          refine q_gol V (q_runV (As := [.int x2, .int x3]) (rest := []) (d := 1) (mc := 0) (ms := 0) (ci := 12) C0 V rfl LV_NM_138 (X_NM_bitsOf l D g q w120  x2 x3 hI lx94 t0_1 t0_2 hT0 t16_0 hT16 ob128 _) rfl rfl hT0 rfl hl.1 rfl (Nat.le_of_ble_eq_true rfl) ⟨by decide, by decide⟩ ⟨Nat.le_of_ble_eq_true rfl, Nat.le_of_ble_eq_true rfl⟩ d_14_17_101) (fun j131 u129 H locs hp130 V => ?_)
          obtain ⟨rfl, hE132⟩ := hp130
          have e133 : j131 = (F_NM_bitsOf x2 x3 lx94 t0_1 t0_2 t16_0) := hE132
          refine lv_lstore (lv' := [(4, .long j131), (0, .ref (q 116)), (1, .int x2), (2, .int x3), (3, .int x4)]) hx hb d_14_17_104 hl (by decide) rfl (fun ls hl => ?_)
          refine lv_aload_n hx hb d_14_17_106 rfl (lv_at hl 1 rfl) ?_
          refine lv_iload_n hx hb d_14_17_107 rfl (lv_at hl 4 rfl) ?_
          refine lv_iconst (v := 2) hx hb d_14_17_108 (by decide) ?_
          refine q_join (X := Int32) (fun z H locs ls _ => q_F (lx94.toInt ≤ z.toInt) ∧ q_F (z.toInt ≤ lx94.toInt + 2) ∧ q_Wd D g (va_A ws sz) s w120 H locs ∧ lv_has ls 6 [(4, .long j131), (0, .ref (q 116)), (1, .int x2), (3, .int x4)] ∧ F_NM_told_J134 x2 x3 x4 t0_0 t0_1 t0_2 t1_0 t1_1 t1_2 t1_3 t1_4 t1_5 t1_6 t2_0 t3_0 t4_0 t4_1 t4_2 t4_3 t4_4 t4_5 t4_6 t4_7 t4_8 t4_9 t4_10 t5_0 t6_0 t7_0 t8_0 t9_0 t9_1 t9_2 t9_3 t9_4 t9_5 t9_6 t9_7 t9_8 t9_9 t9_10 t10_0 t11_0 t12_0 t13_0 t14_0 t15_0 t16_0 lx94 j131 z = (F_NM_told x2 x3 x4 t0_0 t0_1 t0_2 t1_0 t1_1 t1_2 t1_3 t1_4 t1_5 t1_6 t2_0 t3_0 t4_0 t4_1 t4_2 t4_3 t4_4 t4_5 t4_6 t4_7 t4_8 t4_9 t4_10 t5_0 t6_0 t7_0 t8_0 t9_0 t9_1 t9_2 t9_3 t9_4 t9_5 t9_6 t9_7 t9_8 t9_9 t9_10 t10_0 t11_0 t12_0 t13_0 t14_0 t15_0 t16_0) ∧ True ∧ S_NM_told_J134 x2 x3 x4 t0_0 t0_1 t0_2 t1_0 t1_1 t1_2 t1_3 t1_4 t1_5 t1_6 t2_0 t3_0 t4_0 t4_1 t4_2 t4_3 t4_4 t4_5 t4_6 t4_7 t4_8 t4_9 t4_10 t5_0 t6_0 t7_0 t8_0 t9_0 t9_1 t9_2 t9_3 t9_4 t9_5 t9_6 t9_7 t9_8 t9_9 t9_10 t10_0 t11_0 t12_0 t13_0 t14_0 t15_0 t16_0 lx94 j131 z) (fun z => [.int z, .ref (q 116)]) 134 0 0 ?_ ?_
          ·
            rintro lx134 H locs ls _ hZ9
            obtain ⟨i153, hZ9⟩ := hZ9
            obtain ⟨i154, hZ9⟩ := hZ9
            obtain ⟨V, hZ9⟩ := hZ9
            obtain ⟨hl, hZ9⟩ := hZ9
            obtain ⟨hR155, hS156⟩ := hZ9
            replace i153 : q_F (lx94.toInt ≤ lx134.toInt) := i153
            replace i154 : q_F (lx134.toInt ≤ lx94.toInt + 2) := i154
            replace hl : lv_has ls 6 [(4, .long j131), (0, .ref (q 116)), (1, .int x2), (3, .int x4)] := hl
            refine q_put (ci := 12) (j := 0) (v := .int lx134) (ty := .int) C0 V i_NM o_NM n_NM rfl rfl hT0 (by decide) w_2298 rfl rfl rfl rfl (Nat.le_of_ble_eq_true rfl) d_14_17_134 (fun H locs w160 hu161 hT0 V => ?_)
            replace hT0 : w160[116]? = (some (q 116, .inr (12, [.int lx134, .ref (q 117), .int t0_1, .ref (q 118), .int t0_2, .ref (q 119), .ref (q 134), .ref (q 145), .ref (q 153), .ref (q 157), .ref (q 167), .ref (q 168)])) : Option (Nat × va_E)) := hT0
            replace hI := n_p116 hI hu161 hT0 (by first | with_reducible exact q_fe btt0_1 | exact ⟨(by have t1 : 0 ≤ t0_1.toInt ∧ t0_1.toInt ≤ 4100 := btt0_1; omega), (by have t1 : 0 ≤ t0_1.toInt ∧ t0_1.toInt ≤ 4100 := btt0_1; omega)⟩) (by first | with_reducible exact q_fe btt0_2 | exact ⟨(by have t1 : 0 ≤ t0_2.toInt ∧ t0_2.toInt ≤ 12200 := btt0_2; omega), (by have t1 : 0 ≤ t0_2.toInt ∧ t0_2.toInt ≤ 12200 := btt0_2; omega)⟩)
            replace hT1 := (hu161 _ (by decide)).trans hT1
            replace hT4 := (hu161 _ (by decide)).trans hT4
            replace hT9 := (hu161 _ (by decide)).trans hT9
            replace hT10 := (hu161 _ (by decide)).trans hT10
            replace hT11 := (hu161 _ (by decide)).trans hT11
            replace hT12 := (hu161 _ (by decide)).trans hT12
            replace hT13 := (hu161 _ (by decide)).trans hT13
            replace hT14 := (hu161 _ (by decide)).trans hT14
            replace hT15 := (hu161 _ (by decide)).trans hT15
            replace hF := q_us hF hu161 (by simp)
            refine lv_aload_n hx hb d_14_17_137 rfl (lv_at hl 1 rfl) ?_
            refine q_get (ci := 12) (j := 0) (v := .int lx134) C0 V i_NM rfl rfl hT0 (by decide) w_2298 rfl d_14_17_138 ?_
            refine lv_if_le (tgt := 148) hx hb d_14_17_141 (by decide) (fun c162 => ?_) (fun c162 => ?_)
            ·
              have b163 : q_F (lx134.toInt ≤ 0) := (q_leI c162)
              refine lv_iload_n hx hb d_14_17_148 rfl (lv_at hl 3 rfl) ?_
              refine lv_if_ne (tgt := 157) hx hb d_14_17_149 (by decide) (fun c164 => ?_) (fun c164 => ?_)
              ·
                refine lv_iload_n hx hb d_14_17_157 rfl (lv_at hl 3 rfl) ?_
                refine lv_iconst (v := 1) hx hb d_14_17_158 (by decide) ?_
                refine lv_icmp_ne (tgt := 184) hx hb d_14_17_159 (by decide) (fun c166 => ?_) (fun c166 => ?_)
                ·
                  refine lv_aload_n hx hb d_14_17_184 rfl (lv_at hl 1 rfl) ?_
                  refine q_get (ci := 12) (j := 7) (v := .ref (q 145)) C0 V i_NM rfl rfl hT0 (by decide) w_2305 rfl d_14_17_185 ?_
                  refine lv_lload hx hb d_14_17_188 (lv_at hl 0 rfl) ?_
                  refine lv_iload_n hx hb d_14_17_190 rfl (lv_at hl 2 rfl) ?_
                  refine lv_iconst (v := 3) hx hb d_14_17_191 (by decide) ?_
                  refine lv_icmp_ne (tgt := 199) hx hb d_14_17_192 (by decide) (fun c168 => ?_) (fun c168 => ?_)
                  ·
                    refine lv_iconst (v := 0) hx hb d_14_17_199 (by decide) ?_
                    have ob170 : True ∧ S_FR_power j131 (0 : Int32) t9_0 t9_1 t9_2 t9_3 t9_4 t9_5 t9_6 t9_7 t9_8 t9_9 t9_10 t10_0 t11_0 t12_0 t13_0 t14_0 t15_0 := (by have h := hS156; rw [S_NM_told_J134.eq_1] at h; rw [if_pos c162] at h; rw [if_neg c164] at h; rw [if_neg c166] at h; rw [if_neg c168] at h; with_reducible exact h.2.1)
                    refine q_goi V (q_runV (As := [.long j131, .int 0]) (rest := []) (d := 5) (mc := 0) (ms := 0) (ci := 15) C0 V rfl LV_NM_145 (X_FR_power l D g q w160  j131 0 hI t9_0 t9_1 t9_2 t9_3 t9_4 t9_5 t9_6 t9_7 t9_8 t9_9 t9_10 hT9 t10_0 hT10 t11_0 hT11 t12_0 hT12 t13_0 hT13 t14_0 hT14 t15_0 hT15 ⟨(by have y0 : (0 : Int32).toInt = 0 := rfl; omega), (by have y0 : (0 : Int32).toInt = 0 := rfl; omega)⟩ ob170 _) rfl rfl hT9 rfl hl.1 rfl (Nat.le_of_ble_eq_true rfl) ⟨by decide, by decide⟩ ⟨Nat.le_of_ble_eq_true rfl, Nat.le_of_ble_eq_true rfl⟩ d_14_17_200) (fun a173 u171 H locs hp172 V => ?_)
                    obtain ⟨hI, hZ9⟩ := hp172
                    obtain ⟨hu216, hZ9⟩ := hZ9
                    obtain ⟨y175, hZ9⟩ := hZ9
                    obtain ⟨y176, hZ9⟩ := hZ9
                    obtain ⟨y177, hZ9⟩ := hZ9
                    obtain ⟨y178, hZ9⟩ := hZ9
                    obtain ⟨y179, hZ9⟩ := hZ9
                    obtain ⟨y180, hZ9⟩ := hZ9
                    obtain ⟨y181, hZ9⟩ := hZ9
                    obtain ⟨y182, hZ9⟩ := hZ9
                    obtain ⟨y183, hZ9⟩ := hZ9
                    obtain ⟨y184, hZ9⟩ := hZ9
                    obtain ⟨y185, hZ9⟩ := hZ9
                    obtain ⟨f186, hZ9⟩ := hZ9
                    obtain ⟨f188, hZ9⟩ := hZ9
                    obtain ⟨f190, hZ9⟩ := hZ9
                    obtain ⟨f192, hZ9⟩ := hZ9
                    obtain ⟨f194, hZ9⟩ := hZ9
                    obtain ⟨f196, hZ9⟩ := hZ9
                    obtain ⟨hO174, hZ9⟩ := hZ9
                    obtain ⟨hA187, hZ9⟩ := hZ9
                    obtain ⟨hA189, hZ9⟩ := hZ9
                    obtain ⟨hA191, hZ9⟩ := hZ9
                    obtain ⟨hA193, hZ9⟩ := hZ9
                    obtain ⟨hA195, hZ9⟩ := hZ9
                    obtain ⟨hA197, hZ9⟩ := hZ9
                    replace hZ9 := hZ9.2.2
                    obtain ⟨b200, hZ9⟩ := hZ9
                    obtain ⟨b201, hZ9⟩ := hZ9
                    replace hZ9 := hZ9.2.2.2.2.2.2
                    obtain ⟨b208, hZ9⟩ := hZ9
                    obtain ⟨b209, hZ9⟩ := hZ9
                    replace hZ9 := hZ9.2.2.2.2
                    obtain ⟨-, hE215⟩ := hZ9
                    replace hO174 : u171[145]? = (some (q 145, .inr (15, [.int y175, .ref (q 146), .ref (q 147), .ref (q 148), .ref (q 149), .ref (q 150), .ref (q 151), .ref (q 152), .int y176, .int y177, .int y178, .long y179, .int y180, .int y181, .long y182, .int y183, .long y184, .int y185])) : Option (Nat × va_E)) := hO174
                    replace hA187 : u171[146]? = (some (q 146, .inl (g 0, (156 : Int32).toNatClampNeg, .inl f186)) : Option (Nat × va_E)) := hA187
                    replace hA189 : u171[147]? = (some (q 147, .inl (g 0, (156 : Int32).toNatClampNeg, .inl f188)) : Option (Nat × va_E)) := hA189
                    replace hA191 : u171[148]? = (some (q 148, .inl (g 0, (1404 : Int32).toNatClampNeg, .inl f190)) : Option (Nat × va_E)) := hA191
                    replace hA193 : u171[149]? = (some (q 149, .inl (g 0, (1404 : Int32).toNatClampNeg, .inl f192)) : Option (Nat × va_E)) := hA193
                    replace hA195 : u171[150]? = (some (q 150, .inl (g 0, (1404 : Int32).toNatClampNeg, .inl f194)) : Option (Nat × va_E)) := hA195
                    replace hA197 : u171[151]? = (some (q 151, .inl (g 0, (1404 : Int32).toNatClampNeg, .inl f196)) : Option (Nat × va_E)) := hA197
                    obtain ⟨p217, e218⟩ : ∃ z, z = (F_FR_power j131 (0 : Int32) t9_0 t9_1 t9_2 t9_3 t9_4 t9_5 t9_6 t9_7 t9_8 t9_9 t9_10 t10_0 t11_0 t12_0 t13_0 t14_0 t15_0) := ⟨_, rfl⟩
                    have e219 : a173 = p217.1 := congrArg (fun z => z.1) (hE215.trans e218.symm)
                    have e220 : y175 = p217.2.1 := congrArg (fun z => z.2.1) (hE215.trans e218.symm)
                    have e221 : y176 = p217.2.2.1 := congrArg (fun z => z.2.2.1) (hE215.trans e218.symm)
                    have e222 : y177 = p217.2.2.2.1 := congrArg (fun z => z.2.2.2.1) (hE215.trans e218.symm)
                    have e223 : y178 = p217.2.2.2.2.1 := congrArg (fun z => z.2.2.2.2.1) (hE215.trans e218.symm)
                    have e224 : y179 = p217.2.2.2.2.2.1 := congrArg (fun z => z.2.2.2.2.2.1) (hE215.trans e218.symm)
                    have e225 : y180 = p217.2.2.2.2.2.2.1 := congrArg (fun z => z.2.2.2.2.2.2.1) (hE215.trans e218.symm)
                    have e226 : y181 = p217.2.2.2.2.2.2.2.1 := congrArg (fun z => z.2.2.2.2.2.2.2.1) (hE215.trans e218.symm)
                    have e227 : y182 = p217.2.2.2.2.2.2.2.2.1 := congrArg (fun z => z.2.2.2.2.2.2.2.2.1) (hE215.trans e218.symm)
                    have e228 : y183 = p217.2.2.2.2.2.2.2.2.2.1 := congrArg (fun z => z.2.2.2.2.2.2.2.2.2.1) (hE215.trans e218.symm)
                    have e229 : y184 = p217.2.2.2.2.2.2.2.2.2.2.1 := congrArg (fun z => z.2.2.2.2.2.2.2.2.2.2.1) (hE215.trans e218.symm)
                    have e230 : y185 = p217.2.2.2.2.2.2.2.2.2.2.2.1 := congrArg (fun z => z.2.2.2.2.2.2.2.2.2.2.2.1) (hE215.trans e218.symm)
                    have e231 : f186 = p217.2.2.2.2.2.2.2.2.2.2.2.2.1 := congrArg (fun z => z.2.2.2.2.2.2.2.2.2.2.2.2.1) (hE215.trans e218.symm)
                    have e232 : f188 = p217.2.2.2.2.2.2.2.2.2.2.2.2.2.1 := congrArg (fun z => z.2.2.2.2.2.2.2.2.2.2.2.2.2.1) (hE215.trans e218.symm)
                    have e233 : f190 = p217.2.2.2.2.2.2.2.2.2.2.2.2.2.2.1 := congrArg (fun z => z.2.2.2.2.2.2.2.2.2.2.2.2.2.2.1) (hE215.trans e218.symm)
                    have e234 : f192 = p217.2.2.2.2.2.2.2.2.2.2.2.2.2.2.2.1 := congrArg (fun z => z.2.2.2.2.2.2.2.2.2.2.2.2.2.2.2.1) (hE215.trans e218.symm)
                    have e235 : f194 = p217.2.2.2.2.2.2.2.2.2.2.2.2.2.2.2.2.1 := congrArg (fun z => z.2.2.2.2.2.2.2.2.2.2.2.2.2.2.2.2.1) (hE215.trans e218.symm)
                    have e236 : f196 = p217.2.2.2.2.2.2.2.2.2.2.2.2.2.2.2.2.2 := congrArg (fun z => z.2.2.2.2.2.2.2.2.2.2.2.2.2.2.2.2.2) (hE215.trans e218.symm)
                    replace b200 : q_F (0 ≤ y177.toInt) := b200
                    replace b201 : q_F (y177.toInt ≤ 1) := b201
                    replace b208 : q_F (t9_1.toInt ≤ y176.toInt) := b208
                    replace b209 : q_F (y176.toInt ≤ t9_1.toInt) := b209
                    replace hT0 := (hu216 _ (by decide)).trans hT0
                    replace hT1 := (hu216 _ (by decide)).trans hT1
                    replace hT4 := (hu216 _ (by decide)).trans hT4
                    replace hF := q_uc hF hu216 (by simp)
                    have hR237 := (show F_NM_told_c200 x2 x3 x4 t0_0 t0_1 t0_2 t1_0 t1_1 t1_2 t1_3 t1_4 t1_5 t1_6 t2_0 t3_0 t4_0 t4_1 t4_2 t4_3 t4_4 t4_5 t4_6 t4_7 t4_8 t4_9 t4_10 t5_0 t6_0 t7_0 t8_0 t9_0 t9_1 t9_2 t9_3 t9_4 t9_5 t9_6 t9_7 t9_8 t9_9 t9_10 t10_0 t11_0 t12_0 t13_0 t14_0 t15_0 t16_0 lx94 j131 lx134 p217 = (F_NM_told x2 x3 x4 t0_0 t0_1 t0_2 t1_0 t1_1 t1_2 t1_3 t1_4 t1_5 t1_6 t2_0 t3_0 t4_0 t4_1 t4_2 t4_3 t4_4 t4_5 t4_6 t4_7 t4_8 t4_9 t4_10 t5_0 t6_0 t7_0 t8_0 t9_0 t9_1 t9_2 t9_3 t9_4 t9_5 t9_6 t9_7 t9_8 t9_9 t9_10 t10_0 t11_0 t12_0 t13_0 t14_0 t15_0 t16_0) from Eq.trans (by rw [e218, F_NM_told_J134.eq_1, if_pos c162, if_neg c164, if_neg c166, if_neg c168]) hR155)
                    have hS238 := (show True ∧ S_NM_told_c200 x2 x3 x4 t0_0 t0_1 t0_2 t1_0 t1_1 t1_2 t1_3 t1_4 t1_5 t1_6 t2_0 t3_0 t4_0 t4_1 t4_2 t4_3 t4_4 t4_5 t4_6 t4_7 t4_8 t4_9 t4_10 t5_0 t6_0 t7_0 t8_0 t9_0 t9_1 t9_2 t9_3 t9_4 t9_5 t9_6 t9_7 t9_8 t9_9 t9_10 t10_0 t11_0 t12_0 t13_0 t14_0 t15_0 t16_0 lx94 j131 lx134 p217 from (by rw [e218]; have h := hS156; rw [S_NM_told_J134.eq_1] at h; rw [if_pos c162] at h; rw [if_neg c164] at h; rw [if_neg c166] at h; rw [if_neg c168] at h; replace h := q_s2 h; with_reducible exact h))
                    refine lv_i2l hx hb d_14_17_203 rfl ?_
                    obtain ⟨j242, e243⟩ := q_nm (a173.toInt64 : Int64)
                    refine q_tl (v := j242) e243 ?_
                    exact q_retl C0 V (⟨hI, hF, lx134, t1_0, t1_1, t1_2, t1_3, t1_4, t1_5, t1_6, t4_0, t4_1, t4_2, t4_3, t4_4, t4_5, t4_6, t4_7, t4_8, t4_9, t4_10, y175, y176, y177, y178, y179, y180, y181, y182, y183, y184, y185, f186, f188, f190, f192, f194, f196, hT0, hT1, hT4, hO174, hA187, hA189, hA191, hA193, hA195, hA197, (show 0 ≤ lx134.toInt from (by have t1 : 0 ≤ lx94.toInt := i113; have t2 : lx94.toInt ≤ lx134.toInt := i153; omega)), (show lx134.toInt ≤ 2 from (by first | with_reducible exact q_fe b163 | (have t1 : lx134.toInt ≤ 0 := b163; omega))), (show 0 ≤ y177.toInt from (by first | with_reducible exact q_fe b200 | (have t1 : 0 ≤ y177.toInt := b200; omega))), (show y177.toInt ≤ 1 from (by first | with_reducible exact q_fe b201 | (have t1 : y177.toInt ≤ 1 := b201; omega))), (show t1_1.toInt ≤ t1_1.toInt from (by omega)), (show t1_1.toInt ≤ t1_1.toInt from (by omega)), (show t1_2.toInt ≤ t1_2.toInt from (by omega)), (show t1_2.toInt ≤ t1_2.toInt from (by omega)), (show t1_3.toInt ≤ t1_3.toInt from (by omega)), (show t1_3.toInt ≤ t1_3.toInt from (by omega)), (show t1_4.toInt ≤ t1_4.toInt from (by omega)), (show t1_4.toInt ≤ t1_4.toInt from (by omega)), (show t1_5.toInt ≤ t1_5.toInt from (by omega)), (show t1_5.toInt ≤ t1_5.toInt from (by omega)), (show t1_6.toInt ≤ t1_6.toInt from (by omega)), (show t1_6.toInt ≤ t1_6.toInt from (by omega)), (show t4_1.toInt ≤ t4_1.toInt from (by omega)), (show t4_1.toInt ≤ t4_1.toInt from (by omega)), (show t4_2.toInt ≤ t4_2.toInt from (by omega)), (show t4_2.toInt ≤ t4_2.toInt from (by omega)), (show t4_3.toInt ≤ t4_3.toInt from (by omega)), (show t4_3.toInt ≤ t4_3.toInt from (by omega)), (show t4_4.toInt ≤ t4_4.toInt from (by omega)), (show t4_4.toInt ≤ t4_4.toInt from (by omega)), (show t4_5.toInt ≤ t4_5.toInt from (by omega)), (show t4_5.toInt ≤ t4_5.toInt from (by omega)), (show t4_6.toInt ≤ t4_6.toInt from (by omega)), (show t4_6.toInt ≤ t4_6.toInt from (by omega)), (show t4_7.toInt ≤ t4_7.toInt from (by omega)), (show t4_7.toInt ≤ t4_7.toInt from (by omega)), (show t4_8.toInt ≤ t4_8.toInt from (by omega)), (show t4_8.toInt ≤ t4_8.toInt from (by omega)), (show t4_9.toInt ≤ t4_9.toInt from (by omega)), (show t4_9.toInt ≤ t4_9.toInt from (by omega)), (show t4_10.toInt ≤ t4_10.toInt from (by omega)), (show t4_10.toInt ≤ t4_10.toInt from (by omega)), (show t9_1.toInt ≤ y176.toInt from (by first | with_reducible exact q_fe b208 | (have t1 : t9_1.toInt ≤ y176.toInt := b208; omega))), (show y176.toInt ≤ t9_1.toInt from (by first | with_reducible exact q_fe b209 | (have t1 : y176.toInt ≤ t9_1.toInt := b209; omega))), (show (j242, lx134, t1_0, t1_1, t1_2, t1_3, t1_4, t1_5, t1_6, t4_0, t4_1, t4_2, t4_3, t4_4, t4_5, t4_6, t4_7, t4_8, t4_9, t4_10, y175, y176, y177, y178, y179, y180, y181, y182, y183, y184, y185, f186, f188, f190, f192, f194, f196) = (F_NM_told x2 x3 x4 t0_0 t0_1 t0_2 t1_0 t1_1 t1_2 t1_3 t1_4 t1_5 t1_6 t2_0 t3_0 t4_0 t4_1 t4_2 t4_3 t4_4 t4_5 t4_6 t4_7 t4_8 t4_9 t4_10 t5_0 t6_0 t7_0 t8_0 t9_0 t9_1 t9_2 t9_3 t9_4 t9_5 t9_6 t9_7 t9_8 t9_9 t9_10 t10_0 t11_0 t12_0 t13_0 t14_0 t15_0 t16_0) from Eq.trans (by rw [← e243, e236, e235, e234, e233, e232, e231, e230, e229, e228, e227, e226, e225, e224, e223, e222, e221, e220, e219, F_NM_told_c200.eq_1]) hR237)⟩) d_14_17_204
                  ·
                    refine lv_iconst (v := 1) hx hb d_14_17_195 (by decide) ?_
                    refine lv_goto (tgt := 200) hx hb d_14_17_196 (by decide) ?_
                    have ob246 : True ∧ S_FR_power j131 (1 : Int32) t9_0 t9_1 t9_2 t9_3 t9_4 t9_5 t9_6 t9_7 t9_8 t9_9 t9_10 t10_0 t11_0 t12_0 t13_0 t14_0 t15_0 := (by have h := hS156; rw [S_NM_told_J134.eq_1] at h; rw [if_pos c162] at h; rw [if_neg c164] at h; rw [if_neg c166] at h; rw [if_pos c168] at h; with_reducible exact h.2.1)
                    refine q_goi V (q_runV (As := [.long j131, .int 1]) (rest := []) (d := 5) (mc := 0) (ms := 0) (ci := 15) C0 V rfl LV_NM_145 (X_FR_power l D g q w160  j131 1 hI t9_0 t9_1 t9_2 t9_3 t9_4 t9_5 t9_6 t9_7 t9_8 t9_9 t9_10 hT9 t10_0 hT10 t11_0 hT11 t12_0 hT12 t13_0 hT13 t14_0 hT14 t15_0 hT15 ⟨(by have y0 : (1 : Int32).toInt = 1 := rfl; omega), (by have y0 : (1 : Int32).toInt = 1 := rfl; omega)⟩ ob246 _) rfl rfl hT9 rfl hl.1 rfl (Nat.le_of_ble_eq_true rfl) ⟨by decide, by decide⟩ ⟨Nat.le_of_ble_eq_true rfl, Nat.le_of_ble_eq_true rfl⟩ d_14_17_200) (fun a249 u247 H locs hp248 V => ?_)
                    obtain ⟨hI, hZ9⟩ := hp248
                    obtain ⟨hu292, hZ9⟩ := hZ9
                    obtain ⟨y251, hZ9⟩ := hZ9
                    obtain ⟨y252, hZ9⟩ := hZ9
                    obtain ⟨y253, hZ9⟩ := hZ9
                    obtain ⟨y254, hZ9⟩ := hZ9
                    obtain ⟨y255, hZ9⟩ := hZ9
                    obtain ⟨y256, hZ9⟩ := hZ9
                    obtain ⟨y257, hZ9⟩ := hZ9
                    obtain ⟨y258, hZ9⟩ := hZ9
                    obtain ⟨y259, hZ9⟩ := hZ9
                    obtain ⟨y260, hZ9⟩ := hZ9
                    obtain ⟨y261, hZ9⟩ := hZ9
                    obtain ⟨f262, hZ9⟩ := hZ9
                    obtain ⟨f264, hZ9⟩ := hZ9
                    obtain ⟨f266, hZ9⟩ := hZ9
                    obtain ⟨f268, hZ9⟩ := hZ9
                    obtain ⟨f270, hZ9⟩ := hZ9
                    obtain ⟨f272, hZ9⟩ := hZ9
                    obtain ⟨hO250, hZ9⟩ := hZ9
                    obtain ⟨hA263, hZ9⟩ := hZ9
                    obtain ⟨hA265, hZ9⟩ := hZ9
                    obtain ⟨hA267, hZ9⟩ := hZ9
                    obtain ⟨hA269, hZ9⟩ := hZ9
                    obtain ⟨hA271, hZ9⟩ := hZ9
                    obtain ⟨hA273, hZ9⟩ := hZ9
                    replace hZ9 := hZ9.2.2
                    obtain ⟨b276, hZ9⟩ := hZ9
                    obtain ⟨b277, hZ9⟩ := hZ9
                    replace hZ9 := hZ9.2.2.2.2.2.2
                    obtain ⟨b284, hZ9⟩ := hZ9
                    obtain ⟨b285, hZ9⟩ := hZ9
                    replace hZ9 := hZ9.2.2.2.2
                    obtain ⟨-, hE291⟩ := hZ9
                    replace hO250 : u247[145]? = (some (q 145, .inr (15, [.int y251, .ref (q 146), .ref (q 147), .ref (q 148), .ref (q 149), .ref (q 150), .ref (q 151), .ref (q 152), .int y252, .int y253, .int y254, .long y255, .int y256, .int y257, .long y258, .int y259, .long y260, .int y261])) : Option (Nat × va_E)) := hO250
                    replace hA263 : u247[146]? = (some (q 146, .inl (g 0, (156 : Int32).toNatClampNeg, .inl f262)) : Option (Nat × va_E)) := hA263
                    replace hA265 : u247[147]? = (some (q 147, .inl (g 0, (156 : Int32).toNatClampNeg, .inl f264)) : Option (Nat × va_E)) := hA265
                    replace hA267 : u247[148]? = (some (q 148, .inl (g 0, (1404 : Int32).toNatClampNeg, .inl f266)) : Option (Nat × va_E)) := hA267
                    replace hA269 : u247[149]? = (some (q 149, .inl (g 0, (1404 : Int32).toNatClampNeg, .inl f268)) : Option (Nat × va_E)) := hA269
                    replace hA271 : u247[150]? = (some (q 150, .inl (g 0, (1404 : Int32).toNatClampNeg, .inl f270)) : Option (Nat × va_E)) := hA271
                    replace hA273 : u247[151]? = (some (q 151, .inl (g 0, (1404 : Int32).toNatClampNeg, .inl f272)) : Option (Nat × va_E)) := hA273
                    obtain ⟨p293, e294⟩ : ∃ z, z = (F_FR_power j131 (1 : Int32) t9_0 t9_1 t9_2 t9_3 t9_4 t9_5 t9_6 t9_7 t9_8 t9_9 t9_10 t10_0 t11_0 t12_0 t13_0 t14_0 t15_0) := ⟨_, rfl⟩
                    have e295 : a249 = p293.1 := congrArg (fun z => z.1) (hE291.trans e294.symm)
                    have e296 : y251 = p293.2.1 := congrArg (fun z => z.2.1) (hE291.trans e294.symm)
                    have e297 : y252 = p293.2.2.1 := congrArg (fun z => z.2.2.1) (hE291.trans e294.symm)
                    have e298 : y253 = p293.2.2.2.1 := congrArg (fun z => z.2.2.2.1) (hE291.trans e294.symm)
                    have e299 : y254 = p293.2.2.2.2.1 := congrArg (fun z => z.2.2.2.2.1) (hE291.trans e294.symm)
                    have e300 : y255 = p293.2.2.2.2.2.1 := congrArg (fun z => z.2.2.2.2.2.1) (hE291.trans e294.symm)
                    have e301 : y256 = p293.2.2.2.2.2.2.1 := congrArg (fun z => z.2.2.2.2.2.2.1) (hE291.trans e294.symm)
                    have e302 : y257 = p293.2.2.2.2.2.2.2.1 := congrArg (fun z => z.2.2.2.2.2.2.2.1) (hE291.trans e294.symm)
                    have e303 : y258 = p293.2.2.2.2.2.2.2.2.1 := congrArg (fun z => z.2.2.2.2.2.2.2.2.1) (hE291.trans e294.symm)
                    have e304 : y259 = p293.2.2.2.2.2.2.2.2.2.1 := congrArg (fun z => z.2.2.2.2.2.2.2.2.2.1) (hE291.trans e294.symm)
                    have e305 : y260 = p293.2.2.2.2.2.2.2.2.2.2.1 := congrArg (fun z => z.2.2.2.2.2.2.2.2.2.2.1) (hE291.trans e294.symm)
                    have e306 : y261 = p293.2.2.2.2.2.2.2.2.2.2.2.1 := congrArg (fun z => z.2.2.2.2.2.2.2.2.2.2.2.1) (hE291.trans e294.symm)
                    have e307 : f262 = p293.2.2.2.2.2.2.2.2.2.2.2.2.1 := congrArg (fun z => z.2.2.2.2.2.2.2.2.2.2.2.2.1) (hE291.trans e294.symm)
                    have e308 : f264 = p293.2.2.2.2.2.2.2.2.2.2.2.2.2.1 := congrArg (fun z => z.2.2.2.2.2.2.2.2.2.2.2.2.2.1) (hE291.trans e294.symm)
                    have e309 : f266 = p293.2.2.2.2.2.2.2.2.2.2.2.2.2.2.1 := congrArg (fun z => z.2.2.2.2.2.2.2.2.2.2.2.2.2.2.1) (hE291.trans e294.symm)
                    have e310 : f268 = p293.2.2.2.2.2.2.2.2.2.2.2.2.2.2.2.1 := congrArg (fun z => z.2.2.2.2.2.2.2.2.2.2.2.2.2.2.2.1) (hE291.trans e294.symm)
                    have e311 : f270 = p293.2.2.2.2.2.2.2.2.2.2.2.2.2.2.2.2.1 := congrArg (fun z => z.2.2.2.2.2.2.2.2.2.2.2.2.2.2.2.2.1) (hE291.trans e294.symm)
                    have e312 : f272 = p293.2.2.2.2.2.2.2.2.2.2.2.2.2.2.2.2.2 := congrArg (fun z => z.2.2.2.2.2.2.2.2.2.2.2.2.2.2.2.2.2) (hE291.trans e294.symm)
                    replace b276 : q_F (0 ≤ y253.toInt) := b276
                    replace b277 : q_F (y253.toInt ≤ 1) := b277
                    replace b284 : q_F (t9_1.toInt ≤ y252.toInt) := b284
                    replace b285 : q_F (y252.toInt ≤ t9_1.toInt) := b285
                    replace hT0 := (hu292 _ (by decide)).trans hT0
                    replace hT1 := (hu292 _ (by decide)).trans hT1
                    replace hT4 := (hu292 _ (by decide)).trans hT4
                    replace hF := q_uc hF hu292 (by simp)
                    have hR313 := (show F_NM_told_c200_4 x2 x3 x4 t0_0 t0_1 t0_2 t1_0 t1_1 t1_2 t1_3 t1_4 t1_5 t1_6 t2_0 t3_0 t4_0 t4_1 t4_2 t4_3 t4_4 t4_5 t4_6 t4_7 t4_8 t4_9 t4_10 t5_0 t6_0 t7_0 t8_0 t9_0 t9_1 t9_2 t9_3 t9_4 t9_5 t9_6 t9_7 t9_8 t9_9 t9_10 t10_0 t11_0 t12_0 t13_0 t14_0 t15_0 t16_0 lx94 j131 lx134 p293 = (F_NM_told x2 x3 x4 t0_0 t0_1 t0_2 t1_0 t1_1 t1_2 t1_3 t1_4 t1_5 t1_6 t2_0 t3_0 t4_0 t4_1 t4_2 t4_3 t4_4 t4_5 t4_6 t4_7 t4_8 t4_9 t4_10 t5_0 t6_0 t7_0 t8_0 t9_0 t9_1 t9_2 t9_3 t9_4 t9_5 t9_6 t9_7 t9_8 t9_9 t9_10 t10_0 t11_0 t12_0 t13_0 t14_0 t15_0 t16_0) from Eq.trans (by rw [e294, F_NM_told_J134.eq_1, if_pos c162, if_neg c164, if_neg c166, if_pos c168]) hR155)
                    have hS314 := (show True ∧ S_NM_told_c200_4 x2 x3 x4 t0_0 t0_1 t0_2 t1_0 t1_1 t1_2 t1_3 t1_4 t1_5 t1_6 t2_0 t3_0 t4_0 t4_1 t4_2 t4_3 t4_4 t4_5 t4_6 t4_7 t4_8 t4_9 t4_10 t5_0 t6_0 t7_0 t8_0 t9_0 t9_1 t9_2 t9_3 t9_4 t9_5 t9_6 t9_7 t9_8 t9_9 t9_10 t10_0 t11_0 t12_0 t13_0 t14_0 t15_0 t16_0 lx94 j131 lx134 p293 from (by rw [e294]; have h := hS156; rw [S_NM_told_J134.eq_1] at h; rw [if_pos c162] at h; rw [if_neg c164] at h; rw [if_neg c166] at h; rw [if_pos c168] at h; replace h := q_s2 h; with_reducible exact h))
                    refine lv_i2l hx hb d_14_17_203 rfl ?_
                    obtain ⟨j318, e319⟩ := q_nm (a249.toInt64 : Int64)
                    refine q_tl (v := j318) e319 ?_
                    exact q_retl C0 V (⟨hI, hF, lx134, t1_0, t1_1, t1_2, t1_3, t1_4, t1_5, t1_6, t4_0, t4_1, t4_2, t4_3, t4_4, t4_5, t4_6, t4_7, t4_8, t4_9, t4_10, y251, y252, y253, y254, y255, y256, y257, y258, y259, y260, y261, f262, f264, f266, f268, f270, f272, hT0, hT1, hT4, hO250, hA263, hA265, hA267, hA269, hA271, hA273, (show 0 ≤ lx134.toInt from (by have t1 : 0 ≤ lx94.toInt := i113; have t2 : lx94.toInt ≤ lx134.toInt := i153; omega)), (show lx134.toInt ≤ 2 from (by first | with_reducible exact q_fe b163 | (have t1 : lx134.toInt ≤ 0 := b163; omega))), (show 0 ≤ y253.toInt from (by first | with_reducible exact q_fe b276 | (have t1 : 0 ≤ y253.toInt := b276; omega))), (show y253.toInt ≤ 1 from (by first | with_reducible exact q_fe b277 | (have t1 : y253.toInt ≤ 1 := b277; omega))), (show t1_1.toInt ≤ t1_1.toInt from (by omega)), (show t1_1.toInt ≤ t1_1.toInt from (by omega)), (show t1_2.toInt ≤ t1_2.toInt from (by omega)), (show t1_2.toInt ≤ t1_2.toInt from (by omega)), (show t1_3.toInt ≤ t1_3.toInt from (by omega)), (show t1_3.toInt ≤ t1_3.toInt from (by omega)), (show t1_4.toInt ≤ t1_4.toInt from (by omega)), (show t1_4.toInt ≤ t1_4.toInt from (by omega)), (show t1_5.toInt ≤ t1_5.toInt from (by omega)), (show t1_5.toInt ≤ t1_5.toInt from (by omega)), (show t1_6.toInt ≤ t1_6.toInt from (by omega)), (show t1_6.toInt ≤ t1_6.toInt from (by omega)), (show t4_1.toInt ≤ t4_1.toInt from (by omega)), (show t4_1.toInt ≤ t4_1.toInt from (by omega)), (show t4_2.toInt ≤ t4_2.toInt from (by omega)), (show t4_2.toInt ≤ t4_2.toInt from (by omega)), (show t4_3.toInt ≤ t4_3.toInt from (by omega)), (show t4_3.toInt ≤ t4_3.toInt from (by omega)), (show t4_4.toInt ≤ t4_4.toInt from (by omega)), (show t4_4.toInt ≤ t4_4.toInt from (by omega)), (show t4_5.toInt ≤ t4_5.toInt from (by omega)), (show t4_5.toInt ≤ t4_5.toInt from (by omega)), (show t4_6.toInt ≤ t4_6.toInt from (by omega)), (show t4_6.toInt ≤ t4_6.toInt from (by omega)), (show t4_7.toInt ≤ t4_7.toInt from (by omega)), (show t4_7.toInt ≤ t4_7.toInt from (by omega)), (show t4_8.toInt ≤ t4_8.toInt from (by omega)), (show t4_8.toInt ≤ t4_8.toInt from (by omega)), (show t4_9.toInt ≤ t4_9.toInt from (by omega)), (show t4_9.toInt ≤ t4_9.toInt from (by omega)), (show t4_10.toInt ≤ t4_10.toInt from (by omega)), (show t4_10.toInt ≤ t4_10.toInt from (by omega)), (show t9_1.toInt ≤ y252.toInt from (by first | with_reducible exact q_fe b284 | (have t1 : t9_1.toInt ≤ y252.toInt := b284; omega))), (show y252.toInt ≤ t9_1.toInt from (by first | with_reducible exact q_fe b285 | (have t1 : y252.toInt ≤ t9_1.toInt := b285; omega))), (show (j318, lx134, t1_0, t1_1, t1_2, t1_3, t1_4, t1_5, t1_6, t4_0, t4_1, t4_2, t4_3, t4_4, t4_5, t4_6, t4_7, t4_8, t4_9, t4_10, y251, y252, y253, y254, y255, y256, y257, y258, y259, y260, y261, f262, f264, f266, f268, f270, f272) = (F_NM_told x2 x3 x4 t0_0 t0_1 t0_2 t1_0 t1_1 t1_2 t1_3 t1_4 t1_5 t1_6 t2_0 t3_0 t4_0 t4_1 t4_2 t4_3 t4_4 t4_5 t4_6 t4_7 t4_8 t4_9 t4_10 t5_0 t6_0 t7_0 t8_0 t9_0 t9_1 t9_2 t9_3 t9_4 t9_5 t9_6 t9_7 t9_8 t9_9 t9_10 t10_0 t11_0 t12_0 t13_0 t14_0 t15_0 t16_0) from Eq.trans (by rw [← e319, e312, e311, e310, e309, e308, e307, e306, e305, e304, e303, e302, e301, e300, e299, e298, e297, e296, e295, F_NM_told_c200_4.eq_1]) hR313)⟩) d_14_17_204
                ·
                  refine lv_aload_n hx hb d_14_17_162 rfl (lv_at hl 1 rfl) ?_
                  refine q_get (ci := 12) (j := 7) (v := .ref (q 145)) C0 V i_NM rfl rfl hT0 (by decide) w_2305 rfl d_14_17_163 ?_
                  refine lv_lload hx hb d_14_17_166 (lv_at hl 0 rfl) ?_
                  refine lv_iload_n hx hb d_14_17_168 rfl (lv_at hl 2 rfl) ?_
                  refine lv_iconst (v := 3) hx hb d_14_17_169 (by decide) ?_
                  refine lv_icmp_ne (tgt := 177) hx hb d_14_17_170 (by decide) (fun c322 => ?_) (fun c322 => ?_)
                  ·
                    refine lv_iconst (v := 0) hx hb d_14_17_177 (by decide) ?_
                    have ob324 : True ∧ S_FR_digits j131 (0 : Int32) t9_0 t9_1 t9_2 t9_3 t9_4 t9_5 t9_6 t9_7 t9_8 t9_9 t9_10 t10_0 t11_0 t12_0 t13_0 t14_0 t15_0 := (by have h := hS156; rw [S_NM_told_J134.eq_1] at h; rw [if_pos c162] at h; rw [if_neg c164] at h; rw [if_pos c166] at h; rw [if_neg c322] at h; with_reducible exact h.2.1)
                    refine q_gol V (q_runV (As := [.long j131, .int 0]) (rest := []) (d := 5) (mc := 0) (ms := 0) (ci := 15) C0 V rfl LV_NM_141 (X_FR_digits l D g q w160  j131 0 hI t9_0 t9_1 t9_2 t9_3 t9_4 t9_5 t9_6 t9_7 t9_8 t9_9 t9_10 hT9 t10_0 hT10 t11_0 hT11 t12_0 hT12 t13_0 hT13 t14_0 hT14 t15_0 hT15 ⟨(by have y0 : (0 : Int32).toInt = 0 := rfl; omega), (by have y0 : (0 : Int32).toInt = 0 := rfl; omega)⟩ ob324 _) rfl rfl hT9 rfl hl.1 rfl (Nat.le_of_ble_eq_true rfl) ⟨by decide, by decide⟩ ⟨Nat.le_of_ble_eq_true rfl, Nat.le_of_ble_eq_true rfl⟩ d_14_17_178) (fun j327 u325 H locs hp326 V => ?_)
                    obtain ⟨hI, hZ9⟩ := hp326
                    obtain ⟨hu370, hZ9⟩ := hZ9
                    obtain ⟨y329, hZ9⟩ := hZ9
                    obtain ⟨y330, hZ9⟩ := hZ9
                    obtain ⟨y331, hZ9⟩ := hZ9
                    obtain ⟨y332, hZ9⟩ := hZ9
                    obtain ⟨y333, hZ9⟩ := hZ9
                    obtain ⟨y334, hZ9⟩ := hZ9
                    obtain ⟨y335, hZ9⟩ := hZ9
                    obtain ⟨y336, hZ9⟩ := hZ9
                    obtain ⟨y337, hZ9⟩ := hZ9
                    obtain ⟨y338, hZ9⟩ := hZ9
                    obtain ⟨y339, hZ9⟩ := hZ9
                    obtain ⟨f340, hZ9⟩ := hZ9
                    obtain ⟨f342, hZ9⟩ := hZ9
                    obtain ⟨f344, hZ9⟩ := hZ9
                    obtain ⟨f346, hZ9⟩ := hZ9
                    obtain ⟨f348, hZ9⟩ := hZ9
                    obtain ⟨f350, hZ9⟩ := hZ9
                    obtain ⟨hO328, hZ9⟩ := hZ9
                    obtain ⟨hA341, hZ9⟩ := hZ9
                    obtain ⟨hA343, hZ9⟩ := hZ9
                    obtain ⟨hA345, hZ9⟩ := hZ9
                    obtain ⟨hA347, hZ9⟩ := hZ9
                    obtain ⟨hA349, hZ9⟩ := hZ9
                    obtain ⟨hA351, hZ9⟩ := hZ9
                    replace hZ9 := hZ9.2.2
                    obtain ⟨b354, hZ9⟩ := hZ9
                    obtain ⟨b355, hZ9⟩ := hZ9
                    replace hZ9 := hZ9.2.2.2.2.2.2
                    obtain ⟨b362, hZ9⟩ := hZ9
                    obtain ⟨b363, hZ9⟩ := hZ9
                    replace hZ9 := hZ9.2.2.2.2
                    obtain ⟨-, hE369⟩ := hZ9
                    replace hO328 : u325[145]? = (some (q 145, .inr (15, [.int y329, .ref (q 146), .ref (q 147), .ref (q 148), .ref (q 149), .ref (q 150), .ref (q 151), .ref (q 152), .int y330, .int y331, .int y332, .long y333, .int y334, .int y335, .long y336, .int y337, .long y338, .int y339])) : Option (Nat × va_E)) := hO328
                    replace hA341 : u325[146]? = (some (q 146, .inl (g 0, (156 : Int32).toNatClampNeg, .inl f340)) : Option (Nat × va_E)) := hA341
                    replace hA343 : u325[147]? = (some (q 147, .inl (g 0, (156 : Int32).toNatClampNeg, .inl f342)) : Option (Nat × va_E)) := hA343
                    replace hA345 : u325[148]? = (some (q 148, .inl (g 0, (1404 : Int32).toNatClampNeg, .inl f344)) : Option (Nat × va_E)) := hA345
                    replace hA347 : u325[149]? = (some (q 149, .inl (g 0, (1404 : Int32).toNatClampNeg, .inl f346)) : Option (Nat × va_E)) := hA347
                    replace hA349 : u325[150]? = (some (q 150, .inl (g 0, (1404 : Int32).toNatClampNeg, .inl f348)) : Option (Nat × va_E)) := hA349
                    replace hA351 : u325[151]? = (some (q 151, .inl (g 0, (1404 : Int32).toNatClampNeg, .inl f350)) : Option (Nat × va_E)) := hA351
                    obtain ⟨p371, e372⟩ : ∃ z, z = (F_FR_digits j131 (0 : Int32) t9_0 t9_1 t9_2 t9_3 t9_4 t9_5 t9_6 t9_7 t9_8 t9_9 t9_10 t10_0 t11_0 t12_0 t13_0 t14_0 t15_0) := ⟨_, rfl⟩
                    have e373 : j327 = p371.1 := congrArg (fun z => z.1) (hE369.trans e372.symm)
                    have e374 : y329 = p371.2.1 := congrArg (fun z => z.2.1) (hE369.trans e372.symm)
                    have e375 : y330 = p371.2.2.1 := congrArg (fun z => z.2.2.1) (hE369.trans e372.symm)
                    have e376 : y331 = p371.2.2.2.1 := congrArg (fun z => z.2.2.2.1) (hE369.trans e372.symm)
                    have e377 : y332 = p371.2.2.2.2.1 := congrArg (fun z => z.2.2.2.2.1) (hE369.trans e372.symm)
                    have e378 : y333 = p371.2.2.2.2.2.1 := congrArg (fun z => z.2.2.2.2.2.1) (hE369.trans e372.symm)
                    have e379 : y334 = p371.2.2.2.2.2.2.1 := congrArg (fun z => z.2.2.2.2.2.2.1) (hE369.trans e372.symm)
                    have e380 : y335 = p371.2.2.2.2.2.2.2.1 := congrArg (fun z => z.2.2.2.2.2.2.2.1) (hE369.trans e372.symm)
                    have e381 : y336 = p371.2.2.2.2.2.2.2.2.1 := congrArg (fun z => z.2.2.2.2.2.2.2.2.1) (hE369.trans e372.symm)
                    have e382 : y337 = p371.2.2.2.2.2.2.2.2.2.1 := congrArg (fun z => z.2.2.2.2.2.2.2.2.2.1) (hE369.trans e372.symm)
                    have e383 : y338 = p371.2.2.2.2.2.2.2.2.2.2.1 := congrArg (fun z => z.2.2.2.2.2.2.2.2.2.2.1) (hE369.trans e372.symm)
                    have e384 : y339 = p371.2.2.2.2.2.2.2.2.2.2.2.1 := congrArg (fun z => z.2.2.2.2.2.2.2.2.2.2.2.1) (hE369.trans e372.symm)
                    have e385 : f340 = p371.2.2.2.2.2.2.2.2.2.2.2.2.1 := congrArg (fun z => z.2.2.2.2.2.2.2.2.2.2.2.2.1) (hE369.trans e372.symm)
                    have e386 : f342 = p371.2.2.2.2.2.2.2.2.2.2.2.2.2.1 := congrArg (fun z => z.2.2.2.2.2.2.2.2.2.2.2.2.2.1) (hE369.trans e372.symm)
                    have e387 : f344 = p371.2.2.2.2.2.2.2.2.2.2.2.2.2.2.1 := congrArg (fun z => z.2.2.2.2.2.2.2.2.2.2.2.2.2.2.1) (hE369.trans e372.symm)
                    have e388 : f346 = p371.2.2.2.2.2.2.2.2.2.2.2.2.2.2.2.1 := congrArg (fun z => z.2.2.2.2.2.2.2.2.2.2.2.2.2.2.2.1) (hE369.trans e372.symm)
                    have e389 : f348 = p371.2.2.2.2.2.2.2.2.2.2.2.2.2.2.2.2.1 := congrArg (fun z => z.2.2.2.2.2.2.2.2.2.2.2.2.2.2.2.2.1) (hE369.trans e372.symm)
                    have e390 : f350 = p371.2.2.2.2.2.2.2.2.2.2.2.2.2.2.2.2.2 := congrArg (fun z => z.2.2.2.2.2.2.2.2.2.2.2.2.2.2.2.2.2) (hE369.trans e372.symm)
                    replace b354 : q_F (0 ≤ y331.toInt) := b354
                    replace b355 : q_F (y331.toInt ≤ 1) := b355
                    replace b362 : q_F (t9_1.toInt ≤ y330.toInt) := b362
                    replace b363 : q_F (y330.toInt ≤ t9_1.toInt) := b363
                    replace hT0 := (hu370 _ (by decide)).trans hT0
                    replace hT1 := (hu370 _ (by decide)).trans hT1
                    replace hT4 := (hu370 _ (by decide)).trans hT4
                    replace hF := q_uc hF hu370 (by simp)
                    have hR391 := (show F_NM_told_c178 x2 x3 x4 t0_0 t0_1 t0_2 t1_0 t1_1 t1_2 t1_3 t1_4 t1_5 t1_6 t2_0 t3_0 t4_0 t4_1 t4_2 t4_3 t4_4 t4_5 t4_6 t4_7 t4_8 t4_9 t4_10 t5_0 t6_0 t7_0 t8_0 t9_0 t9_1 t9_2 t9_3 t9_4 t9_5 t9_6 t9_7 t9_8 t9_9 t9_10 t10_0 t11_0 t12_0 t13_0 t14_0 t15_0 t16_0 lx94 j131 lx134 p371 = (F_NM_told x2 x3 x4 t0_0 t0_1 t0_2 t1_0 t1_1 t1_2 t1_3 t1_4 t1_5 t1_6 t2_0 t3_0 t4_0 t4_1 t4_2 t4_3 t4_4 t4_5 t4_6 t4_7 t4_8 t4_9 t4_10 t5_0 t6_0 t7_0 t8_0 t9_0 t9_1 t9_2 t9_3 t9_4 t9_5 t9_6 t9_7 t9_8 t9_9 t9_10 t10_0 t11_0 t12_0 t13_0 t14_0 t15_0 t16_0) from Eq.trans (by rw [e372, F_NM_told_J134.eq_1, if_pos c162, if_neg c164, if_pos c166, if_neg c322]) hR155)
                    have hS392 := (show True ∧ S_NM_told_c178 x2 x3 x4 t0_0 t0_1 t0_2 t1_0 t1_1 t1_2 t1_3 t1_4 t1_5 t1_6 t2_0 t3_0 t4_0 t4_1 t4_2 t4_3 t4_4 t4_5 t4_6 t4_7 t4_8 t4_9 t4_10 t5_0 t6_0 t7_0 t8_0 t9_0 t9_1 t9_2 t9_3 t9_4 t9_5 t9_6 t9_7 t9_8 t9_9 t9_10 t10_0 t11_0 t12_0 t13_0 t14_0 t15_0 t16_0 lx94 j131 lx134 p371 from (by rw [e372]; have h := hS156; rw [S_NM_told_J134.eq_1] at h; rw [if_pos c162] at h; rw [if_neg c164] at h; rw [if_pos c166] at h; rw [if_neg c322] at h; replace h := q_s2 h; with_reducible exact h))
                    refine lv_goto (tgt := 204) hx hb d_14_17_181 (by decide) ?_
                    exact q_retl C0 V (⟨hI, hF, lx134, t1_0, t1_1, t1_2, t1_3, t1_4, t1_5, t1_6, t4_0, t4_1, t4_2, t4_3, t4_4, t4_5, t4_6, t4_7, t4_8, t4_9, t4_10, y329, y330, y331, y332, y333, y334, y335, y336, y337, y338, y339, f340, f342, f344, f346, f348, f350, hT0, hT1, hT4, hO328, hA341, hA343, hA345, hA347, hA349, hA351, (show 0 ≤ lx134.toInt from (by have t1 : 0 ≤ lx94.toInt := i113; have t2 : lx94.toInt ≤ lx134.toInt := i153; omega)), (show lx134.toInt ≤ 2 from (by first | with_reducible exact q_fe b163 | (have t1 : lx134.toInt ≤ 0 := b163; omega))), (show 0 ≤ y331.toInt from (by first | with_reducible exact q_fe b354 | (have t1 : 0 ≤ y331.toInt := b354; omega))), (show y331.toInt ≤ 1 from (by first | with_reducible exact q_fe b355 | (have t1 : y331.toInt ≤ 1 := b355; omega))), (show t1_1.toInt ≤ t1_1.toInt from (by omega)), (show t1_1.toInt ≤ t1_1.toInt from (by omega)), (show t1_2.toInt ≤ t1_2.toInt from (by omega)), (show t1_2.toInt ≤ t1_2.toInt from (by omega)), (show t1_3.toInt ≤ t1_3.toInt from (by omega)), (show t1_3.toInt ≤ t1_3.toInt from (by omega)), (show t1_4.toInt ≤ t1_4.toInt from (by omega)), (show t1_4.toInt ≤ t1_4.toInt from (by omega)), (show t1_5.toInt ≤ t1_5.toInt from (by omega)), (show t1_5.toInt ≤ t1_5.toInt from (by omega)), (show t1_6.toInt ≤ t1_6.toInt from (by omega)), (show t1_6.toInt ≤ t1_6.toInt from (by omega)), (show t4_1.toInt ≤ t4_1.toInt from (by omega)), (show t4_1.toInt ≤ t4_1.toInt from (by omega)), (show t4_2.toInt ≤ t4_2.toInt from (by omega)), (show t4_2.toInt ≤ t4_2.toInt from (by omega)), (show t4_3.toInt ≤ t4_3.toInt from (by omega)), (show t4_3.toInt ≤ t4_3.toInt from (by omega)), (show t4_4.toInt ≤ t4_4.toInt from (by omega)), (show t4_4.toInt ≤ t4_4.toInt from (by omega)), (show t4_5.toInt ≤ t4_5.toInt from (by omega)), (show t4_5.toInt ≤ t4_5.toInt from (by omega)), (show t4_6.toInt ≤ t4_6.toInt from (by omega)), (show t4_6.toInt ≤ t4_6.toInt from (by omega)), (show t4_7.toInt ≤ t4_7.toInt from (by omega)), (show t4_7.toInt ≤ t4_7.toInt from (by omega)), (show t4_8.toInt ≤ t4_8.toInt from (by omega)), (show t4_8.toInt ≤ t4_8.toInt from (by omega)), (show t4_9.toInt ≤ t4_9.toInt from (by omega)), (show t4_9.toInt ≤ t4_9.toInt from (by omega)), (show t4_10.toInt ≤ t4_10.toInt from (by omega)), (show t4_10.toInt ≤ t4_10.toInt from (by omega)), (show t9_1.toInt ≤ y330.toInt from (by first | with_reducible exact q_fe b362 | (have t1 : t9_1.toInt ≤ y330.toInt := b362; omega))), (show y330.toInt ≤ t9_1.toInt from (by first | with_reducible exact q_fe b363 | (have t1 : y330.toInt ≤ t9_1.toInt := b363; omega))), (show (j327, lx134, t1_0, t1_1, t1_2, t1_3, t1_4, t1_5, t1_6, t4_0, t4_1, t4_2, t4_3, t4_4, t4_5, t4_6, t4_7, t4_8, t4_9, t4_10, y329, y330, y331, y332, y333, y334, y335, y336, y337, y338, y339, f340, f342, f344, f346, f348, f350) = (F_NM_told x2 x3 x4 t0_0 t0_1 t0_2 t1_0 t1_1 t1_2 t1_3 t1_4 t1_5 t1_6 t2_0 t3_0 t4_0 t4_1 t4_2 t4_3 t4_4 t4_5 t4_6 t4_7 t4_8 t4_9 t4_10 t5_0 t6_0 t7_0 t8_0 t9_0 t9_1 t9_2 t9_3 t9_4 t9_5 t9_6 t9_7 t9_8 t9_9 t9_10 t10_0 t11_0 t12_0 t13_0 t14_0 t15_0 t16_0) from Eq.trans (by rw [e390, e389, e388, e387, e386, e385, e384, e383, e382, e381, e380, e379, e378, e377, e376, e375, e374, e373, F_NM_told_c178.eq_1]) hR391)⟩) d_14_17_204
                  ·
                    refine lv_iconst (v := 1) hx hb d_14_17_173 (by decide) ?_
                    refine lv_goto (tgt := 178) hx hb d_14_17_174 (by decide) ?_
                    have ob397 : True ∧ S_FR_digits j131 (1 : Int32) t9_0 t9_1 t9_2 t9_3 t9_4 t9_5 t9_6 t9_7 t9_8 t9_9 t9_10 t10_0 t11_0 t12_0 t13_0 t14_0 t15_0 := (by have h := hS156; rw [S_NM_told_J134.eq_1] at h; rw [if_pos c162] at h; rw [if_neg c164] at h; rw [if_pos c166] at h; rw [if_pos c322] at h; with_reducible exact h.2.1)
                    refine q_gol V (q_runV (As := [.long j131, .int 1]) (rest := []) (d := 5) (mc := 0) (ms := 0) (ci := 15) C0 V rfl LV_NM_141 (X_FR_digits l D g q w160  j131 1 hI t9_0 t9_1 t9_2 t9_3 t9_4 t9_5 t9_6 t9_7 t9_8 t9_9 t9_10 hT9 t10_0 hT10 t11_0 hT11 t12_0 hT12 t13_0 hT13 t14_0 hT14 t15_0 hT15 ⟨(by have y0 : (1 : Int32).toInt = 1 := rfl; omega), (by have y0 : (1 : Int32).toInt = 1 := rfl; omega)⟩ ob397 _) rfl rfl hT9 rfl hl.1 rfl (Nat.le_of_ble_eq_true rfl) ⟨by decide, by decide⟩ ⟨Nat.le_of_ble_eq_true rfl, Nat.le_of_ble_eq_true rfl⟩ d_14_17_178) (fun j400 u398 H locs hp399 V => ?_)
                    obtain ⟨hI, hZ9⟩ := hp399
                    obtain ⟨hu443, hZ9⟩ := hZ9
                    obtain ⟨y402, hZ9⟩ := hZ9
                    obtain ⟨y403, hZ9⟩ := hZ9
                    obtain ⟨y404, hZ9⟩ := hZ9
                    obtain ⟨y405, hZ9⟩ := hZ9
                    obtain ⟨y406, hZ9⟩ := hZ9
                    obtain ⟨y407, hZ9⟩ := hZ9
                    obtain ⟨y408, hZ9⟩ := hZ9
                    obtain ⟨y409, hZ9⟩ := hZ9
                    obtain ⟨y410, hZ9⟩ := hZ9
                    obtain ⟨y411, hZ9⟩ := hZ9
                    obtain ⟨y412, hZ9⟩ := hZ9
                    obtain ⟨f413, hZ9⟩ := hZ9
                    obtain ⟨f415, hZ9⟩ := hZ9
                    obtain ⟨f417, hZ9⟩ := hZ9
                    obtain ⟨f419, hZ9⟩ := hZ9
                    obtain ⟨f421, hZ9⟩ := hZ9
                    obtain ⟨f423, hZ9⟩ := hZ9
                    obtain ⟨hO401, hZ9⟩ := hZ9
                    obtain ⟨hA414, hZ9⟩ := hZ9
                    obtain ⟨hA416, hZ9⟩ := hZ9
                    obtain ⟨hA418, hZ9⟩ := hZ9
                    obtain ⟨hA420, hZ9⟩ := hZ9
                    obtain ⟨hA422, hZ9⟩ := hZ9
                    obtain ⟨hA424, hZ9⟩ := hZ9
                    replace hZ9 := hZ9.2.2
                    obtain ⟨b427, hZ9⟩ := hZ9
                    obtain ⟨b428, hZ9⟩ := hZ9
                    replace hZ9 := hZ9.2.2.2.2.2.2
                    obtain ⟨b435, hZ9⟩ := hZ9
                    obtain ⟨b436, hZ9⟩ := hZ9
                    replace hZ9 := hZ9.2.2.2.2
                    obtain ⟨-, hE442⟩ := hZ9
                    replace hO401 : u398[145]? = (some (q 145, .inr (15, [.int y402, .ref (q 146), .ref (q 147), .ref (q 148), .ref (q 149), .ref (q 150), .ref (q 151), .ref (q 152), .int y403, .int y404, .int y405, .long y406, .int y407, .int y408, .long y409, .int y410, .long y411, .int y412])) : Option (Nat × va_E)) := hO401
                    replace hA414 : u398[146]? = (some (q 146, .inl (g 0, (156 : Int32).toNatClampNeg, .inl f413)) : Option (Nat × va_E)) := hA414
                    replace hA416 : u398[147]? = (some (q 147, .inl (g 0, (156 : Int32).toNatClampNeg, .inl f415)) : Option (Nat × va_E)) := hA416
                    replace hA418 : u398[148]? = (some (q 148, .inl (g 0, (1404 : Int32).toNatClampNeg, .inl f417)) : Option (Nat × va_E)) := hA418
                    replace hA420 : u398[149]? = (some (q 149, .inl (g 0, (1404 : Int32).toNatClampNeg, .inl f419)) : Option (Nat × va_E)) := hA420
                    replace hA422 : u398[150]? = (some (q 150, .inl (g 0, (1404 : Int32).toNatClampNeg, .inl f421)) : Option (Nat × va_E)) := hA422
                    replace hA424 : u398[151]? = (some (q 151, .inl (g 0, (1404 : Int32).toNatClampNeg, .inl f423)) : Option (Nat × va_E)) := hA424
                    obtain ⟨p444, e445⟩ : ∃ z, z = (F_FR_digits j131 (1 : Int32) t9_0 t9_1 t9_2 t9_3 t9_4 t9_5 t9_6 t9_7 t9_8 t9_9 t9_10 t10_0 t11_0 t12_0 t13_0 t14_0 t15_0) := ⟨_, rfl⟩
                    have e446 : j400 = p444.1 := congrArg (fun z => z.1) (hE442.trans e445.symm)
                    have e447 : y402 = p444.2.1 := congrArg (fun z => z.2.1) (hE442.trans e445.symm)
                    have e448 : y403 = p444.2.2.1 := congrArg (fun z => z.2.2.1) (hE442.trans e445.symm)
                    have e449 : y404 = p444.2.2.2.1 := congrArg (fun z => z.2.2.2.1) (hE442.trans e445.symm)
                    have e450 : y405 = p444.2.2.2.2.1 := congrArg (fun z => z.2.2.2.2.1) (hE442.trans e445.symm)
                    have e451 : y406 = p444.2.2.2.2.2.1 := congrArg (fun z => z.2.2.2.2.2.1) (hE442.trans e445.symm)
                    have e452 : y407 = p444.2.2.2.2.2.2.1 := congrArg (fun z => z.2.2.2.2.2.2.1) (hE442.trans e445.symm)
                    have e453 : y408 = p444.2.2.2.2.2.2.2.1 := congrArg (fun z => z.2.2.2.2.2.2.2.1) (hE442.trans e445.symm)
                    have e454 : y409 = p444.2.2.2.2.2.2.2.2.1 := congrArg (fun z => z.2.2.2.2.2.2.2.2.1) (hE442.trans e445.symm)
                    have e455 : y410 = p444.2.2.2.2.2.2.2.2.2.1 := congrArg (fun z => z.2.2.2.2.2.2.2.2.2.1) (hE442.trans e445.symm)
                    have e456 : y411 = p444.2.2.2.2.2.2.2.2.2.2.1 := congrArg (fun z => z.2.2.2.2.2.2.2.2.2.2.1) (hE442.trans e445.symm)
                    have e457 : y412 = p444.2.2.2.2.2.2.2.2.2.2.2.1 := congrArg (fun z => z.2.2.2.2.2.2.2.2.2.2.2.1) (hE442.trans e445.symm)
                    have e458 : f413 = p444.2.2.2.2.2.2.2.2.2.2.2.2.1 := congrArg (fun z => z.2.2.2.2.2.2.2.2.2.2.2.2.1) (hE442.trans e445.symm)
                    have e459 : f415 = p444.2.2.2.2.2.2.2.2.2.2.2.2.2.1 := congrArg (fun z => z.2.2.2.2.2.2.2.2.2.2.2.2.2.1) (hE442.trans e445.symm)
                    have e460 : f417 = p444.2.2.2.2.2.2.2.2.2.2.2.2.2.2.1 := congrArg (fun z => z.2.2.2.2.2.2.2.2.2.2.2.2.2.2.1) (hE442.trans e445.symm)
                    have e461 : f419 = p444.2.2.2.2.2.2.2.2.2.2.2.2.2.2.2.1 := congrArg (fun z => z.2.2.2.2.2.2.2.2.2.2.2.2.2.2.2.1) (hE442.trans e445.symm)
                    have e462 : f421 = p444.2.2.2.2.2.2.2.2.2.2.2.2.2.2.2.2.1 := congrArg (fun z => z.2.2.2.2.2.2.2.2.2.2.2.2.2.2.2.2.1) (hE442.trans e445.symm)
                    have e463 : f423 = p444.2.2.2.2.2.2.2.2.2.2.2.2.2.2.2.2.2 := congrArg (fun z => z.2.2.2.2.2.2.2.2.2.2.2.2.2.2.2.2.2) (hE442.trans e445.symm)
                    replace b427 : q_F (0 ≤ y404.toInt) := b427
                    replace b428 : q_F (y404.toInt ≤ 1) := b428
                    replace b435 : q_F (t9_1.toInt ≤ y403.toInt) := b435
                    replace b436 : q_F (y403.toInt ≤ t9_1.toInt) := b436
                    replace hT0 := (hu443 _ (by decide)).trans hT0
                    replace hT1 := (hu443 _ (by decide)).trans hT1
                    replace hT4 := (hu443 _ (by decide)).trans hT4
                    replace hF := q_uc hF hu443 (by simp)
                    have hR464 := (show F_NM_told_c178_6 x2 x3 x4 t0_0 t0_1 t0_2 t1_0 t1_1 t1_2 t1_3 t1_4 t1_5 t1_6 t2_0 t3_0 t4_0 t4_1 t4_2 t4_3 t4_4 t4_5 t4_6 t4_7 t4_8 t4_9 t4_10 t5_0 t6_0 t7_0 t8_0 t9_0 t9_1 t9_2 t9_3 t9_4 t9_5 t9_6 t9_7 t9_8 t9_9 t9_10 t10_0 t11_0 t12_0 t13_0 t14_0 t15_0 t16_0 lx94 j131 lx134 p444 = (F_NM_told x2 x3 x4 t0_0 t0_1 t0_2 t1_0 t1_1 t1_2 t1_3 t1_4 t1_5 t1_6 t2_0 t3_0 t4_0 t4_1 t4_2 t4_3 t4_4 t4_5 t4_6 t4_7 t4_8 t4_9 t4_10 t5_0 t6_0 t7_0 t8_0 t9_0 t9_1 t9_2 t9_3 t9_4 t9_5 t9_6 t9_7 t9_8 t9_9 t9_10 t10_0 t11_0 t12_0 t13_0 t14_0 t15_0 t16_0) from Eq.trans (by rw [e445, F_NM_told_J134.eq_1, if_pos c162, if_neg c164, if_pos c166, if_pos c322]) hR155)
                    have hS465 := (show True ∧ S_NM_told_c178_6 x2 x3 x4 t0_0 t0_1 t0_2 t1_0 t1_1 t1_2 t1_3 t1_4 t1_5 t1_6 t2_0 t3_0 t4_0 t4_1 t4_2 t4_3 t4_4 t4_5 t4_6 t4_7 t4_8 t4_9 t4_10 t5_0 t6_0 t7_0 t8_0 t9_0 t9_1 t9_2 t9_3 t9_4 t9_5 t9_6 t9_7 t9_8 t9_9 t9_10 t10_0 t11_0 t12_0 t13_0 t14_0 t15_0 t16_0 lx94 j131 lx134 p444 from (by rw [e445]; have h := hS156; rw [S_NM_told_J134.eq_1] at h; rw [if_pos c162] at h; rw [if_neg c164] at h; rw [if_pos c166] at h; rw [if_pos c322] at h; replace h := q_s2 h; with_reducible exact h))
                    refine lv_goto (tgt := 204) hx hb d_14_17_181 (by decide) ?_
                    exact q_retl C0 V (⟨hI, hF, lx134, t1_0, t1_1, t1_2, t1_3, t1_4, t1_5, t1_6, t4_0, t4_1, t4_2, t4_3, t4_4, t4_5, t4_6, t4_7, t4_8, t4_9, t4_10, y402, y403, y404, y405, y406, y407, y408, y409, y410, y411, y412, f413, f415, f417, f419, f421, f423, hT0, hT1, hT4, hO401, hA414, hA416, hA418, hA420, hA422, hA424, (show 0 ≤ lx134.toInt from (by have t1 : 0 ≤ lx94.toInt := i113; have t2 : lx94.toInt ≤ lx134.toInt := i153; omega)), (show lx134.toInt ≤ 2 from (by first | with_reducible exact q_fe b163 | (have t1 : lx134.toInt ≤ 0 := b163; omega))), (show 0 ≤ y404.toInt from (by first | with_reducible exact q_fe b427 | (have t1 : 0 ≤ y404.toInt := b427; omega))), (show y404.toInt ≤ 1 from (by first | with_reducible exact q_fe b428 | (have t1 : y404.toInt ≤ 1 := b428; omega))), (show t1_1.toInt ≤ t1_1.toInt from (by omega)), (show t1_1.toInt ≤ t1_1.toInt from (by omega)), (show t1_2.toInt ≤ t1_2.toInt from (by omega)), (show t1_2.toInt ≤ t1_2.toInt from (by omega)), (show t1_3.toInt ≤ t1_3.toInt from (by omega)), (show t1_3.toInt ≤ t1_3.toInt from (by omega)), (show t1_4.toInt ≤ t1_4.toInt from (by omega)), (show t1_4.toInt ≤ t1_4.toInt from (by omega)), (show t1_5.toInt ≤ t1_5.toInt from (by omega)), (show t1_5.toInt ≤ t1_5.toInt from (by omega)), (show t1_6.toInt ≤ t1_6.toInt from (by omega)), (show t1_6.toInt ≤ t1_6.toInt from (by omega)), (show t4_1.toInt ≤ t4_1.toInt from (by omega)), (show t4_1.toInt ≤ t4_1.toInt from (by omega)), (show t4_2.toInt ≤ t4_2.toInt from (by omega)), (show t4_2.toInt ≤ t4_2.toInt from (by omega)), (show t4_3.toInt ≤ t4_3.toInt from (by omega)), (show t4_3.toInt ≤ t4_3.toInt from (by omega)), (show t4_4.toInt ≤ t4_4.toInt from (by omega)), (show t4_4.toInt ≤ t4_4.toInt from (by omega)), (show t4_5.toInt ≤ t4_5.toInt from (by omega)), (show t4_5.toInt ≤ t4_5.toInt from (by omega)), (show t4_6.toInt ≤ t4_6.toInt from (by omega)), (show t4_6.toInt ≤ t4_6.toInt from (by omega)), (show t4_7.toInt ≤ t4_7.toInt from (by omega)), (show t4_7.toInt ≤ t4_7.toInt from (by omega)), (show t4_8.toInt ≤ t4_8.toInt from (by omega)), (show t4_8.toInt ≤ t4_8.toInt from (by omega)), (show t4_9.toInt ≤ t4_9.toInt from (by omega)), (show t4_9.toInt ≤ t4_9.toInt from (by omega)), (show t4_10.toInt ≤ t4_10.toInt from (by omega)), (show t4_10.toInt ≤ t4_10.toInt from (by omega)), (show t9_1.toInt ≤ y403.toInt from (by first | with_reducible exact q_fe b435 | (have t1 : t9_1.toInt ≤ y403.toInt := b435; omega))), (show y403.toInt ≤ t9_1.toInt from (by first | with_reducible exact q_fe b436 | (have t1 : y403.toInt ≤ t9_1.toInt := b436; omega))), (show (j400, lx134, t1_0, t1_1, t1_2, t1_3, t1_4, t1_5, t1_6, t4_0, t4_1, t4_2, t4_3, t4_4, t4_5, t4_6, t4_7, t4_8, t4_9, t4_10, y402, y403, y404, y405, y406, y407, y408, y409, y410, y411, y412, f413, f415, f417, f419, f421, f423) = (F_NM_told x2 x3 x4 t0_0 t0_1 t0_2 t1_0 t1_1 t1_2 t1_3 t1_4 t1_5 t1_6 t2_0 t3_0 t4_0 t4_1 t4_2 t4_3 t4_4 t4_5 t4_6 t4_7 t4_8 t4_9 t4_10 t5_0 t6_0 t7_0 t8_0 t9_0 t9_1 t9_2 t9_3 t9_4 t9_5 t9_6 t9_7 t9_8 t9_9 t9_10 t10_0 t11_0 t12_0 t13_0 t14_0 t15_0 t16_0) from Eq.trans (by rw [e463, e462, e461, e460, e459, e458, e457, e456, e455, e454, e453, e452, e451, e450, e449, e448, e447, e446, F_NM_told_c178_6.eq_1]) hR464)⟩) d_14_17_204
              ·
                refine lv_lload hx hb d_14_17_152 (lv_at hl 0 rfl) ?_
                refine lv_goto (tgt := 204) hx hb d_14_17_154 (by decide) ?_
                exact q_retl C0 V (⟨hI, hF, lx134, t1_0, t1_1, t1_2, t1_3, t1_4, t1_5, t1_6, t4_0, t4_1, t4_2, t4_3, t4_4, t4_5, t4_6, t4_7, t4_8, t4_9, t4_10, t9_0, t9_1, t9_2, t9_3, t9_4, t9_5, t9_6, t9_7, t9_8, t9_9, t9_10, t10_0, t11_0, t12_0, t13_0, t14_0, t15_0, hT0, hT1, hT4, hT9, hT10, hT11, hT12, hT13, hT14, hT15, (show 0 ≤ lx134.toInt from (by have t1 : 0 ≤ lx94.toInt := i113; have t2 : lx94.toInt ≤ lx134.toInt := i153; omega)), (show lx134.toInt ≤ 2 from (by first | with_reducible exact q_fe b163 | (have t1 : lx134.toInt ≤ 0 := b163; omega))), (show 0 ≤ t9_2.toInt from (by first | with_reducible exact (q_fe btt9_2).2 | with_reducible exact (q_fe btt9_2).1 | (have t1 : 0 ≤ t9_2.toInt ∧ t9_2.toInt ≤ 1 := btt9_2; omega))), (show t9_2.toInt ≤ 1 from (by first | with_reducible exact (q_fe btt9_2).2 | with_reducible exact (q_fe btt9_2).1 | (have t1 : 0 ≤ t9_2.toInt ∧ t9_2.toInt ≤ 1 := btt9_2; omega))), (show t1_1.toInt ≤ t1_1.toInt from (by omega)), (show t1_1.toInt ≤ t1_1.toInt from (by omega)), (show t1_2.toInt ≤ t1_2.toInt from (by omega)), (show t1_2.toInt ≤ t1_2.toInt from (by omega)), (show t1_3.toInt ≤ t1_3.toInt from (by omega)), (show t1_3.toInt ≤ t1_3.toInt from (by omega)), (show t1_4.toInt ≤ t1_4.toInt from (by omega)), (show t1_4.toInt ≤ t1_4.toInt from (by omega)), (show t1_5.toInt ≤ t1_5.toInt from (by omega)), (show t1_5.toInt ≤ t1_5.toInt from (by omega)), (show t1_6.toInt ≤ t1_6.toInt from (by omega)), (show t1_6.toInt ≤ t1_6.toInt from (by omega)), (show t4_1.toInt ≤ t4_1.toInt from (by omega)), (show t4_1.toInt ≤ t4_1.toInt from (by omega)), (show t4_2.toInt ≤ t4_2.toInt from (by omega)), (show t4_2.toInt ≤ t4_2.toInt from (by omega)), (show t4_3.toInt ≤ t4_3.toInt from (by omega)), (show t4_3.toInt ≤ t4_3.toInt from (by omega)), (show t4_4.toInt ≤ t4_4.toInt from (by omega)), (show t4_4.toInt ≤ t4_4.toInt from (by omega)), (show t4_5.toInt ≤ t4_5.toInt from (by omega)), (show t4_5.toInt ≤ t4_5.toInt from (by omega)), (show t4_6.toInt ≤ t4_6.toInt from (by omega)), (show t4_6.toInt ≤ t4_6.toInt from (by omega)), (show t4_7.toInt ≤ t4_7.toInt from (by omega)), (show t4_7.toInt ≤ t4_7.toInt from (by omega)), (show t4_8.toInt ≤ t4_8.toInt from (by omega)), (show t4_8.toInt ≤ t4_8.toInt from (by omega)), (show t4_9.toInt ≤ t4_9.toInt from (by omega)), (show t4_9.toInt ≤ t4_9.toInt from (by omega)), (show t4_10.toInt ≤ t4_10.toInt from (by omega)), (show t4_10.toInt ≤ t4_10.toInt from (by omega)), (show t9_1.toInt ≤ t9_1.toInt from (by omega)), (show t9_1.toInt ≤ t9_1.toInt from (by omega)), (show (j131, lx134, t1_0, t1_1, t1_2, t1_3, t1_4, t1_5, t1_6, t4_0, t4_1, t4_2, t4_3, t4_4, t4_5, t4_6, t4_7, t4_8, t4_9, t4_10, t9_0, t9_1, t9_2, t9_3, t9_4, t9_5, t9_6, t9_7, t9_8, t9_9, t9_10, t10_0, t11_0, t12_0, t13_0, t14_0, t15_0) = (F_NM_told x2 x3 x4 t0_0 t0_1 t0_2 t1_0 t1_1 t1_2 t1_3 t1_4 t1_5 t1_6 t2_0 t3_0 t4_0 t4_1 t4_2 t4_3 t4_4 t4_5 t4_6 t4_7 t4_8 t4_9 t4_10 t5_0 t6_0 t7_0 t8_0 t9_0 t9_1 t9_2 t9_3 t9_4 t9_5 t9_6 t9_7 t9_8 t9_9 t9_10 t10_0 t11_0 t12_0 t13_0 t14_0 t15_0 t16_0) from Eq.trans (by rw [F_NM_told_J134.eq_1, if_pos c162, if_pos c164]) hR155)⟩) d_14_17_204
            ·
              have b470 : q_F (0 < lx134.toInt) := (q_nleI c162)
              refine lv_lconst (v := 0) hx hb d_14_17_144 (by decide) ?_
              refine lv_goto (tgt := 204) hx hb d_14_17_145 (by decide) ?_
              exact q_retl C0 V (⟨hI, hF, lx134, t1_0, t1_1, t1_2, t1_3, t1_4, t1_5, t1_6, t4_0, t4_1, t4_2, t4_3, t4_4, t4_5, t4_6, t4_7, t4_8, t4_9, t4_10, t9_0, t9_1, t9_2, t9_3, t9_4, t9_5, t9_6, t9_7, t9_8, t9_9, t9_10, t10_0, t11_0, t12_0, t13_0, t14_0, t15_0, hT0, hT1, hT4, hT9, hT10, hT11, hT12, hT13, hT14, hT15, (show 0 ≤ lx134.toInt from (by have z48 : (0 : Int64).toInt = 0 := rfl; have t1 : 0 < lx134.toInt := b470; omega)), (show lx134.toInt ≤ 2 from (by have z48 : (0 : Int64).toInt = 0 := rfl; have t1 : lx94.toInt ≤ 0 := b123; have t2 : lx134.toInt ≤ lx94.toInt + 2 := i154; omega)), (show 0 ≤ t9_2.toInt from (by have z48 : (0 : Int64).toInt = 0 := rfl; have t1 : 0 ≤ t9_2.toInt ∧ t9_2.toInt ≤ 1 := btt9_2; omega)), (show t9_2.toInt ≤ 1 from (by have z48 : (0 : Int64).toInt = 0 := rfl; have t1 : 0 ≤ t9_2.toInt ∧ t9_2.toInt ≤ 1 := btt9_2; omega)), (show t1_1.toInt ≤ t1_1.toInt from (by have z48 : (0 : Int64).toInt = 0 := rfl; omega)), (show t1_1.toInt ≤ t1_1.toInt from (by have z48 : (0 : Int64).toInt = 0 := rfl; omega)), (show t1_2.toInt ≤ t1_2.toInt from (by have z48 : (0 : Int64).toInt = 0 := rfl; omega)), (show t1_2.toInt ≤ t1_2.toInt from (by have z48 : (0 : Int64).toInt = 0 := rfl; omega)), (show t1_3.toInt ≤ t1_3.toInt from (by have z48 : (0 : Int64).toInt = 0 := rfl; omega)), (show t1_3.toInt ≤ t1_3.toInt from (by have z48 : (0 : Int64).toInt = 0 := rfl; omega)), (show t1_4.toInt ≤ t1_4.toInt from (by have z48 : (0 : Int64).toInt = 0 := rfl; omega)), (show t1_4.toInt ≤ t1_4.toInt from (by have z48 : (0 : Int64).toInt = 0 := rfl; omega)), (show t1_5.toInt ≤ t1_5.toInt from (by have z48 : (0 : Int64).toInt = 0 := rfl; omega)), (show t1_5.toInt ≤ t1_5.toInt from (by have z48 : (0 : Int64).toInt = 0 := rfl; omega)), (show t1_6.toInt ≤ t1_6.toInt from (by have z48 : (0 : Int64).toInt = 0 := rfl; omega)), (show t1_6.toInt ≤ t1_6.toInt from (by have z48 : (0 : Int64).toInt = 0 := rfl; omega)), (show t4_1.toInt ≤ t4_1.toInt from (by have z48 : (0 : Int64).toInt = 0 := rfl; omega)), (show t4_1.toInt ≤ t4_1.toInt from (by have z48 : (0 : Int64).toInt = 0 := rfl; omega)), (show t4_2.toInt ≤ t4_2.toInt from (by have z48 : (0 : Int64).toInt = 0 := rfl; omega)), (show t4_2.toInt ≤ t4_2.toInt from (by have z48 : (0 : Int64).toInt = 0 := rfl; omega)), (show t4_3.toInt ≤ t4_3.toInt from (by have z48 : (0 : Int64).toInt = 0 := rfl; omega)), (show t4_3.toInt ≤ t4_3.toInt from (by have z48 : (0 : Int64).toInt = 0 := rfl; omega)), (show t4_4.toInt ≤ t4_4.toInt from (by have z48 : (0 : Int64).toInt = 0 := rfl; omega)), (show t4_4.toInt ≤ t4_4.toInt from (by have z48 : (0 : Int64).toInt = 0 := rfl; omega)), (show t4_5.toInt ≤ t4_5.toInt from (by have z48 : (0 : Int64).toInt = 0 := rfl; omega)), (show t4_5.toInt ≤ t4_5.toInt from (by have z48 : (0 : Int64).toInt = 0 := rfl; omega)), (show t4_6.toInt ≤ t4_6.toInt from (by have z48 : (0 : Int64).toInt = 0 := rfl; omega)), (show t4_6.toInt ≤ t4_6.toInt from (by have z48 : (0 : Int64).toInt = 0 := rfl; omega)), (show t4_7.toInt ≤ t4_7.toInt from (by have z48 : (0 : Int64).toInt = 0 := rfl; omega)), (show t4_7.toInt ≤ t4_7.toInt from (by have z48 : (0 : Int64).toInt = 0 := rfl; omega)), (show t4_8.toInt ≤ t4_8.toInt from (by have z48 : (0 : Int64).toInt = 0 := rfl; omega)), (show t4_8.toInt ≤ t4_8.toInt from (by have z48 : (0 : Int64).toInt = 0 := rfl; omega)), (show t4_9.toInt ≤ t4_9.toInt from (by have z48 : (0 : Int64).toInt = 0 := rfl; omega)), (show t4_9.toInt ≤ t4_9.toInt from (by have z48 : (0 : Int64).toInt = 0 := rfl; omega)), (show t4_10.toInt ≤ t4_10.toInt from (by have z48 : (0 : Int64).toInt = 0 := rfl; omega)), (show t4_10.toInt ≤ t4_10.toInt from (by have z48 : (0 : Int64).toInt = 0 := rfl; omega)), (show t9_1.toInt ≤ t9_1.toInt from (by have z48 : (0 : Int64).toInt = 0 := rfl; omega)), (show t9_1.toInt ≤ t9_1.toInt from (by have z48 : (0 : Int64).toInt = 0 := rfl; omega)), (show ((0 : Int64), lx134, t1_0, t1_1, t1_2, t1_3, t1_4, t1_5, t1_6, t4_0, t4_1, t4_2, t4_3, t4_4, t4_5, t4_6, t4_7, t4_8, t4_9, t4_10, t9_0, t9_1, t9_2, t9_3, t9_4, t9_5, t9_6, t9_7, t9_8, t9_9, t9_10, t10_0, t11_0, t12_0, t13_0, t14_0, t15_0) = (F_NM_told x2 x3 x4 t0_0 t0_1 t0_2 t1_0 t1_1 t1_2 t1_3 t1_4 t1_5 t1_6 t2_0 t3_0 t4_0 t4_1 t4_2 t4_3 t4_4 t4_5 t4_6 t4_7 t4_8 t4_9 t4_10 t5_0 t6_0 t7_0 t8_0 t9_0 t9_1 t9_2 t9_3 t9_4 t9_5 t9_6 t9_7 t9_8 t9_9 t9_10 t10_0 t11_0 t12_0 t13_0 t14_0 t15_0 t16_0) from Eq.trans (by rw [F_NM_told_J134.eq_1, if_neg c162]) hR155)⟩) d_14_17_204
          ·
            intro J152
            refine lv_icmp_le (tgt := 116) hx hb d_14_17_109 (by decide) (fun c471 => ?_) (fun c471 => ?_)
            ·
              refine lv_iload_n hx hb d_14_17_116 rfl (lv_at hl 4 rfl) ?_
              refine q_join (X := Unit) (fun z H locs ls _ => q_Wd D g (va_A ws sz) s w120 H locs ∧ lv_has ls 6 [(4, .long j131), (0, .ref (q 116)), (1, .int x2), (3, .int x4)] ∧ F_NM_told_J133 x2 x3 x4 t0_0 t0_1 t0_2 t1_0 t1_1 t1_2 t1_3 t1_4 t1_5 t1_6 t2_0 t3_0 t4_0 t4_1 t4_2 t4_3 t4_4 t4_5 t4_6 t4_7 t4_8 t4_9 t4_10 t5_0 t6_0 t7_0 t8_0 t9_0 t9_1 t9_2 t9_3 t9_4 t9_5 t9_6 t9_7 t9_8 t9_9 t9_10 t10_0 t11_0 t12_0 t13_0 t14_0 t15_0 t16_0 lx94 j131 = (F_NM_told x2 x3 x4 t0_0 t0_1 t0_2 t1_0 t1_1 t1_2 t1_3 t1_4 t1_5 t1_6 t2_0 t3_0 t4_0 t4_1 t4_2 t4_3 t4_4 t4_5 t4_6 t4_7 t4_8 t4_9 t4_10 t5_0 t6_0 t7_0 t8_0 t9_0 t9_1 t9_2 t9_3 t9_4 t9_5 t9_6 t9_7 t9_8 t9_9 t9_10 t10_0 t11_0 t12_0 t13_0 t14_0 t15_0 t16_0) ∧ True ∧ S_NM_told_J133 x2 x3 x4 t0_0 t0_1 t0_2 t1_0 t1_1 t1_2 t1_3 t1_4 t1_5 t1_6 t2_0 t3_0 t4_0 t4_1 t4_2 t4_3 t4_4 t4_5 t4_6 t4_7 t4_8 t4_9 t4_10 t5_0 t6_0 t7_0 t8_0 t9_0 t9_1 t9_2 t9_3 t9_4 t9_5 t9_6 t9_7 t9_8 t9_9 t9_10 t10_0 t11_0 t12_0 t13_0 t14_0 t15_0 t16_0 lx94 j131) (fun z => [.ref (q 116)]) 133 0 0 ?_ ?_
              ·
                rintro _ H locs ls _ ⟨V, hl, hR491, hS492⟩
                replace hl : lv_has ls 6 [(4, .long j131), (0, .ref (q 116)), (1, .int x2), (3, .int x4)] := hl
                refine lv_iconst (v := 0) hx hb d_14_17_133 (by decide) ?_
                exact J152 ((0 : Int32)) _ _ _ w120 ⟨(show q_F (lx94.toInt ≤ 0) from (show lx94.toInt ≤ 0 from by have t1 : lx94.toInt ≤ 0 := b123; omega)), (show q_F (0 ≤ lx94.toInt + 2) from (show 0 ≤ lx94.toInt + 2 from by have t1 : 0 ≤ lx94.toInt := i113; omega)), V, q_lw hl (q_lw1 0 rfl (q_lw1 1 rfl (q_lw1 2 rfl (q_lw1 3 rfl q_lw0)))), (show F_NM_told_J134 x2 x3 x4 t0_0 t0_1 t0_2 t1_0 t1_1 t1_2 t1_3 t1_4 t1_5 t1_6 t2_0 t3_0 t4_0 t4_1 t4_2 t4_3 t4_4 t4_5 t4_6 t4_7 t4_8 t4_9 t4_10 t5_0 t6_0 t7_0 t8_0 t9_0 t9_1 t9_2 t9_3 t9_4 t9_5 t9_6 t9_7 t9_8 t9_9 t9_10 t10_0 t11_0 t12_0 t13_0 t14_0 t15_0 t16_0 lx94 j131 0 = (F_NM_told x2 x3 x4 t0_0 t0_1 t0_2 t1_0 t1_1 t1_2 t1_3 t1_4 t1_5 t1_6 t2_0 t3_0 t4_0 t4_1 t4_2 t4_3 t4_4 t4_5 t4_6 t4_7 t4_8 t4_9 t4_10 t5_0 t6_0 t7_0 t8_0 t9_0 t9_1 t9_2 t9_3 t9_4 t9_5 t9_6 t9_7 t9_8 t9_9 t9_10 t10_0 t11_0 t12_0 t13_0 t14_0 t15_0 t16_0) from Eq.trans (by rw [F_NM_told_J133.eq_1]) hR491), (show True ∧ S_NM_told_J134 x2 x3 x4 t0_0 t0_1 t0_2 t1_0 t1_1 t1_2 t1_3 t1_4 t1_5 t1_6 t2_0 t3_0 t4_0 t4_1 t4_2 t4_3 t4_4 t4_5 t4_6 t4_7 t4_8 t4_9 t4_10 t5_0 t6_0 t7_0 t8_0 t9_0 t9_1 t9_2 t9_3 t9_4 t9_5 t9_6 t9_7 t9_8 t9_9 t9_10 t10_0 t11_0 t12_0 t13_0 t14_0 t15_0 t16_0 lx94 j131 0 from (by have h := hS492; rw [S_NM_told_J133.eq_1] at h; with_reducible exact h))⟩
              ·
                intro J490
                refine lv_if_le (tgt := 133) hx hb d_14_17_117 (by decide) (fun c496 => ?_) (fun c496 => ?_)
                ·
                  exact J490 (()) _ _ _ w120 ⟨V, q_lw hl (q_lw1 0 rfl (q_lw1 1 rfl (q_lw1 2 rfl (q_lw1 4 rfl q_lw0)))), (show F_NM_told_J133 x2 x3 x4 t0_0 t0_1 t0_2 t1_0 t1_1 t1_2 t1_3 t1_4 t1_5 t1_6 t2_0 t3_0 t4_0 t4_1 t4_2 t4_3 t4_4 t4_5 t4_6 t4_7 t4_8 t4_9 t4_10 t5_0 t6_0 t7_0 t8_0 t9_0 t9_1 t9_2 t9_3 t9_4 t9_5 t9_6 t9_7 t9_8 t9_9 t9_10 t10_0 t11_0 t12_0 t13_0 t14_0 t15_0 t16_0 lx94 j131 = (F_NM_told x2 x3 x4 t0_0 t0_1 t0_2 t1_0 t1_1 t1_2 t1_3 t1_4 t1_5 t1_6 t2_0 t3_0 t4_0 t4_1 t4_2 t4_3 t4_4 t4_5 t4_6 t4_7 t4_8 t4_9 t4_10 t5_0 t6_0 t7_0 t8_0 t9_0 t9_1 t9_2 t9_3 t9_4 t9_5 t9_6 t9_7 t9_8 t9_9 t9_10 t10_0 t11_0 t12_0 t13_0 t14_0 t15_0 t16_0) from Eq.trans (by rw [e133, F_NM_told_J18.eq_1, if_pos c122, if_neg c124, if_neg c126, if_pos c471, if_pos c496]) hR115), (show True ∧ S_NM_told_J133 x2 x3 x4 t0_0 t0_1 t0_2 t1_0 t1_1 t1_2 t1_3 t1_4 t1_5 t1_6 t2_0 t3_0 t4_0 t4_1 t4_2 t4_3 t4_4 t4_5 t4_6 t4_7 t4_8 t4_9 t4_10 t5_0 t6_0 t7_0 t8_0 t9_0 t9_1 t9_2 t9_3 t9_4 t9_5 t9_6 t9_7 t9_8 t9_9 t9_10 t10_0 t11_0 t12_0 t13_0 t14_0 t15_0 t16_0 lx94 j131 from (by rw [e133]; have h := hS116; rw [S_NM_told_J18.eq_1] at h; rw [if_pos c122] at h; rw [if_neg c124] at h; rw [if_neg c126] at h; replace h := q_s2 h; rw [if_pos c471] at h; rw [if_pos c496] at h; with_reducible exact h))⟩
                ·
                  refine lv_iload_n hx hb d_14_17_120 rfl (lv_at hl 2 rfl) ?_
                  refine lv_lload hx hb d_14_17_121 (lv_at hl 0 rfl) ?_
                  refine q_goi V (q_runS (As := [.int x2, .long j131]) (rest := [.ref (q 116)]) (d := 1) (mc := 0) (ms := 0) C0 V rfl LS_NM_76 (X_NM_isFinite l D g q w120  x2 j131 hI   _) rfl hl.1 rfl (Nat.le_of_ble_eq_true rfl) ⟨by decide, by decide⟩ ⟨Nat.le_of_ble_eq_true rfl, Nat.le_of_ble_eq_true rfl⟩ d_14_17_123) (fun a501 u499 H locs hp500 V => ?_)
                  obtain ⟨rfl, b502, b503, hE504⟩ := hp500
                  have e505 : a501 = (F_NM_isFinite x2 j131) := hE504
                  clear b502
                  clear b503
                  refine lv_if_ne (tgt := 133) hx hb d_14_17_126 (by decide) (fun c506 => ?_) (fun c506 => ?_)
                  ·
                    exact J490 (()) _ _ _ w120 ⟨V, q_lw hl (q_lw1 0 rfl (q_lw1 1 rfl (q_lw1 2 rfl (q_lw1 4 rfl q_lw0)))), (show F_NM_told_J133 x2 x3 x4 t0_0 t0_1 t0_2 t1_0 t1_1 t1_2 t1_3 t1_4 t1_5 t1_6 t2_0 t3_0 t4_0 t4_1 t4_2 t4_3 t4_4 t4_5 t4_6 t4_7 t4_8 t4_9 t4_10 t5_0 t6_0 t7_0 t8_0 t9_0 t9_1 t9_2 t9_3 t9_4 t9_5 t9_6 t9_7 t9_8 t9_9 t9_10 t10_0 t11_0 t12_0 t13_0 t14_0 t15_0 t16_0 lx94 j131 = (F_NM_told x2 x3 x4 t0_0 t0_1 t0_2 t1_0 t1_1 t1_2 t1_3 t1_4 t1_5 t1_6 t2_0 t3_0 t4_0 t4_1 t4_2 t4_3 t4_4 t4_5 t4_6 t4_7 t4_8 t4_9 t4_10 t5_0 t6_0 t7_0 t8_0 t9_0 t9_1 t9_2 t9_3 t9_4 t9_5 t9_6 t9_7 t9_8 t9_9 t9_10 t10_0 t11_0 t12_0 t13_0 t14_0 t15_0 t16_0) from Eq.trans (by have c506x := c506; rw [e505, e133] at c506x; rw [e133, F_NM_told_J18.eq_1, if_pos c122, if_neg c124, if_neg c126, if_pos c471, if_neg c496, if_neg c506x]) hR115), (show True ∧ S_NM_told_J133 x2 x3 x4 t0_0 t0_1 t0_2 t1_0 t1_1 t1_2 t1_3 t1_4 t1_5 t1_6 t2_0 t3_0 t4_0 t4_1 t4_2 t4_3 t4_4 t4_5 t4_6 t4_7 t4_8 t4_9 t4_10 t5_0 t6_0 t7_0 t8_0 t9_0 t9_1 t9_2 t9_3 t9_4 t9_5 t9_6 t9_7 t9_8 t9_9 t9_10 t10_0 t11_0 t12_0 t13_0 t14_0 t15_0 t16_0 lx94 j131 from (by rw [e133]; have h := hS116; rw [S_NM_told_J18.eq_1] at h; rw [if_pos c122] at h; rw [if_neg c124] at h; rw [if_neg c126] at h; replace h := q_s2 h; rw [if_pos c471] at h; rw [if_neg c496] at h; have c506x := c506; rw [e505, e133] at c506x; rw [if_neg c506x] at h; with_reducible exact h))⟩
                  ·
                    refine lv_iconst (v := 2) hx hb d_14_17_129 (by decide) ?_
                    refine lv_goto (tgt := 134) hx hb d_14_17_130 (by decide) ?_
                    exact J152 ((2 : Int32)) _ _ _ w120 ⟨(show q_F (lx94.toInt ≤ 2) from (show lx94.toInt ≤ 2 from by have t1 : lx94.toInt ≤ 1 := i114; omega)), (show q_F (2 ≤ lx94.toInt + 2) from (show 2 ≤ lx94.toInt + 2 from by have t1 : 0 ≤ lx94.toInt := i113; omega)), V, q_lw hl (q_lw1 0 rfl (q_lw1 1 rfl (q_lw1 2 rfl (q_lw1 4 rfl q_lw0)))), (show F_NM_told_J134 x2 x3 x4 t0_0 t0_1 t0_2 t1_0 t1_1 t1_2 t1_3 t1_4 t1_5 t1_6 t2_0 t3_0 t4_0 t4_1 t4_2 t4_3 t4_4 t4_5 t4_6 t4_7 t4_8 t4_9 t4_10 t5_0 t6_0 t7_0 t8_0 t9_0 t9_1 t9_2 t9_3 t9_4 t9_5 t9_6 t9_7 t9_8 t9_9 t9_10 t10_0 t11_0 t12_0 t13_0 t14_0 t15_0 t16_0 lx94 j131 2 = (F_NM_told x2 x3 x4 t0_0 t0_1 t0_2 t1_0 t1_1 t1_2 t1_3 t1_4 t1_5 t1_6 t2_0 t3_0 t4_0 t4_1 t4_2 t4_3 t4_4 t4_5 t4_6 t4_7 t4_8 t4_9 t4_10 t5_0 t6_0 t7_0 t8_0 t9_0 t9_1 t9_2 t9_3 t9_4 t9_5 t9_6 t9_7 t9_8 t9_9 t9_10 t10_0 t11_0 t12_0 t13_0 t14_0 t15_0 t16_0) from Eq.trans (by have c506x := c506; rw [e505, e133] at c506x; rw [e133, F_NM_told_J18.eq_1, if_pos c122, if_neg c124, if_neg c126, if_pos c471, if_neg c496, if_pos c506x]) hR115), (show True ∧ S_NM_told_J134 x2 x3 x4 t0_0 t0_1 t0_2 t1_0 t1_1 t1_2 t1_3 t1_4 t1_5 t1_6 t2_0 t3_0 t4_0 t4_1 t4_2 t4_3 t4_4 t4_5 t4_6 t4_7 t4_8 t4_9 t4_10 t5_0 t6_0 t7_0 t8_0 t9_0 t9_1 t9_2 t9_3 t9_4 t9_5 t9_6 t9_7 t9_8 t9_9 t9_10 t10_0 t11_0 t12_0 t13_0 t14_0 t15_0 t16_0 lx94 j131 2 from (by rw [e133]; have h := hS116; rw [S_NM_told_J18.eq_1] at h; rw [if_pos c122] at h; rw [if_neg c124] at h; rw [if_neg c126] at h; replace h := q_s2 h; rw [if_pos c471] at h; rw [if_neg c496] at h; have c506x := c506; rw [e505, e133] at c506x; rw [if_pos c506x] at h; with_reducible exact h))⟩
            ·
              refine lv_iconst (v := 1) hx hb d_14_17_112 (by decide) ?_
              refine lv_goto (tgt := 134) hx hb d_14_17_113 (by decide) ?_
              exact J152 ((1 : Int32)) _ _ _ w120 ⟨(show q_F (lx94.toInt ≤ 1) from (show lx94.toInt ≤ 1 from by have t1 : lx94.toInt ≤ 1 := i114; omega)), (show q_F (1 ≤ lx94.toInt + 2) from (show 1 ≤ lx94.toInt + 2 from by have t1 : 0 ≤ lx94.toInt := i113; omega)), V, q_lw hl (q_lw1 0 rfl (q_lw1 1 rfl (q_lw1 2 rfl (q_lw1 4 rfl q_lw0)))), (show F_NM_told_J134 x2 x3 x4 t0_0 t0_1 t0_2 t1_0 t1_1 t1_2 t1_3 t1_4 t1_5 t1_6 t2_0 t3_0 t4_0 t4_1 t4_2 t4_3 t4_4 t4_5 t4_6 t4_7 t4_8 t4_9 t4_10 t5_0 t6_0 t7_0 t8_0 t9_0 t9_1 t9_2 t9_3 t9_4 t9_5 t9_6 t9_7 t9_8 t9_9 t9_10 t10_0 t11_0 t12_0 t13_0 t14_0 t15_0 t16_0 lx94 j131 1 = (F_NM_told x2 x3 x4 t0_0 t0_1 t0_2 t1_0 t1_1 t1_2 t1_3 t1_4 t1_5 t1_6 t2_0 t3_0 t4_0 t4_1 t4_2 t4_3 t4_4 t4_5 t4_6 t4_7 t4_8 t4_9 t4_10 t5_0 t6_0 t7_0 t8_0 t9_0 t9_1 t9_2 t9_3 t9_4 t9_5 t9_6 t9_7 t9_8 t9_9 t9_10 t10_0 t11_0 t12_0 t13_0 t14_0 t15_0 t16_0) from Eq.trans (by rw [e133, F_NM_told_J18.eq_1, if_pos c122, if_neg c124, if_neg c126, if_neg c471]) hR115), (show True ∧ S_NM_told_J134 x2 x3 x4 t0_0 t0_1 t0_2 t1_0 t1_1 t1_2 t1_3 t1_4 t1_5 t1_6 t2_0 t3_0 t4_0 t4_1 t4_2 t4_3 t4_4 t4_5 t4_6 t4_7 t4_8 t4_9 t4_10 t5_0 t6_0 t7_0 t8_0 t9_0 t9_1 t9_2 t9_3 t9_4 t9_5 t9_6 t9_7 t9_8 t9_9 t9_10 t10_0 t11_0 t12_0 t13_0 t14_0 t15_0 t16_0 lx94 j131 1 from (by rw [e133]; have h := hS116; rw [S_NM_told_J18.eq_1] at h; rw [if_pos c122] at h; rw [if_neg c124] at h; rw [if_neg c126] at h; replace h := q_s2 h; rw [if_neg c471] at h; with_reducible exact h))⟩
        ·
          refine lv_aload_n hx hb d_14_17_64 rfl (lv_at hl 0 rfl) ?_
          refine q_get (ci := 12) (j := 6) (v := .ref (q 134)) C0 V i_NM rfl rfl hT0 (by decide) w_2304 rfl d_14_17_65 ?_
          refine lv_iload_n hx hb d_14_17_68 rfl (lv_at hl 2 rfl) ?_
          refine lv_iload_n hx hb d_14_17_69 rfl (lv_at hl 3 rfl) ?_
          have ob511 : True ∧ S_DR_told x3 x4 t4_0 t4_1 t4_2 t4_3 t4_4 t4_5 t4_6 t4_7 t4_8 t4_9 t4_10 t5_0 t6_0 t7_0 t8_0 := (by have h := hS116; rw [S_NM_told_J18.eq_1] at h; rw [if_pos c122] at h; rw [if_neg c124] at h; rw [if_pos c126] at h; with_reducible exact h.2.1)
          refine q_goi V (q_runV (As := [.int x3, .int x4]) (rest := []) (d := 2) (mc := 0) (ms := 0) (ci := 14) C0 V rfl LV_NM_135 (X_DR_told l D g q w120  x3 x4 hI t4_0 t4_1 t4_2 t4_3 t4_4 t4_5 t4_6 t4_7 t4_8 t4_9 t4_10 hT4 t5_0 hT5 t6_0 hT6 t7_0 hT7 t8_0 hT8 ob511 _) rfl rfl hT4 rfl hl.1 rfl (Nat.le_of_ble_eq_true rfl) ⟨by decide, by decide⟩ ⟨Nat.le_of_ble_eq_true rfl, Nat.le_of_ble_eq_true rfl⟩ d_14_17_70) (fun a514 u512 H locs hp513 V => ?_)
          obtain ⟨hI, hZ9⟩ := hp513
          obtain ⟨hu550, hZ9⟩ := hZ9
          obtain ⟨y516, hZ9⟩ := hZ9
          obtain ⟨y517, hZ9⟩ := hZ9
          obtain ⟨y518, hZ9⟩ := hZ9
          obtain ⟨y519, hZ9⟩ := hZ9
          obtain ⟨y520, hZ9⟩ := hZ9
          obtain ⟨y521, hZ9⟩ := hZ9
          obtain ⟨y522, hZ9⟩ := hZ9
          obtain ⟨y523, hZ9⟩ := hZ9
          obtain ⟨y524, hZ9⟩ := hZ9
          obtain ⟨y525, hZ9⟩ := hZ9
          obtain ⟨y526, hZ9⟩ := hZ9
          obtain ⟨hO515, hZ9⟩ := hZ9
          replace hZ9 := hZ9.2.2
          obtain ⟨b529, hZ9⟩ := hZ9
          obtain ⟨b530, hZ9⟩ := hZ9
          obtain ⟨b531, hZ9⟩ := hZ9
          obtain ⟨b532, hZ9⟩ := hZ9
          obtain ⟨b533, hZ9⟩ := hZ9
          obtain ⟨b534, hZ9⟩ := hZ9
          obtain ⟨b535, hZ9⟩ := hZ9
          obtain ⟨b536, hZ9⟩ := hZ9
          obtain ⟨b537, hZ9⟩ := hZ9
          obtain ⟨b538, hZ9⟩ := hZ9
          obtain ⟨b539, hZ9⟩ := hZ9
          obtain ⟨b540, hZ9⟩ := hZ9
          obtain ⟨b541, hZ9⟩ := hZ9
          obtain ⟨b542, hZ9⟩ := hZ9
          obtain ⟨b543, hZ9⟩ := hZ9
          obtain ⟨b544, hZ9⟩ := hZ9
          obtain ⟨b545, hZ9⟩ := hZ9
          obtain ⟨b546, hZ9⟩ := hZ9
          obtain ⟨b547, hZ9⟩ := hZ9
          obtain ⟨b548, hE549⟩ := hZ9
          replace hO515 : u512[134]? = (some (q 134, .inr (14, [.int y516, .ref (q 135), .int y517, .ref (q 136), .ref (q 137), .ref (q 138), .ref (q 139), .ref (q 140), .int y518, .long y519, .int y520, .int y521, .ref (q 141), .int y522, .ref (q 142), .int y523, .ref (q 143), .int y524, .ref (q 144), .int y525, .int y526])) : Option (Nat × va_E)) := hO515
          obtain ⟨p551, e552⟩ : ∃ z, z = (F_DR_told x3 x4 t4_0 t4_1 t4_2 t4_3 t4_4 t4_5 t4_6 t4_7 t4_8 t4_9 t4_10 t5_0 t6_0 t7_0 t8_0) := ⟨_, rfl⟩
          have e553 : a514 = p551.1 := congrArg (fun z => z.1) (hE549.trans e552.symm)
          have e554 : y516 = p551.2.1 := congrArg (fun z => z.2.1) (hE549.trans e552.symm)
          have e555 : y517 = p551.2.2.1 := congrArg (fun z => z.2.2.1) (hE549.trans e552.symm)
          have e556 : y518 = p551.2.2.2.1 := congrArg (fun z => z.2.2.2.1) (hE549.trans e552.symm)
          have e557 : y519 = p551.2.2.2.2.1 := congrArg (fun z => z.2.2.2.2.1) (hE549.trans e552.symm)
          have e558 : y520 = p551.2.2.2.2.2.1 := congrArg (fun z => z.2.2.2.2.2.1) (hE549.trans e552.symm)
          have e559 : y521 = p551.2.2.2.2.2.2.1 := congrArg (fun z => z.2.2.2.2.2.2.1) (hE549.trans e552.symm)
          have e560 : y522 = p551.2.2.2.2.2.2.2.1 := congrArg (fun z => z.2.2.2.2.2.2.2.1) (hE549.trans e552.symm)
          have e561 : y523 = p551.2.2.2.2.2.2.2.2.1 := congrArg (fun z => z.2.2.2.2.2.2.2.2.1) (hE549.trans e552.symm)
          have e562 : y524 = p551.2.2.2.2.2.2.2.2.2.1 := congrArg (fun z => z.2.2.2.2.2.2.2.2.2.1) (hE549.trans e552.symm)
          have e563 : y525 = p551.2.2.2.2.2.2.2.2.2.2.1 := congrArg (fun z => z.2.2.2.2.2.2.2.2.2.2.1) (hE549.trans e552.symm)
          have e564 : y526 = p551.2.2.2.2.2.2.2.2.2.2.2 := congrArg (fun z => z.2.2.2.2.2.2.2.2.2.2.2) (hE549.trans e552.symm)
          replace b529 : q_F (t4_1.toInt ≤ y517.toInt) := b529
          replace b530 : q_F (y517.toInt ≤ t4_1.toInt) := b530
          replace b531 : q_F (t4_2.toInt ≤ y518.toInt) := b531
          replace b532 : q_F (y518.toInt ≤ t4_2.toInt) := b532
          replace b533 : q_F (t4_3.toInt ≤ y519.toInt) := b533
          replace b534 : q_F (y519.toInt ≤ t4_3.toInt) := b534
          replace b535 : q_F (t4_4.toInt ≤ y520.toInt) := b535
          replace b536 : q_F (y520.toInt ≤ t4_4.toInt) := b536
          replace b537 : q_F (t4_5.toInt ≤ y521.toInt) := b537
          replace b538 : q_F (y521.toInt ≤ t4_5.toInt) := b538
          replace b539 : q_F (t4_6.toInt ≤ y522.toInt) := b539
          replace b540 : q_F (y522.toInt ≤ t4_6.toInt) := b540
          replace b541 : q_F (t4_7.toInt ≤ y523.toInt) := b541
          replace b542 : q_F (y523.toInt ≤ t4_7.toInt) := b542
          replace b543 : q_F (t4_8.toInt ≤ y524.toInt) := b543
          replace b544 : q_F (y524.toInt ≤ t4_8.toInt) := b544
          replace b545 : q_F (t4_9.toInt ≤ y525.toInt) := b545
          replace b546 : q_F (y525.toInt ≤ t4_9.toInt) := b546
          replace b547 : q_F (t4_10.toInt ≤ y526.toInt) := b547
          replace b548 : q_F (y526.toInt ≤ t4_10.toInt) := b548
          replace hT0 := (hu550 _ (by decide)).trans hT0
          replace hT1 := (hu550 _ (by decide)).trans hT1
          replace hT9 := (hu550 _ (by decide)).trans hT9
          replace hT10 := (hu550 _ (by decide)).trans hT10
          replace hT11 := (hu550 _ (by decide)).trans hT11
          replace hT12 := (hu550 _ (by decide)).trans hT12
          replace hT13 := (hu550 _ (by decide)).trans hT13
          replace hT14 := (hu550 _ (by decide)).trans hT14
          replace hT15 := (hu550 _ (by decide)).trans hT15
          replace hF := q_uc hF hu550 (by simp)
          have hR565 := (show F_NM_told_c70 x2 x3 x4 t0_0 t0_1 t0_2 t1_0 t1_1 t1_2 t1_3 t1_4 t1_5 t1_6 t2_0 t3_0 t4_0 t4_1 t4_2 t4_3 t4_4 t4_5 t4_6 t4_7 t4_8 t4_9 t4_10 t5_0 t6_0 t7_0 t8_0 t9_0 t9_1 t9_2 t9_3 t9_4 t9_5 t9_6 t9_7 t9_8 t9_9 t9_10 t10_0 t11_0 t12_0 t13_0 t14_0 t15_0 t16_0 lx94 p551 = (F_NM_told x2 x3 x4 t0_0 t0_1 t0_2 t1_0 t1_1 t1_2 t1_3 t1_4 t1_5 t1_6 t2_0 t3_0 t4_0 t4_1 t4_2 t4_3 t4_4 t4_5 t4_6 t4_7 t4_8 t4_9 t4_10 t5_0 t6_0 t7_0 t8_0 t9_0 t9_1 t9_2 t9_3 t9_4 t9_5 t9_6 t9_7 t9_8 t9_9 t9_10 t10_0 t11_0 t12_0 t13_0 t14_0 t15_0 t16_0) from Eq.trans (by rw [e552, F_NM_told_J18.eq_1, if_pos c122, if_neg c124, if_pos c126]) hR115)
          have hS566 := (show True ∧ S_NM_told_c70 x2 x3 x4 t0_0 t0_1 t0_2 t1_0 t1_1 t1_2 t1_3 t1_4 t1_5 t1_6 t2_0 t3_0 t4_0 t4_1 t4_2 t4_3 t4_4 t4_5 t4_6 t4_7 t4_8 t4_9 t4_10 t5_0 t6_0 t7_0 t8_0 t9_0 t9_1 t9_2 t9_3 t9_4 t9_5 t9_6 t9_7 t9_8 t9_9 t9_10 t10_0 t11_0 t12_0 t13_0 t14_0 t15_0 t16_0 lx94 p551 from (by rw [e552]; have h := hS116; rw [S_NM_told_J18.eq_1] at h; rw [if_pos c122] at h; rw [if_neg c124] at h; rw [if_pos c126] at h; replace h := q_s2 h; with_reducible exact h))
          refine lv_istore (lv' := [(4, .int a514), (0, .ref (q 116)), (1, .int x2), (2, .int x3), (3, .int x4)]) hx hb d_14_17_73 hl (by decide) rfl (fun ls hl => ?_)
          refine lv_aload_n hx hb d_14_17_75 rfl (lv_at hl 1 rfl) ?_
          refine lv_aload_n hx hb d_14_17_76 rfl (lv_at hl 1 rfl) ?_
          refine q_get (ci := 12) (j := 6) (v := .ref (q 134)) C0 V i_NM rfl rfl hT0 (by decide) w_2304 rfl d_14_17_77 ?_
          refine q_getN (ci := 14) (j := 0) (v := .int y516) C0 V i_DR rfl rfl hO515 (by decide) wo_1997 rfl d_14_17_80 ?_
          refine lv_if_le (tgt := 90) hx hb d_14_17_83 (by decide) (fun c570 => ?_) (fun c570 => ?_)
          ·
            refine lv_iconst (v := 0) hx hb d_14_17_90 (by decide) ?_
            refine q_put (ci := 12) (j := 0) (v := .int 0) (ty := .int) C0 V i_NM o_NM n_NM rfl rfl hT0 (by decide) w_2298 rfl rfl rfl rfl (Nat.le_of_ble_eq_true rfl) d_14_17_91 (fun H locs w572 hu573 hT0 V => ?_)
            replace hT0 : w572[116]? = (some (q 116, .inr (12, [.int 0, .ref (q 117), .int t0_1, .ref (q 118), .int t0_2, .ref (q 119), .ref (q 134), .ref (q 145), .ref (q 153), .ref (q 157), .ref (q 167), .ref (q 168)])) : Option (Nat × va_E)) := hT0
            replace hI := n_p116 hI hu573 hT0 (by first | with_reducible exact q_fe btt0_1 | exact ⟨(by have t1 : 0 ≤ t0_1.toInt ∧ t0_1.toInt ≤ 4100 := btt0_1; omega), (by have t1 : 0 ≤ t0_1.toInt ∧ t0_1.toInt ≤ 4100 := btt0_1; omega)⟩) (by first | with_reducible exact q_fe btt0_2 | exact ⟨(by have t1 : 0 ≤ t0_2.toInt ∧ t0_2.toInt ≤ 12200 := btt0_2; omega), (by have t1 : 0 ≤ t0_2.toInt ∧ t0_2.toInt ≤ 12200 := btt0_2; omega)⟩)
            replace hT1 := (hu573 _ (by decide)).trans hT1
            replace hO515 := (hu573 _ (by decide)).trans hO515
            replace hT9 := (hu573 _ (by decide)).trans hT9
            replace hT10 := (hu573 _ (by decide)).trans hT10
            replace hT11 := (hu573 _ (by decide)).trans hT11
            replace hT12 := (hu573 _ (by decide)).trans hT12
            replace hT13 := (hu573 _ (by decide)).trans hT13
            replace hT14 := (hu573 _ (by decide)).trans hT14
            replace hT15 := (hu573 _ (by decide)).trans hT15
            replace hF := q_us hF hu573 (by simp)
            refine lv_iload hx hb d_14_17_94 (lv_at hl 0 rfl) ?_
            refine lv_i2l hx hb d_14_17_96 rfl ?_
            obtain ⟨j574, e575⟩ := q_nm (a514.toInt64 : Int64)
            refine q_tl (v := j574) e575 ?_
            exact q_retl C0 V (⟨hI, hF, 0, t1_0, t1_1, t1_2, t1_3, t1_4, t1_5, t1_6, y516, y517, y518, y519, y520, y521, y522, y523, y524, y525, y526, t9_0, t9_1, t9_2, t9_3, t9_4, t9_5, t9_6, t9_7, t9_8, t9_9, t9_10, t10_0, t11_0, t12_0, t13_0, t14_0, t15_0, hT0, hT1, hO515, hT9, hT10, hT11, hT12, hT13, hT14, hT15, (show 0 ≤ (0 : Int32).toInt from (by have z49 : (0 : Int32).toInt = 0 := rfl; omega)), (show (0 : Int32).toInt ≤ 2 from (by have z49 : (0 : Int32).toInt = 0 := rfl; omega)), (show 0 ≤ t9_2.toInt from (by have z49 : (0 : Int32).toInt = 0 := rfl; have t1 : 0 ≤ t9_2.toInt ∧ t9_2.toInt ≤ 1 := btt9_2; omega)), (show t9_2.toInt ≤ 1 from (by have z49 : (0 : Int32).toInt = 0 := rfl; have t1 : 0 ≤ t9_2.toInt ∧ t9_2.toInt ≤ 1 := btt9_2; omega)), (show t1_1.toInt ≤ t1_1.toInt from (by have z49 : (0 : Int32).toInt = 0 := rfl; omega)), (show t1_1.toInt ≤ t1_1.toInt from (by have z49 : (0 : Int32).toInt = 0 := rfl; omega)), (show t1_2.toInt ≤ t1_2.toInt from (by have z49 : (0 : Int32).toInt = 0 := rfl; omega)), (show t1_2.toInt ≤ t1_2.toInt from (by have z49 : (0 : Int32).toInt = 0 := rfl; omega)), (show t1_3.toInt ≤ t1_3.toInt from (by have z49 : (0 : Int32).toInt = 0 := rfl; omega)), (show t1_3.toInt ≤ t1_3.toInt from (by have z49 : (0 : Int32).toInt = 0 := rfl; omega)), (show t1_4.toInt ≤ t1_4.toInt from (by have z49 : (0 : Int32).toInt = 0 := rfl; omega)), (show t1_4.toInt ≤ t1_4.toInt from (by have z49 : (0 : Int32).toInt = 0 := rfl; omega)), (show t1_5.toInt ≤ t1_5.toInt from (by have z49 : (0 : Int32).toInt = 0 := rfl; omega)), (show t1_5.toInt ≤ t1_5.toInt from (by have z49 : (0 : Int32).toInt = 0 := rfl; omega)), (show t1_6.toInt ≤ t1_6.toInt from (by have z49 : (0 : Int32).toInt = 0 := rfl; omega)), (show t1_6.toInt ≤ t1_6.toInt from (by have z49 : (0 : Int32).toInt = 0 := rfl; omega)), (show t4_1.toInt ≤ y517.toInt from (by have z49 : (0 : Int32).toInt = 0 := rfl; have t1 : t4_1.toInt ≤ y517.toInt := b529; omega)), (show y517.toInt ≤ t4_1.toInt from (by have z49 : (0 : Int32).toInt = 0 := rfl; have t1 : y517.toInt ≤ t4_1.toInt := b530; omega)), (show t4_2.toInt ≤ y518.toInt from (by have z49 : (0 : Int32).toInt = 0 := rfl; have t1 : t4_2.toInt ≤ y518.toInt := b531; omega)), (show y518.toInt ≤ t4_2.toInt from (by have z49 : (0 : Int32).toInt = 0 := rfl; have t1 : y518.toInt ≤ t4_2.toInt := b532; omega)), (show t4_3.toInt ≤ y519.toInt from (by have z49 : (0 : Int32).toInt = 0 := rfl; have t1 : t4_3.toInt ≤ y519.toInt := b533; omega)), (show y519.toInt ≤ t4_3.toInt from (by have z49 : (0 : Int32).toInt = 0 := rfl; have t1 : y519.toInt ≤ t4_3.toInt := b534; omega)), (show t4_4.toInt ≤ y520.toInt from (by have z49 : (0 : Int32).toInt = 0 := rfl; have t1 : t4_4.toInt ≤ y520.toInt := b535; omega)), (show y520.toInt ≤ t4_4.toInt from (by have z49 : (0 : Int32).toInt = 0 := rfl; have t1 : y520.toInt ≤ t4_4.toInt := b536; omega)), (show t4_5.toInt ≤ y521.toInt from (by have z49 : (0 : Int32).toInt = 0 := rfl; have t1 : t4_5.toInt ≤ y521.toInt := b537; omega)), (show y521.toInt ≤ t4_5.toInt from (by have z49 : (0 : Int32).toInt = 0 := rfl; have t1 : y521.toInt ≤ t4_5.toInt := b538; omega)), (show t4_6.toInt ≤ y522.toInt from (by have z49 : (0 : Int32).toInt = 0 := rfl; have t1 : t4_6.toInt ≤ y522.toInt := b539; omega)), (show y522.toInt ≤ t4_6.toInt from (by have z49 : (0 : Int32).toInt = 0 := rfl; have t1 : y522.toInt ≤ t4_6.toInt := b540; omega)), (show t4_7.toInt ≤ y523.toInt from (by have z49 : (0 : Int32).toInt = 0 := rfl; have t1 : t4_7.toInt ≤ y523.toInt := b541; omega)), (show y523.toInt ≤ t4_7.toInt from (by have z49 : (0 : Int32).toInt = 0 := rfl; have t1 : y523.toInt ≤ t4_7.toInt := b542; omega)), (show t4_8.toInt ≤ y524.toInt from (by have z49 : (0 : Int32).toInt = 0 := rfl; have t1 : t4_8.toInt ≤ y524.toInt := b543; omega)), (show y524.toInt ≤ t4_8.toInt from (by have z49 : (0 : Int32).toInt = 0 := rfl; have t1 : y524.toInt ≤ t4_8.toInt := b544; omega)), (show t4_9.toInt ≤ y525.toInt from (by have z49 : (0 : Int32).toInt = 0 := rfl; have t1 : t4_9.toInt ≤ y525.toInt := b545; omega)), (show y525.toInt ≤ t4_9.toInt from (by have z49 : (0 : Int32).toInt = 0 := rfl; have t1 : y525.toInt ≤ t4_9.toInt := b546; omega)), (show t4_10.toInt ≤ y526.toInt from (by have z49 : (0 : Int32).toInt = 0 := rfl; have t1 : t4_10.toInt ≤ y526.toInt := b547; omega)), (show y526.toInt ≤ t4_10.toInt from (by have z49 : (0 : Int32).toInt = 0 := rfl; have t1 : y526.toInt ≤ t4_10.toInt := b548; omega)), (show t9_1.toInt ≤ t9_1.toInt from (by have z49 : (0 : Int32).toInt = 0 := rfl; omega)), (show t9_1.toInt ≤ t9_1.toInt from (by have z49 : (0 : Int32).toInt = 0 := rfl; omega)), (show (j574, (0 : Int32), t1_0, t1_1, t1_2, t1_3, t1_4, t1_5, t1_6, y516, y517, y518, y519, y520, y521, y522, y523, y524, y525, y526, t9_0, t9_1, t9_2, t9_3, t9_4, t9_5, t9_6, t9_7, t9_8, t9_9, t9_10, t10_0, t11_0, t12_0, t13_0, t14_0, t15_0) = (F_NM_told x2 x3 x4 t0_0 t0_1 t0_2 t1_0 t1_1 t1_2 t1_3 t1_4 t1_5 t1_6 t2_0 t3_0 t4_0 t4_1 t4_2 t4_3 t4_4 t4_5 t4_6 t4_7 t4_8 t4_9 t4_10 t5_0 t6_0 t7_0 t8_0 t9_0 t9_1 t9_2 t9_3 t9_4 t9_5 t9_6 t9_7 t9_8 t9_9 t9_10 t10_0 t11_0 t12_0 t13_0 t14_0 t15_0 t16_0) from Eq.trans (by have c570x := c570; rw [e554] at c570x; rw [← e575, e564, e563, e562, e561, e560, e559, e558, e557, e556, e555, e554, e553, F_NM_told_c70.eq_1, if_pos c570x]) hR565)⟩) d_14_17_97
          ·
            refine lv_iconst (v := 1) hx hb d_14_17_86 (by decide) ?_
            refine lv_goto (tgt := 91) hx hb d_14_17_87 (by decide) ?_
            refine q_put (ci := 12) (j := 0) (v := .int 1) (ty := .int) C0 V i_NM o_NM n_NM rfl rfl hT0 (by decide) w_2298 rfl rfl rfl rfl (Nat.le_of_ble_eq_true rfl) d_14_17_91 (fun H locs w578 hu579 hT0 V => ?_)
            replace hT0 : w578[116]? = (some (q 116, .inr (12, [.int 1, .ref (q 117), .int t0_1, .ref (q 118), .int t0_2, .ref (q 119), .ref (q 134), .ref (q 145), .ref (q 153), .ref (q 157), .ref (q 167), .ref (q 168)])) : Option (Nat × va_E)) := hT0
            replace hI := n_p116 hI hu579 hT0 (by first | with_reducible exact q_fe btt0_1 | exact ⟨(by have t1 : 0 ≤ t0_1.toInt ∧ t0_1.toInt ≤ 4100 := btt0_1; omega), (by have t1 : 0 ≤ t0_1.toInt ∧ t0_1.toInt ≤ 4100 := btt0_1; omega)⟩) (by first | with_reducible exact q_fe btt0_2 | exact ⟨(by have t1 : 0 ≤ t0_2.toInt ∧ t0_2.toInt ≤ 12200 := btt0_2; omega), (by have t1 : 0 ≤ t0_2.toInt ∧ t0_2.toInt ≤ 12200 := btt0_2; omega)⟩)
            replace hT1 := (hu579 _ (by decide)).trans hT1
            replace hO515 := (hu579 _ (by decide)).trans hO515
            replace hT9 := (hu579 _ (by decide)).trans hT9
            replace hT10 := (hu579 _ (by decide)).trans hT10
            replace hT11 := (hu579 _ (by decide)).trans hT11
            replace hT12 := (hu579 _ (by decide)).trans hT12
            replace hT13 := (hu579 _ (by decide)).trans hT13
            replace hT14 := (hu579 _ (by decide)).trans hT14
            replace hT15 := (hu579 _ (by decide)).trans hT15
            replace hF := q_us hF hu579 (by simp)
            refine lv_iload hx hb d_14_17_94 (lv_at hl 0 rfl) ?_
            refine lv_i2l hx hb d_14_17_96 rfl ?_
            obtain ⟨j580, e581⟩ := q_nm (a514.toInt64 : Int64)
            refine q_tl (v := j580) e581 ?_
            exact q_retl C0 V (⟨hI, hF, 1, t1_0, t1_1, t1_2, t1_3, t1_4, t1_5, t1_6, y516, y517, y518, y519, y520, y521, y522, y523, y524, y525, y526, t9_0, t9_1, t9_2, t9_3, t9_4, t9_5, t9_6, t9_7, t9_8, t9_9, t9_10, t10_0, t11_0, t12_0, t13_0, t14_0, t15_0, hT0, hT1, hO515, hT9, hT10, hT11, hT12, hT13, hT14, hT15, (show 0 ≤ (1 : Int32).toInt from (by have z49 : (1 : Int32).toInt = 1 := rfl; omega)), (show (1 : Int32).toInt ≤ 2 from (by have z49 : (1 : Int32).toInt = 1 := rfl; omega)), (show 0 ≤ t9_2.toInt from (by have z49 : (1 : Int32).toInt = 1 := rfl; have t1 : 0 ≤ t9_2.toInt ∧ t9_2.toInt ≤ 1 := btt9_2; omega)), (show t9_2.toInt ≤ 1 from (by have z49 : (1 : Int32).toInt = 1 := rfl; have t1 : 0 ≤ t9_2.toInt ∧ t9_2.toInt ≤ 1 := btt9_2; omega)), (show t1_1.toInt ≤ t1_1.toInt from (by have z49 : (1 : Int32).toInt = 1 := rfl; omega)), (show t1_1.toInt ≤ t1_1.toInt from (by have z49 : (1 : Int32).toInt = 1 := rfl; omega)), (show t1_2.toInt ≤ t1_2.toInt from (by have z49 : (1 : Int32).toInt = 1 := rfl; omega)), (show t1_2.toInt ≤ t1_2.toInt from (by have z49 : (1 : Int32).toInt = 1 := rfl; omega)), (show t1_3.toInt ≤ t1_3.toInt from (by have z49 : (1 : Int32).toInt = 1 := rfl; omega)), (show t1_3.toInt ≤ t1_3.toInt from (by have z49 : (1 : Int32).toInt = 1 := rfl; omega)), (show t1_4.toInt ≤ t1_4.toInt from (by have z49 : (1 : Int32).toInt = 1 := rfl; omega)), (show t1_4.toInt ≤ t1_4.toInt from (by have z49 : (1 : Int32).toInt = 1 := rfl; omega)), (show t1_5.toInt ≤ t1_5.toInt from (by have z49 : (1 : Int32).toInt = 1 := rfl; omega)), (show t1_5.toInt ≤ t1_5.toInt from (by have z49 : (1 : Int32).toInt = 1 := rfl; omega)), (show t1_6.toInt ≤ t1_6.toInt from (by have z49 : (1 : Int32).toInt = 1 := rfl; omega)), (show t1_6.toInt ≤ t1_6.toInt from (by have z49 : (1 : Int32).toInt = 1 := rfl; omega)), (show t4_1.toInt ≤ y517.toInt from (by have z49 : (1 : Int32).toInt = 1 := rfl; have t1 : t4_1.toInt ≤ y517.toInt := b529; omega)), (show y517.toInt ≤ t4_1.toInt from (by have z49 : (1 : Int32).toInt = 1 := rfl; have t1 : y517.toInt ≤ t4_1.toInt := b530; omega)), (show t4_2.toInt ≤ y518.toInt from (by have z49 : (1 : Int32).toInt = 1 := rfl; have t1 : t4_2.toInt ≤ y518.toInt := b531; omega)), (show y518.toInt ≤ t4_2.toInt from (by have z49 : (1 : Int32).toInt = 1 := rfl; have t1 : y518.toInt ≤ t4_2.toInt := b532; omega)), (show t4_3.toInt ≤ y519.toInt from (by have z49 : (1 : Int32).toInt = 1 := rfl; have t1 : t4_3.toInt ≤ y519.toInt := b533; omega)), (show y519.toInt ≤ t4_3.toInt from (by have z49 : (1 : Int32).toInt = 1 := rfl; have t1 : y519.toInt ≤ t4_3.toInt := b534; omega)), (show t4_4.toInt ≤ y520.toInt from (by have z49 : (1 : Int32).toInt = 1 := rfl; have t1 : t4_4.toInt ≤ y520.toInt := b535; omega)), (show y520.toInt ≤ t4_4.toInt from (by have z49 : (1 : Int32).toInt = 1 := rfl; have t1 : y520.toInt ≤ t4_4.toInt := b536; omega)), (show t4_5.toInt ≤ y521.toInt from (by have z49 : (1 : Int32).toInt = 1 := rfl; have t1 : t4_5.toInt ≤ y521.toInt := b537; omega)), (show y521.toInt ≤ t4_5.toInt from (by have z49 : (1 : Int32).toInt = 1 := rfl; have t1 : y521.toInt ≤ t4_5.toInt := b538; omega)), (show t4_6.toInt ≤ y522.toInt from (by have z49 : (1 : Int32).toInt = 1 := rfl; have t1 : t4_6.toInt ≤ y522.toInt := b539; omega)), (show y522.toInt ≤ t4_6.toInt from (by have z49 : (1 : Int32).toInt = 1 := rfl; have t1 : y522.toInt ≤ t4_6.toInt := b540; omega)), (show t4_7.toInt ≤ y523.toInt from (by have z49 : (1 : Int32).toInt = 1 := rfl; have t1 : t4_7.toInt ≤ y523.toInt := b541; omega)), (show y523.toInt ≤ t4_7.toInt from (by have z49 : (1 : Int32).toInt = 1 := rfl; have t1 : y523.toInt ≤ t4_7.toInt := b542; omega)), (show t4_8.toInt ≤ y524.toInt from (by have z49 : (1 : Int32).toInt = 1 := rfl; have t1 : t4_8.toInt ≤ y524.toInt := b543; omega)), (show y524.toInt ≤ t4_8.toInt from (by have z49 : (1 : Int32).toInt = 1 := rfl; have t1 : y524.toInt ≤ t4_8.toInt := b544; omega)), (show t4_9.toInt ≤ y525.toInt from (by have z49 : (1 : Int32).toInt = 1 := rfl; have t1 : t4_9.toInt ≤ y525.toInt := b545; omega)), (show y525.toInt ≤ t4_9.toInt from (by have z49 : (1 : Int32).toInt = 1 := rfl; have t1 : y525.toInt ≤ t4_9.toInt := b546; omega)), (show t4_10.toInt ≤ y526.toInt from (by have z49 : (1 : Int32).toInt = 1 := rfl; have t1 : t4_10.toInt ≤ y526.toInt := b547; omega)), (show y526.toInt ≤ t4_10.toInt from (by have z49 : (1 : Int32).toInt = 1 := rfl; have t1 : y526.toInt ≤ t4_10.toInt := b548; omega)), (show t9_1.toInt ≤ t9_1.toInt from (by have z49 : (1 : Int32).toInt = 1 := rfl; omega)), (show t9_1.toInt ≤ t9_1.toInt from (by have z49 : (1 : Int32).toInt = 1 := rfl; omega)), (show (j580, (1 : Int32), t1_0, t1_1, t1_2, t1_3, t1_4, t1_5, t1_6, y516, y517, y518, y519, y520, y521, y522, y523, y524, y525, y526, t9_0, t9_1, t9_2, t9_3, t9_4, t9_5, t9_6, t9_7, t9_8, t9_9, t9_10, t10_0, t11_0, t12_0, t13_0, t14_0, t15_0) = (F_NM_told x2 x3 x4 t0_0 t0_1 t0_2 t1_0 t1_1 t1_2 t1_3 t1_4 t1_5 t1_6 t2_0 t3_0 t4_0 t4_1 t4_2 t4_3 t4_4 t4_5 t4_6 t4_7 t4_8 t4_9 t4_10 t5_0 t6_0 t7_0 t8_0 t9_0 t9_1 t9_2 t9_3 t9_4 t9_5 t9_6 t9_7 t9_8 t9_9 t9_10 t10_0 t11_0 t12_0 t13_0 t14_0 t15_0 t16_0) from Eq.trans (by have c570x := c570; rw [e554] at c570x; rw [← e581, e564, e563, e562, e561, e560, e559, e558, e557, e556, e555, e554, e553, F_NM_told_c70.eq_1, if_neg c570x]) hR565)⟩) d_14_17_97
      ·
        refine lv_aload_n hx hb d_14_17_34 rfl (lv_at hl 0 rfl) ?_
        refine q_get (ci := 12) (j := 5) (v := .ref (q 119)) C0 V i_NM rfl rfl hT0 (by decide) w_2303 rfl d_14_17_35 ?_
        refine lv_iload_n hx hb d_14_17_38 rfl (lv_at hl 2 rfl) ?_
        refine lv_iload_n hx hb d_14_17_39 rfl (lv_at hl 3 rfl) ?_
        have ob584 : True ∧ S_WR_told x3 x4 t1_0 t1_1 t1_2 t1_3 t1_4 t1_5 t1_6 t2_0 t3_0 := (by have h := hS116; rw [S_NM_told_J18.eq_1] at h; rw [if_pos c122] at h; rw [if_pos c124] at h; with_reducible exact h.2.1)
        refine q_gol V (q_runV (As := [.int x3, .int x4]) (rest := []) (d := 2) (mc := 0) (ms := 0) (ci := 13) C0 V rfl LV_NM_131 (X_WR_told l D g q w120  x3 x4 hI t1_0 t1_1 t1_2 t1_3 t1_4 t1_5 t1_6 hT1 t2_0 hT2 t3_0 hT3 ob584 _) rfl rfl hT1 rfl hl.1 rfl (Nat.le_of_ble_eq_true rfl) ⟨by decide, by decide⟩ ⟨Nat.le_of_ble_eq_true rfl, Nat.le_of_ble_eq_true rfl⟩ d_14_17_40) (fun j587 u585 H locs hp586 V => ?_)
        obtain ⟨hI, hZ9⟩ := hp586
        obtain ⟨hu611, hZ9⟩ := hZ9
        obtain ⟨y589, hZ9⟩ := hZ9
        obtain ⟨y590, hZ9⟩ := hZ9
        obtain ⟨y591, hZ9⟩ := hZ9
        obtain ⟨y592, hZ9⟩ := hZ9
        obtain ⟨y593, hZ9⟩ := hZ9
        obtain ⟨y594, hZ9⟩ := hZ9
        obtain ⟨y595, hZ9⟩ := hZ9
        obtain ⟨hO588, hZ9⟩ := hZ9
        obtain ⟨b596, hZ9⟩ := hZ9
        obtain ⟨b597, hZ9⟩ := hZ9
        obtain ⟨b598, hZ9⟩ := hZ9
        obtain ⟨b599, hZ9⟩ := hZ9
        obtain ⟨b600, hZ9⟩ := hZ9
        obtain ⟨b601, hZ9⟩ := hZ9
        obtain ⟨b602, hZ9⟩ := hZ9
        obtain ⟨b603, hZ9⟩ := hZ9
        obtain ⟨b604, hZ9⟩ := hZ9
        obtain ⟨b605, hZ9⟩ := hZ9
        obtain ⟨b606, hZ9⟩ := hZ9
        obtain ⟨b607, hZ9⟩ := hZ9
        obtain ⟨b608, hZ9⟩ := hZ9
        obtain ⟨b609, hE610⟩ := hZ9
        replace hO588 : u585[119]? = (some (q 119, .inr (13, [.int y589, .int y590, .ref (q 120), .int y591, .ref (q 121), .ref (q 122), .ref (q 123), .int y592, .ref (q 124), .ref (q 125), .ref (q 126), .ref (q 127), .ref (q 128), .ref (q 129), .ref (q 130), .ref (q 131), .int y593, .int y594, .ref (q 132), .ref (q 133), .int y595])) : Option (Nat × va_E)) := hO588
        obtain ⟨p612, e613⟩ : ∃ z, z = (F_WR_told x3 x4 t1_0 t1_1 t1_2 t1_3 t1_4 t1_5 t1_6 t2_0 t3_0) := ⟨_, rfl⟩
        have e614 : j587 = p612.1 := congrArg (fun z => z.1) (hE610.trans e613.symm)
        have e615 : y589 = p612.2.1 := congrArg (fun z => z.2.1) (hE610.trans e613.symm)
        have e616 : y590 = p612.2.2.1 := congrArg (fun z => z.2.2.1) (hE610.trans e613.symm)
        have e617 : y591 = p612.2.2.2.1 := congrArg (fun z => z.2.2.2.1) (hE610.trans e613.symm)
        have e618 : y592 = p612.2.2.2.2.1 := congrArg (fun z => z.2.2.2.2.1) (hE610.trans e613.symm)
        have e619 : y593 = p612.2.2.2.2.2.1 := congrArg (fun z => z.2.2.2.2.2.1) (hE610.trans e613.symm)
        have e620 : y594 = p612.2.2.2.2.2.2.1 := congrArg (fun z => z.2.2.2.2.2.2.1) (hE610.trans e613.symm)
        have e621 : y595 = p612.2.2.2.2.2.2.2 := congrArg (fun z => z.2.2.2.2.2.2.2) (hE610.trans e613.symm)
        replace b596 : q_F (0 ≤ y589.toInt) := b596
        replace b597 : q_F (y589.toInt ≤ 1) := b597
        replace b598 : q_F (t1_1.toInt ≤ y590.toInt) := b598
        replace b599 : q_F (y590.toInt ≤ t1_1.toInt) := b599
        replace b600 : q_F (t1_2.toInt ≤ y591.toInt) := b600
        replace b601 : q_F (y591.toInt ≤ t1_2.toInt) := b601
        replace b602 : q_F (t1_3.toInt ≤ y592.toInt) := b602
        replace b603 : q_F (y592.toInt ≤ t1_3.toInt) := b603
        replace b604 : q_F (t1_4.toInt ≤ y593.toInt) := b604
        replace b605 : q_F (y593.toInt ≤ t1_4.toInt) := b605
        replace b606 : q_F (t1_5.toInt ≤ y594.toInt) := b606
        replace b607 : q_F (y594.toInt ≤ t1_5.toInt) := b607
        replace b608 : q_F (t1_6.toInt ≤ y595.toInt) := b608
        replace b609 : q_F (y595.toInt ≤ t1_6.toInt) := b609
        replace hT0 := (hu611 _ (by decide)).trans hT0
        replace hT4 := (hu611 _ (by decide)).trans hT4
        replace hT9 := (hu611 _ (by decide)).trans hT9
        replace hT10 := (hu611 _ (by decide)).trans hT10
        replace hT11 := (hu611 _ (by decide)).trans hT11
        replace hT12 := (hu611 _ (by decide)).trans hT12
        replace hT13 := (hu611 _ (by decide)).trans hT13
        replace hT14 := (hu611 _ (by decide)).trans hT14
        replace hT15 := (hu611 _ (by decide)).trans hT15
        replace hF := q_uc hF hu611 (by simp)
        have hR622 := (show F_NM_told_c40 x2 x3 x4 t0_0 t0_1 t0_2 t1_0 t1_1 t1_2 t1_3 t1_4 t1_5 t1_6 t2_0 t3_0 t4_0 t4_1 t4_2 t4_3 t4_4 t4_5 t4_6 t4_7 t4_8 t4_9 t4_10 t5_0 t6_0 t7_0 t8_0 t9_0 t9_1 t9_2 t9_3 t9_4 t9_5 t9_6 t9_7 t9_8 t9_9 t9_10 t10_0 t11_0 t12_0 t13_0 t14_0 t15_0 t16_0 lx94 p612 = (F_NM_told x2 x3 x4 t0_0 t0_1 t0_2 t1_0 t1_1 t1_2 t1_3 t1_4 t1_5 t1_6 t2_0 t3_0 t4_0 t4_1 t4_2 t4_3 t4_4 t4_5 t4_6 t4_7 t4_8 t4_9 t4_10 t5_0 t6_0 t7_0 t8_0 t9_0 t9_1 t9_2 t9_3 t9_4 t9_5 t9_6 t9_7 t9_8 t9_9 t9_10 t10_0 t11_0 t12_0 t13_0 t14_0 t15_0 t16_0) from Eq.trans (by rw [e613, F_NM_told_J18.eq_1, if_pos c122, if_pos c124]) hR115)
        have hS623 := (show True ∧ S_NM_told_c40 x2 x3 x4 t0_0 t0_1 t0_2 t1_0 t1_1 t1_2 t1_3 t1_4 t1_5 t1_6 t2_0 t3_0 t4_0 t4_1 t4_2 t4_3 t4_4 t4_5 t4_6 t4_7 t4_8 t4_9 t4_10 t5_0 t6_0 t7_0 t8_0 t9_0 t9_1 t9_2 t9_3 t9_4 t9_5 t9_6 t9_7 t9_8 t9_9 t9_10 t10_0 t11_0 t12_0 t13_0 t14_0 t15_0 t16_0 lx94 p612 from (by rw [e613]; have h := hS116; rw [S_NM_told_J18.eq_1] at h; rw [if_pos c122] at h; rw [if_pos c124] at h; replace h := q_s2 h; with_reducible exact h))
        refine lv_lstore (lv' := [(4, .long j587), (0, .ref (q 116)), (1, .int x2), (2, .int x3), (3, .int x4)]) hx hb d_14_17_43 hl (by decide) rfl (fun ls hl => ?_)
        refine lv_aload_n hx hb d_14_17_45 rfl (lv_at hl 1 rfl) ?_
        refine lv_aload_n hx hb d_14_17_46 rfl (lv_at hl 1 rfl) ?_
        refine q_get (ci := 12) (j := 5) (v := .ref (q 119)) C0 V i_NM rfl rfl hT0 (by decide) w_2303 rfl d_14_17_47 ?_
        refine q_getN (ci := 13) (j := 0) (v := .int y589) C0 V i_WR rfl rfl hO588 (by decide) wo_1922 rfl d_14_17_50 ?_
        refine q_put (ci := 12) (j := 0) (v := .int y589) (ty := .int) C0 V i_NM o_NM n_NM rfl rfl hT0 (by decide) w_2298 rfl rfl rfl rfl (Nat.le_of_ble_eq_true rfl) d_14_17_53 (fun H locs w627 hu628 hT0 V => ?_)
        replace hT0 : w627[116]? = (some (q 116, .inr (12, [.int y589, .ref (q 117), .int t0_1, .ref (q 118), .int t0_2, .ref (q 119), .ref (q 134), .ref (q 145), .ref (q 153), .ref (q 157), .ref (q 167), .ref (q 168)])) : Option (Nat × va_E)) := hT0
        replace hI := n_p116 hI hu628 hT0 (by first | with_reducible exact q_fe btt0_1 | exact ⟨(by have t1 : 0 ≤ t0_1.toInt ∧ t0_1.toInt ≤ 4100 := btt0_1; omega), (by have t1 : 0 ≤ t0_1.toInt ∧ t0_1.toInt ≤ 4100 := btt0_1; omega)⟩) (by first | with_reducible exact q_fe btt0_2 | exact ⟨(by have t1 : 0 ≤ t0_2.toInt ∧ t0_2.toInt ≤ 12200 := btt0_2; omega), (by have t1 : 0 ≤ t0_2.toInt ∧ t0_2.toInt ≤ 12200 := btt0_2; omega)⟩)
        replace hO588 := (hu628 _ (by decide)).trans hO588
        replace hT4 := (hu628 _ (by decide)).trans hT4
        replace hT9 := (hu628 _ (by decide)).trans hT9
        replace hT10 := (hu628 _ (by decide)).trans hT10
        replace hT11 := (hu628 _ (by decide)).trans hT11
        replace hT12 := (hu628 _ (by decide)).trans hT12
        replace hT13 := (hu628 _ (by decide)).trans hT13
        replace hT14 := (hu628 _ (by decide)).trans hT14
        replace hT15 := (hu628 _ (by decide)).trans hT15
        replace hF := q_us hF hu628 (by simp)
        refine lv_lload hx hb d_14_17_56 (lv_at hl 0 rfl) ?_
        exact q_retl C0 V (⟨hI, hF, y589, y589, y590, y591, y592, y593, y594, y595, t4_0, t4_1, t4_2, t4_3, t4_4, t4_5, t4_6, t4_7, t4_8, t4_9, t4_10, t9_0, t9_1, t9_2, t9_3, t9_4, t9_5, t9_6, t9_7, t9_8, t9_9, t9_10, t10_0, t11_0, t12_0, t13_0, t14_0, t15_0, hT0, hO588, hT4, hT9, hT10, hT11, hT12, hT13, hT14, hT15, (show 0 ≤ y589.toInt from (by first | with_reducible exact q_fe b596 | (have t1 : 0 ≤ y589.toInt := b596; omega))), (show y589.toInt ≤ 2 from (by first | with_reducible exact q_fe b597 | (have t1 : y589.toInt ≤ 1 := b597; omega))), (show 0 ≤ t9_2.toInt from (by first | with_reducible exact (q_fe btt9_2).2 | with_reducible exact (q_fe btt9_2).1 | (have t1 : 0 ≤ t9_2.toInt ∧ t9_2.toInt ≤ 1 := btt9_2; omega))), (show t9_2.toInt ≤ 1 from (by first | with_reducible exact (q_fe btt9_2).2 | with_reducible exact (q_fe btt9_2).1 | (have t1 : 0 ≤ t9_2.toInt ∧ t9_2.toInt ≤ 1 := btt9_2; omega))), (show t1_1.toInt ≤ y590.toInt from (by first | with_reducible exact q_fe b598 | (have t1 : t1_1.toInt ≤ y590.toInt := b598; omega))), (show y590.toInt ≤ t1_1.toInt from (by first | with_reducible exact q_fe b599 | (have t1 : y590.toInt ≤ t1_1.toInt := b599; omega))), (show t1_2.toInt ≤ y591.toInt from (by first | with_reducible exact q_fe b600 | (have t1 : t1_2.toInt ≤ y591.toInt := b600; omega))), (show y591.toInt ≤ t1_2.toInt from (by first | with_reducible exact q_fe b601 | (have t1 : y591.toInt ≤ t1_2.toInt := b601; omega))), (show t1_3.toInt ≤ y592.toInt from (by first | with_reducible exact q_fe b602 | (have t1 : t1_3.toInt ≤ y592.toInt := b602; omega))), (show y592.toInt ≤ t1_3.toInt from (by first | with_reducible exact q_fe b603 | (have t1 : y592.toInt ≤ t1_3.toInt := b603; omega))), (show t1_4.toInt ≤ y593.toInt from (by first | with_reducible exact q_fe b604 | (have t1 : t1_4.toInt ≤ y593.toInt := b604; omega))), (show y593.toInt ≤ t1_4.toInt from (by first | with_reducible exact q_fe b605 | (have t1 : y593.toInt ≤ t1_4.toInt := b605; omega))), (show t1_5.toInt ≤ y594.toInt from (by first | with_reducible exact q_fe b606 | (have t1 : t1_5.toInt ≤ y594.toInt := b606; omega))), (show y594.toInt ≤ t1_5.toInt from (by first | with_reducible exact q_fe b607 | (have t1 : y594.toInt ≤ t1_5.toInt := b607; omega))), (show t1_6.toInt ≤ y595.toInt from (by first | with_reducible exact q_fe b608 | (have t1 : t1_6.toInt ≤ y595.toInt := b608; omega))), (show y595.toInt ≤ t1_6.toInt from (by first | with_reducible exact q_fe b609 | (have t1 : y595.toInt ≤ t1_6.toInt := b609; omega))), (show t4_1.toInt ≤ t4_1.toInt from (by omega)), (show t4_1.toInt ≤ t4_1.toInt from (by omega)), (show t4_2.toInt ≤ t4_2.toInt from (by omega)), (show t4_2.toInt ≤ t4_2.toInt from (by omega)), (show t4_3.toInt ≤ t4_3.toInt from (by omega)), (show t4_3.toInt ≤ t4_3.toInt from (by omega)), (show t4_4.toInt ≤ t4_4.toInt from (by omega)), (show t4_4.toInt ≤ t4_4.toInt from (by omega)), (show t4_5.toInt ≤ t4_5.toInt from (by omega)), (show t4_5.toInt ≤ t4_5.toInt from (by omega)), (show t4_6.toInt ≤ t4_6.toInt from (by omega)), (show t4_6.toInt ≤ t4_6.toInt from (by omega)), (show t4_7.toInt ≤ t4_7.toInt from (by omega)), (show t4_7.toInt ≤ t4_7.toInt from (by omega)), (show t4_8.toInt ≤ t4_8.toInt from (by omega)), (show t4_8.toInt ≤ t4_8.toInt from (by omega)), (show t4_9.toInt ≤ t4_9.toInt from (by omega)), (show t4_9.toInt ≤ t4_9.toInt from (by omega)), (show t4_10.toInt ≤ t4_10.toInt from (by omega)), (show t4_10.toInt ≤ t4_10.toInt from (by omega)), (show t9_1.toInt ≤ t9_1.toInt from (by omega)), (show t9_1.toInt ≤ t9_1.toInt from (by omega)), (show (j587, y589, y589, y590, y591, y592, y593, y594, y595, t4_0, t4_1, t4_2, t4_3, t4_4, t4_5, t4_6, t4_7, t4_8, t4_9, t4_10, t9_0, t9_1, t9_2, t9_3, t9_4, t9_5, t9_6, t9_7, t9_8, t9_9, t9_10, t10_0, t11_0, t12_0, t13_0, t14_0, t15_0) = (F_NM_told x2 x3 x4 t0_0 t0_1 t0_2 t1_0 t1_1 t1_2 t1_3 t1_4 t1_5 t1_6 t2_0 t3_0 t4_0 t4_1 t4_2 t4_3 t4_4 t4_5 t4_6 t4_7 t4_8 t4_9 t4_10 t5_0 t6_0 t7_0 t8_0 t9_0 t9_1 t9_2 t9_3 t9_4 t9_5 t9_6 t9_7 t9_8 t9_9 t9_10 t10_0 t11_0 t12_0 t13_0 t14_0 t15_0 t16_0) from Eq.trans (by rw [e621, e620, e619, e618, e617, e616, e615, e614, F_NM_told_c40.eq_1]) hR622)⟩) d_14_17_58
    ·
      refine lv_lconst (v := 0) hx hb d_14_17_28 (by decide) ?_
      exact q_retl C0 V (⟨hI, hF, lx94, t1_0, t1_1, t1_2, t1_3, t1_4, t1_5, t1_6, t4_0, t4_1, t4_2, t4_3, t4_4, t4_5, t4_6, t4_7, t4_8, t4_9, t4_10, t9_0, t9_1, t9_2, t9_3, t9_4, t9_5, t9_6, t9_7, t9_8, t9_9, t9_10, t10_0, t11_0, t12_0, t13_0, t14_0, t15_0, hT0, hT1, hT4, hT9, hT10, hT11, hT12, hT13, hT14, hT15, (show 0 ≤ lx94.toInt from (by have z48 : (0 : Int64).toInt = 0 := rfl; have t1 : 0 ≤ lx94.toInt := i113; omega)), (show lx94.toInt ≤ 2 from (by have z48 : (0 : Int64).toInt = 0 := rfl; have t1 : lx94.toInt ≤ 1 := i114; omega)), (show 0 ≤ t9_2.toInt from (by have z48 : (0 : Int64).toInt = 0 := rfl; have t1 : 0 ≤ t9_2.toInt ∧ t9_2.toInt ≤ 1 := btt9_2; omega)), (show t9_2.toInt ≤ 1 from (by have z48 : (0 : Int64).toInt = 0 := rfl; have t1 : 0 ≤ t9_2.toInt ∧ t9_2.toInt ≤ 1 := btt9_2; omega)), (show t1_1.toInt ≤ t1_1.toInt from (by have z48 : (0 : Int64).toInt = 0 := rfl; omega)), (show t1_1.toInt ≤ t1_1.toInt from (by have z48 : (0 : Int64).toInt = 0 := rfl; omega)), (show t1_2.toInt ≤ t1_2.toInt from (by have z48 : (0 : Int64).toInt = 0 := rfl; omega)), (show t1_2.toInt ≤ t1_2.toInt from (by have z48 : (0 : Int64).toInt = 0 := rfl; omega)), (show t1_3.toInt ≤ t1_3.toInt from (by have z48 : (0 : Int64).toInt = 0 := rfl; omega)), (show t1_3.toInt ≤ t1_3.toInt from (by have z48 : (0 : Int64).toInt = 0 := rfl; omega)), (show t1_4.toInt ≤ t1_4.toInt from (by have z48 : (0 : Int64).toInt = 0 := rfl; omega)), (show t1_4.toInt ≤ t1_4.toInt from (by have z48 : (0 : Int64).toInt = 0 := rfl; omega)), (show t1_5.toInt ≤ t1_5.toInt from (by have z48 : (0 : Int64).toInt = 0 := rfl; omega)), (show t1_5.toInt ≤ t1_5.toInt from (by have z48 : (0 : Int64).toInt = 0 := rfl; omega)), (show t1_6.toInt ≤ t1_6.toInt from (by have z48 : (0 : Int64).toInt = 0 := rfl; omega)), (show t1_6.toInt ≤ t1_6.toInt from (by have z48 : (0 : Int64).toInt = 0 := rfl; omega)), (show t4_1.toInt ≤ t4_1.toInt from (by have z48 : (0 : Int64).toInt = 0 := rfl; omega)), (show t4_1.toInt ≤ t4_1.toInt from (by have z48 : (0 : Int64).toInt = 0 := rfl; omega)), (show t4_2.toInt ≤ t4_2.toInt from (by have z48 : (0 : Int64).toInt = 0 := rfl; omega)), (show t4_2.toInt ≤ t4_2.toInt from (by have z48 : (0 : Int64).toInt = 0 := rfl; omega)), (show t4_3.toInt ≤ t4_3.toInt from (by have z48 : (0 : Int64).toInt = 0 := rfl; omega)), (show t4_3.toInt ≤ t4_3.toInt from (by have z48 : (0 : Int64).toInt = 0 := rfl; omega)), (show t4_4.toInt ≤ t4_4.toInt from (by have z48 : (0 : Int64).toInt = 0 := rfl; omega)), (show t4_4.toInt ≤ t4_4.toInt from (by have z48 : (0 : Int64).toInt = 0 := rfl; omega)), (show t4_5.toInt ≤ t4_5.toInt from (by have z48 : (0 : Int64).toInt = 0 := rfl; omega)), (show t4_5.toInt ≤ t4_5.toInt from (by have z48 : (0 : Int64).toInt = 0 := rfl; omega)), (show t4_6.toInt ≤ t4_6.toInt from (by have z48 : (0 : Int64).toInt = 0 := rfl; omega)), (show t4_6.toInt ≤ t4_6.toInt from (by have z48 : (0 : Int64).toInt = 0 := rfl; omega)), (show t4_7.toInt ≤ t4_7.toInt from (by have z48 : (0 : Int64).toInt = 0 := rfl; omega)), (show t4_7.toInt ≤ t4_7.toInt from (by have z48 : (0 : Int64).toInt = 0 := rfl; omega)), (show t4_8.toInt ≤ t4_8.toInt from (by have z48 : (0 : Int64).toInt = 0 := rfl; omega)), (show t4_8.toInt ≤ t4_8.toInt from (by have z48 : (0 : Int64).toInt = 0 := rfl; omega)), (show t4_9.toInt ≤ t4_9.toInt from (by have z48 : (0 : Int64).toInt = 0 := rfl; omega)), (show t4_9.toInt ≤ t4_9.toInt from (by have z48 : (0 : Int64).toInt = 0 := rfl; omega)), (show t4_10.toInt ≤ t4_10.toInt from (by have z48 : (0 : Int64).toInt = 0 := rfl; omega)), (show t4_10.toInt ≤ t4_10.toInt from (by have z48 : (0 : Int64).toInt = 0 := rfl; omega)), (show t9_1.toInt ≤ t9_1.toInt from (by have z48 : (0 : Int64).toInt = 0 := rfl; omega)), (show t9_1.toInt ≤ t9_1.toInt from (by have z48 : (0 : Int64).toInt = 0 := rfl; omega)), (show ((0 : Int64), lx94, t1_0, t1_1, t1_2, t1_3, t1_4, t1_5, t1_6, t4_0, t4_1, t4_2, t4_3, t4_4, t4_5, t4_6, t4_7, t4_8, t4_9, t4_10, t9_0, t9_1, t9_2, t9_3, t9_4, t9_5, t9_6, t9_7, t9_8, t9_9, t9_10, t10_0, t11_0, t12_0, t13_0, t14_0, t15_0) = (F_NM_told x2 x3 x4 t0_0 t0_1 t0_2 t1_0 t1_1 t1_2 t1_3 t1_4 t1_5 t1_6 t2_0 t3_0 t4_0 t4_1 t4_2 t4_3 t4_4 t4_5 t4_6 t4_7 t4_8 t4_9 t4_10 t5_0 t6_0 t7_0 t8_0 t9_0 t9_1 t9_2 t9_3 t9_4 t9_5 t9_6 t9_7 t9_8 t9_9 t9_10 t10_0 t11_0 t12_0 t13_0 t14_0 t15_0 t16_0) from Eq.trans (by rw [F_NM_told_J18.eq_1, if_neg c122]) hR115)⟩) d_14_17_29
  ·
    intro J112
    refine q_join (X := Unit) (fun z H locs ls _ => q_Wd D g (va_A ws sz) s ws H locs ∧ lv_has ls 6 [(0, .ref (q 116)), (1, .int x2), (2, .int x3), (3, .int x4)] ∧ F_NM_told_J13 x2 x3 x4 t0_0 t0_1 t0_2 t1_0 t1_1 t1_2 t1_3 t1_4 t1_5 t1_6 t2_0 t3_0 t4_0 t4_1 t4_2 t4_3 t4_4 t4_5 t4_6 t4_7 t4_8 t4_9 t4_10 t5_0 t6_0 t7_0 t8_0 t9_0 t9_1 t9_2 t9_3 t9_4 t9_5 t9_6 t9_7 t9_8 t9_9 t9_10 t10_0 t11_0 t12_0 t13_0 t14_0 t15_0 t16_0 = (F_NM_told x2 x3 x4 t0_0 t0_1 t0_2 t1_0 t1_1 t1_2 t1_3 t1_4 t1_5 t1_6 t2_0 t3_0 t4_0 t4_1 t4_2 t4_3 t4_4 t4_5 t4_6 t4_7 t4_8 t4_9 t4_10 t5_0 t6_0 t7_0 t8_0 t9_0 t9_1 t9_2 t9_3 t9_4 t9_5 t9_6 t9_7 t9_8 t9_9 t9_10 t10_0 t11_0 t12_0 t13_0 t14_0 t15_0 t16_0) ∧ True ∧ S_NM_told_J13 x2 x3 x4 t0_0 t0_1 t0_2 t1_0 t1_1 t1_2 t1_3 t1_4 t1_5 t1_6 t2_0 t3_0 t4_0 t4_1 t4_2 t4_3 t4_4 t4_5 t4_6 t4_7 t4_8 t4_9 t4_10 t5_0 t6_0 t7_0 t8_0 t9_0 t9_1 t9_2 t9_3 t9_4 t9_5 t9_6 t9_7 t9_8 t9_9 t9_10 t10_0 t11_0 t12_0 t13_0 t14_0 t15_0 t16_0) (fun z => [.ref (q 116)]) 13 0 0 ?_ ?_
    ·
      rintro _ H locs ls _ ⟨V, hl, hR648, hS649⟩
      replace hl : lv_has ls 6 [(0, .ref (q 116)), (1, .int x2), (2, .int x3), (3, .int x4)] := hl
      refine lv_iconst (v := 1) hx hb d_14_17_13 (by decide) ?_
      refine lv_goto (tgt := 18) hx hb d_14_17_14 (by decide) ?_
      exact J112 ((1 : Int32)) _ _ _ ws ⟨(show q_F (0 ≤ 1) from (show 0 ≤ 1 from by omega)), (show q_F (1 ≤ 1) from (show 1 ≤ 1 from by omega)), V, q_lw hl (q_lw1 0 rfl (q_lw1 1 rfl (q_lw1 2 rfl (q_lw1 3 rfl q_lw0)))), (show F_NM_told_J18 x2 x3 x4 t0_0 t0_1 t0_2 t1_0 t1_1 t1_2 t1_3 t1_4 t1_5 t1_6 t2_0 t3_0 t4_0 t4_1 t4_2 t4_3 t4_4 t4_5 t4_6 t4_7 t4_8 t4_9 t4_10 t5_0 t6_0 t7_0 t8_0 t9_0 t9_1 t9_2 t9_3 t9_4 t9_5 t9_6 t9_7 t9_8 t9_9 t9_10 t10_0 t11_0 t12_0 t13_0 t14_0 t15_0 t16_0 1 = (F_NM_told x2 x3 x4 t0_0 t0_1 t0_2 t1_0 t1_1 t1_2 t1_3 t1_4 t1_5 t1_6 t2_0 t3_0 t4_0 t4_1 t4_2 t4_3 t4_4 t4_5 t4_6 t4_7 t4_8 t4_9 t4_10 t5_0 t6_0 t7_0 t8_0 t9_0 t9_1 t9_2 t9_3 t9_4 t9_5 t9_6 t9_7 t9_8 t9_9 t9_10 t10_0 t11_0 t12_0 t13_0 t14_0 t15_0 t16_0) from Eq.trans (by rw [F_NM_told_J13.eq_1]) hR648), (show True ∧ S_NM_told_J18 x2 x3 x4 t0_0 t0_1 t0_2 t1_0 t1_1 t1_2 t1_3 t1_4 t1_5 t1_6 t2_0 t3_0 t4_0 t4_1 t4_2 t4_3 t4_4 t4_5 t4_6 t4_7 t4_8 t4_9 t4_10 t5_0 t6_0 t7_0 t8_0 t9_0 t9_1 t9_2 t9_3 t9_4 t9_5 t9_6 t9_7 t9_8 t9_9 t9_10 t10_0 t11_0 t12_0 t13_0 t14_0 t15_0 t16_0 1 from (by have h := hS649; rw [S_NM_told_J13.eq_1] at h; with_reducible exact h))⟩
    ·
      intro J647
      refine lv_if_ne (tgt := 13) hx hb d_14_17_6 (by decide) (fun c653 => ?_) (fun c653 => ?_)
      ·
        exact J647 (()) _ _ _ ws ⟨V, q_lw hl (q_lw1 0 rfl (q_lw1 1 rfl (q_lw1 2 rfl (q_lw1 3 rfl q_lw0)))), (show F_NM_told_J13 x2 x3 x4 t0_0 t0_1 t0_2 t1_0 t1_1 t1_2 t1_3 t1_4 t1_5 t1_6 t2_0 t3_0 t4_0 t4_1 t4_2 t4_3 t4_4 t4_5 t4_6 t4_7 t4_8 t4_9 t4_10 t5_0 t6_0 t7_0 t8_0 t9_0 t9_1 t9_2 t9_3 t9_4 t9_5 t9_6 t9_7 t9_8 t9_9 t9_10 t10_0 t11_0 t12_0 t13_0 t14_0 t15_0 t16_0 = (F_NM_told x2 x3 x4 t0_0 t0_1 t0_2 t1_0 t1_1 t1_2 t1_3 t1_4 t1_5 t1_6 t2_0 t3_0 t4_0 t4_1 t4_2 t4_3 t4_4 t4_5 t4_6 t4_7 t4_8 t4_9 t4_10 t5_0 t6_0 t7_0 t8_0 t9_0 t9_1 t9_2 t9_3 t9_4 t9_5 t9_6 t9_7 t9_8 t9_9 t9_10 t10_0 t11_0 t12_0 t13_0 t14_0 t15_0 t16_0) from (by have c653x := c653; rw [e93] at c653x; rw [F_NM_told.eq_1, if_neg c653x])), (show True ∧ S_NM_told_J13 x2 x3 x4 t0_0 t0_1 t0_2 t1_0 t1_1 t1_2 t1_3 t1_4 t1_5 t1_6 t2_0 t3_0 t4_0 t4_1 t4_2 t4_3 t4_4 t4_5 t4_6 t4_7 t4_8 t4_9 t4_10 t5_0 t6_0 t7_0 t8_0 t9_0 t9_1 t9_2 t9_3 t9_4 t9_5 t9_6 t9_7 t9_8 t9_9 t9_10 t10_0 t11_0 t12_0 t13_0 t14_0 t15_0 t16_0 from (by have h := hS; rw [S_NM_told.eq_1] at h; have c653x := c653; rw [e93] at c653x; rw [if_neg c653x] at h; with_reducible exact h))⟩
      ·
        refine lv_iload_n hx hb d_14_17_9 rfl (lv_at hl 3 rfl) ?_
        refine lv_if_ge (tgt := 17) hx hb d_14_17_10 (by decide) (fun c656 => ?_) (fun c656 => ?_)
        ·
          refine lv_iconst (v := 0) hx hb d_14_17_17 (by decide) ?_
          exact J112 ((0 : Int32)) _ _ _ ws ⟨(show q_F (0 ≤ 0) from (show 0 ≤ 0 from by omega)), (show q_F (0 ≤ 1) from (show 0 ≤ 1 from by omega)), V, q_lw hl (q_lw1 0 rfl (q_lw1 1 rfl (q_lw1 2 rfl (q_lw1 3 rfl q_lw0)))), (show F_NM_told_J18 x2 x3 x4 t0_0 t0_1 t0_2 t1_0 t1_1 t1_2 t1_3 t1_4 t1_5 t1_6 t2_0 t3_0 t4_0 t4_1 t4_2 t4_3 t4_4 t4_5 t4_6 t4_7 t4_8 t4_9 t4_10 t5_0 t6_0 t7_0 t8_0 t9_0 t9_1 t9_2 t9_3 t9_4 t9_5 t9_6 t9_7 t9_8 t9_9 t9_10 t10_0 t11_0 t12_0 t13_0 t14_0 t15_0 t16_0 0 = (F_NM_told x2 x3 x4 t0_0 t0_1 t0_2 t1_0 t1_1 t1_2 t1_3 t1_4 t1_5 t1_6 t2_0 t3_0 t4_0 t4_1 t4_2 t4_3 t4_4 t4_5 t4_6 t4_7 t4_8 t4_9 t4_10 t5_0 t6_0 t7_0 t8_0 t9_0 t9_1 t9_2 t9_3 t9_4 t9_5 t9_6 t9_7 t9_8 t9_9 t9_10 t10_0 t11_0 t12_0 t13_0 t14_0 t15_0 t16_0) from (by have c653x := c653; rw [e93] at c653x; rw [F_NM_told.eq_1, if_pos c653x, if_pos c656])), (show True ∧ S_NM_told_J18 x2 x3 x4 t0_0 t0_1 t0_2 t1_0 t1_1 t1_2 t1_3 t1_4 t1_5 t1_6 t2_0 t3_0 t4_0 t4_1 t4_2 t4_3 t4_4 t4_5 t4_6 t4_7 t4_8 t4_9 t4_10 t5_0 t6_0 t7_0 t8_0 t9_0 t9_1 t9_2 t9_3 t9_4 t9_5 t9_6 t9_7 t9_8 t9_9 t9_10 t10_0 t11_0 t12_0 t13_0 t14_0 t15_0 t16_0 0 from (by have h := hS; rw [S_NM_told.eq_1] at h; have c653x := c653; rw [e93] at c653x; rw [if_pos c653x] at h; rw [if_pos c656] at h; with_reducible exact h))⟩
        ·
          exact J647 (()) _ _ _ ws ⟨V, q_lw hl (q_lw1 0 rfl (q_lw1 1 rfl (q_lw1 2 rfl (q_lw1 3 rfl q_lw0)))), (show F_NM_told_J13 x2 x3 x4 t0_0 t0_1 t0_2 t1_0 t1_1 t1_2 t1_3 t1_4 t1_5 t1_6 t2_0 t3_0 t4_0 t4_1 t4_2 t4_3 t4_4 t4_5 t4_6 t4_7 t4_8 t4_9 t4_10 t5_0 t6_0 t7_0 t8_0 t9_0 t9_1 t9_2 t9_3 t9_4 t9_5 t9_6 t9_7 t9_8 t9_9 t9_10 t10_0 t11_0 t12_0 t13_0 t14_0 t15_0 t16_0 = (F_NM_told x2 x3 x4 t0_0 t0_1 t0_2 t1_0 t1_1 t1_2 t1_3 t1_4 t1_5 t1_6 t2_0 t3_0 t4_0 t4_1 t4_2 t4_3 t4_4 t4_5 t4_6 t4_7 t4_8 t4_9 t4_10 t5_0 t6_0 t7_0 t8_0 t9_0 t9_1 t9_2 t9_3 t9_4 t9_5 t9_6 t9_7 t9_8 t9_9 t9_10 t10_0 t11_0 t12_0 t13_0 t14_0 t15_0 t16_0) from (by have c653x := c653; rw [e93] at c653x; rw [F_NM_told.eq_1, if_pos c653x, if_neg c656])), (show True ∧ S_NM_told_J13 x2 x3 x4 t0_0 t0_1 t0_2 t1_0 t1_1 t1_2 t1_3 t1_4 t1_5 t1_6 t2_0 t3_0 t4_0 t4_1 t4_2 t4_3 t4_4 t4_5 t4_6 t4_7 t4_8 t4_9 t4_10 t5_0 t6_0 t7_0 t8_0 t9_0 t9_1 t9_2 t9_3 t9_4 t9_5 t9_6 t9_7 t9_8 t9_9 t9_10 t10_0 t11_0 t12_0 t13_0 t14_0 t15_0 t16_0 from (by have h := hS; rw [S_NM_told.eq_1] at h; have c653x := c653; rw [e93] at c653x; rw [if_pos c653x] at h; rw [if_neg c656] at h; with_reducible exact h))⟩

