theorem d_14_24_0 : decode prog_14_method_24_code 0 = .ok (.aload_n 0, 1) := by decide +kernel
theorem d_14_24_1 : decode prog_14_method_24_code 1 = .ok (.iload_n 1, 1) := by decide +kernel
theorem d_14_24_30 : decode prog_14_method_24_code 30 = .ok (.putfield 58, 3) := by decide +kernel
theorem d_14_24_33 : decode prog_14_method_24_code 33 = .ok (.aload_n 0, 1) := by decide +kernel
theorem d_14_24_34 : decode prog_14_method_24_code 34 = .ok (.getfield 58, 3) := by decide +kernel
theorem d_14_24_37 : decode prog_14_method_24_code 37 = .ok (.ifCond .le 4, 3) := by decide +kernel
theorem d_14_24_41 : decode prog_14_method_24_code 41 = .ok (.iload_n 1, 1) := by decide +kernel
theorem d_14_24_42 : decode prog_14_method_24_code 42 = .ok (.ifCond .ne 17, 3) := by decide +kernel
theorem d_14_24_59 : decode prog_14_method_24_code 59 = .ok (.iload_n 1, 1) := by decide +kernel
theorem d_14_24_60 : decode prog_14_method_24_code 60 = .ok (.iconst 1, 1) := by decide +kernel
theorem d_14_24_61 : decode prog_14_method_24_code 61 = .ok (.if_icmp .ne 17, 3) := by decide +kernel
theorem d_14_24_78 : decode prog_14_method_24_code 78 = .ok (.aload_n 0, 1) := by decide +kernel
theorem d_14_24_79 : decode prog_14_method_24_code 79 = .ok (.getfield 26, 3) := by decide +kernel
theorem d_14_24_82 : decode prog_14_method_24_code 82 = .ok (.iload_n 2, 1) := by decide +kernel
theorem d_14_24_83 : decode prog_14_method_24_code 83 = .ok (.iload 4, 2) := by decide +kernel
theorem d_14_24_85 : decode prog_14_method_24_code 85 = .ok (.invokevirtual 210, 3) := by decide +kernel
set_option maxRecDepth 100000 in
theorem w_2859 : (Cond.code ({ cls := "NumberHouseModel$DecimalRows", name := "strip", desc := "(II)V" } : MethodName) prog_15_method_45_code (4 : Nat) (none : Option ClassFile.FieldType)) ∈ q_tbl := q_of12 219 rfl (by decide +kernel)
set_option maxRecDepth 100000 in
theorem w_2856 : (Cond.methodLink "NumberHouseModel" (210 : Nat) ({ cls := "NumberHouseModel$DecimalRows", name := "strip", desc := "(II)V" } : MethodName)) ∈ q_tbl := q_of12 216 rfl (by decide +kernel)
set_option maxRecDepth 100000 in
theorem w_2857 : (Cond.instanceMethod ({ cls := "NumberHouseModel$DecimalRows", name := "strip", desc := "(II)V" } : MethodName)) ∈ q_tbl := q_of12 217 rfl (by decide +kernel)
set_option maxRecDepth 100000 in
theorem w_2858 : (Cond.selects "NumberHouseModel$DecimalRows" ({ cls := "NumberHouseModel$DecimalRows", name := "strip", desc := "(II)V" } : MethodName) ({ cls := "NumberHouseModel$DecimalRows", name := "strip", desc := "(II)V" } : MethodName)) ∈ q_tbl := q_of12 218 rfl (by decide +kernel)
theorem LV_NM_210 : q_LV "NumberHouseModel" 210 y_DR_strip prog_15_method_45_code 4 none 2 := ⟨w_2859, w_16, w_2856, w_2857, w_2858, ⟨by decide, by decide, by decide +kernel⟩⟩
theorem d_14_24_88 : decode prog_14_method_24_code 88 = .ok (.aload_n 0, 1) := by decide +kernel
theorem d_14_24_89 : decode prog_14_method_24_code 89 = .ok (.aload_n 0, 1) := by decide +kernel
theorem d_14_24_90 : decode prog_14_method_24_code 90 = .ok (.getfield 26, 3) := by decide +kernel
theorem d_14_24_93 : decode prog_14_method_24_code 93 = .ok (.getfield 105, 3) := by decide +kernel
theorem d_14_24_96 : decode prog_14_method_24_code 96 = .ok (.putfield 58, 3) := by decide +kernel
theorem d_14_24_99 : decode prog_14_method_24_code 99 = .ok (.return_, 1) := by decide +kernel
theorem d_14_24_64 : decode prog_14_method_24_code 64 = .ok (.aload_n 0, 1) := by decide +kernel
theorem d_14_24_65 : decode prog_14_method_24_code 65 = .ok (.getfield 26, 3) := by decide +kernel
theorem d_14_24_68 : decode prog_14_method_24_code 68 = .ok (.iload_n 2, 1) := by decide +kernel
theorem d_14_24_69 : decode prog_14_method_24_code 69 = .ok (.iload 4, 2) := by decide +kernel
theorem d_14_24_71 : decode prog_14_method_24_code 71 = .ok (.iload_n 3, 1) := by decide +kernel
theorem d_14_24_72 : decode prog_14_method_24_code 72 = .ok (.invokevirtual 209, 3) := by decide +kernel
set_option maxRecDepth 100000 in
theorem w_2855 : (Cond.code ({ cls := "NumberHouseModel$DecimalRows", name := "shift", desc := "(III)V" } : MethodName) prog_15_method_46_code (4 : Nat) (none : Option ClassFile.FieldType)) ∈ q_tbl := q_of12 215 rfl (by decide +kernel)
set_option maxRecDepth 100000 in
theorem w_2852 : (Cond.methodLink "NumberHouseModel" (209 : Nat) ({ cls := "NumberHouseModel$DecimalRows", name := "shift", desc := "(III)V" } : MethodName)) ∈ q_tbl := q_of12 212 rfl (by decide +kernel)
set_option maxRecDepth 100000 in
theorem w_2853 : (Cond.instanceMethod ({ cls := "NumberHouseModel$DecimalRows", name := "shift", desc := "(III)V" } : MethodName)) ∈ q_tbl := q_of12 213 rfl (by decide +kernel)
set_option maxRecDepth 100000 in
theorem w_2854 : (Cond.selects "NumberHouseModel$DecimalRows" ({ cls := "NumberHouseModel$DecimalRows", name := "shift", desc := "(III)V" } : MethodName) ({ cls := "NumberHouseModel$DecimalRows", name := "shift", desc := "(III)V" } : MethodName)) ∈ q_tbl := q_of12 214 rfl (by decide +kernel)
theorem LV_NM_209 : q_LV "NumberHouseModel" 209 y_DR_shift prog_15_method_46_code 4 none 3 := ⟨w_2855, w_16, w_2852, w_2853, w_2854, ⟨by decide, by decide, by decide +kernel⟩⟩
theorem d_14_24_75 : decode prog_14_method_24_code 75 = .ok (.goto 13, 3) := by decide +kernel
theorem d_14_24_45 : decode prog_14_method_24_code 45 = .ok (.aload_n 0, 1) := by decide +kernel
theorem d_14_24_46 : decode prog_14_method_24_code 46 = .ok (.getfield 26, 3) := by decide +kernel
theorem d_14_24_49 : decode prog_14_method_24_code 49 = .ok (.iload_n 2, 1) := by decide +kernel
theorem d_14_24_50 : decode prog_14_method_24_code 50 = .ok (.iload_n 3, 1) := by decide +kernel
theorem d_14_24_51 : decode prog_14_method_24_code 51 = .ok (.iload 4, 2) := by decide +kernel
theorem d_14_24_53 : decode prog_14_method_24_code 53 = .ok (.invokevirtual 208, 3) := by decide +kernel
set_option maxRecDepth 100000 in
theorem w_2851 : (Cond.code ({ cls := "NumberHouseModel$DecimalRows", name := "power", desc := "(III)V" } : MethodName) prog_15_method_29_code (5 : Nat) (none : Option ClassFile.FieldType)) ∈ q_tbl := q_of12 211 rfl (by decide +kernel)
set_option maxRecDepth 100000 in
theorem w_2848 : (Cond.methodLink "NumberHouseModel" (208 : Nat) ({ cls := "NumberHouseModel$DecimalRows", name := "power", desc := "(III)V" } : MethodName)) ∈ q_tbl := q_of12 208 rfl (by decide +kernel)
set_option maxRecDepth 100000 in
theorem w_2849 : (Cond.instanceMethod ({ cls := "NumberHouseModel$DecimalRows", name := "power", desc := "(III)V" } : MethodName)) ∈ q_tbl := q_of12 209 rfl (by decide +kernel)
set_option maxRecDepth 100000 in
theorem w_2850 : (Cond.selects "NumberHouseModel$DecimalRows" ({ cls := "NumberHouseModel$DecimalRows", name := "power", desc := "(III)V" } : MethodName) ({ cls := "NumberHouseModel$DecimalRows", name := "power", desc := "(III)V" } : MethodName)) ∈ q_tbl := q_of12 210 rfl (by decide +kernel)
theorem LV_NM_208 : q_LV "NumberHouseModel" 208 y_DR_power prog_15_method_29_code 5 none 3 := ⟨w_2851, w_16, w_2848, w_2849, w_2850, ⟨by decide, by decide, by decide +kernel⟩⟩
theorem d_14_24_56 : decode prog_14_method_24_code 56 = .ok (.goto 32, 3) := by decide +kernel
theorem d_14_24_40 : decode prog_14_method_24_code 40 = .ok (.return_, 1) := by decide +kernel
theorem d_14_24_25 : decode prog_14_method_24_code 25 = .ok (.iconst 1, 1) := by decide +kernel
theorem d_14_24_26 : decode prog_14_method_24_code 26 = .ok (.goto 4, 3) := by decide +kernel
theorem d_14_24_2 : decode prog_14_method_24_code 2 = .ok (.ifCond .lt 23, 3) := by decide +kernel
theorem d_14_24_5 : decode prog_14_method_24_code 5 = .ok (.iload_n 1, 1) := by decide +kernel
theorem d_14_24_6 : decode prog_14_method_24_code 6 = .ok (.iconst 2, 1) := by decide +kernel
theorem d_14_24_7 : decode prog_14_method_24_code 7 = .ok (.if_icmp .gt 18, 3) := by decide +kernel
theorem d_14_24_10 : decode prog_14_method_24_code 10 = .ok (.iload_n 2, 1) := by decide +kernel
theorem d_14_24_11 : decode prog_14_method_24_code 11 = .ok (.invokestatic 70, 3) := by decide +kernel
theorem d_14_24_14 : decode prog_14_method_24_code 14 = .ok (.ifCond .ne 11, 3) := by decide +kernel
theorem d_14_24_17 : decode prog_14_method_24_code 17 = .ok (.iload 4, 2) := by decide +kernel
theorem d_14_24_19 : decode prog_14_method_24_code 19 = .ok (.invokestatic 70, 3) := by decide +kernel
theorem d_14_24_22 : decode prog_14_method_24_code 22 = .ok (.ifCond .eq 7, 3) := by decide +kernel
theorem d_14_24_29 : decode prog_14_method_24_code 29 = .ok (.iconst 0, 1) := by decide +kernel
def y_NM_decimalBy : MethodName := ⟨"NumberHouseModel", "decimalBy", "(IIII)V"⟩
def F_NM_decimalBy_c85 (x2 : Int32) (x3 : Int32) (x4 : Int32) (x5 : Int32) (t0_0 : Int32) (t0_1 : Int32) (t0_2 : Int32) (t1_0 : Int32) (t1_1 : Int32) (t1_2 : Int32) (t1_3 : Int64) (t1_4 : Int32) (t1_5 : Int32) (t1_6 : Int32) (t1_7 : Int32) (t1_8 : Int32) (t1_9 : Int32) (t1_10 : Int32) (t2_0 : (Nat → Int32)) (t3_0 : (Nat → Int32)) (t4_0 : (Nat → Int32)) (t5_0 : (Nat → Int32)) (t6_0 : (Nat → Int32)) (t7_0 : (Nat → Int32)) (lx41 : Int32) (p107 : (Int32 × Int32 × Int32 × Int64 × Int32 × Int32 × Int32 × Int32 × Int32 × Int32 × Int32 × (Nat → Int32) × (Nat → Int32) × (Nat → Int32) × (Nat → Int32) × (Nat → Int32))) : Int32 × Int32 × Int32 × Int32 × Int64 × Int32 × Int32 × Int32 × Int32 × Int32 × Int32 × Int32 × (Nat → Int32) × (Nat → Int32) × (Nat → Int32) × (Nat → Int32) × (Nat → Int32) × (Nat → Int32) := ((p107.1 : Int32), (p107.1 : Int32), (p107.2.1 : Int32), (p107.2.2.1 : Int32), (p107.2.2.2.1 : Int64), (p107.2.2.2.2.1 : Int32), (p107.2.2.2.2.2.1 : Int32), (p107.2.2.2.2.2.2.1 : Int32), (p107.2.2.2.2.2.2.2.1 : Int32), (p107.2.2.2.2.2.2.2.2.1 : Int32), (p107.2.2.2.2.2.2.2.2.2.1 : Int32), (p107.2.2.2.2.2.2.2.2.2.2.1 : Int32), (p107.2.2.2.2.2.2.2.2.2.2.2.1 : (Nat → Int32)), (p107.2.2.2.2.2.2.2.2.2.2.2.2.1 : (Nat → Int32)), (p107.2.2.2.2.2.2.2.2.2.2.2.2.2.1 : (Nat → Int32)), (p107.2.2.2.2.2.2.2.2.2.2.2.2.2.2.1 : (Nat → Int32)), (p107.2.2.2.2.2.2.2.2.2.2.2.2.2.2.2 : (Nat → Int32)), t7_0)
def F_NM_decimalBy_c72 (x2 : Int32) (x3 : Int32) (x4 : Int32) (x5 : Int32) (t0_0 : Int32) (t0_1 : Int32) (t0_2 : Int32) (t1_0 : Int32) (t1_1 : Int32) (t1_2 : Int32) (t1_3 : Int64) (t1_4 : Int32) (t1_5 : Int32) (t1_6 : Int32) (t1_7 : Int32) (t1_8 : Int32) (t1_9 : Int32) (t1_10 : Int32) (t2_0 : (Nat → Int32)) (t3_0 : (Nat → Int32)) (t4_0 : (Nat → Int32)) (t5_0 : (Nat → Int32)) (t6_0 : (Nat → Int32)) (t7_0 : (Nat → Int32)) (lx41 : Int32) (p174 : (Int32 × Int32 × Int32 × Int64 × Int32 × Int32 × Int32 × Int32 × Int32 × Int32 × Int32 × (Nat → Int32) × (Nat → Int32) × (Nat → Int32) × (Nat → Int32) × (Nat → Int32))) : Int32 × Int32 × Int32 × Int32 × Int64 × Int32 × Int32 × Int32 × Int32 × Int32 × Int32 × Int32 × (Nat → Int32) × (Nat → Int32) × (Nat → Int32) × (Nat → Int32) × (Nat → Int32) × (Nat → Int32) := ((p174.1 : Int32), (p174.1 : Int32), (p174.2.1 : Int32), (p174.2.2.1 : Int32), (p174.2.2.2.1 : Int64), (p174.2.2.2.2.1 : Int32), (p174.2.2.2.2.2.1 : Int32), (p174.2.2.2.2.2.2.1 : Int32), (p174.2.2.2.2.2.2.2.1 : Int32), (p174.2.2.2.2.2.2.2.2.1 : Int32), (p174.2.2.2.2.2.2.2.2.2.1 : Int32), (p174.2.2.2.2.2.2.2.2.2.2.1 : Int32), (p174.2.2.2.2.2.2.2.2.2.2.2.1 : (Nat → Int32)), (p174.2.2.2.2.2.2.2.2.2.2.2.2.1 : (Nat → Int32)), (p174.2.2.2.2.2.2.2.2.2.2.2.2.2.1 : (Nat → Int32)), (p174.2.2.2.2.2.2.2.2.2.2.2.2.2.2.1 : (Nat → Int32)), (p174.2.2.2.2.2.2.2.2.2.2.2.2.2.2.2 : (Nat → Int32)), t7_0)
def F_NM_decimalBy_c53 (x2 : Int32) (x3 : Int32) (x4 : Int32) (x5 : Int32) (t0_0 : Int32) (t0_1 : Int32) (t0_2 : Int32) (t1_0 : Int32) (t1_1 : Int32) (t1_2 : Int32) (t1_3 : Int64) (t1_4 : Int32) (t1_5 : Int32) (t1_6 : Int32) (t1_7 : Int32) (t1_8 : Int32) (t1_9 : Int32) (t1_10 : Int32) (t2_0 : (Nat → Int32)) (t3_0 : (Nat → Int32)) (t4_0 : (Nat → Int32)) (t5_0 : (Nat → Int32)) (t6_0 : (Nat → Int32)) (t7_0 : (Nat → Int32)) (lx41 : Int32) (p243 : (Int32 × Int32 × Int32 × Int64 × Int32 × Int32 × Int32 × Int32 × Int32 × Int32 × Int32 × (Nat → Int32) × (Nat → Int32) × (Nat → Int32) × (Nat → Int32) × (Nat → Int32) × (Nat → Int32))) : Int32 × Int32 × Int32 × Int32 × Int64 × Int32 × Int32 × Int32 × Int32 × Int32 × Int32 × Int32 × (Nat → Int32) × (Nat → Int32) × (Nat → Int32) × (Nat → Int32) × (Nat → Int32) × (Nat → Int32) := ((p243.1 : Int32), (p243.1 : Int32), (p243.2.1 : Int32), (p243.2.2.1 : Int32), (p243.2.2.2.1 : Int64), (p243.2.2.2.2.1 : Int32), (p243.2.2.2.2.2.1 : Int32), (p243.2.2.2.2.2.2.1 : Int32), (p243.2.2.2.2.2.2.2.1 : Int32), (p243.2.2.2.2.2.2.2.2.1 : Int32), (p243.2.2.2.2.2.2.2.2.2.1 : Int32), (p243.2.2.2.2.2.2.2.2.2.2.1 : Int32), (p243.2.2.2.2.2.2.2.2.2.2.2.1 : (Nat → Int32)), (p243.2.2.2.2.2.2.2.2.2.2.2.2.1 : (Nat → Int32)), (p243.2.2.2.2.2.2.2.2.2.2.2.2.2.1 : (Nat → Int32)), (p243.2.2.2.2.2.2.2.2.2.2.2.2.2.2.1 : (Nat → Int32)), (p243.2.2.2.2.2.2.2.2.2.2.2.2.2.2.2.1 : (Nat → Int32)), (p243.2.2.2.2.2.2.2.2.2.2.2.2.2.2.2.2 : (Nat → Int32)))
def F_NM_decimalBy_J30 (x2 : Int32) (x3 : Int32) (x4 : Int32) (x5 : Int32) (t0_0 : Int32) (t0_1 : Int32) (t0_2 : Int32) (t1_0 : Int32) (t1_1 : Int32) (t1_2 : Int32) (t1_3 : Int64) (t1_4 : Int32) (t1_5 : Int32) (t1_6 : Int32) (t1_7 : Int32) (t1_8 : Int32) (t1_9 : Int32) (t1_10 : Int32) (t2_0 : (Nat → Int32)) (t3_0 : (Nat → Int32)) (t4_0 : (Nat → Int32)) (t5_0 : (Nat → Int32)) (t6_0 : (Nat → Int32)) (t7_0 : (Nat → Int32)) (lx41 : Int32) : Int32 × Int32 × Int32 × Int32 × Int64 × Int32 × Int32 × Int32 × Int32 × Int32 × Int32 × Int32 × (Nat → Int32) × (Nat → Int32) × (Nat → Int32) × (Nat → Int32) × (Nat → Int32) × (Nat → Int32) := if lx41 ≤ (0 : Int32) then (if x2 = (0 : Int32) then (F_NM_decimalBy_c53 x2 x3 x4 x5 t0_0 t0_1 t0_2 t1_0 t1_1 t1_2 t1_3 t1_4 t1_5 t1_6 t1_7 t1_8 t1_9 t1_10 t2_0 t3_0 t4_0 t5_0 t6_0 t7_0 lx41 ((F_DR_power x3 x4 x5 t1_0 t1_1 t1_2 t1_3 t1_4 t1_5 t1_6 t1_7 t1_8 t1_9 t1_10 t2_0 t3_0 t4_0 t5_0 t6_0 t7_0) : (Int32 × Int32 × Int32 × Int64 × Int32 × Int32 × Int32 × Int32 × Int32 × Int32 × Int32 × (Nat → Int32) × (Nat → Int32) × (Nat → Int32) × (Nat → Int32) × (Nat → Int32) × (Nat → Int32)))) else (if x2 = (1 : Int32) then (F_NM_decimalBy_c72 x2 x3 x4 x5 t0_0 t0_1 t0_2 t1_0 t1_1 t1_2 t1_3 t1_4 t1_5 t1_6 t1_7 t1_8 t1_9 t1_10 t2_0 t3_0 t4_0 t5_0 t6_0 t7_0 lx41 ((F_DR_shift x3 x5 x4 t1_0 t1_1 t1_2 t1_3 t1_4 t1_5 t1_6 t1_7 t1_8 t1_9 t1_10 t2_0 t3_0 t4_0 t5_0 t6_0) : (Int32 × Int32 × Int32 × Int64 × Int32 × Int32 × Int32 × Int32 × Int32 × Int32 × Int32 × (Nat → Int32) × (Nat → Int32) × (Nat → Int32) × (Nat → Int32) × (Nat → Int32)))) else (F_NM_decimalBy_c85 x2 x3 x4 x5 t0_0 t0_1 t0_2 t1_0 t1_1 t1_2 t1_3 t1_4 t1_5 t1_6 t1_7 t1_8 t1_9 t1_10 t2_0 t3_0 t4_0 t5_0 t6_0 t7_0 lx41 ((F_DR_strip x3 x5 t1_0 t1_1 t1_2 t1_3 t1_4 t1_5 t1_6 t1_7 t1_8 t1_9 t1_10 t2_0 t3_0 t4_0 t5_0 t6_0) : (Int32 × Int32 × Int32 × Int64 × Int32 × Int32 × Int32 × Int32 × Int32 × Int32 × Int32 × (Nat → Int32) × (Nat → Int32) × (Nat → Int32) × (Nat → Int32) × (Nat → Int32)))))) else ((lx41, t1_0, t1_1, t1_2, t1_3, t1_4, t1_5, t1_6, t1_7, t1_8, t1_9, t1_10, t2_0, t3_0, t4_0, t5_0, t6_0, t7_0))
def F_NM_decimalBy_J25 (x2 : Int32) (x3 : Int32) (x4 : Int32) (x5 : Int32) (t0_0 : Int32) (t0_1 : Int32) (t0_2 : Int32) (t1_0 : Int32) (t1_1 : Int32) (t1_2 : Int32) (t1_3 : Int64) (t1_4 : Int32) (t1_5 : Int32) (t1_6 : Int32) (t1_7 : Int32) (t1_8 : Int32) (t1_9 : Int32) (t1_10 : Int32) (t2_0 : (Nat → Int32)) (t3_0 : (Nat → Int32)) (t4_0 : (Nat → Int32)) (t5_0 : (Nat → Int32)) (t6_0 : (Nat → Int32)) (t7_0 : (Nat → Int32)) : Int32 × Int32 × Int32 × Int32 × Int64 × Int32 × Int32 × Int32 × Int32 × Int32 × Int32 × Int32 × (Nat → Int32) × (Nat → Int32) × (Nat → Int32) × (Nat → Int32) × (Nat → Int32) × (Nat → Int32) := F_NM_decimalBy_J30 x2 x3 x4 x5 t0_0 t0_1 t0_2 t1_0 t1_1 t1_2 t1_3 t1_4 t1_5 t1_6 t1_7 t1_8 t1_9 t1_10 t2_0 t3_0 t4_0 t5_0 t6_0 t7_0 1
def F_NM_decimalBy (x2 : Int32) (x3 : Int32) (x4 : Int32) (x5 : Int32) (t0_0 : Int32) (t0_1 : Int32) (t0_2 : Int32) (t1_0 : Int32) (t1_1 : Int32) (t1_2 : Int32) (t1_3 : Int64) (t1_4 : Int32) (t1_5 : Int32) (t1_6 : Int32) (t1_7 : Int32) (t1_8 : Int32) (t1_9 : Int32) (t1_10 : Int32) (t2_0 : (Nat → Int32)) (t3_0 : (Nat → Int32)) (t4_0 : (Nat → Int32)) (t5_0 : (Nat → Int32)) (t6_0 : (Nat → Int32)) (t7_0 : (Nat → Int32)) : Int32 × Int32 × Int32 × Int32 × Int64 × Int32 × Int32 × Int32 × Int32 × Int32 × Int32 × Int32 × (Nat → Int32) × (Nat → Int32) × (Nat → Int32) × (Nat → Int32) × (Nat → Int32) × (Nat → Int32) := if x2 < (0 : Int32) then (F_NM_decimalBy_J25 x2 x3 x4 x5 t0_0 t0_1 t0_2 t1_0 t1_1 t1_2 t1_3 t1_4 t1_5 t1_6 t1_7 t1_8 t1_9 t1_10 t2_0 t3_0 t4_0 t5_0 t6_0 t7_0) else (if (2 : Int32) < x2 then (F_NM_decimalBy_J25 x2 x3 x4 x5 t0_0 t0_1 t0_2 t1_0 t1_1 t1_2 t1_3 t1_4 t1_5 t1_6 t1_7 t1_8 t1_9 t1_10 t2_0 t3_0 t4_0 t5_0 t6_0 t7_0) else (if ((F_NM_no_IZ x3) : Int32) = (0 : Int32) then (if ((F_NM_no_IZ x5) : Int32) = (0 : Int32) then (F_NM_decimalBy_J30 x2 x3 x4 x5 t0_0 t0_1 t0_2 t1_0 t1_1 t1_2 t1_3 t1_4 t1_5 t1_6 t1_7 t1_8 t1_9 t1_10 t2_0 t3_0 t4_0 t5_0 t6_0 t7_0 0) else (F_NM_decimalBy_J25 x2 x3 x4 x5 t0_0 t0_1 t0_2 t1_0 t1_1 t1_2 t1_3 t1_4 t1_5 t1_6 t1_7 t1_8 t1_9 t1_10 t2_0 t3_0 t4_0 t5_0 t6_0 t7_0)) else (F_NM_decimalBy_J25 x2 x3 x4 x5 t0_0 t0_1 t0_2 t1_0 t1_1 t1_2 t1_3 t1_4 t1_5 t1_6 t1_7 t1_8 t1_9 t1_10 t2_0 t3_0 t4_0 t5_0 t6_0 t7_0)))
def S_NM_decimalBy_c85 (x2 : Int32) (x3 : Int32) (x4 : Int32) (x5 : Int32) (t0_0 : Int32) (t0_1 : Int32) (t0_2 : Int32) (t1_0 : Int32) (t1_1 : Int32) (t1_2 : Int32) (t1_3 : Int64) (t1_4 : Int32) (t1_5 : Int32) (t1_6 : Int32) (t1_7 : Int32) (t1_8 : Int32) (t1_9 : Int32) (t1_10 : Int32) (t2_0 : (Nat → Int32)) (t3_0 : (Nat → Int32)) (t4_0 : (Nat → Int32)) (t5_0 : (Nat → Int32)) (t6_0 : (Nat → Int32)) (t7_0 : (Nat → Int32)) (lx41 : Int32) (p107 : (Int32 × Int32 × Int32 × Int64 × Int32 × Int32 × Int32 × Int32 × Int32 × Int32 × Int32 × (Nat → Int32) × (Nat → Int32) × (Nat → Int32) × (Nat → Int32) × (Nat → Int32))) : Prop := True
def S_NM_decimalBy_c72 (x2 : Int32) (x3 : Int32) (x4 : Int32) (x5 : Int32) (t0_0 : Int32) (t0_1 : Int32) (t0_2 : Int32) (t1_0 : Int32) (t1_1 : Int32) (t1_2 : Int32) (t1_3 : Int64) (t1_4 : Int32) (t1_5 : Int32) (t1_6 : Int32) (t1_7 : Int32) (t1_8 : Int32) (t1_9 : Int32) (t1_10 : Int32) (t2_0 : (Nat → Int32)) (t3_0 : (Nat → Int32)) (t4_0 : (Nat → Int32)) (t5_0 : (Nat → Int32)) (t6_0 : (Nat → Int32)) (t7_0 : (Nat → Int32)) (lx41 : Int32) (p174 : (Int32 × Int32 × Int32 × Int64 × Int32 × Int32 × Int32 × Int32 × Int32 × Int32 × Int32 × (Nat → Int32) × (Nat → Int32) × (Nat → Int32) × (Nat → Int32) × (Nat → Int32))) : Prop := True
def S_NM_decimalBy_c53 (x2 : Int32) (x3 : Int32) (x4 : Int32) (x5 : Int32) (t0_0 : Int32) (t0_1 : Int32) (t0_2 : Int32) (t1_0 : Int32) (t1_1 : Int32) (t1_2 : Int32) (t1_3 : Int64) (t1_4 : Int32) (t1_5 : Int32) (t1_6 : Int32) (t1_7 : Int32) (t1_8 : Int32) (t1_9 : Int32) (t1_10 : Int32) (t2_0 : (Nat → Int32)) (t3_0 : (Nat → Int32)) (t4_0 : (Nat → Int32)) (t5_0 : (Nat → Int32)) (t6_0 : (Nat → Int32)) (t7_0 : (Nat → Int32)) (lx41 : Int32) (p243 : (Int32 × Int32 × Int32 × Int64 × Int32 × Int32 × Int32 × Int32 × Int32 × Int32 × Int32 × (Nat → Int32) × (Nat → Int32) × (Nat → Int32) × (Nat → Int32) × (Nat → Int32) × (Nat → Int32))) : Prop := True
def S_NM_decimalBy_J30 (x2 : Int32) (x3 : Int32) (x4 : Int32) (x5 : Int32) (t0_0 : Int32) (t0_1 : Int32) (t0_2 : Int32) (t1_0 : Int32) (t1_1 : Int32) (t1_2 : Int32) (t1_3 : Int64) (t1_4 : Int32) (t1_5 : Int32) (t1_6 : Int32) (t1_7 : Int32) (t1_8 : Int32) (t1_9 : Int32) (t1_10 : Int32) (t2_0 : (Nat → Int32)) (t3_0 : (Nat → Int32)) (t4_0 : (Nat → Int32)) (t5_0 : (Nat → Int32)) (t6_0 : (Nat → Int32)) (t7_0 : (Nat → Int32)) (lx41 : Int32) : Prop := if lx41 ≤ (0 : Int32) then (if x2 = (0 : Int32) then ((True ∧ S_DR_power x3 x4 x5 t1_0 t1_1 t1_2 t1_3 t1_4 t1_5 t1_6 t1_7 t1_8 t1_9 t1_10 t2_0 t3_0 t4_0 t5_0 t6_0 t7_0) ∧ (S_NM_decimalBy_c53 x2 x3 x4 x5 t0_0 t0_1 t0_2 t1_0 t1_1 t1_2 t1_3 t1_4 t1_5 t1_6 t1_7 t1_8 t1_9 t1_10 t2_0 t3_0 t4_0 t5_0 t6_0 t7_0 lx41 ((F_DR_power x3 x4 x5 t1_0 t1_1 t1_2 t1_3 t1_4 t1_5 t1_6 t1_7 t1_8 t1_9 t1_10 t2_0 t3_0 t4_0 t5_0 t6_0 t7_0) : (Int32 × Int32 × Int32 × Int64 × Int32 × Int32 × Int32 × Int32 × Int32 × Int32 × Int32 × (Nat → Int32) × (Nat → Int32) × (Nat → Int32) × (Nat → Int32) × (Nat → Int32) × (Nat → Int32))))) else (if x2 = (1 : Int32) then ((True ∧ S_DR_shift x3 x5 x4 t1_0 t1_1 t1_2 t1_3 t1_4 t1_5 t1_6 t1_7 t1_8 t1_9 t1_10 t2_0 t3_0 t4_0 t5_0 t6_0) ∧ (S_NM_decimalBy_c72 x2 x3 x4 x5 t0_0 t0_1 t0_2 t1_0 t1_1 t1_2 t1_3 t1_4 t1_5 t1_6 t1_7 t1_8 t1_9 t1_10 t2_0 t3_0 t4_0 t5_0 t6_0 t7_0 lx41 ((F_DR_shift x3 x5 x4 t1_0 t1_1 t1_2 t1_3 t1_4 t1_5 t1_6 t1_7 t1_8 t1_9 t1_10 t2_0 t3_0 t4_0 t5_0 t6_0) : (Int32 × Int32 × Int32 × Int64 × Int32 × Int32 × Int32 × Int32 × Int32 × Int32 × Int32 × (Nat → Int32) × (Nat → Int32) × (Nat → Int32) × (Nat → Int32) × (Nat → Int32))))) else ((True ∧ S_DR_strip x3 x5 t1_0 t1_1 t1_2 t1_3 t1_4 t1_5 t1_6 t1_7 t1_8 t1_9 t1_10 t2_0 t3_0 t4_0 t5_0 t6_0) ∧ (S_NM_decimalBy_c85 x2 x3 x4 x5 t0_0 t0_1 t0_2 t1_0 t1_1 t1_2 t1_3 t1_4 t1_5 t1_6 t1_7 t1_8 t1_9 t1_10 t2_0 t3_0 t4_0 t5_0 t6_0 t7_0 lx41 ((F_DR_strip x3 x5 t1_0 t1_1 t1_2 t1_3 t1_4 t1_5 t1_6 t1_7 t1_8 t1_9 t1_10 t2_0 t3_0 t4_0 t5_0 t6_0) : (Int32 × Int32 × Int32 × Int64 × Int32 × Int32 × Int32 × Int32 × Int32 × Int32 × Int32 × (Nat → Int32) × (Nat → Int32) × (Nat → Int32) × (Nat → Int32) × (Nat → Int32))))))) else (True)
def S_NM_decimalBy_J25 (x2 : Int32) (x3 : Int32) (x4 : Int32) (x5 : Int32) (t0_0 : Int32) (t0_1 : Int32) (t0_2 : Int32) (t1_0 : Int32) (t1_1 : Int32) (t1_2 : Int32) (t1_3 : Int64) (t1_4 : Int32) (t1_5 : Int32) (t1_6 : Int32) (t1_7 : Int32) (t1_8 : Int32) (t1_9 : Int32) (t1_10 : Int32) (t2_0 : (Nat → Int32)) (t3_0 : (Nat → Int32)) (t4_0 : (Nat → Int32)) (t5_0 : (Nat → Int32)) (t6_0 : (Nat → Int32)) (t7_0 : (Nat → Int32)) : Prop := S_NM_decimalBy_J30 x2 x3 x4 x5 t0_0 t0_1 t0_2 t1_0 t1_1 t1_2 t1_3 t1_4 t1_5 t1_6 t1_7 t1_8 t1_9 t1_10 t2_0 t3_0 t4_0 t5_0 t6_0 t7_0 1
def S_NM_decimalBy (x2 : Int32) (x3 : Int32) (x4 : Int32) (x5 : Int32) (t0_0 : Int32) (t0_1 : Int32) (t0_2 : Int32) (t1_0 : Int32) (t1_1 : Int32) (t1_2 : Int32) (t1_3 : Int64) (t1_4 : Int32) (t1_5 : Int32) (t1_6 : Int32) (t1_7 : Int32) (t1_8 : Int32) (t1_9 : Int32) (t1_10 : Int32) (t2_0 : (Nat → Int32)) (t3_0 : (Nat → Int32)) (t4_0 : (Nat → Int32)) (t5_0 : (Nat → Int32)) (t6_0 : (Nat → Int32)) (t7_0 : (Nat → Int32)) : Prop := if x2 < (0 : Int32) then (S_NM_decimalBy_J25 x2 x3 x4 x5 t0_0 t0_1 t0_2 t1_0 t1_1 t1_2 t1_3 t1_4 t1_5 t1_6 t1_7 t1_8 t1_9 t1_10 t2_0 t3_0 t4_0 t5_0 t6_0 t7_0) else (if (2 : Int32) < x2 then (S_NM_decimalBy_J25 x2 x3 x4 x5 t0_0 t0_1 t0_2 t1_0 t1_1 t1_2 t1_3 t1_4 t1_5 t1_6 t1_7 t1_8 t1_9 t1_10 t2_0 t3_0 t4_0 t5_0 t6_0 t7_0) else (if ((F_NM_no_IZ x3) : Int32) = (0 : Int32) then (if ((F_NM_no_IZ x5) : Int32) = (0 : Int32) then (S_NM_decimalBy_J30 x2 x3 x4 x5 t0_0 t0_1 t0_2 t1_0 t1_1 t1_2 t1_3 t1_4 t1_5 t1_6 t1_7 t1_8 t1_9 t1_10 t2_0 t3_0 t4_0 t5_0 t6_0 t7_0 0) else (S_NM_decimalBy_J25 x2 x3 x4 x5 t0_0 t0_1 t0_2 t1_0 t1_1 t1_2 t1_3 t1_4 t1_5 t1_6 t1_7 t1_8 t1_9 t1_10 t2_0 t3_0 t4_0 t5_0 t6_0 t7_0)) else (S_NM_decimalBy_J25 x2 x3 x4 x5 t0_0 t0_1 t0_2 t1_0 t1_1 t1_2 t1_3 t1_4 t1_5 t1_6 t1_7 t1_8 t1_9 t1_10 t2_0 t3_0 t4_0 t5_0 t6_0 t7_0)))
set_option maxRecDepth 100000 in
set_option maxHeartbeats 4000000 in
theorem X_NM_decimalBy (l : Launch) (D : va_G) (g : Nat → ClassId) (q : Nat → Nat) (ws : va_W) (x2 : Int32) (x3 : Int32) (x4 : Int32) (x5 : Int32) (hI : q_I (msh g q) q ws) (t0_0 : Int32) (t0_1 : Int32) (t0_2 : Int32) (hT0 : ws[116]? = (some (q 116, .inr (12, [.int t0_0, .ref (q 117), .int t0_1, .ref (q 118), .int t0_2, .ref (q 119), .ref (q 134), .ref (q 145), .ref (q 153), .ref (q 157), .ref (q 167), .ref (q 168)])) : Option (Nat × va_E))) (t1_0 : Int32) (t1_1 : Int32) (t1_2 : Int32) (t1_3 : Int64) (t1_4 : Int32) (t1_5 : Int32) (t1_6 : Int32) (t1_7 : Int32) (t1_8 : Int32) (t1_9 : Int32) (t1_10 : Int32) (hT1 : ws[134]? = (some (q 134, .inr (14, [.int t1_0, .ref (q 135), .int t1_1, .ref (q 136), .ref (q 137), .ref (q 138), .ref (q 139), .ref (q 140), .int t1_2, .long t1_3, .int t1_4, .int t1_5, .ref (q 141), .int t1_6, .ref (q 142), .int t1_7, .ref (q 143), .int t1_8, .ref (q 144), .int t1_9, .int t1_10])) : Option (Nat × va_E))) (t2_0 : (Nat → Int32)) (hT2 : ws[136]? = (some (q 136, .inl (g 0, (10000 : Int32).toNatClampNeg, .inl t2_0)) : Option (Nat × va_E))) (t3_0 : (Nat → Int32)) (hT3 : ws[137]? = (some (q 137, .inl (g 0, (10 : Int32).toNatClampNeg, .inl t3_0)) : Option (Nat × va_E))) (t4_0 : (Nat → Int32)) (hT4 : ws[138]? = (some (q 138, .inl (g 3, 10, .inl t4_0)) : Option (Nat × va_E))) (t5_0 : (Nat → Int32)) (hT5 : ws[139]? = (some (q 139, .inl (g 0, (10 : Int32).toNatClampNeg, .inl t5_0)) : Option (Nat × va_E))) (t6_0 : (Nat → Int32)) (hT6 : ws[140]? = (some (q 140, .inl (g 0, (4400 : Int32).toNatClampNeg, .inl t6_0)) : Option (Nat × va_E))) (t7_0 : (Nat → Int32)) (hT7 : ws[141]? = (some (q 141, .inl (g 0, (4400 : Int32).toNatClampNeg, .inl t7_0)) : Option (Nat × va_E))) (hS : True ∧ S_NM_decimalBy x2 x3 x4 x5 t0_0 t0_1 t0_2 t1_0 t1_1 t1_2 t1_3 t1_4 t1_5 t1_6 t1_7 t1_8 t1_9 t1_10 t2_0 t3_0 t4_0 t5_0 t6_0 t7_0) : q_mV l y_NM_decimalBy prog_14_method_24_code 5 4 0 0 D g [.ref (q 116), .int x2, .int x3, .int x4, .int x5] ws (fun u => q_I (msh g q) q u ∧ q_un ws u [116, 134, 136, 137, 138, 139, 140, 141] ∧ ∃ (u0_0 : Int32) (u1_0 : Int32) (u1_1 : Int32) (u1_2 : Int32) (u1_3 : Int64) (u1_4 : Int32) (u1_5 : Int32) (u1_6 : Int32) (u1_7 : Int32) (u1_8 : Int32) (u1_9 : Int32) (u1_10 : Int32) (u2_0 : (Nat → Int32)) (u3_0 : (Nat → Int32)) (u4_0 : (Nat → Int32)) (u5_0 : (Nat → Int32)) (u6_0 : (Nat → Int32)) (u7_0 : (Nat → Int32)), u[116]? = (some (q 116, .inr (12, [.int u0_0, .ref (q 117), .int t0_1, .ref (q 118), .int t0_2, .ref (q 119), .ref (q 134), .ref (q 145), .ref (q 153), .ref (q 157), .ref (q 167), .ref (q 168)])) : Option (Nat × va_E)) ∧ u[134]? = (some (q 134, .inr (14, [.int u1_0, .ref (q 135), .int u1_1, .ref (q 136), .ref (q 137), .ref (q 138), .ref (q 139), .ref (q 140), .int u1_2, .long u1_3, .int u1_4, .int u1_5, .ref (q 141), .int u1_6, .ref (q 142), .int u1_7, .ref (q 143), .int u1_8, .ref (q 144), .int u1_9, .int u1_10])) : Option (Nat × va_E)) ∧ u[136]? = (some (q 136, .inl (g 0, (10000 : Int32).toNatClampNeg, .inl u2_0)) : Option (Nat × va_E)) ∧ u[137]? = (some (q 137, .inl (g 0, (10 : Int32).toNatClampNeg, .inl u3_0)) : Option (Nat × va_E)) ∧ u[138]? = (some (q 138, .inl (g 3, 10, .inl u4_0)) : Option (Nat × va_E)) ∧ u[139]? = (some (q 139, .inl (g 0, (10 : Int32).toNatClampNeg, .inl u5_0)) : Option (Nat × va_E)) ∧ u[140]? = (some (q 140, .inl (g 0, (4400 : Int32).toNatClampNeg, .inl u6_0)) : Option (Nat × va_E)) ∧ u[141]? = (some (q 141, .inl (g 0, (4400 : Int32).toNatClampNeg, .inl u7_0)) : Option (Nat × va_E)) ∧ (0 ≤ u1_4.toInt) ∧ (0 ≤ u1_5.toInt) ∧ (u1_5.toInt ≤ 1) ∧ (t1_1.toInt ≤ u1_1.toInt) ∧ (u1_1.toInt ≤ t1_1.toInt) ∧ (u1_4.toInt ≤ t1_4.toInt) ∧ (t1_6.toInt ≤ u1_6.toInt) ∧ (u1_6.toInt ≤ t1_6.toInt) ∧ (t1_7.toInt ≤ u1_7.toInt) ∧ (u1_7.toInt ≤ t1_7.toInt) ∧ (t1_8.toInt ≤ u1_8.toInt) ∧ (u1_8.toInt ≤ t1_8.toInt) ∧ (t1_9.toInt ≤ u1_9.toInt) ∧ (u1_9.toInt ≤ t1_9.toInt) ∧ (u0_0, u1_0, u1_1, u1_2, u1_3, u1_4, u1_5, u1_6, u1_7, u1_8, u1_9, u1_10, u2_0, u3_0, u4_0, u5_0, u6_0, u7_0) = (F_NM_decimalBy x2 x3 x4 x5 t0_0 t0_1 t0_2 t1_0 t1_1 t1_2 t1_3 t1_4 t1_5 t1_6 t1_7 t1_8 t1_9 t1_10 t2_0 t3_0 t4_0 t5_0 t6_0 t7_0)) := by
  intro sz
  refine q_into (by decide) (Nat.le_of_ble_eq_true rfl) ?_
  intro p e s m below meth c ls hsz C0 V hl
  have hx := C0.1
  have hb := C0.2.1
  obtain ⟨btt0_1, btt0_2⟩ := n_w116 hI hT0
  replace btt0_1 : q_F (0 ≤ t0_1.toInt ∧ t0_1.toInt ≤ 4100) := btt0_1
  replace btt0_2 : q_F (0 ≤ t0_2.toInt ∧ t0_2.toInt ≤ 12200) := btt0_2
  have hZ9 := (n_w134 hI hT1).2
  obtain ⟨btt1_4, hZ9⟩ := hZ9
  obtain ⟨btt1_5, -⟩ := hZ9
  replace btt1_4 : q_F (0 ≤ t1_4.toInt ∧ t1_4.toInt ≤ 1) := btt1_4
  replace btt1_5 : q_F (0 ≤ t1_5.toInt ∧ t1_5.toInt ≤ 1) := btt1_5
  have hF : q_un ws ws [116, 134, 136, 137, 138, 139, 140, 141] := q_u0
  have hl : lv_has ls 5 [(0, .ref (q 116)), (1, .int x2), (2, .int x3), (3, .int x4), (4, .int x5)] := hl
  refine lv_aload_n hx hb d_14_24_0 rfl (lv_at hl 0 rfl) ?_
  refine lv_iload_n hx hb d_14_24_1 rfl (lv_at hl 1 rfl) ?_
  refine q_join (X := Int32) (fun z H locs ls _ => q_F (0 ≤ z.toInt) ∧ q_F (z.toInt ≤ 1) ∧ q_Wd D g (va_A ws sz) s ws H locs ∧ lv_has ls 5 [(0, .ref (q 116)), (1, .int x2), (2, .int x3), (3, .int x4), (4, .int x5)] ∧ F_NM_decimalBy_J30 x2 x3 x4 x5 t0_0 t0_1 t0_2 t1_0 t1_1 t1_2 t1_3 t1_4 t1_5 t1_6 t1_7 t1_8 t1_9 t1_10 t2_0 t3_0 t4_0 t5_0 t6_0 t7_0 z = (F_NM_decimalBy x2 x3 x4 x5 t0_0 t0_1 t0_2 t1_0 t1_1 t1_2 t1_3 t1_4 t1_5 t1_6 t1_7 t1_8 t1_9 t1_10 t2_0 t3_0 t4_0 t5_0 t6_0 t7_0) ∧ True ∧ S_NM_decimalBy_J30 x2 x3 x4 x5 t0_0 t0_1 t0_2 t1_0 t1_1 t1_2 t1_3 t1_4 t1_5 t1_6 t1_7 t1_8 t1_9 t1_10 t2_0 t3_0 t4_0 t5_0 t6_0 t7_0 z) (fun z => [.int z, .ref (q 116)]) 30 0 0 ?_ ?_
  ·
    rintro lx41 H locs ls _ hZ9
    replace hZ9 := hZ9.2.2
    obtain ⟨V, hZ9⟩ := hZ9
    obtain ⟨hl, hZ9⟩ := hZ9
    obtain ⟨hR53, hS54⟩ := hZ9
    replace hl : lv_has ls 5 [(0, .ref (q 116)), (1, .int x2), (2, .int x3), (3, .int x4), (4, .int x5)] := hl
    refine q_put (ci := 12) (j := 0) (v := .int lx41) (ty := .int) C0 V i_NM o_NM n_NM rfl rfl hT0 (by decide) w_2298 rfl rfl rfl rfl (Nat.le_of_ble_eq_true rfl) d_14_24_30 (fun H locs w58 hu59 hT0 V => ?_)
    replace hT0 : w58[116]? = (some (q 116, .inr (12, [.int lx41, .ref (q 117), .int t0_1, .ref (q 118), .int t0_2, .ref (q 119), .ref (q 134), .ref (q 145), .ref (q 153), .ref (q 157), .ref (q 167), .ref (q 168)])) : Option (Nat × va_E)) := hT0
    replace hI := n_p116 hI hu59 hT0 (by first | with_reducible exact q_fe btt0_1 | exact ⟨(by have t1 : 0 ≤ t0_1.toInt ∧ t0_1.toInt ≤ 4100 := btt0_1; omega), (by have t1 : 0 ≤ t0_1.toInt ∧ t0_1.toInt ≤ 4100 := btt0_1; omega)⟩) (by first | with_reducible exact q_fe btt0_2 | exact ⟨(by have t1 : 0 ≤ t0_2.toInt ∧ t0_2.toInt ≤ 12200 := btt0_2; omega), (by have t1 : 0 ≤ t0_2.toInt ∧ t0_2.toInt ≤ 12200 := btt0_2; omega)⟩)
    replace hT1 := (hu59 _ (by decide)).trans hT1
    replace hT2 := (hu59 _ (by decide)).trans hT2
    replace hT3 := (hu59 _ (by decide)).trans hT3
    replace hT4 := (hu59 _ (by decide)).trans hT4
    replace hT5 := (hu59 _ (by decide)).trans hT5
    replace hT6 := (hu59 _ (by decide)).trans hT6
    replace hT7 := (hu59 _ (by decide)).trans hT7
    replace hF := q_us hF hu59 (by simp)
    refine lv_aload_n hx hb d_14_24_33 rfl (lv_at hl 0 rfl) ?_
    refine q_get (ci := 12) (j := 0) (v := .int lx41) C0 V i_NM rfl rfl hT0 (by decide) w_2298 rfl d_14_24_34 ?_
    refine lv_if_le (tgt := 41) hx hb d_14_24_37 (by decide) (fun c60 => ?_) (fun c60 => ?_)
    ·
      refine lv_iload_n hx hb d_14_24_41 rfl (lv_at hl 1 rfl) ?_
      refine lv_if_ne (tgt := 59) hx hb d_14_24_42 (by decide) (fun c62 => ?_) (fun c62 => ?_)
      ·
        refine lv_iload_n hx hb d_14_24_59 rfl (lv_at hl 1 rfl) ?_
        refine lv_iconst (v := 1) hx hb d_14_24_60 (by decide) ?_
        refine lv_icmp_ne (tgt := 78) hx hb d_14_24_61 (by decide) (fun c64 => ?_) (fun c64 => ?_)
        ·
          refine lv_aload_n hx hb d_14_24_78 rfl (lv_at hl 0 rfl) ?_
          refine q_get (ci := 12) (j := 6) (v := .ref (q 134)) C0 V i_NM rfl rfl hT0 (by decide) w_2304 rfl d_14_24_79 ?_
          refine lv_iload_n hx hb d_14_24_82 rfl (lv_at hl 2 rfl) ?_
          refine lv_iload hx hb d_14_24_83 (lv_at hl 4 rfl) ?_
          have ob66 : True ∧ S_DR_strip x3 x5 t1_0 t1_1 t1_2 t1_3 t1_4 t1_5 t1_6 t1_7 t1_8 t1_9 t1_10 t2_0 t3_0 t4_0 t5_0 t6_0 := (by have h := hS54; rw [S_NM_decimalBy_J30.eq_1] at h; rw [if_pos c60] at h; rw [if_neg c62] at h; rw [if_neg c64] at h; with_reducible exact h.2.1)
          refine q_gov V (q_runV (As := [.int x3, .int x5]) (rest := []) (d := 3) (mc := 0) (ms := 0) (ci := 14) C0 V rfl LV_NM_210 (X_DR_strip l D g q w58  x3 x5 hI t1_0 t1_1 t1_2 t1_3 t1_4 t1_5 t1_6 t1_7 t1_8 t1_9 t1_10 hT1 t2_0 hT2 t3_0 hT3 t4_0 hT4 t5_0 hT5 t6_0 hT6 ob66 _) rfl rfl hT1 rfl hl.1 rfl (Nat.le_of_ble_eq_true rfl) ⟨by decide, by decide⟩ ⟨Nat.le_of_ble_eq_true rfl, Nat.le_of_ble_eq_true rfl⟩ d_14_24_85) (fun u67 H locs hp68 V => ?_)
          obtain ⟨hI, hZ9⟩ := hp68
          obtain ⟨hu106, hZ9⟩ := hZ9
          obtain ⟨y70, hZ9⟩ := hZ9
          obtain ⟨y71, hZ9⟩ := hZ9
          obtain ⟨y72, hZ9⟩ := hZ9
          obtain ⟨y73, hZ9⟩ := hZ9
          obtain ⟨y74, hZ9⟩ := hZ9
          obtain ⟨y75, hZ9⟩ := hZ9
          obtain ⟨y76, hZ9⟩ := hZ9
          obtain ⟨y77, hZ9⟩ := hZ9
          obtain ⟨y78, hZ9⟩ := hZ9
          obtain ⟨y79, hZ9⟩ := hZ9
          obtain ⟨y80, hZ9⟩ := hZ9
          obtain ⟨f81, hZ9⟩ := hZ9
          obtain ⟨f83, hZ9⟩ := hZ9
          obtain ⟨f85, hZ9⟩ := hZ9
          obtain ⟨f87, hZ9⟩ := hZ9
          obtain ⟨f89, hZ9⟩ := hZ9
          obtain ⟨hO69, hZ9⟩ := hZ9
          obtain ⟨hA82, hZ9⟩ := hZ9
          obtain ⟨hA84, hZ9⟩ := hZ9
          obtain ⟨hA86, hZ9⟩ := hZ9
          obtain ⟨hA88, hZ9⟩ := hZ9
          obtain ⟨hA90, hZ9⟩ := hZ9
          obtain ⟨b91, hZ9⟩ := hZ9
          obtain ⟨b92, hZ9⟩ := hZ9
          obtain ⟨b93, hZ9⟩ := hZ9
          obtain ⟨b94, hZ9⟩ := hZ9
          obtain ⟨b95, hZ9⟩ := hZ9
          obtain ⟨b96, hZ9⟩ := hZ9
          obtain ⟨b97, hZ9⟩ := hZ9
          obtain ⟨b98, hZ9⟩ := hZ9
          obtain ⟨b99, hZ9⟩ := hZ9
          obtain ⟨b100, hZ9⟩ := hZ9
          obtain ⟨b101, hZ9⟩ := hZ9
          obtain ⟨b102, hZ9⟩ := hZ9
          obtain ⟨b103, hZ9⟩ := hZ9
          obtain ⟨b104, hE105⟩ := hZ9
          replace hO69 : u67[134]? = (some (q 134, .inr (14, [.int y70, .ref (q 135), .int y71, .ref (q 136), .ref (q 137), .ref (q 138), .ref (q 139), .ref (q 140), .int y72, .long y73, .int y74, .int y75, .ref (q 141), .int y76, .ref (q 142), .int y77, .ref (q 143), .int y78, .ref (q 144), .int y79, .int y80])) : Option (Nat × va_E)) := hO69
          replace hA82 : u67[136]? = (some (q 136, .inl (g 0, (10000 : Int32).toNatClampNeg, .inl f81)) : Option (Nat × va_E)) := hA82
          replace hA84 : u67[137]? = (some (q 137, .inl (g 0, (10 : Int32).toNatClampNeg, .inl f83)) : Option (Nat × va_E)) := hA84
          replace hA86 : u67[138]? = (some (q 138, .inl (g 3, 10, .inl f85)) : Option (Nat × va_E)) := hA86
          replace hA88 : u67[139]? = (some (q 139, .inl (g 0, (10 : Int32).toNatClampNeg, .inl f87)) : Option (Nat × va_E)) := hA88
          replace hA90 : u67[140]? = (some (q 140, .inl (g 0, (4400 : Int32).toNatClampNeg, .inl f89)) : Option (Nat × va_E)) := hA90
          obtain ⟨p107, e108⟩ : ∃ z, z = (F_DR_strip x3 x5 t1_0 t1_1 t1_2 t1_3 t1_4 t1_5 t1_6 t1_7 t1_8 t1_9 t1_10 t2_0 t3_0 t4_0 t5_0 t6_0) := ⟨_, rfl⟩
          have e109 : y70 = p107.1 := congrArg (fun z => z.1) (hE105.trans e108.symm)
          have e110 : y71 = p107.2.1 := congrArg (fun z => z.2.1) (hE105.trans e108.symm)
          have e111 : y72 = p107.2.2.1 := congrArg (fun z => z.2.2.1) (hE105.trans e108.symm)
          have e112 : y73 = p107.2.2.2.1 := congrArg (fun z => z.2.2.2.1) (hE105.trans e108.symm)
          have e113 : y74 = p107.2.2.2.2.1 := congrArg (fun z => z.2.2.2.2.1) (hE105.trans e108.symm)
          have e114 : y75 = p107.2.2.2.2.2.1 := congrArg (fun z => z.2.2.2.2.2.1) (hE105.trans e108.symm)
          have e115 : y76 = p107.2.2.2.2.2.2.1 := congrArg (fun z => z.2.2.2.2.2.2.1) (hE105.trans e108.symm)
          have e116 : y77 = p107.2.2.2.2.2.2.2.1 := congrArg (fun z => z.2.2.2.2.2.2.2.1) (hE105.trans e108.symm)
          have e117 : y78 = p107.2.2.2.2.2.2.2.2.1 := congrArg (fun z => z.2.2.2.2.2.2.2.2.1) (hE105.trans e108.symm)
          have e118 : y79 = p107.2.2.2.2.2.2.2.2.2.1 := congrArg (fun z => z.2.2.2.2.2.2.2.2.2.1) (hE105.trans e108.symm)
          have e119 : y80 = p107.2.2.2.2.2.2.2.2.2.2.1 := congrArg (fun z => z.2.2.2.2.2.2.2.2.2.2.1) (hE105.trans e108.symm)
          have e120 : f81 = p107.2.2.2.2.2.2.2.2.2.2.2.1 := congrArg (fun z => z.2.2.2.2.2.2.2.2.2.2.2.1) (hE105.trans e108.symm)
          have e121 : f83 = p107.2.2.2.2.2.2.2.2.2.2.2.2.1 := congrArg (fun z => z.2.2.2.2.2.2.2.2.2.2.2.2.1) (hE105.trans e108.symm)
          have e122 : f85 = p107.2.2.2.2.2.2.2.2.2.2.2.2.2.1 := congrArg (fun z => z.2.2.2.2.2.2.2.2.2.2.2.2.2.1) (hE105.trans e108.symm)
          have e123 : f87 = p107.2.2.2.2.2.2.2.2.2.2.2.2.2.2.1 := congrArg (fun z => z.2.2.2.2.2.2.2.2.2.2.2.2.2.2.1) (hE105.trans e108.symm)
          have e124 : f89 = p107.2.2.2.2.2.2.2.2.2.2.2.2.2.2.2 := congrArg (fun z => z.2.2.2.2.2.2.2.2.2.2.2.2.2.2.2) (hE105.trans e108.symm)
          replace b91 : q_F (0 ≤ y74.toInt) := b91
          replace b92 : q_F (0 ≤ y75.toInt) := b92
          replace b93 : q_F (y75.toInt ≤ 1) := b93
          replace b94 : q_F (t1_1.toInt ≤ y71.toInt) := b94
          replace b95 : q_F (y71.toInt ≤ t1_1.toInt) := b95
          replace b96 : q_F (y74.toInt ≤ t1_4.toInt) := b96
          replace b97 : q_F (t1_6.toInt ≤ y76.toInt) := b97
          replace b98 : q_F (y76.toInt ≤ t1_6.toInt) := b98
          replace b99 : q_F (t1_7.toInt ≤ y77.toInt) := b99
          replace b100 : q_F (y77.toInt ≤ t1_7.toInt) := b100
          replace b101 : q_F (t1_8.toInt ≤ y78.toInt) := b101
          replace b102 : q_F (y78.toInt ≤ t1_8.toInt) := b102
          replace b103 : q_F (t1_9.toInt ≤ y79.toInt) := b103
          replace b104 : q_F (y79.toInt ≤ t1_9.toInt) := b104
          replace hT0 := (hu106 _ (by decide)).trans hT0
          replace hT7 := (hu106 _ (by decide)).trans hT7
          replace hF := q_uc hF hu106 (by simp)
          have hR125 := (show F_NM_decimalBy_c85 x2 x3 x4 x5 t0_0 t0_1 t0_2 t1_0 t1_1 t1_2 t1_3 t1_4 t1_5 t1_6 t1_7 t1_8 t1_9 t1_10 t2_0 t3_0 t4_0 t5_0 t6_0 t7_0 lx41 p107 = (F_NM_decimalBy x2 x3 x4 x5 t0_0 t0_1 t0_2 t1_0 t1_1 t1_2 t1_3 t1_4 t1_5 t1_6 t1_7 t1_8 t1_9 t1_10 t2_0 t3_0 t4_0 t5_0 t6_0 t7_0) from Eq.trans (by rw [e108, F_NM_decimalBy_J30.eq_1, if_pos c60, if_neg c62, if_neg c64]) hR53)
          have hS126 := (show True ∧ S_NM_decimalBy_c85 x2 x3 x4 x5 t0_0 t0_1 t0_2 t1_0 t1_1 t1_2 t1_3 t1_4 t1_5 t1_6 t1_7 t1_8 t1_9 t1_10 t2_0 t3_0 t4_0 t5_0 t6_0 t7_0 lx41 p107 from (by rw [e108]; have h := hS54; rw [S_NM_decimalBy_J30.eq_1] at h; rw [if_pos c60] at h; rw [if_neg c62] at h; rw [if_neg c64] at h; replace h := q_s2 h; with_reducible exact h))
          refine lv_aload_n hx hb d_14_24_88 rfl (lv_at hl 0 rfl) ?_
          refine lv_aload_n hx hb d_14_24_89 rfl (lv_at hl 0 rfl) ?_
          refine q_get (ci := 12) (j := 6) (v := .ref (q 134)) C0 V i_NM rfl rfl hT0 (by decide) w_2304 rfl d_14_24_90 ?_
          refine q_getN (ci := 14) (j := 0) (v := .int y70) C0 V i_DR rfl rfl hO69 (by decide) wo_1997 rfl d_14_24_93 ?_
          refine q_put (ci := 12) (j := 0) (v := .int y70) (ty := .int) C0 V i_NM o_NM n_NM rfl rfl hT0 (by decide) w_2298 rfl rfl rfl rfl (Nat.le_of_ble_eq_true rfl) d_14_24_96 (fun H locs w130 hu131 hT0 V => ?_)
          replace hT0 : w130[116]? = (some (q 116, .inr (12, [.int y70, .ref (q 117), .int t0_1, .ref (q 118), .int t0_2, .ref (q 119), .ref (q 134), .ref (q 145), .ref (q 153), .ref (q 157), .ref (q 167), .ref (q 168)])) : Option (Nat × va_E)) := hT0
          replace hI := n_p116 hI hu131 hT0 (by first | with_reducible exact q_fe btt0_1 | exact ⟨(by have t1 : 0 ≤ t0_1.toInt ∧ t0_1.toInt ≤ 4100 := btt0_1; omega), (by have t1 : 0 ≤ t0_1.toInt ∧ t0_1.toInt ≤ 4100 := btt0_1; omega)⟩) (by first | with_reducible exact q_fe btt0_2 | exact ⟨(by have t1 : 0 ≤ t0_2.toInt ∧ t0_2.toInt ≤ 12200 := btt0_2; omega), (by have t1 : 0 ≤ t0_2.toInt ∧ t0_2.toInt ≤ 12200 := btt0_2; omega)⟩)
          replace hO69 := (hu131 _ (by decide)).trans hO69
          replace hA82 := (hu131 _ (by decide)).trans hA82
          replace hA84 := (hu131 _ (by decide)).trans hA84
          replace hA86 := (hu131 _ (by decide)).trans hA86
          replace hA88 := (hu131 _ (by decide)).trans hA88
          replace hA90 := (hu131 _ (by decide)).trans hA90
          replace hT7 := (hu131 _ (by decide)).trans hT7
          replace hF := q_us hF hu131 (by simp)
          exact q_retv C0 V (⟨hI, hF, y70, y70, y71, y72, y73, y74, y75, y76, y77, y78, y79, y80, f81, f83, f85, f87, f89, t7_0, hT0, hO69, hA82, hA84, hA86, hA88, hA90, hT7, (show 0 ≤ y74.toInt from (by first | with_reducible exact q_fe b91 | (have t1 : 0 ≤ y74.toInt := b91; omega))), (show 0 ≤ y75.toInt from (by first | with_reducible exact q_fe b92 | (have t1 : 0 ≤ y75.toInt := b92; omega))), (show y75.toInt ≤ 1 from (by first | with_reducible exact q_fe b93 | (have t1 : y75.toInt ≤ 1 := b93; omega))), (show t1_1.toInt ≤ y71.toInt from (by first | with_reducible exact q_fe b94 | (have t1 : t1_1.toInt ≤ y71.toInt := b94; omega))), (show y71.toInt ≤ t1_1.toInt from (by first | with_reducible exact q_fe b95 | (have t1 : y71.toInt ≤ t1_1.toInt := b95; omega))), (show y74.toInt ≤ t1_4.toInt from (by first | with_reducible exact q_fe b96 | (have t1 : y74.toInt ≤ t1_4.toInt := b96; omega))), (show t1_6.toInt ≤ y76.toInt from (by first | with_reducible exact q_fe b97 | (have t1 : t1_6.toInt ≤ y76.toInt := b97; omega))), (show y76.toInt ≤ t1_6.toInt from (by first | with_reducible exact q_fe b98 | (have t1 : y76.toInt ≤ t1_6.toInt := b98; omega))), (show t1_7.toInt ≤ y77.toInt from (by first | with_reducible exact q_fe b99 | (have t1 : t1_7.toInt ≤ y77.toInt := b99; omega))), (show y77.toInt ≤ t1_7.toInt from (by first | with_reducible exact q_fe b100 | (have t1 : y77.toInt ≤ t1_7.toInt := b100; omega))), (show t1_8.toInt ≤ y78.toInt from (by first | with_reducible exact q_fe b101 | (have t1 : t1_8.toInt ≤ y78.toInt := b101; omega))), (show y78.toInt ≤ t1_8.toInt from (by first | with_reducible exact q_fe b102 | (have t1 : y78.toInt ≤ t1_8.toInt := b102; omega))), (show t1_9.toInt ≤ y79.toInt from (by first | with_reducible exact q_fe b103 | (have t1 : t1_9.toInt ≤ y79.toInt := b103; omega))), (show y79.toInt ≤ t1_9.toInt from (by first | with_reducible exact q_fe b104 | (have t1 : y79.toInt ≤ t1_9.toInt := b104; omega))), (show (y70, y70, y71, y72, y73, y74, y75, y76, y77, y78, y79, y80, f81, f83, f85, f87, f89, t7_0) = (F_NM_decimalBy x2 x3 x4 x5 t0_0 t0_1 t0_2 t1_0 t1_1 t1_2 t1_3 t1_4 t1_5 t1_6 t1_7 t1_8 t1_9 t1_10 t2_0 t3_0 t4_0 t5_0 t6_0 t7_0) from Eq.trans (by rw [e124, e123, e122, e121, e120, e119, e118, e117, e116, e115, e114, e113, e112, e111, e110, e109, F_NM_decimalBy_c85.eq_1]) hR125)⟩) d_14_24_99
        ·
          refine lv_aload_n hx hb d_14_24_64 rfl (lv_at hl 0 rfl) ?_
          refine q_get (ci := 12) (j := 6) (v := .ref (q 134)) C0 V i_NM rfl rfl hT0 (by decide) w_2304 rfl d_14_24_65 ?_
          refine lv_iload_n hx hb d_14_24_68 rfl (lv_at hl 2 rfl) ?_
          refine lv_iload hx hb d_14_24_69 (lv_at hl 4 rfl) ?_
          refine lv_iload_n hx hb d_14_24_71 rfl (lv_at hl 3 rfl) ?_
          have ob133 : True ∧ S_DR_shift x3 x5 x4 t1_0 t1_1 t1_2 t1_3 t1_4 t1_5 t1_6 t1_7 t1_8 t1_9 t1_10 t2_0 t3_0 t4_0 t5_0 t6_0 := (by have h := hS54; rw [S_NM_decimalBy_J30.eq_1] at h; rw [if_pos c60] at h; rw [if_neg c62] at h; rw [if_pos c64] at h; with_reducible exact h.2.1)
          refine q_gov V (q_runV (As := [.int x3, .int x5, .int x4]) (rest := []) (d := 3) (mc := 0) (ms := 0) (ci := 14) C0 V rfl LV_NM_209 (X_DR_shift l D g q w58  x3 x5 x4 hI t1_0 t1_1 t1_2 t1_3 t1_4 t1_5 t1_6 t1_7 t1_8 t1_9 t1_10 hT1 t2_0 hT2 t3_0 hT3 t4_0 hT4 t5_0 hT5 t6_0 hT6 ob133 _) rfl rfl hT1 rfl hl.1 rfl (Nat.le_of_ble_eq_true rfl) ⟨by decide, by decide⟩ ⟨Nat.le_of_ble_eq_true rfl, Nat.le_of_ble_eq_true rfl⟩ d_14_24_72) (fun u134 H locs hp135 V => ?_)
          obtain ⟨hI, hZ9⟩ := hp135
          obtain ⟨hu173, hZ9⟩ := hZ9
          obtain ⟨y137, hZ9⟩ := hZ9
          obtain ⟨y138, hZ9⟩ := hZ9
          obtain ⟨y139, hZ9⟩ := hZ9
          obtain ⟨y140, hZ9⟩ := hZ9
          obtain ⟨y141, hZ9⟩ := hZ9
          obtain ⟨y142, hZ9⟩ := hZ9
          obtain ⟨y143, hZ9⟩ := hZ9
          obtain ⟨y144, hZ9⟩ := hZ9
          obtain ⟨y145, hZ9⟩ := hZ9
          obtain ⟨y146, hZ9⟩ := hZ9
          obtain ⟨y147, hZ9⟩ := hZ9
          obtain ⟨f148, hZ9⟩ := hZ9
          obtain ⟨f150, hZ9⟩ := hZ9
          obtain ⟨f152, hZ9⟩ := hZ9
          obtain ⟨f154, hZ9⟩ := hZ9
          obtain ⟨f156, hZ9⟩ := hZ9
          obtain ⟨hO136, hZ9⟩ := hZ9
          obtain ⟨hA149, hZ9⟩ := hZ9
          obtain ⟨hA151, hZ9⟩ := hZ9
          obtain ⟨hA153, hZ9⟩ := hZ9
          obtain ⟨hA155, hZ9⟩ := hZ9
          obtain ⟨hA157, hZ9⟩ := hZ9
          obtain ⟨b158, hZ9⟩ := hZ9
          obtain ⟨b159, hZ9⟩ := hZ9
          obtain ⟨b160, hZ9⟩ := hZ9
          obtain ⟨b161, hZ9⟩ := hZ9
          obtain ⟨b162, hZ9⟩ := hZ9
          obtain ⟨b163, hZ9⟩ := hZ9
          obtain ⟨b164, hZ9⟩ := hZ9
          obtain ⟨b165, hZ9⟩ := hZ9
          obtain ⟨b166, hZ9⟩ := hZ9
          obtain ⟨b167, hZ9⟩ := hZ9
          obtain ⟨b168, hZ9⟩ := hZ9
          obtain ⟨b169, hZ9⟩ := hZ9
          obtain ⟨b170, hZ9⟩ := hZ9
          obtain ⟨b171, hE172⟩ := hZ9
          replace hO136 : u134[134]? = (some (q 134, .inr (14, [.int y137, .ref (q 135), .int y138, .ref (q 136), .ref (q 137), .ref (q 138), .ref (q 139), .ref (q 140), .int y139, .long y140, .int y141, .int y142, .ref (q 141), .int y143, .ref (q 142), .int y144, .ref (q 143), .int y145, .ref (q 144), .int y146, .int y147])) : Option (Nat × va_E)) := hO136
          replace hA149 : u134[136]? = (some (q 136, .inl (g 0, (10000 : Int32).toNatClampNeg, .inl f148)) : Option (Nat × va_E)) := hA149
          replace hA151 : u134[137]? = (some (q 137, .inl (g 0, (10 : Int32).toNatClampNeg, .inl f150)) : Option (Nat × va_E)) := hA151
          replace hA153 : u134[138]? = (some (q 138, .inl (g 3, 10, .inl f152)) : Option (Nat × va_E)) := hA153
          replace hA155 : u134[139]? = (some (q 139, .inl (g 0, (10 : Int32).toNatClampNeg, .inl f154)) : Option (Nat × va_E)) := hA155
          replace hA157 : u134[140]? = (some (q 140, .inl (g 0, (4400 : Int32).toNatClampNeg, .inl f156)) : Option (Nat × va_E)) := hA157
          obtain ⟨p174, e175⟩ : ∃ z, z = (F_DR_shift x3 x5 x4 t1_0 t1_1 t1_2 t1_3 t1_4 t1_5 t1_6 t1_7 t1_8 t1_9 t1_10 t2_0 t3_0 t4_0 t5_0 t6_0) := ⟨_, rfl⟩
          have e176 : y137 = p174.1 := congrArg (fun z => z.1) (hE172.trans e175.symm)
          have e177 : y138 = p174.2.1 := congrArg (fun z => z.2.1) (hE172.trans e175.symm)
          have e178 : y139 = p174.2.2.1 := congrArg (fun z => z.2.2.1) (hE172.trans e175.symm)
          have e179 : y140 = p174.2.2.2.1 := congrArg (fun z => z.2.2.2.1) (hE172.trans e175.symm)
          have e180 : y141 = p174.2.2.2.2.1 := congrArg (fun z => z.2.2.2.2.1) (hE172.trans e175.symm)
          have e181 : y142 = p174.2.2.2.2.2.1 := congrArg (fun z => z.2.2.2.2.2.1) (hE172.trans e175.symm)
          have e182 : y143 = p174.2.2.2.2.2.2.1 := congrArg (fun z => z.2.2.2.2.2.2.1) (hE172.trans e175.symm)
          have e183 : y144 = p174.2.2.2.2.2.2.2.1 := congrArg (fun z => z.2.2.2.2.2.2.2.1) (hE172.trans e175.symm)
          have e184 : y145 = p174.2.2.2.2.2.2.2.2.1 := congrArg (fun z => z.2.2.2.2.2.2.2.2.1) (hE172.trans e175.symm)
          have e185 : y146 = p174.2.2.2.2.2.2.2.2.2.1 := congrArg (fun z => z.2.2.2.2.2.2.2.2.2.1) (hE172.trans e175.symm)
          have e186 : y147 = p174.2.2.2.2.2.2.2.2.2.2.1 := congrArg (fun z => z.2.2.2.2.2.2.2.2.2.2.1) (hE172.trans e175.symm)
          have e187 : f148 = p174.2.2.2.2.2.2.2.2.2.2.2.1 := congrArg (fun z => z.2.2.2.2.2.2.2.2.2.2.2.1) (hE172.trans e175.symm)
          have e188 : f150 = p174.2.2.2.2.2.2.2.2.2.2.2.2.1 := congrArg (fun z => z.2.2.2.2.2.2.2.2.2.2.2.2.1) (hE172.trans e175.symm)
          have e189 : f152 = p174.2.2.2.2.2.2.2.2.2.2.2.2.2.1 := congrArg (fun z => z.2.2.2.2.2.2.2.2.2.2.2.2.2.1) (hE172.trans e175.symm)
          have e190 : f154 = p174.2.2.2.2.2.2.2.2.2.2.2.2.2.2.1 := congrArg (fun z => z.2.2.2.2.2.2.2.2.2.2.2.2.2.2.1) (hE172.trans e175.symm)
          have e191 : f156 = p174.2.2.2.2.2.2.2.2.2.2.2.2.2.2.2 := congrArg (fun z => z.2.2.2.2.2.2.2.2.2.2.2.2.2.2.2) (hE172.trans e175.symm)
          replace b158 : q_F (0 ≤ y141.toInt) := b158
          replace b159 : q_F (0 ≤ y142.toInt) := b159
          replace b160 : q_F (y142.toInt ≤ 1) := b160
          replace b161 : q_F (t1_1.toInt ≤ y138.toInt) := b161
          replace b162 : q_F (y138.toInt ≤ t1_1.toInt) := b162
          replace b163 : q_F (y141.toInt ≤ t1_4.toInt) := b163
          replace b164 : q_F (t1_6.toInt ≤ y143.toInt) := b164
          replace b165 : q_F (y143.toInt ≤ t1_6.toInt) := b165
          replace b166 : q_F (t1_7.toInt ≤ y144.toInt) := b166
          replace b167 : q_F (y144.toInt ≤ t1_7.toInt) := b167
          replace b168 : q_F (t1_8.toInt ≤ y145.toInt) := b168
          replace b169 : q_F (y145.toInt ≤ t1_8.toInt) := b169
          replace b170 : q_F (t1_9.toInt ≤ y146.toInt) := b170
          replace b171 : q_F (y146.toInt ≤ t1_9.toInt) := b171
          replace hT0 := (hu173 _ (by decide)).trans hT0
          replace hT7 := (hu173 _ (by decide)).trans hT7
          replace hF := q_uc hF hu173 (by simp)
          have hR192 := (show F_NM_decimalBy_c72 x2 x3 x4 x5 t0_0 t0_1 t0_2 t1_0 t1_1 t1_2 t1_3 t1_4 t1_5 t1_6 t1_7 t1_8 t1_9 t1_10 t2_0 t3_0 t4_0 t5_0 t6_0 t7_0 lx41 p174 = (F_NM_decimalBy x2 x3 x4 x5 t0_0 t0_1 t0_2 t1_0 t1_1 t1_2 t1_3 t1_4 t1_5 t1_6 t1_7 t1_8 t1_9 t1_10 t2_0 t3_0 t4_0 t5_0 t6_0 t7_0) from Eq.trans (by rw [e175, F_NM_decimalBy_J30.eq_1, if_pos c60, if_neg c62, if_pos c64]) hR53)
          have hS193 := (show True ∧ S_NM_decimalBy_c72 x2 x3 x4 x5 t0_0 t0_1 t0_2 t1_0 t1_1 t1_2 t1_3 t1_4 t1_5 t1_6 t1_7 t1_8 t1_9 t1_10 t2_0 t3_0 t4_0 t5_0 t6_0 t7_0 lx41 p174 from (by rw [e175]; have h := hS54; rw [S_NM_decimalBy_J30.eq_1] at h; rw [if_pos c60] at h; rw [if_neg c62] at h; rw [if_pos c64] at h; replace h := q_s2 h; with_reducible exact h))
          refine lv_goto (tgt := 88) hx hb d_14_24_75 (by decide) ?_
          refine lv_aload_n hx hb d_14_24_88 rfl (lv_at hl 0 rfl) ?_
          refine lv_aload_n hx hb d_14_24_89 rfl (lv_at hl 0 rfl) ?_
          refine q_get (ci := 12) (j := 6) (v := .ref (q 134)) C0 V i_NM rfl rfl hT0 (by decide) w_2304 rfl d_14_24_90 ?_
          refine q_getN (ci := 14) (j := 0) (v := .int y137) C0 V i_DR rfl rfl hO136 (by decide) wo_1997 rfl d_14_24_93 ?_
          refine q_put (ci := 12) (j := 0) (v := .int y137) (ty := .int) C0 V i_NM o_NM n_NM rfl rfl hT0 (by decide) w_2298 rfl rfl rfl rfl (Nat.le_of_ble_eq_true rfl) d_14_24_96 (fun H locs w197 hu198 hT0 V => ?_)
          replace hT0 : w197[116]? = (some (q 116, .inr (12, [.int y137, .ref (q 117), .int t0_1, .ref (q 118), .int t0_2, .ref (q 119), .ref (q 134), .ref (q 145), .ref (q 153), .ref (q 157), .ref (q 167), .ref (q 168)])) : Option (Nat × va_E)) := hT0
          replace hI := n_p116 hI hu198 hT0 (by first | with_reducible exact q_fe btt0_1 | exact ⟨(by have t1 : 0 ≤ t0_1.toInt ∧ t0_1.toInt ≤ 4100 := btt0_1; omega), (by have t1 : 0 ≤ t0_1.toInt ∧ t0_1.toInt ≤ 4100 := btt0_1; omega)⟩) (by first | with_reducible exact q_fe btt0_2 | exact ⟨(by have t1 : 0 ≤ t0_2.toInt ∧ t0_2.toInt ≤ 12200 := btt0_2; omega), (by have t1 : 0 ≤ t0_2.toInt ∧ t0_2.toInt ≤ 12200 := btt0_2; omega)⟩)
          replace hO136 := (hu198 _ (by decide)).trans hO136
          replace hA149 := (hu198 _ (by decide)).trans hA149
          replace hA151 := (hu198 _ (by decide)).trans hA151
          replace hA153 := (hu198 _ (by decide)).trans hA153
          replace hA155 := (hu198 _ (by decide)).trans hA155
          replace hA157 := (hu198 _ (by decide)).trans hA157
          replace hT7 := (hu198 _ (by decide)).trans hT7
          replace hF := q_us hF hu198 (by simp)
          exact q_retv C0 V (⟨hI, hF, y137, y137, y138, y139, y140, y141, y142, y143, y144, y145, y146, y147, f148, f150, f152, f154, f156, t7_0, hT0, hO136, hA149, hA151, hA153, hA155, hA157, hT7, (show 0 ≤ y141.toInt from (by first | with_reducible exact q_fe b158 | (have t1 : 0 ≤ y141.toInt := b158; omega))), (show 0 ≤ y142.toInt from (by first | with_reducible exact q_fe b159 | (have t1 : 0 ≤ y142.toInt := b159; omega))), (show y142.toInt ≤ 1 from (by first | with_reducible exact q_fe b160 | (have t1 : y142.toInt ≤ 1 := b160; omega))), (show t1_1.toInt ≤ y138.toInt from (by first | with_reducible exact q_fe b161 | (have t1 : t1_1.toInt ≤ y138.toInt := b161; omega))), (show y138.toInt ≤ t1_1.toInt from (by first | with_reducible exact q_fe b162 | (have t1 : y138.toInt ≤ t1_1.toInt := b162; omega))), (show y141.toInt ≤ t1_4.toInt from (by first | with_reducible exact q_fe b163 | (have t1 : y141.toInt ≤ t1_4.toInt := b163; omega))), (show t1_6.toInt ≤ y143.toInt from (by first | with_reducible exact q_fe b164 | (have t1 : t1_6.toInt ≤ y143.toInt := b164; omega))), (show y143.toInt ≤ t1_6.toInt from (by first | with_reducible exact q_fe b165 | (have t1 : y143.toInt ≤ t1_6.toInt := b165; omega))), (show t1_7.toInt ≤ y144.toInt from (by first | with_reducible exact q_fe b166 | (have t1 : t1_7.toInt ≤ y144.toInt := b166; omega))), (show y144.toInt ≤ t1_7.toInt from (by first | with_reducible exact q_fe b167 | (have t1 : y144.toInt ≤ t1_7.toInt := b167; omega))), (show t1_8.toInt ≤ y145.toInt from (by first | with_reducible exact q_fe b168 | (have t1 : t1_8.toInt ≤ y145.toInt := b168; omega))), (show y145.toInt ≤ t1_8.toInt from (by first | with_reducible exact q_fe b169 | (have t1 : y145.toInt ≤ t1_8.toInt := b169; omega))), (show t1_9.toInt ≤ y146.toInt from (by first | with_reducible exact q_fe b170 | (have t1 : t1_9.toInt ≤ y146.toInt := b170; omega))), (show y146.toInt ≤ t1_9.toInt from (by first | with_reducible exact q_fe b171 | (have t1 : y146.toInt ≤ t1_9.toInt := b171; omega))), (show (y137, y137, y138, y139, y140, y141, y142, y143, y144, y145, y146, y147, f148, f150, f152, f154, f156, t7_0) = (F_NM_decimalBy x2 x3 x4 x5 t0_0 t0_1 t0_2 t1_0 t1_1 t1_2 t1_3 t1_4 t1_5 t1_6 t1_7 t1_8 t1_9 t1_10 t2_0 t3_0 t4_0 t5_0 t6_0 t7_0) from Eq.trans (by rw [e191, e190, e189, e188, e187, e186, e185, e184, e183, e182, e181, e180, e179, e178, e177, e176, F_NM_decimalBy_c72.eq_1]) hR192)⟩) d_14_24_99
      ·
        refine lv_aload_n hx hb d_14_24_45 rfl (lv_at hl 0 rfl) ?_
        refine q_get (ci := 12) (j := 6) (v := .ref (q 134)) C0 V i_NM rfl rfl hT0 (by decide) w_2304 rfl d_14_24_46 ?_
        refine lv_iload_n hx hb d_14_24_49 rfl (lv_at hl 2 rfl) ?_
        refine lv_iload_n hx hb d_14_24_50 rfl (lv_at hl 3 rfl) ?_
        refine lv_iload hx hb d_14_24_51 (lv_at hl 4 rfl) ?_
        have ob200 : True ∧ S_DR_power x3 x4 x5 t1_0 t1_1 t1_2 t1_3 t1_4 t1_5 t1_6 t1_7 t1_8 t1_9 t1_10 t2_0 t3_0 t4_0 t5_0 t6_0 t7_0 := (by have h := hS54; rw [S_NM_decimalBy_J30.eq_1] at h; rw [if_pos c60] at h; rw [if_pos c62] at h; with_reducible exact h.2.1)
        refine q_gov V (q_runV (As := [.int x3, .int x4, .int x5]) (rest := []) (d := 3) (mc := 0) (ms := 0) (ci := 14) C0 V rfl LV_NM_208 (X_DR_power l D g q w58  x3 x4 x5 hI t1_0 t1_1 t1_2 t1_3 t1_4 t1_5 t1_6 t1_7 t1_8 t1_9 t1_10 hT1 t2_0 hT2 t3_0 hT3 t4_0 hT4 t5_0 hT5 t6_0 hT6 t7_0 hT7 ob200 _) rfl rfl hT1 rfl hl.1 rfl (Nat.le_of_ble_eq_true rfl) ⟨by decide, by decide⟩ ⟨Nat.le_of_ble_eq_true rfl, Nat.le_of_ble_eq_true rfl⟩ d_14_24_53) (fun u201 H locs hp202 V => ?_)
        obtain ⟨hI, hZ9⟩ := hp202
        obtain ⟨hu242, hZ9⟩ := hZ9
        obtain ⟨y204, hZ9⟩ := hZ9
        obtain ⟨y205, hZ9⟩ := hZ9
        obtain ⟨y206, hZ9⟩ := hZ9
        obtain ⟨y207, hZ9⟩ := hZ9
        obtain ⟨y208, hZ9⟩ := hZ9
        obtain ⟨y209, hZ9⟩ := hZ9
        obtain ⟨y210, hZ9⟩ := hZ9
        obtain ⟨y211, hZ9⟩ := hZ9
        obtain ⟨y212, hZ9⟩ := hZ9
        obtain ⟨y213, hZ9⟩ := hZ9
        obtain ⟨y214, hZ9⟩ := hZ9
        obtain ⟨f215, hZ9⟩ := hZ9
        obtain ⟨f217, hZ9⟩ := hZ9
        obtain ⟨f219, hZ9⟩ := hZ9
        obtain ⟨f221, hZ9⟩ := hZ9
        obtain ⟨f223, hZ9⟩ := hZ9
        obtain ⟨f225, hZ9⟩ := hZ9
        obtain ⟨hO203, hZ9⟩ := hZ9
        obtain ⟨hA216, hZ9⟩ := hZ9
        obtain ⟨hA218, hZ9⟩ := hZ9
        obtain ⟨hA220, hZ9⟩ := hZ9
        obtain ⟨hA222, hZ9⟩ := hZ9
        obtain ⟨hA224, hZ9⟩ := hZ9
        obtain ⟨hA226, hZ9⟩ := hZ9
        obtain ⟨b227, hZ9⟩ := hZ9
        obtain ⟨b228, hZ9⟩ := hZ9
        obtain ⟨b229, hZ9⟩ := hZ9
        obtain ⟨b230, hZ9⟩ := hZ9
        obtain ⟨b231, hZ9⟩ := hZ9
        obtain ⟨b232, hZ9⟩ := hZ9
        obtain ⟨b233, hZ9⟩ := hZ9
        obtain ⟨b234, hZ9⟩ := hZ9
        obtain ⟨b235, hZ9⟩ := hZ9
        obtain ⟨b236, hZ9⟩ := hZ9
        obtain ⟨b237, hZ9⟩ := hZ9
        obtain ⟨b238, hZ9⟩ := hZ9
        obtain ⟨b239, hZ9⟩ := hZ9
        obtain ⟨b240, hE241⟩ := hZ9
        replace hO203 : u201[134]? = (some (q 134, .inr (14, [.int y204, .ref (q 135), .int y205, .ref (q 136), .ref (q 137), .ref (q 138), .ref (q 139), .ref (q 140), .int y206, .long y207, .int y208, .int y209, .ref (q 141), .int y210, .ref (q 142), .int y211, .ref (q 143), .int y212, .ref (q 144), .int y213, .int y214])) : Option (Nat × va_E)) := hO203
        replace hA216 : u201[136]? = (some (q 136, .inl (g 0, (10000 : Int32).toNatClampNeg, .inl f215)) : Option (Nat × va_E)) := hA216
        replace hA218 : u201[137]? = (some (q 137, .inl (g 0, (10 : Int32).toNatClampNeg, .inl f217)) : Option (Nat × va_E)) := hA218
        replace hA220 : u201[138]? = (some (q 138, .inl (g 3, 10, .inl f219)) : Option (Nat × va_E)) := hA220
        replace hA222 : u201[139]? = (some (q 139, .inl (g 0, (10 : Int32).toNatClampNeg, .inl f221)) : Option (Nat × va_E)) := hA222
        replace hA224 : u201[140]? = (some (q 140, .inl (g 0, (4400 : Int32).toNatClampNeg, .inl f223)) : Option (Nat × va_E)) := hA224
        replace hA226 : u201[141]? = (some (q 141, .inl (g 0, (4400 : Int32).toNatClampNeg, .inl f225)) : Option (Nat × va_E)) := hA226
        obtain ⟨p243, e244⟩ : ∃ z, z = (F_DR_power x3 x4 x5 t1_0 t1_1 t1_2 t1_3 t1_4 t1_5 t1_6 t1_7 t1_8 t1_9 t1_10 t2_0 t3_0 t4_0 t5_0 t6_0 t7_0) := ⟨_, rfl⟩
        have e245 : y204 = p243.1 := congrArg (fun z => z.1) (hE241.trans e244.symm)
        have e246 : y205 = p243.2.1 := congrArg (fun z => z.2.1) (hE241.trans e244.symm)
        have e247 : y206 = p243.2.2.1 := congrArg (fun z => z.2.2.1) (hE241.trans e244.symm)
        have e248 : y207 = p243.2.2.2.1 := congrArg (fun z => z.2.2.2.1) (hE241.trans e244.symm)
        have e249 : y208 = p243.2.2.2.2.1 := congrArg (fun z => z.2.2.2.2.1) (hE241.trans e244.symm)
        have e250 : y209 = p243.2.2.2.2.2.1 := congrArg (fun z => z.2.2.2.2.2.1) (hE241.trans e244.symm)
        have e251 : y210 = p243.2.2.2.2.2.2.1 := congrArg (fun z => z.2.2.2.2.2.2.1) (hE241.trans e244.symm)
        have e252 : y211 = p243.2.2.2.2.2.2.2.1 := congrArg (fun z => z.2.2.2.2.2.2.2.1) (hE241.trans e244.symm)
        have e253 : y212 = p243.2.2.2.2.2.2.2.2.1 := congrArg (fun z => z.2.2.2.2.2.2.2.2.1) (hE241.trans e244.symm)
        have e254 : y213 = p243.2.2.2.2.2.2.2.2.2.1 := congrArg (fun z => z.2.2.2.2.2.2.2.2.2.1) (hE241.trans e244.symm)
        have e255 : y214 = p243.2.2.2.2.2.2.2.2.2.2.1 := congrArg (fun z => z.2.2.2.2.2.2.2.2.2.2.1) (hE241.trans e244.symm)
        have e256 : f215 = p243.2.2.2.2.2.2.2.2.2.2.2.1 := congrArg (fun z => z.2.2.2.2.2.2.2.2.2.2.2.1) (hE241.trans e244.symm)
        have e257 : f217 = p243.2.2.2.2.2.2.2.2.2.2.2.2.1 := congrArg (fun z => z.2.2.2.2.2.2.2.2.2.2.2.2.1) (hE241.trans e244.symm)
        have e258 : f219 = p243.2.2.2.2.2.2.2.2.2.2.2.2.2.1 := congrArg (fun z => z.2.2.2.2.2.2.2.2.2.2.2.2.2.1) (hE241.trans e244.symm)
        have e259 : f221 = p243.2.2.2.2.2.2.2.2.2.2.2.2.2.2.1 := congrArg (fun z => z.2.2.2.2.2.2.2.2.2.2.2.2.2.2.1) (hE241.trans e244.symm)
        have e260 : f223 = p243.2.2.2.2.2.2.2.2.2.2.2.2.2.2.2.1 := congrArg (fun z => z.2.2.2.2.2.2.2.2.2.2.2.2.2.2.2.1) (hE241.trans e244.symm)
        have e261 : f225 = p243.2.2.2.2.2.2.2.2.2.2.2.2.2.2.2.2 := congrArg (fun z => z.2.2.2.2.2.2.2.2.2.2.2.2.2.2.2.2) (hE241.trans e244.symm)
        replace b227 : q_F (0 ≤ y208.toInt) := b227
        replace b228 : q_F (0 ≤ y209.toInt) := b228
        replace b229 : q_F (y209.toInt ≤ 1) := b229
        replace b230 : q_F (t1_1.toInt ≤ y205.toInt) := b230
        replace b231 : q_F (y205.toInt ≤ t1_1.toInt) := b231
        replace b232 : q_F (y208.toInt ≤ t1_4.toInt) := b232
        replace b233 : q_F (t1_6.toInt ≤ y210.toInt) := b233
        replace b234 : q_F (y210.toInt ≤ t1_6.toInt) := b234
        replace b235 : q_F (t1_7.toInt ≤ y211.toInt) := b235
        replace b236 : q_F (y211.toInt ≤ t1_7.toInt) := b236
        replace b237 : q_F (t1_8.toInt ≤ y212.toInt) := b237
        replace b238 : q_F (y212.toInt ≤ t1_8.toInt) := b238
        replace b239 : q_F (t1_9.toInt ≤ y213.toInt) := b239
        replace b240 : q_F (y213.toInt ≤ t1_9.toInt) := b240
        replace hT0 := (hu242 _ (by decide)).trans hT0
        replace hF := q_uc hF hu242 (by simp)
        have hR262 := (show F_NM_decimalBy_c53 x2 x3 x4 x5 t0_0 t0_1 t0_2 t1_0 t1_1 t1_2 t1_3 t1_4 t1_5 t1_6 t1_7 t1_8 t1_9 t1_10 t2_0 t3_0 t4_0 t5_0 t6_0 t7_0 lx41 p243 = (F_NM_decimalBy x2 x3 x4 x5 t0_0 t0_1 t0_2 t1_0 t1_1 t1_2 t1_3 t1_4 t1_5 t1_6 t1_7 t1_8 t1_9 t1_10 t2_0 t3_0 t4_0 t5_0 t6_0 t7_0) from Eq.trans (by rw [e244, F_NM_decimalBy_J30.eq_1, if_pos c60, if_pos c62]) hR53)
        have hS263 := (show True ∧ S_NM_decimalBy_c53 x2 x3 x4 x5 t0_0 t0_1 t0_2 t1_0 t1_1 t1_2 t1_3 t1_4 t1_5 t1_6 t1_7 t1_8 t1_9 t1_10 t2_0 t3_0 t4_0 t5_0 t6_0 t7_0 lx41 p243 from (by rw [e244]; have h := hS54; rw [S_NM_decimalBy_J30.eq_1] at h; rw [if_pos c60] at h; rw [if_pos c62] at h; replace h := q_s2 h; with_reducible exact h))
        refine lv_goto (tgt := 88) hx hb d_14_24_56 (by decide) ?_
        refine lv_aload_n hx hb d_14_24_88 rfl (lv_at hl 0 rfl) ?_
        refine lv_aload_n hx hb d_14_24_89 rfl (lv_at hl 0 rfl) ?_
        refine q_get (ci := 12) (j := 6) (v := .ref (q 134)) C0 V i_NM rfl rfl hT0 (by decide) w_2304 rfl d_14_24_90 ?_
        refine q_getN (ci := 14) (j := 0) (v := .int y204) C0 V i_DR rfl rfl hO203 (by decide) wo_1997 rfl d_14_24_93 ?_
        refine q_put (ci := 12) (j := 0) (v := .int y204) (ty := .int) C0 V i_NM o_NM n_NM rfl rfl hT0 (by decide) w_2298 rfl rfl rfl rfl (Nat.le_of_ble_eq_true rfl) d_14_24_96 (fun H locs w267 hu268 hT0 V => ?_)
        replace hT0 : w267[116]? = (some (q 116, .inr (12, [.int y204, .ref (q 117), .int t0_1, .ref (q 118), .int t0_2, .ref (q 119), .ref (q 134), .ref (q 145), .ref (q 153), .ref (q 157), .ref (q 167), .ref (q 168)])) : Option (Nat × va_E)) := hT0
        replace hI := n_p116 hI hu268 hT0 (by first | with_reducible exact q_fe btt0_1 | exact ⟨(by have t1 : 0 ≤ t0_1.toInt ∧ t0_1.toInt ≤ 4100 := btt0_1; omega), (by have t1 : 0 ≤ t0_1.toInt ∧ t0_1.toInt ≤ 4100 := btt0_1; omega)⟩) (by first | with_reducible exact q_fe btt0_2 | exact ⟨(by have t1 : 0 ≤ t0_2.toInt ∧ t0_2.toInt ≤ 12200 := btt0_2; omega), (by have t1 : 0 ≤ t0_2.toInt ∧ t0_2.toInt ≤ 12200 := btt0_2; omega)⟩)
        replace hO203 := (hu268 _ (by decide)).trans hO203
        replace hA216 := (hu268 _ (by decide)).trans hA216
        replace hA218 := (hu268 _ (by decide)).trans hA218
        replace hA220 := (hu268 _ (by decide)).trans hA220
        replace hA222 := (hu268 _ (by decide)).trans hA222
        replace hA224 := (hu268 _ (by decide)).trans hA224
        replace hA226 := (hu268 _ (by decide)).trans hA226
        replace hF := q_us hF hu268 (by simp)
        exact q_retv C0 V (⟨hI, hF, y204, y204, y205, y206, y207, y208, y209, y210, y211, y212, y213, y214, f215, f217, f219, f221, f223, f225, hT0, hO203, hA216, hA218, hA220, hA222, hA224, hA226, (show 0 ≤ y208.toInt from (by first | with_reducible exact q_fe b227 | (have t1 : 0 ≤ y208.toInt := b227; omega))), (show 0 ≤ y209.toInt from (by first | with_reducible exact q_fe b228 | (have t1 : 0 ≤ y209.toInt := b228; omega))), (show y209.toInt ≤ 1 from (by first | with_reducible exact q_fe b229 | (have t1 : y209.toInt ≤ 1 := b229; omega))), (show t1_1.toInt ≤ y205.toInt from (by first | with_reducible exact q_fe b230 | (have t1 : t1_1.toInt ≤ y205.toInt := b230; omega))), (show y205.toInt ≤ t1_1.toInt from (by first | with_reducible exact q_fe b231 | (have t1 : y205.toInt ≤ t1_1.toInt := b231; omega))), (show y208.toInt ≤ t1_4.toInt from (by first | with_reducible exact q_fe b232 | (have t1 : y208.toInt ≤ t1_4.toInt := b232; omega))), (show t1_6.toInt ≤ y210.toInt from (by first | with_reducible exact q_fe b233 | (have t1 : t1_6.toInt ≤ y210.toInt := b233; omega))), (show y210.toInt ≤ t1_6.toInt from (by first | with_reducible exact q_fe b234 | (have t1 : y210.toInt ≤ t1_6.toInt := b234; omega))), (show t1_7.toInt ≤ y211.toInt from (by first | with_reducible exact q_fe b235 | (have t1 : t1_7.toInt ≤ y211.toInt := b235; omega))), (show y211.toInt ≤ t1_7.toInt from (by first | with_reducible exact q_fe b236 | (have t1 : y211.toInt ≤ t1_7.toInt := b236; omega))), (show t1_8.toInt ≤ y212.toInt from (by first | with_reducible exact q_fe b237 | (have t1 : t1_8.toInt ≤ y212.toInt := b237; omega))), (show y212.toInt ≤ t1_8.toInt from (by first | with_reducible exact q_fe b238 | (have t1 : y212.toInt ≤ t1_8.toInt := b238; omega))), (show t1_9.toInt ≤ y213.toInt from (by first | with_reducible exact q_fe b239 | (have t1 : t1_9.toInt ≤ y213.toInt := b239; omega))), (show y213.toInt ≤ t1_9.toInt from (by first | with_reducible exact q_fe b240 | (have t1 : y213.toInt ≤ t1_9.toInt := b240; omega))), (show (y204, y204, y205, y206, y207, y208, y209, y210, y211, y212, y213, y214, f215, f217, f219, f221, f223, f225) = (F_NM_decimalBy x2 x3 x4 x5 t0_0 t0_1 t0_2 t1_0 t1_1 t1_2 t1_3 t1_4 t1_5 t1_6 t1_7 t1_8 t1_9 t1_10 t2_0 t3_0 t4_0 t5_0 t6_0 t7_0) from Eq.trans (by rw [e261, e260, e259, e258, e257, e256, e255, e254, e253, e252, e251, e250, e249, e248, e247, e246, e245, F_NM_decimalBy_c53.eq_1]) hR262)⟩) d_14_24_99
    ·
      exact q_retv C0 V (⟨hI, hF, lx41, t1_0, t1_1, t1_2, t1_3, t1_4, t1_5, t1_6, t1_7, t1_8, t1_9, t1_10, t2_0, t3_0, t4_0, t5_0, t6_0, t7_0, hT0, hT1, hT2, hT3, hT4, hT5, hT6, hT7, (show 0 ≤ t1_4.toInt from (by first | with_reducible exact (q_fe btt1_4).2 | with_reducible exact (q_fe btt1_4).1 | (have t1 : 0 ≤ t1_4.toInt ∧ t1_4.toInt ≤ 1 := btt1_4; omega))), (show 0 ≤ t1_5.toInt from (by first | with_reducible exact (q_fe btt1_5).2 | with_reducible exact (q_fe btt1_5).1 | (have t1 : 0 ≤ t1_5.toInt ∧ t1_5.toInt ≤ 1 := btt1_5; omega))), (show t1_5.toInt ≤ 1 from (by first | with_reducible exact (q_fe btt1_5).2 | with_reducible exact (q_fe btt1_5).1 | (have t1 : 0 ≤ t1_5.toInt ∧ t1_5.toInt ≤ 1 := btt1_5; omega))), (show t1_1.toInt ≤ t1_1.toInt from (by omega)), (show t1_1.toInt ≤ t1_1.toInt from (by omega)), (show t1_4.toInt ≤ t1_4.toInt from (by omega)), (show t1_6.toInt ≤ t1_6.toInt from (by omega)), (show t1_6.toInt ≤ t1_6.toInt from (by omega)), (show t1_7.toInt ≤ t1_7.toInt from (by omega)), (show t1_7.toInt ≤ t1_7.toInt from (by omega)), (show t1_8.toInt ≤ t1_8.toInt from (by omega)), (show t1_8.toInt ≤ t1_8.toInt from (by omega)), (show t1_9.toInt ≤ t1_9.toInt from (by omega)), (show t1_9.toInt ≤ t1_9.toInt from (by omega)), (show (lx41, t1_0, t1_1, t1_2, t1_3, t1_4, t1_5, t1_6, t1_7, t1_8, t1_9, t1_10, t2_0, t3_0, t4_0, t5_0, t6_0, t7_0) = (F_NM_decimalBy x2 x3 x4 x5 t0_0 t0_1 t0_2 t1_0 t1_1 t1_2 t1_3 t1_4 t1_5 t1_6 t1_7 t1_8 t1_9 t1_10 t2_0 t3_0 t4_0 t5_0 t6_0 t7_0) from Eq.trans (by rw [F_NM_decimalBy_J30.eq_1, if_neg c60]) hR53)⟩) d_14_24_40
  ·
    intro J50
    refine q_join (X := Unit) (fun z H locs ls _ => q_Wd D g (va_A ws sz) s ws H locs ∧ lv_has ls 5 [(0, .ref (q 116)), (1, .int x2), (2, .int x3), (3, .int x4), (4, .int x5)] ∧ F_NM_decimalBy_J25 x2 x3 x4 x5 t0_0 t0_1 t0_2 t1_0 t1_1 t1_2 t1_3 t1_4 t1_5 t1_6 t1_7 t1_8 t1_9 t1_10 t2_0 t3_0 t4_0 t5_0 t6_0 t7_0 = (F_NM_decimalBy x2 x3 x4 x5 t0_0 t0_1 t0_2 t1_0 t1_1 t1_2 t1_3 t1_4 t1_5 t1_6 t1_7 t1_8 t1_9 t1_10 t2_0 t3_0 t4_0 t5_0 t6_0 t7_0) ∧ True ∧ S_NM_decimalBy_J25 x2 x3 x4 x5 t0_0 t0_1 t0_2 t1_0 t1_1 t1_2 t1_3 t1_4 t1_5 t1_6 t1_7 t1_8 t1_9 t1_10 t2_0 t3_0 t4_0 t5_0 t6_0 t7_0) (fun z => [.ref (q 116)]) 25 0 0 ?_ ?_
    ·
      rintro _ H locs ls _ ⟨V, hl, hR279, hS280⟩
      replace hl : lv_has ls 5 [(0, .ref (q 116)), (1, .int x2), (2, .int x3), (3, .int x4), (4, .int x5)] := hl
      refine lv_iconst (v := 1) hx hb d_14_24_25 (by decide) ?_
      refine lv_goto (tgt := 30) hx hb d_14_24_26 (by decide) ?_
      exact J50 ((1 : Int32)) _ _ _ ws ⟨(show q_F (0 ≤ 1) from (show 0 ≤ 1 from by omega)), (show q_F (1 ≤ 1) from (show 1 ≤ 1 from by omega)), V, q_lw hl (q_lw1 0 rfl (q_lw1 1 rfl (q_lw1 2 rfl (q_lw1 3 rfl (q_lw1 4 rfl q_lw0))))), (show F_NM_decimalBy_J30 x2 x3 x4 x5 t0_0 t0_1 t0_2 t1_0 t1_1 t1_2 t1_3 t1_4 t1_5 t1_6 t1_7 t1_8 t1_9 t1_10 t2_0 t3_0 t4_0 t5_0 t6_0 t7_0 1 = (F_NM_decimalBy x2 x3 x4 x5 t0_0 t0_1 t0_2 t1_0 t1_1 t1_2 t1_3 t1_4 t1_5 t1_6 t1_7 t1_8 t1_9 t1_10 t2_0 t3_0 t4_0 t5_0 t6_0 t7_0) from Eq.trans (by rw [F_NM_decimalBy_J25.eq_1]) hR279), (show True ∧ S_NM_decimalBy_J30 x2 x3 x4 x5 t0_0 t0_1 t0_2 t1_0 t1_1 t1_2 t1_3 t1_4 t1_5 t1_6 t1_7 t1_8 t1_9 t1_10 t2_0 t3_0 t4_0 t5_0 t6_0 t7_0 1 from (by have h := hS280; rw [S_NM_decimalBy_J25.eq_1] at h; with_reducible exact h))⟩
    ·
      intro J278
      refine lv_if_lt (tgt := 25) hx hb d_14_24_2 (by decide) (fun c284 => ?_) (fun c284 => ?_)
      ·
        exact J278 (()) _ _ _ ws ⟨V, q_lw hl (q_lw1 0 rfl (q_lw1 1 rfl (q_lw1 2 rfl (q_lw1 3 rfl (q_lw1 4 rfl q_lw0))))), (show F_NM_decimalBy_J25 x2 x3 x4 x5 t0_0 t0_1 t0_2 t1_0 t1_1 t1_2 t1_3 t1_4 t1_5 t1_6 t1_7 t1_8 t1_9 t1_10 t2_0 t3_0 t4_0 t5_0 t6_0 t7_0 = (F_NM_decimalBy x2 x3 x4 x5 t0_0 t0_1 t0_2 t1_0 t1_1 t1_2 t1_3 t1_4 t1_5 t1_6 t1_7 t1_8 t1_9 t1_10 t2_0 t3_0 t4_0 t5_0 t6_0 t7_0) from (by rw [F_NM_decimalBy.eq_1, if_pos c284])), (show True ∧ S_NM_decimalBy_J25 x2 x3 x4 x5 t0_0 t0_1 t0_2 t1_0 t1_1 t1_2 t1_3 t1_4 t1_5 t1_6 t1_7 t1_8 t1_9 t1_10 t2_0 t3_0 t4_0 t5_0 t6_0 t7_0 from (by have h := hS; rw [S_NM_decimalBy.eq_1] at h; rw [if_pos c284] at h; with_reducible exact h))⟩
      ·
        refine lv_iload_n hx hb d_14_24_5 rfl (lv_at hl 1 rfl) ?_
        refine lv_iconst (v := 2) hx hb d_14_24_6 (by decide) ?_
        refine lv_icmp_gt (tgt := 25) hx hb d_14_24_7 (by decide) (fun c287 => ?_) (fun c287 => ?_)
        ·
          exact J278 (()) _ _ _ ws ⟨V, q_lw hl (q_lw1 0 rfl (q_lw1 1 rfl (q_lw1 2 rfl (q_lw1 3 rfl (q_lw1 4 rfl q_lw0))))), (show F_NM_decimalBy_J25 x2 x3 x4 x5 t0_0 t0_1 t0_2 t1_0 t1_1 t1_2 t1_3 t1_4 t1_5 t1_6 t1_7 t1_8 t1_9 t1_10 t2_0 t3_0 t4_0 t5_0 t6_0 t7_0 = (F_NM_decimalBy x2 x3 x4 x5 t0_0 t0_1 t0_2 t1_0 t1_1 t1_2 t1_3 t1_4 t1_5 t1_6 t1_7 t1_8 t1_9 t1_10 t2_0 t3_0 t4_0 t5_0 t6_0 t7_0) from (by rw [F_NM_decimalBy.eq_1, if_neg c284, if_pos c287])), (show True ∧ S_NM_decimalBy_J25 x2 x3 x4 x5 t0_0 t0_1 t0_2 t1_0 t1_1 t1_2 t1_3 t1_4 t1_5 t1_6 t1_7 t1_8 t1_9 t1_10 t2_0 t3_0 t4_0 t5_0 t6_0 t7_0 from (by have h := hS; rw [S_NM_decimalBy.eq_1] at h; rw [if_neg c284] at h; rw [if_pos c287] at h; with_reducible exact h))⟩
        ·
          refine lv_iload_n hx hb d_14_24_10 rfl (lv_at hl 2 rfl) ?_
          refine q_goi V (q_runS (As := [.int x3]) (rest := [.ref (q 116)]) (d := 1) (mc := 0) (ms := 0) C0 V rfl LS_NM_70 (X_NM_no_IZ l D g q ws  x3 hI   _) rfl hl.1 rfl (Nat.le_of_ble_eq_true rfl) ⟨by decide, by decide⟩ ⟨Nat.le_of_ble_eq_true rfl, Nat.le_of_ble_eq_true rfl⟩ d_14_24_11) (fun a292 u290 H locs hp291 V => ?_)
          obtain ⟨rfl, b293, b294, hE295⟩ := hp291
          have e296 : a292 = (F_NM_no_IZ x3) := hE295
          clear b293
          clear b294
          refine lv_if_ne (tgt := 25) hx hb d_14_24_14 (by decide) (fun c297 => ?_) (fun c297 => ?_)
          ·
            exact J278 (()) _ _ _ ws ⟨V, q_lw hl (q_lw1 0 rfl (q_lw1 1 rfl (q_lw1 2 rfl (q_lw1 3 rfl (q_lw1 4 rfl q_lw0))))), (show F_NM_decimalBy_J25 x2 x3 x4 x5 t0_0 t0_1 t0_2 t1_0 t1_1 t1_2 t1_3 t1_4 t1_5 t1_6 t1_7 t1_8 t1_9 t1_10 t2_0 t3_0 t4_0 t5_0 t6_0 t7_0 = (F_NM_decimalBy x2 x3 x4 x5 t0_0 t0_1 t0_2 t1_0 t1_1 t1_2 t1_3 t1_4 t1_5 t1_6 t1_7 t1_8 t1_9 t1_10 t2_0 t3_0 t4_0 t5_0 t6_0 t7_0) from (by have c297x := c297; rw [e296] at c297x; rw [F_NM_decimalBy.eq_1, if_neg c284, if_neg c287, if_neg c297x])), (show True ∧ S_NM_decimalBy_J25 x2 x3 x4 x5 t0_0 t0_1 t0_2 t1_0 t1_1 t1_2 t1_3 t1_4 t1_5 t1_6 t1_7 t1_8 t1_9 t1_10 t2_0 t3_0 t4_0 t5_0 t6_0 t7_0 from (by have h := hS; rw [S_NM_decimalBy.eq_1] at h; rw [if_neg c284] at h; rw [if_neg c287] at h; have c297x := c297; rw [e296] at c297x; rw [if_neg c297x] at h; with_reducible exact h))⟩
          ·
            refine lv_iload hx hb d_14_24_17 (lv_at hl 4 rfl) ?_
            refine q_goi V (q_runS (As := [.int x5]) (rest := [.ref (q 116)]) (d := 1) (mc := 0) (ms := 0) C0 V rfl LS_NM_70 (X_NM_no_IZ l D g q ws  x5 hI   _) rfl hl.1 rfl (Nat.le_of_ble_eq_true rfl) ⟨by decide, by decide⟩ ⟨Nat.le_of_ble_eq_true rfl, Nat.le_of_ble_eq_true rfl⟩ d_14_24_19) (fun a302 u300 H locs hp301 V => ?_)
            obtain ⟨rfl, b303, b304, hE305⟩ := hp301
            have e306 : a302 = (F_NM_no_IZ x5) := hE305
            clear b303
            clear b304
            refine lv_if_eq (tgt := 29) hx hb d_14_24_22 (by decide) (fun c307 => ?_) (fun c307 => ?_)
            ·
              refine lv_iconst (v := 0) hx hb d_14_24_29 (by decide) ?_
              exact J50 ((0 : Int32)) _ _ _ ws ⟨(show q_F (0 ≤ 0) from (show 0 ≤ 0 from by omega)), (show q_F (0 ≤ 1) from (show 0 ≤ 1 from by omega)), V, q_lw hl (q_lw1 0 rfl (q_lw1 1 rfl (q_lw1 2 rfl (q_lw1 3 rfl (q_lw1 4 rfl q_lw0))))), (show F_NM_decimalBy_J30 x2 x3 x4 x5 t0_0 t0_1 t0_2 t1_0 t1_1 t1_2 t1_3 t1_4 t1_5 t1_6 t1_7 t1_8 t1_9 t1_10 t2_0 t3_0 t4_0 t5_0 t6_0 t7_0 0 = (F_NM_decimalBy x2 x3 x4 x5 t0_0 t0_1 t0_2 t1_0 t1_1 t1_2 t1_3 t1_4 t1_5 t1_6 t1_7 t1_8 t1_9 t1_10 t2_0 t3_0 t4_0 t5_0 t6_0 t7_0) from (by have c297x := c297; rw [e296] at c297x; have c307x := c307; rw [e306] at c307x; rw [F_NM_decimalBy.eq_1, if_neg c284, if_neg c287, if_pos c297x, if_pos c307x])), (show True ∧ S_NM_decimalBy_J30 x2 x3 x4 x5 t0_0 t0_1 t0_2 t1_0 t1_1 t1_2 t1_3 t1_4 t1_5 t1_6 t1_7 t1_8 t1_9 t1_10 t2_0 t3_0 t4_0 t5_0 t6_0 t7_0 0 from (by have h := hS; rw [S_NM_decimalBy.eq_1] at h; rw [if_neg c284] at h; rw [if_neg c287] at h; have c297x := c297; rw [e296] at c297x; rw [if_pos c297x] at h; have c307x := c307; rw [e306] at c307x; rw [if_pos c307x] at h; with_reducible exact h))⟩
            ·
              exact J278 (()) _ _ _ ws ⟨V, q_lw hl (q_lw1 0 rfl (q_lw1 1 rfl (q_lw1 2 rfl (q_lw1 3 rfl (q_lw1 4 rfl q_lw0))))), (show F_NM_decimalBy_J25 x2 x3 x4 x5 t0_0 t0_1 t0_2 t1_0 t1_1 t1_2 t1_3 t1_4 t1_5 t1_6 t1_7 t1_8 t1_9 t1_10 t2_0 t3_0 t4_0 t5_0 t6_0 t7_0 = (F_NM_decimalBy x2 x3 x4 x5 t0_0 t0_1 t0_2 t1_0 t1_1 t1_2 t1_3 t1_4 t1_5 t1_6 t1_7 t1_8 t1_9 t1_10 t2_0 t3_0 t4_0 t5_0 t6_0 t7_0) from (by have c297x := c297; rw [e296] at c297x; have c307x := c307; rw [e306] at c307x; rw [F_NM_decimalBy.eq_1, if_neg c284, if_neg c287, if_pos c297x, if_neg c307x])), (show True ∧ S_NM_decimalBy_J25 x2 x3 x4 x5 t0_0 t0_1 t0_2 t1_0 t1_1 t1_2 t1_3 t1_4 t1_5 t1_6 t1_7 t1_8 t1_9 t1_10 t2_0 t3_0 t4_0 t5_0 t6_0 t7_0 from (by have h := hS; rw [S_NM_decimalBy.eq_1] at h; rw [if_neg c284] at h; rw [if_neg c287] at h; have c297x := c297; rw [e296] at c297x; rw [if_pos c297x] at h; have c307x := c307; rw [e306] at c307x; rw [if_neg c307x] at h; with_reducible exact h))⟩
theorem d_14_25_0 : decode prog_14_method_25_code 0 = .ok (.aload_n 0, 1) := by decide +kernel
theorem d_14_25_1 : decode prog_14_method_25_code 1 = .ok (.getfield 26, 3) := by decide +kernel
theorem d_14_25_4 : decode prog_14_method_25_code 4 = .ok (.iload_n 1, 1) := by decide +kernel
theorem d_14_25_5 : decode prog_14_method_25_code 5 = .ok (.iload_n 2, 1) := by decide +kernel
theorem d_14_25_6 : decode prog_14_method_25_code 6 = .ok (.iload_n 3, 1) := by decide +kernel
theorem d_14_25_7 : decode prog_14_method_25_code 7 = .ok (.iload 4, 2) := by decide +kernel
theorem d_14_25_9 : decode prog_14_method_25_code 9 = .ok (.iload 5, 2) := by decide +kernel
theorem d_14_25_11 : decode prog_14_method_25_code 11 = .ok (.invokevirtual 213, 3) := by decide +kernel
set_option maxRecDepth 100000 in
theorem w_2871 : (Cond.code ({ cls := "NumberHouseModel$DecimalRows", name := "divide", desc := "(IIIII)V" } : MethodName) prog_15_method_37_code (12 : Nat) (none : Option ClassFile.FieldType)) ∈ q_tbl := q_of12 231 rfl (by decide +kernel)
set_option maxRecDepth 100000 in
theorem w_2868 : (Cond.methodLink "NumberHouseModel" (213 : Nat) ({ cls := "NumberHouseModel$DecimalRows", name := "divide", desc := "(IIIII)V" } : MethodName)) ∈ q_tbl := q_of12 228 rfl (by decide +kernel)
set_option maxRecDepth 100000 in
theorem w_2869 : (Cond.instanceMethod ({ cls := "NumberHouseModel$DecimalRows", name := "divide", desc := "(IIIII)V" } : MethodName)) ∈ q_tbl := q_of12 229 rfl (by decide +kernel)
set_option maxRecDepth 100000 in
theorem w_2870 : (Cond.selects "NumberHouseModel$DecimalRows" ({ cls := "NumberHouseModel$DecimalRows", name := "divide", desc := "(IIIII)V" } : MethodName) ({ cls := "NumberHouseModel$DecimalRows", name := "divide", desc := "(IIIII)V" } : MethodName)) ∈ q_tbl := q_of12 230 rfl (by decide +kernel)
theorem LV_NM_213 : q_LV "NumberHouseModel" 213 y_DR_divide prog_15_method_37_code 12 none 5 := ⟨w_2871, w_16, w_2868, w_2869, w_2870, ⟨by decide, by decide, by decide +kernel⟩⟩
theorem d_14_25_14 : decode prog_14_method_25_code 14 = .ok (.aload_n 0, 1) := by decide +kernel
theorem d_14_25_15 : decode prog_14_method_25_code 15 = .ok (.aload_n 0, 1) := by decide +kernel
theorem d_14_25_16 : decode prog_14_method_25_code 16 = .ok (.getfield 26, 3) := by decide +kernel
theorem d_14_25_19 : decode prog_14_method_25_code 19 = .ok (.getfield 105, 3) := by decide +kernel
theorem d_14_25_22 : decode prog_14_method_25_code 22 = .ok (.putfield 58, 3) := by decide +kernel
theorem d_14_25_25 : decode prog_14_method_25_code 25 = .ok (.return_, 1) := by decide +kernel
def y_NM_divide : MethodName := ⟨"NumberHouseModel", "divide", "(IIIII)V"⟩
def F_NM_divide_c11 (x2 : Int32) (x3 : Int32) (x4 : Int32) (x5 : Int32) (x6 : Int32) (t0_0 : Int32) (t0_1 : Int32) (t0_2 : Int32) (t1_0 : Int32) (t1_1 : Int32) (t1_2 : Int32) (t1_3 : Int64) (t1_4 : Int32) (t1_5 : Int32) (t1_6 : Int32) (t1_7 : Int32) (t1_8 : Int32) (t1_9 : Int32) (t1_10 : Int32) (t2_0 : (Nat → Int32)) (t3_0 : (Nat → Int32)) (t4_0 : (Nat → Int32)) (t5_0 : (Nat → Int32)) (t6_0 : (Nat → Int32)) (t7_0 : (Nat → Int32)) (t8_0 : (Nat → Int32)) (p85 : (Int32 × Int32 × Int32 × Int64 × Int32 × Int32 × Int32 × Int32 × Int32 × Int32 × Int32 × (Nat → Int32) × (Nat → Int32) × (Nat → Int32) × (Nat → Int32) × (Nat → Int32) × (Nat → Int32) × (Nat → Int32))) : Int32 × Int32 × Int32 × Int32 × Int64 × Int32 × Int32 × Int32 × Int32 × Int32 × Int32 × Int32 × (Nat → Int32) × (Nat → Int32) × (Nat → Int32) × (Nat → Int32) × (Nat → Int32) × (Nat → Int32) × (Nat → Int32) := ((p85.1 : Int32), (p85.1 : Int32), (p85.2.1 : Int32), (p85.2.2.1 : Int32), (p85.2.2.2.1 : Int64), (p85.2.2.2.2.1 : Int32), (p85.2.2.2.2.2.1 : Int32), (p85.2.2.2.2.2.2.1 : Int32), (p85.2.2.2.2.2.2.2.1 : Int32), (p85.2.2.2.2.2.2.2.2.1 : Int32), (p85.2.2.2.2.2.2.2.2.2.1 : Int32), (p85.2.2.2.2.2.2.2.2.2.2.1 : Int32), (p85.2.2.2.2.2.2.2.2.2.2.2.1 : (Nat → Int32)), (p85.2.2.2.2.2.2.2.2.2.2.2.2.1 : (Nat → Int32)), (p85.2.2.2.2.2.2.2.2.2.2.2.2.2.1 : (Nat → Int32)), (p85.2.2.2.2.2.2.2.2.2.2.2.2.2.2.1 : (Nat → Int32)), (p85.2.2.2.2.2.2.2.2.2.2.2.2.2.2.2.1 : (Nat → Int32)), (p85.2.2.2.2.2.2.2.2.2.2.2.2.2.2.2.2.1 : (Nat → Int32)), (p85.2.2.2.2.2.2.2.2.2.2.2.2.2.2.2.2.2 : (Nat → Int32)))
def F_NM_divide (x2 : Int32) (x3 : Int32) (x4 : Int32) (x5 : Int32) (x6 : Int32) (t0_0 : Int32) (t0_1 : Int32) (t0_2 : Int32) (t1_0 : Int32) (t1_1 : Int32) (t1_2 : Int32) (t1_3 : Int64) (t1_4 : Int32) (t1_5 : Int32) (t1_6 : Int32) (t1_7 : Int32) (t1_8 : Int32) (t1_9 : Int32) (t1_10 : Int32) (t2_0 : (Nat → Int32)) (t3_0 : (Nat → Int32)) (t4_0 : (Nat → Int32)) (t5_0 : (Nat → Int32)) (t6_0 : (Nat → Int32)) (t7_0 : (Nat → Int32)) (t8_0 : (Nat → Int32)) : Int32 × Int32 × Int32 × Int32 × Int64 × Int32 × Int32 × Int32 × Int32 × Int32 × Int32 × Int32 × (Nat → Int32) × (Nat → Int32) × (Nat → Int32) × (Nat → Int32) × (Nat → Int32) × (Nat → Int32) × (Nat → Int32) := F_NM_divide_c11 x2 x3 x4 x5 x6 t0_0 t0_1 t0_2 t1_0 t1_1 t1_2 t1_3 t1_4 t1_5 t1_6 t1_7 t1_8 t1_9 t1_10 t2_0 t3_0 t4_0 t5_0 t6_0 t7_0 t8_0 ((F_DR_divide x2 x3 x4 x5 x6 t1_0 t1_1 t1_2 t1_3 t1_4 t1_5 t1_6 t1_7 t1_8 t1_9 t1_10 t2_0 t3_0 t4_0 t5_0 t6_0 t7_0 t8_0) : (Int32 × Int32 × Int32 × Int64 × Int32 × Int32 × Int32 × Int32 × Int32 × Int32 × Int32 × (Nat → Int32) × (Nat → Int32) × (Nat → Int32) × (Nat → Int32) × (Nat → Int32) × (Nat → Int32) × (Nat → Int32)))
def S_NM_divide_c11 (x2 : Int32) (x3 : Int32) (x4 : Int32) (x5 : Int32) (x6 : Int32) (t0_0 : Int32) (t0_1 : Int32) (t0_2 : Int32) (t1_0 : Int32) (t1_1 : Int32) (t1_2 : Int32) (t1_3 : Int64) (t1_4 : Int32) (t1_5 : Int32) (t1_6 : Int32) (t1_7 : Int32) (t1_8 : Int32) (t1_9 : Int32) (t1_10 : Int32) (t2_0 : (Nat → Int32)) (t3_0 : (Nat → Int32)) (t4_0 : (Nat → Int32)) (t5_0 : (Nat → Int32)) (t6_0 : (Nat → Int32)) (t7_0 : (Nat → Int32)) (t8_0 : (Nat → Int32)) (p85 : (Int32 × Int32 × Int32 × Int64 × Int32 × Int32 × Int32 × Int32 × Int32 × Int32 × Int32 × (Nat → Int32) × (Nat → Int32) × (Nat → Int32) × (Nat → Int32) × (Nat → Int32) × (Nat → Int32) × (Nat → Int32))) : Prop := True
def S_NM_divide (x2 : Int32) (x3 : Int32) (x4 : Int32) (x5 : Int32) (x6 : Int32) (t0_0 : Int32) (t0_1 : Int32) (t0_2 : Int32) (t1_0 : Int32) (t1_1 : Int32) (t1_2 : Int32) (t1_3 : Int64) (t1_4 : Int32) (t1_5 : Int32) (t1_6 : Int32) (t1_7 : Int32) (t1_8 : Int32) (t1_9 : Int32) (t1_10 : Int32) (t2_0 : (Nat → Int32)) (t3_0 : (Nat → Int32)) (t4_0 : (Nat → Int32)) (t5_0 : (Nat → Int32)) (t6_0 : (Nat → Int32)) (t7_0 : (Nat → Int32)) (t8_0 : (Nat → Int32)) : Prop := (True ∧ S_DR_divide x2 x3 x4 x5 x6 t1_0 t1_1 t1_2 t1_3 t1_4 t1_5 t1_6 t1_7 t1_8 t1_9 t1_10 t2_0 t3_0 t4_0 t5_0 t6_0 t7_0 t8_0) ∧ (S_NM_divide_c11 x2 x3 x4 x5 x6 t0_0 t0_1 t0_2 t1_0 t1_1 t1_2 t1_3 t1_4 t1_5 t1_6 t1_7 t1_8 t1_9 t1_10 t2_0 t3_0 t4_0 t5_0 t6_0 t7_0 t8_0 ((F_DR_divide x2 x3 x4 x5 x6 t1_0 t1_1 t1_2 t1_3 t1_4 t1_5 t1_6 t1_7 t1_8 t1_9 t1_10 t2_0 t3_0 t4_0 t5_0 t6_0 t7_0 t8_0) : (Int32 × Int32 × Int32 × Int64 × Int32 × Int32 × Int32 × Int32 × Int32 × Int32 × Int32 × (Nat → Int32) × (Nat → Int32) × (Nat → Int32) × (Nat → Int32) × (Nat → Int32) × (Nat → Int32) × (Nat → Int32))))
set_option maxRecDepth 100000 in
set_option maxHeartbeats 4000000 in
theorem X_NM_divide (l : Launch) (D : va_G) (g : Nat → ClassId) (q : Nat → Nat) (ws : va_W) (x2 : Int32) (x3 : Int32) (x4 : Int32) (x5 : Int32) (x6 : Int32) (hI : q_I (msh g q) q ws) (t0_0 : Int32) (t0_1 : Int32) (t0_2 : Int32) (hT0 : ws[116]? = (some (q 116, .inr (12, [.int t0_0, .ref (q 117), .int t0_1, .ref (q 118), .int t0_2, .ref (q 119), .ref (q 134), .ref (q 145), .ref (q 153), .ref (q 157), .ref (q 167), .ref (q 168)])) : Option (Nat × va_E))) (t1_0 : Int32) (t1_1 : Int32) (t1_2 : Int32) (t1_3 : Int64) (t1_4 : Int32) (t1_5 : Int32) (t1_6 : Int32) (t1_7 : Int32) (t1_8 : Int32) (t1_9 : Int32) (t1_10 : Int32) (hT1 : ws[134]? = (some (q 134, .inr (14, [.int t1_0, .ref (q 135), .int t1_1, .ref (q 136), .ref (q 137), .ref (q 138), .ref (q 139), .ref (q 140), .int t1_2, .long t1_3, .int t1_4, .int t1_5, .ref (q 141), .int t1_6, .ref (q 142), .int t1_7, .ref (q 143), .int t1_8, .ref (q 144), .int t1_9, .int t1_10])) : Option (Nat × va_E))) (t2_0 : (Nat → Int32)) (hT2 : ws[136]? = (some (q 136, .inl (g 0, (10000 : Int32).toNatClampNeg, .inl t2_0)) : Option (Nat × va_E))) (t3_0 : (Nat → Int32)) (hT3 : ws[137]? = (some (q 137, .inl (g 0, (10 : Int32).toNatClampNeg, .inl t3_0)) : Option (Nat × va_E))) (t4_0 : (Nat → Int32)) (hT4 : ws[138]? = (some (q 138, .inl (g 3, 10, .inl t4_0)) : Option (Nat × va_E))) (t5_0 : (Nat → Int32)) (hT5 : ws[139]? = (some (q 139, .inl (g 0, (10 : Int32).toNatClampNeg, .inl t5_0)) : Option (Nat × va_E))) (t6_0 : (Nat → Int32)) (hT6 : ws[140]? = (some (q 140, .inl (g 0, (4400 : Int32).toNatClampNeg, .inl t6_0)) : Option (Nat × va_E))) (t7_0 : (Nat → Int32)) (hT7 : ws[142]? = (some (q 142, .inl (g 0, (2200 : Int32).toNatClampNeg, .inl t7_0)) : Option (Nat × va_E))) (t8_0 : (Nat → Int32)) (hT8 : ws[143]? = (some (q 143, .inl (g 0, (2202 : Int32).toNatClampNeg, .inl t8_0)) : Option (Nat × va_E))) (hS : True ∧ S_NM_divide x2 x3 x4 x5 x6 t0_0 t0_1 t0_2 t1_0 t1_1 t1_2 t1_3 t1_4 t1_5 t1_6 t1_7 t1_8 t1_9 t1_10 t2_0 t3_0 t4_0 t5_0 t6_0 t7_0 t8_0) : q_mV l y_NM_divide prog_14_method_25_code 6 5 0 0 D g [.ref (q 116), .int x2, .int x3, .int x4, .int x5, .int x6] ws (fun u => q_I (msh g q) q u ∧ q_un ws u [116, 134, 136, 137, 138, 139, 140, 142, 143] ∧ ∃ (u0_0 : Int32) (u1_0 : Int32) (u1_1 : Int32) (u1_2 : Int32) (u1_3 : Int64) (u1_4 : Int32) (u1_5 : Int32) (u1_6 : Int32) (u1_7 : Int32) (u1_8 : Int32) (u1_9 : Int32) (u1_10 : Int32) (u2_0 : (Nat → Int32)) (u3_0 : (Nat → Int32)) (u4_0 : (Nat → Int32)) (u5_0 : (Nat → Int32)) (u6_0 : (Nat → Int32)) (u7_0 : (Nat → Int32)) (u8_0 : (Nat → Int32)), u[116]? = (some (q 116, .inr (12, [.int u0_0, .ref (q 117), .int t0_1, .ref (q 118), .int t0_2, .ref (q 119), .ref (q 134), .ref (q 145), .ref (q 153), .ref (q 157), .ref (q 167), .ref (q 168)])) : Option (Nat × va_E)) ∧ u[134]? = (some (q 134, .inr (14, [.int u1_0, .ref (q 135), .int u1_1, .ref (q 136), .ref (q 137), .ref (q 138), .ref (q 139), .ref (q 140), .int u1_2, .long u1_3, .int u1_4, .int u1_5, .ref (q 141), .int u1_6, .ref (q 142), .int u1_7, .ref (q 143), .int u1_8, .ref (q 144), .int u1_9, .int u1_10])) : Option (Nat × va_E)) ∧ u[136]? = (some (q 136, .inl (g 0, (10000 : Int32).toNatClampNeg, .inl u2_0)) : Option (Nat × va_E)) ∧ u[137]? = (some (q 137, .inl (g 0, (10 : Int32).toNatClampNeg, .inl u3_0)) : Option (Nat × va_E)) ∧ u[138]? = (some (q 138, .inl (g 3, 10, .inl u4_0)) : Option (Nat × va_E)) ∧ u[139]? = (some (q 139, .inl (g 0, (10 : Int32).toNatClampNeg, .inl u5_0)) : Option (Nat × va_E)) ∧ u[140]? = (some (q 140, .inl (g 0, (4400 : Int32).toNatClampNeg, .inl u6_0)) : Option (Nat × va_E)) ∧ u[142]? = (some (q 142, .inl (g 0, (2200 : Int32).toNatClampNeg, .inl u7_0)) : Option (Nat × va_E)) ∧ u[143]? = (some (q 143, .inl (g 0, (2202 : Int32).toNatClampNeg, .inl u8_0)) : Option (Nat × va_E)) ∧ (0 ≤ u1_4.toInt) ∧ (0 ≤ u1_5.toInt) ∧ (t1_1.toInt ≤ u1_1.toInt) ∧ (u1_1.toInt ≤ t1_1.toInt) ∧ (t1_6.toInt ≤ u1_6.toInt) ∧ (u1_6.toInt ≤ t1_6.toInt) ∧ (t1_8.toInt ≤ u1_8.toInt) ∧ (u1_8.toInt ≤ t1_8.toInt) ∧ (t1_9.toInt ≤ u1_9.toInt) ∧ (u1_9.toInt ≤ t1_9.toInt) ∧ (u1_0.toInt ≤ u0_0.toInt) ∧ (u0_0.toInt ≤ u1_0.toInt) ∧ (u0_0, u1_0, u1_1, u1_2, u1_3, u1_4, u1_5, u1_6, u1_7, u1_8, u1_9, u1_10, u2_0, u3_0, u4_0, u5_0, u6_0, u7_0, u8_0) = (F_NM_divide x2 x3 x4 x5 x6 t0_0 t0_1 t0_2 t1_0 t1_1 t1_2 t1_3 t1_4 t1_5 t1_6 t1_7 t1_8 t1_9 t1_10 t2_0 t3_0 t4_0 t5_0 t6_0 t7_0 t8_0)) := by
  intro sz
  refine q_into (by decide) (Nat.le_of_ble_eq_true rfl) ?_
  intro p e s m below meth c ls hsz C0 V hl
  have hx := C0.1
  have hb := C0.2.1
  obtain ⟨btt0_1, btt0_2⟩ := n_w116 hI hT0
  replace btt0_1 : q_F (0 ≤ t0_1.toInt ∧ t0_1.toInt ≤ 4100) := btt0_1
  replace btt0_2 : q_F (0 ≤ t0_2.toInt ∧ t0_2.toInt ≤ 12200) := btt0_2
  have hZ9 := (n_w134 hI hT1).2.2
  obtain ⟨-, btt1_9⟩ := hZ9
  clear btt1_9
  have hF : q_un ws ws [116, 134, 136, 137, 138, 139, 140, 142, 143] := q_u0
  have hl : lv_has ls 6 [(0, .ref (q 116)), (1, .int x2), (2, .int x3), (3, .int x4), (4, .int x5), (5, .int x6)] := hl
  refine lv_aload_n hx hb d_14_25_0 rfl (lv_at hl 0 rfl) ?_
  refine q_get (ci := 12) (j := 6) (v := .ref (q 134)) C0 V i_NM rfl rfl hT0 (by decide) w_2304 rfl d_14_25_1 ?_
  refine lv_iload_n hx hb d_14_25_4 rfl (lv_at hl 1 rfl) ?_
  refine lv_iload_n hx hb d_14_25_5 rfl (lv_at hl 2 rfl) ?_
  refine lv_iload_n hx hb d_14_25_6 rfl (lv_at hl 3 rfl) ?_
  refine lv_iload hx hb d_14_25_7 (lv_at hl 4 rfl) ?_
  refine lv_iload hx hb d_14_25_9 (lv_at hl 5 rfl) ?_
  have ob44 : True ∧ S_DR_divide x2 x3 x4 x5 x6 t1_0 t1_1 t1_2 t1_3 t1_4 t1_5 t1_6 t1_7 t1_8 t1_9 t1_10 t2_0 t3_0 t4_0 t5_0 t6_0 t7_0 t8_0 := (by have h := hS; rw [S_NM_divide.eq_1] at h; with_reducible exact h.2.1)
  refine q_gov V (q_runV (As := [.int x2, .int x3, .int x4, .int x5, .int x6]) (rest := []) (d := 4) (mc := 0) (ms := 0) (ci := 14) C0 V rfl LV_NM_213 (X_DR_divide l D g q ws  x2 x3 x4 x5 x6 hI t1_0 t1_1 t1_2 t1_3 t1_4 t1_5 t1_6 t1_7 t1_8 t1_9 t1_10 hT1 t2_0 hT2 t3_0 hT3 t4_0 hT4 t5_0 hT5 t6_0 hT6 t7_0 hT7 t8_0 hT8 ob44 _) rfl rfl hT1 rfl hl.1 rfl (Nat.le_of_ble_eq_true rfl) ⟨by decide, by decide⟩ ⟨Nat.le_of_ble_eq_true rfl, Nat.le_of_ble_eq_true rfl⟩ d_14_25_11) (fun u45 H locs hp46 V => ?_)
  obtain ⟨hI, hZ9⟩ := hp46
  obtain ⟨hu84, hZ9⟩ := hZ9
  obtain ⟨y48, hZ9⟩ := hZ9
  obtain ⟨y49, hZ9⟩ := hZ9
  obtain ⟨y50, hZ9⟩ := hZ9
  obtain ⟨y51, hZ9⟩ := hZ9
  obtain ⟨y52, hZ9⟩ := hZ9
  obtain ⟨y53, hZ9⟩ := hZ9
  obtain ⟨y54, hZ9⟩ := hZ9
  obtain ⟨y55, hZ9⟩ := hZ9
  obtain ⟨y56, hZ9⟩ := hZ9
  obtain ⟨y57, hZ9⟩ := hZ9
  obtain ⟨y58, hZ9⟩ := hZ9
  obtain ⟨f59, hZ9⟩ := hZ9
  obtain ⟨f61, hZ9⟩ := hZ9
  obtain ⟨f63, hZ9⟩ := hZ9
  obtain ⟨f65, hZ9⟩ := hZ9
  obtain ⟨f67, hZ9⟩ := hZ9
  obtain ⟨f69, hZ9⟩ := hZ9
  obtain ⟨f71, hZ9⟩ := hZ9
  obtain ⟨hO47, hZ9⟩ := hZ9
  obtain ⟨hA60, hZ9⟩ := hZ9
  obtain ⟨hA62, hZ9⟩ := hZ9
  obtain ⟨hA64, hZ9⟩ := hZ9
  obtain ⟨hA66, hZ9⟩ := hZ9
  obtain ⟨hA68, hZ9⟩ := hZ9
  obtain ⟨hA70, hZ9⟩ := hZ9
  obtain ⟨hA72, hZ9⟩ := hZ9
  obtain ⟨b73, hZ9⟩ := hZ9
  obtain ⟨b74, hZ9⟩ := hZ9
  obtain ⟨b75, hZ9⟩ := hZ9
  obtain ⟨b76, hZ9⟩ := hZ9
  obtain ⟨b77, hZ9⟩ := hZ9
  obtain ⟨b78, hZ9⟩ := hZ9
  obtain ⟨b79, hZ9⟩ := hZ9
  obtain ⟨b80, hZ9⟩ := hZ9
  obtain ⟨b81, hZ9⟩ := hZ9
  obtain ⟨b82, hE83⟩ := hZ9
  replace hO47 : u45[134]? = (some (q 134, .inr (14, [.int y48, .ref (q 135), .int y49, .ref (q 136), .ref (q 137), .ref (q 138), .ref (q 139), .ref (q 140), .int y50, .long y51, .int y52, .int y53, .ref (q 141), .int y54, .ref (q 142), .int y55, .ref (q 143), .int y56, .ref (q 144), .int y57, .int y58])) : Option (Nat × va_E)) := hO47
  replace hA60 : u45[136]? = (some (q 136, .inl (g 0, (10000 : Int32).toNatClampNeg, .inl f59)) : Option (Nat × va_E)) := hA60
  replace hA62 : u45[137]? = (some (q 137, .inl (g 0, (10 : Int32).toNatClampNeg, .inl f61)) : Option (Nat × va_E)) := hA62
  replace hA64 : u45[138]? = (some (q 138, .inl (g 3, 10, .inl f63)) : Option (Nat × va_E)) := hA64
  replace hA66 : u45[139]? = (some (q 139, .inl (g 0, (10 : Int32).toNatClampNeg, .inl f65)) : Option (Nat × va_E)) := hA66
  replace hA68 : u45[140]? = (some (q 140, .inl (g 0, (4400 : Int32).toNatClampNeg, .inl f67)) : Option (Nat × va_E)) := hA68
  replace hA70 : u45[142]? = (some (q 142, .inl (g 0, (2200 : Int32).toNatClampNeg, .inl f69)) : Option (Nat × va_E)) := hA70
  replace hA72 : u45[143]? = (some (q 143, .inl (g 0, (2202 : Int32).toNatClampNeg, .inl f71)) : Option (Nat × va_E)) := hA72
  obtain ⟨p85, e86⟩ : ∃ z, z = (F_DR_divide x2 x3 x4 x5 x6 t1_0 t1_1 t1_2 t1_3 t1_4 t1_5 t1_6 t1_7 t1_8 t1_9 t1_10 t2_0 t3_0 t4_0 t5_0 t6_0 t7_0 t8_0) := ⟨_, rfl⟩
  have e87 : y48 = p85.1 := congrArg (fun z => z.1) (hE83.trans e86.symm)
  have e88 : y49 = p85.2.1 := congrArg (fun z => z.2.1) (hE83.trans e86.symm)
  have e89 : y50 = p85.2.2.1 := congrArg (fun z => z.2.2.1) (hE83.trans e86.symm)
  have e90 : y51 = p85.2.2.2.1 := congrArg (fun z => z.2.2.2.1) (hE83.trans e86.symm)
  have e91 : y52 = p85.2.2.2.2.1 := congrArg (fun z => z.2.2.2.2.1) (hE83.trans e86.symm)
  have e92 : y53 = p85.2.2.2.2.2.1 := congrArg (fun z => z.2.2.2.2.2.1) (hE83.trans e86.symm)
  have e93 : y54 = p85.2.2.2.2.2.2.1 := congrArg (fun z => z.2.2.2.2.2.2.1) (hE83.trans e86.symm)
  have e94 : y55 = p85.2.2.2.2.2.2.2.1 := congrArg (fun z => z.2.2.2.2.2.2.2.1) (hE83.trans e86.symm)
  have e95 : y56 = p85.2.2.2.2.2.2.2.2.1 := congrArg (fun z => z.2.2.2.2.2.2.2.2.1) (hE83.trans e86.symm)
  have e96 : y57 = p85.2.2.2.2.2.2.2.2.2.1 := congrArg (fun z => z.2.2.2.2.2.2.2.2.2.1) (hE83.trans e86.symm)
  have e97 : y58 = p85.2.2.2.2.2.2.2.2.2.2.1 := congrArg (fun z => z.2.2.2.2.2.2.2.2.2.2.1) (hE83.trans e86.symm)
  have e98 : f59 = p85.2.2.2.2.2.2.2.2.2.2.2.1 := congrArg (fun z => z.2.2.2.2.2.2.2.2.2.2.2.1) (hE83.trans e86.symm)
  have e99 : f61 = p85.2.2.2.2.2.2.2.2.2.2.2.2.1 := congrArg (fun z => z.2.2.2.2.2.2.2.2.2.2.2.2.1) (hE83.trans e86.symm)
  have e100 : f63 = p85.2.2.2.2.2.2.2.2.2.2.2.2.2.1 := congrArg (fun z => z.2.2.2.2.2.2.2.2.2.2.2.2.2.1) (hE83.trans e86.symm)
  have e101 : f65 = p85.2.2.2.2.2.2.2.2.2.2.2.2.2.2.1 := congrArg (fun z => z.2.2.2.2.2.2.2.2.2.2.2.2.2.2.1) (hE83.trans e86.symm)
  have e102 : f67 = p85.2.2.2.2.2.2.2.2.2.2.2.2.2.2.2.1 := congrArg (fun z => z.2.2.2.2.2.2.2.2.2.2.2.2.2.2.2.1) (hE83.trans e86.symm)
  have e103 : f69 = p85.2.2.2.2.2.2.2.2.2.2.2.2.2.2.2.2.1 := congrArg (fun z => z.2.2.2.2.2.2.2.2.2.2.2.2.2.2.2.2.1) (hE83.trans e86.symm)
  have e104 : f71 = p85.2.2.2.2.2.2.2.2.2.2.2.2.2.2.2.2.2 := congrArg (fun z => z.2.2.2.2.2.2.2.2.2.2.2.2.2.2.2.2.2) (hE83.trans e86.symm)
  replace b73 : q_F (0 ≤ y52.toInt) := b73
  replace b74 : q_F (0 ≤ y53.toInt) := b74
  replace b75 : q_F (t1_1.toInt ≤ y49.toInt) := b75
  replace b76 : q_F (y49.toInt ≤ t1_1.toInt) := b76
  replace b77 : q_F (t1_6.toInt ≤ y54.toInt) := b77
  replace b78 : q_F (y54.toInt ≤ t1_6.toInt) := b78
  replace b79 : q_F (t1_8.toInt ≤ y56.toInt) := b79
  replace b80 : q_F (y56.toInt ≤ t1_8.toInt) := b80
  replace b81 : q_F (t1_9.toInt ≤ y57.toInt) := b81
  replace b82 : q_F (y57.toInt ≤ t1_9.toInt) := b82
  replace hT0 := (hu84 _ (by decide)).trans hT0
  replace hF := q_uc hF hu84 (by simp)
  have hR105 := (show F_NM_divide_c11 x2 x3 x4 x5 x6 t0_0 t0_1 t0_2 t1_0 t1_1 t1_2 t1_3 t1_4 t1_5 t1_6 t1_7 t1_8 t1_9 t1_10 t2_0 t3_0 t4_0 t5_0 t6_0 t7_0 t8_0 p85 = (F_NM_divide x2 x3 x4 x5 x6 t0_0 t0_1 t0_2 t1_0 t1_1 t1_2 t1_3 t1_4 t1_5 t1_6 t1_7 t1_8 t1_9 t1_10 t2_0 t3_0 t4_0 t5_0 t6_0 t7_0 t8_0) from (by rw [e86, F_NM_divide.eq_1]))
  have hS106 := (show True ∧ S_NM_divide_c11 x2 x3 x4 x5 x6 t0_0 t0_1 t0_2 t1_0 t1_1 t1_2 t1_3 t1_4 t1_5 t1_6 t1_7 t1_8 t1_9 t1_10 t2_0 t3_0 t4_0 t5_0 t6_0 t7_0 t8_0 p85 from (by rw [e86]; have h := hS; rw [S_NM_divide.eq_1] at h; replace h := q_s2 h; with_reducible exact h))
  refine lv_aload_n hx hb d_14_25_14 rfl (lv_at hl 0 rfl) ?_
  refine lv_aload_n hx hb d_14_25_15 rfl (lv_at hl 0 rfl) ?_
  refine q_get (ci := 12) (j := 6) (v := .ref (q 134)) C0 V i_NM rfl rfl hT0 (by decide) w_2304 rfl d_14_25_16 ?_
  refine q_getN (ci := 14) (j := 0) (v := .int y48) C0 V i_DR rfl rfl hO47 (by decide) wo_1997 rfl d_14_25_19 ?_
  refine q_put (ci := 12) (j := 0) (v := .int y48) (ty := .int) C0 V i_NM o_NM n_NM rfl rfl hT0 (by decide) w_2298 rfl rfl rfl rfl (Nat.le_of_ble_eq_true rfl) d_14_25_22 (fun H locs w110 hu111 hT0 V => ?_)
  replace hT0 : w110[116]? = (some (q 116, .inr (12, [.int y48, .ref (q 117), .int t0_1, .ref (q 118), .int t0_2, .ref (q 119), .ref (q 134), .ref (q 145), .ref (q 153), .ref (q 157), .ref (q 167), .ref (q 168)])) : Option (Nat × va_E)) := hT0
  replace hI := n_p116 hI hu111 hT0 (by first | with_reducible exact q_fe btt0_1 | exact ⟨(by have t1 : 0 ≤ t0_1.toInt ∧ t0_1.toInt ≤ 4100 := btt0_1; omega), (by have t1 : 0 ≤ t0_1.toInt ∧ t0_1.toInt ≤ 4100 := btt0_1; omega)⟩) (by first | with_reducible exact q_fe btt0_2 | exact ⟨(by have t1 : 0 ≤ t0_2.toInt ∧ t0_2.toInt ≤ 12200 := btt0_2; omega), (by have t1 : 0 ≤ t0_2.toInt ∧ t0_2.toInt ≤ 12200 := btt0_2; omega)⟩)
  replace hO47 := (hu111 _ (by decide)).trans hO47
  replace hA60 := (hu111 _ (by decide)).trans hA60
  replace hA62 := (hu111 _ (by decide)).trans hA62
  replace hA64 := (hu111 _ (by decide)).trans hA64
  replace hA66 := (hu111 _ (by decide)).trans hA66
  replace hA68 := (hu111 _ (by decide)).trans hA68
  replace hA70 := (hu111 _ (by decide)).trans hA70
  replace hA72 := (hu111 _ (by decide)).trans hA72
  replace hF := q_us hF hu111 (by simp)
  exact q_retv C0 V (⟨hI, hF, y48, y48, y49, y50, y51, y52, y53, y54, y55, y56, y57, y58, f59, f61, f63, f65, f67, f69, f71, hT0, hO47, hA60, hA62, hA64, hA66, hA68, hA70, hA72, (show 0 ≤ y52.toInt from (by first | with_reducible exact q_fe b73 | (have t1 : 0 ≤ y52.toInt := b73; omega))), (show 0 ≤ y53.toInt from (by first | with_reducible exact q_fe b74 | (have t1 : 0 ≤ y53.toInt := b74; omega))), (show t1_1.toInt ≤ y49.toInt from (by first | with_reducible exact q_fe b75 | (have t1 : t1_1.toInt ≤ y49.toInt := b75; omega))), (show y49.toInt ≤ t1_1.toInt from (by first | with_reducible exact q_fe b76 | (have t1 : y49.toInt ≤ t1_1.toInt := b76; omega))), (show t1_6.toInt ≤ y54.toInt from (by first | with_reducible exact q_fe b77 | (have t1 : t1_6.toInt ≤ y54.toInt := b77; omega))), (show y54.toInt ≤ t1_6.toInt from (by first | with_reducible exact q_fe b78 | (have t1 : y54.toInt ≤ t1_6.toInt := b78; omega))), (show t1_8.toInt ≤ y56.toInt from (by first | with_reducible exact q_fe b79 | (have t1 : t1_8.toInt ≤ y56.toInt := b79; omega))), (show y56.toInt ≤ t1_8.toInt from (by first | with_reducible exact q_fe b80 | (have t1 : y56.toInt ≤ t1_8.toInt := b80; omega))), (show t1_9.toInt ≤ y57.toInt from (by first | with_reducible exact q_fe b81 | (have t1 : t1_9.toInt ≤ y57.toInt := b81; omega))), (show y57.toInt ≤ t1_9.toInt from (by first | with_reducible exact q_fe b82 | (have t1 : y57.toInt ≤ t1_9.toInt := b82; omega))), (show y48.toInt ≤ y48.toInt from (by omega)), (show y48.toInt ≤ y48.toInt from (by omega)), (show (y48, y48, y49, y50, y51, y52, y53, y54, y55, y56, y57, y58, f59, f61, f63, f65, f67, f69, f71) = (F_NM_divide x2 x3 x4 x5 x6 t0_0 t0_1 t0_2 t1_0 t1_1 t1_2 t1_3 t1_4 t1_5 t1_6 t1_7 t1_8 t1_9 t1_10 t2_0 t3_0 t4_0 t5_0 t6_0 t7_0 t8_0) from Eq.trans (by rw [e104, e103, e102, e101, e100, e99, e98, e97, e96, e95, e94, e93, e92, e91, e90, e89, e88, e87, F_NM_divide_c11.eq_1]) hR105)⟩) d_14_25_25
theorem d_14_26_0 : decode prog_14_method_26_code 0 = .ok (.aload_n 0, 1) := by decide +kernel
theorem d_14_26_1 : decode prog_14_method_26_code 1 = .ok (.getfield 26, 3) := by decide +kernel
theorem d_14_26_4 : decode prog_14_method_26_code 4 = .ok (.iload_n 1, 1) := by decide +kernel
theorem d_14_26_5 : decode prog_14_method_26_code 5 = .ok (.iload_n 2, 1) := by decide +kernel
theorem d_14_26_6 : decode prog_14_method_26_code 6 = .ok (.iload_n 3, 1) := by decide +kernel
theorem d_14_26_7 : decode prog_14_method_26_code 7 = .ok (.iload 4, 2) := by decide +kernel
theorem d_14_26_9 : decode prog_14_method_26_code 9 = .ok (.iload 5, 2) := by decide +kernel
theorem d_14_26_11 : decode prog_14_method_26_code 11 = .ok (.invokevirtual 216, 3) := by decide +kernel
set_option maxRecDepth 100000 in
theorem w_2890 : (Cond.code ({ cls := "NumberHouseModel$DecimalRows", name := "quotient", desc := "(IIIII)V" } : MethodName) prog_15_method_38_code (12 : Nat) (none : Option ClassFile.FieldType)) ∈ q_tbl := q_of13 10 rfl (by decide +kernel)
set_option maxRecDepth 100000 in
theorem w_2887 : (Cond.methodLink "NumberHouseModel" (216 : Nat) ({ cls := "NumberHouseModel$DecimalRows", name := "quotient", desc := "(IIIII)V" } : MethodName)) ∈ q_tbl := q_of13 7 rfl (by decide +kernel)
set_option maxRecDepth 100000 in
theorem w_2888 : (Cond.instanceMethod ({ cls := "NumberHouseModel$DecimalRows", name := "quotient", desc := "(IIIII)V" } : MethodName)) ∈ q_tbl := q_of13 8 rfl (by decide +kernel)
set_option maxRecDepth 100000 in
theorem w_2889 : (Cond.selects "NumberHouseModel$DecimalRows" ({ cls := "NumberHouseModel$DecimalRows", name := "quotient", desc := "(IIIII)V" } : MethodName) ({ cls := "NumberHouseModel$DecimalRows", name := "quotient", desc := "(IIIII)V" } : MethodName)) ∈ q_tbl := q_of13 9 rfl (by decide +kernel)
theorem LV_NM_216 : q_LV "NumberHouseModel" 216 y_DR_quotient prog_15_method_38_code 12 none 5 := ⟨w_2890, w_16, w_2887, w_2888, w_2889, ⟨by decide, by decide, by decide +kernel⟩⟩
theorem d_14_26_14 : decode prog_14_method_26_code 14 = .ok (.aload_n 0, 1) := by decide +kernel
theorem d_14_26_15 : decode prog_14_method_26_code 15 = .ok (.aload_n 0, 1) := by decide +kernel
theorem d_14_26_16 : decode prog_14_method_26_code 16 = .ok (.getfield 26, 3) := by decide +kernel
theorem d_14_26_19 : decode prog_14_method_26_code 19 = .ok (.getfield 105, 3) := by decide +kernel
theorem d_14_26_22 : decode prog_14_method_26_code 22 = .ok (.putfield 58, 3) := by decide +kernel
theorem d_14_26_25 : decode prog_14_method_26_code 25 = .ok (.return_, 1) := by decide +kernel
def y_NM_quotient : MethodName := ⟨"NumberHouseModel", "quotient", "(IIIII)V"⟩
def F_NM_quotient_c11 (x2 : Int32) (x3 : Int32) (x4 : Int32) (x5 : Int32) (x6 : Int32) (t0_0 : Int32) (t0_1 : Int32) (t0_2 : Int32) (t1_0 : Int32) (t1_1 : Int32) (t1_2 : Int32) (t1_3 : Int64) (t1_4 : Int32) (t1_5 : Int32) (t1_6 : Int32) (t1_7 : Int32) (t1_8 : Int32) (t1_9 : Int32) (t1_10 : Int32) (t2_0 : (Nat → Int32)) (t3_0 : (Nat → Int32)) (t4_0 : (Nat → Int32)) (t5_0 : (Nat → Int32)) (t6_0 : (Nat → Int32)) (t7_0 : (Nat → Int32)) (t8_0 : (Nat → Int32)) (p86 : (Int32 × Int32 × Int32 × Int64 × Int32 × Int32 × Int32 × Int32 × Int32 × Int32 × Int32 × (Nat → Int32) × (Nat → Int32) × (Nat → Int32) × (Nat → Int32) × (Nat → Int32) × (Nat → Int32) × (Nat → Int32))) : Int32 × Int32 × Int32 × Int32 × Int64 × Int32 × Int32 × Int32 × Int32 × Int32 × Int32 × Int32 × (Nat → Int32) × (Nat → Int32) × (Nat → Int32) × (Nat → Int32) × (Nat → Int32) × (Nat → Int32) × (Nat → Int32) := ((p86.1 : Int32), (p86.1 : Int32), (p86.2.1 : Int32), (p86.2.2.1 : Int32), (p86.2.2.2.1 : Int64), (p86.2.2.2.2.1 : Int32), (p86.2.2.2.2.2.1 : Int32), (p86.2.2.2.2.2.2.1 : Int32), (p86.2.2.2.2.2.2.2.1 : Int32), (p86.2.2.2.2.2.2.2.2.1 : Int32), (p86.2.2.2.2.2.2.2.2.2.1 : Int32), (p86.2.2.2.2.2.2.2.2.2.2.1 : Int32), (p86.2.2.2.2.2.2.2.2.2.2.2.1 : (Nat → Int32)), (p86.2.2.2.2.2.2.2.2.2.2.2.2.1 : (Nat → Int32)), (p86.2.2.2.2.2.2.2.2.2.2.2.2.2.1 : (Nat → Int32)), (p86.2.2.2.2.2.2.2.2.2.2.2.2.2.2.1 : (Nat → Int32)), (p86.2.2.2.2.2.2.2.2.2.2.2.2.2.2.2.1 : (Nat → Int32)), (p86.2.2.2.2.2.2.2.2.2.2.2.2.2.2.2.2.1 : (Nat → Int32)), (p86.2.2.2.2.2.2.2.2.2.2.2.2.2.2.2.2.2 : (Nat → Int32)))
def F_NM_quotient (x2 : Int32) (x3 : Int32) (x4 : Int32) (x5 : Int32) (x6 : Int32) (t0_0 : Int32) (t0_1 : Int32) (t0_2 : Int32) (t1_0 : Int32) (t1_1 : Int32) (t1_2 : Int32) (t1_3 : Int64) (t1_4 : Int32) (t1_5 : Int32) (t1_6 : Int32) (t1_7 : Int32) (t1_8 : Int32) (t1_9 : Int32) (t1_10 : Int32) (t2_0 : (Nat → Int32)) (t3_0 : (Nat → Int32)) (t4_0 : (Nat → Int32)) (t5_0 : (Nat → Int32)) (t6_0 : (Nat → Int32)) (t7_0 : (Nat → Int32)) (t8_0 : (Nat → Int32)) : Int32 × Int32 × Int32 × Int32 × Int64 × Int32 × Int32 × Int32 × Int32 × Int32 × Int32 × Int32 × (Nat → Int32) × (Nat → Int32) × (Nat → Int32) × (Nat → Int32) × (Nat → Int32) × (Nat → Int32) × (Nat → Int32) := F_NM_quotient_c11 x2 x3 x4 x5 x6 t0_0 t0_1 t0_2 t1_0 t1_1 t1_2 t1_3 t1_4 t1_5 t1_6 t1_7 t1_8 t1_9 t1_10 t2_0 t3_0 t4_0 t5_0 t6_0 t7_0 t8_0 ((F_DR_quotient x2 x3 x4 x5 x6 t1_0 t1_1 t1_2 t1_3 t1_4 t1_5 t1_6 t1_7 t1_8 t1_9 t1_10 t2_0 t3_0 t4_0 t5_0 t6_0 t7_0 t8_0) : (Int32 × Int32 × Int32 × Int64 × Int32 × Int32 × Int32 × Int32 × Int32 × Int32 × Int32 × (Nat → Int32) × (Nat → Int32) × (Nat → Int32) × (Nat → Int32) × (Nat → Int32) × (Nat → Int32) × (Nat → Int32)))
def S_NM_quotient_c11 (x2 : Int32) (x3 : Int32) (x4 : Int32) (x5 : Int32) (x6 : Int32) (t0_0 : Int32) (t0_1 : Int32) (t0_2 : Int32) (t1_0 : Int32) (t1_1 : Int32) (t1_2 : Int32) (t1_3 : Int64) (t1_4 : Int32) (t1_5 : Int32) (t1_6 : Int32) (t1_7 : Int32) (t1_8 : Int32) (t1_9 : Int32) (t1_10 : Int32) (t2_0 : (Nat → Int32)) (t3_0 : (Nat → Int32)) (t4_0 : (Nat → Int32)) (t5_0 : (Nat → Int32)) (t6_0 : (Nat → Int32)) (t7_0 : (Nat → Int32)) (t8_0 : (Nat → Int32)) (p86 : (Int32 × Int32 × Int32 × Int64 × Int32 × Int32 × Int32 × Int32 × Int32 × Int32 × Int32 × (Nat → Int32) × (Nat → Int32) × (Nat → Int32) × (Nat → Int32) × (Nat → Int32) × (Nat → Int32) × (Nat → Int32))) : Prop := True
def S_NM_quotient (x2 : Int32) (x3 : Int32) (x4 : Int32) (x5 : Int32) (x6 : Int32) (t0_0 : Int32) (t0_1 : Int32) (t0_2 : Int32) (t1_0 : Int32) (t1_1 : Int32) (t1_2 : Int32) (t1_3 : Int64) (t1_4 : Int32) (t1_5 : Int32) (t1_6 : Int32) (t1_7 : Int32) (t1_8 : Int32) (t1_9 : Int32) (t1_10 : Int32) (t2_0 : (Nat → Int32)) (t3_0 : (Nat → Int32)) (t4_0 : (Nat → Int32)) (t5_0 : (Nat → Int32)) (t6_0 : (Nat → Int32)) (t7_0 : (Nat → Int32)) (t8_0 : (Nat → Int32)) : Prop := (True ∧ S_DR_quotient x2 x3 x4 x5 x6 t1_0 t1_1 t1_2 t1_3 t1_4 t1_5 t1_6 t1_7 t1_8 t1_9 t1_10 t2_0 t3_0 t4_0 t5_0 t6_0 t7_0 t8_0) ∧ (S_NM_quotient_c11 x2 x3 x4 x5 x6 t0_0 t0_1 t0_2 t1_0 t1_1 t1_2 t1_3 t1_4 t1_5 t1_6 t1_7 t1_8 t1_9 t1_10 t2_0 t3_0 t4_0 t5_0 t6_0 t7_0 t8_0 ((F_DR_quotient x2 x3 x4 x5 x6 t1_0 t1_1 t1_2 t1_3 t1_4 t1_5 t1_6 t1_7 t1_8 t1_9 t1_10 t2_0 t3_0 t4_0 t5_0 t6_0 t7_0 t8_0) : (Int32 × Int32 × Int32 × Int64 × Int32 × Int32 × Int32 × Int32 × Int32 × Int32 × Int32 × (Nat → Int32) × (Nat → Int32) × (Nat → Int32) × (Nat → Int32) × (Nat → Int32) × (Nat → Int32) × (Nat → Int32))))
set_option maxRecDepth 100000 in
set_option maxHeartbeats 4000000 in
theorem X_NM_quotient (l : Launch) (D : va_G) (g : Nat → ClassId) (q : Nat → Nat) (ws : va_W) (x2 : Int32) (x3 : Int32) (x4 : Int32) (x5 : Int32) (x6 : Int32) (hI : q_I (msh g q) q ws) (t0_0 : Int32) (t0_1 : Int32) (t0_2 : Int32) (hT0 : ws[116]? = (some (q 116, .inr (12, [.int t0_0, .ref (q 117), .int t0_1, .ref (q 118), .int t0_2, .ref (q 119), .ref (q 134), .ref (q 145), .ref (q 153), .ref (q 157), .ref (q 167), .ref (q 168)])) : Option (Nat × va_E))) (t1_0 : Int32) (t1_1 : Int32) (t1_2 : Int32) (t1_3 : Int64) (t1_4 : Int32) (t1_5 : Int32) (t1_6 : Int32) (t1_7 : Int32) (t1_8 : Int32) (t1_9 : Int32) (t1_10 : Int32) (hT1 : ws[134]? = (some (q 134, .inr (14, [.int t1_0, .ref (q 135), .int t1_1, .ref (q 136), .ref (q 137), .ref (q 138), .ref (q 139), .ref (q 140), .int t1_2, .long t1_3, .int t1_4, .int t1_5, .ref (q 141), .int t1_6, .ref (q 142), .int t1_7, .ref (q 143), .int t1_8, .ref (q 144), .int t1_9, .int t1_10])) : Option (Nat × va_E))) (t2_0 : (Nat → Int32)) (hT2 : ws[136]? = (some (q 136, .inl (g 0, (10000 : Int32).toNatClampNeg, .inl t2_0)) : Option (Nat × va_E))) (t3_0 : (Nat → Int32)) (hT3 : ws[137]? = (some (q 137, .inl (g 0, (10 : Int32).toNatClampNeg, .inl t3_0)) : Option (Nat × va_E))) (t4_0 : (Nat → Int32)) (hT4 : ws[138]? = (some (q 138, .inl (g 3, 10, .inl t4_0)) : Option (Nat × va_E))) (t5_0 : (Nat → Int32)) (hT5 : ws[139]? = (some (q 139, .inl (g 0, (10 : Int32).toNatClampNeg, .inl t5_0)) : Option (Nat × va_E))) (t6_0 : (Nat → Int32)) (hT6 : ws[140]? = (some (q 140, .inl (g 0, (4400 : Int32).toNatClampNeg, .inl t6_0)) : Option (Nat × va_E))) (t7_0 : (Nat → Int32)) (hT7 : ws[142]? = (some (q 142, .inl (g 0, (2200 : Int32).toNatClampNeg, .inl t7_0)) : Option (Nat × va_E))) (t8_0 : (Nat → Int32)) (hT8 : ws[143]? = (some (q 143, .inl (g 0, (2202 : Int32).toNatClampNeg, .inl t8_0)) : Option (Nat × va_E))) (hS : True ∧ S_NM_quotient x2 x3 x4 x5 x6 t0_0 t0_1 t0_2 t1_0 t1_1 t1_2 t1_3 t1_4 t1_5 t1_6 t1_7 t1_8 t1_9 t1_10 t2_0 t3_0 t4_0 t5_0 t6_0 t7_0 t8_0) : q_mV l y_NM_quotient prog_14_method_26_code 6 6 0 0 D g [.ref (q 116), .int x2, .int x3, .int x4, .int x5, .int x6] ws (fun u => q_I (msh g q) q u ∧ q_un ws u [116, 134, 136, 137, 138, 139, 140, 142, 143] ∧ ∃ (u0_0 : Int32) (u1_0 : Int32) (u1_1 : Int32) (u1_2 : Int32) (u1_3 : Int64) (u1_4 : Int32) (u1_5 : Int32) (u1_6 : Int32) (u1_7 : Int32) (u1_8 : Int32) (u1_9 : Int32) (u1_10 : Int32) (u2_0 : (Nat → Int32)) (u3_0 : (Nat → Int32)) (u4_0 : (Nat → Int32)) (u5_0 : (Nat → Int32)) (u6_0 : (Nat → Int32)) (u7_0 : (Nat → Int32)) (u8_0 : (Nat → Int32)), u[116]? = (some (q 116, .inr (12, [.int u0_0, .ref (q 117), .int t0_1, .ref (q 118), .int t0_2, .ref (q 119), .ref (q 134), .ref (q 145), .ref (q 153), .ref (q 157), .ref (q 167), .ref (q 168)])) : Option (Nat × va_E)) ∧ u[134]? = (some (q 134, .inr (14, [.int u1_0, .ref (q 135), .int u1_1, .ref (q 136), .ref (q 137), .ref (q 138), .ref (q 139), .ref (q 140), .int u1_2, .long u1_3, .int u1_4, .int u1_5, .ref (q 141), .int u1_6, .ref (q 142), .int u1_7, .ref (q 143), .int u1_8, .ref (q 144), .int u1_9, .int u1_10])) : Option (Nat × va_E)) ∧ u[136]? = (some (q 136, .inl (g 0, (10000 : Int32).toNatClampNeg, .inl u2_0)) : Option (Nat × va_E)) ∧ u[137]? = (some (q 137, .inl (g 0, (10 : Int32).toNatClampNeg, .inl u3_0)) : Option (Nat × va_E)) ∧ u[138]? = (some (q 138, .inl (g 3, 10, .inl u4_0)) : Option (Nat × va_E)) ∧ u[139]? = (some (q 139, .inl (g 0, (10 : Int32).toNatClampNeg, .inl u5_0)) : Option (Nat × va_E)) ∧ u[140]? = (some (q 140, .inl (g 0, (4400 : Int32).toNatClampNeg, .inl u6_0)) : Option (Nat × va_E)) ∧ u[142]? = (some (q 142, .inl (g 0, (2200 : Int32).toNatClampNeg, .inl u7_0)) : Option (Nat × va_E)) ∧ u[143]? = (some (q 143, .inl (g 0, (2202 : Int32).toNatClampNeg, .inl u8_0)) : Option (Nat × va_E)) ∧ (0 ≤ u1_4.toInt) ∧ (u1_4.toInt ≤ 1) ∧ (0 ≤ u1_5.toInt) ∧ (t1_1.toInt ≤ u1_1.toInt) ∧ (u1_1.toInt ≤ t1_1.toInt) ∧ (t1_6.toInt ≤ u1_6.toInt) ∧ (u1_6.toInt ≤ t1_6.toInt) ∧ (t1_8.toInt ≤ u1_8.toInt) ∧ (u1_8.toInt ≤ t1_8.toInt) ∧ (t1_9.toInt ≤ u1_9.toInt) ∧ (u1_9.toInt ≤ t1_9.toInt) ∧ (u1_0.toInt ≤ u0_0.toInt) ∧ (u0_0.toInt ≤ u1_0.toInt) ∧ (u0_0, u1_0, u1_1, u1_2, u1_3, u1_4, u1_5, u1_6, u1_7, u1_8, u1_9, u1_10, u2_0, u3_0, u4_0, u5_0, u6_0, u7_0, u8_0) = (F_NM_quotient x2 x3 x4 x5 x6 t0_0 t0_1 t0_2 t1_0 t1_1 t1_2 t1_3 t1_4 t1_5 t1_6 t1_7 t1_8 t1_9 t1_10 t2_0 t3_0 t4_0 t5_0 t6_0 t7_0 t8_0)) := by
  intro sz
  refine q_into (by decide) (Nat.le_of_ble_eq_true rfl) ?_
  intro p e s m below meth c ls hsz C0 V hl
  have hx := C0.1
  have hb := C0.2.1
  obtain ⟨btt0_1, btt0_2⟩ := n_w116 hI hT0
  replace btt0_1 : q_F (0 ≤ t0_1.toInt ∧ t0_1.toInt ≤ 4100) := btt0_1
  replace btt0_2 : q_F (0 ≤ t0_2.toInt ∧ t0_2.toInt ≤ 12200) := btt0_2
  have hZ9 := (n_w134 hI hT1).2.2
  obtain ⟨-, btt1_9⟩ := hZ9
  clear btt1_9
  have hF : q_un ws ws [116, 134, 136, 137, 138, 139, 140, 142, 143] := q_u0
  have hl : lv_has ls 6 [(0, .ref (q 116)), (1, .int x2), (2, .int x3), (3, .int x4), (4, .int x5), (5, .int x6)] := hl
  refine lv_aload_n hx hb d_14_26_0 rfl (lv_at hl 0 rfl) ?_
  refine q_get (ci := 12) (j := 6) (v := .ref (q 134)) C0 V i_NM rfl rfl hT0 (by decide) w_2304 rfl d_14_26_1 ?_
  refine lv_iload_n hx hb d_14_26_4 rfl (lv_at hl 1 rfl) ?_
  refine lv_iload_n hx hb d_14_26_5 rfl (lv_at hl 2 rfl) ?_
  refine lv_iload_n hx hb d_14_26_6 rfl (lv_at hl 3 rfl) ?_
  refine lv_iload hx hb d_14_26_7 (lv_at hl 4 rfl) ?_
  refine lv_iload hx hb d_14_26_9 (lv_at hl 5 rfl) ?_
  have ob44 : True ∧ S_DR_quotient x2 x3 x4 x5 x6 t1_0 t1_1 t1_2 t1_3 t1_4 t1_5 t1_6 t1_7 t1_8 t1_9 t1_10 t2_0 t3_0 t4_0 t5_0 t6_0 t7_0 t8_0 := (by have h := hS; rw [S_NM_quotient.eq_1] at h; with_reducible exact h.2.1)
  refine q_gov V (q_runV (As := [.int x2, .int x3, .int x4, .int x5, .int x6]) (rest := []) (d := 5) (mc := 0) (ms := 0) (ci := 14) C0 V rfl LV_NM_216 (X_DR_quotient l D g q ws  x2 x3 x4 x5 x6 hI t1_0 t1_1 t1_2 t1_3 t1_4 t1_5 t1_6 t1_7 t1_8 t1_9 t1_10 hT1 t2_0 hT2 t3_0 hT3 t4_0 hT4 t5_0 hT5 t6_0 hT6 t7_0 hT7 t8_0 hT8 ob44 _) rfl rfl hT1 rfl hl.1 rfl (Nat.le_of_ble_eq_true rfl) ⟨by decide, by decide⟩ ⟨Nat.le_of_ble_eq_true rfl, Nat.le_of_ble_eq_true rfl⟩ d_14_26_11) (fun u45 H locs hp46 V => ?_)
  obtain ⟨hI, hZ9⟩ := hp46
  obtain ⟨hu85, hZ9⟩ := hZ9
  obtain ⟨y48, hZ9⟩ := hZ9
  obtain ⟨y49, hZ9⟩ := hZ9
  obtain ⟨y50, hZ9⟩ := hZ9
  obtain ⟨y51, hZ9⟩ := hZ9
  obtain ⟨y52, hZ9⟩ := hZ9
  obtain ⟨y53, hZ9⟩ := hZ9
  obtain ⟨y54, hZ9⟩ := hZ9
  obtain ⟨y55, hZ9⟩ := hZ9
  obtain ⟨y56, hZ9⟩ := hZ9
  obtain ⟨y57, hZ9⟩ := hZ9
  obtain ⟨y58, hZ9⟩ := hZ9
  obtain ⟨f59, hZ9⟩ := hZ9
  obtain ⟨f61, hZ9⟩ := hZ9
  obtain ⟨f63, hZ9⟩ := hZ9
  obtain ⟨f65, hZ9⟩ := hZ9
  obtain ⟨f67, hZ9⟩ := hZ9
  obtain ⟨f69, hZ9⟩ := hZ9
  obtain ⟨f71, hZ9⟩ := hZ9
  obtain ⟨hO47, hZ9⟩ := hZ9
  obtain ⟨hA60, hZ9⟩ := hZ9
  obtain ⟨hA62, hZ9⟩ := hZ9
  obtain ⟨hA64, hZ9⟩ := hZ9
  obtain ⟨hA66, hZ9⟩ := hZ9
  obtain ⟨hA68, hZ9⟩ := hZ9
  obtain ⟨hA70, hZ9⟩ := hZ9
  obtain ⟨hA72, hZ9⟩ := hZ9
  obtain ⟨b73, hZ9⟩ := hZ9
  obtain ⟨b74, hZ9⟩ := hZ9
  obtain ⟨b75, hZ9⟩ := hZ9
  obtain ⟨b76, hZ9⟩ := hZ9
  obtain ⟨b77, hZ9⟩ := hZ9
  obtain ⟨b78, hZ9⟩ := hZ9
  obtain ⟨b79, hZ9⟩ := hZ9
  obtain ⟨b80, hZ9⟩ := hZ9
  obtain ⟨b81, hZ9⟩ := hZ9
  obtain ⟨b82, hZ9⟩ := hZ9
  obtain ⟨b83, hE84⟩ := hZ9
  replace hO47 : u45[134]? = (some (q 134, .inr (14, [.int y48, .ref (q 135), .int y49, .ref (q 136), .ref (q 137), .ref (q 138), .ref (q 139), .ref (q 140), .int y50, .long y51, .int y52, .int y53, .ref (q 141), .int y54, .ref (q 142), .int y55, .ref (q 143), .int y56, .ref (q 144), .int y57, .int y58])) : Option (Nat × va_E)) := hO47
  replace hA60 : u45[136]? = (some (q 136, .inl (g 0, (10000 : Int32).toNatClampNeg, .inl f59)) : Option (Nat × va_E)) := hA60
  replace hA62 : u45[137]? = (some (q 137, .inl (g 0, (10 : Int32).toNatClampNeg, .inl f61)) : Option (Nat × va_E)) := hA62
  replace hA64 : u45[138]? = (some (q 138, .inl (g 3, 10, .inl f63)) : Option (Nat × va_E)) := hA64
  replace hA66 : u45[139]? = (some (q 139, .inl (g 0, (10 : Int32).toNatClampNeg, .inl f65)) : Option (Nat × va_E)) := hA66
  replace hA68 : u45[140]? = (some (q 140, .inl (g 0, (4400 : Int32).toNatClampNeg, .inl f67)) : Option (Nat × va_E)) := hA68
  replace hA70 : u45[142]? = (some (q 142, .inl (g 0, (2200 : Int32).toNatClampNeg, .inl f69)) : Option (Nat × va_E)) := hA70
  replace hA72 : u45[143]? = (some (q 143, .inl (g 0, (2202 : Int32).toNatClampNeg, .inl f71)) : Option (Nat × va_E)) := hA72
  obtain ⟨p86, e87⟩ : ∃ z, z = (F_DR_quotient x2 x3 x4 x5 x6 t1_0 t1_1 t1_2 t1_3 t1_4 t1_5 t1_6 t1_7 t1_8 t1_9 t1_10 t2_0 t3_0 t4_0 t5_0 t6_0 t7_0 t8_0) := ⟨_, rfl⟩
  have e88 : y48 = p86.1 := congrArg (fun z => z.1) (hE84.trans e87.symm)
  have e89 : y49 = p86.2.1 := congrArg (fun z => z.2.1) (hE84.trans e87.symm)
  have e90 : y50 = p86.2.2.1 := congrArg (fun z => z.2.2.1) (hE84.trans e87.symm)
  have e91 : y51 = p86.2.2.2.1 := congrArg (fun z => z.2.2.2.1) (hE84.trans e87.symm)
  have e92 : y52 = p86.2.2.2.2.1 := congrArg (fun z => z.2.2.2.2.1) (hE84.trans e87.symm)
  have e93 : y53 = p86.2.2.2.2.2.1 := congrArg (fun z => z.2.2.2.2.2.1) (hE84.trans e87.symm)
  have e94 : y54 = p86.2.2.2.2.2.2.1 := congrArg (fun z => z.2.2.2.2.2.2.1) (hE84.trans e87.symm)
  have e95 : y55 = p86.2.2.2.2.2.2.2.1 := congrArg (fun z => z.2.2.2.2.2.2.2.1) (hE84.trans e87.symm)
  have e96 : y56 = p86.2.2.2.2.2.2.2.2.1 := congrArg (fun z => z.2.2.2.2.2.2.2.2.1) (hE84.trans e87.symm)
  have e97 : y57 = p86.2.2.2.2.2.2.2.2.2.1 := congrArg (fun z => z.2.2.2.2.2.2.2.2.2.1) (hE84.trans e87.symm)
  have e98 : y58 = p86.2.2.2.2.2.2.2.2.2.2.1 := congrArg (fun z => z.2.2.2.2.2.2.2.2.2.2.1) (hE84.trans e87.symm)
  have e99 : f59 = p86.2.2.2.2.2.2.2.2.2.2.2.1 := congrArg (fun z => z.2.2.2.2.2.2.2.2.2.2.2.1) (hE84.trans e87.symm)
  have e100 : f61 = p86.2.2.2.2.2.2.2.2.2.2.2.2.1 := congrArg (fun z => z.2.2.2.2.2.2.2.2.2.2.2.2.1) (hE84.trans e87.symm)
  have e101 : f63 = p86.2.2.2.2.2.2.2.2.2.2.2.2.2.1 := congrArg (fun z => z.2.2.2.2.2.2.2.2.2.2.2.2.2.1) (hE84.trans e87.symm)
  have e102 : f65 = p86.2.2.2.2.2.2.2.2.2.2.2.2.2.2.1 := congrArg (fun z => z.2.2.2.2.2.2.2.2.2.2.2.2.2.2.1) (hE84.trans e87.symm)
  have e103 : f67 = p86.2.2.2.2.2.2.2.2.2.2.2.2.2.2.2.1 := congrArg (fun z => z.2.2.2.2.2.2.2.2.2.2.2.2.2.2.2.1) (hE84.trans e87.symm)
  have e104 : f69 = p86.2.2.2.2.2.2.2.2.2.2.2.2.2.2.2.2.1 := congrArg (fun z => z.2.2.2.2.2.2.2.2.2.2.2.2.2.2.2.2.1) (hE84.trans e87.symm)
  have e105 : f71 = p86.2.2.2.2.2.2.2.2.2.2.2.2.2.2.2.2.2 := congrArg (fun z => z.2.2.2.2.2.2.2.2.2.2.2.2.2.2.2.2.2) (hE84.trans e87.symm)
  replace b73 : q_F (0 ≤ y52.toInt) := b73
  replace b74 : q_F (y52.toInt ≤ 1) := b74
  replace b75 : q_F (0 ≤ y53.toInt) := b75
  replace b76 : q_F (t1_1.toInt ≤ y49.toInt) := b76
  replace b77 : q_F (y49.toInt ≤ t1_1.toInt) := b77
  replace b78 : q_F (t1_6.toInt ≤ y54.toInt) := b78
  replace b79 : q_F (y54.toInt ≤ t1_6.toInt) := b79
  replace b80 : q_F (t1_8.toInt ≤ y56.toInt) := b80
  replace b81 : q_F (y56.toInt ≤ t1_8.toInt) := b81
  replace b82 : q_F (t1_9.toInt ≤ y57.toInt) := b82
  replace b83 : q_F (y57.toInt ≤ t1_9.toInt) := b83
  replace hT0 := (hu85 _ (by decide)).trans hT0
  replace hF := q_uc hF hu85 (by simp)
  have hR106 := (show F_NM_quotient_c11 x2 x3 x4 x5 x6 t0_0 t0_1 t0_2 t1_0 t1_1 t1_2 t1_3 t1_4 t1_5 t1_6 t1_7 t1_8 t1_9 t1_10 t2_0 t3_0 t4_0 t5_0 t6_0 t7_0 t8_0 p86 = (F_NM_quotient x2 x3 x4 x5 x6 t0_0 t0_1 t0_2 t1_0 t1_1 t1_2 t1_3 t1_4 t1_5 t1_6 t1_7 t1_8 t1_9 t1_10 t2_0 t3_0 t4_0 t5_0 t6_0 t7_0 t8_0) from (by rw [e87, F_NM_quotient.eq_1]))
  have hS107 := (show True ∧ S_NM_quotient_c11 x2 x3 x4 x5 x6 t0_0 t0_1 t0_2 t1_0 t1_1 t1_2 t1_3 t1_4 t1_5 t1_6 t1_7 t1_8 t1_9 t1_10 t2_0 t3_0 t4_0 t5_0 t6_0 t7_0 t8_0 p86 from (by rw [e87]; have h := hS; rw [S_NM_quotient.eq_1] at h; replace h := q_s2 h; with_reducible exact h))
  refine lv_aload_n hx hb d_14_26_14 rfl (lv_at hl 0 rfl) ?_
  refine lv_aload_n hx hb d_14_26_15 rfl (lv_at hl 0 rfl) ?_
  refine q_get (ci := 12) (j := 6) (v := .ref (q 134)) C0 V i_NM rfl rfl hT0 (by decide) w_2304 rfl d_14_26_16 ?_
  refine q_getN (ci := 14) (j := 0) (v := .int y48) C0 V i_DR rfl rfl hO47 (by decide) wo_1997 rfl d_14_26_19 ?_
  refine q_put (ci := 12) (j := 0) (v := .int y48) (ty := .int) C0 V i_NM o_NM n_NM rfl rfl hT0 (by decide) w_2298 rfl rfl rfl rfl (Nat.le_of_ble_eq_true rfl) d_14_26_22 (fun H locs w111 hu112 hT0 V => ?_)
  replace hT0 : w111[116]? = (some (q 116, .inr (12, [.int y48, .ref (q 117), .int t0_1, .ref (q 118), .int t0_2, .ref (q 119), .ref (q 134), .ref (q 145), .ref (q 153), .ref (q 157), .ref (q 167), .ref (q 168)])) : Option (Nat × va_E)) := hT0
  replace hI := n_p116 hI hu112 hT0 (by first | with_reducible exact q_fe btt0_1 | exact ⟨(by have t1 : 0 ≤ t0_1.toInt ∧ t0_1.toInt ≤ 4100 := btt0_1; omega), (by have t1 : 0 ≤ t0_1.toInt ∧ t0_1.toInt ≤ 4100 := btt0_1; omega)⟩) (by first | with_reducible exact q_fe btt0_2 | exact ⟨(by have t1 : 0 ≤ t0_2.toInt ∧ t0_2.toInt ≤ 12200 := btt0_2; omega), (by have t1 : 0 ≤ t0_2.toInt ∧ t0_2.toInt ≤ 12200 := btt0_2; omega)⟩)
  replace hO47 := (hu112 _ (by decide)).trans hO47
  replace hA60 := (hu112 _ (by decide)).trans hA60
  replace hA62 := (hu112 _ (by decide)).trans hA62
  replace hA64 := (hu112 _ (by decide)).trans hA64
  replace hA66 := (hu112 _ (by decide)).trans hA66
  replace hA68 := (hu112 _ (by decide)).trans hA68
  replace hA70 := (hu112 _ (by decide)).trans hA70
  replace hA72 := (hu112 _ (by decide)).trans hA72
  replace hF := q_us hF hu112 (by simp)
  exact q_retv C0 V (⟨hI, hF, y48, y48, y49, y50, y51, y52, y53, y54, y55, y56, y57, y58, f59, f61, f63, f65, f67, f69, f71, hT0, hO47, hA60, hA62, hA64, hA66, hA68, hA70, hA72, (show 0 ≤ y52.toInt from (by first | with_reducible exact q_fe b73 | (have t1 : 0 ≤ y52.toInt := b73; omega))), (show y52.toInt ≤ 1 from (by first | with_reducible exact q_fe b74 | (have t1 : y52.toInt ≤ 1 := b74; omega))), (show 0 ≤ y53.toInt from (by first | with_reducible exact q_fe b75 | (have t1 : 0 ≤ y53.toInt := b75; omega))), (show t1_1.toInt ≤ y49.toInt from (by first | with_reducible exact q_fe b76 | (have t1 : t1_1.toInt ≤ y49.toInt := b76; omega))), (show y49.toInt ≤ t1_1.toInt from (by first | with_reducible exact q_fe b77 | (have t1 : y49.toInt ≤ t1_1.toInt := b77; omega))), (show t1_6.toInt ≤ y54.toInt from (by first | with_reducible exact q_fe b78 | (have t1 : t1_6.toInt ≤ y54.toInt := b78; omega))), (show y54.toInt ≤ t1_6.toInt from (by first | with_reducible exact q_fe b79 | (have t1 : y54.toInt ≤ t1_6.toInt := b79; omega))), (show t1_8.toInt ≤ y56.toInt from (by first | with_reducible exact q_fe b80 | (have t1 : t1_8.toInt ≤ y56.toInt := b80; omega))), (show y56.toInt ≤ t1_8.toInt from (by first | with_reducible exact q_fe b81 | (have t1 : y56.toInt ≤ t1_8.toInt := b81; omega))), (show t1_9.toInt ≤ y57.toInt from (by first | with_reducible exact q_fe b82 | (have t1 : t1_9.toInt ≤ y57.toInt := b82; omega))), (show y57.toInt ≤ t1_9.toInt from (by first | with_reducible exact q_fe b83 | (have t1 : y57.toInt ≤ t1_9.toInt := b83; omega))), (show y48.toInt ≤ y48.toInt from (by omega)), (show y48.toInt ≤ y48.toInt from (by omega)), (show (y48, y48, y49, y50, y51, y52, y53, y54, y55, y56, y57, y58, f59, f61, f63, f65, f67, f69, f71) = (F_NM_quotient x2 x3 x4 x5 x6 t0_0 t0_1 t0_2 t1_0 t1_1 t1_2 t1_3 t1_4 t1_5 t1_6 t1_7 t1_8 t1_9 t1_10 t2_0 t3_0 t4_0 t5_0 t6_0 t7_0 t8_0) from Eq.trans (by rw [e105, e104, e103, e102, e101, e100, e99, e98, e97, e96, e95, e94, e93, e92, e91, e90, e89, e88, F_NM_quotient_c11.eq_1]) hR106)⟩) d_14_26_25

