theorem d_14_27_0 : decode prog_14_method_27_code 0 = .ok (.aload_n 0, 1) := by decide +kernel
theorem d_14_27_1 : decode prog_14_method_27_code 1 = .ok (.iload_n 1, 1) := by decide +kernel
theorem d_14_27_15 : decode prog_14_method_27_code 15 = .ok (.putfield 58, 3) := by decide +kernel
theorem d_14_27_18 : decode prog_14_method_27_code 18 = .ok (.aload_n 0, 1) := by decide +kernel
theorem d_14_27_19 : decode prog_14_method_27_code 19 = .ok (.getfield 58, 3) := by decide +kernel
theorem d_14_27_22 : decode prog_14_method_27_code 22 = .ok (.ifCond .le 4, 3) := by decide +kernel
theorem d_14_27_26 : decode prog_14_method_27_code 26 = .ok (.iload_n 1, 1) := by decide +kernel
theorem d_14_27_27 : decode prog_14_method_27_code 27 = .ok (.ifCond .ne 19, 3) := by decide +kernel
theorem d_14_27_46 : decode prog_14_method_27_code 46 = .ok (.iload_n 1, 1) := by decide +kernel
theorem d_14_27_47 : decode prog_14_method_27_code 47 = .ok (.iconst 1, 1) := by decide +kernel
theorem d_14_27_48 : decode prog_14_method_27_code 48 = .ok (.if_icmp .ne 19, 3) := by decide +kernel
theorem d_14_27_67 : decode prog_14_method_27_code 67 = .ok (.aload_n 0, 1) := by decide +kernel
theorem d_14_27_68 : decode prog_14_method_27_code 68 = .ok (.getfield 26, 3) := by decide +kernel
theorem d_14_27_71 : decode prog_14_method_27_code 71 = .ok (.iload_n 2, 1) := by decide +kernel
theorem d_14_27_72 : decode prog_14_method_27_code 72 = .ok (.iload_n 3, 1) := by decide +kernel
theorem d_14_27_73 : decode prog_14_method_27_code 73 = .ok (.iload 4, 2) := by decide +kernel
theorem d_14_27_75 : decode prog_14_method_27_code 75 = .ok (.iload 5, 2) := by decide +kernel
theorem d_14_27_77 : decode prog_14_method_27_code 77 = .ok (.invokevirtual 225, 3) := by decide +kernel
set_option maxRecDepth 100000 in
theorem w_2910 : (Cond.code ({ cls := "NumberHouseModel$DecimalRows", name := "root", desc := "(IIII)V" } : MethodName) prog_15_method_42_code (11 : Nat) (none : Option ClassFile.FieldType)) ∈ q_tbl := q_of13 30 rfl (by decide +kernel)
set_option maxRecDepth 100000 in
theorem w_2907 : (Cond.methodLink "NumberHouseModel" (225 : Nat) ({ cls := "NumberHouseModel$DecimalRows", name := "root", desc := "(IIII)V" } : MethodName)) ∈ q_tbl := q_of13 27 rfl (by decide +kernel)
set_option maxRecDepth 100000 in
theorem w_2908 : (Cond.instanceMethod ({ cls := "NumberHouseModel$DecimalRows", name := "root", desc := "(IIII)V" } : MethodName)) ∈ q_tbl := q_of13 28 rfl (by decide +kernel)
set_option maxRecDepth 100000 in
theorem w_2909 : (Cond.selects "NumberHouseModel$DecimalRows" ({ cls := "NumberHouseModel$DecimalRows", name := "root", desc := "(IIII)V" } : MethodName) ({ cls := "NumberHouseModel$DecimalRows", name := "root", desc := "(IIII)V" } : MethodName)) ∈ q_tbl := q_of13 29 rfl (by decide +kernel)
theorem LV_NM_225 : q_LV "NumberHouseModel" 225 y_DR_root prog_15_method_42_code 11 none 4 := ⟨w_2910, w_16, w_2907, w_2908, w_2909, ⟨by decide, by decide, by decide +kernel⟩⟩
theorem d_14_27_80 : decode prog_14_method_27_code 80 = .ok (.aload_n 0, 1) := by decide +kernel
theorem d_14_27_81 : decode prog_14_method_27_code 81 = .ok (.aload_n 0, 1) := by decide +kernel
theorem d_14_27_82 : decode prog_14_method_27_code 82 = .ok (.getfield 26, 3) := by decide +kernel
theorem d_14_27_85 : decode prog_14_method_27_code 85 = .ok (.getfield 105, 3) := by decide +kernel
theorem d_14_27_88 : decode prog_14_method_27_code 88 = .ok (.putfield 58, 3) := by decide +kernel
theorem d_14_27_91 : decode prog_14_method_27_code 91 = .ok (.return_, 1) := by decide +kernel
theorem d_14_27_51 : decode prog_14_method_27_code 51 = .ok (.aload_n 0, 1) := by decide +kernel
theorem d_14_27_52 : decode prog_14_method_27_code 52 = .ok (.getfield 26, 3) := by decide +kernel
theorem d_14_27_55 : decode prog_14_method_27_code 55 = .ok (.iload_n 2, 1) := by decide +kernel
theorem d_14_27_56 : decode prog_14_method_27_code 56 = .ok (.iload_n 3, 1) := by decide +kernel
theorem d_14_27_57 : decode prog_14_method_27_code 57 = .ok (.iload 4, 2) := by decide +kernel
theorem d_14_27_59 : decode prog_14_method_27_code 59 = .ok (.iload 5, 2) := by decide +kernel
theorem d_14_27_61 : decode prog_14_method_27_code 61 = .ok (.invokevirtual 222, 3) := by decide +kernel
set_option maxRecDepth 100000 in
theorem w_2906 : (Cond.code ({ cls := "NumberHouseModel$DecimalRows", name := "round", desc := "(IIII)V" } : MethodName) prog_15_method_44_code (5 : Nat) (none : Option ClassFile.FieldType)) ∈ q_tbl := q_of13 26 rfl (by decide +kernel)
set_option maxRecDepth 100000 in
theorem w_2903 : (Cond.methodLink "NumberHouseModel" (222 : Nat) ({ cls := "NumberHouseModel$DecimalRows", name := "round", desc := "(IIII)V" } : MethodName)) ∈ q_tbl := q_of13 23 rfl (by decide +kernel)
set_option maxRecDepth 100000 in
theorem w_2904 : (Cond.instanceMethod ({ cls := "NumberHouseModel$DecimalRows", name := "round", desc := "(IIII)V" } : MethodName)) ∈ q_tbl := q_of13 24 rfl (by decide +kernel)
set_option maxRecDepth 100000 in
theorem w_2905 : (Cond.selects "NumberHouseModel$DecimalRows" ({ cls := "NumberHouseModel$DecimalRows", name := "round", desc := "(IIII)V" } : MethodName) ({ cls := "NumberHouseModel$DecimalRows", name := "round", desc := "(IIII)V" } : MethodName)) ∈ q_tbl := q_of13 25 rfl (by decide +kernel)
theorem LV_NM_222 : q_LV "NumberHouseModel" 222 y_DR_round prog_15_method_44_code 5 none 4 := ⟨w_2906, w_16, w_2903, w_2904, w_2905, ⟨by decide, by decide, by decide +kernel⟩⟩
theorem d_14_27_64 : decode prog_14_method_27_code 64 = .ok (.goto 16, 3) := by decide +kernel
theorem d_14_27_30 : decode prog_14_method_27_code 30 = .ok (.aload_n 0, 1) := by decide +kernel
theorem d_14_27_31 : decode prog_14_method_27_code 31 = .ok (.getfield 26, 3) := by decide +kernel
theorem d_14_27_34 : decode prog_14_method_27_code 34 = .ok (.iload_n 2, 1) := by decide +kernel
theorem d_14_27_35 : decode prog_14_method_27_code 35 = .ok (.iload_n 3, 1) := by decide +kernel
theorem d_14_27_36 : decode prog_14_method_27_code 36 = .ok (.iload 4, 2) := by decide +kernel
theorem d_14_27_38 : decode prog_14_method_27_code 38 = .ok (.iload 5, 2) := by decide +kernel
theorem d_14_27_40 : decode prog_14_method_27_code 40 = .ok (.invokevirtual 219, 3) := by decide +kernel
set_option maxRecDepth 100000 in
theorem w_2902 : (Cond.code ({ cls := "NumberHouseModel$DecimalRows", name := "toScale", desc := "(IIII)V" } : MethodName) prog_15_method_43_code (5 : Nat) (none : Option ClassFile.FieldType)) ∈ q_tbl := q_of13 22 rfl (by decide +kernel)
set_option maxRecDepth 100000 in
theorem w_2899 : (Cond.methodLink "NumberHouseModel" (219 : Nat) ({ cls := "NumberHouseModel$DecimalRows", name := "toScale", desc := "(IIII)V" } : MethodName)) ∈ q_tbl := q_of13 19 rfl (by decide +kernel)
set_option maxRecDepth 100000 in
theorem w_2900 : (Cond.instanceMethod ({ cls := "NumberHouseModel$DecimalRows", name := "toScale", desc := "(IIII)V" } : MethodName)) ∈ q_tbl := q_of13 20 rfl (by decide +kernel)
set_option maxRecDepth 100000 in
theorem w_2901 : (Cond.selects "NumberHouseModel$DecimalRows" ({ cls := "NumberHouseModel$DecimalRows", name := "toScale", desc := "(IIII)V" } : MethodName) ({ cls := "NumberHouseModel$DecimalRows", name := "toScale", desc := "(IIII)V" } : MethodName)) ∈ q_tbl := q_of13 21 rfl (by decide +kernel)
theorem LV_NM_219 : q_LV "NumberHouseModel" 219 y_DR_toScale prog_15_method_43_code 5 none 4 := ⟨w_2902, w_16, w_2899, w_2900, w_2901, ⟨by decide, by decide, by decide +kernel⟩⟩
theorem d_14_27_43 : decode prog_14_method_27_code 43 = .ok (.goto 37, 3) := by decide +kernel
theorem d_14_27_25 : decode prog_14_method_27_code 25 = .ok (.return_, 1) := by decide +kernel
theorem d_14_27_10 : decode prog_14_method_27_code 10 = .ok (.iconst 1, 1) := by decide +kernel
theorem d_14_27_11 : decode prog_14_method_27_code 11 = .ok (.goto 4, 3) := by decide +kernel
theorem d_14_27_2 : decode prog_14_method_27_code 2 = .ok (.ifCond .lt 8, 3) := by decide +kernel
theorem d_14_27_5 : decode prog_14_method_27_code 5 = .ok (.iload_n 1, 1) := by decide +kernel
theorem d_14_27_6 : decode prog_14_method_27_code 6 = .ok (.iconst 2, 1) := by decide +kernel
theorem d_14_27_7 : decode prog_14_method_27_code 7 = .ok (.if_icmp .le 7, 3) := by decide +kernel
theorem d_14_27_14 : decode prog_14_method_27_code 14 = .ok (.iconst 0, 1) := by decide +kernel
def y_NM_shape : MethodName := ⟨"NumberHouseModel", "shape", "(IIIII)V"⟩
def F_NM_shape_c77 (x2 : Int32) (x3 : Int32) (x4 : Int32) (x5 : Int32) (x6 : Int32) (t0_0 : Int32) (t0_1 : Int32) (t0_2 : Int32) (t1_0 : Int32) (t1_1 : Int32) (t1_2 : Int32) (t1_3 : Int64) (t1_4 : Int32) (t1_5 : Int32) (t1_6 : Int32) (t1_7 : Int32) (t1_8 : Int32) (t1_9 : Int32) (t1_10 : Int32) (t2_0 : (Nat → Int32)) (t3_0 : (Nat → Int32)) (t4_0 : (Nat → Int32)) (t5_0 : (Nat → Int32)) (t6_0 : (Nat → Int32)) (t7_0 : (Nat → Int32)) (t8_0 : (Nat → Int32)) (t9_0 : (Nat → Int32)) (lx47 : Int32) (p115 : (Int32 × Int32 × Int32 × Int64 × Int32 × Int32 × Int32 × Int32 × Int32 × Int32 × Int32 × (Nat → Int32) × (Nat → Int32) × (Nat → Int32) × (Nat → Int32) × (Nat → Int32) × (Nat → Int32) × (Nat → Int32) × (Nat → Int32))) : Int32 × Int32 × Int32 × Int32 × Int64 × Int32 × Int32 × Int32 × Int32 × Int32 × Int32 × Int32 × (Nat → Int32) × (Nat → Int32) × (Nat → Int32) × (Nat → Int32) × (Nat → Int32) × (Nat → Int32) × (Nat → Int32) × (Nat → Int32) := ((p115.1 : Int32), (p115.1 : Int32), (p115.2.1 : Int32), (p115.2.2.1 : Int32), (p115.2.2.2.1 : Int64), (p115.2.2.2.2.1 : Int32), (p115.2.2.2.2.2.1 : Int32), (p115.2.2.2.2.2.2.1 : Int32), (p115.2.2.2.2.2.2.2.1 : Int32), (p115.2.2.2.2.2.2.2.2.1 : Int32), (p115.2.2.2.2.2.2.2.2.2.1 : Int32), (p115.2.2.2.2.2.2.2.2.2.2.1 : Int32), (p115.2.2.2.2.2.2.2.2.2.2.2.1 : (Nat → Int32)), (p115.2.2.2.2.2.2.2.2.2.2.2.2.1 : (Nat → Int32)), (p115.2.2.2.2.2.2.2.2.2.2.2.2.2.1 : (Nat → Int32)), (p115.2.2.2.2.2.2.2.2.2.2.2.2.2.2.1 : (Nat → Int32)), (p115.2.2.2.2.2.2.2.2.2.2.2.2.2.2.2.1 : (Nat → Int32)), (p115.2.2.2.2.2.2.2.2.2.2.2.2.2.2.2.2.1 : (Nat → Int32)), (p115.2.2.2.2.2.2.2.2.2.2.2.2.2.2.2.2.2.1 : (Nat → Int32)), (p115.2.2.2.2.2.2.2.2.2.2.2.2.2.2.2.2.2.2 : (Nat → Int32)))
def F_NM_shape_c61 (x2 : Int32) (x3 : Int32) (x4 : Int32) (x5 : Int32) (x6 : Int32) (t0_0 : Int32) (t0_1 : Int32) (t0_2 : Int32) (t1_0 : Int32) (t1_1 : Int32) (t1_2 : Int32) (t1_3 : Int64) (t1_4 : Int32) (t1_5 : Int32) (t1_6 : Int32) (t1_7 : Int32) (t1_8 : Int32) (t1_9 : Int32) (t1_10 : Int32) (t2_0 : (Nat → Int32)) (t3_0 : (Nat → Int32)) (t4_0 : (Nat → Int32)) (t5_0 : (Nat → Int32)) (t6_0 : (Nat → Int32)) (t7_0 : (Nat → Int32)) (t8_0 : (Nat → Int32)) (t9_0 : (Nat → Int32)) (lx47 : Int32) (p185 : (Int32 × Int32 × Int32 × Int64 × Int32 × Int32 × Int32 × Int32 × Int32 × Int32 × Int32 × (Nat → Int32) × (Nat → Int32) × (Nat → Int32) × (Nat → Int32) × (Nat → Int32))) : Int32 × Int32 × Int32 × Int32 × Int64 × Int32 × Int32 × Int32 × Int32 × Int32 × Int32 × Int32 × (Nat → Int32) × (Nat → Int32) × (Nat → Int32) × (Nat → Int32) × (Nat → Int32) × (Nat → Int32) × (Nat → Int32) × (Nat → Int32) := ((p185.1 : Int32), (p185.1 : Int32), (p185.2.1 : Int32), (p185.2.2.1 : Int32), (p185.2.2.2.1 : Int64), (p185.2.2.2.2.1 : Int32), (p185.2.2.2.2.2.1 : Int32), (p185.2.2.2.2.2.2.1 : Int32), (p185.2.2.2.2.2.2.2.1 : Int32), (p185.2.2.2.2.2.2.2.2.1 : Int32), (p185.2.2.2.2.2.2.2.2.2.1 : Int32), (p185.2.2.2.2.2.2.2.2.2.2.1 : Int32), (p185.2.2.2.2.2.2.2.2.2.2.2.1 : (Nat → Int32)), (p185.2.2.2.2.2.2.2.2.2.2.2.2.1 : (Nat → Int32)), (p185.2.2.2.2.2.2.2.2.2.2.2.2.2.1 : (Nat → Int32)), (p185.2.2.2.2.2.2.2.2.2.2.2.2.2.2.1 : (Nat → Int32)), (p185.2.2.2.2.2.2.2.2.2.2.2.2.2.2.2 : (Nat → Int32)), t7_0, t8_0, t9_0)
def F_NM_shape_c40 (x2 : Int32) (x3 : Int32) (x4 : Int32) (x5 : Int32) (x6 : Int32) (t0_0 : Int32) (t0_1 : Int32) (t0_2 : Int32) (t1_0 : Int32) (t1_1 : Int32) (t1_2 : Int32) (t1_3 : Int64) (t1_4 : Int32) (t1_5 : Int32) (t1_6 : Int32) (t1_7 : Int32) (t1_8 : Int32) (t1_9 : Int32) (t1_10 : Int32) (t2_0 : (Nat → Int32)) (t3_0 : (Nat → Int32)) (t4_0 : (Nat → Int32)) (t5_0 : (Nat → Int32)) (t6_0 : (Nat → Int32)) (t7_0 : (Nat → Int32)) (t8_0 : (Nat → Int32)) (t9_0 : (Nat → Int32)) (lx47 : Int32) (p252 : (Int32 × Int32 × Int32 × Int64 × Int32 × Int32 × Int32 × Int32 × Int32 × Int32 × Int32 × (Nat → Int32) × (Nat → Int32) × (Nat → Int32) × (Nat → Int32) × (Nat → Int32))) : Int32 × Int32 × Int32 × Int32 × Int64 × Int32 × Int32 × Int32 × Int32 × Int32 × Int32 × Int32 × (Nat → Int32) × (Nat → Int32) × (Nat → Int32) × (Nat → Int32) × (Nat → Int32) × (Nat → Int32) × (Nat → Int32) × (Nat → Int32) := ((p252.1 : Int32), (p252.1 : Int32), (p252.2.1 : Int32), (p252.2.2.1 : Int32), (p252.2.2.2.1 : Int64), (p252.2.2.2.2.1 : Int32), (p252.2.2.2.2.2.1 : Int32), (p252.2.2.2.2.2.2.1 : Int32), (p252.2.2.2.2.2.2.2.1 : Int32), (p252.2.2.2.2.2.2.2.2.1 : Int32), (p252.2.2.2.2.2.2.2.2.2.1 : Int32), (p252.2.2.2.2.2.2.2.2.2.2.1 : Int32), (p252.2.2.2.2.2.2.2.2.2.2.2.1 : (Nat → Int32)), (p252.2.2.2.2.2.2.2.2.2.2.2.2.1 : (Nat → Int32)), (p252.2.2.2.2.2.2.2.2.2.2.2.2.2.1 : (Nat → Int32)), (p252.2.2.2.2.2.2.2.2.2.2.2.2.2.2.1 : (Nat → Int32)), (p252.2.2.2.2.2.2.2.2.2.2.2.2.2.2.2 : (Nat → Int32)), t7_0, t8_0, t9_0)
def F_NM_shape_J15 (x2 : Int32) (x3 : Int32) (x4 : Int32) (x5 : Int32) (x6 : Int32) (t0_0 : Int32) (t0_1 : Int32) (t0_2 : Int32) (t1_0 : Int32) (t1_1 : Int32) (t1_2 : Int32) (t1_3 : Int64) (t1_4 : Int32) (t1_5 : Int32) (t1_6 : Int32) (t1_7 : Int32) (t1_8 : Int32) (t1_9 : Int32) (t1_10 : Int32) (t2_0 : (Nat → Int32)) (t3_0 : (Nat → Int32)) (t4_0 : (Nat → Int32)) (t5_0 : (Nat → Int32)) (t6_0 : (Nat → Int32)) (t7_0 : (Nat → Int32)) (t8_0 : (Nat → Int32)) (t9_0 : (Nat → Int32)) (lx47 : Int32) : Int32 × Int32 × Int32 × Int32 × Int64 × Int32 × Int32 × Int32 × Int32 × Int32 × Int32 × Int32 × (Nat → Int32) × (Nat → Int32) × (Nat → Int32) × (Nat → Int32) × (Nat → Int32) × (Nat → Int32) × (Nat → Int32) × (Nat → Int32) := if lx47 ≤ (0 : Int32) then (if x2 = (0 : Int32) then (F_NM_shape_c40 x2 x3 x4 x5 x6 t0_0 t0_1 t0_2 t1_0 t1_1 t1_2 t1_3 t1_4 t1_5 t1_6 t1_7 t1_8 t1_9 t1_10 t2_0 t3_0 t4_0 t5_0 t6_0 t7_0 t8_0 t9_0 lx47 ((F_DR_toScale x3 x4 x5 x6 t1_0 t1_1 t1_2 t1_3 t1_4 t1_5 t1_6 t1_7 t1_8 t1_9 t1_10 t2_0 t3_0 t4_0 t5_0 t6_0) : (Int32 × Int32 × Int32 × Int64 × Int32 × Int32 × Int32 × Int32 × Int32 × Int32 × Int32 × (Nat → Int32) × (Nat → Int32) × (Nat → Int32) × (Nat → Int32) × (Nat → Int32)))) else (if x2 = (1 : Int32) then (F_NM_shape_c61 x2 x3 x4 x5 x6 t0_0 t0_1 t0_2 t1_0 t1_1 t1_2 t1_3 t1_4 t1_5 t1_6 t1_7 t1_8 t1_9 t1_10 t2_0 t3_0 t4_0 t5_0 t6_0 t7_0 t8_0 t9_0 lx47 ((F_DR_round x3 x4 x5 x6 t1_0 t1_1 t1_2 t1_3 t1_4 t1_5 t1_6 t1_7 t1_8 t1_9 t1_10 t2_0 t3_0 t4_0 t5_0 t6_0) : (Int32 × Int32 × Int32 × Int64 × Int32 × Int32 × Int32 × Int32 × Int32 × Int32 × Int32 × (Nat → Int32) × (Nat → Int32) × (Nat → Int32) × (Nat → Int32) × (Nat → Int32)))) else (F_NM_shape_c77 x2 x3 x4 x5 x6 t0_0 t0_1 t0_2 t1_0 t1_1 t1_2 t1_3 t1_4 t1_5 t1_6 t1_7 t1_8 t1_9 t1_10 t2_0 t3_0 t4_0 t5_0 t6_0 t7_0 t8_0 t9_0 lx47 ((F_DR_root x3 x4 x5 x6 t1_0 t1_1 t1_2 t1_3 t1_4 t1_5 t1_6 t1_7 t1_8 t1_9 t1_10 t2_0 t3_0 t4_0 t5_0 t6_0 t7_0 t8_0 t9_0) : (Int32 × Int32 × Int32 × Int64 × Int32 × Int32 × Int32 × Int32 × Int32 × Int32 × Int32 × (Nat → Int32) × (Nat → Int32) × (Nat → Int32) × (Nat → Int32) × (Nat → Int32) × (Nat → Int32) × (Nat → Int32) × (Nat → Int32)))))) else ((lx47, t1_0, t1_1, t1_2, t1_3, t1_4, t1_5, t1_6, t1_7, t1_8, t1_9, t1_10, t2_0, t3_0, t4_0, t5_0, t6_0, t7_0, t8_0, t9_0))
def F_NM_shape_J10 (x2 : Int32) (x3 : Int32) (x4 : Int32) (x5 : Int32) (x6 : Int32) (t0_0 : Int32) (t0_1 : Int32) (t0_2 : Int32) (t1_0 : Int32) (t1_1 : Int32) (t1_2 : Int32) (t1_3 : Int64) (t1_4 : Int32) (t1_5 : Int32) (t1_6 : Int32) (t1_7 : Int32) (t1_8 : Int32) (t1_9 : Int32) (t1_10 : Int32) (t2_0 : (Nat → Int32)) (t3_0 : (Nat → Int32)) (t4_0 : (Nat → Int32)) (t5_0 : (Nat → Int32)) (t6_0 : (Nat → Int32)) (t7_0 : (Nat → Int32)) (t8_0 : (Nat → Int32)) (t9_0 : (Nat → Int32)) : Int32 × Int32 × Int32 × Int32 × Int64 × Int32 × Int32 × Int32 × Int32 × Int32 × Int32 × Int32 × (Nat → Int32) × (Nat → Int32) × (Nat → Int32) × (Nat → Int32) × (Nat → Int32) × (Nat → Int32) × (Nat → Int32) × (Nat → Int32) := F_NM_shape_J15 x2 x3 x4 x5 x6 t0_0 t0_1 t0_2 t1_0 t1_1 t1_2 t1_3 t1_4 t1_5 t1_6 t1_7 t1_8 t1_9 t1_10 t2_0 t3_0 t4_0 t5_0 t6_0 t7_0 t8_0 t9_0 1
def F_NM_shape (x2 : Int32) (x3 : Int32) (x4 : Int32) (x5 : Int32) (x6 : Int32) (t0_0 : Int32) (t0_1 : Int32) (t0_2 : Int32) (t1_0 : Int32) (t1_1 : Int32) (t1_2 : Int32) (t1_3 : Int64) (t1_4 : Int32) (t1_5 : Int32) (t1_6 : Int32) (t1_7 : Int32) (t1_8 : Int32) (t1_9 : Int32) (t1_10 : Int32) (t2_0 : (Nat → Int32)) (t3_0 : (Nat → Int32)) (t4_0 : (Nat → Int32)) (t5_0 : (Nat → Int32)) (t6_0 : (Nat → Int32)) (t7_0 : (Nat → Int32)) (t8_0 : (Nat → Int32)) (t9_0 : (Nat → Int32)) : Int32 × Int32 × Int32 × Int32 × Int64 × Int32 × Int32 × Int32 × Int32 × Int32 × Int32 × Int32 × (Nat → Int32) × (Nat → Int32) × (Nat → Int32) × (Nat → Int32) × (Nat → Int32) × (Nat → Int32) × (Nat → Int32) × (Nat → Int32) := if x2 < (0 : Int32) then (F_NM_shape_J10 x2 x3 x4 x5 x6 t0_0 t0_1 t0_2 t1_0 t1_1 t1_2 t1_3 t1_4 t1_5 t1_6 t1_7 t1_8 t1_9 t1_10 t2_0 t3_0 t4_0 t5_0 t6_0 t7_0 t8_0 t9_0) else (if x2 ≤ (2 : Int32) then (F_NM_shape_J15 x2 x3 x4 x5 x6 t0_0 t0_1 t0_2 t1_0 t1_1 t1_2 t1_3 t1_4 t1_5 t1_6 t1_7 t1_8 t1_9 t1_10 t2_0 t3_0 t4_0 t5_0 t6_0 t7_0 t8_0 t9_0 0) else (F_NM_shape_J10 x2 x3 x4 x5 x6 t0_0 t0_1 t0_2 t1_0 t1_1 t1_2 t1_3 t1_4 t1_5 t1_6 t1_7 t1_8 t1_9 t1_10 t2_0 t3_0 t4_0 t5_0 t6_0 t7_0 t8_0 t9_0))
def S_NM_shape_c77 (x2 : Int32) (x3 : Int32) (x4 : Int32) (x5 : Int32) (x6 : Int32) (t0_0 : Int32) (t0_1 : Int32) (t0_2 : Int32) (t1_0 : Int32) (t1_1 : Int32) (t1_2 : Int32) (t1_3 : Int64) (t1_4 : Int32) (t1_5 : Int32) (t1_6 : Int32) (t1_7 : Int32) (t1_8 : Int32) (t1_9 : Int32) (t1_10 : Int32) (t2_0 : (Nat → Int32)) (t3_0 : (Nat → Int32)) (t4_0 : (Nat → Int32)) (t5_0 : (Nat → Int32)) (t6_0 : (Nat → Int32)) (t7_0 : (Nat → Int32)) (t8_0 : (Nat → Int32)) (t9_0 : (Nat → Int32)) (lx47 : Int32) (p115 : (Int32 × Int32 × Int32 × Int64 × Int32 × Int32 × Int32 × Int32 × Int32 × Int32 × Int32 × (Nat → Int32) × (Nat → Int32) × (Nat → Int32) × (Nat → Int32) × (Nat → Int32) × (Nat → Int32) × (Nat → Int32) × (Nat → Int32))) : Prop := True
def S_NM_shape_c61 (x2 : Int32) (x3 : Int32) (x4 : Int32) (x5 : Int32) (x6 : Int32) (t0_0 : Int32) (t0_1 : Int32) (t0_2 : Int32) (t1_0 : Int32) (t1_1 : Int32) (t1_2 : Int32) (t1_3 : Int64) (t1_4 : Int32) (t1_5 : Int32) (t1_6 : Int32) (t1_7 : Int32) (t1_8 : Int32) (t1_9 : Int32) (t1_10 : Int32) (t2_0 : (Nat → Int32)) (t3_0 : (Nat → Int32)) (t4_0 : (Nat → Int32)) (t5_0 : (Nat → Int32)) (t6_0 : (Nat → Int32)) (t7_0 : (Nat → Int32)) (t8_0 : (Nat → Int32)) (t9_0 : (Nat → Int32)) (lx47 : Int32) (p185 : (Int32 × Int32 × Int32 × Int64 × Int32 × Int32 × Int32 × Int32 × Int32 × Int32 × Int32 × (Nat → Int32) × (Nat → Int32) × (Nat → Int32) × (Nat → Int32) × (Nat → Int32))) : Prop := True
def S_NM_shape_c40 (x2 : Int32) (x3 : Int32) (x4 : Int32) (x5 : Int32) (x6 : Int32) (t0_0 : Int32) (t0_1 : Int32) (t0_2 : Int32) (t1_0 : Int32) (t1_1 : Int32) (t1_2 : Int32) (t1_3 : Int64) (t1_4 : Int32) (t1_5 : Int32) (t1_6 : Int32) (t1_7 : Int32) (t1_8 : Int32) (t1_9 : Int32) (t1_10 : Int32) (t2_0 : (Nat → Int32)) (t3_0 : (Nat → Int32)) (t4_0 : (Nat → Int32)) (t5_0 : (Nat → Int32)) (t6_0 : (Nat → Int32)) (t7_0 : (Nat → Int32)) (t8_0 : (Nat → Int32)) (t9_0 : (Nat → Int32)) (lx47 : Int32) (p252 : (Int32 × Int32 × Int32 × Int64 × Int32 × Int32 × Int32 × Int32 × Int32 × Int32 × Int32 × (Nat → Int32) × (Nat → Int32) × (Nat → Int32) × (Nat → Int32) × (Nat → Int32))) : Prop := True
def S_NM_shape_J15 (x2 : Int32) (x3 : Int32) (x4 : Int32) (x5 : Int32) (x6 : Int32) (t0_0 : Int32) (t0_1 : Int32) (t0_2 : Int32) (t1_0 : Int32) (t1_1 : Int32) (t1_2 : Int32) (t1_3 : Int64) (t1_4 : Int32) (t1_5 : Int32) (t1_6 : Int32) (t1_7 : Int32) (t1_8 : Int32) (t1_9 : Int32) (t1_10 : Int32) (t2_0 : (Nat → Int32)) (t3_0 : (Nat → Int32)) (t4_0 : (Nat → Int32)) (t5_0 : (Nat → Int32)) (t6_0 : (Nat → Int32)) (t7_0 : (Nat → Int32)) (t8_0 : (Nat → Int32)) (t9_0 : (Nat → Int32)) (lx47 : Int32) : Prop := if lx47 ≤ (0 : Int32) then (if x2 = (0 : Int32) then ((True ∧ S_DR_toScale x3 x4 x5 x6 t1_0 t1_1 t1_2 t1_3 t1_4 t1_5 t1_6 t1_7 t1_8 t1_9 t1_10 t2_0 t3_0 t4_0 t5_0 t6_0) ∧ (S_NM_shape_c40 x2 x3 x4 x5 x6 t0_0 t0_1 t0_2 t1_0 t1_1 t1_2 t1_3 t1_4 t1_5 t1_6 t1_7 t1_8 t1_9 t1_10 t2_0 t3_0 t4_0 t5_0 t6_0 t7_0 t8_0 t9_0 lx47 ((F_DR_toScale x3 x4 x5 x6 t1_0 t1_1 t1_2 t1_3 t1_4 t1_5 t1_6 t1_7 t1_8 t1_9 t1_10 t2_0 t3_0 t4_0 t5_0 t6_0) : (Int32 × Int32 × Int32 × Int64 × Int32 × Int32 × Int32 × Int32 × Int32 × Int32 × Int32 × (Nat → Int32) × (Nat → Int32) × (Nat → Int32) × (Nat → Int32) × (Nat → Int32))))) else (if x2 = (1 : Int32) then ((True ∧ S_DR_round x3 x4 x5 x6 t1_0 t1_1 t1_2 t1_3 t1_4 t1_5 t1_6 t1_7 t1_8 t1_9 t1_10 t2_0 t3_0 t4_0 t5_0 t6_0) ∧ (S_NM_shape_c61 x2 x3 x4 x5 x6 t0_0 t0_1 t0_2 t1_0 t1_1 t1_2 t1_3 t1_4 t1_5 t1_6 t1_7 t1_8 t1_9 t1_10 t2_0 t3_0 t4_0 t5_0 t6_0 t7_0 t8_0 t9_0 lx47 ((F_DR_round x3 x4 x5 x6 t1_0 t1_1 t1_2 t1_3 t1_4 t1_5 t1_6 t1_7 t1_8 t1_9 t1_10 t2_0 t3_0 t4_0 t5_0 t6_0) : (Int32 × Int32 × Int32 × Int64 × Int32 × Int32 × Int32 × Int32 × Int32 × Int32 × Int32 × (Nat → Int32) × (Nat → Int32) × (Nat → Int32) × (Nat → Int32) × (Nat → Int32))))) else ((True ∧ S_DR_root x3 x4 x5 x6 t1_0 t1_1 t1_2 t1_3 t1_4 t1_5 t1_6 t1_7 t1_8 t1_9 t1_10 t2_0 t3_0 t4_0 t5_0 t6_0 t7_0 t8_0 t9_0) ∧ (S_NM_shape_c77 x2 x3 x4 x5 x6 t0_0 t0_1 t0_2 t1_0 t1_1 t1_2 t1_3 t1_4 t1_5 t1_6 t1_7 t1_8 t1_9 t1_10 t2_0 t3_0 t4_0 t5_0 t6_0 t7_0 t8_0 t9_0 lx47 ((F_DR_root x3 x4 x5 x6 t1_0 t1_1 t1_2 t1_3 t1_4 t1_5 t1_6 t1_7 t1_8 t1_9 t1_10 t2_0 t3_0 t4_0 t5_0 t6_0 t7_0 t8_0 t9_0) : (Int32 × Int32 × Int32 × Int64 × Int32 × Int32 × Int32 × Int32 × Int32 × Int32 × Int32 × (Nat → Int32) × (Nat → Int32) × (Nat → Int32) × (Nat → Int32) × (Nat → Int32) × (Nat → Int32) × (Nat → Int32) × (Nat → Int32))))))) else (True)
def S_NM_shape_J10 (x2 : Int32) (x3 : Int32) (x4 : Int32) (x5 : Int32) (x6 : Int32) (t0_0 : Int32) (t0_1 : Int32) (t0_2 : Int32) (t1_0 : Int32) (t1_1 : Int32) (t1_2 : Int32) (t1_3 : Int64) (t1_4 : Int32) (t1_5 : Int32) (t1_6 : Int32) (t1_7 : Int32) (t1_8 : Int32) (t1_9 : Int32) (t1_10 : Int32) (t2_0 : (Nat → Int32)) (t3_0 : (Nat → Int32)) (t4_0 : (Nat → Int32)) (t5_0 : (Nat → Int32)) (t6_0 : (Nat → Int32)) (t7_0 : (Nat → Int32)) (t8_0 : (Nat → Int32)) (t9_0 : (Nat → Int32)) : Prop := S_NM_shape_J15 x2 x3 x4 x5 x6 t0_0 t0_1 t0_2 t1_0 t1_1 t1_2 t1_3 t1_4 t1_5 t1_6 t1_7 t1_8 t1_9 t1_10 t2_0 t3_0 t4_0 t5_0 t6_0 t7_0 t8_0 t9_0 1
def S_NM_shape (x2 : Int32) (x3 : Int32) (x4 : Int32) (x5 : Int32) (x6 : Int32) (t0_0 : Int32) (t0_1 : Int32) (t0_2 : Int32) (t1_0 : Int32) (t1_1 : Int32) (t1_2 : Int32) (t1_3 : Int64) (t1_4 : Int32) (t1_5 : Int32) (t1_6 : Int32) (t1_7 : Int32) (t1_8 : Int32) (t1_9 : Int32) (t1_10 : Int32) (t2_0 : (Nat → Int32)) (t3_0 : (Nat → Int32)) (t4_0 : (Nat → Int32)) (t5_0 : (Nat → Int32)) (t6_0 : (Nat → Int32)) (t7_0 : (Nat → Int32)) (t8_0 : (Nat → Int32)) (t9_0 : (Nat → Int32)) : Prop := if x2 < (0 : Int32) then (S_NM_shape_J10 x2 x3 x4 x5 x6 t0_0 t0_1 t0_2 t1_0 t1_1 t1_2 t1_3 t1_4 t1_5 t1_6 t1_7 t1_8 t1_9 t1_10 t2_0 t3_0 t4_0 t5_0 t6_0 t7_0 t8_0 t9_0) else (if x2 ≤ (2 : Int32) then (S_NM_shape_J15 x2 x3 x4 x5 x6 t0_0 t0_1 t0_2 t1_0 t1_1 t1_2 t1_3 t1_4 t1_5 t1_6 t1_7 t1_8 t1_9 t1_10 t2_0 t3_0 t4_0 t5_0 t6_0 t7_0 t8_0 t9_0 0) else (S_NM_shape_J10 x2 x3 x4 x5 x6 t0_0 t0_1 t0_2 t1_0 t1_1 t1_2 t1_3 t1_4 t1_5 t1_6 t1_7 t1_8 t1_9 t1_10 t2_0 t3_0 t4_0 t5_0 t6_0 t7_0 t8_0 t9_0))
set_option maxRecDepth 100000 in
set_option maxHeartbeats 4000000 in
theorem X_NM_shape (l : Launch) (D : va_G) (g : Nat → ClassId) (q : Nat → Nat) (ws : va_W) (x2 : Int32) (x3 : Int32) (x4 : Int32) (x5 : Int32) (x6 : Int32) (hI : q_I (msh g q) q ws) (t0_0 : Int32) (t0_1 : Int32) (t0_2 : Int32) (hT0 : ws[116]? = (some (q 116, .inr (12, [.int t0_0, .ref (q 117), .int t0_1, .ref (q 118), .int t0_2, .ref (q 119), .ref (q 134), .ref (q 145), .ref (q 153), .ref (q 157), .ref (q 167), .ref (q 168)])) : Option (Nat × va_E))) (t1_0 : Int32) (t1_1 : Int32) (t1_2 : Int32) (t1_3 : Int64) (t1_4 : Int32) (t1_5 : Int32) (t1_6 : Int32) (t1_7 : Int32) (t1_8 : Int32) (t1_9 : Int32) (t1_10 : Int32) (hT1 : ws[134]? = (some (q 134, .inr (14, [.int t1_0, .ref (q 135), .int t1_1, .ref (q 136), .ref (q 137), .ref (q 138), .ref (q 139), .ref (q 140), .int t1_2, .long t1_3, .int t1_4, .int t1_5, .ref (q 141), .int t1_6, .ref (q 142), .int t1_7, .ref (q 143), .int t1_8, .ref (q 144), .int t1_9, .int t1_10])) : Option (Nat × va_E))) (t2_0 : (Nat → Int32)) (hT2 : ws[136]? = (some (q 136, .inl (g 0, (10000 : Int32).toNatClampNeg, .inl t2_0)) : Option (Nat × va_E))) (t3_0 : (Nat → Int32)) (hT3 : ws[137]? = (some (q 137, .inl (g 0, (10 : Int32).toNatClampNeg, .inl t3_0)) : Option (Nat × va_E))) (t4_0 : (Nat → Int32)) (hT4 : ws[138]? = (some (q 138, .inl (g 3, 10, .inl t4_0)) : Option (Nat × va_E))) (t5_0 : (Nat → Int32)) (hT5 : ws[139]? = (some (q 139, .inl (g 0, (10 : Int32).toNatClampNeg, .inl t5_0)) : Option (Nat × va_E))) (t6_0 : (Nat → Int32)) (hT6 : ws[140]? = (some (q 140, .inl (g 0, (4400 : Int32).toNatClampNeg, .inl t6_0)) : Option (Nat × va_E))) (t7_0 : (Nat → Int32)) (hT7 : ws[141]? = (some (q 141, .inl (g 0, (4400 : Int32).toNatClampNeg, .inl t7_0)) : Option (Nat × va_E))) (t8_0 : (Nat → Int32)) (hT8 : ws[142]? = (some (q 142, .inl (g 0, (2200 : Int32).toNatClampNeg, .inl t8_0)) : Option (Nat × va_E))) (t9_0 : (Nat → Int32)) (hT9 : ws[143]? = (some (q 143, .inl (g 0, (2202 : Int32).toNatClampNeg, .inl t9_0)) : Option (Nat × va_E))) (hS : True ∧ S_NM_shape x2 x3 x4 x5 x6 t0_0 t0_1 t0_2 t1_0 t1_1 t1_2 t1_3 t1_4 t1_5 t1_6 t1_7 t1_8 t1_9 t1_10 t2_0 t3_0 t4_0 t5_0 t6_0 t7_0 t8_0 t9_0) : q_mV l y_NM_shape prog_14_method_27_code 6 6 0 0 D g [.ref (q 116), .int x2, .int x3, .int x4, .int x5, .int x6] ws (fun u => q_I (msh g q) q u ∧ q_un ws u [116, 134, 136, 137, 138, 139, 140, 141, 142, 143] ∧ ∃ (u0_0 : Int32) (u1_0 : Int32) (u1_1 : Int32) (u1_2 : Int32) (u1_3 : Int64) (u1_4 : Int32) (u1_5 : Int32) (u1_6 : Int32) (u1_7 : Int32) (u1_8 : Int32) (u1_9 : Int32) (u1_10 : Int32) (u2_0 : (Nat → Int32)) (u3_0 : (Nat → Int32)) (u4_0 : (Nat → Int32)) (u5_0 : (Nat → Int32)) (u6_0 : (Nat → Int32)) (u7_0 : (Nat → Int32)) (u8_0 : (Nat → Int32)) (u9_0 : (Nat → Int32)), u[116]? = (some (q 116, .inr (12, [.int u0_0, .ref (q 117), .int t0_1, .ref (q 118), .int t0_2, .ref (q 119), .ref (q 134), .ref (q 145), .ref (q 153), .ref (q 157), .ref (q 167), .ref (q 168)])) : Option (Nat × va_E)) ∧ u[134]? = (some (q 134, .inr (14, [.int u1_0, .ref (q 135), .int u1_1, .ref (q 136), .ref (q 137), .ref (q 138), .ref (q 139), .ref (q 140), .int u1_2, .long u1_3, .int u1_4, .int u1_5, .ref (q 141), .int u1_6, .ref (q 142), .int u1_7, .ref (q 143), .int u1_8, .ref (q 144), .int u1_9, .int u1_10])) : Option (Nat × va_E)) ∧ u[136]? = (some (q 136, .inl (g 0, (10000 : Int32).toNatClampNeg, .inl u2_0)) : Option (Nat × va_E)) ∧ u[137]? = (some (q 137, .inl (g 0, (10 : Int32).toNatClampNeg, .inl u3_0)) : Option (Nat × va_E)) ∧ u[138]? = (some (q 138, .inl (g 3, 10, .inl u4_0)) : Option (Nat × va_E)) ∧ u[139]? = (some (q 139, .inl (g 0, (10 : Int32).toNatClampNeg, .inl u5_0)) : Option (Nat × va_E)) ∧ u[140]? = (some (q 140, .inl (g 0, (4400 : Int32).toNatClampNeg, .inl u6_0)) : Option (Nat × va_E)) ∧ u[141]? = (some (q 141, .inl (g 0, (4400 : Int32).toNatClampNeg, .inl u7_0)) : Option (Nat × va_E)) ∧ u[142]? = (some (q 142, .inl (g 0, (2200 : Int32).toNatClampNeg, .inl u8_0)) : Option (Nat × va_E)) ∧ u[143]? = (some (q 143, .inl (g 0, (2202 : Int32).toNatClampNeg, .inl u9_0)) : Option (Nat × va_E)) ∧ (0 ≤ u1_4.toInt + 1) ∧ (u1_4.toInt ≤ 1) ∧ (0 ≤ u1_5.toInt) ∧ (u1_5.toInt ≤ 1) ∧ (t1_1.toInt ≤ u1_1.toInt) ∧ (u1_1.toInt ≤ t1_1.toInt) ∧ (t1_9.toInt ≤ u1_9.toInt) ∧ (u1_9.toInt ≤ t1_9.toInt) ∧ (u0_0, u1_0, u1_1, u1_2, u1_3, u1_4, u1_5, u1_6, u1_7, u1_8, u1_9, u1_10, u2_0, u3_0, u4_0, u5_0, u6_0, u7_0, u8_0, u9_0) = (F_NM_shape x2 x3 x4 x5 x6 t0_0 t0_1 t0_2 t1_0 t1_1 t1_2 t1_3 t1_4 t1_5 t1_6 t1_7 t1_8 t1_9 t1_10 t2_0 t3_0 t4_0 t5_0 t6_0 t7_0 t8_0 t9_0)) := by
  intro sz
  refine q_into (by decide) (Nat.le_of_ble_eq_true rfl) ?_
  intro p e s m below meth c ls hsz C0 V hl
  have hx := C0.1
  have hb := C0.2.1
  obtain ⟨btt0_1, btt0_2⟩ := n_w116 hI hT0
  replace btt0_1 : q_F (0 ≤ t0_1.toInt ∧ t0_1.toInt ≤ 4100) := btt0_1
  replace btt0_2 : q_F (0 ≤ t0_2.toInt ∧ t0_2.toInt ≤ 12200) := btt0_2
  have hZ9 := (n_w134 hI hT1).2
  obtain ⟨btt1_4, hZ9⟩ := hZ9
  obtain ⟨btt1_5, -⟩ := hZ9
  replace btt1_4 : q_F (0 ≤ t1_4.toInt ∧ t1_4.toInt ≤ 1) := btt1_4
  replace btt1_5 : q_F (0 ≤ t1_5.toInt ∧ t1_5.toInt ≤ 1) := btt1_5
  have hF : q_un ws ws [116, 134, 136, 137, 138, 139, 140, 141, 142, 143] := q_u0
  have hl : lv_has ls 6 [(0, .ref (q 116)), (1, .int x2), (2, .int x3), (3, .int x4), (4, .int x5), (5, .int x6)] := hl
  refine lv_aload_n hx hb d_14_27_0 rfl (lv_at hl 0 rfl) ?_
  refine lv_iload_n hx hb d_14_27_1 rfl (lv_at hl 1 rfl) ?_
  refine q_join (X := Int32) (fun z H locs ls _ => q_F (0 ≤ z.toInt) ∧ q_F (z.toInt ≤ 1) ∧ q_Wd D g (va_A ws sz) s ws H locs ∧ lv_has ls 6 [(0, .ref (q 116)), (1, .int x2), (2, .int x3), (3, .int x4), (4, .int x5), (5, .int x6)] ∧ F_NM_shape_J15 x2 x3 x4 x5 x6 t0_0 t0_1 t0_2 t1_0 t1_1 t1_2 t1_3 t1_4 t1_5 t1_6 t1_7 t1_8 t1_9 t1_10 t2_0 t3_0 t4_0 t5_0 t6_0 t7_0 t8_0 t9_0 z = (F_NM_shape x2 x3 x4 x5 x6 t0_0 t0_1 t0_2 t1_0 t1_1 t1_2 t1_3 t1_4 t1_5 t1_6 t1_7 t1_8 t1_9 t1_10 t2_0 t3_0 t4_0 t5_0 t6_0 t7_0 t8_0 t9_0) ∧ True ∧ S_NM_shape_J15 x2 x3 x4 x5 x6 t0_0 t0_1 t0_2 t1_0 t1_1 t1_2 t1_3 t1_4 t1_5 t1_6 t1_7 t1_8 t1_9 t1_10 t2_0 t3_0 t4_0 t5_0 t6_0 t7_0 t8_0 t9_0 z) (fun z => [.int z, .ref (q 116)]) 15 0 0 ?_ ?_
  ·
    rintro lx47 H locs ls _ hZ9
    replace hZ9 := hZ9.2.2
    obtain ⟨V, hZ9⟩ := hZ9
    obtain ⟨hl, hZ9⟩ := hZ9
    obtain ⟨hR61, hS62⟩ := hZ9
    replace hl : lv_has ls 6 [(0, .ref (q 116)), (1, .int x2), (2, .int x3), (3, .int x4), (4, .int x5), (5, .int x6)] := hl
    refine q_put (ci := 12) (j := 0) (v := .int lx47) (ty := .int) C0 V i_NM o_NM n_NM rfl rfl hT0 (by decide) w_2298 rfl rfl rfl rfl (Nat.le_of_ble_eq_true rfl) d_14_27_15 (fun H locs w66 hu67 hT0 V => ?_)
    replace hT0 : w66[116]? = (some (q 116, .inr (12, [.int lx47, .ref (q 117), .int t0_1, .ref (q 118), .int t0_2, .ref (q 119), .ref (q 134), .ref (q 145), .ref (q 153), .ref (q 157), .ref (q 167), .ref (q 168)])) : Option (Nat × va_E)) := hT0
    replace hI := n_p116 hI hu67 hT0 (by first | with_reducible exact q_fe btt0_1 | exact ⟨(by have t1 : 0 ≤ t0_1.toInt ∧ t0_1.toInt ≤ 4100 := btt0_1; omega), (by have t1 : 0 ≤ t0_1.toInt ∧ t0_1.toInt ≤ 4100 := btt0_1; omega)⟩) (by first | with_reducible exact q_fe btt0_2 | exact ⟨(by have t1 : 0 ≤ t0_2.toInt ∧ t0_2.toInt ≤ 12200 := btt0_2; omega), (by have t1 : 0 ≤ t0_2.toInt ∧ t0_2.toInt ≤ 12200 := btt0_2; omega)⟩)
    replace hT1 := (hu67 _ (by decide)).trans hT1
    replace hT2 := (hu67 _ (by decide)).trans hT2
    replace hT3 := (hu67 _ (by decide)).trans hT3
    replace hT4 := (hu67 _ (by decide)).trans hT4
    replace hT5 := (hu67 _ (by decide)).trans hT5
    replace hT6 := (hu67 _ (by decide)).trans hT6
    replace hT7 := (hu67 _ (by decide)).trans hT7
    replace hT8 := (hu67 _ (by decide)).trans hT8
    replace hT9 := (hu67 _ (by decide)).trans hT9
    replace hF := q_us hF hu67 (by simp)
    refine lv_aload_n hx hb d_14_27_18 rfl (lv_at hl 0 rfl) ?_
    refine q_get (ci := 12) (j := 0) (v := .int lx47) C0 V i_NM rfl rfl hT0 (by decide) w_2298 rfl d_14_27_19 ?_
    refine lv_if_le (tgt := 26) hx hb d_14_27_22 (by decide) (fun c68 => ?_) (fun c68 => ?_)
    ·
      refine lv_iload_n hx hb d_14_27_26 rfl (lv_at hl 1 rfl) ?_
      refine lv_if_ne (tgt := 46) hx hb d_14_27_27 (by decide) (fun c70 => ?_) (fun c70 => ?_)
      ·
        refine lv_iload_n hx hb d_14_27_46 rfl (lv_at hl 1 rfl) ?_
        refine lv_iconst (v := 1) hx hb d_14_27_47 (by decide) ?_
        refine lv_icmp_ne (tgt := 67) hx hb d_14_27_48 (by decide) (fun c72 => ?_) (fun c72 => ?_)
        ·
          refine lv_aload_n hx hb d_14_27_67 rfl (lv_at hl 0 rfl) ?_
          refine q_get (ci := 12) (j := 6) (v := .ref (q 134)) C0 V i_NM rfl rfl hT0 (by decide) w_2304 rfl d_14_27_68 ?_
          refine lv_iload_n hx hb d_14_27_71 rfl (lv_at hl 2 rfl) ?_
          refine lv_iload_n hx hb d_14_27_72 rfl (lv_at hl 3 rfl) ?_
          refine lv_iload hx hb d_14_27_73 (lv_at hl 4 rfl) ?_
          refine lv_iload hx hb d_14_27_75 (lv_at hl 5 rfl) ?_
          have ob74 : True ∧ S_DR_root x3 x4 x5 x6 t1_0 t1_1 t1_2 t1_3 t1_4 t1_5 t1_6 t1_7 t1_8 t1_9 t1_10 t2_0 t3_0 t4_0 t5_0 t6_0 t7_0 t8_0 t9_0 := (by have h := hS62; rw [S_NM_shape_J15.eq_1] at h; rw [if_pos c68] at h; rw [if_neg c70] at h; rw [if_neg c72] at h; with_reducible exact h.2.1)
          refine q_gov V (q_runV (As := [.int x3, .int x4, .int x5, .int x6]) (rest := []) (d := 5) (mc := 0) (ms := 0) (ci := 14) C0 V rfl LV_NM_225 (X_DR_root l D g q w66  x3 x4 x5 x6 hI t1_0 t1_1 t1_2 t1_3 t1_4 t1_5 t1_6 t1_7 t1_8 t1_9 t1_10 hT1 t2_0 hT2 t3_0 hT3 t4_0 hT4 t5_0 hT5 t6_0 hT6 t7_0 hT7 t8_0 hT8 t9_0 hT9 ob74 _) rfl rfl hT1 rfl hl.1 rfl (Nat.le_of_ble_eq_true rfl) ⟨by decide, by decide⟩ ⟨Nat.le_of_ble_eq_true rfl, Nat.le_of_ble_eq_true rfl⟩ d_14_27_77) (fun u75 H locs hp76 V => ?_)
          obtain ⟨hI, hZ9⟩ := hp76
          obtain ⟨hu114, hZ9⟩ := hZ9
          obtain ⟨y78, hZ9⟩ := hZ9
          obtain ⟨y79, hZ9⟩ := hZ9
          obtain ⟨y80, hZ9⟩ := hZ9
          obtain ⟨y81, hZ9⟩ := hZ9
          obtain ⟨y82, hZ9⟩ := hZ9
          obtain ⟨y83, hZ9⟩ := hZ9
          obtain ⟨y84, hZ9⟩ := hZ9
          obtain ⟨y85, hZ9⟩ := hZ9
          obtain ⟨y86, hZ9⟩ := hZ9
          obtain ⟨y87, hZ9⟩ := hZ9
          obtain ⟨y88, hZ9⟩ := hZ9
          obtain ⟨f89, hZ9⟩ := hZ9
          obtain ⟨f91, hZ9⟩ := hZ9
          obtain ⟨f93, hZ9⟩ := hZ9
          obtain ⟨f95, hZ9⟩ := hZ9
          obtain ⟨f97, hZ9⟩ := hZ9
          obtain ⟨f99, hZ9⟩ := hZ9
          obtain ⟨f101, hZ9⟩ := hZ9
          obtain ⟨f103, hZ9⟩ := hZ9
          obtain ⟨hO77, hZ9⟩ := hZ9
          obtain ⟨hA90, hZ9⟩ := hZ9
          obtain ⟨hA92, hZ9⟩ := hZ9
          obtain ⟨hA94, hZ9⟩ := hZ9
          obtain ⟨hA96, hZ9⟩ := hZ9
          obtain ⟨hA98, hZ9⟩ := hZ9
          obtain ⟨hA100, hZ9⟩ := hZ9
          obtain ⟨hA102, hZ9⟩ := hZ9
          obtain ⟨hA104, hZ9⟩ := hZ9
          obtain ⟨b105, hZ9⟩ := hZ9
          obtain ⟨b106, hZ9⟩ := hZ9
          obtain ⟨b107, hZ9⟩ := hZ9
          obtain ⟨b108, hZ9⟩ := hZ9
          obtain ⟨b109, hZ9⟩ := hZ9
          obtain ⟨b110, hZ9⟩ := hZ9
          obtain ⟨b111, hZ9⟩ := hZ9
          obtain ⟨b112, hE113⟩ := hZ9
          replace hO77 : u75[134]? = (some (q 134, .inr (14, [.int y78, .ref (q 135), .int y79, .ref (q 136), .ref (q 137), .ref (q 138), .ref (q 139), .ref (q 140), .int y80, .long y81, .int y82, .int y83, .ref (q 141), .int y84, .ref (q 142), .int y85, .ref (q 143), .int y86, .ref (q 144), .int y87, .int y88])) : Option (Nat × va_E)) := hO77
          replace hA90 : u75[136]? = (some (q 136, .inl (g 0, (10000 : Int32).toNatClampNeg, .inl f89)) : Option (Nat × va_E)) := hA90
          replace hA92 : u75[137]? = (some (q 137, .inl (g 0, (10 : Int32).toNatClampNeg, .inl f91)) : Option (Nat × va_E)) := hA92
          replace hA94 : u75[138]? = (some (q 138, .inl (g 3, 10, .inl f93)) : Option (Nat × va_E)) := hA94
          replace hA96 : u75[139]? = (some (q 139, .inl (g 0, (10 : Int32).toNatClampNeg, .inl f95)) : Option (Nat × va_E)) := hA96
          replace hA98 : u75[140]? = (some (q 140, .inl (g 0, (4400 : Int32).toNatClampNeg, .inl f97)) : Option (Nat × va_E)) := hA98
          replace hA100 : u75[141]? = (some (q 141, .inl (g 0, (4400 : Int32).toNatClampNeg, .inl f99)) : Option (Nat × va_E)) := hA100
          replace hA102 : u75[142]? = (some (q 142, .inl (g 0, (2200 : Int32).toNatClampNeg, .inl f101)) : Option (Nat × va_E)) := hA102
          replace hA104 : u75[143]? = (some (q 143, .inl (g 0, (2202 : Int32).toNatClampNeg, .inl f103)) : Option (Nat × va_E)) := hA104
          obtain ⟨p115, e116⟩ : ∃ z, z = (F_DR_root x3 x4 x5 x6 t1_0 t1_1 t1_2 t1_3 t1_4 t1_5 t1_6 t1_7 t1_8 t1_9 t1_10 t2_0 t3_0 t4_0 t5_0 t6_0 t7_0 t8_0 t9_0) := ⟨_, rfl⟩
          have e117 : y78 = p115.1 := congrArg (fun z => z.1) (hE113.trans e116.symm)
          have e118 : y79 = p115.2.1 := congrArg (fun z => z.2.1) (hE113.trans e116.symm)
          have e119 : y80 = p115.2.2.1 := congrArg (fun z => z.2.2.1) (hE113.trans e116.symm)
          have e120 : y81 = p115.2.2.2.1 := congrArg (fun z => z.2.2.2.1) (hE113.trans e116.symm)
          have e121 : y82 = p115.2.2.2.2.1 := congrArg (fun z => z.2.2.2.2.1) (hE113.trans e116.symm)
          have e122 : y83 = p115.2.2.2.2.2.1 := congrArg (fun z => z.2.2.2.2.2.1) (hE113.trans e116.symm)
          have e123 : y84 = p115.2.2.2.2.2.2.1 := congrArg (fun z => z.2.2.2.2.2.2.1) (hE113.trans e116.symm)
          have e124 : y85 = p115.2.2.2.2.2.2.2.1 := congrArg (fun z => z.2.2.2.2.2.2.2.1) (hE113.trans e116.symm)
          have e125 : y86 = p115.2.2.2.2.2.2.2.2.1 := congrArg (fun z => z.2.2.2.2.2.2.2.2.1) (hE113.trans e116.symm)
          have e126 : y87 = p115.2.2.2.2.2.2.2.2.2.1 := congrArg (fun z => z.2.2.2.2.2.2.2.2.2.1) (hE113.trans e116.symm)
          have e127 : y88 = p115.2.2.2.2.2.2.2.2.2.2.1 := congrArg (fun z => z.2.2.2.2.2.2.2.2.2.2.1) (hE113.trans e116.symm)
          have e128 : f89 = p115.2.2.2.2.2.2.2.2.2.2.2.1 := congrArg (fun z => z.2.2.2.2.2.2.2.2.2.2.2.1) (hE113.trans e116.symm)
          have e129 : f91 = p115.2.2.2.2.2.2.2.2.2.2.2.2.1 := congrArg (fun z => z.2.2.2.2.2.2.2.2.2.2.2.2.1) (hE113.trans e116.symm)
          have e130 : f93 = p115.2.2.2.2.2.2.2.2.2.2.2.2.2.1 := congrArg (fun z => z.2.2.2.2.2.2.2.2.2.2.2.2.2.1) (hE113.trans e116.symm)
          have e131 : f95 = p115.2.2.2.2.2.2.2.2.2.2.2.2.2.2.1 := congrArg (fun z => z.2.2.2.2.2.2.2.2.2.2.2.2.2.2.1) (hE113.trans e116.symm)
          have e132 : f97 = p115.2.2.2.2.2.2.2.2.2.2.2.2.2.2.2.1 := congrArg (fun z => z.2.2.2.2.2.2.2.2.2.2.2.2.2.2.2.1) (hE113.trans e116.symm)
          have e133 : f99 = p115.2.2.2.2.2.2.2.2.2.2.2.2.2.2.2.2.1 := congrArg (fun z => z.2.2.2.2.2.2.2.2.2.2.2.2.2.2.2.2.1) (hE113.trans e116.symm)
          have e134 : f101 = p115.2.2.2.2.2.2.2.2.2.2.2.2.2.2.2.2.2.1 := congrArg (fun z => z.2.2.2.2.2.2.2.2.2.2.2.2.2.2.2.2.2.1) (hE113.trans e116.symm)
          have e135 : f103 = p115.2.2.2.2.2.2.2.2.2.2.2.2.2.2.2.2.2.2 := congrArg (fun z => z.2.2.2.2.2.2.2.2.2.2.2.2.2.2.2.2.2.2) (hE113.trans e116.symm)
          replace b105 : q_F (0 ≤ y82.toInt) := b105
          replace b106 : q_F (y82.toInt ≤ 1) := b106
          replace b107 : q_F (0 ≤ y83.toInt) := b107
          replace b108 : q_F (y83.toInt ≤ 1) := b108
          replace b109 : q_F (t1_1.toInt ≤ y79.toInt) := b109
          replace b110 : q_F (y79.toInt ≤ t1_1.toInt) := b110
          replace b111 : q_F (t1_9.toInt ≤ y87.toInt) := b111
          replace b112 : q_F (y87.toInt ≤ t1_9.toInt) := b112
          replace hT0 := (hu114 _ (by decide)).trans hT0
          replace hF := q_uc hF hu114 (by simp)
          have hR136 := (show F_NM_shape_c77 x2 x3 x4 x5 x6 t0_0 t0_1 t0_2 t1_0 t1_1 t1_2 t1_3 t1_4 t1_5 t1_6 t1_7 t1_8 t1_9 t1_10 t2_0 t3_0 t4_0 t5_0 t6_0 t7_0 t8_0 t9_0 lx47 p115 = (F_NM_shape x2 x3 x4 x5 x6 t0_0 t0_1 t0_2 t1_0 t1_1 t1_2 t1_3 t1_4 t1_5 t1_6 t1_7 t1_8 t1_9 t1_10 t2_0 t3_0 t4_0 t5_0 t6_0 t7_0 t8_0 t9_0) from Eq.trans (by rw [e116, F_NM_shape_J15.eq_1, if_pos c68, if_neg c70, if_neg c72]) hR61)
          have hS137 := (show True ∧ S_NM_shape_c77 x2 x3 x4 x5 x6 t0_0 t0_1 t0_2 t1_0 t1_1 t1_2 t1_3 t1_4 t1_5 t1_6 t1_7 t1_8 t1_9 t1_10 t2_0 t3_0 t4_0 t5_0 t6_0 t7_0 t8_0 t9_0 lx47 p115 from (by rw [e116]; have h := hS62; rw [S_NM_shape_J15.eq_1] at h; rw [if_pos c68] at h; rw [if_neg c70] at h; rw [if_neg c72] at h; replace h := q_s2 h; with_reducible exact h))
          refine lv_aload_n hx hb d_14_27_80 rfl (lv_at hl 0 rfl) ?_
          refine lv_aload_n hx hb d_14_27_81 rfl (lv_at hl 0 rfl) ?_
          refine q_get (ci := 12) (j := 6) (v := .ref (q 134)) C0 V i_NM rfl rfl hT0 (by decide) w_2304 rfl d_14_27_82 ?_
          refine q_getN (ci := 14) (j := 0) (v := .int y78) C0 V i_DR rfl rfl hO77 (by decide) wo_1997 rfl d_14_27_85 ?_
          refine q_put (ci := 12) (j := 0) (v := .int y78) (ty := .int) C0 V i_NM o_NM n_NM rfl rfl hT0 (by decide) w_2298 rfl rfl rfl rfl (Nat.le_of_ble_eq_true rfl) d_14_27_88 (fun H locs w141 hu142 hT0 V => ?_)
          replace hT0 : w141[116]? = (some (q 116, .inr (12, [.int y78, .ref (q 117), .int t0_1, .ref (q 118), .int t0_2, .ref (q 119), .ref (q 134), .ref (q 145), .ref (q 153), .ref (q 157), .ref (q 167), .ref (q 168)])) : Option (Nat × va_E)) := hT0
          replace hI := n_p116 hI hu142 hT0 (by first | with_reducible exact q_fe btt0_1 | exact ⟨(by have t1 : 0 ≤ t0_1.toInt ∧ t0_1.toInt ≤ 4100 := btt0_1; omega), (by have t1 : 0 ≤ t0_1.toInt ∧ t0_1.toInt ≤ 4100 := btt0_1; omega)⟩) (by first | with_reducible exact q_fe btt0_2 | exact ⟨(by have t1 : 0 ≤ t0_2.toInt ∧ t0_2.toInt ≤ 12200 := btt0_2; omega), (by have t1 : 0 ≤ t0_2.toInt ∧ t0_2.toInt ≤ 12200 := btt0_2; omega)⟩)
          replace hO77 := (hu142 _ (by decide)).trans hO77
          replace hA90 := (hu142 _ (by decide)).trans hA90
          replace hA92 := (hu142 _ (by decide)).trans hA92
          replace hA94 := (hu142 _ (by decide)).trans hA94
          replace hA96 := (hu142 _ (by decide)).trans hA96
          replace hA98 := (hu142 _ (by decide)).trans hA98
          replace hA100 := (hu142 _ (by decide)).trans hA100
          replace hA102 := (hu142 _ (by decide)).trans hA102
          replace hA104 := (hu142 _ (by decide)).trans hA104
          replace hF := q_us hF hu142 (by simp)
          exact q_retv C0 V (⟨hI, hF, y78, y78, y79, y80, y81, y82, y83, y84, y85, y86, y87, y88, f89, f91, f93, f95, f97, f99, f101, f103, hT0, hO77, hA90, hA92, hA94, hA96, hA98, hA100, hA102, hA104, (show 0 ≤ y82.toInt + 1 from (by first | with_reducible exact q_fe b105 | (have t1 : 0 ≤ y82.toInt := b105; omega))), (show y82.toInt ≤ 1 from (by first | with_reducible exact q_fe b106 | (have t1 : y82.toInt ≤ 1 := b106; omega))), (show 0 ≤ y83.toInt from (by first | with_reducible exact q_fe b107 | (have t1 : 0 ≤ y83.toInt := b107; omega))), (show y83.toInt ≤ 1 from (by first | with_reducible exact q_fe b108 | (have t1 : y83.toInt ≤ 1 := b108; omega))), (show t1_1.toInt ≤ y79.toInt from (by first | with_reducible exact q_fe b109 | (have t1 : t1_1.toInt ≤ y79.toInt := b109; omega))), (show y79.toInt ≤ t1_1.toInt from (by first | with_reducible exact q_fe b110 | (have t1 : y79.toInt ≤ t1_1.toInt := b110; omega))), (show t1_9.toInt ≤ y87.toInt from (by first | with_reducible exact q_fe b111 | (have t1 : t1_9.toInt ≤ y87.toInt := b111; omega))), (show y87.toInt ≤ t1_9.toInt from (by first | with_reducible exact q_fe b112 | (have t1 : y87.toInt ≤ t1_9.toInt := b112; omega))), (show (y78, y78, y79, y80, y81, y82, y83, y84, y85, y86, y87, y88, f89, f91, f93, f95, f97, f99, f101, f103) = (F_NM_shape x2 x3 x4 x5 x6 t0_0 t0_1 t0_2 t1_0 t1_1 t1_2 t1_3 t1_4 t1_5 t1_6 t1_7 t1_8 t1_9 t1_10 t2_0 t3_0 t4_0 t5_0 t6_0 t7_0 t8_0 t9_0) from Eq.trans (by rw [e135, e134, e133, e132, e131, e130, e129, e128, e127, e126, e125, e124, e123, e122, e121, e120, e119, e118, e117, F_NM_shape_c77.eq_1]) hR136)⟩) d_14_27_91
        ·
          refine lv_aload_n hx hb d_14_27_51 rfl (lv_at hl 0 rfl) ?_
          refine q_get (ci := 12) (j := 6) (v := .ref (q 134)) C0 V i_NM rfl rfl hT0 (by decide) w_2304 rfl d_14_27_52 ?_
          refine lv_iload_n hx hb d_14_27_55 rfl (lv_at hl 2 rfl) ?_
          refine lv_iload_n hx hb d_14_27_56 rfl (lv_at hl 3 rfl) ?_
          refine lv_iload hx hb d_14_27_57 (lv_at hl 4 rfl) ?_
          refine lv_iload hx hb d_14_27_59 (lv_at hl 5 rfl) ?_
          have ob144 : True ∧ S_DR_round x3 x4 x5 x6 t1_0 t1_1 t1_2 t1_3 t1_4 t1_5 t1_6 t1_7 t1_8 t1_9 t1_10 t2_0 t3_0 t4_0 t5_0 t6_0 := (by have h := hS62; rw [S_NM_shape_J15.eq_1] at h; rw [if_pos c68] at h; rw [if_neg c70] at h; rw [if_pos c72] at h; with_reducible exact h.2.1)
          refine q_gov V (q_runV (As := [.int x3, .int x4, .int x5, .int x6]) (rest := []) (d := 5) (mc := 0) (ms := 0) (ci := 14) C0 V rfl LV_NM_222 (X_DR_round l D g q w66  x3 x4 x5 x6 hI t1_0 t1_1 t1_2 t1_3 t1_4 t1_5 t1_6 t1_7 t1_8 t1_9 t1_10 hT1 t2_0 hT2 t3_0 hT3 t4_0 hT4 t5_0 hT5 t6_0 hT6 ob144 _) rfl rfl hT1 rfl hl.1 rfl (Nat.le_of_ble_eq_true rfl) ⟨by decide, by decide⟩ ⟨Nat.le_of_ble_eq_true rfl, Nat.le_of_ble_eq_true rfl⟩ d_14_27_61) (fun u145 H locs hp146 V => ?_)
          obtain ⟨hI, hZ9⟩ := hp146
          obtain ⟨hu184, hZ9⟩ := hZ9
          obtain ⟨y148, hZ9⟩ := hZ9
          obtain ⟨y149, hZ9⟩ := hZ9
          obtain ⟨y150, hZ9⟩ := hZ9
          obtain ⟨y151, hZ9⟩ := hZ9
          obtain ⟨y152, hZ9⟩ := hZ9
          obtain ⟨y153, hZ9⟩ := hZ9
          obtain ⟨y154, hZ9⟩ := hZ9
          obtain ⟨y155, hZ9⟩ := hZ9
          obtain ⟨y156, hZ9⟩ := hZ9
          obtain ⟨y157, hZ9⟩ := hZ9
          obtain ⟨y158, hZ9⟩ := hZ9
          obtain ⟨f159, hZ9⟩ := hZ9
          obtain ⟨f161, hZ9⟩ := hZ9
          obtain ⟨f163, hZ9⟩ := hZ9
          obtain ⟨f165, hZ9⟩ := hZ9
          obtain ⟨f167, hZ9⟩ := hZ9
          obtain ⟨hO147, hZ9⟩ := hZ9
          obtain ⟨hA160, hZ9⟩ := hZ9
          obtain ⟨hA162, hZ9⟩ := hZ9
          obtain ⟨hA164, hZ9⟩ := hZ9
          obtain ⟨hA166, hZ9⟩ := hZ9
          obtain ⟨hA168, hZ9⟩ := hZ9
          obtain ⟨b169, hZ9⟩ := hZ9
          obtain ⟨b170, hZ9⟩ := hZ9
          obtain ⟨b171, hZ9⟩ := hZ9
          obtain ⟨b172, hZ9⟩ := hZ9
          obtain ⟨b173, hZ9⟩ := hZ9
          obtain ⟨b174, hZ9⟩ := hZ9
          replace hZ9 := hZ9.2.2.2.2.2.2
          obtain ⟨b181, hZ9⟩ := hZ9
          obtain ⟨b182, hE183⟩ := hZ9
          replace hO147 : u145[134]? = (some (q 134, .inr (14, [.int y148, .ref (q 135), .int y149, .ref (q 136), .ref (q 137), .ref (q 138), .ref (q 139), .ref (q 140), .int y150, .long y151, .int y152, .int y153, .ref (q 141), .int y154, .ref (q 142), .int y155, .ref (q 143), .int y156, .ref (q 144), .int y157, .int y158])) : Option (Nat × va_E)) := hO147
          replace hA160 : u145[136]? = (some (q 136, .inl (g 0, (10000 : Int32).toNatClampNeg, .inl f159)) : Option (Nat × va_E)) := hA160
          replace hA162 : u145[137]? = (some (q 137, .inl (g 0, (10 : Int32).toNatClampNeg, .inl f161)) : Option (Nat × va_E)) := hA162
          replace hA164 : u145[138]? = (some (q 138, .inl (g 3, 10, .inl f163)) : Option (Nat × va_E)) := hA164
          replace hA166 : u145[139]? = (some (q 139, .inl (g 0, (10 : Int32).toNatClampNeg, .inl f165)) : Option (Nat × va_E)) := hA166
          replace hA168 : u145[140]? = (some (q 140, .inl (g 0, (4400 : Int32).toNatClampNeg, .inl f167)) : Option (Nat × va_E)) := hA168
          obtain ⟨p185, e186⟩ : ∃ z, z = (F_DR_round x3 x4 x5 x6 t1_0 t1_1 t1_2 t1_3 t1_4 t1_5 t1_6 t1_7 t1_8 t1_9 t1_10 t2_0 t3_0 t4_0 t5_0 t6_0) := ⟨_, rfl⟩
          have e187 : y148 = p185.1 := congrArg (fun z => z.1) (hE183.trans e186.symm)
          have e188 : y149 = p185.2.1 := congrArg (fun z => z.2.1) (hE183.trans e186.symm)
          have e189 : y150 = p185.2.2.1 := congrArg (fun z => z.2.2.1) (hE183.trans e186.symm)
          have e190 : y151 = p185.2.2.2.1 := congrArg (fun z => z.2.2.2.1) (hE183.trans e186.symm)
          have e191 : y152 = p185.2.2.2.2.1 := congrArg (fun z => z.2.2.2.2.1) (hE183.trans e186.symm)
          have e192 : y153 = p185.2.2.2.2.2.1 := congrArg (fun z => z.2.2.2.2.2.1) (hE183.trans e186.symm)
          have e193 : y154 = p185.2.2.2.2.2.2.1 := congrArg (fun z => z.2.2.2.2.2.2.1) (hE183.trans e186.symm)
          have e194 : y155 = p185.2.2.2.2.2.2.2.1 := congrArg (fun z => z.2.2.2.2.2.2.2.1) (hE183.trans e186.symm)
          have e195 : y156 = p185.2.2.2.2.2.2.2.2.1 := congrArg (fun z => z.2.2.2.2.2.2.2.2.1) (hE183.trans e186.symm)
          have e196 : y157 = p185.2.2.2.2.2.2.2.2.2.1 := congrArg (fun z => z.2.2.2.2.2.2.2.2.2.1) (hE183.trans e186.symm)
          have e197 : y158 = p185.2.2.2.2.2.2.2.2.2.2.1 := congrArg (fun z => z.2.2.2.2.2.2.2.2.2.2.1) (hE183.trans e186.symm)
          have e198 : f159 = p185.2.2.2.2.2.2.2.2.2.2.2.1 := congrArg (fun z => z.2.2.2.2.2.2.2.2.2.2.2.1) (hE183.trans e186.symm)
          have e199 : f161 = p185.2.2.2.2.2.2.2.2.2.2.2.2.1 := congrArg (fun z => z.2.2.2.2.2.2.2.2.2.2.2.2.1) (hE183.trans e186.symm)
          have e200 : f163 = p185.2.2.2.2.2.2.2.2.2.2.2.2.2.1 := congrArg (fun z => z.2.2.2.2.2.2.2.2.2.2.2.2.2.1) (hE183.trans e186.symm)
          have e201 : f165 = p185.2.2.2.2.2.2.2.2.2.2.2.2.2.2.1 := congrArg (fun z => z.2.2.2.2.2.2.2.2.2.2.2.2.2.2.1) (hE183.trans e186.symm)
          have e202 : f167 = p185.2.2.2.2.2.2.2.2.2.2.2.2.2.2.2 := congrArg (fun z => z.2.2.2.2.2.2.2.2.2.2.2.2.2.2.2) (hE183.trans e186.symm)
          replace b169 : q_F (0 ≤ y152.toInt) := b169
          replace b170 : q_F (0 ≤ y153.toInt) := b170
          replace b171 : q_F (y153.toInt ≤ 1) := b171
          replace b172 : q_F (t1_1.toInt ≤ y149.toInt) := b172
          replace b173 : q_F (y149.toInt ≤ t1_1.toInt) := b173
          replace b174 : q_F (y152.toInt ≤ t1_4.toInt) := b174
          replace b181 : q_F (t1_9.toInt ≤ y157.toInt) := b181
          replace b182 : q_F (y157.toInt ≤ t1_9.toInt) := b182
          replace hT0 := (hu184 _ (by decide)).trans hT0
          replace hT7 := (hu184 _ (by decide)).trans hT7
          replace hT8 := (hu184 _ (by decide)).trans hT8
          replace hT9 := (hu184 _ (by decide)).trans hT9
          replace hF := q_uc hF hu184 (by simp)
          have hR203 := (show F_NM_shape_c61 x2 x3 x4 x5 x6 t0_0 t0_1 t0_2 t1_0 t1_1 t1_2 t1_3 t1_4 t1_5 t1_6 t1_7 t1_8 t1_9 t1_10 t2_0 t3_0 t4_0 t5_0 t6_0 t7_0 t8_0 t9_0 lx47 p185 = (F_NM_shape x2 x3 x4 x5 x6 t0_0 t0_1 t0_2 t1_0 t1_1 t1_2 t1_3 t1_4 t1_5 t1_6 t1_7 t1_8 t1_9 t1_10 t2_0 t3_0 t4_0 t5_0 t6_0 t7_0 t8_0 t9_0) from Eq.trans (by rw [e186, F_NM_shape_J15.eq_1, if_pos c68, if_neg c70, if_pos c72]) hR61)
          have hS204 := (show True ∧ S_NM_shape_c61 x2 x3 x4 x5 x6 t0_0 t0_1 t0_2 t1_0 t1_1 t1_2 t1_3 t1_4 t1_5 t1_6 t1_7 t1_8 t1_9 t1_10 t2_0 t3_0 t4_0 t5_0 t6_0 t7_0 t8_0 t9_0 lx47 p185 from (by rw [e186]; have h := hS62; rw [S_NM_shape_J15.eq_1] at h; rw [if_pos c68] at h; rw [if_neg c70] at h; rw [if_pos c72] at h; replace h := q_s2 h; with_reducible exact h))
          refine lv_goto (tgt := 80) hx hb d_14_27_64 (by decide) ?_
          refine lv_aload_n hx hb d_14_27_80 rfl (lv_at hl 0 rfl) ?_
          refine lv_aload_n hx hb d_14_27_81 rfl (lv_at hl 0 rfl) ?_
          refine q_get (ci := 12) (j := 6) (v := .ref (q 134)) C0 V i_NM rfl rfl hT0 (by decide) w_2304 rfl d_14_27_82 ?_
          refine q_getN (ci := 14) (j := 0) (v := .int y148) C0 V i_DR rfl rfl hO147 (by decide) wo_1997 rfl d_14_27_85 ?_
          refine q_put (ci := 12) (j := 0) (v := .int y148) (ty := .int) C0 V i_NM o_NM n_NM rfl rfl hT0 (by decide) w_2298 rfl rfl rfl rfl (Nat.le_of_ble_eq_true rfl) d_14_27_88 (fun H locs w208 hu209 hT0 V => ?_)
          replace hT0 : w208[116]? = (some (q 116, .inr (12, [.int y148, .ref (q 117), .int t0_1, .ref (q 118), .int t0_2, .ref (q 119), .ref (q 134), .ref (q 145), .ref (q 153), .ref (q 157), .ref (q 167), .ref (q 168)])) : Option (Nat × va_E)) := hT0
          replace hI := n_p116 hI hu209 hT0 (by first | with_reducible exact q_fe btt0_1 | exact ⟨(by have t1 : 0 ≤ t0_1.toInt ∧ t0_1.toInt ≤ 4100 := btt0_1; omega), (by have t1 : 0 ≤ t0_1.toInt ∧ t0_1.toInt ≤ 4100 := btt0_1; omega)⟩) (by first | with_reducible exact q_fe btt0_2 | exact ⟨(by have t1 : 0 ≤ t0_2.toInt ∧ t0_2.toInt ≤ 12200 := btt0_2; omega), (by have t1 : 0 ≤ t0_2.toInt ∧ t0_2.toInt ≤ 12200 := btt0_2; omega)⟩)
          replace hO147 := (hu209 _ (by decide)).trans hO147
          replace hA160 := (hu209 _ (by decide)).trans hA160
          replace hA162 := (hu209 _ (by decide)).trans hA162
          replace hA164 := (hu209 _ (by decide)).trans hA164
          replace hA166 := (hu209 _ (by decide)).trans hA166
          replace hA168 := (hu209 _ (by decide)).trans hA168
          replace hT7 := (hu209 _ (by decide)).trans hT7
          replace hT8 := (hu209 _ (by decide)).trans hT8
          replace hT9 := (hu209 _ (by decide)).trans hT9
          replace hF := q_us hF hu209 (by simp)
          exact q_retv C0 V (⟨hI, hF, y148, y148, y149, y150, y151, y152, y153, y154, y155, y156, y157, y158, f159, f161, f163, f165, f167, t7_0, t8_0, t9_0, hT0, hO147, hA160, hA162, hA164, hA166, hA168, hT7, hT8, hT9, (show 0 ≤ y152.toInt + 1 from (by first | with_reducible exact q_fe b169 | (have t1 : 0 ≤ y152.toInt := b169; omega))), (show y152.toInt ≤ 1 from (by have t1 : 0 ≤ t1_4.toInt ∧ t1_4.toInt ≤ 1 := btt1_4; have t2 : y152.toInt ≤ t1_4.toInt := b174; omega)), (show 0 ≤ y153.toInt from (by first | with_reducible exact q_fe b170 | (have t1 : 0 ≤ y153.toInt := b170; omega))), (show y153.toInt ≤ 1 from (by first | with_reducible exact q_fe b171 | (have t1 : y153.toInt ≤ 1 := b171; omega))), (show t1_1.toInt ≤ y149.toInt from (by first | with_reducible exact q_fe b172 | (have t1 : t1_1.toInt ≤ y149.toInt := b172; omega))), (show y149.toInt ≤ t1_1.toInt from (by first | with_reducible exact q_fe b173 | (have t1 : y149.toInt ≤ t1_1.toInt := b173; omega))), (show t1_9.toInt ≤ y157.toInt from (by first | with_reducible exact q_fe b181 | (have t1 : t1_9.toInt ≤ y157.toInt := b181; omega))), (show y157.toInt ≤ t1_9.toInt from (by first | with_reducible exact q_fe b182 | (have t1 : y157.toInt ≤ t1_9.toInt := b182; omega))), (show (y148, y148, y149, y150, y151, y152, y153, y154, y155, y156, y157, y158, f159, f161, f163, f165, f167, t7_0, t8_0, t9_0) = (F_NM_shape x2 x3 x4 x5 x6 t0_0 t0_1 t0_2 t1_0 t1_1 t1_2 t1_3 t1_4 t1_5 t1_6 t1_7 t1_8 t1_9 t1_10 t2_0 t3_0 t4_0 t5_0 t6_0 t7_0 t8_0 t9_0) from Eq.trans (by rw [e202, e201, e200, e199, e198, e197, e196, e195, e194, e193, e192, e191, e190, e189, e188, e187, F_NM_shape_c61.eq_1]) hR203)⟩) d_14_27_91
      ·
        refine lv_aload_n hx hb d_14_27_30 rfl (lv_at hl 0 rfl) ?_
        refine q_get (ci := 12) (j := 6) (v := .ref (q 134)) C0 V i_NM rfl rfl hT0 (by decide) w_2304 rfl d_14_27_31 ?_
        refine lv_iload_n hx hb d_14_27_34 rfl (lv_at hl 2 rfl) ?_
        refine lv_iload_n hx hb d_14_27_35 rfl (lv_at hl 3 rfl) ?_
        refine lv_iload hx hb d_14_27_36 (lv_at hl 4 rfl) ?_
        refine lv_iload hx hb d_14_27_38 (lv_at hl 5 rfl) ?_
        have ob211 : True ∧ S_DR_toScale x3 x4 x5 x6 t1_0 t1_1 t1_2 t1_3 t1_4 t1_5 t1_6 t1_7 t1_8 t1_9 t1_10 t2_0 t3_0 t4_0 t5_0 t6_0 := (by have h := hS62; rw [S_NM_shape_J15.eq_1] at h; rw [if_pos c68] at h; rw [if_pos c70] at h; with_reducible exact h.2.1)
        refine q_gov V (q_runV (As := [.int x3, .int x4, .int x5, .int x6]) (rest := []) (d := 5) (mc := 0) (ms := 0) (ci := 14) C0 V rfl LV_NM_219 (X_DR_toScale l D g q w66  x3 x4 x5 x6 hI t1_0 t1_1 t1_2 t1_3 t1_4 t1_5 t1_6 t1_7 t1_8 t1_9 t1_10 hT1 t2_0 hT2 t3_0 hT3 t4_0 hT4 t5_0 hT5 t6_0 hT6 ob211 _) rfl rfl hT1 rfl hl.1 rfl (Nat.le_of_ble_eq_true rfl) ⟨by decide, by decide⟩ ⟨Nat.le_of_ble_eq_true rfl, Nat.le_of_ble_eq_true rfl⟩ d_14_27_40) (fun u212 H locs hp213 V => ?_)
        obtain ⟨hI, hZ9⟩ := hp213
        obtain ⟨hu251, hZ9⟩ := hZ9
        obtain ⟨y215, hZ9⟩ := hZ9
        obtain ⟨y216, hZ9⟩ := hZ9
        obtain ⟨y217, hZ9⟩ := hZ9
        obtain ⟨y218, hZ9⟩ := hZ9
        obtain ⟨y219, hZ9⟩ := hZ9
        obtain ⟨y220, hZ9⟩ := hZ9
        obtain ⟨y221, hZ9⟩ := hZ9
        obtain ⟨y222, hZ9⟩ := hZ9
        obtain ⟨y223, hZ9⟩ := hZ9
        obtain ⟨y224, hZ9⟩ := hZ9
        obtain ⟨y225, hZ9⟩ := hZ9
        obtain ⟨f226, hZ9⟩ := hZ9
        obtain ⟨f228, hZ9⟩ := hZ9
        obtain ⟨f230, hZ9⟩ := hZ9
        obtain ⟨f232, hZ9⟩ := hZ9
        obtain ⟨f234, hZ9⟩ := hZ9
        obtain ⟨hO214, hZ9⟩ := hZ9
        obtain ⟨hA227, hZ9⟩ := hZ9
        obtain ⟨hA229, hZ9⟩ := hZ9
        obtain ⟨hA231, hZ9⟩ := hZ9
        obtain ⟨hA233, hZ9⟩ := hZ9
        obtain ⟨hA235, hZ9⟩ := hZ9
        obtain ⟨b236, hZ9⟩ := hZ9
        obtain ⟨b237, hZ9⟩ := hZ9
        obtain ⟨b238, hZ9⟩ := hZ9
        obtain ⟨b239, hZ9⟩ := hZ9
        obtain ⟨b240, hZ9⟩ := hZ9
        obtain ⟨b241, hZ9⟩ := hZ9
        replace hZ9 := hZ9.2.2.2.2.2.2
        obtain ⟨b248, hZ9⟩ := hZ9
        obtain ⟨b249, hE250⟩ := hZ9
        replace hO214 : u212[134]? = (some (q 134, .inr (14, [.int y215, .ref (q 135), .int y216, .ref (q 136), .ref (q 137), .ref (q 138), .ref (q 139), .ref (q 140), .int y217, .long y218, .int y219, .int y220, .ref (q 141), .int y221, .ref (q 142), .int y222, .ref (q 143), .int y223, .ref (q 144), .int y224, .int y225])) : Option (Nat × va_E)) := hO214
        replace hA227 : u212[136]? = (some (q 136, .inl (g 0, (10000 : Int32).toNatClampNeg, .inl f226)) : Option (Nat × va_E)) := hA227
        replace hA229 : u212[137]? = (some (q 137, .inl (g 0, (10 : Int32).toNatClampNeg, .inl f228)) : Option (Nat × va_E)) := hA229
        replace hA231 : u212[138]? = (some (q 138, .inl (g 3, 10, .inl f230)) : Option (Nat × va_E)) := hA231
        replace hA233 : u212[139]? = (some (q 139, .inl (g 0, (10 : Int32).toNatClampNeg, .inl f232)) : Option (Nat × va_E)) := hA233
        replace hA235 : u212[140]? = (some (q 140, .inl (g 0, (4400 : Int32).toNatClampNeg, .inl f234)) : Option (Nat × va_E)) := hA235
        obtain ⟨p252, e253⟩ : ∃ z, z = (F_DR_toScale x3 x4 x5 x6 t1_0 t1_1 t1_2 t1_3 t1_4 t1_5 t1_6 t1_7 t1_8 t1_9 t1_10 t2_0 t3_0 t4_0 t5_0 t6_0) := ⟨_, rfl⟩
        have e254 : y215 = p252.1 := congrArg (fun z => z.1) (hE250.trans e253.symm)
        have e255 : y216 = p252.2.1 := congrArg (fun z => z.2.1) (hE250.trans e253.symm)
        have e256 : y217 = p252.2.2.1 := congrArg (fun z => z.2.2.1) (hE250.trans e253.symm)
        have e257 : y218 = p252.2.2.2.1 := congrArg (fun z => z.2.2.2.1) (hE250.trans e253.symm)
        have e258 : y219 = p252.2.2.2.2.1 := congrArg (fun z => z.2.2.2.2.1) (hE250.trans e253.symm)
        have e259 : y220 = p252.2.2.2.2.2.1 := congrArg (fun z => z.2.2.2.2.2.1) (hE250.trans e253.symm)
        have e260 : y221 = p252.2.2.2.2.2.2.1 := congrArg (fun z => z.2.2.2.2.2.2.1) (hE250.trans e253.symm)
        have e261 : y222 = p252.2.2.2.2.2.2.2.1 := congrArg (fun z => z.2.2.2.2.2.2.2.1) (hE250.trans e253.symm)
        have e262 : y223 = p252.2.2.2.2.2.2.2.2.1 := congrArg (fun z => z.2.2.2.2.2.2.2.2.1) (hE250.trans e253.symm)
        have e263 : y224 = p252.2.2.2.2.2.2.2.2.2.1 := congrArg (fun z => z.2.2.2.2.2.2.2.2.2.1) (hE250.trans e253.symm)
        have e264 : y225 = p252.2.2.2.2.2.2.2.2.2.2.1 := congrArg (fun z => z.2.2.2.2.2.2.2.2.2.2.1) (hE250.trans e253.symm)
        have e265 : f226 = p252.2.2.2.2.2.2.2.2.2.2.2.1 := congrArg (fun z => z.2.2.2.2.2.2.2.2.2.2.2.1) (hE250.trans e253.symm)
        have e266 : f228 = p252.2.2.2.2.2.2.2.2.2.2.2.2.1 := congrArg (fun z => z.2.2.2.2.2.2.2.2.2.2.2.2.1) (hE250.trans e253.symm)
        have e267 : f230 = p252.2.2.2.2.2.2.2.2.2.2.2.2.2.1 := congrArg (fun z => z.2.2.2.2.2.2.2.2.2.2.2.2.2.1) (hE250.trans e253.symm)
        have e268 : f232 = p252.2.2.2.2.2.2.2.2.2.2.2.2.2.2.1 := congrArg (fun z => z.2.2.2.2.2.2.2.2.2.2.2.2.2.2.1) (hE250.trans e253.symm)
        have e269 : f234 = p252.2.2.2.2.2.2.2.2.2.2.2.2.2.2.2 := congrArg (fun z => z.2.2.2.2.2.2.2.2.2.2.2.2.2.2.2) (hE250.trans e253.symm)
        replace b236 : q_F (0 ≤ y219.toInt + 1) := b236
        replace b237 : q_F (0 ≤ y220.toInt) := b237
        replace b238 : q_F (y220.toInt ≤ 1) := b238
        replace b239 : q_F (t1_1.toInt ≤ y216.toInt) := b239
        replace b240 : q_F (y216.toInt ≤ t1_1.toInt) := b240
        replace b241 : q_F (y219.toInt ≤ t1_4.toInt) := b241
        replace b248 : q_F (t1_9.toInt ≤ y224.toInt) := b248
        replace b249 : q_F (y224.toInt ≤ t1_9.toInt) := b249
        replace hT0 := (hu251 _ (by decide)).trans hT0
        replace hT7 := (hu251 _ (by decide)).trans hT7
        replace hT8 := (hu251 _ (by decide)).trans hT8
        replace hT9 := (hu251 _ (by decide)).trans hT9
        replace hF := q_uc hF hu251 (by simp)
        have hR270 := (show F_NM_shape_c40 x2 x3 x4 x5 x6 t0_0 t0_1 t0_2 t1_0 t1_1 t1_2 t1_3 t1_4 t1_5 t1_6 t1_7 t1_8 t1_9 t1_10 t2_0 t3_0 t4_0 t5_0 t6_0 t7_0 t8_0 t9_0 lx47 p252 = (F_NM_shape x2 x3 x4 x5 x6 t0_0 t0_1 t0_2 t1_0 t1_1 t1_2 t1_3 t1_4 t1_5 t1_6 t1_7 t1_8 t1_9 t1_10 t2_0 t3_0 t4_0 t5_0 t6_0 t7_0 t8_0 t9_0) from Eq.trans (by rw [e253, F_NM_shape_J15.eq_1, if_pos c68, if_pos c70]) hR61)
        have hS271 := (show True ∧ S_NM_shape_c40 x2 x3 x4 x5 x6 t0_0 t0_1 t0_2 t1_0 t1_1 t1_2 t1_3 t1_4 t1_5 t1_6 t1_7 t1_8 t1_9 t1_10 t2_0 t3_0 t4_0 t5_0 t6_0 t7_0 t8_0 t9_0 lx47 p252 from (by rw [e253]; have h := hS62; rw [S_NM_shape_J15.eq_1] at h; rw [if_pos c68] at h; rw [if_pos c70] at h; replace h := q_s2 h; with_reducible exact h))
        refine lv_goto (tgt := 80) hx hb d_14_27_43 (by decide) ?_
        refine lv_aload_n hx hb d_14_27_80 rfl (lv_at hl 0 rfl) ?_
        refine lv_aload_n hx hb d_14_27_81 rfl (lv_at hl 0 rfl) ?_
        refine q_get (ci := 12) (j := 6) (v := .ref (q 134)) C0 V i_NM rfl rfl hT0 (by decide) w_2304 rfl d_14_27_82 ?_
        refine q_getN (ci := 14) (j := 0) (v := .int y215) C0 V i_DR rfl rfl hO214 (by decide) wo_1997 rfl d_14_27_85 ?_
        refine q_put (ci := 12) (j := 0) (v := .int y215) (ty := .int) C0 V i_NM o_NM n_NM rfl rfl hT0 (by decide) w_2298 rfl rfl rfl rfl (Nat.le_of_ble_eq_true rfl) d_14_27_88 (fun H locs w275 hu276 hT0 V => ?_)
        replace hT0 : w275[116]? = (some (q 116, .inr (12, [.int y215, .ref (q 117), .int t0_1, .ref (q 118), .int t0_2, .ref (q 119), .ref (q 134), .ref (q 145), .ref (q 153), .ref (q 157), .ref (q 167), .ref (q 168)])) : Option (Nat × va_E)) := hT0
        replace hI := n_p116 hI hu276 hT0 (by first | with_reducible exact q_fe btt0_1 | exact ⟨(by have t1 : 0 ≤ t0_1.toInt ∧ t0_1.toInt ≤ 4100 := btt0_1; omega), (by have t1 : 0 ≤ t0_1.toInt ∧ t0_1.toInt ≤ 4100 := btt0_1; omega)⟩) (by first | with_reducible exact q_fe btt0_2 | exact ⟨(by have t1 : 0 ≤ t0_2.toInt ∧ t0_2.toInt ≤ 12200 := btt0_2; omega), (by have t1 : 0 ≤ t0_2.toInt ∧ t0_2.toInt ≤ 12200 := btt0_2; omega)⟩)
        replace hO214 := (hu276 _ (by decide)).trans hO214
        replace hA227 := (hu276 _ (by decide)).trans hA227
        replace hA229 := (hu276 _ (by decide)).trans hA229
        replace hA231 := (hu276 _ (by decide)).trans hA231
        replace hA233 := (hu276 _ (by decide)).trans hA233
        replace hA235 := (hu276 _ (by decide)).trans hA235
        replace hT7 := (hu276 _ (by decide)).trans hT7
        replace hT8 := (hu276 _ (by decide)).trans hT8
        replace hT9 := (hu276 _ (by decide)).trans hT9
        replace hF := q_us hF hu276 (by simp)
        exact q_retv C0 V (⟨hI, hF, y215, y215, y216, y217, y218, y219, y220, y221, y222, y223, y224, y225, f226, f228, f230, f232, f234, t7_0, t8_0, t9_0, hT0, hO214, hA227, hA229, hA231, hA233, hA235, hT7, hT8, hT9, (show 0 ≤ y219.toInt + 1 from (by first | with_reducible exact q_fe b236 | (have t1 : 0 ≤ y219.toInt + 1 := b236; omega))), (show y219.toInt ≤ 1 from (by have t1 : 0 ≤ t1_4.toInt ∧ t1_4.toInt ≤ 1 := btt1_4; have t2 : y219.toInt ≤ t1_4.toInt := b241; omega)), (show 0 ≤ y220.toInt from (by first | with_reducible exact q_fe b237 | (have t1 : 0 ≤ y220.toInt := b237; omega))), (show y220.toInt ≤ 1 from (by first | with_reducible exact q_fe b238 | (have t1 : y220.toInt ≤ 1 := b238; omega))), (show t1_1.toInt ≤ y216.toInt from (by first | with_reducible exact q_fe b239 | (have t1 : t1_1.toInt ≤ y216.toInt := b239; omega))), (show y216.toInt ≤ t1_1.toInt from (by first | with_reducible exact q_fe b240 | (have t1 : y216.toInt ≤ t1_1.toInt := b240; omega))), (show t1_9.toInt ≤ y224.toInt from (by first | with_reducible exact q_fe b248 | (have t1 : t1_9.toInt ≤ y224.toInt := b248; omega))), (show y224.toInt ≤ t1_9.toInt from (by first | with_reducible exact q_fe b249 | (have t1 : y224.toInt ≤ t1_9.toInt := b249; omega))), (show (y215, y215, y216, y217, y218, y219, y220, y221, y222, y223, y224, y225, f226, f228, f230, f232, f234, t7_0, t8_0, t9_0) = (F_NM_shape x2 x3 x4 x5 x6 t0_0 t0_1 t0_2 t1_0 t1_1 t1_2 t1_3 t1_4 t1_5 t1_6 t1_7 t1_8 t1_9 t1_10 t2_0 t3_0 t4_0 t5_0 t6_0 t7_0 t8_0 t9_0) from Eq.trans (by rw [e269, e268, e267, e266, e265, e264, e263, e262, e261, e260, e259, e258, e257, e256, e255, e254, F_NM_shape_c40.eq_1]) hR270)⟩) d_14_27_91
    ·
      exact q_retv C0 V (⟨hI, hF, lx47, t1_0, t1_1, t1_2, t1_3, t1_4, t1_5, t1_6, t1_7, t1_8, t1_9, t1_10, t2_0, t3_0, t4_0, t5_0, t6_0, t7_0, t8_0, t9_0, hT0, hT1, hT2, hT3, hT4, hT5, hT6, hT7, hT8, hT9, (show 0 ≤ t1_4.toInt + 1 from (by first | with_reducible exact (q_fe btt1_4).2 | with_reducible exact (q_fe btt1_4).1 | (have t1 : 0 ≤ t1_4.toInt ∧ t1_4.toInt ≤ 1 := btt1_4; omega))), (show t1_4.toInt ≤ 1 from (by first | with_reducible exact (q_fe btt1_4).2 | with_reducible exact (q_fe btt1_4).1 | (have t1 : 0 ≤ t1_4.toInt ∧ t1_4.toInt ≤ 1 := btt1_4; omega))), (show 0 ≤ t1_5.toInt from (by first | with_reducible exact (q_fe btt1_5).2 | with_reducible exact (q_fe btt1_5).1 | (have t1 : 0 ≤ t1_5.toInt ∧ t1_5.toInt ≤ 1 := btt1_5; omega))), (show t1_5.toInt ≤ 1 from (by first | with_reducible exact (q_fe btt1_5).2 | with_reducible exact (q_fe btt1_5).1 | (have t1 : 0 ≤ t1_5.toInt ∧ t1_5.toInt ≤ 1 := btt1_5; omega))), (show t1_1.toInt ≤ t1_1.toInt from (by omega)), (show t1_1.toInt ≤ t1_1.toInt from (by omega)), (show t1_9.toInt ≤ t1_9.toInt from (by omega)), (show t1_9.toInt ≤ t1_9.toInt from (by omega)), (show (lx47, t1_0, t1_1, t1_2, t1_3, t1_4, t1_5, t1_6, t1_7, t1_8, t1_9, t1_10, t2_0, t3_0, t4_0, t5_0, t6_0, t7_0, t8_0, t9_0) = (F_NM_shape x2 x3 x4 x5 x6 t0_0 t0_1 t0_2 t1_0 t1_1 t1_2 t1_3 t1_4 t1_5 t1_6 t1_7 t1_8 t1_9 t1_10 t2_0 t3_0 t4_0 t5_0 t6_0 t7_0 t8_0 t9_0) from Eq.trans (by rw [F_NM_shape_J15.eq_1, if_neg c68]) hR61)⟩) d_14_27_25
  ·
    intro J58
    refine q_join (X := Unit) (fun z H locs ls _ => q_Wd D g (va_A ws sz) s ws H locs ∧ lv_has ls 6 [(0, .ref (q 116)), (1, .int x2), (2, .int x3), (3, .int x4), (4, .int x5), (5, .int x6)] ∧ F_NM_shape_J10 x2 x3 x4 x5 x6 t0_0 t0_1 t0_2 t1_0 t1_1 t1_2 t1_3 t1_4 t1_5 t1_6 t1_7 t1_8 t1_9 t1_10 t2_0 t3_0 t4_0 t5_0 t6_0 t7_0 t8_0 t9_0 = (F_NM_shape x2 x3 x4 x5 x6 t0_0 t0_1 t0_2 t1_0 t1_1 t1_2 t1_3 t1_4 t1_5 t1_6 t1_7 t1_8 t1_9 t1_10 t2_0 t3_0 t4_0 t5_0 t6_0 t7_0 t8_0 t9_0) ∧ True ∧ S_NM_shape_J10 x2 x3 x4 x5 x6 t0_0 t0_1 t0_2 t1_0 t1_1 t1_2 t1_3 t1_4 t1_5 t1_6 t1_7 t1_8 t1_9 t1_10 t2_0 t3_0 t4_0 t5_0 t6_0 t7_0 t8_0 t9_0) (fun z => [.ref (q 116)]) 10 0 0 ?_ ?_
    ·
      rintro _ H locs ls _ ⟨V, hl, hR289, hS290⟩
      replace hl : lv_has ls 6 [(0, .ref (q 116)), (1, .int x2), (2, .int x3), (3, .int x4), (4, .int x5), (5, .int x6)] := hl
      refine lv_iconst (v := 1) hx hb d_14_27_10 (by decide) ?_
      refine lv_goto (tgt := 15) hx hb d_14_27_11 (by decide) ?_
      exact J58 ((1 : Int32)) _ _ _ ws ⟨(show q_F (0 ≤ 1) from (show 0 ≤ 1 from by omega)), (show q_F (1 ≤ 1) from (show 1 ≤ 1 from by omega)), V, q_lw hl (q_lw1 0 rfl (q_lw1 1 rfl (q_lw1 2 rfl (q_lw1 3 rfl (q_lw1 4 rfl (q_lw1 5 rfl q_lw0)))))), (show F_NM_shape_J15 x2 x3 x4 x5 x6 t0_0 t0_1 t0_2 t1_0 t1_1 t1_2 t1_3 t1_4 t1_5 t1_6 t1_7 t1_8 t1_9 t1_10 t2_0 t3_0 t4_0 t5_0 t6_0 t7_0 t8_0 t9_0 1 = (F_NM_shape x2 x3 x4 x5 x6 t0_0 t0_1 t0_2 t1_0 t1_1 t1_2 t1_3 t1_4 t1_5 t1_6 t1_7 t1_8 t1_9 t1_10 t2_0 t3_0 t4_0 t5_0 t6_0 t7_0 t8_0 t9_0) from Eq.trans (by rw [F_NM_shape_J10.eq_1]) hR289), (show True ∧ S_NM_shape_J15 x2 x3 x4 x5 x6 t0_0 t0_1 t0_2 t1_0 t1_1 t1_2 t1_3 t1_4 t1_5 t1_6 t1_7 t1_8 t1_9 t1_10 t2_0 t3_0 t4_0 t5_0 t6_0 t7_0 t8_0 t9_0 1 from (by have h := hS290; rw [S_NM_shape_J10.eq_1] at h; with_reducible exact h))⟩
    ·
      intro J288
      refine lv_if_lt (tgt := 10) hx hb d_14_27_2 (by decide) (fun c294 => ?_) (fun c294 => ?_)
      ·
        exact J288 (()) _ _ _ ws ⟨V, q_lw hl (q_lw1 0 rfl (q_lw1 1 rfl (q_lw1 2 rfl (q_lw1 3 rfl (q_lw1 4 rfl (q_lw1 5 rfl q_lw0)))))), (show F_NM_shape_J10 x2 x3 x4 x5 x6 t0_0 t0_1 t0_2 t1_0 t1_1 t1_2 t1_3 t1_4 t1_5 t1_6 t1_7 t1_8 t1_9 t1_10 t2_0 t3_0 t4_0 t5_0 t6_0 t7_0 t8_0 t9_0 = (F_NM_shape x2 x3 x4 x5 x6 t0_0 t0_1 t0_2 t1_0 t1_1 t1_2 t1_3 t1_4 t1_5 t1_6 t1_7 t1_8 t1_9 t1_10 t2_0 t3_0 t4_0 t5_0 t6_0 t7_0 t8_0 t9_0) from (by rw [F_NM_shape.eq_1, if_pos c294])), (show True ∧ S_NM_shape_J10 x2 x3 x4 x5 x6 t0_0 t0_1 t0_2 t1_0 t1_1 t1_2 t1_3 t1_4 t1_5 t1_6 t1_7 t1_8 t1_9 t1_10 t2_0 t3_0 t4_0 t5_0 t6_0 t7_0 t8_0 t9_0 from (by have h := hS; rw [S_NM_shape.eq_1] at h; rw [if_pos c294] at h; with_reducible exact h))⟩
      ·
        refine lv_iload_n hx hb d_14_27_5 rfl (lv_at hl 1 rfl) ?_
        refine lv_iconst (v := 2) hx hb d_14_27_6 (by decide) ?_
        refine lv_icmp_le (tgt := 14) hx hb d_14_27_7 (by decide) (fun c297 => ?_) (fun c297 => ?_)
        ·
          refine lv_iconst (v := 0) hx hb d_14_27_14 (by decide) ?_
          exact J58 ((0 : Int32)) _ _ _ ws ⟨(show q_F (0 ≤ 0) from (show 0 ≤ 0 from by omega)), (show q_F (0 ≤ 1) from (show 0 ≤ 1 from by omega)), V, q_lw hl (q_lw1 0 rfl (q_lw1 1 rfl (q_lw1 2 rfl (q_lw1 3 rfl (q_lw1 4 rfl (q_lw1 5 rfl q_lw0)))))), (show F_NM_shape_J15 x2 x3 x4 x5 x6 t0_0 t0_1 t0_2 t1_0 t1_1 t1_2 t1_3 t1_4 t1_5 t1_6 t1_7 t1_8 t1_9 t1_10 t2_0 t3_0 t4_0 t5_0 t6_0 t7_0 t8_0 t9_0 0 = (F_NM_shape x2 x3 x4 x5 x6 t0_0 t0_1 t0_2 t1_0 t1_1 t1_2 t1_3 t1_4 t1_5 t1_6 t1_7 t1_8 t1_9 t1_10 t2_0 t3_0 t4_0 t5_0 t6_0 t7_0 t8_0 t9_0) from (by rw [F_NM_shape.eq_1, if_neg c294, if_pos c297])), (show True ∧ S_NM_shape_J15 x2 x3 x4 x5 x6 t0_0 t0_1 t0_2 t1_0 t1_1 t1_2 t1_3 t1_4 t1_5 t1_6 t1_7 t1_8 t1_9 t1_10 t2_0 t3_0 t4_0 t5_0 t6_0 t7_0 t8_0 t9_0 0 from (by have h := hS; rw [S_NM_shape.eq_1] at h; rw [if_neg c294] at h; rw [if_pos c297] at h; with_reducible exact h))⟩
        ·
          exact J288 (()) _ _ _ ws ⟨V, q_lw hl (q_lw1 0 rfl (q_lw1 1 rfl (q_lw1 2 rfl (q_lw1 3 rfl (q_lw1 4 rfl (q_lw1 5 rfl q_lw0)))))), (show F_NM_shape_J10 x2 x3 x4 x5 x6 t0_0 t0_1 t0_2 t1_0 t1_1 t1_2 t1_3 t1_4 t1_5 t1_6 t1_7 t1_8 t1_9 t1_10 t2_0 t3_0 t4_0 t5_0 t6_0 t7_0 t8_0 t9_0 = (F_NM_shape x2 x3 x4 x5 x6 t0_0 t0_1 t0_2 t1_0 t1_1 t1_2 t1_3 t1_4 t1_5 t1_6 t1_7 t1_8 t1_9 t1_10 t2_0 t3_0 t4_0 t5_0 t6_0 t7_0 t8_0 t9_0) from (by rw [F_NM_shape.eq_1, if_neg c294, if_neg c297])), (show True ∧ S_NM_shape_J10 x2 x3 x4 x5 x6 t0_0 t0_1 t0_2 t1_0 t1_1 t1_2 t1_3 t1_4 t1_5 t1_6 t1_7 t1_8 t1_9 t1_10 t2_0 t3_0 t4_0 t5_0 t6_0 t7_0 t8_0 t9_0 from (by have h := hS; rw [S_NM_shape.eq_1] at h; rw [if_neg c294] at h; rw [if_neg c297] at h; with_reducible exact h))⟩
theorem d_14_10_0 : decode prog_14_method_10_code 0 = .ok (.iload_n 0, 1) := by decide +kernel
theorem d_14_10_1 : decode prog_14_method_10_code 1 = .ok (.iconst 1, 1) := by decide +kernel
theorem d_14_10_2 : decode prog_14_method_10_code 2 = .ok (.if_icmp .le 7, 3) := by decide +kernel
theorem d_14_10_9 : decode prog_14_method_10_code 9 = .ok (.iconst 0, 1) := by decide +kernel
theorem d_14_10_10 : decode prog_14_method_10_code 10 = .ok (.ireturn, 1) := by decide +kernel
theorem d_14_10_5 : decode prog_14_method_10_code 5 = .ok (.iconst 1, 1) := by decide +kernel
theorem d_14_10_6 : decode prog_14_method_10_code 6 = .ok (.goto 4, 3) := by decide +kernel
def y_NM_isFloat : MethodName := ⟨"NumberHouseModel", "isFloat", "(I)Z"⟩
def F_NM_isFloat (x1 : Int32) : Int32 := if x1 ≤ (1 : Int32) then ((0 : Int32)) else ((1 : Int32))
set_option maxRecDepth 100000 in
set_option maxHeartbeats 4000000 in
theorem X_NM_isFloat (l : Launch) (D : va_G) (g : Nat → ClassId) (q : Nat → Nat) (ws : va_W) (x1 : Int32) (hI : q_I (msh g q) q ws) : q_mI l y_NM_isFloat prog_14_method_10_code 1 (.boolean) 1 0 0 D g [.int x1] ws (fun r u => ws = u ∧ (0 ≤ r.toInt) ∧ (r.toInt ≤ 1) ∧ r = (F_NM_isFloat x1)) := by
  intro sz
  refine q_into (by decide) (Nat.le_of_ble_eq_true rfl) ?_
  intro p e s m below meth c ls hsz C0 V hl
  have hx := C0.1
  have hb := C0.2.1
  have hl : lv_has ls 1 [(0, .int x1)] := hl
  refine lv_iload_n hx hb d_14_10_0 rfl (lv_at hl 0 rfl) ?_
  refine lv_iconst (v := 1) hx hb d_14_10_1 (by decide) ?_
  refine lv_icmp_le (tgt := 9) hx hb d_14_10_2 (by decide) (fun c1 => ?_) (fun c1 => ?_)
  ·
    refine lv_iconst (v := 0) hx hb d_14_10_9 (by decide) ?_
    exact q_retz C0 V (by decide) (⟨rfl, (show 0 ≤ (0 : Int32).toInt from (by have z1 : (0 : Int32).toInt = 0 := rfl; omega)), (show (0 : Int32).toInt ≤ 1 from (by have z1 : (0 : Int32).toInt = 0 := rfl; omega)), (show (0 : Int32) = (F_NM_isFloat x1) from (by rw [F_NM_isFloat.eq_1, if_pos c1]))⟩) d_14_10_10
  ·
    refine lv_iconst (v := 1) hx hb d_14_10_5 (by decide) ?_
    refine lv_goto (tgt := 10) hx hb d_14_10_6 (by decide) ?_
    exact q_retz C0 V (by decide) (⟨rfl, (show 0 ≤ (1 : Int32).toInt from (by have z1 : (1 : Int32).toInt = 1 := rfl; omega)), (show (1 : Int32).toInt ≤ 1 from (by have z1 : (1 : Int32).toInt = 1 := rfl; omega)), (show (1 : Int32) = (F_NM_isFloat x1) from (by rw [F_NM_isFloat.eq_1, if_neg c1]))⟩) d_14_10_10
theorem d_14_31_0 : decode prog_14_method_31_code 0 = .ok (.lconst 0, 1) := by decide +kernel
theorem d_14_31_1 : decode prog_14_method_31_code 1 = .ok (.lstore 5, 2) := by decide +kernel
theorem d_14_31_3 : decode prog_14_method_31_code 3 = .ok (.iload_n 1, 1) := by decide +kernel
theorem d_14_31_4 : decode prog_14_method_31_code 4 = .ok (.invokestatic 250, 3) := by decide +kernel
set_option maxRecDepth 100000 in
theorem w_2925 : (Cond.code ({ cls := "NumberHouseModel", name := "isFloat", desc := "(I)Z" } : MethodName) prog_14_method_10_code (1 : Nat) (some .boolean)) ∈ q_tbl := q_of13 45 rfl (by decide +kernel)
set_option maxRecDepth 100000 in
theorem w_2923 : (Cond.methodLink "NumberHouseModel" (250 : Nat) ({ cls := "NumberHouseModel", name := "isFloat", desc := "(I)Z" } : MethodName)) ∈ q_tbl := q_of13 43 rfl (by decide +kernel)
set_option maxRecDepth 100000 in
theorem w_2924 : (Cond.static ({ cls := "NumberHouseModel", name := "isFloat", desc := "(I)Z" } : MethodName)) ∈ q_tbl := q_of13 44 rfl (by decide +kernel)
theorem LS_NM_250 : q_LS "NumberHouseModel" 250 y_NM_isFloat prog_14_method_10_code 1 (some .boolean) 1 := ⟨w_2925, w_14, w_2923, w_2924, ⟨by decide, by decide, by decide +kernel⟩⟩
theorem d_14_31_7 : decode prog_14_method_31_code 7 = .ok (.ifCond .eq 52, 3) := by decide +kernel
theorem d_14_31_59 : decode prog_14_method_31_code 59 = .ok (.iload_n 1, 1) := by decide +kernel
theorem d_14_31_60 : decode prog_14_method_31_code 60 = .ok (.ifCond .ne 16, 3) := by decide +kernel
theorem d_14_31_76 : decode prog_14_method_31_code 76 = .ok (.aload_n 0, 1) := by decide +kernel
theorem d_14_31_77 : decode prog_14_method_31_code 77 = .ok (.getfield 26, 3) := by decide +kernel
theorem d_14_31_80 : decode prog_14_method_31_code 80 = .ok (.iload_n 2, 1) := by decide +kernel
theorem d_14_31_81 : decode prog_14_method_31_code 81 = .ok (.iconst 0, 1) := by decide +kernel
theorem d_14_31_82 : decode prog_14_method_31_code 82 = .ok (.invokevirtual 240, 3) := by decide +kernel
set_option maxRecDepth 100000 in
theorem w_2957 : (Cond.code ({ cls := "NumberHouseModel$DecimalRows", name := "written", desc := "(II)I" } : MethodName) prog_15_method_53_code (7 : Nat) (some .int)) ∈ q_tbl := q_of13 77 rfl (by decide +kernel)
set_option maxRecDepth 100000 in
theorem w_2954 : (Cond.methodLink "NumberHouseModel" (240 : Nat) ({ cls := "NumberHouseModel$DecimalRows", name := "written", desc := "(II)I" } : MethodName)) ∈ q_tbl := q_of13 74 rfl (by decide +kernel)
set_option maxRecDepth 100000 in
theorem w_2955 : (Cond.instanceMethod ({ cls := "NumberHouseModel$DecimalRows", name := "written", desc := "(II)I" } : MethodName)) ∈ q_tbl := q_of13 75 rfl (by decide +kernel)
set_option maxRecDepth 100000 in
theorem w_2956 : (Cond.selects "NumberHouseModel$DecimalRows" ({ cls := "NumberHouseModel$DecimalRows", name := "written", desc := "(II)I" } : MethodName) ({ cls := "NumberHouseModel$DecimalRows", name := "written", desc := "(II)I" } : MethodName)) ∈ q_tbl := q_of13 76 rfl (by decide +kernel)
theorem LV_NM_240 : q_LV "NumberHouseModel" 240 y_DR_written prog_15_method_53_code 7 (some .int) 2 := ⟨w_2957, w_16, w_2954, w_2955, w_2956, ⟨by decide, by decide, by decide +kernel⟩⟩
theorem d_14_31_85 : decode prog_14_method_31_code 85 = .ok (.istore 7, 2) := by decide +kernel
theorem d_14_31_87 : decode prog_14_method_31_code 87 = .ok (.aload_n 0, 1) := by decide +kernel
theorem d_14_31_88 : decode prog_14_method_31_code 88 = .ok (.getfield 40, 3) := by decide +kernel
theorem d_14_31_91 : decode prog_14_method_31_code 91 = .ok (.iload_n 1, 1) := by decide +kernel
theorem d_14_31_92 : decode prog_14_method_31_code 92 = .ok (.ifCond .ne 13, 3) := by decide +kernel
theorem d_14_31_105 : decode prog_14_method_31_code 105 = .ok (.aload_n 0, 1) := by decide +kernel
theorem d_14_31_106 : decode prog_14_method_31_code 106 = .ok (.getfield 26, 3) := by decide +kernel
theorem d_14_31_109 : decode prog_14_method_31_code 109 = .ok (.getfield 243, 3) := by decide +kernel
set_option maxRecDepth 100000 in
theorem wo_2022 : (Cond.fieldLinkNest "NumberHouseModel" (243 : Nat) "NumberHouseModel$DecimalRows" "paper" "[I" "NumberHouseModel") ∈ q_odd := q_oo9 102 rfl (by decide +kernel)
theorem d_14_31_112 : decode prog_14_method_31_code 112 = .ok (.iload 7, 2) := by decide +kernel
theorem d_14_31_114 : decode prog_14_method_31_code 114 = .ok (.aload_n 0, 1) := by decide +kernel
theorem d_14_31_115 : decode prog_14_method_31_code 115 = .ok (.getfield 40, 3) := by decide +kernel
theorem d_14_31_118 : decode prog_14_method_31_code 118 = .ok (.getfield 106, 3) := by decide +kernel
theorem d_14_31_121 : decode prog_14_method_31_code 121 = .ok (.invokestatic 90, 3) := by decide +kernel
theorem d_14_31_124 : decode prog_14_method_31_code 124 = .ok (.putfield 109, 3) := by decide +kernel
theorem d_14_31_127 : decode prog_14_method_31_code 127 = .ok (.iload_n 3, 1) := by decide +kernel
theorem d_14_31_128 : decode prog_14_method_31_code 128 = .ok (.iconst 2, 1) := by decide +kernel
theorem d_14_31_129 : decode prog_14_method_31_code 129 = .ok (.if_icmp .ne 13, 3) := by decide +kernel
theorem d_14_31_142 : decode prog_14_method_31_code 142 = .ok (.aload_n 0, 1) := by decide +kernel
theorem d_14_31_143 : decode prog_14_method_31_code 143 = .ok (.getfield 40, 3) := by decide +kernel
theorem d_14_31_146 : decode prog_14_method_31_code 146 = .ok (.invokevirtual 113, 3) := by decide +kernel
theorem d_14_31_149 : decode prog_14_method_31_code 149 = .ok (.i2l, 1) := by decide +kernel
theorem d_14_31_150 : decode prog_14_method_31_code 150 = .ok (.ldc2_w 117, 3) := by decide +kernel
theorem d_14_31_153 : decode prog_14_method_31_code 153 = .ok (.land, 1) := by decide +kernel
theorem d_14_31_154 : decode prog_14_method_31_code 154 = .ok (.lstore 5, 2) := by decide +kernel
theorem d_14_31_156 : decode prog_14_method_31_code 156 = .ok (.aload_n 0, 1) := by decide +kernel
theorem d_14_31_157 : decode prog_14_method_31_code 157 = .ok (.getfield 40, 3) := by decide +kernel
theorem d_14_31_160 : decode prog_14_method_31_code 160 = .ok (.iconst 0, 1) := by decide +kernel
theorem d_14_31_161 : decode prog_14_method_31_code 161 = .ok (.putfield 109, 3) := by decide +kernel
theorem d_14_31_164 : decode prog_14_method_31_code 164 = .ok (.aload_n 0, 1) := by decide +kernel
theorem d_14_31_165 : decode prog_14_method_31_code 165 = .ok (.iload_n 3, 1) := by decide +kernel
theorem d_14_31_166 : decode prog_14_method_31_code 166 = .ok (.iload 4, 2) := by decide +kernel
theorem d_14_31_168 : decode prog_14_method_31_code 168 = .ok (.lload 5, 2) := by decide +kernel
theorem d_14_31_170 : decode prog_14_method_31_code 170 = .ok (.invokevirtual 120, 3) := by decide +kernel
theorem d_14_31_173 : decode prog_14_method_31_code 173 = .ok (.return_, 1) := by decide +kernel
theorem d_14_31_132 : decode prog_14_method_31_code 132 = .ok (.aload_n 0, 1) := by decide +kernel
theorem d_14_31_133 : decode prog_14_method_31_code 133 = .ok (.getfield 40, 3) := by decide +kernel
theorem d_14_31_136 : decode prog_14_method_31_code 136 = .ok (.invokevirtual 110, 3) := by decide +kernel
theorem d_14_31_139 : decode prog_14_method_31_code 139 = .ok (.goto 15, 3) := by decide +kernel
theorem d_14_31_63 : decode prog_14_method_31_code 63 = .ok (.aload_n 0, 1) := by decide +kernel
theorem d_14_31_64 : decode prog_14_method_31_code 64 = .ok (.getfield 19, 3) := by decide +kernel
theorem d_14_31_67 : decode prog_14_method_31_code 67 = .ok (.iload_n 2, 1) := by decide +kernel
theorem d_14_31_68 : decode prog_14_method_31_code 68 = .ok (.bipush 10, 2) := by decide +kernel
theorem d_14_31_70 : decode prog_14_method_31_code 70 = .ok (.invokevirtual 249, 3) := by decide +kernel
set_option maxRecDepth 100000 in
theorem w_2950 : (Cond.code ({ cls := "NumberHouseModel$WholeRows", name := "written", desc := "(II)I" } : MethodName) prog_19_method_42_code (6 : Nat) (some .int)) ∈ q_tbl := q_of13 70 rfl (by decide +kernel)
set_option maxRecDepth 100000 in
theorem w_2947 : (Cond.methodLink "NumberHouseModel" (249 : Nat) ({ cls := "NumberHouseModel$WholeRows", name := "written", desc := "(II)I" } : MethodName)) ∈ q_tbl := q_of13 67 rfl (by decide +kernel)
set_option maxRecDepth 100000 in
theorem w_2948 : (Cond.instanceMethod ({ cls := "NumberHouseModel$WholeRows", name := "written", desc := "(II)I" } : MethodName)) ∈ q_tbl := q_of13 68 rfl (by decide +kernel)
set_option maxRecDepth 100000 in
theorem w_2949 : (Cond.selects "NumberHouseModel$WholeRows" ({ cls := "NumberHouseModel$WholeRows", name := "written", desc := "(II)I" } : MethodName) ({ cls := "NumberHouseModel$WholeRows", name := "written", desc := "(II)I" } : MethodName)) ∈ q_tbl := q_of13 69 rfl (by decide +kernel)
theorem LV_NM_249 : q_LV "NumberHouseModel" 249 y_WR_written prog_19_method_42_code 6 (some .int) 2 := ⟨w_2950, w_15, w_2947, w_2948, w_2949, ⟨by decide, by decide, by decide +kernel⟩⟩
theorem d_14_31_73 : decode prog_14_method_31_code 73 = .ok (.goto 12, 3) := by decide +kernel
theorem d_14_31_95 : decode prog_14_method_31_code 95 = .ok (.aload_n 0, 1) := by decide +kernel
theorem d_14_31_96 : decode prog_14_method_31_code 96 = .ok (.getfield 19, 3) := by decide +kernel
theorem d_14_31_99 : decode prog_14_method_31_code 99 = .ok (.getfield 248, 3) := by decide +kernel
set_option maxRecDepth 100000 in
theorem wo_1944 : (Cond.fieldLinkNest "NumberHouseModel" (248 : Nat) "NumberHouseModel$WholeRows" "paper" "[I" "NumberHouseModel") ∈ q_odd := q_oo9 24 rfl (by decide +kernel)
theorem d_14_31_102 : decode prog_14_method_31_code 102 = .ok (.goto 10, 3) := by decide +kernel
theorem d_14_31_10 : decode prog_14_method_31_code 10 = .ok (.aload_n 0, 1) := by decide +kernel
theorem d_14_31_11 : decode prog_14_method_31_code 11 = .ok (.iload_n 1, 1) := by decide +kernel
theorem d_14_31_12 : decode prog_14_method_31_code 12 = .ok (.iload_n 2, 1) := by decide +kernel
theorem d_14_31_13 : decode prog_14_method_31_code 13 = .ok (.invokevirtual 138, 3) := by decide +kernel
theorem d_14_31_16 : decode prog_14_method_31_code 16 = .ok (.lstore 5, 2) := by decide +kernel
theorem d_14_31_18 : decode prog_14_method_31_code 18 = .ok (.iload_n 1, 1) := by decide +kernel
theorem d_14_31_19 : decode prog_14_method_31_code 19 = .ok (.iload_n 3, 1) := by decide +kernel
theorem d_14_31_20 : decode prog_14_method_31_code 20 = .ok (.if_icmp .ne 8, 3) := by decide +kernel
theorem d_14_31_28 : decode prog_14_method_31_code 28 = .ok (.iload_n 1, 1) := by decide +kernel
theorem d_14_31_29 : decode prog_14_method_31_code 29 = .ok (.iconst 2, 1) := by decide +kernel
theorem d_14_31_30 : decode prog_14_method_31_code 30 = .ok (.if_icmp .ne 15, 3) := by decide +kernel
theorem d_14_31_45 : decode prog_14_method_31_code 45 = .ok (.aload_n 0, 1) := by decide +kernel
theorem d_14_31_46 : decode prog_14_method_31_code 46 = .ok (.getfield 33, 3) := by decide +kernel
theorem d_14_31_49 : decode prog_14_method_31_code 49 = .ok (.lload 5, 2) := by decide +kernel
theorem d_14_31_51 : decode prog_14_method_31_code 51 = .ok (.invokevirtual 257, 3) := by decide +kernel
set_option maxRecDepth 100000 in
theorem w_2942 : (Cond.code ({ cls := "NumberHouseModel$FloatRows", name := "widened", desc := "(J)J" } : MethodName) prog_17_method_37_code (8 : Nat) (some .long)) ∈ q_tbl := q_of13 62 rfl (by decide +kernel)
set_option maxRecDepth 100000 in
theorem w_2939 : (Cond.methodLink "NumberHouseModel" (257 : Nat) ({ cls := "NumberHouseModel$FloatRows", name := "widened", desc := "(J)J" } : MethodName)) ∈ q_tbl := q_of13 59 rfl (by decide +kernel)
set_option maxRecDepth 100000 in
theorem w_2940 : (Cond.instanceMethod ({ cls := "NumberHouseModel$FloatRows", name := "widened", desc := "(J)J" } : MethodName)) ∈ q_tbl := q_of13 60 rfl (by decide +kernel)
set_option maxRecDepth 100000 in
theorem w_2941 : (Cond.selects "NumberHouseModel$FloatRows" ({ cls := "NumberHouseModel$FloatRows", name := "widened", desc := "(J)J" } : MethodName) ({ cls := "NumberHouseModel$FloatRows", name := "widened", desc := "(J)J" } : MethodName)) ∈ q_tbl := q_of13 61 rfl (by decide +kernel)
theorem LV_NM_257 : q_LV "NumberHouseModel" 257 y_FR_widened prog_17_method_37_code 8 (some .long) 1 := ⟨w_2942, w_17, w_2939, w_2940, w_2941, ⟨by decide, by decide, by decide +kernel⟩⟩
theorem d_14_31_54 : decode prog_14_method_31_code 54 = .ok (.lstore 5, 2) := by decide +kernel
theorem d_14_31_56 : decode prog_14_method_31_code 56 = .ok (.goto 108, 3) := by decide +kernel
theorem d_14_31_33 : decode prog_14_method_31_code 33 = .ok (.aload_n 0, 1) := by decide +kernel
theorem d_14_31_34 : decode prog_14_method_31_code 34 = .ok (.getfield 33, 3) := by decide +kernel
theorem d_14_31_37 : decode prog_14_method_31_code 37 = .ok (.lload 5, 2) := by decide +kernel
theorem d_14_31_39 : decode prog_14_method_31_code 39 = .ok (.invokevirtual 253, 3) := by decide +kernel
set_option maxRecDepth 100000 in
theorem w_2933 : (Cond.code ({ cls := "NumberHouseModel$FloatRows", name := "narrowed", desc := "(J)J" } : MethodName) prog_17_method_36_code (10 : Nat) (some .long)) ∈ q_tbl := q_of13 53 rfl (by decide +kernel)
set_option maxRecDepth 100000 in
theorem w_2930 : (Cond.methodLink "NumberHouseModel" (253 : Nat) ({ cls := "NumberHouseModel$FloatRows", name := "narrowed", desc := "(J)J" } : MethodName)) ∈ q_tbl := q_of13 50 rfl (by decide +kernel)
set_option maxRecDepth 100000 in
theorem w_2931 : (Cond.instanceMethod ({ cls := "NumberHouseModel$FloatRows", name := "narrowed", desc := "(J)J" } : MethodName)) ∈ q_tbl := q_of13 51 rfl (by decide +kernel)
set_option maxRecDepth 100000 in
theorem w_2932 : (Cond.selects "NumberHouseModel$FloatRows" ({ cls := "NumberHouseModel$FloatRows", name := "narrowed", desc := "(J)J" } : MethodName) ({ cls := "NumberHouseModel$FloatRows", name := "narrowed", desc := "(J)J" } : MethodName)) ∈ q_tbl := q_of13 52 rfl (by decide +kernel)
theorem LV_NM_253 : q_LV "NumberHouseModel" 253 y_FR_narrowed prog_17_method_36_code 10 (some .long) 1 := ⟨w_2933, w_17, w_2930, w_2931, w_2932, ⟨by decide, by decide, by decide +kernel⟩⟩
theorem d_14_31_42 : decode prog_14_method_31_code 42 = .ok (.goto 12, 3) := by decide +kernel
theorem d_14_31_23 : decode prog_14_method_31_code 23 = .ok (.lload 5, 2) := by decide +kernel
theorem d_14_31_25 : decode prog_14_method_31_code 25 = .ok (.goto 29, 3) := by decide +kernel
def y_NM_toFloat : MethodName := ⟨"NumberHouseModel", "toFloat", "(IIII)V"⟩
def F_NM_toFloat_c146 (x2 : Int32) (x3 : Int32) (x4 : Int32) (x5 : Int32) (t0_0 : Int32) (t0_1 : Int32) (t0_2 : Int32) (t1_0 : Int32) (t1_1 : Int32) (t1_2 : Int32) (t1_3 : Int32) (t1_4 : Int32) (t1_5 : Int32) (t1_6 : Int32) (t2_0 : (Nat → Int32)) (t3_0 : (Nat → Int32)) (t4_0 : (Nat → Int32)) (t5_0 : (Nat → Int32)) (t6_0 : Int32) (t6_1 : Int32) (t6_2 : Int32) (t6_3 : Int64) (t6_4 : Int32) (t6_5 : Int32) (t6_6 : Int32) (t6_7 : Int32) (t6_8 : Int32) (t6_9 : Int32) (t6_10 : Int32) (t7_0 : (Nat → Int32)) (t8_0 : (Nat → Int32)) (t9_0 : (Nat → Int32)) (t10_0 : (Nat → Int32)) (t11_0 : (Nat → Int32)) (t12_0 : Int32) (t12_1 : Int32) (t12_2 : Int32) (t12_3 : Int32) (t12_4 : Int64) (t12_5 : Int32) (t12_6 : Int32) (t12_7 : Int64) (t12_8 : Int32) (t12_9 : Int64) (t12_10 : Int32) (t13_0 : Int32) (t13_1 : Int32) (t13_2 : Int32) (t13_3 : Int32) (t13_4 : Int32) (t13_5 : Int32) (t13_6 : Int32) (t13_7 : Int64) (t13_8 : Int32) (t13_9 : Int32) (t13_10 : Int64) (t13_11 : Int64) (t13_12 : Int32) (t13_13 : Int32) (t14_0 : (Nat → Int32)) (t15_0 : (Nat → Int32)) (t16_0 : (Nat → Int32)) (t17_0 : (Nat → Int64)) (p157 : (Int32 × Int32 × Int32 × Int32 × Int64 × Int32 × Int32 × Int32 × Int32 × Int32 × Int32 × Int32 × (Nat → Int32))) (a119 : Int32) (y121 : Int32) (y122 : Int32) (y123 : Int32) (y124 : Int64) (y125 : Int32) (y126 : Int32) (y127 : Int32) (y128 : Int32) (y129 : Int32) (y130 : Int32) (y131 : Int32) (f132 : (Nat → Int32)) (p190 : (Int32 × (Nat → Int32))) (f182 : (Nat → Int32)) (p238 : (Int32 × Int32 × Int32 × Int32 × Int32 × Int32 × Int32 × Int32 × Int64 × Int32 × Int32 × Int64 × Int64 × Int32 × Int32 × (Nat → Int32) × (Nat → Int32))) : Int32 × Int32 × Int32 × Int32 × Int32 × Int32 × Int32 × (Nat → Int32) × (Nat → Int32) × Int32 × Int32 × Int32 × Int64 × Int32 × Int32 × Int32 × Int32 × Int32 × Int32 × Int32 × (Nat → Int32) × Int32 × Int32 × Int32 × Int32 × Int64 × Int32 × Int32 × Int64 × Int32 × Int64 × Int32 × Int32 × Int32 × Int32 × Int32 × Int32 × Int32 × Int32 × Int64 × Int32 × Int32 × Int64 × Int64 × Int32 × Int32 × (Nat → Int32) × (Nat → Int32) × (Nat → Int32) × (Nat → Int64) := (t1_0, t1_1, t1_2, t1_3, t1_4, t1_5, t1_6, t4_0, t5_0, y121, y122, y123, y124, y125, y126, y127, y128, y129, y130, y131, f132, t12_0, t12_1, t12_2, t12_3, t12_4, t12_5, t12_6, t12_7, t12_8, t12_9, t12_10, (p238.2.1 : Int32), (0 : Int32), (p238.2.2.2.1 : Int32), (p238.2.2.2.2.1 : Int32), (p238.2.2.2.2.2.1 : Int32), (p238.2.2.2.2.2.2.1 : Int32), (p238.2.2.2.2.2.2.2.1 : Int32), (p238.2.2.2.2.2.2.2.2.1 : Int64), (p238.2.2.2.2.2.2.2.2.2.1 : Int32), (p238.2.2.2.2.2.2.2.2.2.2.1 : Int32), (p238.2.2.2.2.2.2.2.2.2.2.2.1 : Int64), (p238.2.2.2.2.2.2.2.2.2.2.2.2.1 : Int64), (p238.2.2.2.2.2.2.2.2.2.2.2.2.2.1 : Int32), (p238.2.2.2.2.2.2.2.2.2.2.2.2.2.2.1 : Int32), f182, (p238.2.2.2.2.2.2.2.2.2.2.2.2.2.2.2.1 : (Nat → Int32)), (p238.2.2.2.2.2.2.2.2.2.2.2.2.2.2.2.2 : (Nat → Int32)), ((F_NM_setBits x4 x5 (((p238.1 : Int32).toInt64 : Int64) &&& 4294967295 : Int64) t0_0 t0_1 t0_2 t17_0) : (Nat → Int64)))
def F_NM_toFloat_c136 (x2 : Int32) (x3 : Int32) (x4 : Int32) (x5 : Int32) (t0_0 : Int32) (t0_1 : Int32) (t0_2 : Int32) (t1_0 : Int32) (t1_1 : Int32) (t1_2 : Int32) (t1_3 : Int32) (t1_4 : Int32) (t1_5 : Int32) (t1_6 : Int32) (t2_0 : (Nat → Int32)) (t3_0 : (Nat → Int32)) (t4_0 : (Nat → Int32)) (t5_0 : (Nat → Int32)) (t6_0 : Int32) (t6_1 : Int32) (t6_2 : Int32) (t6_3 : Int64) (t6_4 : Int32) (t6_5 : Int32) (t6_6 : Int32) (t6_7 : Int32) (t6_8 : Int32) (t6_9 : Int32) (t6_10 : Int32) (t7_0 : (Nat → Int32)) (t8_0 : (Nat → Int32)) (t9_0 : (Nat → Int32)) (t10_0 : (Nat → Int32)) (t11_0 : (Nat → Int32)) (t12_0 : Int32) (t12_1 : Int32) (t12_2 : Int32) (t12_3 : Int32) (t12_4 : Int64) (t12_5 : Int32) (t12_6 : Int32) (t12_7 : Int64) (t12_8 : Int32) (t12_9 : Int64) (t12_10 : Int32) (t13_0 : Int32) (t13_1 : Int32) (t13_2 : Int32) (t13_3 : Int32) (t13_4 : Int32) (t13_5 : Int32) (t13_6 : Int32) (t13_7 : Int64) (t13_8 : Int32) (t13_9 : Int32) (t13_10 : Int64) (t13_11 : Int64) (t13_12 : Int32) (t13_13 : Int32) (t14_0 : (Nat → Int32)) (t15_0 : (Nat → Int32)) (t16_0 : (Nat → Int32)) (t17_0 : (Nat → Int64)) (p157 : (Int32 × Int32 × Int32 × Int32 × Int64 × Int32 × Int32 × Int32 × Int32 × Int32 × Int32 × Int32 × (Nat → Int32))) (a119 : Int32) (y121 : Int32) (y122 : Int32) (y123 : Int32) (y124 : Int64) (y125 : Int32) (y126 : Int32) (y127 : Int32) (y128 : Int32) (y129 : Int32) (y130 : Int32) (y131 : Int32) (f132 : (Nat → Int32)) (p190 : (Int32 × (Nat → Int32))) (f182 : (Nat → Int32)) (p314 : (Int64 × Int32 × Int32 × Int32 × Int32 × Int32 × Int32 × Int32 × Int64 × Int32 × Int32 × Int64 × Int64 × Int32 × Int32 × (Nat → Int32) × (Nat → Int32))) : Int32 × Int32 × Int32 × Int32 × Int32 × Int32 × Int32 × (Nat → Int32) × (Nat → Int32) × Int32 × Int32 × Int32 × Int64 × Int32 × Int32 × Int32 × Int32 × Int32 × Int32 × Int32 × (Nat → Int32) × Int32 × Int32 × Int32 × Int32 × Int64 × Int32 × Int32 × Int64 × Int32 × Int64 × Int32 × Int32 × Int32 × Int32 × Int32 × Int32 × Int32 × Int32 × Int64 × Int32 × Int32 × Int64 × Int64 × Int32 × Int32 × (Nat → Int32) × (Nat → Int32) × (Nat → Int32) × (Nat → Int64) := (t1_0, t1_1, t1_2, t1_3, t1_4, t1_5, t1_6, t4_0, t5_0, y121, y122, y123, y124, y125, y126, y127, y128, y129, y130, y131, f132, t12_0, t12_1, t12_2, t12_3, t12_4, t12_5, t12_6, t12_7, t12_8, t12_9, t12_10, (p314.2.1 : Int32), (0 : Int32), (p314.2.2.2.1 : Int32), (p314.2.2.2.2.1 : Int32), (p314.2.2.2.2.2.1 : Int32), (p314.2.2.2.2.2.2.1 : Int32), (p314.2.2.2.2.2.2.2.1 : Int32), (p314.2.2.2.2.2.2.2.2.1 : Int64), (p314.2.2.2.2.2.2.2.2.2.1 : Int32), (p314.2.2.2.2.2.2.2.2.2.2.1 : Int32), (p314.2.2.2.2.2.2.2.2.2.2.2.1 : Int64), (p314.2.2.2.2.2.2.2.2.2.2.2.2.1 : Int64), (p314.2.2.2.2.2.2.2.2.2.2.2.2.2.1 : Int32), (p314.2.2.2.2.2.2.2.2.2.2.2.2.2.2.1 : Int32), f182, (p314.2.2.2.2.2.2.2.2.2.2.2.2.2.2.2.1 : (Nat → Int32)), (p314.2.2.2.2.2.2.2.2.2.2.2.2.2.2.2.2 : (Nat → Int32)), ((F_NM_setBits x4 x5 (p314.1 : Int64) t0_0 t0_1 t0_2 t17_0) : (Nat → Int64)))
def F_NM_toFloat_c121 (x2 : Int32) (x3 : Int32) (x4 : Int32) (x5 : Int32) (t0_0 : Int32) (t0_1 : Int32) (t0_2 : Int32) (t1_0 : Int32) (t1_1 : Int32) (t1_2 : Int32) (t1_3 : Int32) (t1_4 : Int32) (t1_5 : Int32) (t1_6 : Int32) (t2_0 : (Nat → Int32)) (t3_0 : (Nat → Int32)) (t4_0 : (Nat → Int32)) (t5_0 : (Nat → Int32)) (t6_0 : Int32) (t6_1 : Int32) (t6_2 : Int32) (t6_3 : Int64) (t6_4 : Int32) (t6_5 : Int32) (t6_6 : Int32) (t6_7 : Int32) (t6_8 : Int32) (t6_9 : Int32) (t6_10 : Int32) (t7_0 : (Nat → Int32)) (t8_0 : (Nat → Int32)) (t9_0 : (Nat → Int32)) (t10_0 : (Nat → Int32)) (t11_0 : (Nat → Int32)) (t12_0 : Int32) (t12_1 : Int32) (t12_2 : Int32) (t12_3 : Int32) (t12_4 : Int64) (t12_5 : Int32) (t12_6 : Int32) (t12_7 : Int64) (t12_8 : Int32) (t12_9 : Int64) (t12_10 : Int32) (t13_0 : Int32) (t13_1 : Int32) (t13_2 : Int32) (t13_3 : Int32) (t13_4 : Int32) (t13_5 : Int32) (t13_6 : Int32) (t13_7 : Int64) (t13_8 : Int32) (t13_9 : Int32) (t13_10 : Int64) (t13_11 : Int64) (t13_12 : Int32) (t13_13 : Int32) (t14_0 : (Nat → Int32)) (t15_0 : (Nat → Int32)) (t16_0 : (Nat → Int32)) (t17_0 : (Nat → Int64)) (p157 : (Int32 × Int32 × Int32 × Int32 × Int64 × Int32 × Int32 × Int32 × Int32 × Int32 × Int32 × Int32 × (Nat → Int32))) (a119 : Int32) (y121 : Int32) (y122 : Int32) (y123 : Int32) (y124 : Int64) (y125 : Int32) (y126 : Int32) (y127 : Int32) (y128 : Int32) (y129 : Int32) (y130 : Int32) (y131 : Int32) (f132 : (Nat → Int32)) (p190 : (Int32 × (Nat → Int32))) : Int32 × Int32 × Int32 × Int32 × Int32 × Int32 × Int32 × (Nat → Int32) × (Nat → Int32) × Int32 × Int32 × Int32 × Int64 × Int32 × Int32 × Int32 × Int32 × Int32 × Int32 × Int32 × (Nat → Int32) × Int32 × Int32 × Int32 × Int32 × Int64 × Int32 × Int32 × Int64 × Int32 × Int64 × Int32 × Int32 × Int32 × Int32 × Int32 × Int32 × Int32 × Int32 × Int64 × Int32 × Int32 × Int64 × Int64 × Int32 × Int32 × (Nat → Int32) × (Nat → Int32) × (Nat → Int32) × (Nat → Int64) := if x4 = (2 : Int32) then (F_NM_toFloat_c136 x2 x3 x4 x5 t0_0 t0_1 t0_2 t1_0 t1_1 t1_2 t1_3 t1_4 t1_5 t1_6 t2_0 t3_0 t4_0 t5_0 t6_0 t6_1 t6_2 t6_3 t6_4 t6_5 t6_6 t6_7 t6_8 t6_9 t6_10 t7_0 t8_0 t9_0 t10_0 t11_0 t12_0 t12_1 t12_2 t12_3 t12_4 t12_5 t12_6 t12_7 t12_8 t12_9 t12_10 t13_0 t13_1 t13_2 t13_3 t13_4 t13_5 t13_6 t13_7 t13_8 t13_9 t13_10 t13_11 t13_12 t13_13 t14_0 t15_0 t16_0 t17_0 p157 a119 y121 y122 y123 y124 y125 y126 y127 y128 y129 y130 y131 f132 p190 (p190.2 : (Nat → Int32)) ((F_TR_bits t13_0 (p190.1 : Int32) t13_2 t13_3 t13_4 t13_5 t13_6 t13_7 t13_8 t13_9 t13_10 t13_11 t13_12 t13_13 (p190.2 : (Nat → Int32)) t15_0 t16_0) : (Int64 × Int32 × Int32 × Int32 × Int32 × Int32 × Int32 × Int32 × Int64 × Int32 × Int32 × Int64 × Int64 × Int32 × Int32 × (Nat → Int32) × (Nat → Int32)))) else (F_NM_toFloat_c146 x2 x3 x4 x5 t0_0 t0_1 t0_2 t1_0 t1_1 t1_2 t1_3 t1_4 t1_5 t1_6 t2_0 t3_0 t4_0 t5_0 t6_0 t6_1 t6_2 t6_3 t6_4 t6_5 t6_6 t6_7 t6_8 t6_9 t6_10 t7_0 t8_0 t9_0 t10_0 t11_0 t12_0 t12_1 t12_2 t12_3 t12_4 t12_5 t12_6 t12_7 t12_8 t12_9 t12_10 t13_0 t13_1 t13_2 t13_3 t13_4 t13_5 t13_6 t13_7 t13_8 t13_9 t13_10 t13_11 t13_12 t13_13 t14_0 t15_0 t16_0 t17_0 p157 a119 y121 y122 y123 y124 y125 y126 y127 y128 y129 y130 y131 f132 p190 (p190.2 : (Nat → Int32)) ((F_TR_floatBits t13_0 (p190.1 : Int32) t13_2 t13_3 t13_4 t13_5 t13_6 t13_7 t13_8 t13_9 t13_10 t13_11 t13_12 t13_13 (p190.2 : (Nat → Int32)) t15_0 t16_0) : (Int32 × Int32 × Int32 × Int32 × Int32 × Int32 × Int32 × Int32 × Int64 × Int32 × Int32 × Int64 × Int64 × Int32 × Int32 × (Nat → Int32) × (Nat → Int32))))
def F_NM_toFloat_c82 (x2 : Int32) (x3 : Int32) (x4 : Int32) (x5 : Int32) (t0_0 : Int32) (t0_1 : Int32) (t0_2 : Int32) (t1_0 : Int32) (t1_1 : Int32) (t1_2 : Int32) (t1_3 : Int32) (t1_4 : Int32) (t1_5 : Int32) (t1_6 : Int32) (t2_0 : (Nat → Int32)) (t3_0 : (Nat → Int32)) (t4_0 : (Nat → Int32)) (t5_0 : (Nat → Int32)) (t6_0 : Int32) (t6_1 : Int32) (t6_2 : Int32) (t6_3 : Int64) (t6_4 : Int32) (t6_5 : Int32) (t6_6 : Int32) (t6_7 : Int32) (t6_8 : Int32) (t6_9 : Int32) (t6_10 : Int32) (t7_0 : (Nat → Int32)) (t8_0 : (Nat → Int32)) (t9_0 : (Nat → Int32)) (t10_0 : (Nat → Int32)) (t11_0 : (Nat → Int32)) (t12_0 : Int32) (t12_1 : Int32) (t12_2 : Int32) (t12_3 : Int32) (t12_4 : Int64) (t12_5 : Int32) (t12_6 : Int32) (t12_7 : Int64) (t12_8 : Int32) (t12_9 : Int64) (t12_10 : Int32) (t13_0 : Int32) (t13_1 : Int32) (t13_2 : Int32) (t13_3 : Int32) (t13_4 : Int32) (t13_5 : Int32) (t13_6 : Int32) (t13_7 : Int64) (t13_8 : Int32) (t13_9 : Int32) (t13_10 : Int64) (t13_11 : Int64) (t13_12 : Int32) (t13_13 : Int32) (t14_0 : (Nat → Int32)) (t15_0 : (Nat → Int32)) (t16_0 : (Nat → Int32)) (t17_0 : (Nat → Int64)) (p157 : (Int32 × Int32 × Int32 × Int32 × Int64 × Int32 × Int32 × Int32 × Int32 × Int32 × Int32 × Int32 × (Nat → Int32))) : Int32 × Int32 × Int32 × Int32 × Int32 × Int32 × Int32 × (Nat → Int32) × (Nat → Int32) × Int32 × Int32 × Int32 × Int64 × Int32 × Int32 × Int32 × Int32 × Int32 × Int32 × Int32 × (Nat → Int32) × Int32 × Int32 × Int32 × Int32 × Int64 × Int32 × Int32 × Int64 × Int32 × Int64 × Int32 × Int32 × Int32 × Int32 × Int32 × Int32 × Int32 × Int32 × Int64 × Int32 × Int32 × Int64 × Int64 × Int32 × Int32 × (Nat → Int32) × (Nat → Int32) × (Nat → Int32) × (Nat → Int64) := F_NM_toFloat_c121 x2 x3 x4 x5 t0_0 t0_1 t0_2 t1_0 t1_1 t1_2 t1_3 t1_4 t1_5 t1_6 t2_0 t3_0 t4_0 t5_0 t6_0 t6_1 t6_2 t6_3 t6_4 t6_5 t6_6 t6_7 t6_8 t6_9 t6_10 t7_0 t8_0 t9_0 t10_0 t11_0 t12_0 t12_1 t12_2 t12_3 t12_4 t12_5 t12_6 t12_7 t12_8 t12_9 t12_10 t13_0 t13_1 t13_2 t13_3 t13_4 t13_5 t13_6 t13_7 t13_8 t13_9 t13_10 t13_11 t13_12 t13_13 t14_0 t15_0 t16_0 t17_0 p157 (p157.1 : Int32) (p157.2.1 : Int32) (p157.2.2.1 : Int32) (p157.2.2.2.1 : Int32) (p157.2.2.2.2.1 : Int64) (p157.2.2.2.2.2.1 : Int32) (p157.2.2.2.2.2.2.1 : Int32) (p157.2.2.2.2.2.2.2.1 : Int32) (p157.2.2.2.2.2.2.2.2.1 : Int32) (p157.2.2.2.2.2.2.2.2.2.1 : Int32) (p157.2.2.2.2.2.2.2.2.2.2.1 : Int32) (p157.2.2.2.2.2.2.2.2.2.2.2.1 : Int32) (p157.2.2.2.2.2.2.2.2.2.2.2.2 : (Nat → Int32)) ((F_NM_load (12200 : Int32) (p157.1 : Int32) (4100 : Int32) (p157.2.2.2.2.2.2.2.2.2.2.2.2 : (Nat → Int32)) t14_0) : (Int32 × (Nat → Int32)))
def F_NM_toFloat_c146_7 (x2 : Int32) (x3 : Int32) (x4 : Int32) (x5 : Int32) (t0_0 : Int32) (t0_1 : Int32) (t0_2 : Int32) (t1_0 : Int32) (t1_1 : Int32) (t1_2 : Int32) (t1_3 : Int32) (t1_4 : Int32) (t1_5 : Int32) (t1_6 : Int32) (t2_0 : (Nat → Int32)) (t3_0 : (Nat → Int32)) (t4_0 : (Nat → Int32)) (t5_0 : (Nat → Int32)) (t6_0 : Int32) (t6_1 : Int32) (t6_2 : Int32) (t6_3 : Int64) (t6_4 : Int32) (t6_5 : Int32) (t6_6 : Int32) (t6_7 : Int32) (t6_8 : Int32) (t6_9 : Int32) (t6_10 : Int32) (t7_0 : (Nat → Int32)) (t8_0 : (Nat → Int32)) (t9_0 : (Nat → Int32)) (t10_0 : (Nat → Int32)) (t11_0 : (Nat → Int32)) (t12_0 : Int32) (t12_1 : Int32) (t12_2 : Int32) (t12_3 : Int32) (t12_4 : Int64) (t12_5 : Int32) (t12_6 : Int32) (t12_7 : Int64) (t12_8 : Int32) (t12_9 : Int64) (t12_10 : Int32) (t13_0 : Int32) (t13_1 : Int32) (t13_2 : Int32) (t13_3 : Int32) (t13_4 : Int32) (t13_5 : Int32) (t13_6 : Int32) (t13_7 : Int64) (t13_8 : Int32) (t13_9 : Int32) (t13_10 : Int64) (t13_11 : Int64) (t13_12 : Int32) (t13_13 : Int32) (t14_0 : (Nat → Int32)) (t15_0 : (Nat → Int32)) (t16_0 : (Nat → Int32)) (t17_0 : (Nat → Int64)) (p383 : (Int32 × Int32 × Int32 × Int32 × Int32 × Int32 × Int32 × Int32 × (Nat → Int32) × (Nat → Int32))) (a352 : Int32) (y354 : Int32) (y355 : Int32) (y356 : Int32) (y357 : Int32) (y358 : Int32) (y359 : Int32) (y360 : Int32) (f361 : (Nat → Int32)) (f363 : (Nat → Int32)) (p413 : (Int32 × (Nat → Int32))) (f405 : (Nat → Int32)) (p461 : (Int32 × Int32 × Int32 × Int32 × Int32 × Int32 × Int32 × Int32 × Int64 × Int32 × Int32 × Int64 × Int64 × Int32 × Int32 × (Nat → Int32) × (Nat → Int32))) : Int32 × Int32 × Int32 × Int32 × Int32 × Int32 × Int32 × (Nat → Int32) × (Nat → Int32) × Int32 × Int32 × Int32 × Int64 × Int32 × Int32 × Int32 × Int32 × Int32 × Int32 × Int32 × (Nat → Int32) × Int32 × Int32 × Int32 × Int32 × Int64 × Int32 × Int32 × Int64 × Int32 × Int64 × Int32 × Int32 × Int32 × Int32 × Int32 × Int32 × Int32 × Int32 × Int64 × Int32 × Int32 × Int64 × Int64 × Int32 × Int32 × (Nat → Int32) × (Nat → Int32) × (Nat → Int32) × (Nat → Int64) := (y354, y355, y356, y357, y358, y359, y360, f361, f363, t6_0, t6_1, t6_2, t6_3, t6_4, t6_5, t6_6, t6_7, t6_8, t6_9, t6_10, t11_0, t12_0, t12_1, t12_2, t12_3, t12_4, t12_5, t12_6, t12_7, t12_8, t12_9, t12_10, (p461.2.1 : Int32), (0 : Int32), (p461.2.2.2.1 : Int32), (p461.2.2.2.2.1 : Int32), (p461.2.2.2.2.2.1 : Int32), (p461.2.2.2.2.2.2.1 : Int32), (p461.2.2.2.2.2.2.2.1 : Int32), (p461.2.2.2.2.2.2.2.2.1 : Int64), (p461.2.2.2.2.2.2.2.2.2.1 : Int32), (p461.2.2.2.2.2.2.2.2.2.2.1 : Int32), (p461.2.2.2.2.2.2.2.2.2.2.2.1 : Int64), (p461.2.2.2.2.2.2.2.2.2.2.2.2.1 : Int64), (p461.2.2.2.2.2.2.2.2.2.2.2.2.2.1 : Int32), (p461.2.2.2.2.2.2.2.2.2.2.2.2.2.2.1 : Int32), f405, (p461.2.2.2.2.2.2.2.2.2.2.2.2.2.2.2.1 : (Nat → Int32)), (p461.2.2.2.2.2.2.2.2.2.2.2.2.2.2.2.2 : (Nat → Int32)), ((F_NM_setBits x4 x5 (((p461.1 : Int32).toInt64 : Int64) &&& 4294967295 : Int64) t0_0 t0_1 t0_2 t17_0) : (Nat → Int64)))
def F_NM_toFloat_c136_8 (x2 : Int32) (x3 : Int32) (x4 : Int32) (x5 : Int32) (t0_0 : Int32) (t0_1 : Int32) (t0_2 : Int32) (t1_0 : Int32) (t1_1 : Int32) (t1_2 : Int32) (t1_3 : Int32) (t1_4 : Int32) (t1_5 : Int32) (t1_6 : Int32) (t2_0 : (Nat → Int32)) (t3_0 : (Nat → Int32)) (t4_0 : (Nat → Int32)) (t5_0 : (Nat → Int32)) (t6_0 : Int32) (t6_1 : Int32) (t6_2 : Int32) (t6_3 : Int64) (t6_4 : Int32) (t6_5 : Int32) (t6_6 : Int32) (t6_7 : Int32) (t6_8 : Int32) (t6_9 : Int32) (t6_10 : Int32) (t7_0 : (Nat → Int32)) (t8_0 : (Nat → Int32)) (t9_0 : (Nat → Int32)) (t10_0 : (Nat → Int32)) (t11_0 : (Nat → Int32)) (t12_0 : Int32) (t12_1 : Int32) (t12_2 : Int32) (t12_3 : Int32) (t12_4 : Int64) (t12_5 : Int32) (t12_6 : Int32) (t12_7 : Int64) (t12_8 : Int32) (t12_9 : Int64) (t12_10 : Int32) (t13_0 : Int32) (t13_1 : Int32) (t13_2 : Int32) (t13_3 : Int32) (t13_4 : Int32) (t13_5 : Int32) (t13_6 : Int32) (t13_7 : Int64) (t13_8 : Int32) (t13_9 : Int32) (t13_10 : Int64) (t13_11 : Int64) (t13_12 : Int32) (t13_13 : Int32) (t14_0 : (Nat → Int32)) (t15_0 : (Nat → Int32)) (t16_0 : (Nat → Int32)) (t17_0 : (Nat → Int64)) (p383 : (Int32 × Int32 × Int32 × Int32 × Int32 × Int32 × Int32 × Int32 × (Nat → Int32) × (Nat → Int32))) (a352 : Int32) (y354 : Int32) (y355 : Int32) (y356 : Int32) (y357 : Int32) (y358 : Int32) (y359 : Int32) (y360 : Int32) (f361 : (Nat → Int32)) (f363 : (Nat → Int32)) (p413 : (Int32 × (Nat → Int32))) (f405 : (Nat → Int32)) (p537 : (Int64 × Int32 × Int32 × Int32 × Int32 × Int32 × Int32 × Int32 × Int64 × Int32 × Int32 × Int64 × Int64 × Int32 × Int32 × (Nat → Int32) × (Nat → Int32))) : Int32 × Int32 × Int32 × Int32 × Int32 × Int32 × Int32 × (Nat → Int32) × (Nat → Int32) × Int32 × Int32 × Int32 × Int64 × Int32 × Int32 × Int32 × Int32 × Int32 × Int32 × Int32 × (Nat → Int32) × Int32 × Int32 × Int32 × Int32 × Int64 × Int32 × Int32 × Int64 × Int32 × Int64 × Int32 × Int32 × Int32 × Int32 × Int32 × Int32 × Int32 × Int32 × Int64 × Int32 × Int32 × Int64 × Int64 × Int32 × Int32 × (Nat → Int32) × (Nat → Int32) × (Nat → Int32) × (Nat → Int64) := (y354, y355, y356, y357, y358, y359, y360, f361, f363, t6_0, t6_1, t6_2, t6_3, t6_4, t6_5, t6_6, t6_7, t6_8, t6_9, t6_10, t11_0, t12_0, t12_1, t12_2, t12_3, t12_4, t12_5, t12_6, t12_7, t12_8, t12_9, t12_10, (p537.2.1 : Int32), (0 : Int32), (p537.2.2.2.1 : Int32), (p537.2.2.2.2.1 : Int32), (p537.2.2.2.2.2.1 : Int32), (p537.2.2.2.2.2.2.1 : Int32), (p537.2.2.2.2.2.2.2.1 : Int32), (p537.2.2.2.2.2.2.2.2.1 : Int64), (p537.2.2.2.2.2.2.2.2.2.1 : Int32), (p537.2.2.2.2.2.2.2.2.2.2.1 : Int32), (p537.2.2.2.2.2.2.2.2.2.2.2.1 : Int64), (p537.2.2.2.2.2.2.2.2.2.2.2.2.1 : Int64), (p537.2.2.2.2.2.2.2.2.2.2.2.2.2.1 : Int32), (p537.2.2.2.2.2.2.2.2.2.2.2.2.2.2.1 : Int32), f405, (p537.2.2.2.2.2.2.2.2.2.2.2.2.2.2.2.1 : (Nat → Int32)), (p537.2.2.2.2.2.2.2.2.2.2.2.2.2.2.2.2 : (Nat → Int32)), ((F_NM_setBits x4 x5 (p537.1 : Int64) t0_0 t0_1 t0_2 t17_0) : (Nat → Int64)))
def F_NM_toFloat_c121_6 (x2 : Int32) (x3 : Int32) (x4 : Int32) (x5 : Int32) (t0_0 : Int32) (t0_1 : Int32) (t0_2 : Int32) (t1_0 : Int32) (t1_1 : Int32) (t1_2 : Int32) (t1_3 : Int32) (t1_4 : Int32) (t1_5 : Int32) (t1_6 : Int32) (t2_0 : (Nat → Int32)) (t3_0 : (Nat → Int32)) (t4_0 : (Nat → Int32)) (t5_0 : (Nat → Int32)) (t6_0 : Int32) (t6_1 : Int32) (t6_2 : Int32) (t6_3 : Int64) (t6_4 : Int32) (t6_5 : Int32) (t6_6 : Int32) (t6_7 : Int32) (t6_8 : Int32) (t6_9 : Int32) (t6_10 : Int32) (t7_0 : (Nat → Int32)) (t8_0 : (Nat → Int32)) (t9_0 : (Nat → Int32)) (t10_0 : (Nat → Int32)) (t11_0 : (Nat → Int32)) (t12_0 : Int32) (t12_1 : Int32) (t12_2 : Int32) (t12_3 : Int32) (t12_4 : Int64) (t12_5 : Int32) (t12_6 : Int32) (t12_7 : Int64) (t12_8 : Int32) (t12_9 : Int64) (t12_10 : Int32) (t13_0 : Int32) (t13_1 : Int32) (t13_2 : Int32) (t13_3 : Int32) (t13_4 : Int32) (t13_5 : Int32) (t13_6 : Int32) (t13_7 : Int64) (t13_8 : Int32) (t13_9 : Int32) (t13_10 : Int64) (t13_11 : Int64) (t13_12 : Int32) (t13_13 : Int32) (t14_0 : (Nat → Int32)) (t15_0 : (Nat → Int32)) (t16_0 : (Nat → Int32)) (t17_0 : (Nat → Int64)) (p383 : (Int32 × Int32 × Int32 × Int32 × Int32 × Int32 × Int32 × Int32 × (Nat → Int32) × (Nat → Int32))) (a352 : Int32) (y354 : Int32) (y355 : Int32) (y356 : Int32) (y357 : Int32) (y358 : Int32) (y359 : Int32) (y360 : Int32) (f361 : (Nat → Int32)) (f363 : (Nat → Int32)) (p413 : (Int32 × (Nat → Int32))) : Int32 × Int32 × Int32 × Int32 × Int32 × Int32 × Int32 × (Nat → Int32) × (Nat → Int32) × Int32 × Int32 × Int32 × Int64 × Int32 × Int32 × Int32 × Int32 × Int32 × Int32 × Int32 × (Nat → Int32) × Int32 × Int32 × Int32 × Int32 × Int64 × Int32 × Int32 × Int64 × Int32 × Int64 × Int32 × Int32 × Int32 × Int32 × Int32 × Int32 × Int32 × Int32 × Int64 × Int32 × Int32 × Int64 × Int64 × Int32 × Int32 × (Nat → Int32) × (Nat → Int32) × (Nat → Int32) × (Nat → Int64) := if x4 = (2 : Int32) then (F_NM_toFloat_c136_8 x2 x3 x4 x5 t0_0 t0_1 t0_2 t1_0 t1_1 t1_2 t1_3 t1_4 t1_5 t1_6 t2_0 t3_0 t4_0 t5_0 t6_0 t6_1 t6_2 t6_3 t6_4 t6_5 t6_6 t6_7 t6_8 t6_9 t6_10 t7_0 t8_0 t9_0 t10_0 t11_0 t12_0 t12_1 t12_2 t12_3 t12_4 t12_5 t12_6 t12_7 t12_8 t12_9 t12_10 t13_0 t13_1 t13_2 t13_3 t13_4 t13_5 t13_6 t13_7 t13_8 t13_9 t13_10 t13_11 t13_12 t13_13 t14_0 t15_0 t16_0 t17_0 p383 a352 y354 y355 y356 y357 y358 y359 y360 f361 f363 p413 (p413.2 : (Nat → Int32)) ((F_TR_bits t13_0 (p413.1 : Int32) t13_2 t13_3 t13_4 t13_5 t13_6 t13_7 t13_8 t13_9 t13_10 t13_11 t13_12 t13_13 (p413.2 : (Nat → Int32)) t15_0 t16_0) : (Int64 × Int32 × Int32 × Int32 × Int32 × Int32 × Int32 × Int32 × Int64 × Int32 × Int32 × Int64 × Int64 × Int32 × Int32 × (Nat → Int32) × (Nat → Int32)))) else (F_NM_toFloat_c146_7 x2 x3 x4 x5 t0_0 t0_1 t0_2 t1_0 t1_1 t1_2 t1_3 t1_4 t1_5 t1_6 t2_0 t3_0 t4_0 t5_0 t6_0 t6_1 t6_2 t6_3 t6_4 t6_5 t6_6 t6_7 t6_8 t6_9 t6_10 t7_0 t8_0 t9_0 t10_0 t11_0 t12_0 t12_1 t12_2 t12_3 t12_4 t12_5 t12_6 t12_7 t12_8 t12_9 t12_10 t13_0 t13_1 t13_2 t13_3 t13_4 t13_5 t13_6 t13_7 t13_8 t13_9 t13_10 t13_11 t13_12 t13_13 t14_0 t15_0 t16_0 t17_0 p383 a352 y354 y355 y356 y357 y358 y359 y360 f361 f363 p413 (p413.2 : (Nat → Int32)) ((F_TR_floatBits t13_0 (p413.1 : Int32) t13_2 t13_3 t13_4 t13_5 t13_6 t13_7 t13_8 t13_9 t13_10 t13_11 t13_12 t13_13 (p413.2 : (Nat → Int32)) t15_0 t16_0) : (Int32 × Int32 × Int32 × Int32 × Int32 × Int32 × Int32 × Int32 × Int64 × Int32 × Int32 × Int64 × Int64 × Int32 × Int32 × (Nat → Int32) × (Nat → Int32))))
def F_NM_toFloat_c70 (x2 : Int32) (x3 : Int32) (x4 : Int32) (x5 : Int32) (t0_0 : Int32) (t0_1 : Int32) (t0_2 : Int32) (t1_0 : Int32) (t1_1 : Int32) (t1_2 : Int32) (t1_3 : Int32) (t1_4 : Int32) (t1_5 : Int32) (t1_6 : Int32) (t2_0 : (Nat → Int32)) (t3_0 : (Nat → Int32)) (t4_0 : (Nat → Int32)) (t5_0 : (Nat → Int32)) (t6_0 : Int32) (t6_1 : Int32) (t6_2 : Int32) (t6_3 : Int64) (t6_4 : Int32) (t6_5 : Int32) (t6_6 : Int32) (t6_7 : Int32) (t6_8 : Int32) (t6_9 : Int32) (t6_10 : Int32) (t7_0 : (Nat → Int32)) (t8_0 : (Nat → Int32)) (t9_0 : (Nat → Int32)) (t10_0 : (Nat → Int32)) (t11_0 : (Nat → Int32)) (t12_0 : Int32) (t12_1 : Int32) (t12_2 : Int32) (t12_3 : Int32) (t12_4 : Int64) (t12_5 : Int32) (t12_6 : Int32) (t12_7 : Int64) (t12_8 : Int32) (t12_9 : Int64) (t12_10 : Int32) (t13_0 : Int32) (t13_1 : Int32) (t13_2 : Int32) (t13_3 : Int32) (t13_4 : Int32) (t13_5 : Int32) (t13_6 : Int32) (t13_7 : Int64) (t13_8 : Int32) (t13_9 : Int32) (t13_10 : Int64) (t13_11 : Int64) (t13_12 : Int32) (t13_13 : Int32) (t14_0 : (Nat → Int32)) (t15_0 : (Nat → Int32)) (t16_0 : (Nat → Int32)) (t17_0 : (Nat → Int64)) (p383 : (Int32 × Int32 × Int32 × Int32 × Int32 × Int32 × Int32 × Int32 × (Nat → Int32) × (Nat → Int32))) : Int32 × Int32 × Int32 × Int32 × Int32 × Int32 × Int32 × (Nat → Int32) × (Nat → Int32) × Int32 × Int32 × Int32 × Int64 × Int32 × Int32 × Int32 × Int32 × Int32 × Int32 × Int32 × (Nat → Int32) × Int32 × Int32 × Int32 × Int32 × Int64 × Int32 × Int32 × Int64 × Int32 × Int64 × Int32 × Int32 × Int32 × Int32 × Int32 × Int32 × Int32 × Int32 × Int64 × Int32 × Int32 × Int64 × Int64 × Int32 × Int32 × (Nat → Int32) × (Nat → Int32) × (Nat → Int32) × (Nat → Int64) := F_NM_toFloat_c121_6 x2 x3 x4 x5 t0_0 t0_1 t0_2 t1_0 t1_1 t1_2 t1_3 t1_4 t1_5 t1_6 t2_0 t3_0 t4_0 t5_0 t6_0 t6_1 t6_2 t6_3 t6_4 t6_5 t6_6 t6_7 t6_8 t6_9 t6_10 t7_0 t8_0 t9_0 t10_0 t11_0 t12_0 t12_1 t12_2 t12_3 t12_4 t12_5 t12_6 t12_7 t12_8 t12_9 t12_10 t13_0 t13_1 t13_2 t13_3 t13_4 t13_5 t13_6 t13_7 t13_8 t13_9 t13_10 t13_11 t13_12 t13_13 t14_0 t15_0 t16_0 t17_0 p383 (p383.1 : Int32) (p383.2.1 : Int32) (p383.2.2.1 : Int32) (p383.2.2.2.1 : Int32) (p383.2.2.2.2.1 : Int32) (p383.2.2.2.2.2.1 : Int32) (p383.2.2.2.2.2.2.1 : Int32) (p383.2.2.2.2.2.2.2.1 : Int32) (p383.2.2.2.2.2.2.2.2.1 : (Nat → Int32)) (p383.2.2.2.2.2.2.2.2.2 : (Nat → Int32)) ((F_NM_load (2100 : Int32) (p383.1 : Int32) (4100 : Int32) (p383.2.2.2.2.2.2.2.2.2 : (Nat → Int32)) t14_0) : (Int32 × (Nat → Int32)))
def F_NM_toFloat_c51 (x2 : Int32) (x3 : Int32) (x4 : Int32) (x5 : Int32) (t0_0 : Int32) (t0_1 : Int32) (t0_2 : Int32) (t1_0 : Int32) (t1_1 : Int32) (t1_2 : Int32) (t1_3 : Int32) (t1_4 : Int32) (t1_5 : Int32) (t1_6 : Int32) (t2_0 : (Nat → Int32)) (t3_0 : (Nat → Int32)) (t4_0 : (Nat → Int32)) (t5_0 : (Nat → Int32)) (t6_0 : Int32) (t6_1 : Int32) (t6_2 : Int32) (t6_3 : Int64) (t6_4 : Int32) (t6_5 : Int32) (t6_6 : Int32) (t6_7 : Int32) (t6_8 : Int32) (t6_9 : Int32) (t6_10 : Int32) (t7_0 : (Nat → Int32)) (t8_0 : (Nat → Int32)) (t9_0 : (Nat → Int32)) (t10_0 : (Nat → Int32)) (t11_0 : (Nat → Int32)) (t12_0 : Int32) (t12_1 : Int32) (t12_2 : Int32) (t12_3 : Int32) (t12_4 : Int64) (t12_5 : Int32) (t12_6 : Int32) (t12_7 : Int64) (t12_8 : Int32) (t12_9 : Int64) (t12_10 : Int32) (t13_0 : Int32) (t13_1 : Int32) (t13_2 : Int32) (t13_3 : Int32) (t13_4 : Int32) (t13_5 : Int32) (t13_6 : Int32) (t13_7 : Int64) (t13_8 : Int32) (t13_9 : Int32) (t13_10 : Int64) (t13_11 : Int64) (t13_12 : Int32) (t13_13 : Int32) (t14_0 : (Nat → Int32)) (t15_0 : (Nat → Int32)) (t16_0 : (Nat → Int32)) (t17_0 : (Nat → Int64)) (j575 : Int64) (p610 : (Int64 × Int32 × Int32 × Int32 × Int32 × Int64 × Int32 × Int32 × Int64 × Int32 × Int64 × Int32)) : Int32 × Int32 × Int32 × Int32 × Int32 × Int32 × Int32 × (Nat → Int32) × (Nat → Int32) × Int32 × Int32 × Int32 × Int64 × Int32 × Int32 × Int32 × Int32 × Int32 × Int32 × Int32 × (Nat → Int32) × Int32 × Int32 × Int32 × Int32 × Int64 × Int32 × Int32 × Int64 × Int32 × Int64 × Int32 × Int32 × Int32 × Int32 × Int32 × Int32 × Int32 × Int32 × Int64 × Int32 × Int32 × Int64 × Int64 × Int32 × Int32 × (Nat → Int32) × (Nat → Int32) × (Nat → Int32) × (Nat → Int64) := (t1_0, t1_1, t1_2, t1_3, t1_4, t1_5, t1_6, t4_0, t5_0, t6_0, t6_1, t6_2, t6_3, t6_4, t6_5, t6_6, t6_7, t6_8, t6_9, t6_10, t11_0, (p610.2.1 : Int32), (p610.2.2.1 : Int32), (p610.2.2.2.1 : Int32), (p610.2.2.2.2.1 : Int32), (p610.2.2.2.2.2.1 : Int64), (p610.2.2.2.2.2.2.1 : Int32), (p610.2.2.2.2.2.2.2.1 : Int32), (p610.2.2.2.2.2.2.2.2.1 : Int64), (p610.2.2.2.2.2.2.2.2.2.1 : Int32), (p610.2.2.2.2.2.2.2.2.2.2.1 : Int64), (p610.2.2.2.2.2.2.2.2.2.2.2 : Int32), t13_0, t13_1, t13_2, t13_3, t13_4, t13_5, t13_6, t13_7, t13_8, t13_9, t13_10, t13_11, t13_12, t13_13, t14_0, t15_0, t16_0, ((F_NM_setBits x4 x5 (p610.1 : Int64) t0_0 t0_1 t0_2 t17_0) : (Nat → Int64)))
def F_NM_toFloat_c39 (x2 : Int32) (x3 : Int32) (x4 : Int32) (x5 : Int32) (t0_0 : Int32) (t0_1 : Int32) (t0_2 : Int32) (t1_0 : Int32) (t1_1 : Int32) (t1_2 : Int32) (t1_3 : Int32) (t1_4 : Int32) (t1_5 : Int32) (t1_6 : Int32) (t2_0 : (Nat → Int32)) (t3_0 : (Nat → Int32)) (t4_0 : (Nat → Int32)) (t5_0 : (Nat → Int32)) (t6_0 : Int32) (t6_1 : Int32) (t6_2 : Int32) (t6_3 : Int64) (t6_4 : Int32) (t6_5 : Int32) (t6_6 : Int32) (t6_7 : Int32) (t6_8 : Int32) (t6_9 : Int32) (t6_10 : Int32) (t7_0 : (Nat → Int32)) (t8_0 : (Nat → Int32)) (t9_0 : (Nat → Int32)) (t10_0 : (Nat → Int32)) (t11_0 : (Nat → Int32)) (t12_0 : Int32) (t12_1 : Int32) (t12_2 : Int32) (t12_3 : Int32) (t12_4 : Int64) (t12_5 : Int32) (t12_6 : Int32) (t12_7 : Int64) (t12_8 : Int32) (t12_9 : Int64) (t12_10 : Int32) (t13_0 : Int32) (t13_1 : Int32) (t13_2 : Int32) (t13_3 : Int32) (t13_4 : Int32) (t13_5 : Int32) (t13_6 : Int32) (t13_7 : Int64) (t13_8 : Int32) (t13_9 : Int32) (t13_10 : Int64) (t13_11 : Int64) (t13_12 : Int32) (t13_13 : Int32) (t14_0 : (Nat → Int32)) (t15_0 : (Nat → Int32)) (t16_0 : (Nat → Int32)) (t17_0 : (Nat → Int64)) (j575 : Int64) (p677 : (Int64 × Int32 × Int32 × Int32 × Int32 × Int64 × Int32 × Int32 × Int64 × Int32 × Int64 × Int32)) : Int32 × Int32 × Int32 × Int32 × Int32 × Int32 × Int32 × (Nat → Int32) × (Nat → Int32) × Int32 × Int32 × Int32 × Int64 × Int32 × Int32 × Int32 × Int32 × Int32 × Int32 × Int32 × (Nat → Int32) × Int32 × Int32 × Int32 × Int32 × Int64 × Int32 × Int32 × Int64 × Int32 × Int64 × Int32 × Int32 × Int32 × Int32 × Int32 × Int32 × Int32 × Int32 × Int64 × Int32 × Int32 × Int64 × Int64 × Int32 × Int32 × (Nat → Int32) × (Nat → Int32) × (Nat → Int32) × (Nat → Int64) := (t1_0, t1_1, t1_2, t1_3, t1_4, t1_5, t1_6, t4_0, t5_0, t6_0, t6_1, t6_2, t6_3, t6_4, t6_5, t6_6, t6_7, t6_8, t6_9, t6_10, t11_0, (p677.2.1 : Int32), (p677.2.2.1 : Int32), (p677.2.2.2.1 : Int32), (p677.2.2.2.2.1 : Int32), (p677.2.2.2.2.2.1 : Int64), (p677.2.2.2.2.2.2.1 : Int32), (p677.2.2.2.2.2.2.2.1 : Int32), (p677.2.2.2.2.2.2.2.2.1 : Int64), (p677.2.2.2.2.2.2.2.2.2.1 : Int32), (p677.2.2.2.2.2.2.2.2.2.2.1 : Int64), (p677.2.2.2.2.2.2.2.2.2.2.2 : Int32), t13_0, t13_1, t13_2, t13_3, t13_4, t13_5, t13_6, t13_7, t13_8, t13_9, t13_10, t13_11, t13_12, t13_13, t14_0, t15_0, t16_0, ((F_NM_setBits x4 x5 (p677.1 : Int64) t0_0 t0_1 t0_2 t17_0) : (Nat → Int64)))
def F_NM_toFloat (x2 : Int32) (x3 : Int32) (x4 : Int32) (x5 : Int32) (t0_0 : Int32) (t0_1 : Int32) (t0_2 : Int32) (t1_0 : Int32) (t1_1 : Int32) (t1_2 : Int32) (t1_3 : Int32) (t1_4 : Int32) (t1_5 : Int32) (t1_6 : Int32) (t2_0 : (Nat → Int32)) (t3_0 : (Nat → Int32)) (t4_0 : (Nat → Int32)) (t5_0 : (Nat → Int32)) (t6_0 : Int32) (t6_1 : Int32) (t6_2 : Int32) (t6_3 : Int64) (t6_4 : Int32) (t6_5 : Int32) (t6_6 : Int32) (t6_7 : Int32) (t6_8 : Int32) (t6_9 : Int32) (t6_10 : Int32) (t7_0 : (Nat → Int32)) (t8_0 : (Nat → Int32)) (t9_0 : (Nat → Int32)) (t10_0 : (Nat → Int32)) (t11_0 : (Nat → Int32)) (t12_0 : Int32) (t12_1 : Int32) (t12_2 : Int32) (t12_3 : Int32) (t12_4 : Int64) (t12_5 : Int32) (t12_6 : Int32) (t12_7 : Int64) (t12_8 : Int32) (t12_9 : Int64) (t12_10 : Int32) (t13_0 : Int32) (t13_1 : Int32) (t13_2 : Int32) (t13_3 : Int32) (t13_4 : Int32) (t13_5 : Int32) (t13_6 : Int32) (t13_7 : Int64) (t13_8 : Int32) (t13_9 : Int32) (t13_10 : Int64) (t13_11 : Int64) (t13_12 : Int32) (t13_13 : Int32) (t14_0 : (Nat → Int32)) (t15_0 : (Nat → Int32)) (t16_0 : (Nat → Int32)) (t17_0 : (Nat → Int64)) : Int32 × Int32 × Int32 × Int32 × Int32 × Int32 × Int32 × (Nat → Int32) × (Nat → Int32) × Int32 × Int32 × Int32 × Int64 × Int32 × Int32 × Int32 × Int32 × Int32 × Int32 × Int32 × (Nat → Int32) × Int32 × Int32 × Int32 × Int32 × Int64 × Int32 × Int32 × Int64 × Int32 × Int64 × Int32 × Int32 × Int32 × Int32 × Int32 × Int32 × Int32 × Int32 × Int64 × Int32 × Int32 × Int64 × Int64 × Int32 × Int32 × (Nat → Int32) × (Nat → Int32) × (Nat → Int32) × (Nat → Int64) := if ((F_NM_isFloat x2) : Int32) = (0 : Int32) then (if x2 = (0 : Int32) then (F_NM_toFloat_c70 x2 x3 x4 x5 t0_0 t0_1 t0_2 t1_0 t1_1 t1_2 t1_3 t1_4 t1_5 t1_6 t2_0 t3_0 t4_0 t5_0 t6_0 t6_1 t6_2 t6_3 t6_4 t6_5 t6_6 t6_7 t6_8 t6_9 t6_10 t7_0 t8_0 t9_0 t10_0 t11_0 t12_0 t12_1 t12_2 t12_3 t12_4 t12_5 t12_6 t12_7 t12_8 t12_9 t12_10 t13_0 t13_1 t13_2 t13_3 t13_4 t13_5 t13_6 t13_7 t13_8 t13_9 t13_10 t13_11 t13_12 t13_13 t14_0 t15_0 t16_0 t17_0 ((F_WR_written x3 (10 : Int32) t1_0 t1_1 t1_2 t1_3 t1_4 t1_5 t1_6 t2_0 t3_0 t4_0 t5_0) : (Int32 × Int32 × Int32 × Int32 × Int32 × Int32 × Int32 × Int32 × (Nat → Int32) × (Nat → Int32)))) else (F_NM_toFloat_c82 x2 x3 x4 x5 t0_0 t0_1 t0_2 t1_0 t1_1 t1_2 t1_3 t1_4 t1_5 t1_6 t2_0 t3_0 t4_0 t5_0 t6_0 t6_1 t6_2 t6_3 t6_4 t6_5 t6_6 t6_7 t6_8 t6_9 t6_10 t7_0 t8_0 t9_0 t10_0 t11_0 t12_0 t12_1 t12_2 t12_3 t12_4 t12_5 t12_6 t12_7 t12_8 t12_9 t12_10 t13_0 t13_1 t13_2 t13_3 t13_4 t13_5 t13_6 t13_7 t13_8 t13_9 t13_10 t13_11 t13_12 t13_13 t14_0 t15_0 t16_0 t17_0 ((F_DR_written x3 (0 : Int32) t6_0 t6_1 t6_2 t6_3 t6_4 t6_5 t6_6 t6_7 t6_8 t6_9 t6_10 t7_0 t8_0 t9_0 t10_0 t11_0) : (Int32 × Int32 × Int32 × Int32 × Int64 × Int32 × Int32 × Int32 × Int32 × Int32 × Int32 × Int32 × (Nat → Int32))))) else (if x2 = x4 then ((t1_0, t1_1, t1_2, t1_3, t1_4, t1_5, t1_6, t4_0, t5_0, t6_0, t6_1, t6_2, t6_3, t6_4, t6_5, t6_6, t6_7, t6_8, t6_9, t6_10, t11_0, t12_0, t12_1, t12_2, t12_3, t12_4, t12_5, t12_6, t12_7, t12_8, t12_9, t12_10, t13_0, t13_1, t13_2, t13_3, t13_4, t13_5, t13_6, t13_7, t13_8, t13_9, t13_10, t13_11, t13_12, t13_13, t14_0, t15_0, t16_0, ((F_NM_setBits x4 x5 ((F_NM_bitsOf x2 x3 t0_0 t0_1 t0_2 t17_0) : Int64) t0_0 t0_1 t0_2 t17_0) : (Nat → Int64)))) else (if x2 = (2 : Int32) then (F_NM_toFloat_c39 x2 x3 x4 x5 t0_0 t0_1 t0_2 t1_0 t1_1 t1_2 t1_3 t1_4 t1_5 t1_6 t2_0 t3_0 t4_0 t5_0 t6_0 t6_1 t6_2 t6_3 t6_4 t6_5 t6_6 t6_7 t6_8 t6_9 t6_10 t7_0 t8_0 t9_0 t10_0 t11_0 t12_0 t12_1 t12_2 t12_3 t12_4 t12_5 t12_6 t12_7 t12_8 t12_9 t12_10 t13_0 t13_1 t13_2 t13_3 t13_4 t13_5 t13_6 t13_7 t13_8 t13_9 t13_10 t13_11 t13_12 t13_13 t14_0 t15_0 t16_0 t17_0 ((F_NM_bitsOf x2 x3 t0_0 t0_1 t0_2 t17_0) : Int64) ((F_FR_narrowed ((F_NM_bitsOf x2 x3 t0_0 t0_1 t0_2 t17_0) : Int64) t12_0 t12_1 t12_2 t12_3 t12_4 t12_5 t12_6 t12_7 t12_8 t12_9 t12_10) : (Int64 × Int32 × Int32 × Int32 × Int32 × Int64 × Int32 × Int32 × Int64 × Int32 × Int64 × Int32))) else (F_NM_toFloat_c51 x2 x3 x4 x5 t0_0 t0_1 t0_2 t1_0 t1_1 t1_2 t1_3 t1_4 t1_5 t1_6 t2_0 t3_0 t4_0 t5_0 t6_0 t6_1 t6_2 t6_3 t6_4 t6_5 t6_6 t6_7 t6_8 t6_9 t6_10 t7_0 t8_0 t9_0 t10_0 t11_0 t12_0 t12_1 t12_2 t12_3 t12_4 t12_5 t12_6 t12_7 t12_8 t12_9 t12_10 t13_0 t13_1 t13_2 t13_3 t13_4 t13_5 t13_6 t13_7 t13_8 t13_9 t13_10 t13_11 t13_12 t13_13 t14_0 t15_0 t16_0 t17_0 ((F_NM_bitsOf x2 x3 t0_0 t0_1 t0_2 t17_0) : Int64) ((F_FR_widened ((F_NM_bitsOf x2 x3 t0_0 t0_1 t0_2 t17_0) : Int64) t12_0 t12_1 t12_2 t12_3 t12_4 t12_5 t12_6 t12_7 t12_8 t12_9 t12_10) : (Int64 × Int32 × Int32 × Int32 × Int32 × Int64 × Int32 × Int32 × Int64 × Int32 × Int64 × Int32)))))
def S_NM_toFloat_c146 (x2 : Int32) (x3 : Int32) (x4 : Int32) (x5 : Int32) (t0_0 : Int32) (t0_1 : Int32) (t0_2 : Int32) (t1_0 : Int32) (t1_1 : Int32) (t1_2 : Int32) (t1_3 : Int32) (t1_4 : Int32) (t1_5 : Int32) (t1_6 : Int32) (t2_0 : (Nat → Int32)) (t3_0 : (Nat → Int32)) (t4_0 : (Nat → Int32)) (t5_0 : (Nat → Int32)) (t6_0 : Int32) (t6_1 : Int32) (t6_2 : Int32) (t6_3 : Int64) (t6_4 : Int32) (t6_5 : Int32) (t6_6 : Int32) (t6_7 : Int32) (t6_8 : Int32) (t6_9 : Int32) (t6_10 : Int32) (t7_0 : (Nat → Int32)) (t8_0 : (Nat → Int32)) (t9_0 : (Nat → Int32)) (t10_0 : (Nat → Int32)) (t11_0 : (Nat → Int32)) (t12_0 : Int32) (t12_1 : Int32) (t12_2 : Int32) (t12_3 : Int32) (t12_4 : Int64) (t12_5 : Int32) (t12_6 : Int32) (t12_7 : Int64) (t12_8 : Int32) (t12_9 : Int64) (t12_10 : Int32) (t13_0 : Int32) (t13_1 : Int32) (t13_2 : Int32) (t13_3 : Int32) (t13_4 : Int32) (t13_5 : Int32) (t13_6 : Int32) (t13_7 : Int64) (t13_8 : Int32) (t13_9 : Int32) (t13_10 : Int64) (t13_11 : Int64) (t13_12 : Int32) (t13_13 : Int32) (t14_0 : (Nat → Int32)) (t15_0 : (Nat → Int32)) (t16_0 : (Nat → Int32)) (t17_0 : (Nat → Int64)) (p157 : (Int32 × Int32 × Int32 × Int32 × Int64 × Int32 × Int32 × Int32 × Int32 × Int32 × Int32 × Int32 × (Nat → Int32))) (a119 : Int32) (y121 : Int32) (y122 : Int32) (y123 : Int32) (y124 : Int64) (y125 : Int32) (y126 : Int32) (y127 : Int32) (y128 : Int32) (y129 : Int32) (y130 : Int32) (y131 : Int32) (f132 : (Nat → Int32)) (p190 : (Int32 × (Nat → Int32))) (f182 : (Nat → Int32)) (p238 : (Int32 × Int32 × Int32 × Int32 × Int32 × Int32 × Int32 × Int32 × Int64 × Int32 × Int32 × Int64 × Int64 × Int32 × Int32 × (Nat → Int32) × (Nat → Int32))) : Prop := (True ∧ S_NM_setBits x4 x5 (((p238.1 : Int32).toInt64 : Int64) &&& 4294967295 : Int64) t0_0 t0_1 t0_2 t17_0) ∧ (True)
def S_NM_toFloat_c136 (x2 : Int32) (x3 : Int32) (x4 : Int32) (x5 : Int32) (t0_0 : Int32) (t0_1 : Int32) (t0_2 : Int32) (t1_0 : Int32) (t1_1 : Int32) (t1_2 : Int32) (t1_3 : Int32) (t1_4 : Int32) (t1_5 : Int32) (t1_6 : Int32) (t2_0 : (Nat → Int32)) (t3_0 : (Nat → Int32)) (t4_0 : (Nat → Int32)) (t5_0 : (Nat → Int32)) (t6_0 : Int32) (t6_1 : Int32) (t6_2 : Int32) (t6_3 : Int64) (t6_4 : Int32) (t6_5 : Int32) (t6_6 : Int32) (t6_7 : Int32) (t6_8 : Int32) (t6_9 : Int32) (t6_10 : Int32) (t7_0 : (Nat → Int32)) (t8_0 : (Nat → Int32)) (t9_0 : (Nat → Int32)) (t10_0 : (Nat → Int32)) (t11_0 : (Nat → Int32)) (t12_0 : Int32) (t12_1 : Int32) (t12_2 : Int32) (t12_3 : Int32) (t12_4 : Int64) (t12_5 : Int32) (t12_6 : Int32) (t12_7 : Int64) (t12_8 : Int32) (t12_9 : Int64) (t12_10 : Int32) (t13_0 : Int32) (t13_1 : Int32) (t13_2 : Int32) (t13_3 : Int32) (t13_4 : Int32) (t13_5 : Int32) (t13_6 : Int32) (t13_7 : Int64) (t13_8 : Int32) (t13_9 : Int32) (t13_10 : Int64) (t13_11 : Int64) (t13_12 : Int32) (t13_13 : Int32) (t14_0 : (Nat → Int32)) (t15_0 : (Nat → Int32)) (t16_0 : (Nat → Int32)) (t17_0 : (Nat → Int64)) (p157 : (Int32 × Int32 × Int32 × Int32 × Int64 × Int32 × Int32 × Int32 × Int32 × Int32 × Int32 × Int32 × (Nat → Int32))) (a119 : Int32) (y121 : Int32) (y122 : Int32) (y123 : Int32) (y124 : Int64) (y125 : Int32) (y126 : Int32) (y127 : Int32) (y128 : Int32) (y129 : Int32) (y130 : Int32) (y131 : Int32) (f132 : (Nat → Int32)) (p190 : (Int32 × (Nat → Int32))) (f182 : (Nat → Int32)) (p314 : (Int64 × Int32 × Int32 × Int32 × Int32 × Int32 × Int32 × Int32 × Int64 × Int32 × Int32 × Int64 × Int64 × Int32 × Int32 × (Nat → Int32) × (Nat → Int32))) : Prop := (True ∧ S_NM_setBits x4 x5 (p314.1 : Int64) t0_0 t0_1 t0_2 t17_0) ∧ (True)
def S_NM_toFloat_c121 (x2 : Int32) (x3 : Int32) (x4 : Int32) (x5 : Int32) (t0_0 : Int32) (t0_1 : Int32) (t0_2 : Int32) (t1_0 : Int32) (t1_1 : Int32) (t1_2 : Int32) (t1_3 : Int32) (t1_4 : Int32) (t1_5 : Int32) (t1_6 : Int32) (t2_0 : (Nat → Int32)) (t3_0 : (Nat → Int32)) (t4_0 : (Nat → Int32)) (t5_0 : (Nat → Int32)) (t6_0 : Int32) (t6_1 : Int32) (t6_2 : Int32) (t6_3 : Int64) (t6_4 : Int32) (t6_5 : Int32) (t6_6 : Int32) (t6_7 : Int32) (t6_8 : Int32) (t6_9 : Int32) (t6_10 : Int32) (t7_0 : (Nat → Int32)) (t8_0 : (Nat → Int32)) (t9_0 : (Nat → Int32)) (t10_0 : (Nat → Int32)) (t11_0 : (Nat → Int32)) (t12_0 : Int32) (t12_1 : Int32) (t12_2 : Int32) (t12_3 : Int32) (t12_4 : Int64) (t12_5 : Int32) (t12_6 : Int32) (t12_7 : Int64) (t12_8 : Int32) (t12_9 : Int64) (t12_10 : Int32) (t13_0 : Int32) (t13_1 : Int32) (t13_2 : Int32) (t13_3 : Int32) (t13_4 : Int32) (t13_5 : Int32) (t13_6 : Int32) (t13_7 : Int64) (t13_8 : Int32) (t13_9 : Int32) (t13_10 : Int64) (t13_11 : Int64) (t13_12 : Int32) (t13_13 : Int32) (t14_0 : (Nat → Int32)) (t15_0 : (Nat → Int32)) (t16_0 : (Nat → Int32)) (t17_0 : (Nat → Int64)) (p157 : (Int32 × Int32 × Int32 × Int32 × Int64 × Int32 × Int32 × Int32 × Int32 × Int32 × Int32 × Int32 × (Nat → Int32))) (a119 : Int32) (y121 : Int32) (y122 : Int32) (y123 : Int32) (y124 : Int64) (y125 : Int32) (y126 : Int32) (y127 : Int32) (y128 : Int32) (y129 : Int32) (y130 : Int32) (y131 : Int32) (f132 : (Nat → Int32)) (p190 : (Int32 × (Nat → Int32))) : Prop := if x4 = (2 : Int32) then ((True ∧ S_TR_bits t13_0 (p190.1 : Int32) t13_2 t13_3 t13_4 t13_5 t13_6 t13_7 t13_8 t13_9 t13_10 t13_11 t13_12 t13_13 (p190.2 : (Nat → Int32)) t15_0 t16_0) ∧ (S_NM_toFloat_c136 x2 x3 x4 x5 t0_0 t0_1 t0_2 t1_0 t1_1 t1_2 t1_3 t1_4 t1_5 t1_6 t2_0 t3_0 t4_0 t5_0 t6_0 t6_1 t6_2 t6_3 t6_4 t6_5 t6_6 t6_7 t6_8 t6_9 t6_10 t7_0 t8_0 t9_0 t10_0 t11_0 t12_0 t12_1 t12_2 t12_3 t12_4 t12_5 t12_6 t12_7 t12_8 t12_9 t12_10 t13_0 t13_1 t13_2 t13_3 t13_4 t13_5 t13_6 t13_7 t13_8 t13_9 t13_10 t13_11 t13_12 t13_13 t14_0 t15_0 t16_0 t17_0 p157 a119 y121 y122 y123 y124 y125 y126 y127 y128 y129 y130 y131 f132 p190 (p190.2 : (Nat → Int32)) ((F_TR_bits t13_0 (p190.1 : Int32) t13_2 t13_3 t13_4 t13_5 t13_6 t13_7 t13_8 t13_9 t13_10 t13_11 t13_12 t13_13 (p190.2 : (Nat → Int32)) t15_0 t16_0) : (Int64 × Int32 × Int32 × Int32 × Int32 × Int32 × Int32 × Int32 × Int64 × Int32 × Int32 × Int64 × Int64 × Int32 × Int32 × (Nat → Int32) × (Nat → Int32))))) else ((True ∧ S_TR_floatBits t13_0 (p190.1 : Int32) t13_2 t13_3 t13_4 t13_5 t13_6 t13_7 t13_8 t13_9 t13_10 t13_11 t13_12 t13_13 (p190.2 : (Nat → Int32)) t15_0 t16_0) ∧ (S_NM_toFloat_c146 x2 x3 x4 x5 t0_0 t0_1 t0_2 t1_0 t1_1 t1_2 t1_3 t1_4 t1_5 t1_6 t2_0 t3_0 t4_0 t5_0 t6_0 t6_1 t6_2 t6_3 t6_4 t6_5 t6_6 t6_7 t6_8 t6_9 t6_10 t7_0 t8_0 t9_0 t10_0 t11_0 t12_0 t12_1 t12_2 t12_3 t12_4 t12_5 t12_6 t12_7 t12_8 t12_9 t12_10 t13_0 t13_1 t13_2 t13_3 t13_4 t13_5 t13_6 t13_7 t13_8 t13_9 t13_10 t13_11 t13_12 t13_13 t14_0 t15_0 t16_0 t17_0 p157 a119 y121 y122 y123 y124 y125 y126 y127 y128 y129 y130 y131 f132 p190 (p190.2 : (Nat → Int32)) ((F_TR_floatBits t13_0 (p190.1 : Int32) t13_2 t13_3 t13_4 t13_5 t13_6 t13_7 t13_8 t13_9 t13_10 t13_11 t13_12 t13_13 (p190.2 : (Nat → Int32)) t15_0 t16_0) : (Int32 × Int32 × Int32 × Int32 × Int32 × Int32 × Int32 × Int32 × Int64 × Int32 × Int32 × Int64 × Int64 × Int32 × Int32 × (Nat → Int32) × (Nat → Int32)))))
def S_NM_toFloat_c82 (x2 : Int32) (x3 : Int32) (x4 : Int32) (x5 : Int32) (t0_0 : Int32) (t0_1 : Int32) (t0_2 : Int32) (t1_0 : Int32) (t1_1 : Int32) (t1_2 : Int32) (t1_3 : Int32) (t1_4 : Int32) (t1_5 : Int32) (t1_6 : Int32) (t2_0 : (Nat → Int32)) (t3_0 : (Nat → Int32)) (t4_0 : (Nat → Int32)) (t5_0 : (Nat → Int32)) (t6_0 : Int32) (t6_1 : Int32) (t6_2 : Int32) (t6_3 : Int64) (t6_4 : Int32) (t6_5 : Int32) (t6_6 : Int32) (t6_7 : Int32) (t6_8 : Int32) (t6_9 : Int32) (t6_10 : Int32) (t7_0 : (Nat → Int32)) (t8_0 : (Nat → Int32)) (t9_0 : (Nat → Int32)) (t10_0 : (Nat → Int32)) (t11_0 : (Nat → Int32)) (t12_0 : Int32) (t12_1 : Int32) (t12_2 : Int32) (t12_3 : Int32) (t12_4 : Int64) (t12_5 : Int32) (t12_6 : Int32) (t12_7 : Int64) (t12_8 : Int32) (t12_9 : Int64) (t12_10 : Int32) (t13_0 : Int32) (t13_1 : Int32) (t13_2 : Int32) (t13_3 : Int32) (t13_4 : Int32) (t13_5 : Int32) (t13_6 : Int32) (t13_7 : Int64) (t13_8 : Int32) (t13_9 : Int32) (t13_10 : Int64) (t13_11 : Int64) (t13_12 : Int32) (t13_13 : Int32) (t14_0 : (Nat → Int32)) (t15_0 : (Nat → Int32)) (t16_0 : (Nat → Int32)) (t17_0 : (Nat → Int64)) (p157 : (Int32 × Int32 × Int32 × Int32 × Int64 × Int32 × Int32 × Int32 × Int32 × Int32 × Int32 × Int32 × (Nat → Int32))) : Prop := (True ∧ S_NM_load (12200 : Int32) (p157.1 : Int32) (4100 : Int32) (p157.2.2.2.2.2.2.2.2.2.2.2.2 : (Nat → Int32)) t14_0) ∧ (S_NM_toFloat_c121 x2 x3 x4 x5 t0_0 t0_1 t0_2 t1_0 t1_1 t1_2 t1_3 t1_4 t1_5 t1_6 t2_0 t3_0 t4_0 t5_0 t6_0 t6_1 t6_2 t6_3 t6_4 t6_5 t6_6 t6_7 t6_8 t6_9 t6_10 t7_0 t8_0 t9_0 t10_0 t11_0 t12_0 t12_1 t12_2 t12_3 t12_4 t12_5 t12_6 t12_7 t12_8 t12_9 t12_10 t13_0 t13_1 t13_2 t13_3 t13_4 t13_5 t13_6 t13_7 t13_8 t13_9 t13_10 t13_11 t13_12 t13_13 t14_0 t15_0 t16_0 t17_0 p157 (p157.1 : Int32) (p157.2.1 : Int32) (p157.2.2.1 : Int32) (p157.2.2.2.1 : Int32) (p157.2.2.2.2.1 : Int64) (p157.2.2.2.2.2.1 : Int32) (p157.2.2.2.2.2.2.1 : Int32) (p157.2.2.2.2.2.2.2.1 : Int32) (p157.2.2.2.2.2.2.2.2.1 : Int32) (p157.2.2.2.2.2.2.2.2.2.1 : Int32) (p157.2.2.2.2.2.2.2.2.2.2.1 : Int32) (p157.2.2.2.2.2.2.2.2.2.2.2.1 : Int32) (p157.2.2.2.2.2.2.2.2.2.2.2.2 : (Nat → Int32)) ((F_NM_load (12200 : Int32) (p157.1 : Int32) (4100 : Int32) (p157.2.2.2.2.2.2.2.2.2.2.2.2 : (Nat → Int32)) t14_0) : (Int32 × (Nat → Int32))))
def S_NM_toFloat_c146_7 (x2 : Int32) (x3 : Int32) (x4 : Int32) (x5 : Int32) (t0_0 : Int32) (t0_1 : Int32) (t0_2 : Int32) (t1_0 : Int32) (t1_1 : Int32) (t1_2 : Int32) (t1_3 : Int32) (t1_4 : Int32) (t1_5 : Int32) (t1_6 : Int32) (t2_0 : (Nat → Int32)) (t3_0 : (Nat → Int32)) (t4_0 : (Nat → Int32)) (t5_0 : (Nat → Int32)) (t6_0 : Int32) (t6_1 : Int32) (t6_2 : Int32) (t6_3 : Int64) (t6_4 : Int32) (t6_5 : Int32) (t6_6 : Int32) (t6_7 : Int32) (t6_8 : Int32) (t6_9 : Int32) (t6_10 : Int32) (t7_0 : (Nat → Int32)) (t8_0 : (Nat → Int32)) (t9_0 : (Nat → Int32)) (t10_0 : (Nat → Int32)) (t11_0 : (Nat → Int32)) (t12_0 : Int32) (t12_1 : Int32) (t12_2 : Int32) (t12_3 : Int32) (t12_4 : Int64) (t12_5 : Int32) (t12_6 : Int32) (t12_7 : Int64) (t12_8 : Int32) (t12_9 : Int64) (t12_10 : Int32) (t13_0 : Int32) (t13_1 : Int32) (t13_2 : Int32) (t13_3 : Int32) (t13_4 : Int32) (t13_5 : Int32) (t13_6 : Int32) (t13_7 : Int64) (t13_8 : Int32) (t13_9 : Int32) (t13_10 : Int64) (t13_11 : Int64) (t13_12 : Int32) (t13_13 : Int32) (t14_0 : (Nat → Int32)) (t15_0 : (Nat → Int32)) (t16_0 : (Nat → Int32)) (t17_0 : (Nat → Int64)) (p383 : (Int32 × Int32 × Int32 × Int32 × Int32 × Int32 × Int32 × Int32 × (Nat → Int32) × (Nat → Int32))) (a352 : Int32) (y354 : Int32) (y355 : Int32) (y356 : Int32) (y357 : Int32) (y358 : Int32) (y359 : Int32) (y360 : Int32) (f361 : (Nat → Int32)) (f363 : (Nat → Int32)) (p413 : (Int32 × (Nat → Int32))) (f405 : (Nat → Int32)) (p461 : (Int32 × Int32 × Int32 × Int32 × Int32 × Int32 × Int32 × Int32 × Int64 × Int32 × Int32 × Int64 × Int64 × Int32 × Int32 × (Nat → Int32) × (Nat → Int32))) : Prop := (True ∧ S_NM_setBits x4 x5 (((p461.1 : Int32).toInt64 : Int64) &&& 4294967295 : Int64) t0_0 t0_1 t0_2 t17_0) ∧ (True)
def S_NM_toFloat_c136_8 (x2 : Int32) (x3 : Int32) (x4 : Int32) (x5 : Int32) (t0_0 : Int32) (t0_1 : Int32) (t0_2 : Int32) (t1_0 : Int32) (t1_1 : Int32) (t1_2 : Int32) (t1_3 : Int32) (t1_4 : Int32) (t1_5 : Int32) (t1_6 : Int32) (t2_0 : (Nat → Int32)) (t3_0 : (Nat → Int32)) (t4_0 : (Nat → Int32)) (t5_0 : (Nat → Int32)) (t6_0 : Int32) (t6_1 : Int32) (t6_2 : Int32) (t6_3 : Int64) (t6_4 : Int32) (t6_5 : Int32) (t6_6 : Int32) (t6_7 : Int32) (t6_8 : Int32) (t6_9 : Int32) (t6_10 : Int32) (t7_0 : (Nat → Int32)) (t8_0 : (Nat → Int32)) (t9_0 : (Nat → Int32)) (t10_0 : (Nat → Int32)) (t11_0 : (Nat → Int32)) (t12_0 : Int32) (t12_1 : Int32) (t12_2 : Int32) (t12_3 : Int32) (t12_4 : Int64) (t12_5 : Int32) (t12_6 : Int32) (t12_7 : Int64) (t12_8 : Int32) (t12_9 : Int64) (t12_10 : Int32) (t13_0 : Int32) (t13_1 : Int32) (t13_2 : Int32) (t13_3 : Int32) (t13_4 : Int32) (t13_5 : Int32) (t13_6 : Int32) (t13_7 : Int64) (t13_8 : Int32) (t13_9 : Int32) (t13_10 : Int64) (t13_11 : Int64) (t13_12 : Int32) (t13_13 : Int32) (t14_0 : (Nat → Int32)) (t15_0 : (Nat → Int32)) (t16_0 : (Nat → Int32)) (t17_0 : (Nat → Int64)) (p383 : (Int32 × Int32 × Int32 × Int32 × Int32 × Int32 × Int32 × Int32 × (Nat → Int32) × (Nat → Int32))) (a352 : Int32) (y354 : Int32) (y355 : Int32) (y356 : Int32) (y357 : Int32) (y358 : Int32) (y359 : Int32) (y360 : Int32) (f361 : (Nat → Int32)) (f363 : (Nat → Int32)) (p413 : (Int32 × (Nat → Int32))) (f405 : (Nat → Int32)) (p537 : (Int64 × Int32 × Int32 × Int32 × Int32 × Int32 × Int32 × Int32 × Int64 × Int32 × Int32 × Int64 × Int64 × Int32 × Int32 × (Nat → Int32) × (Nat → Int32))) : Prop := (True ∧ S_NM_setBits x4 x5 (p537.1 : Int64) t0_0 t0_1 t0_2 t17_0) ∧ (True)
def S_NM_toFloat_c121_6 (x2 : Int32) (x3 : Int32) (x4 : Int32) (x5 : Int32) (t0_0 : Int32) (t0_1 : Int32) (t0_2 : Int32) (t1_0 : Int32) (t1_1 : Int32) (t1_2 : Int32) (t1_3 : Int32) (t1_4 : Int32) (t1_5 : Int32) (t1_6 : Int32) (t2_0 : (Nat → Int32)) (t3_0 : (Nat → Int32)) (t4_0 : (Nat → Int32)) (t5_0 : (Nat → Int32)) (t6_0 : Int32) (t6_1 : Int32) (t6_2 : Int32) (t6_3 : Int64) (t6_4 : Int32) (t6_5 : Int32) (t6_6 : Int32) (t6_7 : Int32) (t6_8 : Int32) (t6_9 : Int32) (t6_10 : Int32) (t7_0 : (Nat → Int32)) (t8_0 : (Nat → Int32)) (t9_0 : (Nat → Int32)) (t10_0 : (Nat → Int32)) (t11_0 : (Nat → Int32)) (t12_0 : Int32) (t12_1 : Int32) (t12_2 : Int32) (t12_3 : Int32) (t12_4 : Int64) (t12_5 : Int32) (t12_6 : Int32) (t12_7 : Int64) (t12_8 : Int32) (t12_9 : Int64) (t12_10 : Int32) (t13_0 : Int32) (t13_1 : Int32) (t13_2 : Int32) (t13_3 : Int32) (t13_4 : Int32) (t13_5 : Int32) (t13_6 : Int32) (t13_7 : Int64) (t13_8 : Int32) (t13_9 : Int32) (t13_10 : Int64) (t13_11 : Int64) (t13_12 : Int32) (t13_13 : Int32) (t14_0 : (Nat → Int32)) (t15_0 : (Nat → Int32)) (t16_0 : (Nat → Int32)) (t17_0 : (Nat → Int64)) (p383 : (Int32 × Int32 × Int32 × Int32 × Int32 × Int32 × Int32 × Int32 × (Nat → Int32) × (Nat → Int32))) (a352 : Int32) (y354 : Int32) (y355 : Int32) (y356 : Int32) (y357 : Int32) (y358 : Int32) (y359 : Int32) (y360 : Int32) (f361 : (Nat → Int32)) (f363 : (Nat → Int32)) (p413 : (Int32 × (Nat → Int32))) : Prop := if x4 = (2 : Int32) then ((True ∧ S_TR_bits t13_0 (p413.1 : Int32) t13_2 t13_3 t13_4 t13_5 t13_6 t13_7 t13_8 t13_9 t13_10 t13_11 t13_12 t13_13 (p413.2 : (Nat → Int32)) t15_0 t16_0) ∧ (S_NM_toFloat_c136_8 x2 x3 x4 x5 t0_0 t0_1 t0_2 t1_0 t1_1 t1_2 t1_3 t1_4 t1_5 t1_6 t2_0 t3_0 t4_0 t5_0 t6_0 t6_1 t6_2 t6_3 t6_4 t6_5 t6_6 t6_7 t6_8 t6_9 t6_10 t7_0 t8_0 t9_0 t10_0 t11_0 t12_0 t12_1 t12_2 t12_3 t12_4 t12_5 t12_6 t12_7 t12_8 t12_9 t12_10 t13_0 t13_1 t13_2 t13_3 t13_4 t13_5 t13_6 t13_7 t13_8 t13_9 t13_10 t13_11 t13_12 t13_13 t14_0 t15_0 t16_0 t17_0 p383 a352 y354 y355 y356 y357 y358 y359 y360 f361 f363 p413 (p413.2 : (Nat → Int32)) ((F_TR_bits t13_0 (p413.1 : Int32) t13_2 t13_3 t13_4 t13_5 t13_6 t13_7 t13_8 t13_9 t13_10 t13_11 t13_12 t13_13 (p413.2 : (Nat → Int32)) t15_0 t16_0) : (Int64 × Int32 × Int32 × Int32 × Int32 × Int32 × Int32 × Int32 × Int64 × Int32 × Int32 × Int64 × Int64 × Int32 × Int32 × (Nat → Int32) × (Nat → Int32))))) else ((True ∧ S_TR_floatBits t13_0 (p413.1 : Int32) t13_2 t13_3 t13_4 t13_5 t13_6 t13_7 t13_8 t13_9 t13_10 t13_11 t13_12 t13_13 (p413.2 : (Nat → Int32)) t15_0 t16_0) ∧ (S_NM_toFloat_c146_7 x2 x3 x4 x5 t0_0 t0_1 t0_2 t1_0 t1_1 t1_2 t1_3 t1_4 t1_5 t1_6 t2_0 t3_0 t4_0 t5_0 t6_0 t6_1 t6_2 t6_3 t6_4 t6_5 t6_6 t6_7 t6_8 t6_9 t6_10 t7_0 t8_0 t9_0 t10_0 t11_0 t12_0 t12_1 t12_2 t12_3 t12_4 t12_5 t12_6 t12_7 t12_8 t12_9 t12_10 t13_0 t13_1 t13_2 t13_3 t13_4 t13_5 t13_6 t13_7 t13_8 t13_9 t13_10 t13_11 t13_12 t13_13 t14_0 t15_0 t16_0 t17_0 p383 a352 y354 y355 y356 y357 y358 y359 y360 f361 f363 p413 (p413.2 : (Nat → Int32)) ((F_TR_floatBits t13_0 (p413.1 : Int32) t13_2 t13_3 t13_4 t13_5 t13_6 t13_7 t13_8 t13_9 t13_10 t13_11 t13_12 t13_13 (p413.2 : (Nat → Int32)) t15_0 t16_0) : (Int32 × Int32 × Int32 × Int32 × Int32 × Int32 × Int32 × Int32 × Int64 × Int32 × Int32 × Int64 × Int64 × Int32 × Int32 × (Nat → Int32) × (Nat → Int32)))))
def S_NM_toFloat_c70 (x2 : Int32) (x3 : Int32) (x4 : Int32) (x5 : Int32) (t0_0 : Int32) (t0_1 : Int32) (t0_2 : Int32) (t1_0 : Int32) (t1_1 : Int32) (t1_2 : Int32) (t1_3 : Int32) (t1_4 : Int32) (t1_5 : Int32) (t1_6 : Int32) (t2_0 : (Nat → Int32)) (t3_0 : (Nat → Int32)) (t4_0 : (Nat → Int32)) (t5_0 : (Nat → Int32)) (t6_0 : Int32) (t6_1 : Int32) (t6_2 : Int32) (t6_3 : Int64) (t6_4 : Int32) (t6_5 : Int32) (t6_6 : Int32) (t6_7 : Int32) (t6_8 : Int32) (t6_9 : Int32) (t6_10 : Int32) (t7_0 : (Nat → Int32)) (t8_0 : (Nat → Int32)) (t9_0 : (Nat → Int32)) (t10_0 : (Nat → Int32)) (t11_0 : (Nat → Int32)) (t12_0 : Int32) (t12_1 : Int32) (t12_2 : Int32) (t12_3 : Int32) (t12_4 : Int64) (t12_5 : Int32) (t12_6 : Int32) (t12_7 : Int64) (t12_8 : Int32) (t12_9 : Int64) (t12_10 : Int32) (t13_0 : Int32) (t13_1 : Int32) (t13_2 : Int32) (t13_3 : Int32) (t13_4 : Int32) (t13_5 : Int32) (t13_6 : Int32) (t13_7 : Int64) (t13_8 : Int32) (t13_9 : Int32) (t13_10 : Int64) (t13_11 : Int64) (t13_12 : Int32) (t13_13 : Int32) (t14_0 : (Nat → Int32)) (t15_0 : (Nat → Int32)) (t16_0 : (Nat → Int32)) (t17_0 : (Nat → Int64)) (p383 : (Int32 × Int32 × Int32 × Int32 × Int32 × Int32 × Int32 × Int32 × (Nat → Int32) × (Nat → Int32))) : Prop := (True ∧ S_NM_load (2100 : Int32) (p383.1 : Int32) (4100 : Int32) (p383.2.2.2.2.2.2.2.2.2 : (Nat → Int32)) t14_0) ∧ (S_NM_toFloat_c121_6 x2 x3 x4 x5 t0_0 t0_1 t0_2 t1_0 t1_1 t1_2 t1_3 t1_4 t1_5 t1_6 t2_0 t3_0 t4_0 t5_0 t6_0 t6_1 t6_2 t6_3 t6_4 t6_5 t6_6 t6_7 t6_8 t6_9 t6_10 t7_0 t8_0 t9_0 t10_0 t11_0 t12_0 t12_1 t12_2 t12_3 t12_4 t12_5 t12_6 t12_7 t12_8 t12_9 t12_10 t13_0 t13_1 t13_2 t13_3 t13_4 t13_5 t13_6 t13_7 t13_8 t13_9 t13_10 t13_11 t13_12 t13_13 t14_0 t15_0 t16_0 t17_0 p383 (p383.1 : Int32) (p383.2.1 : Int32) (p383.2.2.1 : Int32) (p383.2.2.2.1 : Int32) (p383.2.2.2.2.1 : Int32) (p383.2.2.2.2.2.1 : Int32) (p383.2.2.2.2.2.2.1 : Int32) (p383.2.2.2.2.2.2.2.1 : Int32) (p383.2.2.2.2.2.2.2.2.1 : (Nat → Int32)) (p383.2.2.2.2.2.2.2.2.2 : (Nat → Int32)) ((F_NM_load (2100 : Int32) (p383.1 : Int32) (4100 : Int32) (p383.2.2.2.2.2.2.2.2.2 : (Nat → Int32)) t14_0) : (Int32 × (Nat → Int32))))
def S_NM_toFloat_c51 (x2 : Int32) (x3 : Int32) (x4 : Int32) (x5 : Int32) (t0_0 : Int32) (t0_1 : Int32) (t0_2 : Int32) (t1_0 : Int32) (t1_1 : Int32) (t1_2 : Int32) (t1_3 : Int32) (t1_4 : Int32) (t1_5 : Int32) (t1_6 : Int32) (t2_0 : (Nat → Int32)) (t3_0 : (Nat → Int32)) (t4_0 : (Nat → Int32)) (t5_0 : (Nat → Int32)) (t6_0 : Int32) (t6_1 : Int32) (t6_2 : Int32) (t6_3 : Int64) (t6_4 : Int32) (t6_5 : Int32) (t6_6 : Int32) (t6_7 : Int32) (t6_8 : Int32) (t6_9 : Int32) (t6_10 : Int32) (t7_0 : (Nat → Int32)) (t8_0 : (Nat → Int32)) (t9_0 : (Nat → Int32)) (t10_0 : (Nat → Int32)) (t11_0 : (Nat → Int32)) (t12_0 : Int32) (t12_1 : Int32) (t12_2 : Int32) (t12_3 : Int32) (t12_4 : Int64) (t12_5 : Int32) (t12_6 : Int32) (t12_7 : Int64) (t12_8 : Int32) (t12_9 : Int64) (t12_10 : Int32) (t13_0 : Int32) (t13_1 : Int32) (t13_2 : Int32) (t13_3 : Int32) (t13_4 : Int32) (t13_5 : Int32) (t13_6 : Int32) (t13_7 : Int64) (t13_8 : Int32) (t13_9 : Int32) (t13_10 : Int64) (t13_11 : Int64) (t13_12 : Int32) (t13_13 : Int32) (t14_0 : (Nat → Int32)) (t15_0 : (Nat → Int32)) (t16_0 : (Nat → Int32)) (t17_0 : (Nat → Int64)) (j575 : Int64) (p610 : (Int64 × Int32 × Int32 × Int32 × Int32 × Int64 × Int32 × Int32 × Int64 × Int32 × Int64 × Int32)) : Prop := (True ∧ S_NM_setBits x4 x5 (p610.1 : Int64) t0_0 t0_1 t0_2 t17_0) ∧ (True)
def S_NM_toFloat_c39 (x2 : Int32) (x3 : Int32) (x4 : Int32) (x5 : Int32) (t0_0 : Int32) (t0_1 : Int32) (t0_2 : Int32) (t1_0 : Int32) (t1_1 : Int32) (t1_2 : Int32) (t1_3 : Int32) (t1_4 : Int32) (t1_5 : Int32) (t1_6 : Int32) (t2_0 : (Nat → Int32)) (t3_0 : (Nat → Int32)) (t4_0 : (Nat → Int32)) (t5_0 : (Nat → Int32)) (t6_0 : Int32) (t6_1 : Int32) (t6_2 : Int32) (t6_3 : Int64) (t6_4 : Int32) (t6_5 : Int32) (t6_6 : Int32) (t6_7 : Int32) (t6_8 : Int32) (t6_9 : Int32) (t6_10 : Int32) (t7_0 : (Nat → Int32)) (t8_0 : (Nat → Int32)) (t9_0 : (Nat → Int32)) (t10_0 : (Nat → Int32)) (t11_0 : (Nat → Int32)) (t12_0 : Int32) (t12_1 : Int32) (t12_2 : Int32) (t12_3 : Int32) (t12_4 : Int64) (t12_5 : Int32) (t12_6 : Int32) (t12_7 : Int64) (t12_8 : Int32) (t12_9 : Int64) (t12_10 : Int32) (t13_0 : Int32) (t13_1 : Int32) (t13_2 : Int32) (t13_3 : Int32) (t13_4 : Int32) (t13_5 : Int32) (t13_6 : Int32) (t13_7 : Int64) (t13_8 : Int32) (t13_9 : Int32) (t13_10 : Int64) (t13_11 : Int64) (t13_12 : Int32) (t13_13 : Int32) (t14_0 : (Nat → Int32)) (t15_0 : (Nat → Int32)) (t16_0 : (Nat → Int32)) (t17_0 : (Nat → Int64)) (j575 : Int64) (p677 : (Int64 × Int32 × Int32 × Int32 × Int32 × Int64 × Int32 × Int32 × Int64 × Int32 × Int64 × Int32)) : Prop := (True ∧ S_NM_setBits x4 x5 (p677.1 : Int64) t0_0 t0_1 t0_2 t17_0) ∧ (True)
def S_NM_toFloat (x2 : Int32) (x3 : Int32) (x4 : Int32) (x5 : Int32) (t0_0 : Int32) (t0_1 : Int32) (t0_2 : Int32) (t1_0 : Int32) (t1_1 : Int32) (t1_2 : Int32) (t1_3 : Int32) (t1_4 : Int32) (t1_5 : Int32) (t1_6 : Int32) (t2_0 : (Nat → Int32)) (t3_0 : (Nat → Int32)) (t4_0 : (Nat → Int32)) (t5_0 : (Nat → Int32)) (t6_0 : Int32) (t6_1 : Int32) (t6_2 : Int32) (t6_3 : Int64) (t6_4 : Int32) (t6_5 : Int32) (t6_6 : Int32) (t6_7 : Int32) (t6_8 : Int32) (t6_9 : Int32) (t6_10 : Int32) (t7_0 : (Nat → Int32)) (t8_0 : (Nat → Int32)) (t9_0 : (Nat → Int32)) (t10_0 : (Nat → Int32)) (t11_0 : (Nat → Int32)) (t12_0 : Int32) (t12_1 : Int32) (t12_2 : Int32) (t12_3 : Int32) (t12_4 : Int64) (t12_5 : Int32) (t12_6 : Int32) (t12_7 : Int64) (t12_8 : Int32) (t12_9 : Int64) (t12_10 : Int32) (t13_0 : Int32) (t13_1 : Int32) (t13_2 : Int32) (t13_3 : Int32) (t13_4 : Int32) (t13_5 : Int32) (t13_6 : Int32) (t13_7 : Int64) (t13_8 : Int32) (t13_9 : Int32) (t13_10 : Int64) (t13_11 : Int64) (t13_12 : Int32) (t13_13 : Int32) (t14_0 : (Nat → Int32)) (t15_0 : (Nat → Int32)) (t16_0 : (Nat → Int32)) (t17_0 : (Nat → Int64)) : Prop := if ((F_NM_isFloat x2) : Int32) = (0 : Int32) then (if x2 = (0 : Int32) then ((True ∧ S_WR_written x3 (10 : Int32) t1_0 t1_1 t1_2 t1_3 t1_4 t1_5 t1_6 t2_0 t3_0 t4_0 t5_0) ∧ (S_NM_toFloat_c70 x2 x3 x4 x5 t0_0 t0_1 t0_2 t1_0 t1_1 t1_2 t1_3 t1_4 t1_5 t1_6 t2_0 t3_0 t4_0 t5_0 t6_0 t6_1 t6_2 t6_3 t6_4 t6_5 t6_6 t6_7 t6_8 t6_9 t6_10 t7_0 t8_0 t9_0 t10_0 t11_0 t12_0 t12_1 t12_2 t12_3 t12_4 t12_5 t12_6 t12_7 t12_8 t12_9 t12_10 t13_0 t13_1 t13_2 t13_3 t13_4 t13_5 t13_6 t13_7 t13_8 t13_9 t13_10 t13_11 t13_12 t13_13 t14_0 t15_0 t16_0 t17_0 ((F_WR_written x3 (10 : Int32) t1_0 t1_1 t1_2 t1_3 t1_4 t1_5 t1_6 t2_0 t3_0 t4_0 t5_0) : (Int32 × Int32 × Int32 × Int32 × Int32 × Int32 × Int32 × Int32 × (Nat → Int32) × (Nat → Int32))))) else ((True ∧ S_DR_written x3 (0 : Int32) t6_0 t6_1 t6_2 t6_3 t6_4 t6_5 t6_6 t6_7 t6_8 t6_9 t6_10 t7_0 t8_0 t9_0 t10_0 t11_0) ∧ (S_NM_toFloat_c82 x2 x3 x4 x5 t0_0 t0_1 t0_2 t1_0 t1_1 t1_2 t1_3 t1_4 t1_5 t1_6 t2_0 t3_0 t4_0 t5_0 t6_0 t6_1 t6_2 t6_3 t6_4 t6_5 t6_6 t6_7 t6_8 t6_9 t6_10 t7_0 t8_0 t9_0 t10_0 t11_0 t12_0 t12_1 t12_2 t12_3 t12_4 t12_5 t12_6 t12_7 t12_8 t12_9 t12_10 t13_0 t13_1 t13_2 t13_3 t13_4 t13_5 t13_6 t13_7 t13_8 t13_9 t13_10 t13_11 t13_12 t13_13 t14_0 t15_0 t16_0 t17_0 ((F_DR_written x3 (0 : Int32) t6_0 t6_1 t6_2 t6_3 t6_4 t6_5 t6_6 t6_7 t6_8 t6_9 t6_10 t7_0 t8_0 t9_0 t10_0 t11_0) : (Int32 × Int32 × Int32 × Int32 × Int64 × Int32 × Int32 × Int32 × Int32 × Int32 × Int32 × Int32 × (Nat → Int32)))))) else ((True ∧ S_NM_bitsOf x2 x3 t0_0 t0_1 t0_2 t17_0) ∧ (if x2 = x4 then ((True ∧ S_NM_setBits x4 x5 ((F_NM_bitsOf x2 x3 t0_0 t0_1 t0_2 t17_0) : Int64) t0_0 t0_1 t0_2 t17_0) ∧ (True)) else (if x2 = (2 : Int32) then ((True ∧ S_FR_narrowed ((F_NM_bitsOf x2 x3 t0_0 t0_1 t0_2 t17_0) : Int64) t12_0 t12_1 t12_2 t12_3 t12_4 t12_5 t12_6 t12_7 t12_8 t12_9 t12_10) ∧ (S_NM_toFloat_c39 x2 x3 x4 x5 t0_0 t0_1 t0_2 t1_0 t1_1 t1_2 t1_3 t1_4 t1_5 t1_6 t2_0 t3_0 t4_0 t5_0 t6_0 t6_1 t6_2 t6_3 t6_4 t6_5 t6_6 t6_7 t6_8 t6_9 t6_10 t7_0 t8_0 t9_0 t10_0 t11_0 t12_0 t12_1 t12_2 t12_3 t12_4 t12_5 t12_6 t12_7 t12_8 t12_9 t12_10 t13_0 t13_1 t13_2 t13_3 t13_4 t13_5 t13_6 t13_7 t13_8 t13_9 t13_10 t13_11 t13_12 t13_13 t14_0 t15_0 t16_0 t17_0 ((F_NM_bitsOf x2 x3 t0_0 t0_1 t0_2 t17_0) : Int64) ((F_FR_narrowed ((F_NM_bitsOf x2 x3 t0_0 t0_1 t0_2 t17_0) : Int64) t12_0 t12_1 t12_2 t12_3 t12_4 t12_5 t12_6 t12_7 t12_8 t12_9 t12_10) : (Int64 × Int32 × Int32 × Int32 × Int32 × Int64 × Int32 × Int32 × Int64 × Int32 × Int64 × Int32)))) else ((True ∧ S_FR_widened ((F_NM_bitsOf x2 x3 t0_0 t0_1 t0_2 t17_0) : Int64) t12_0 t12_1 t12_2 t12_3 t12_4 t12_5 t12_6 t12_7 t12_8 t12_9 t12_10) ∧ (S_NM_toFloat_c51 x2 x3 x4 x5 t0_0 t0_1 t0_2 t1_0 t1_1 t1_2 t1_3 t1_4 t1_5 t1_6 t2_0 t3_0 t4_0 t5_0 t6_0 t6_1 t6_2 t6_3 t6_4 t6_5 t6_6 t6_7 t6_8 t6_9 t6_10 t7_0 t8_0 t9_0 t10_0 t11_0 t12_0 t12_1 t12_2 t12_3 t12_4 t12_5 t12_6 t12_7 t12_8 t12_9 t12_10 t13_0 t13_1 t13_2 t13_3 t13_4 t13_5 t13_6 t13_7 t13_8 t13_9 t13_10 t13_11 t13_12 t13_13 t14_0 t15_0 t16_0 t17_0 ((F_NM_bitsOf x2 x3 t0_0 t0_1 t0_2 t17_0) : Int64) ((F_FR_widened ((F_NM_bitsOf x2 x3 t0_0 t0_1 t0_2 t17_0) : Int64) t12_0 t12_1 t12_2 t12_3 t12_4 t12_5 t12_6 t12_7 t12_8 t12_9 t12_10) : (Int64 × Int32 × Int32 × Int32 × Int32 × Int64 × Int32 × Int32 × Int64 × Int32 × Int64 × Int32)))))))
set_option maxRecDepth 100000 in
set_option maxHeartbeats 4000000 in
theorem X_NM_toFloat (l : Launch) (D : va_G) (g : Nat → ClassId) (q : Nat → Nat) (ws : va_W) (x2 : Int32) (x3 : Int32) (x4 : Int32) (x5 : Int32) (hI : q_I (msh g q) q ws) (t0_0 : Int32) (t0_1 : Int32) (t0_2 : Int32) (hT0 : ws[116]? = (some (q 116, .inr (12, [.int t0_0, .ref (q 117), .int t0_1, .ref (q 118), .int t0_2, .ref (q 119), .ref (q 134), .ref (q 145), .ref (q 153), .ref (q 157), .ref (q 167), .ref (q 168)])) : Option (Nat × va_E))) (t1_0 : Int32) (t1_1 : Int32) (t1_2 : Int32) (t1_3 : Int32) (t1_4 : Int32) (t1_5 : Int32) (t1_6 : Int32) (hT1 : ws[119]? = (some (q 119, .inr (13, [.int t1_0, .int t1_1, .ref (q 120), .int t1_2, .ref (q 121), .ref (q 122), .ref (q 123), .int t1_3, .ref (q 124), .ref (q 125), .ref (q 126), .ref (q 127), .ref (q 128), .ref (q 129), .ref (q 130), .ref (q 131), .int t1_4, .int t1_5, .ref (q 132), .ref (q 133), .int t1_6])) : Option (Nat × va_E))) (t2_0 : (Nat → Int32)) (hT2 : ws[121]? = (some (q 121, .inl (g 0, (1408 : Int32).toNatClampNeg, .inl t2_0)) : Option (Nat × va_E))) (t3_0 : (Nat → Int32)) (hT3 : ws[122]? = (some (q 122, .inl (g 3, 11, .inl t3_0)) : Option (Nat × va_E))) (t4_0 : (Nat → Int32)) (hT4 : ws[128]? = (some (q 128, .inl (g 0, (264 : Int32).toNatClampNeg, .inl t4_0)) : Option (Nat × va_E))) (t5_0 : (Nat → Int32)) (hT5 : ws[133]? = (some (q 133, .inl (g 0, (2100 : Int32).toNatClampNeg, .inl t5_0)) : Option (Nat × va_E))) (t6_0 : Int32) (t6_1 : Int32) (t6_2 : Int32) (t6_3 : Int64) (t6_4 : Int32) (t6_5 : Int32) (t6_6 : Int32) (t6_7 : Int32) (t6_8 : Int32) (t6_9 : Int32) (t6_10 : Int32) (hT6 : ws[134]? = (some (q 134, .inr (14, [.int t6_0, .ref (q 135), .int t6_1, .ref (q 136), .ref (q 137), .ref (q 138), .ref (q 139), .ref (q 140), .int t6_2, .long t6_3, .int t6_4, .int t6_5, .ref (q 141), .int t6_6, .ref (q 142), .int t6_7, .ref (q 143), .int t6_8, .ref (q 144), .int t6_9, .int t6_10])) : Option (Nat × va_E))) (t7_0 : (Nat → Int32)) (hT7 : ws[136]? = (some (q 136, .inl (g 0, (10000 : Int32).toNatClampNeg, .inl t7_0)) : Option (Nat × va_E))) (t8_0 : (Nat → Int32)) (hT8 : ws[137]? = (some (q 137, .inl (g 0, (10 : Int32).toNatClampNeg, .inl t8_0)) : Option (Nat × va_E))) (t9_0 : (Nat → Int32)) (hT9 : ws[138]? = (some (q 138, .inl (g 3, 10, .inl t9_0)) : Option (Nat × va_E))) (t10_0 : (Nat → Int32)) (hT10 : ws[139]? = (some (q 139, .inl (g 0, (10 : Int32).toNatClampNeg, .inl t10_0)) : Option (Nat × va_E))) (t11_0 : (Nat → Int32)) (hT11 : ws[144]? = (some (q 144, .inl (g 0, (12200 : Int32).toNatClampNeg, .inl t11_0)) : Option (Nat × va_E))) (t12_0 : Int32) (t12_1 : Int32) (t12_2 : Int32) (t12_3 : Int32) (t12_4 : Int64) (t12_5 : Int32) (t12_6 : Int32) (t12_7 : Int64) (t12_8 : Int32) (t12_9 : Int64) (t12_10 : Int32) (hT12 : ws[145]? = (some (q 145, .inr (15, [.int t12_0, .ref (q 146), .ref (q 147), .ref (q 148), .ref (q 149), .ref (q 150), .ref (q 151), .ref (q 152), .int t12_1, .int t12_2, .int t12_3, .long t12_4, .int t12_5, .int t12_6, .long t12_7, .int t12_8, .long t12_9, .int t12_10])) : Option (Nat × va_E))) (t13_0 : Int32) (t13_1 : Int32) (t13_2 : Int32) (t13_3 : Int32) (t13_4 : Int32) (t13_5 : Int32) (t13_6 : Int32) (t13_7 : Int64) (t13_8 : Int32) (t13_9 : Int32) (t13_10 : Int64) (t13_11 : Int64) (t13_12 : Int32) (t13_13 : Int32) (hT13 : ws[153]? = (some (q 153, .inr (16, [.int t13_0, .ref (q 154), .int t13_1, .int t13_2, .int t13_3, .int t13_4, .ref (q 155), .int t13_5, .int t13_6, .long t13_7, .ref (q 156), .int t13_8, .int t13_9, .long t13_10, .long t13_11, .int t13_12, .int t13_13])) : Option (Nat × va_E))) (t14_0 : (Nat → Int32)) (hT14 : ws[154]? = (some (q 154, .inl (g 0, (4100 : Int32).toNatClampNeg, .inl t14_0)) : Option (Nat × va_E))) (t15_0 : (Nat → Int32)) (hT15 : ws[155]? = (some (q 155, .inl (g 0, (4100 : Int32).toNatClampNeg, .inl t15_0)) : Option (Nat × va_E))) (t16_0 : (Nat → Int32)) (hT16 : ws[156]? = (some (q 156, .inl (g 0, (800 : Int32).toNatClampNeg, .inl t16_0)) : Option (Nat × va_E))) (t17_0 : (Nat → Int64)) (hT17 : ws[167]? = (some (q 167, .inl (g 1, 20, .inr (.inl t17_0))) : Option (Nat × va_E))) (hS : True ∧ S_NM_toFloat x2 x3 x4 x5 t0_0 t0_1 t0_2 t1_0 t1_1 t1_2 t1_3 t1_4 t1_5 t1_6 t2_0 t3_0 t4_0 t5_0 t6_0 t6_1 t6_2 t6_3 t6_4 t6_5 t6_6 t6_7 t6_8 t6_9 t6_10 t7_0 t8_0 t9_0 t10_0 t11_0 t12_0 t12_1 t12_2 t12_3 t12_4 t12_5 t12_6 t12_7 t12_8 t12_9 t12_10 t13_0 t13_1 t13_2 t13_3 t13_4 t13_5 t13_6 t13_7 t13_8 t13_9 t13_10 t13_11 t13_12 t13_13 t14_0 t15_0 t16_0 t17_0) : q_mV l y_NM_toFloat prog_14_method_31_code 8 7 0 0 D g [.ref (q 116), .int x2, .int x3, .int x4, .int x5] ws (fun u => q_I (msh g q) q u ∧ q_un ws u [119, 128, 133, 134, 144, 145, 153, 154, 155, 156, 167] ∧ ∃ (u1_0 : Int32) (u1_1 : Int32) (u1_2 : Int32) (u1_3 : Int32) (u1_4 : Int32) (u1_5 : Int32) (u1_6 : Int32) (u4_0 : (Nat → Int32)) (u5_0 : (Nat → Int32)) (u6_0 : Int32) (u6_1 : Int32) (u6_2 : Int32) (u6_3 : Int64) (u6_4 : Int32) (u6_5 : Int32) (u6_6 : Int32) (u6_7 : Int32) (u6_8 : Int32) (u6_9 : Int32) (u6_10 : Int32) (u11_0 : (Nat → Int32)) (u12_0 : Int32) (u12_1 : Int32) (u12_2 : Int32) (u12_3 : Int32) (u12_4 : Int64) (u12_5 : Int32) (u12_6 : Int32) (u12_7 : Int64) (u12_8 : Int32) (u12_9 : Int64) (u12_10 : Int32) (u13_0 : Int32) (u13_1 : Int32) (u13_2 : Int32) (u13_3 : Int32) (u13_4 : Int32) (u13_5 : Int32) (u13_6 : Int32) (u13_7 : Int64) (u13_8 : Int32) (u13_9 : Int32) (u13_10 : Int64) (u13_11 : Int64) (u13_12 : Int32) (u13_13 : Int32) (u14_0 : (Nat → Int32)) (u15_0 : (Nat → Int32)) (u16_0 : (Nat → Int32)) (u17_0 : (Nat → Int64)), u[119]? = (some (q 119, .inr (13, [.int u1_0, .int u1_1, .ref (q 120), .int u1_2, .ref (q 121), .ref (q 122), .ref (q 123), .int u1_3, .ref (q 124), .ref (q 125), .ref (q 126), .ref (q 127), .ref (q 128), .ref (q 129), .ref (q 130), .ref (q 131), .int u1_4, .int u1_5, .ref (q 132), .ref (q 133), .int u1_6])) : Option (Nat × va_E)) ∧ u[128]? = (some (q 128, .inl (g 0, (264 : Int32).toNatClampNeg, .inl u4_0)) : Option (Nat × va_E)) ∧ u[133]? = (some (q 133, .inl (g 0, (2100 : Int32).toNatClampNeg, .inl u5_0)) : Option (Nat × va_E)) ∧ u[134]? = (some (q 134, .inr (14, [.int u6_0, .ref (q 135), .int u6_1, .ref (q 136), .ref (q 137), .ref (q 138), .ref (q 139), .ref (q 140), .int u6_2, .long u6_3, .int u6_4, .int u6_5, .ref (q 141), .int u6_6, .ref (q 142), .int u6_7, .ref (q 143), .int u6_8, .ref (q 144), .int u6_9, .int u6_10])) : Option (Nat × va_E)) ∧ u[144]? = (some (q 144, .inl (g 0, (12200 : Int32).toNatClampNeg, .inl u11_0)) : Option (Nat × va_E)) ∧ u[145]? = (some (q 145, .inr (15, [.int u12_0, .ref (q 146), .ref (q 147), .ref (q 148), .ref (q 149), .ref (q 150), .ref (q 151), .ref (q 152), .int u12_1, .int u12_2, .int u12_3, .long u12_4, .int u12_5, .int u12_6, .long u12_7, .int u12_8, .long u12_9, .int u12_10])) : Option (Nat × va_E)) ∧ u[153]? = (some (q 153, .inr (16, [.int u13_0, .ref (q 154), .int u13_1, .int u13_2, .int u13_3, .int u13_4, .ref (q 155), .int u13_5, .int u13_6, .long u13_7, .ref (q 156), .int u13_8, .int u13_9, .long u13_10, .long u13_11, .int u13_12, .int u13_13])) : Option (Nat × va_E)) ∧ u[154]? = (some (q 154, .inl (g 0, (4100 : Int32).toNatClampNeg, .inl u14_0)) : Option (Nat × va_E)) ∧ u[155]? = (some (q 155, .inl (g 0, (4100 : Int32).toNatClampNeg, .inl u15_0)) : Option (Nat × va_E)) ∧ u[156]? = (some (q 156, .inl (g 0, (800 : Int32).toNatClampNeg, .inl u16_0)) : Option (Nat × va_E)) ∧ u[167]? = (some (q 167, .inl (g 1, 20, .inr (.inl u17_0))) : Option (Nat × va_E)) ∧ (0 ≤ u1_2.toInt) ∧ (u1_2.toInt ≤ 4100) ∧ (0 ≤ u1_3.toInt) ∧ (u1_3.toInt ≤ 1) ∧ (0 ≤ u1_4.toInt) ∧ (u1_4.toInt ≤ 1) ∧ (0 ≤ u1_5.toInt) ∧ (u1_5.toInt ≤ 1) ∧ (0 ≤ u1_6.toInt) ∧ (u1_6.toInt ≤ 2100) ∧ (0 ≤ u6_1.toInt) ∧ (u6_1.toInt ≤ 4100) ∧ (0 ≤ u6_4.toInt) ∧ (u6_4.toInt ≤ 1) ∧ (0 ≤ u6_5.toInt) ∧ (u6_5.toInt ≤ 1) ∧ (0 ≤ u6_9.toInt) ∧ (u6_9.toInt ≤ 12200) ∧ (0 ≤ u12_2.toInt) ∧ (u12_2.toInt ≤ 1) ∧ (0 ≤ u13_1.toInt) ∧ (u13_1.toInt ≤ 4100) ∧ (0 ≤ u13_4.toInt) ∧ (u13_4.toInt ≤ 1) ∧ (0 ≤ u13_13.toInt) ∧ (u13_13.toInt ≤ 1) ∧ (t1_1.toInt ≤ u1_1.toInt) ∧ (u1_1.toInt ≤ t1_1.toInt) ∧ (t1_2.toInt ≤ u1_2.toInt) ∧ (u1_2.toInt ≤ t1_2.toInt) ∧ (t1_3.toInt ≤ u1_3.toInt) ∧ (u1_3.toInt ≤ t1_3.toInt) ∧ (t1_4.toInt ≤ u1_4.toInt) ∧ (u1_4.toInt ≤ t1_4.toInt) ∧ (t1_5.toInt ≤ u1_5.toInt) ∧ (u1_5.toInt ≤ t1_5.toInt) ∧ (t1_6.toInt ≤ u1_6.toInt + 2099) ∧ (t6_1.toInt ≤ u6_1.toInt) ∧ (u6_1.toInt ≤ t6_1.toInt) ∧ (t6_2.toInt ≤ u6_2.toInt) ∧ (u6_2.toInt ≤ t6_2.toInt) ∧ (t6_3.toInt ≤ u6_3.toInt) ∧ (u6_3.toInt ≤ t6_3.toInt) ∧ (t6_4.toInt ≤ u6_4.toInt) ∧ (u6_4.toInt ≤ t6_4.toInt) ∧ (t6_5.toInt ≤ u6_5.toInt) ∧ (u6_5.toInt ≤ t6_5.toInt) ∧ (t6_6.toInt ≤ u6_6.toInt) ∧ (u6_6.toInt ≤ t6_6.toInt) ∧ (t6_7.toInt ≤ u6_7.toInt) ∧ (u6_7.toInt ≤ t6_7.toInt) ∧ (t6_8.toInt ≤ u6_8.toInt) ∧ (u6_8.toInt ≤ t6_8.toInt) ∧ (t6_10.toInt ≤ u6_10.toInt) ∧ (u6_10.toInt ≤ t6_10.toInt) ∧ (t12_1.toInt ≤ u12_1.toInt) ∧ (u12_1.toInt ≤ t12_1.toInt) ∧ (t12_9.toInt ≤ u12_9.toInt) ∧ (u12_9.toInt ≤ t12_9.toInt) ∧ (t12_10.toInt ≤ u12_10.toInt) ∧ (u12_10.toInt ≤ t12_10.toInt) ∧ (u13_1.toInt ≤ t13_1.toInt) ∧ (u1_0, u1_1, u1_2, u1_3, u1_4, u1_5, u1_6, u4_0, u5_0, u6_0, u6_1, u6_2, u6_3, u6_4, u6_5, u6_6, u6_7, u6_8, u6_9, u6_10, u11_0, u12_0, u12_1, u12_2, u12_3, u12_4, u12_5, u12_6, u12_7, u12_8, u12_9, u12_10, u13_0, u13_1, u13_2, u13_3, u13_4, u13_5, u13_6, u13_7, u13_8, u13_9, u13_10, u13_11, u13_12, u13_13, u14_0, u15_0, u16_0, u17_0) = (F_NM_toFloat x2 x3 x4 x5 t0_0 t0_1 t0_2 t1_0 t1_1 t1_2 t1_3 t1_4 t1_5 t1_6 t2_0 t3_0 t4_0 t5_0 t6_0 t6_1 t6_2 t6_3 t6_4 t6_5 t6_6 t6_7 t6_8 t6_9 t6_10 t7_0 t8_0 t9_0 t10_0 t11_0 t12_0 t12_1 t12_2 t12_3 t12_4 t12_5 t12_6 t12_7 t12_8 t12_9 t12_10 t13_0 t13_1 t13_2 t13_3 t13_4 t13_5 t13_6 t13_7 t13_8 t13_9 t13_10 t13_11 t13_12 t13_13 t14_0 t15_0 t16_0 t17_0)) := by
  intro sz
  refine q_into (by decide) (Nat.le_of_ble_eq_true rfl) ?_
  intro p e s m below meth c ls hsz C0 V hl
  have hx := C0.1
  have hb := C0.2.1
  have btt0_2 := (n_w116 hI hT0).2
  clear btt0_2
  obtain ⟨btt1_2, hZ9⟩ := n_w119 hI hT1
  obtain ⟨btt1_3, hZ9⟩ := hZ9
  obtain ⟨btt1_4, hZ9⟩ := hZ9
  obtain ⟨btt1_5, btt1_6⟩ := hZ9
  replace btt1_2 : q_F (0 ≤ t1_2.toInt ∧ t1_2.toInt ≤ 4100) := btt1_2
  replace btt1_3 : q_F (0 ≤ t1_3.toInt ∧ t1_3.toInt ≤ 1) := btt1_3
  replace btt1_4 : q_F (0 ≤ t1_4.toInt ∧ t1_4.toInt ≤ 1) := btt1_4
  replace btt1_5 : q_F (0 ≤ t1_5.toInt ∧ t1_5.toInt ≤ 1) := btt1_5
  replace btt1_6 : q_F (0 ≤ t1_6.toInt ∧ t1_6.toInt ≤ 2100) := btt1_6
  obtain ⟨btt6_1, hZ9⟩ := n_w134 hI hT6
  obtain ⟨btt6_4, hZ9⟩ := hZ9
  obtain ⟨btt6_5, btt6_9⟩ := hZ9
  replace btt6_1 : q_F (0 ≤ t6_1.toInt ∧ t6_1.toInt ≤ 4100) := btt6_1
  replace btt6_4 : q_F (0 ≤ t6_4.toInt ∧ t6_4.toInt ≤ 1) := btt6_4
  replace btt6_5 : q_F (0 ≤ t6_5.toInt ∧ t6_5.toInt ≤ 1) := btt6_5
  replace btt6_9 : q_F (0 ≤ t6_9.toInt ∧ t6_9.toInt ≤ 12200) := btt6_9
  have btt12_2 := n_w145 hI hT12
  replace btt12_2 : q_F (0 ≤ t12_2.toInt ∧ t12_2.toInt ≤ 1) := btt12_2
  obtain ⟨btt13_1, hZ9⟩ := n_w153 hI hT13
  obtain ⟨btt13_4, btt13_13⟩ := hZ9
  replace btt13_1 : q_F (0 ≤ t13_1.toInt ∧ t13_1.toInt ≤ 4100) := btt13_1
  replace btt13_4 : q_F (0 ≤ t13_4.toInt ∧ t13_4.toInt ≤ 1) := btt13_4
  replace btt13_13 : q_F (0 ≤ t13_13.toInt ∧ t13_13.toInt ≤ 1) := btt13_13
  have hF : q_un ws ws [119, 128, 133, 134, 144, 145, 153, 154, 155, 156, 167] := q_u0
  have hl : lv_has ls 8 [(0, .ref (q 116)), (1, .int x2), (2, .int x3), (3, .int x4), (4, .int x5)] := hl
  refine lv_lconst (v := 0) hx hb d_14_31_0 (by decide) ?_
  refine lv_lstore (lv' := [(5, .long 0), (0, .ref (q 116)), (1, .int x2), (2, .int x3), (3, .int x4), (4, .int x5)]) hx hb d_14_31_1 hl (by decide) rfl (fun ls hl => ?_)
  refine lv_iload_n hx hb d_14_31_3 rfl (lv_at hl 2 rfl) ?_
  refine q_goi V (q_runS (As := [.int x2]) (rest := []) (d := 1) (mc := 0) (ms := 0) C0 V rfl LS_NM_250 (X_NM_isFloat l D g q ws  x2 hI   _) rfl hl.1 rfl (Nat.le_of_ble_eq_true rfl) ⟨by decide, by decide⟩ ⟨Nat.le_of_ble_eq_true rfl, Nat.le_of_ble_eq_true rfl⟩ d_14_31_4) (fun a107 u105 H locs hp106 V => ?_)
  obtain ⟨rfl, b108, b109, hE110⟩ := hp106
  have e111 : a107 = (F_NM_isFloat x2) := hE110
  clear b108
  clear b109
  refine lv_if_eq (tgt := 59) hx hb d_14_31_7 (by decide) (fun c112 => ?_) (fun c112 => ?_)
  ·
    refine lv_iload_n hx hb d_14_31_59 rfl (lv_at hl 2 rfl) ?_
    refine lv_if_ne (tgt := 76) hx hb d_14_31_60 (by decide) (fun c114 => ?_) (fun c114 => ?_)
    ·
      have b115 : q_F (x2.toInt ≠ 0) := (q_neI c114)
      refine lv_aload_n hx hb d_14_31_76 rfl (lv_at hl 1 rfl) ?_
      refine q_get (ci := 12) (j := 6) (v := .ref (q 134)) C0 V i_NM rfl rfl hT0 (by decide) w_2304 rfl d_14_31_77 ?_
      refine lv_iload_n hx hb d_14_31_80 rfl (lv_at hl 3 rfl) ?_
      refine lv_iconst (v := 0) hx hb d_14_31_81 (by decide) ?_
      have ob116 : True ∧ S_DR_written x3 (0 : Int32) t6_0 t6_1 t6_2 t6_3 t6_4 t6_5 t6_6 t6_7 t6_8 t6_9 t6_10 t7_0 t8_0 t9_0 t10_0 t11_0 := (by have h := hS; rw [S_NM_toFloat.eq_1] at h; have c112x := c112; rw [e111] at c112x; rw [if_pos c112x] at h; rw [if_neg c114] at h; with_reducible exact h.2.1)
      refine q_goi V (q_runV (As := [.int x3, .int 0]) (rest := []) (d := 3) (mc := 0) (ms := 0) (ci := 14) C0 V rfl LV_NM_240 (X_DR_written l D g q ws  x3 0 hI t6_0 t6_1 t6_2 t6_3 t6_4 t6_5 t6_6 t6_7 t6_8 t6_9 t6_10 hT6 t7_0 hT7 t8_0 hT8 t9_0 hT9 t10_0 hT10 t11_0 hT11 ob116 _) rfl rfl hT6 rfl hl.1 rfl (Nat.le_of_ble_eq_true rfl) ⟨by decide, by decide⟩ ⟨Nat.le_of_ble_eq_true rfl, Nat.le_of_ble_eq_true rfl⟩ d_14_31_82) (fun a119 u117 H locs hp118 V => ?_)
      obtain ⟨hI, hZ9⟩ := hp118
      obtain ⟨hu156, hZ9⟩ := hZ9
      obtain ⟨y121, hZ9⟩ := hZ9
      obtain ⟨y122, hZ9⟩ := hZ9
      obtain ⟨y123, hZ9⟩ := hZ9
      obtain ⟨y124, hZ9⟩ := hZ9
      obtain ⟨y125, hZ9⟩ := hZ9
      obtain ⟨y126, hZ9⟩ := hZ9
      obtain ⟨y127, hZ9⟩ := hZ9
      obtain ⟨y128, hZ9⟩ := hZ9
      obtain ⟨y129, hZ9⟩ := hZ9
      obtain ⟨y130, hZ9⟩ := hZ9
      obtain ⟨y131, hZ9⟩ := hZ9
      obtain ⟨f132, hZ9⟩ := hZ9
      obtain ⟨hO120, hZ9⟩ := hZ9
      obtain ⟨hA133, hZ9⟩ := hZ9
      obtain ⟨b134, hZ9⟩ := hZ9
      obtain ⟨b135, hZ9⟩ := hZ9
      obtain ⟨b136, hZ9⟩ := hZ9
      obtain ⟨b137, hZ9⟩ := hZ9
      obtain ⟨b138, hZ9⟩ := hZ9
      obtain ⟨b139, hZ9⟩ := hZ9
      obtain ⟨b140, hZ9⟩ := hZ9
      obtain ⟨b141, hZ9⟩ := hZ9
      obtain ⟨b142, hZ9⟩ := hZ9
      obtain ⟨b143, hZ9⟩ := hZ9
      obtain ⟨b144, hZ9⟩ := hZ9
      obtain ⟨b145, hZ9⟩ := hZ9
      obtain ⟨b146, hZ9⟩ := hZ9
      obtain ⟨b147, hZ9⟩ := hZ9
      obtain ⟨b148, hZ9⟩ := hZ9
      obtain ⟨b149, hZ9⟩ := hZ9
      obtain ⟨b150, hZ9⟩ := hZ9
      obtain ⟨b151, hZ9⟩ := hZ9
      obtain ⟨b152, hZ9⟩ := hZ9
      obtain ⟨b153, hZ9⟩ := hZ9
      obtain ⟨b154, hE155⟩ := hZ9
      replace hO120 : u117[134]? = (some (q 134, .inr (14, [.int y121, .ref (q 135), .int y122, .ref (q 136), .ref (q 137), .ref (q 138), .ref (q 139), .ref (q 140), .int y123, .long y124, .int y125, .int y126, .ref (q 141), .int y127, .ref (q 142), .int y128, .ref (q 143), .int y129, .ref (q 144), .int y130, .int y131])) : Option (Nat × va_E)) := hO120
      replace hA133 : u117[144]? = (some (q 144, .inl (g 0, (12200 : Int32).toNatClampNeg, .inl f132)) : Option (Nat × va_E)) := hA133
      obtain ⟨p157, e158⟩ : ∃ z, z = (F_DR_written x3 (0 : Int32) t6_0 t6_1 t6_2 t6_3 t6_4 t6_5 t6_6 t6_7 t6_8 t6_9 t6_10 t7_0 t8_0 t9_0 t10_0 t11_0) := ⟨_, rfl⟩
      have e159 : a119 = p157.1 := congrArg (fun z => z.1) (hE155.trans e158.symm)
      have e160 : y121 = p157.2.1 := congrArg (fun z => z.2.1) (hE155.trans e158.symm)
      have e161 : y122 = p157.2.2.1 := congrArg (fun z => z.2.2.1) (hE155.trans e158.symm)
      have e162 : y123 = p157.2.2.2.1 := congrArg (fun z => z.2.2.2.1) (hE155.trans e158.symm)
      have e163 : y124 = p157.2.2.2.2.1 := congrArg (fun z => z.2.2.2.2.1) (hE155.trans e158.symm)
      have e164 : y125 = p157.2.2.2.2.2.1 := congrArg (fun z => z.2.2.2.2.2.1) (hE155.trans e158.symm)
      have e165 : y126 = p157.2.2.2.2.2.2.1 := congrArg (fun z => z.2.2.2.2.2.2.1) (hE155.trans e158.symm)
      have e166 : y127 = p157.2.2.2.2.2.2.2.1 := congrArg (fun z => z.2.2.2.2.2.2.2.1) (hE155.trans e158.symm)
      have e167 : y128 = p157.2.2.2.2.2.2.2.2.1 := congrArg (fun z => z.2.2.2.2.2.2.2.2.1) (hE155.trans e158.symm)
      have e168 : y129 = p157.2.2.2.2.2.2.2.2.2.1 := congrArg (fun z => z.2.2.2.2.2.2.2.2.2.1) (hE155.trans e158.symm)
      have e169 : y130 = p157.2.2.2.2.2.2.2.2.2.2.1 := congrArg (fun z => z.2.2.2.2.2.2.2.2.2.2.1) (hE155.trans e158.symm)
      have e170 : y131 = p157.2.2.2.2.2.2.2.2.2.2.2.1 := congrArg (fun z => z.2.2.2.2.2.2.2.2.2.2.2.1) (hE155.trans e158.symm)
      have e171 : f132 = p157.2.2.2.2.2.2.2.2.2.2.2.2 := congrArg (fun z => z.2.2.2.2.2.2.2.2.2.2.2.2) (hE155.trans e158.symm)
      replace b134 : q_F (0 ≤ a119.toInt) := b134
      replace b135 : q_F (y130.toInt ≤ 12200) := b135
      replace b136 : q_F (t6_1.toInt ≤ y122.toInt) := b136
      replace b137 : q_F (y122.toInt ≤ t6_1.toInt) := b137
      replace b138 : q_F (t6_2.toInt ≤ y123.toInt) := b138
      replace b139 : q_F (y123.toInt ≤ t6_2.toInt) := b139
      replace b140 : q_F (t6_3.toInt ≤ y124.toInt) := b140
      replace b141 : q_F (y124.toInt ≤ t6_3.toInt) := b141
      replace b142 : q_F (t6_4.toInt ≤ y125.toInt) := b142
      replace b143 : q_F (y125.toInt ≤ t6_4.toInt) := b143
      replace b144 : q_F (t6_5.toInt ≤ y126.toInt) := b144
      replace b145 : q_F (y126.toInt ≤ t6_5.toInt) := b145
      replace b146 : q_F (t6_6.toInt ≤ y127.toInt) := b146
      replace b147 : q_F (y127.toInt ≤ t6_6.toInt) := b147
      replace b148 : q_F (t6_7.toInt ≤ y128.toInt) := b148
      replace b149 : q_F (y128.toInt ≤ t6_7.toInt) := b149
      replace b150 : q_F (t6_8.toInt ≤ y129.toInt) := b150
      replace b151 : q_F (y129.toInt ≤ t6_8.toInt) := b151
      replace b152 : q_F (t6_10.toInt ≤ y131.toInt) := b152
      replace b153 : q_F (y131.toInt ≤ t6_10.toInt) := b153
      replace b154 : q_F (a119.toInt ≤ y130.toInt) := b154
      replace hT0 := (hu156 _ (by decide)).trans hT0
      replace hT1 := (hu156 _ (by decide)).trans hT1
      replace hT4 := (hu156 _ (by decide)).trans hT4
      replace hT5 := (hu156 _ (by decide)).trans hT5
      replace hT12 := (hu156 _ (by decide)).trans hT12
      replace hT13 := (hu156 _ (by decide)).trans hT13
      replace hT14 := (hu156 _ (by decide)).trans hT14
      replace hT15 := (hu156 _ (by decide)).trans hT15
      replace hT16 := (hu156 _ (by decide)).trans hT16
      replace hT17 := (hu156 _ (by decide)).trans hT17
      replace hF := q_uc hF hu156 (by simp)
      have hR172 := (show F_NM_toFloat_c82 x2 x3 x4 x5 t0_0 t0_1 t0_2 t1_0 t1_1 t1_2 t1_3 t1_4 t1_5 t1_6 t2_0 t3_0 t4_0 t5_0 t6_0 t6_1 t6_2 t6_3 t6_4 t6_5 t6_6 t6_7 t6_8 t6_9 t6_10 t7_0 t8_0 t9_0 t10_0 t11_0 t12_0 t12_1 t12_2 t12_3 t12_4 t12_5 t12_6 t12_7 t12_8 t12_9 t12_10 t13_0 t13_1 t13_2 t13_3 t13_4 t13_5 t13_6 t13_7 t13_8 t13_9 t13_10 t13_11 t13_12 t13_13 t14_0 t15_0 t16_0 t17_0 p157 = (F_NM_toFloat x2 x3 x4 x5 t0_0 t0_1 t0_2 t1_0 t1_1 t1_2 t1_3 t1_4 t1_5 t1_6 t2_0 t3_0 t4_0 t5_0 t6_0 t6_1 t6_2 t6_3 t6_4 t6_5 t6_6 t6_7 t6_8 t6_9 t6_10 t7_0 t8_0 t9_0 t10_0 t11_0 t12_0 t12_1 t12_2 t12_3 t12_4 t12_5 t12_6 t12_7 t12_8 t12_9 t12_10 t13_0 t13_1 t13_2 t13_3 t13_4 t13_5 t13_6 t13_7 t13_8 t13_9 t13_10 t13_11 t13_12 t13_13 t14_0 t15_0 t16_0 t17_0) from (by have c112x := c112; rw [e111] at c112x; rw [e158, F_NM_toFloat.eq_1, if_pos c112x, if_neg c114]))
      have hS173 := (show True ∧ S_NM_toFloat_c82 x2 x3 x4 x5 t0_0 t0_1 t0_2 t1_0 t1_1 t1_2 t1_3 t1_4 t1_5 t1_6 t2_0 t3_0 t4_0 t5_0 t6_0 t6_1 t6_2 t6_3 t6_4 t6_5 t6_6 t6_7 t6_8 t6_9 t6_10 t7_0 t8_0 t9_0 t10_0 t11_0 t12_0 t12_1 t12_2 t12_3 t12_4 t12_5 t12_6 t12_7 t12_8 t12_9 t12_10 t13_0 t13_1 t13_2 t13_3 t13_4 t13_5 t13_6 t13_7 t13_8 t13_9 t13_10 t13_11 t13_12 t13_13 t14_0 t15_0 t16_0 t17_0 p157 from (by rw [e158]; have h := hS; rw [S_NM_toFloat.eq_1] at h; have c112x := c112; rw [e111] at c112x; rw [if_pos c112x] at h; rw [if_neg c114] at h; replace h := q_s2 h; with_reducible exact h))
      refine lv_istore (lv' := [(7, .int a119), (5, .long 0), (0, .ref (q 116)), (1, .int x2), (2, .int x3), (3, .int x4), (4, .int x5)]) hx hb d_14_31_85 hl (by decide) rfl (fun ls hl => ?_)
      refine lv_aload_n hx hb d_14_31_87 rfl (lv_at hl 2 rfl) ?_
      refine q_get (ci := 12) (j := 8) (v := .ref (q 153)) C0 V i_NM rfl rfl hT0 (by decide) w_2306 rfl d_14_31_88 ?_
      refine lv_iload_n hx hb d_14_31_91 rfl (lv_at hl 3 rfl) ?_
      refine lv_if_ne (tgt := 105) hx hb d_14_31_92 (by decide) (fun c177 => ?_) (fun c177 => absurd (show x2.toInt = 0 from q_eqI c177) (by first | with_reducible exact q_fe b115 | (have t1 : x2.toInt ≠ 0 := b115; omega)))
      refine lv_aload_n hx hb d_14_31_105 rfl (lv_at hl 2 rfl) ?_
      refine q_get (ci := 12) (j := 6) (v := .ref (q 134)) C0 V i_NM rfl rfl hT0 (by decide) w_2304 rfl d_14_31_106 ?_
      refine q_getN (ci := 14) (j := 18) (v := .ref (q 144)) C0 V i_DR rfl rfl hO120 (by decide) wo_2022 rfl d_14_31_109 ?_
      refine lv_iload hx hb d_14_31_112 (lv_at hl 0 rfl) ?_
      refine lv_aload_n hx hb d_14_31_114 rfl (lv_at hl 2 rfl) ?_
      refine q_get (ci := 12) (j := 8) (v := .ref (q 153)) C0 V i_NM rfl rfl hT0 (by decide) w_2306 rfl d_14_31_115 ?_
      refine q_getN (ci := 16) (j := 1) (v := .ref (q 154)) C0 V i_TR rfl rfl hT13 (by decide) wo_2140 rfl d_14_31_118 ?_
      have ob178 : True ∧ S_NM_load (12200 : Int32) a119 (4100 : Int32) f132 t14_0 := (by rw [e171, e159]; have h := hS173; rw [S_NM_toFloat_c82.eq_1] at h; with_reducible exact h.2.1)
      refine q_goi V (q_runS (As := [.ref (q 144), .int a119, .ref (q 154)]) (rest := [.ref (q 153)]) (d := 1) (mc := 0) (ms := 0) C0 V rfl LS_NM_90 (X_NM_load l D g q u117 144 12200 (n_r144 g q) 154 4100 (n_r154 g q) a119 (by decide) hI f132 hA133 t14_0 hT14 ob178 _) rfl hl.1 rfl (Nat.le_of_ble_eq_true rfl) ⟨by decide, by decide⟩ ⟨Nat.le_of_ble_eq_true rfl, Nat.le_of_ble_eq_true rfl⟩ d_14_31_121) (fun a181 u179 H locs hp180 V => ?_)
      obtain ⟨hI, hZ9⟩ := hp180
      obtain ⟨hu189, hZ9⟩ := hZ9
      obtain ⟨f182, hZ9⟩ := hZ9
      obtain ⟨hA183, hZ9⟩ := hZ9
      obtain ⟨b184, hZ9⟩ := hZ9
      replace hZ9 := hZ9.2.2
      obtain ⟨b187, hE188⟩ := hZ9
      replace hA183 : u179[154]? = (some (q 154, .inl (g 0, (4100 : Int32).toNatClampNeg, .inl f182)) : Option (Nat × va_E)) := hA183
      obtain ⟨p190, e191⟩ : ∃ z, z = (F_NM_load (12200 : Int32) a119 (4100 : Int32) f132 t14_0) := ⟨_, rfl⟩
      have e192 : a181 = p190.1 := congrArg (fun z => z.1) (hE188.trans e191.symm)
      have e193 : f182 = p190.2 := congrArg (fun z => z.2) (hE188.trans e191.symm)
      replace b184 : q_F (a119.toInt ≤ a181.toInt) := b184
      replace b187 : q_F (a181.toInt ≤ 4100) := b187
      replace hT0 := (hu189 _ (by decide)).trans hT0
      replace hT1 := (hu189 _ (by decide)).trans hT1
      replace hT4 := (hu189 _ (by decide)).trans hT4
      replace hT5 := (hu189 _ (by decide)).trans hT5
      replace hO120 := (hu189 _ (by decide)).trans hO120
      replace hA133 := (hu189 _ (by decide)).trans hA133
      replace hT12 := (hu189 _ (by decide)).trans hT12
      replace hT13 := (hu189 _ (by decide)).trans hT13
      replace hT15 := (hu189 _ (by decide)).trans hT15
      replace hT16 := (hu189 _ (by decide)).trans hT16
      replace hT17 := (hu189 _ (by decide)).trans hT17
      replace hF := q_uc hF hu189 (by simp)
      have hR194 := (show F_NM_toFloat_c121 x2 x3 x4 x5 t0_0 t0_1 t0_2 t1_0 t1_1 t1_2 t1_3 t1_4 t1_5 t1_6 t2_0 t3_0 t4_0 t5_0 t6_0 t6_1 t6_2 t6_3 t6_4 t6_5 t6_6 t6_7 t6_8 t6_9 t6_10 t7_0 t8_0 t9_0 t10_0 t11_0 t12_0 t12_1 t12_2 t12_3 t12_4 t12_5 t12_6 t12_7 t12_8 t12_9 t12_10 t13_0 t13_1 t13_2 t13_3 t13_4 t13_5 t13_6 t13_7 t13_8 t13_9 t13_10 t13_11 t13_12 t13_13 t14_0 t15_0 t16_0 t17_0 p157 a119 y121 y122 y123 y124 y125 y126 y127 y128 y129 y130 y131 f132 p190 = (F_NM_toFloat x2 x3 x4 x5 t0_0 t0_1 t0_2 t1_0 t1_1 t1_2 t1_3 t1_4 t1_5 t1_6 t2_0 t3_0 t4_0 t5_0 t6_0 t6_1 t6_2 t6_3 t6_4 t6_5 t6_6 t6_7 t6_8 t6_9 t6_10 t7_0 t8_0 t9_0 t10_0 t11_0 t12_0 t12_1 t12_2 t12_3 t12_4 t12_5 t12_6 t12_7 t12_8 t12_9 t12_10 t13_0 t13_1 t13_2 t13_3 t13_4 t13_5 t13_6 t13_7 t13_8 t13_9 t13_10 t13_11 t13_12 t13_13 t14_0 t15_0 t16_0 t17_0) from Eq.trans (by rw [e191, e171, e170, e169, e168, e167, e166, e165, e164, e163, e162, e161, e160, e159, F_NM_toFloat_c82.eq_1]) hR172)
      have hS195 := (show True ∧ S_NM_toFloat_c121 x2 x3 x4 x5 t0_0 t0_1 t0_2 t1_0 t1_1 t1_2 t1_3 t1_4 t1_5 t1_6 t2_0 t3_0 t4_0 t5_0 t6_0 t6_1 t6_2 t6_3 t6_4 t6_5 t6_6 t6_7 t6_8 t6_9 t6_10 t7_0 t8_0 t9_0 t10_0 t11_0 t12_0 t12_1 t12_2 t12_3 t12_4 t12_5 t12_6 t12_7 t12_8 t12_9 t12_10 t13_0 t13_1 t13_2 t13_3 t13_4 t13_5 t13_6 t13_7 t13_8 t13_9 t13_10 t13_11 t13_12 t13_13 t14_0 t15_0 t16_0 t17_0 p157 a119 y121 y122 y123 y124 y125 y126 y127 y128 y129 y130 y131 f132 p190 from (by rw [e191, e171, e170, e169, e168, e167, e166, e165, e164, e163, e162, e161, e160, e159]; have h := hS173; rw [S_NM_toFloat_c82.eq_1] at h; replace h := q_s2 h; with_reducible exact h))
      refine q_putN (ci := 16) (j := 2) (v := .int a181) (ty := .int) C0 V i_TR o_TR n_TR rfl rfl hT13 (by decide) wo_2142 rfl rfl rfl rfl (Nat.le_of_ble_eq_true rfl) d_14_31_124 (fun H locs w199 hu200 hT13 V => ?_)
      replace hT13 : w199[153]? = (some (q 153, .inr (16, [.int t13_0, .ref (q 154), .int a181, .int t13_2, .int t13_3, .int t13_4, .ref (q 155), .int t13_5, .int t13_6, .long t13_7, .ref (q 156), .int t13_8, .int t13_9, .long t13_10, .long t13_11, .int t13_12, .int t13_13])) : Option (Nat × va_E)) := hT13
      replace hI := n_p153 hI hu200 hT13 ⟨(by have t1 : 0 ≤ a119.toInt := b134; have t2 : a119.toInt ≤ a181.toInt := b184; omega), (by first | with_reducible exact q_fe b187 | (have t1 : a181.toInt ≤ 4100 := b187; omega))⟩ (by first | with_reducible exact q_fe btt13_4 | exact ⟨(by have t1 : 0 ≤ t13_4.toInt ∧ t13_4.toInt ≤ 1 := btt13_4; omega), (by have t1 : 0 ≤ t13_4.toInt ∧ t13_4.toInt ≤ 1 := btt13_4; omega)⟩) (by first | with_reducible exact q_fe btt13_13 | exact ⟨(by have t1 : 0 ≤ t13_13.toInt ∧ t13_13.toInt ≤ 1 := btt13_13; omega), (by have t1 : 0 ≤ t13_13.toInt ∧ t13_13.toInt ≤ 1 := btt13_13; omega)⟩)
      replace hT0 := (hu200 _ (by decide)).trans hT0
      replace hT1 := (hu200 _ (by decide)).trans hT1
      replace hT4 := (hu200 _ (by decide)).trans hT4
      replace hT5 := (hu200 _ (by decide)).trans hT5
      replace hO120 := (hu200 _ (by decide)).trans hO120
      replace hA133 := (hu200 _ (by decide)).trans hA133
      replace hT12 := (hu200 _ (by decide)).trans hT12
      replace hA183 := (hu200 _ (by decide)).trans hA183
      replace hT15 := (hu200 _ (by decide)).trans hT15
      replace hT16 := (hu200 _ (by decide)).trans hT16
      replace hT17 := (hu200 _ (by decide)).trans hT17
      replace hF := q_us hF hu200 (by simp)
      refine lv_iload_n hx hb d_14_31_127 rfl (lv_at hl 5 rfl) ?_
      refine lv_iconst (v := 2) hx hb d_14_31_128 (by decide) ?_
      refine lv_icmp_ne (tgt := 142) hx hb d_14_31_129 (by decide) (fun c201 => ?_) (fun c201 => ?_)
      ·
        refine lv_aload_n hx hb d_14_31_142 rfl (lv_at hl 2 rfl) ?_
        refine q_get (ci := 12) (j := 8) (v := .ref (q 153)) C0 V i_NM rfl rfl hT0 (by decide) w_2306 rfl d_14_31_143 ?_
        have ob203 : True ∧ S_TR_floatBits t13_0 a181 t13_2 t13_3 t13_4 t13_5 t13_6 t13_7 t13_8 t13_9 t13_10 t13_11 t13_12 t13_13 f182 t15_0 t16_0 := (by rw [e193, e192]; have h := hS195; rw [S_NM_toFloat_c121.eq_1] at h; rw [if_neg c201] at h; with_reducible exact h.2.1)
        refine q_goi V (q_runV (As := []) (rest := []) (d := 6) (mc := 0) (ms := 0) (ci := 16) C0 V rfl LV_NM_113 (X_TR_floatBits l D g q w199   hI t13_0 a181 t13_2 t13_3 t13_4 t13_5 t13_6 t13_7 t13_8 t13_9 t13_10 t13_11 t13_12 t13_13 hT13 f182 hA183 t15_0 hT15 t16_0 hT16 ob203 _) rfl rfl hT13 rfl hl.1 rfl (Nat.le_of_ble_eq_true rfl) ⟨by decide, by decide⟩ ⟨Nat.le_of_ble_eq_true rfl, Nat.le_of_ble_eq_true rfl⟩ d_14_31_146) (fun a206 u204 H locs hp205 V => ?_)
        obtain ⟨hI, hZ9⟩ := hp205
        obtain ⟨hu237, hZ9⟩ := hZ9
        obtain ⟨y208, hZ9⟩ := hZ9
        obtain ⟨y209, hZ9⟩ := hZ9
        obtain ⟨y210, hZ9⟩ := hZ9
        obtain ⟨y211, hZ9⟩ := hZ9
        obtain ⟨y212, hZ9⟩ := hZ9
        obtain ⟨y213, hZ9⟩ := hZ9
        obtain ⟨y214, hZ9⟩ := hZ9
        obtain ⟨y215, hZ9⟩ := hZ9
        obtain ⟨y216, hZ9⟩ := hZ9
        obtain ⟨y217, hZ9⟩ := hZ9
        obtain ⟨y218, hZ9⟩ := hZ9
        obtain ⟨y219, hZ9⟩ := hZ9
        obtain ⟨y220, hZ9⟩ := hZ9
        obtain ⟨y221, hZ9⟩ := hZ9
        obtain ⟨f222, hZ9⟩ := hZ9
        obtain ⟨f224, hZ9⟩ := hZ9
        obtain ⟨hO207, hZ9⟩ := hZ9
        obtain ⟨hA223, hZ9⟩ := hZ9
        obtain ⟨hA225, hZ9⟩ := hZ9
        replace hZ9 := hZ9.2.2.2.2
        obtain ⟨b230, hZ9⟩ := hZ9
        obtain ⟨b231, hZ9⟩ := hZ9
        obtain ⟨b232, hZ9⟩ := hZ9
        obtain ⟨b233, hZ9⟩ := hZ9
        replace hZ9 := hZ9.2
        obtain ⟨-, hE236⟩ := hZ9
        replace hO207 : u204[153]? = (some (q 153, .inr (16, [.int y208, .ref (q 154), .int y209, .int y210, .int y211, .int y212, .ref (q 155), .int y213, .int y214, .long y215, .ref (q 156), .int y216, .int y217, .long y218, .long y219, .int y220, .int y221])) : Option (Nat × va_E)) := hO207
        replace hA223 : u204[155]? = (some (q 155, .inl (g 0, (4100 : Int32).toNatClampNeg, .inl f222)) : Option (Nat × va_E)) := hA223
        replace hA225 : u204[156]? = (some (q 156, .inl (g 0, (800 : Int32).toNatClampNeg, .inl f224)) : Option (Nat × va_E)) := hA225
        obtain ⟨p238, e239⟩ : ∃ z, z = (F_TR_floatBits t13_0 a181 t13_2 t13_3 t13_4 t13_5 t13_6 t13_7 t13_8 t13_9 t13_10 t13_11 t13_12 t13_13 f182 t15_0 t16_0) := ⟨_, rfl⟩
        have e240 : a206 = p238.1 := congrArg (fun z => z.1) (hE236.trans e239.symm)
        have e241 : y208 = p238.2.1 := congrArg (fun z => z.2.1) (hE236.trans e239.symm)
        have e242 : y209 = p238.2.2.1 := congrArg (fun z => z.2.2.1) (hE236.trans e239.symm)
        have e243 : y210 = p238.2.2.2.1 := congrArg (fun z => z.2.2.2.1) (hE236.trans e239.symm)
        have e244 : y211 = p238.2.2.2.2.1 := congrArg (fun z => z.2.2.2.2.1) (hE236.trans e239.symm)
        have e245 : y212 = p238.2.2.2.2.2.1 := congrArg (fun z => z.2.2.2.2.2.1) (hE236.trans e239.symm)
        have e246 : y213 = p238.2.2.2.2.2.2.1 := congrArg (fun z => z.2.2.2.2.2.2.1) (hE236.trans e239.symm)
        have e247 : y214 = p238.2.2.2.2.2.2.2.1 := congrArg (fun z => z.2.2.2.2.2.2.2.1) (hE236.trans e239.symm)
        have e248 : y215 = p238.2.2.2.2.2.2.2.2.1 := congrArg (fun z => z.2.2.2.2.2.2.2.2.1) (hE236.trans e239.symm)
        have e249 : y216 = p238.2.2.2.2.2.2.2.2.2.1 := congrArg (fun z => z.2.2.2.2.2.2.2.2.2.1) (hE236.trans e239.symm)
        have e250 : y217 = p238.2.2.2.2.2.2.2.2.2.2.1 := congrArg (fun z => z.2.2.2.2.2.2.2.2.2.2.1) (hE236.trans e239.symm)
        have e251 : y218 = p238.2.2.2.2.2.2.2.2.2.2.2.1 := congrArg (fun z => z.2.2.2.2.2.2.2.2.2.2.2.1) (hE236.trans e239.symm)
        have e252 : y219 = p238.2.2.2.2.2.2.2.2.2.2.2.2.1 := congrArg (fun z => z.2.2.2.2.2.2.2.2.2.2.2.2.1) (hE236.trans e239.symm)
        have e253 : y220 = p238.2.2.2.2.2.2.2.2.2.2.2.2.2.1 := congrArg (fun z => z.2.2.2.2.2.2.2.2.2.2.2.2.2.1) (hE236.trans e239.symm)
        have e254 : y221 = p238.2.2.2.2.2.2.2.2.2.2.2.2.2.2.1 := congrArg (fun z => z.2.2.2.2.2.2.2.2.2.2.2.2.2.2.1) (hE236.trans e239.symm)
        have e255 : f222 = p238.2.2.2.2.2.2.2.2.2.2.2.2.2.2.2.1 := congrArg (fun z => z.2.2.2.2.2.2.2.2.2.2.2.2.2.2.2.1) (hE236.trans e239.symm)
        have e256 : f224 = p238.2.2.2.2.2.2.2.2.2.2.2.2.2.2.2.2 := congrArg (fun z => z.2.2.2.2.2.2.2.2.2.2.2.2.2.2.2.2) (hE236.trans e239.symm)
        replace b230 : q_F (0 ≤ y212.toInt) := b230
        replace b231 : q_F (y212.toInt ≤ 1) := b231
        replace b232 : q_F (0 ≤ y221.toInt) := b232
        replace b233 : q_F (y221.toInt ≤ 1) := b233
        replace hT0 := (hu237 _ (by decide)).trans hT0
        replace hT1 := (hu237 _ (by decide)).trans hT1
        replace hT4 := (hu237 _ (by decide)).trans hT4
        replace hT5 := (hu237 _ (by decide)).trans hT5
        replace hO120 := (hu237 _ (by decide)).trans hO120
        replace hA133 := (hu237 _ (by decide)).trans hA133
        replace hT12 := (hu237 _ (by decide)).trans hT12
        replace hA183 := (hu237 _ (by decide)).trans hA183
        replace hT17 := (hu237 _ (by decide)).trans hT17
        replace hF := q_uc hF hu237 (by simp)
        have hR257 := (show F_NM_toFloat_c146 x2 x3 x4 x5 t0_0 t0_1 t0_2 t1_0 t1_1 t1_2 t1_3 t1_4 t1_5 t1_6 t2_0 t3_0 t4_0 t5_0 t6_0 t6_1 t6_2 t6_3 t6_4 t6_5 t6_6 t6_7 t6_8 t6_9 t6_10 t7_0 t8_0 t9_0 t10_0 t11_0 t12_0 t12_1 t12_2 t12_3 t12_4 t12_5 t12_6 t12_7 t12_8 t12_9 t12_10 t13_0 t13_1 t13_2 t13_3 t13_4 t13_5 t13_6 t13_7 t13_8 t13_9 t13_10 t13_11 t13_12 t13_13 t14_0 t15_0 t16_0 t17_0 p157 a119 y121 y122 y123 y124 y125 y126 y127 y128 y129 y130 y131 f132 p190 f182 p238 = (F_NM_toFloat x2 x3 x4 x5 t0_0 t0_1 t0_2 t1_0 t1_1 t1_2 t1_3 t1_4 t1_5 t1_6 t2_0 t3_0 t4_0 t5_0 t6_0 t6_1 t6_2 t6_3 t6_4 t6_5 t6_6 t6_7 t6_8 t6_9 t6_10 t7_0 t8_0 t9_0 t10_0 t11_0 t12_0 t12_1 t12_2 t12_3 t12_4 t12_5 t12_6 t12_7 t12_8 t12_9 t12_10 t13_0 t13_1 t13_2 t13_3 t13_4 t13_5 t13_6 t13_7 t13_8 t13_9 t13_10 t13_11 t13_12 t13_13 t14_0 t15_0 t16_0 t17_0) from Eq.trans (by rw [e239, e193, e192, F_NM_toFloat_c121.eq_1, if_neg c201]) hR194)
        have hS258 := (show True ∧ S_NM_toFloat_c146 x2 x3 x4 x5 t0_0 t0_1 t0_2 t1_0 t1_1 t1_2 t1_3 t1_4 t1_5 t1_6 t2_0 t3_0 t4_0 t5_0 t6_0 t6_1 t6_2 t6_3 t6_4 t6_5 t6_6 t6_7 t6_8 t6_9 t6_10 t7_0 t8_0 t9_0 t10_0 t11_0 t12_0 t12_1 t12_2 t12_3 t12_4 t12_5 t12_6 t12_7 t12_8 t12_9 t12_10 t13_0 t13_1 t13_2 t13_3 t13_4 t13_5 t13_6 t13_7 t13_8 t13_9 t13_10 t13_11 t13_12 t13_13 t14_0 t15_0 t16_0 t17_0 p157 a119 y121 y122 y123 y124 y125 y126 y127 y128 y129 y130 y131 f132 p190 f182 p238 from (by rw [e239, e193, e192]; have h := hS195; rw [S_NM_toFloat_c121.eq_1] at h; rw [if_neg c201] at h; replace h := q_s2 h; with_reducible exact h))
        refine lv_i2l hx hb d_14_31_149 rfl ?_
        obtain ⟨j262, e263⟩ := q_nm (a206.toInt64 : Int64)
        refine q_tl (v := j262) e263 ?_
        refine q_ldc2 C0 rfl w_2530 d_14_31_150 ?_
        refine lv_land hx hb d_14_31_153 ?_
        obtain ⟨j265, e266⟩ := q_nm (j262 &&& 4294967295 : Int64)
        refine q_tl (v := j265) e266 ?_
        refine lv_lstore (lv' := [(5, .long j265), (7, .int a119), (0, .ref (q 116)), (1, .int x2), (2, .int x3), (3, .int x4), (4, .int x5)]) hx hb d_14_31_154 hl (by decide) rfl (fun ls hl => ?_)
        refine lv_aload_n hx hb d_14_31_156 rfl (lv_at hl 2 rfl) ?_
        refine q_get (ci := 12) (j := 8) (v := .ref (q 153)) C0 V i_NM rfl rfl hT0 (by decide) w_2306 rfl d_14_31_157 ?_
        refine lv_iconst (v := 0) hx hb d_14_31_160 (by decide) ?_
        refine q_putN (ci := 16) (j := 2) (v := .int 0) (ty := .int) C0 V i_TR o_TR n_TR rfl rfl hO207 (by decide) wo_2142 rfl rfl rfl rfl (Nat.le_of_ble_eq_true rfl) d_14_31_161 (fun H locs w268 hu269 hO207 V => ?_)
        replace hO207 : w268[153]? = (some (q 153, .inr (16, [.int y208, .ref (q 154), .int 0, .int y210, .int y211, .int y212, .ref (q 155), .int y213, .int y214, .long y215, .ref (q 156), .int y216, .int y217, .long y218, .long y219, .int y220, .int y221])) : Option (Nat × va_E)) := hO207
        replace hI := n_p153 hI hu269 hO207 ⟨(by have z9 : (0 : Int32).toInt = 0 := rfl; omega), (by have z9 : (0 : Int32).toInt = 0 := rfl; omega)⟩ ⟨(by first | with_reducible exact q_fe b230 | (have t1 : 0 ≤ y212.toInt := b230; omega)), (by first | with_reducible exact q_fe b231 | (have t1 : y212.toInt ≤ 1 := b231; omega))⟩ ⟨(by first | with_reducible exact q_fe b232 | (have t1 : 0 ≤ y221.toInt := b232; omega)), (by first | with_reducible exact q_fe b233 | (have t1 : y221.toInt ≤ 1 := b233; omega))⟩
        replace hT0 := (hu269 _ (by decide)).trans hT0
        replace hT1 := (hu269 _ (by decide)).trans hT1
        replace hT4 := (hu269 _ (by decide)).trans hT4
        replace hT5 := (hu269 _ (by decide)).trans hT5
        replace hO120 := (hu269 _ (by decide)).trans hO120
        replace hA133 := (hu269 _ (by decide)).trans hA133
        replace hT12 := (hu269 _ (by decide)).trans hT12
        replace hA183 := (hu269 _ (by decide)).trans hA183
        replace hA223 := (hu269 _ (by decide)).trans hA223
        replace hA225 := (hu269 _ (by decide)).trans hA225
        replace hT17 := (hu269 _ (by decide)).trans hT17
        replace hF := q_us hF hu269 (by simp)
        refine lv_aload_n hx hb d_14_31_164 rfl (lv_at hl 2 rfl) ?_
        refine lv_iload_n hx hb d_14_31_165 rfl (lv_at hl 5 rfl) ?_
        refine lv_iload hx hb d_14_31_166 (lv_at hl 6 rfl) ?_
        refine lv_lload hx hb d_14_31_168 (lv_at hl 0 rfl) ?_
        have ob270 : True ∧ S_NM_setBits x4 x5 j265 t0_0 t0_1 t0_2 t17_0 := (by rw [← e266, ← e263, e240]; have h := hS258; rw [S_NM_toFloat_c146.eq_1] at h; with_reducible exact h.2.1)
        refine q_gov V (q_runV (As := [.int x4, .int x5, .long j265]) (rest := []) (d := 1) (mc := 0) (ms := 0) (ci := 12) C0 V rfl LV_NM_120 (X_NM_setBits l D g q w268  x4 x5 j265 hI t0_0 t0_1 t0_2 hT0 t17_0 hT17 ob270 _) rfl rfl hT0 rfl hl.1 rfl (Nat.le_of_ble_eq_true rfl) ⟨by decide, by decide⟩ ⟨Nat.le_of_ble_eq_true rfl, Nat.le_of_ble_eq_true rfl⟩ d_14_31_170) (fun u271 H locs hp272 V => ?_)
        obtain ⟨hI, hu276, f273, hA274, hE275⟩ := hp272
        replace hA274 : u271[167]? = (some (q 167, .inl (g 1, 20, .inr (.inl f273))) : Option (Nat × va_E)) := hA274
        have e277 : f273 = (F_NM_setBits x4 x5 j265 t0_0 t0_1 t0_2 t17_0) := hE275
        replace hT1 := (hu276 _ (by decide)).trans hT1
        replace hT4 := (hu276 _ (by decide)).trans hT4
        replace hT5 := (hu276 _ (by decide)).trans hT5
        replace hO120 := (hu276 _ (by decide)).trans hO120
        replace hA133 := (hu276 _ (by decide)).trans hA133
        replace hT12 := (hu276 _ (by decide)).trans hT12
        replace hO207 := (hu276 _ (by decide)).trans hO207
        replace hA183 := (hu276 _ (by decide)).trans hA183
        replace hA223 := (hu276 _ (by decide)).trans hA223
        replace hA225 := (hu276 _ (by decide)).trans hA225
        replace hF := q_uc hF hu276 (by simp)
        exact q_retv C0 V (⟨hI, hF, t1_0, t1_1, t1_2, t1_3, t1_4, t1_5, t1_6, t4_0, t5_0, y121, y122, y123, y124, y125, y126, y127, y128, y129, y130, y131, f132, t12_0, t12_1, t12_2, t12_3, t12_4, t12_5, t12_6, t12_7, t12_8, t12_9, t12_10, y208, 0, y210, y211, y212, y213, y214, y215, y216, y217, y218, y219, y220, y221, f182, f222, f224, f273, hT1, hT4, hT5, hO120, hA133, hT12, hO207, hA183, hA223, hA225, hA274, (show 0 ≤ t1_2.toInt from (by have z96 : (0 : Int32).toInt = 0 := rfl; have t1 : 0 ≤ t1_2.toInt ∧ t1_2.toInt ≤ 4100 := btt1_2; omega)), (show t1_2.toInt ≤ 4100 from (by have z96 : (0 : Int32).toInt = 0 := rfl; have t1 : 0 ≤ t1_2.toInt ∧ t1_2.toInt ≤ 4100 := btt1_2; omega)), (show 0 ≤ t1_3.toInt from (by have z96 : (0 : Int32).toInt = 0 := rfl; have t1 : 0 ≤ t1_3.toInt ∧ t1_3.toInt ≤ 1 := btt1_3; omega)), (show t1_3.toInt ≤ 1 from (by have z96 : (0 : Int32).toInt = 0 := rfl; have t1 : 0 ≤ t1_3.toInt ∧ t1_3.toInt ≤ 1 := btt1_3; omega)), (show 0 ≤ t1_4.toInt from (by have z96 : (0 : Int32).toInt = 0 := rfl; have t1 : 0 ≤ t1_4.toInt ∧ t1_4.toInt ≤ 1 := btt1_4; omega)), (show t1_4.toInt ≤ 1 from (by have z96 : (0 : Int32).toInt = 0 := rfl; have t1 : 0 ≤ t1_4.toInt ∧ t1_4.toInt ≤ 1 := btt1_4; omega)), (show 0 ≤ t1_5.toInt from (by have z96 : (0 : Int32).toInt = 0 := rfl; have t1 : 0 ≤ t1_5.toInt ∧ t1_5.toInt ≤ 1 := btt1_5; omega)), (show t1_5.toInt ≤ 1 from (by have z96 : (0 : Int32).toInt = 0 := rfl; have t1 : 0 ≤ t1_5.toInt ∧ t1_5.toInt ≤ 1 := btt1_5; omega)), (show 0 ≤ t1_6.toInt from (by have z96 : (0 : Int32).toInt = 0 := rfl; have t1 : 0 ≤ t1_6.toInt ∧ t1_6.toInt ≤ 2100 := btt1_6; omega)), (show t1_6.toInt ≤ 2100 from (by have z96 : (0 : Int32).toInt = 0 := rfl; have t1 : 0 ≤ t1_6.toInt ∧ t1_6.toInt ≤ 2100 := btt1_6; omega)), (show 0 ≤ y122.toInt from (by have z96 : (0 : Int32).toInt = 0 := rfl; have t1 : 0 ≤ t6_1.toInt ∧ t6_1.toInt ≤ 4100 := btt6_1; have t2 : t6_1.toInt ≤ y122.toInt := b136; omega)), (show y122.toInt ≤ 4100 from (by have z96 : (0 : Int32).toInt = 0 := rfl; have t1 : 0 ≤ t6_1.toInt ∧ t6_1.toInt ≤ 4100 := btt6_1; have t2 : y122.toInt ≤ t6_1.toInt := b137; omega)), (show 0 ≤ y125.toInt from (by have z96 : (0 : Int32).toInt = 0 := rfl; have t1 : 0 ≤ t6_4.toInt ∧ t6_4.toInt ≤ 1 := btt6_4; have t2 : t6_4.toInt ≤ y125.toInt := b142; omega)), (show y125.toInt ≤ 1 from (by have z96 : (0 : Int32).toInt = 0 := rfl; have t1 : 0 ≤ t6_4.toInt ∧ t6_4.toInt ≤ 1 := btt6_4; have t2 : y125.toInt ≤ t6_4.toInt := b143; omega)), (show 0 ≤ y126.toInt from (by have z96 : (0 : Int32).toInt = 0 := rfl; have t1 : 0 ≤ t6_5.toInt ∧ t6_5.toInt ≤ 1 := btt6_5; have t2 : t6_5.toInt ≤ y126.toInt := b144; omega)), (show y126.toInt ≤ 1 from (by have z96 : (0 : Int32).toInt = 0 := rfl; have t1 : 0 ≤ t6_5.toInt ∧ t6_5.toInt ≤ 1 := btt6_5; have t2 : y126.toInt ≤ t6_5.toInt := b145; omega)), (show 0 ≤ y130.toInt from (by have z96 : (0 : Int32).toInt = 0 := rfl; have t1 : 0 ≤ a119.toInt := b134; have t2 : a119.toInt ≤ y130.toInt := b154; omega)), (show y130.toInt ≤ 12200 from (by have z96 : (0 : Int32).toInt = 0 := rfl; have t1 : y130.toInt ≤ 12200 := b135; omega)), (show 0 ≤ t12_2.toInt from (by have z96 : (0 : Int32).toInt = 0 := rfl; have t1 : 0 ≤ t12_2.toInt ∧ t12_2.toInt ≤ 1 := btt12_2; omega)), (show t12_2.toInt ≤ 1 from (by have z96 : (0 : Int32).toInt = 0 := rfl; have t1 : 0 ≤ t12_2.toInt ∧ t12_2.toInt ≤ 1 := btt12_2; omega)), (show 0 ≤ (0 : Int32).toInt from (by have z96 : (0 : Int32).toInt = 0 := rfl; omega)), (show (0 : Int32).toInt ≤ 4100 from (by have z96 : (0 : Int32).toInt = 0 := rfl; omega)), (show 0 ≤ y212.toInt from (by have z96 : (0 : Int32).toInt = 0 := rfl; have t1 : 0 ≤ y212.toInt := b230; omega)), (show y212.toInt ≤ 1 from (by have z96 : (0 : Int32).toInt = 0 := rfl; have t1 : y212.toInt ≤ 1 := b231; omega)), (show 0 ≤ y221.toInt from (by have z96 : (0 : Int32).toInt = 0 := rfl; have t1 : 0 ≤ y221.toInt := b232; omega)), (show y221.toInt ≤ 1 from (by have z96 : (0 : Int32).toInt = 0 := rfl; have t1 : y221.toInt ≤ 1 := b233; omega)), (show t1_1.toInt ≤ t1_1.toInt from (by have z96 : (0 : Int32).toInt = 0 := rfl; omega)), (show t1_1.toInt ≤ t1_1.toInt from (by have z96 : (0 : Int32).toInt = 0 := rfl; omega)), (show t1_2.toInt ≤ t1_2.toInt from (by have z96 : (0 : Int32).toInt = 0 := rfl; omega)), (show t1_2.toInt ≤ t1_2.toInt from (by have z96 : (0 : Int32).toInt = 0 := rfl; omega)), (show t1_3.toInt ≤ t1_3.toInt from (by have z96 : (0 : Int32).toInt = 0 := rfl; omega)), (show t1_3.toInt ≤ t1_3.toInt from (by have z96 : (0 : Int32).toInt = 0 := rfl; omega)), (show t1_4.toInt ≤ t1_4.toInt from (by have z96 : (0 : Int32).toInt = 0 := rfl; omega)), (show t1_4.toInt ≤ t1_4.toInt from (by have z96 : (0 : Int32).toInt = 0 := rfl; omega)), (show t1_5.toInt ≤ t1_5.toInt from (by have z96 : (0 : Int32).toInt = 0 := rfl; omega)), (show t1_5.toInt ≤ t1_5.toInt from (by have z96 : (0 : Int32).toInt = 0 := rfl; omega)), (show t1_6.toInt ≤ t1_6.toInt + 2099 from (by have z96 : (0 : Int32).toInt = 0 := rfl; omega)), (show t6_1.toInt ≤ y122.toInt from (by have z96 : (0 : Int32).toInt = 0 := rfl; have t1 : t6_1.toInt ≤ y122.toInt := b136; omega)), (show y122.toInt ≤ t6_1.toInt from (by have z96 : (0 : Int32).toInt = 0 := rfl; have t1 : y122.toInt ≤ t6_1.toInt := b137; omega)), (show t6_2.toInt ≤ y123.toInt from (by have z96 : (0 : Int32).toInt = 0 := rfl; have t1 : t6_2.toInt ≤ y123.toInt := b138; omega)), (show y123.toInt ≤ t6_2.toInt from (by have z96 : (0 : Int32).toInt = 0 := rfl; have t1 : y123.toInt ≤ t6_2.toInt := b139; omega)), (show t6_3.toInt ≤ y124.toInt from (by have z96 : (0 : Int32).toInt = 0 := rfl; have t1 : t6_3.toInt ≤ y124.toInt := b140; omega)), (show y124.toInt ≤ t6_3.toInt from (by have z96 : (0 : Int32).toInt = 0 := rfl; have t1 : y124.toInt ≤ t6_3.toInt := b141; omega)), (show t6_4.toInt ≤ y125.toInt from (by have z96 : (0 : Int32).toInt = 0 := rfl; have t1 : t6_4.toInt ≤ y125.toInt := b142; omega)), (show y125.toInt ≤ t6_4.toInt from (by have z96 : (0 : Int32).toInt = 0 := rfl; have t1 : y125.toInt ≤ t6_4.toInt := b143; omega)), (show t6_5.toInt ≤ y126.toInt from (by have z96 : (0 : Int32).toInt = 0 := rfl; have t1 : t6_5.toInt ≤ y126.toInt := b144; omega)), (show y126.toInt ≤ t6_5.toInt from (by have z96 : (0 : Int32).toInt = 0 := rfl; have t1 : y126.toInt ≤ t6_5.toInt := b145; omega)), (show t6_6.toInt ≤ y127.toInt from (by have z96 : (0 : Int32).toInt = 0 := rfl; have t1 : t6_6.toInt ≤ y127.toInt := b146; omega)), (show y127.toInt ≤ t6_6.toInt from (by have z96 : (0 : Int32).toInt = 0 := rfl; have t1 : y127.toInt ≤ t6_6.toInt := b147; omega)), (show t6_7.toInt ≤ y128.toInt from (by have z96 : (0 : Int32).toInt = 0 := rfl; have t1 : t6_7.toInt ≤ y128.toInt := b148; omega)), (show y128.toInt ≤ t6_7.toInt from (by have z96 : (0 : Int32).toInt = 0 := rfl; have t1 : y128.toInt ≤ t6_7.toInt := b149; omega)), (show t6_8.toInt ≤ y129.toInt from (by have z96 : (0 : Int32).toInt = 0 := rfl; have t1 : t6_8.toInt ≤ y129.toInt := b150; omega)), (show y129.toInt ≤ t6_8.toInt from (by have z96 : (0 : Int32).toInt = 0 := rfl; have t1 : y129.toInt ≤ t6_8.toInt := b151; omega)), (show t6_10.toInt ≤ y131.toInt from (by have z96 : (0 : Int32).toInt = 0 := rfl; have t1 : t6_10.toInt ≤ y131.toInt := b152; omega)), (show y131.toInt ≤ t6_10.toInt from (by have z96 : (0 : Int32).toInt = 0 := rfl; have t1 : y131.toInt ≤ t6_10.toInt := b153; omega)), (show t12_1.toInt ≤ t12_1.toInt from (by have z96 : (0 : Int32).toInt = 0 := rfl; omega)), (show t12_1.toInt ≤ t12_1.toInt from (by have z96 : (0 : Int32).toInt = 0 := rfl; omega)), (show t12_9.toInt ≤ t12_9.toInt from (by have z96 : (0 : Int32).toInt = 0 := rfl; omega)), (show t12_9.toInt ≤ t12_9.toInt from (by have z96 : (0 : Int32).toInt = 0 := rfl; omega)), (show t12_10.toInt ≤ t12_10.toInt from (by have z96 : (0 : Int32).toInt = 0 := rfl; omega)), (show t12_10.toInt ≤ t12_10.toInt from (by have z96 : (0 : Int32).toInt = 0 := rfl; omega)), (show (0 : Int32).toInt ≤ t13_1.toInt from (by have z96 : (0 : Int32).toInt = 0 := rfl; have t1 : 0 ≤ t13_1.toInt ∧ t13_1.toInt ≤ 4100 := btt13_1; omega)), (show (t1_0, t1_1, t1_2, t1_3, t1_4, t1_5, t1_6, t4_0, t5_0, y121, y122, y123, y124, y125, y126, y127, y128, y129, y130, y131, f132, t12_0, t12_1, t12_2, t12_3, t12_4, t12_5, t12_6, t12_7, t12_8, t12_9, t12_10, y208, (0 : Int32), y210, y211, y212, y213, y214, y215, y216, y217, y218, y219, y220, y221, f182, f222, f224, f273) = (F_NM_toFloat x2 x3 x4 x5 t0_0 t0_1 t0_2 t1_0 t1_1 t1_2 t1_3 t1_4 t1_5 t1_6 t2_0 t3_0 t4_0 t5_0 t6_0 t6_1 t6_2 t6_3 t6_4 t6_5 t6_6 t6_7 t6_8 t6_9 t6_10 t7_0 t8_0 t9_0 t10_0 t11_0 t12_0 t12_1 t12_2 t12_3 t12_4 t12_5 t12_6 t12_7 t12_8 t12_9 t12_10 t13_0 t13_1 t13_2 t13_3 t13_4 t13_5 t13_6 t13_7 t13_8 t13_9 t13_10 t13_11 t13_12 t13_13 t14_0 t15_0 t16_0 t17_0) from Eq.trans (by rw [e277, ← e266, ← e263, e256, e255, e254, e253, e252, e251, e250, e249, e248, e247, e246, e245, e244, e243, e241, e240, F_NM_toFloat_c146.eq_1]) hR257)⟩) d_14_31_173
      ·
        refine lv_aload_n hx hb d_14_31_132 rfl (lv_at hl 2 rfl) ?_
        refine q_get (ci := 12) (j := 8) (v := .ref (q 153)) C0 V i_NM rfl rfl hT0 (by decide) w_2306 rfl d_14_31_133 ?_
        have ob279 : True ∧ S_TR_bits t13_0 a181 t13_2 t13_3 t13_4 t13_5 t13_6 t13_7 t13_8 t13_9 t13_10 t13_11 t13_12 t13_13 f182 t15_0 t16_0 := (by rw [e193, e192]; have h := hS195; rw [S_NM_toFloat_c121.eq_1] at h; rw [if_pos c201] at h; with_reducible exact h.2.1)
        refine q_gol V (q_runV (As := []) (rest := []) (d := 6) (mc := 0) (ms := 0) (ci := 16) C0 V rfl LV_NM_110 (X_TR_bits l D g q w199   hI t13_0 a181 t13_2 t13_3 t13_4 t13_5 t13_6 t13_7 t13_8 t13_9 t13_10 t13_11 t13_12 t13_13 hT13 f182 hA183 t15_0 hT15 t16_0 hT16 ob279 _) rfl rfl hT13 rfl hl.1 rfl (Nat.le_of_ble_eq_true rfl) ⟨by decide, by decide⟩ ⟨Nat.le_of_ble_eq_true rfl, Nat.le_of_ble_eq_true rfl⟩ d_14_31_136) (fun j282 u280 H locs hp281 V => ?_)
        obtain ⟨hI, hZ9⟩ := hp281
        obtain ⟨hu313, hZ9⟩ := hZ9
        obtain ⟨y284, hZ9⟩ := hZ9
        obtain ⟨y285, hZ9⟩ := hZ9
        obtain ⟨y286, hZ9⟩ := hZ9
        obtain ⟨y287, hZ9⟩ := hZ9
        obtain ⟨y288, hZ9⟩ := hZ9
        obtain ⟨y289, hZ9⟩ := hZ9
        obtain ⟨y290, hZ9⟩ := hZ9
        obtain ⟨y291, hZ9⟩ := hZ9
        obtain ⟨y292, hZ9⟩ := hZ9
        obtain ⟨y293, hZ9⟩ := hZ9
        obtain ⟨y294, hZ9⟩ := hZ9
        obtain ⟨y295, hZ9⟩ := hZ9
        obtain ⟨y296, hZ9⟩ := hZ9
        obtain ⟨y297, hZ9⟩ := hZ9
        obtain ⟨f298, hZ9⟩ := hZ9
        obtain ⟨f300, hZ9⟩ := hZ9
        obtain ⟨hO283, hZ9⟩ := hZ9
        obtain ⟨hA299, hZ9⟩ := hZ9
        obtain ⟨hA301, hZ9⟩ := hZ9
        replace hZ9 := hZ9.2.2.2.2
        obtain ⟨b306, hZ9⟩ := hZ9
        obtain ⟨b307, hZ9⟩ := hZ9
        obtain ⟨b308, hZ9⟩ := hZ9
        obtain ⟨b309, hZ9⟩ := hZ9
        replace hZ9 := hZ9.2
        obtain ⟨-, hE312⟩ := hZ9
        replace hO283 : u280[153]? = (some (q 153, .inr (16, [.int y284, .ref (q 154), .int y285, .int y286, .int y287, .int y288, .ref (q 155), .int y289, .int y290, .long y291, .ref (q 156), .int y292, .int y293, .long y294, .long y295, .int y296, .int y297])) : Option (Nat × va_E)) := hO283
        replace hA299 : u280[155]? = (some (q 155, .inl (g 0, (4100 : Int32).toNatClampNeg, .inl f298)) : Option (Nat × va_E)) := hA299
        replace hA301 : u280[156]? = (some (q 156, .inl (g 0, (800 : Int32).toNatClampNeg, .inl f300)) : Option (Nat × va_E)) := hA301
        obtain ⟨p314, e315⟩ : ∃ z, z = (F_TR_bits t13_0 a181 t13_2 t13_3 t13_4 t13_5 t13_6 t13_7 t13_8 t13_9 t13_10 t13_11 t13_12 t13_13 f182 t15_0 t16_0) := ⟨_, rfl⟩
        have e316 : j282 = p314.1 := congrArg (fun z => z.1) (hE312.trans e315.symm)
        have e317 : y284 = p314.2.1 := congrArg (fun z => z.2.1) (hE312.trans e315.symm)
        have e318 : y285 = p314.2.2.1 := congrArg (fun z => z.2.2.1) (hE312.trans e315.symm)
        have e319 : y286 = p314.2.2.2.1 := congrArg (fun z => z.2.2.2.1) (hE312.trans e315.symm)
        have e320 : y287 = p314.2.2.2.2.1 := congrArg (fun z => z.2.2.2.2.1) (hE312.trans e315.symm)
        have e321 : y288 = p314.2.2.2.2.2.1 := congrArg (fun z => z.2.2.2.2.2.1) (hE312.trans e315.symm)
        have e322 : y289 = p314.2.2.2.2.2.2.1 := congrArg (fun z => z.2.2.2.2.2.2.1) (hE312.trans e315.symm)
        have e323 : y290 = p314.2.2.2.2.2.2.2.1 := congrArg (fun z => z.2.2.2.2.2.2.2.1) (hE312.trans e315.symm)
        have e324 : y291 = p314.2.2.2.2.2.2.2.2.1 := congrArg (fun z => z.2.2.2.2.2.2.2.2.1) (hE312.trans e315.symm)
        have e325 : y292 = p314.2.2.2.2.2.2.2.2.2.1 := congrArg (fun z => z.2.2.2.2.2.2.2.2.2.1) (hE312.trans e315.symm)
        have e326 : y293 = p314.2.2.2.2.2.2.2.2.2.2.1 := congrArg (fun z => z.2.2.2.2.2.2.2.2.2.2.1) (hE312.trans e315.symm)
        have e327 : y294 = p314.2.2.2.2.2.2.2.2.2.2.2.1 := congrArg (fun z => z.2.2.2.2.2.2.2.2.2.2.2.1) (hE312.trans e315.symm)
        have e328 : y295 = p314.2.2.2.2.2.2.2.2.2.2.2.2.1 := congrArg (fun z => z.2.2.2.2.2.2.2.2.2.2.2.2.1) (hE312.trans e315.symm)
        have e329 : y296 = p314.2.2.2.2.2.2.2.2.2.2.2.2.2.1 := congrArg (fun z => z.2.2.2.2.2.2.2.2.2.2.2.2.2.1) (hE312.trans e315.symm)
        have e330 : y297 = p314.2.2.2.2.2.2.2.2.2.2.2.2.2.2.1 := congrArg (fun z => z.2.2.2.2.2.2.2.2.2.2.2.2.2.2.1) (hE312.trans e315.symm)
        have e331 : f298 = p314.2.2.2.2.2.2.2.2.2.2.2.2.2.2.2.1 := congrArg (fun z => z.2.2.2.2.2.2.2.2.2.2.2.2.2.2.2.1) (hE312.trans e315.symm)
        have e332 : f300 = p314.2.2.2.2.2.2.2.2.2.2.2.2.2.2.2.2 := congrArg (fun z => z.2.2.2.2.2.2.2.2.2.2.2.2.2.2.2.2) (hE312.trans e315.symm)
        replace b306 : q_F (0 ≤ y288.toInt) := b306
        replace b307 : q_F (y288.toInt ≤ 1) := b307
        replace b308 : q_F (0 ≤ y297.toInt) := b308
        replace b309 : q_F (y297.toInt ≤ 1) := b309
        replace hT0 := (hu313 _ (by decide)).trans hT0
        replace hT1 := (hu313 _ (by decide)).trans hT1
        replace hT4 := (hu313 _ (by decide)).trans hT4
        replace hT5 := (hu313 _ (by decide)).trans hT5
        replace hO120 := (hu313 _ (by decide)).trans hO120
        replace hA133 := (hu313 _ (by decide)).trans hA133
        replace hT12 := (hu313 _ (by decide)).trans hT12
        replace hA183 := (hu313 _ (by decide)).trans hA183
        replace hT17 := (hu313 _ (by decide)).trans hT17
        replace hF := q_uc hF hu313 (by simp)
        have hR333 := (show F_NM_toFloat_c136 x2 x3 x4 x5 t0_0 t0_1 t0_2 t1_0 t1_1 t1_2 t1_3 t1_4 t1_5 t1_6 t2_0 t3_0 t4_0 t5_0 t6_0 t6_1 t6_2 t6_3 t6_4 t6_5 t6_6 t6_7 t6_8 t6_9 t6_10 t7_0 t8_0 t9_0 t10_0 t11_0 t12_0 t12_1 t12_2 t12_3 t12_4 t12_5 t12_6 t12_7 t12_8 t12_9 t12_10 t13_0 t13_1 t13_2 t13_3 t13_4 t13_5 t13_6 t13_7 t13_8 t13_9 t13_10 t13_11 t13_12 t13_13 t14_0 t15_0 t16_0 t17_0 p157 a119 y121 y122 y123 y124 y125 y126 y127 y128 y129 y130 y131 f132 p190 f182 p314 = (F_NM_toFloat x2 x3 x4 x5 t0_0 t0_1 t0_2 t1_0 t1_1 t1_2 t1_3 t1_4 t1_5 t1_6 t2_0 t3_0 t4_0 t5_0 t6_0 t6_1 t6_2 t6_3 t6_4 t6_5 t6_6 t6_7 t6_8 t6_9 t6_10 t7_0 t8_0 t9_0 t10_0 t11_0 t12_0 t12_1 t12_2 t12_3 t12_4 t12_5 t12_6 t12_7 t12_8 t12_9 t12_10 t13_0 t13_1 t13_2 t13_3 t13_4 t13_5 t13_6 t13_7 t13_8 t13_9 t13_10 t13_11 t13_12 t13_13 t14_0 t15_0 t16_0 t17_0) from Eq.trans (by rw [e315, e193, e192, F_NM_toFloat_c121.eq_1, if_pos c201]) hR194)
        have hS334 := (show True ∧ S_NM_toFloat_c136 x2 x3 x4 x5 t0_0 t0_1 t0_2 t1_0 t1_1 t1_2 t1_3 t1_4 t1_5 t1_6 t2_0 t3_0 t4_0 t5_0 t6_0 t6_1 t6_2 t6_3 t6_4 t6_5 t6_6 t6_7 t6_8 t6_9 t6_10 t7_0 t8_0 t9_0 t10_0 t11_0 t12_0 t12_1 t12_2 t12_3 t12_4 t12_5 t12_6 t12_7 t12_8 t12_9 t12_10 t13_0 t13_1 t13_2 t13_3 t13_4 t13_5 t13_6 t13_7 t13_8 t13_9 t13_10 t13_11 t13_12 t13_13 t14_0 t15_0 t16_0 t17_0 p157 a119 y121 y122 y123 y124 y125 y126 y127 y128 y129 y130 y131 f132 p190 f182 p314 from (by rw [e315, e193, e192]; have h := hS195; rw [S_NM_toFloat_c121.eq_1] at h; rw [if_pos c201] at h; replace h := q_s2 h; with_reducible exact h))
        refine lv_goto (tgt := 154) hx hb d_14_31_139 (by decide) ?_
        refine lv_lstore (lv' := [(5, .long j282), (7, .int a119), (0, .ref (q 116)), (1, .int x2), (2, .int x3), (3, .int x4), (4, .int x5)]) hx hb d_14_31_154 hl (by decide) rfl (fun ls hl => ?_)
        refine lv_aload_n hx hb d_14_31_156 rfl (lv_at hl 2 rfl) ?_
        refine q_get (ci := 12) (j := 8) (v := .ref (q 153)) C0 V i_NM rfl rfl hT0 (by decide) w_2306 rfl d_14_31_157 ?_
        refine lv_iconst (v := 0) hx hb d_14_31_160 (by decide) ?_
        refine q_putN (ci := 16) (j := 2) (v := .int 0) (ty := .int) C0 V i_TR o_TR n_TR rfl rfl hO283 (by decide) wo_2142 rfl rfl rfl rfl (Nat.le_of_ble_eq_true rfl) d_14_31_161 (fun H locs w338 hu339 hO283 V => ?_)
        replace hO283 : w338[153]? = (some (q 153, .inr (16, [.int y284, .ref (q 154), .int 0, .int y286, .int y287, .int y288, .ref (q 155), .int y289, .int y290, .long y291, .ref (q 156), .int y292, .int y293, .long y294, .long y295, .int y296, .int y297])) : Option (Nat × va_E)) := hO283
        replace hI := n_p153 hI hu339 hO283 ⟨(by have z9 : (0 : Int32).toInt = 0 := rfl; omega), (by have z9 : (0 : Int32).toInt = 0 := rfl; omega)⟩ ⟨(by first | with_reducible exact q_fe b306 | (have t1 : 0 ≤ y288.toInt := b306; omega)), (by first | with_reducible exact q_fe b307 | (have t1 : y288.toInt ≤ 1 := b307; omega))⟩ ⟨(by first | with_reducible exact q_fe b308 | (have t1 : 0 ≤ y297.toInt := b308; omega)), (by first | with_reducible exact q_fe b309 | (have t1 : y297.toInt ≤ 1 := b309; omega))⟩
        replace hT0 := (hu339 _ (by decide)).trans hT0
        replace hT1 := (hu339 _ (by decide)).trans hT1
        replace hT4 := (hu339 _ (by decide)).trans hT4
        replace hT5 := (hu339 _ (by decide)).trans hT5
        replace hO120 := (hu339 _ (by decide)).trans hO120
        replace hA133 := (hu339 _ (by decide)).trans hA133
        replace hT12 := (hu339 _ (by decide)).trans hT12
        replace hA183 := (hu339 _ (by decide)).trans hA183
        replace hA299 := (hu339 _ (by decide)).trans hA299
        replace hA301 := (hu339 _ (by decide)).trans hA301
        replace hT17 := (hu339 _ (by decide)).trans hT17
        replace hF := q_us hF hu339 (by simp)
        refine lv_aload_n hx hb d_14_31_164 rfl (lv_at hl 2 rfl) ?_
        refine lv_iload_n hx hb d_14_31_165 rfl (lv_at hl 5 rfl) ?_
        refine lv_iload hx hb d_14_31_166 (lv_at hl 6 rfl) ?_
        refine lv_lload hx hb d_14_31_168 (lv_at hl 0 rfl) ?_
        have ob340 : True ∧ S_NM_setBits x4 x5 j282 t0_0 t0_1 t0_2 t17_0 := (by rw [e316]; have h := hS334; rw [S_NM_toFloat_c136.eq_1] at h; with_reducible exact h.2.1)
        refine q_gov V (q_runV (As := [.int x4, .int x5, .long j282]) (rest := []) (d := 1) (mc := 0) (ms := 0) (ci := 12) C0 V rfl LV_NM_120 (X_NM_setBits l D g q w338  x4 x5 j282 hI t0_0 t0_1 t0_2 hT0 t17_0 hT17 ob340 _) rfl rfl hT0 rfl hl.1 rfl (Nat.le_of_ble_eq_true rfl) ⟨by decide, by decide⟩ ⟨Nat.le_of_ble_eq_true rfl, Nat.le_of_ble_eq_true rfl⟩ d_14_31_170) (fun u341 H locs hp342 V => ?_)
        obtain ⟨hI, hu346, f343, hA344, hE345⟩ := hp342
        replace hA344 : u341[167]? = (some (q 167, .inl (g 1, 20, .inr (.inl f343))) : Option (Nat × va_E)) := hA344
        have e347 : f343 = (F_NM_setBits x4 x5 j282 t0_0 t0_1 t0_2 t17_0) := hE345
        replace hT1 := (hu346 _ (by decide)).trans hT1
        replace hT4 := (hu346 _ (by decide)).trans hT4
        replace hT5 := (hu346 _ (by decide)).trans hT5
        replace hO120 := (hu346 _ (by decide)).trans hO120
        replace hA133 := (hu346 _ (by decide)).trans hA133
        replace hT12 := (hu346 _ (by decide)).trans hT12
        replace hO283 := (hu346 _ (by decide)).trans hO283
        replace hA183 := (hu346 _ (by decide)).trans hA183
        replace hA299 := (hu346 _ (by decide)).trans hA299
        replace hA301 := (hu346 _ (by decide)).trans hA301
        replace hF := q_uc hF hu346 (by simp)
        exact q_retv C0 V (⟨hI, hF, t1_0, t1_1, t1_2, t1_3, t1_4, t1_5, t1_6, t4_0, t5_0, y121, y122, y123, y124, y125, y126, y127, y128, y129, y130, y131, f132, t12_0, t12_1, t12_2, t12_3, t12_4, t12_5, t12_6, t12_7, t12_8, t12_9, t12_10, y284, 0, y286, y287, y288, y289, y290, y291, y292, y293, y294, y295, y296, y297, f182, f298, f300, f343, hT1, hT4, hT5, hO120, hA133, hT12, hO283, hA183, hA299, hA301, hA344, (show 0 ≤ t1_2.toInt from (by have z96 : (0 : Int32).toInt = 0 := rfl; have t1 : 0 ≤ t1_2.toInt ∧ t1_2.toInt ≤ 4100 := btt1_2; omega)), (show t1_2.toInt ≤ 4100 from (by have z96 : (0 : Int32).toInt = 0 := rfl; have t1 : 0 ≤ t1_2.toInt ∧ t1_2.toInt ≤ 4100 := btt1_2; omega)), (show 0 ≤ t1_3.toInt from (by have z96 : (0 : Int32).toInt = 0 := rfl; have t1 : 0 ≤ t1_3.toInt ∧ t1_3.toInt ≤ 1 := btt1_3; omega)), (show t1_3.toInt ≤ 1 from (by have z96 : (0 : Int32).toInt = 0 := rfl; have t1 : 0 ≤ t1_3.toInt ∧ t1_3.toInt ≤ 1 := btt1_3; omega)), (show 0 ≤ t1_4.toInt from (by have z96 : (0 : Int32).toInt = 0 := rfl; have t1 : 0 ≤ t1_4.toInt ∧ t1_4.toInt ≤ 1 := btt1_4; omega)), (show t1_4.toInt ≤ 1 from (by have z96 : (0 : Int32).toInt = 0 := rfl; have t1 : 0 ≤ t1_4.toInt ∧ t1_4.toInt ≤ 1 := btt1_4; omega)), (show 0 ≤ t1_5.toInt from (by have z96 : (0 : Int32).toInt = 0 := rfl; have t1 : 0 ≤ t1_5.toInt ∧ t1_5.toInt ≤ 1 := btt1_5; omega)), (show t1_5.toInt ≤ 1 from (by have z96 : (0 : Int32).toInt = 0 := rfl; have t1 : 0 ≤ t1_5.toInt ∧ t1_5.toInt ≤ 1 := btt1_5; omega)), (show 0 ≤ t1_6.toInt from (by have z96 : (0 : Int32).toInt = 0 := rfl; have t1 : 0 ≤ t1_6.toInt ∧ t1_6.toInt ≤ 2100 := btt1_6; omega)), (show t1_6.toInt ≤ 2100 from (by have z96 : (0 : Int32).toInt = 0 := rfl; have t1 : 0 ≤ t1_6.toInt ∧ t1_6.toInt ≤ 2100 := btt1_6; omega)), (show 0 ≤ y122.toInt from (by have z96 : (0 : Int32).toInt = 0 := rfl; have t1 : 0 ≤ t6_1.toInt ∧ t6_1.toInt ≤ 4100 := btt6_1; have t2 : t6_1.toInt ≤ y122.toInt := b136; omega)), (show y122.toInt ≤ 4100 from (by have z96 : (0 : Int32).toInt = 0 := rfl; have t1 : 0 ≤ t6_1.toInt ∧ t6_1.toInt ≤ 4100 := btt6_1; have t2 : y122.toInt ≤ t6_1.toInt := b137; omega)), (show 0 ≤ y125.toInt from (by have z96 : (0 : Int32).toInt = 0 := rfl; have t1 : 0 ≤ t6_4.toInt ∧ t6_4.toInt ≤ 1 := btt6_4; have t2 : t6_4.toInt ≤ y125.toInt := b142; omega)), (show y125.toInt ≤ 1 from (by have z96 : (0 : Int32).toInt = 0 := rfl; have t1 : 0 ≤ t6_4.toInt ∧ t6_4.toInt ≤ 1 := btt6_4; have t2 : y125.toInt ≤ t6_4.toInt := b143; omega)), (show 0 ≤ y126.toInt from (by have z96 : (0 : Int32).toInt = 0 := rfl; have t1 : 0 ≤ t6_5.toInt ∧ t6_5.toInt ≤ 1 := btt6_5; have t2 : t6_5.toInt ≤ y126.toInt := b144; omega)), (show y126.toInt ≤ 1 from (by have z96 : (0 : Int32).toInt = 0 := rfl; have t1 : 0 ≤ t6_5.toInt ∧ t6_5.toInt ≤ 1 := btt6_5; have t2 : y126.toInt ≤ t6_5.toInt := b145; omega)), (show 0 ≤ y130.toInt from (by have z96 : (0 : Int32).toInt = 0 := rfl; have t1 : 0 ≤ a119.toInt := b134; have t2 : a119.toInt ≤ y130.toInt := b154; omega)), (show y130.toInt ≤ 12200 from (by have z96 : (0 : Int32).toInt = 0 := rfl; have t1 : y130.toInt ≤ 12200 := b135; omega)), (show 0 ≤ t12_2.toInt from (by have z96 : (0 : Int32).toInt = 0 := rfl; have t1 : 0 ≤ t12_2.toInt ∧ t12_2.toInt ≤ 1 := btt12_2; omega)), (show t12_2.toInt ≤ 1 from (by have z96 : (0 : Int32).toInt = 0 := rfl; have t1 : 0 ≤ t12_2.toInt ∧ t12_2.toInt ≤ 1 := btt12_2; omega)), (show 0 ≤ (0 : Int32).toInt from (by have z96 : (0 : Int32).toInt = 0 := rfl; omega)), (show (0 : Int32).toInt ≤ 4100 from (by have z96 : (0 : Int32).toInt = 0 := rfl; omega)), (show 0 ≤ y288.toInt from (by have z96 : (0 : Int32).toInt = 0 := rfl; have t1 : 0 ≤ y288.toInt := b306; omega)), (show y288.toInt ≤ 1 from (by have z96 : (0 : Int32).toInt = 0 := rfl; have t1 : y288.toInt ≤ 1 := b307; omega)), (show 0 ≤ y297.toInt from (by have z96 : (0 : Int32).toInt = 0 := rfl; have t1 : 0 ≤ y297.toInt := b308; omega)), (show y297.toInt ≤ 1 from (by have z96 : (0 : Int32).toInt = 0 := rfl; have t1 : y297.toInt ≤ 1 := b309; omega)), (show t1_1.toInt ≤ t1_1.toInt from (by have z96 : (0 : Int32).toInt = 0 := rfl; omega)), (show t1_1.toInt ≤ t1_1.toInt from (by have z96 : (0 : Int32).toInt = 0 := rfl; omega)), (show t1_2.toInt ≤ t1_2.toInt from (by have z96 : (0 : Int32).toInt = 0 := rfl; omega)), (show t1_2.toInt ≤ t1_2.toInt from (by have z96 : (0 : Int32).toInt = 0 := rfl; omega)), (show t1_3.toInt ≤ t1_3.toInt from (by have z96 : (0 : Int32).toInt = 0 := rfl; omega)), (show t1_3.toInt ≤ t1_3.toInt from (by have z96 : (0 : Int32).toInt = 0 := rfl; omega)), (show t1_4.toInt ≤ t1_4.toInt from (by have z96 : (0 : Int32).toInt = 0 := rfl; omega)), (show t1_4.toInt ≤ t1_4.toInt from (by have z96 : (0 : Int32).toInt = 0 := rfl; omega)), (show t1_5.toInt ≤ t1_5.toInt from (by have z96 : (0 : Int32).toInt = 0 := rfl; omega)), (show t1_5.toInt ≤ t1_5.toInt from (by have z96 : (0 : Int32).toInt = 0 := rfl; omega)), (show t1_6.toInt ≤ t1_6.toInt + 2099 from (by have z96 : (0 : Int32).toInt = 0 := rfl; omega)), (show t6_1.toInt ≤ y122.toInt from (by have z96 : (0 : Int32).toInt = 0 := rfl; have t1 : t6_1.toInt ≤ y122.toInt := b136; omega)), (show y122.toInt ≤ t6_1.toInt from (by have z96 : (0 : Int32).toInt = 0 := rfl; have t1 : y122.toInt ≤ t6_1.toInt := b137; omega)), (show t6_2.toInt ≤ y123.toInt from (by have z96 : (0 : Int32).toInt = 0 := rfl; have t1 : t6_2.toInt ≤ y123.toInt := b138; omega)), (show y123.toInt ≤ t6_2.toInt from (by have z96 : (0 : Int32).toInt = 0 := rfl; have t1 : y123.toInt ≤ t6_2.toInt := b139; omega)), (show t6_3.toInt ≤ y124.toInt from (by have z96 : (0 : Int32).toInt = 0 := rfl; have t1 : t6_3.toInt ≤ y124.toInt := b140; omega)), (show y124.toInt ≤ t6_3.toInt from (by have z96 : (0 : Int32).toInt = 0 := rfl; have t1 : y124.toInt ≤ t6_3.toInt := b141; omega)), (show t6_4.toInt ≤ y125.toInt from (by have z96 : (0 : Int32).toInt = 0 := rfl; have t1 : t6_4.toInt ≤ y125.toInt := b142; omega)), (show y125.toInt ≤ t6_4.toInt from (by have z96 : (0 : Int32).toInt = 0 := rfl; have t1 : y125.toInt ≤ t6_4.toInt := b143; omega)), (show t6_5.toInt ≤ y126.toInt from (by have z96 : (0 : Int32).toInt = 0 := rfl; have t1 : t6_5.toInt ≤ y126.toInt := b144; omega)), (show y126.toInt ≤ t6_5.toInt from (by have z96 : (0 : Int32).toInt = 0 := rfl; have t1 : y126.toInt ≤ t6_5.toInt := b145; omega)), (show t6_6.toInt ≤ y127.toInt from (by have z96 : (0 : Int32).toInt = 0 := rfl; have t1 : t6_6.toInt ≤ y127.toInt := b146; omega)), (show y127.toInt ≤ t6_6.toInt from (by have z96 : (0 : Int32).toInt = 0 := rfl; have t1 : y127.toInt ≤ t6_6.toInt := b147; omega)), (show t6_7.toInt ≤ y128.toInt from (by have z96 : (0 : Int32).toInt = 0 := rfl; have t1 : t6_7.toInt ≤ y128.toInt := b148; omega)), (show y128.toInt ≤ t6_7.toInt from (by have z96 : (0 : Int32).toInt = 0 := rfl; have t1 : y128.toInt ≤ t6_7.toInt := b149; omega)), (show t6_8.toInt ≤ y129.toInt from (by have z96 : (0 : Int32).toInt = 0 := rfl; have t1 : t6_8.toInt ≤ y129.toInt := b150; omega)), (show y129.toInt ≤ t6_8.toInt from (by have z96 : (0 : Int32).toInt = 0 := rfl; have t1 : y129.toInt ≤ t6_8.toInt := b151; omega)), (show t6_10.toInt ≤ y131.toInt from (by have z96 : (0 : Int32).toInt = 0 := rfl; have t1 : t6_10.toInt ≤ y131.toInt := b152; omega)), (show y131.toInt ≤ t6_10.toInt from (by have z96 : (0 : Int32).toInt = 0 := rfl; have t1 : y131.toInt ≤ t6_10.toInt := b153; omega)), (show t12_1.toInt ≤ t12_1.toInt from (by have z96 : (0 : Int32).toInt = 0 := rfl; omega)), (show t12_1.toInt ≤ t12_1.toInt from (by have z96 : (0 : Int32).toInt = 0 := rfl; omega)), (show t12_9.toInt ≤ t12_9.toInt from (by have z96 : (0 : Int32).toInt = 0 := rfl; omega)), (show t12_9.toInt ≤ t12_9.toInt from (by have z96 : (0 : Int32).toInt = 0 := rfl; omega)), (show t12_10.toInt ≤ t12_10.toInt from (by have z96 : (0 : Int32).toInt = 0 := rfl; omega)), (show t12_10.toInt ≤ t12_10.toInt from (by have z96 : (0 : Int32).toInt = 0 := rfl; omega)), (show (0 : Int32).toInt ≤ t13_1.toInt from (by have z96 : (0 : Int32).toInt = 0 := rfl; have t1 : 0 ≤ t13_1.toInt ∧ t13_1.toInt ≤ 4100 := btt13_1; omega)), (show (t1_0, t1_1, t1_2, t1_3, t1_4, t1_5, t1_6, t4_0, t5_0, y121, y122, y123, y124, y125, y126, y127, y128, y129, y130, y131, f132, t12_0, t12_1, t12_2, t12_3, t12_4, t12_5, t12_6, t12_7, t12_8, t12_9, t12_10, y284, (0 : Int32), y286, y287, y288, y289, y290, y291, y292, y293, y294, y295, y296, y297, f182, f298, f300, f343) = (F_NM_toFloat x2 x3 x4 x5 t0_0 t0_1 t0_2 t1_0 t1_1 t1_2 t1_3 t1_4 t1_5 t1_6 t2_0 t3_0 t4_0 t5_0 t6_0 t6_1 t6_2 t6_3 t6_4 t6_5 t6_6 t6_7 t6_8 t6_9 t6_10 t7_0 t8_0 t9_0 t10_0 t11_0 t12_0 t12_1 t12_2 t12_3 t12_4 t12_5 t12_6 t12_7 t12_8 t12_9 t12_10 t13_0 t13_1 t13_2 t13_3 t13_4 t13_5 t13_6 t13_7 t13_8 t13_9 t13_10 t13_11 t13_12 t13_13 t14_0 t15_0 t16_0 t17_0) from Eq.trans (by rw [e347, e332, e331, e330, e329, e328, e327, e326, e325, e324, e323, e322, e321, e320, e319, e317, e316, F_NM_toFloat_c136.eq_1]) hR333)⟩) d_14_31_173
    ·
      have b348 : q_F (x2.toInt = 0) := (q_eqI c114)
      refine lv_aload_n hx hb d_14_31_63 rfl (lv_at hl 1 rfl) ?_
      refine q_get (ci := 12) (j := 5) (v := .ref (q 119)) C0 V i_NM rfl rfl hT0 (by decide) w_2303 rfl d_14_31_64 ?_
      refine lv_iload_n hx hb d_14_31_67 rfl (lv_at hl 3 rfl) ?_
      refine lv_bipush (v := 10) hx hb d_14_31_68 (by decide) ?_
      have ob349 : True ∧ S_WR_written x3 (10 : Int32) t1_0 t1_1 t1_2 t1_3 t1_4 t1_5 t1_6 t2_0 t3_0 t4_0 t5_0 := (by have h := hS; rw [S_NM_toFloat.eq_1] at h; have c112x := c112; rw [e111] at c112x; rw [if_pos c112x] at h; rw [if_pos c114] at h; with_reducible exact h.2.1)
      refine q_goi V (q_runV (As := [.int x3, .int 10]) (rest := []) (d := 3) (mc := 0) (ms := 0) (ci := 13) C0 V rfl LV_NM_249 (X_WR_written l D g q ws  x3 10 hI t1_0 t1_1 t1_2 t1_3 t1_4 t1_5 t1_6 hT1 t2_0 hT2 t3_0 hT3 t4_0 hT4 t5_0 hT5 ob349 _) rfl rfl hT1 rfl hl.1 rfl (Nat.le_of_ble_eq_true rfl) ⟨by decide, by decide⟩ ⟨Nat.le_of_ble_eq_true rfl, Nat.le_of_ble_eq_true rfl⟩ d_14_31_70) (fun a352 u350 H locs hp351 V => ?_)
      obtain ⟨hI, hZ9⟩ := hp351
      obtain ⟨hu382, hZ9⟩ := hZ9
      obtain ⟨y354, hZ9⟩ := hZ9
      obtain ⟨y355, hZ9⟩ := hZ9
      obtain ⟨y356, hZ9⟩ := hZ9
      obtain ⟨y357, hZ9⟩ := hZ9
      obtain ⟨y358, hZ9⟩ := hZ9
      obtain ⟨y359, hZ9⟩ := hZ9
      obtain ⟨y360, hZ9⟩ := hZ9
      obtain ⟨f361, hZ9⟩ := hZ9
      obtain ⟨f363, hZ9⟩ := hZ9
      obtain ⟨hO353, hZ9⟩ := hZ9
      obtain ⟨hA362, hZ9⟩ := hZ9
      obtain ⟨hA364, hZ9⟩ := hZ9
      obtain ⟨b365, hZ9⟩ := hZ9
      replace hZ9 := hZ9.2.2
      obtain ⟨b368, hZ9⟩ := hZ9
      obtain ⟨b369, hZ9⟩ := hZ9
      obtain ⟨b370, hZ9⟩ := hZ9
      obtain ⟨b371, hZ9⟩ := hZ9
      obtain ⟨b372, hZ9⟩ := hZ9
      obtain ⟨b373, hZ9⟩ := hZ9
      obtain ⟨b374, hZ9⟩ := hZ9
      obtain ⟨b375, hZ9⟩ := hZ9
      obtain ⟨b376, hZ9⟩ := hZ9
      obtain ⟨b377, hZ9⟩ := hZ9
      obtain ⟨b378, hZ9⟩ := hZ9
      obtain ⟨b379, hZ9⟩ := hZ9
      obtain ⟨b380, hE381⟩ := hZ9
      replace hO353 : u350[119]? = (some (q 119, .inr (13, [.int y354, .int y355, .ref (q 120), .int y356, .ref (q 121), .ref (q 122), .ref (q 123), .int y357, .ref (q 124), .ref (q 125), .ref (q 126), .ref (q 127), .ref (q 128), .ref (q 129), .ref (q 130), .ref (q 131), .int y358, .int y359, .ref (q 132), .ref (q 133), .int y360])) : Option (Nat × va_E)) := hO353
      replace hA362 : u350[128]? = (some (q 128, .inl (g 0, (264 : Int32).toNatClampNeg, .inl f361)) : Option (Nat × va_E)) := hA362
      replace hA364 : u350[133]? = (some (q 133, .inl (g 0, (2100 : Int32).toNatClampNeg, .inl f363)) : Option (Nat × va_E)) := hA364
      obtain ⟨p383, e384⟩ : ∃ z, z = (F_WR_written x3 (10 : Int32) t1_0 t1_1 t1_2 t1_3 t1_4 t1_5 t1_6 t2_0 t3_0 t4_0 t5_0) := ⟨_, rfl⟩
      have e385 : a352 = p383.1 := congrArg (fun z => z.1) (hE381.trans e384.symm)
      have e386 : y354 = p383.2.1 := congrArg (fun z => z.2.1) (hE381.trans e384.symm)
      have e387 : y355 = p383.2.2.1 := congrArg (fun z => z.2.2.1) (hE381.trans e384.symm)
      have e388 : y356 = p383.2.2.2.1 := congrArg (fun z => z.2.2.2.1) (hE381.trans e384.symm)
      have e389 : y357 = p383.2.2.2.2.1 := congrArg (fun z => z.2.2.2.2.1) (hE381.trans e384.symm)
      have e390 : y358 = p383.2.2.2.2.2.1 := congrArg (fun z => z.2.2.2.2.2.1) (hE381.trans e384.symm)
      have e391 : y359 = p383.2.2.2.2.2.2.1 := congrArg (fun z => z.2.2.2.2.2.2.1) (hE381.trans e384.symm)
      have e392 : y360 = p383.2.2.2.2.2.2.2.1 := congrArg (fun z => z.2.2.2.2.2.2.2.1) (hE381.trans e384.symm)
      have e393 : f361 = p383.2.2.2.2.2.2.2.2.1 := congrArg (fun z => z.2.2.2.2.2.2.2.2.1) (hE381.trans e384.symm)
      have e394 : f363 = p383.2.2.2.2.2.2.2.2.2 := congrArg (fun z => z.2.2.2.2.2.2.2.2.2) (hE381.trans e384.symm)
      replace b365 : q_F (0 ≤ a352.toInt) := b365
      replace b368 : q_F (y360.toInt ≤ 2100) := b368
      replace b369 : q_F (t1_1.toInt ≤ y355.toInt) := b369
      replace b370 : q_F (y355.toInt ≤ t1_1.toInt) := b370
      replace b371 : q_F (t1_2.toInt ≤ y356.toInt) := b371
      replace b372 : q_F (y356.toInt ≤ t1_2.toInt) := b372
      replace b373 : q_F (t1_3.toInt ≤ y357.toInt) := b373
      replace b374 : q_F (y357.toInt ≤ t1_3.toInt) := b374
      replace b375 : q_F (t1_4.toInt ≤ y358.toInt) := b375
      replace b376 : q_F (y358.toInt ≤ t1_4.toInt) := b376
      replace b377 : q_F (t1_5.toInt ≤ y359.toInt) := b377
      replace b378 : q_F (y359.toInt ≤ t1_5.toInt) := b378
      replace b379 : q_F (t1_6.toInt ≤ y360.toInt + 2099) := b379
      replace b380 : q_F (a352.toInt ≤ y360.toInt) := b380
      replace hT0 := (hu382 _ (by decide)).trans hT0
      replace hT6 := (hu382 _ (by decide)).trans hT6
      replace hT11 := (hu382 _ (by decide)).trans hT11
      replace hT12 := (hu382 _ (by decide)).trans hT12
      replace hT13 := (hu382 _ (by decide)).trans hT13
      replace hT14 := (hu382 _ (by decide)).trans hT14
      replace hT15 := (hu382 _ (by decide)).trans hT15
      replace hT16 := (hu382 _ (by decide)).trans hT16
      replace hT17 := (hu382 _ (by decide)).trans hT17
      replace hF := q_uc hF hu382 (by simp)
      have hR395 := (show F_NM_toFloat_c70 x2 x3 x4 x5 t0_0 t0_1 t0_2 t1_0 t1_1 t1_2 t1_3 t1_4 t1_5 t1_6 t2_0 t3_0 t4_0 t5_0 t6_0 t6_1 t6_2 t6_3 t6_4 t6_5 t6_6 t6_7 t6_8 t6_9 t6_10 t7_0 t8_0 t9_0 t10_0 t11_0 t12_0 t12_1 t12_2 t12_3 t12_4 t12_5 t12_6 t12_7 t12_8 t12_9 t12_10 t13_0 t13_1 t13_2 t13_3 t13_4 t13_5 t13_6 t13_7 t13_8 t13_9 t13_10 t13_11 t13_12 t13_13 t14_0 t15_0 t16_0 t17_0 p383 = (F_NM_toFloat x2 x3 x4 x5 t0_0 t0_1 t0_2 t1_0 t1_1 t1_2 t1_3 t1_4 t1_5 t1_6 t2_0 t3_0 t4_0 t5_0 t6_0 t6_1 t6_2 t6_3 t6_4 t6_5 t6_6 t6_7 t6_8 t6_9 t6_10 t7_0 t8_0 t9_0 t10_0 t11_0 t12_0 t12_1 t12_2 t12_3 t12_4 t12_5 t12_6 t12_7 t12_8 t12_9 t12_10 t13_0 t13_1 t13_2 t13_3 t13_4 t13_5 t13_6 t13_7 t13_8 t13_9 t13_10 t13_11 t13_12 t13_13 t14_0 t15_0 t16_0 t17_0) from (by have c112x := c112; rw [e111] at c112x; rw [e384, F_NM_toFloat.eq_1, if_pos c112x, if_pos c114]))
      have hS396 := (show True ∧ S_NM_toFloat_c70 x2 x3 x4 x5 t0_0 t0_1 t0_2 t1_0 t1_1 t1_2 t1_3 t1_4 t1_5 t1_6 t2_0 t3_0 t4_0 t5_0 t6_0 t6_1 t6_2 t6_3 t6_4 t6_5 t6_6 t6_7 t6_8 t6_9 t6_10 t7_0 t8_0 t9_0 t10_0 t11_0 t12_0 t12_1 t12_2 t12_3 t12_4 t12_5 t12_6 t12_7 t12_8 t12_9 t12_10 t13_0 t13_1 t13_2 t13_3 t13_4 t13_5 t13_6 t13_7 t13_8 t13_9 t13_10 t13_11 t13_12 t13_13 t14_0 t15_0 t16_0 t17_0 p383 from (by rw [e384]; have h := hS; rw [S_NM_toFloat.eq_1] at h; have c112x := c112; rw [e111] at c112x; rw [if_pos c112x] at h; rw [if_pos c114] at h; replace h := q_s2 h; with_reducible exact h))
      refine lv_goto (tgt := 85) hx hb d_14_31_73 (by decide) ?_
      refine lv_istore (lv' := [(7, .int a352), (5, .long 0), (0, .ref (q 116)), (1, .int x2), (2, .int x3), (3, .int x4), (4, .int x5)]) hx hb d_14_31_85 hl (by decide) rfl (fun ls hl => ?_)
      refine lv_aload_n hx hb d_14_31_87 rfl (lv_at hl 2 rfl) ?_
      refine q_get (ci := 12) (j := 8) (v := .ref (q 153)) C0 V i_NM rfl rfl hT0 (by decide) w_2306 rfl d_14_31_88 ?_
      refine lv_iload_n hx hb d_14_31_91 rfl (lv_at hl 3 rfl) ?_
      refine lv_if_ne (tgt := 105) hx hb d_14_31_92 (by decide) (fun c400 => absurd (show x2.toInt ≠ 0 from q_neI c400) (by first | with_reducible exact q_fe b348 | (have t1 : x2.toInt = 0 := b348; omega))) (fun c400 => ?_)
      refine lv_aload_n hx hb d_14_31_95 rfl (lv_at hl 2 rfl) ?_
      refine q_get (ci := 12) (j := 5) (v := .ref (q 119)) C0 V i_NM rfl rfl hT0 (by decide) w_2303 rfl d_14_31_96 ?_
      refine q_getN (ci := 13) (j := 19) (v := .ref (q 133)) C0 V i_WR rfl rfl hO353 (by decide) wo_1944 rfl d_14_31_99 ?_
      refine lv_goto (tgt := 112) hx hb d_14_31_102 (by decide) ?_
      refine lv_iload hx hb d_14_31_112 (lv_at hl 0 rfl) ?_
      refine lv_aload_n hx hb d_14_31_114 rfl (lv_at hl 2 rfl) ?_
      refine q_get (ci := 12) (j := 8) (v := .ref (q 153)) C0 V i_NM rfl rfl hT0 (by decide) w_2306 rfl d_14_31_115 ?_
      refine q_getN (ci := 16) (j := 1) (v := .ref (q 154)) C0 V i_TR rfl rfl hT13 (by decide) wo_2140 rfl d_14_31_118 ?_
      have ob401 : True ∧ S_NM_load (2100 : Int32) a352 (4100 : Int32) f363 t14_0 := (by rw [e394, e385]; have h := hS396; rw [S_NM_toFloat_c70.eq_1] at h; with_reducible exact h.2.1)
      refine q_goi V (q_runS (As := [.ref (q 133), .int a352, .ref (q 154)]) (rest := [.ref (q 153)]) (d := 1) (mc := 0) (ms := 0) C0 V rfl LS_NM_90 (X_NM_load l D g q u350 133 2100 (n_r133 g q) 154 4100 (n_r154 g q) a352 (by decide) hI f363 hA364 t14_0 hT14 ob401 _) rfl hl.1 rfl (Nat.le_of_ble_eq_true rfl) ⟨by decide, by decide⟩ ⟨Nat.le_of_ble_eq_true rfl, Nat.le_of_ble_eq_true rfl⟩ d_14_31_121) (fun a404 u402 H locs hp403 V => ?_)
      obtain ⟨hI, hZ9⟩ := hp403
      obtain ⟨hu412, hZ9⟩ := hZ9
      obtain ⟨f405, hZ9⟩ := hZ9
      obtain ⟨hA406, hZ9⟩ := hZ9
      obtain ⟨b407, hZ9⟩ := hZ9
      replace hZ9 := hZ9.2
      obtain ⟨b409, hZ9⟩ := hZ9
      obtain ⟨-, hE411⟩ := hZ9
      replace hA406 : u402[154]? = (some (q 154, .inl (g 0, (4100 : Int32).toNatClampNeg, .inl f405)) : Option (Nat × va_E)) := hA406
      obtain ⟨p413, e414⟩ : ∃ z, z = (F_NM_load (2100 : Int32) a352 (4100 : Int32) f363 t14_0) := ⟨_, rfl⟩
      have e415 : a404 = p413.1 := congrArg (fun z => z.1) (hE411.trans e414.symm)
      have e416 : f405 = p413.2 := congrArg (fun z => z.2) (hE411.trans e414.symm)
      replace b407 : q_F (a352.toInt ≤ a404.toInt) := b407
      replace b409 : q_F (a404.toInt ≤ 2100) := b409
      replace hT0 := (hu412 _ (by decide)).trans hT0
      replace hO353 := (hu412 _ (by decide)).trans hO353
      replace hA362 := (hu412 _ (by decide)).trans hA362
      replace hA364 := (hu412 _ (by decide)).trans hA364
      replace hT6 := (hu412 _ (by decide)).trans hT6
      replace hT11 := (hu412 _ (by decide)).trans hT11
      replace hT12 := (hu412 _ (by decide)).trans hT12
      replace hT13 := (hu412 _ (by decide)).trans hT13
      replace hT15 := (hu412 _ (by decide)).trans hT15
      replace hT16 := (hu412 _ (by decide)).trans hT16
      replace hT17 := (hu412 _ (by decide)).trans hT17
      replace hF := q_uc hF hu412 (by simp)
      have hR417 := (show F_NM_toFloat_c121_6 x2 x3 x4 x5 t0_0 t0_1 t0_2 t1_0 t1_1 t1_2 t1_3 t1_4 t1_5 t1_6 t2_0 t3_0 t4_0 t5_0 t6_0 t6_1 t6_2 t6_3 t6_4 t6_5 t6_6 t6_7 t6_8 t6_9 t6_10 t7_0 t8_0 t9_0 t10_0 t11_0 t12_0 t12_1 t12_2 t12_3 t12_4 t12_5 t12_6 t12_7 t12_8 t12_9 t12_10 t13_0 t13_1 t13_2 t13_3 t13_4 t13_5 t13_6 t13_7 t13_8 t13_9 t13_10 t13_11 t13_12 t13_13 t14_0 t15_0 t16_0 t17_0 p383 a352 y354 y355 y356 y357 y358 y359 y360 f361 f363 p413 = (F_NM_toFloat x2 x3 x4 x5 t0_0 t0_1 t0_2 t1_0 t1_1 t1_2 t1_3 t1_4 t1_5 t1_6 t2_0 t3_0 t4_0 t5_0 t6_0 t6_1 t6_2 t6_3 t6_4 t6_5 t6_6 t6_7 t6_8 t6_9 t6_10 t7_0 t8_0 t9_0 t10_0 t11_0 t12_0 t12_1 t12_2 t12_3 t12_4 t12_5 t12_6 t12_7 t12_8 t12_9 t12_10 t13_0 t13_1 t13_2 t13_3 t13_4 t13_5 t13_6 t13_7 t13_8 t13_9 t13_10 t13_11 t13_12 t13_13 t14_0 t15_0 t16_0 t17_0) from Eq.trans (by rw [e414, e394, e393, e392, e391, e390, e389, e388, e387, e386, e385, F_NM_toFloat_c70.eq_1]) hR395)
      have hS418 := (show True ∧ S_NM_toFloat_c121_6 x2 x3 x4 x5 t0_0 t0_1 t0_2 t1_0 t1_1 t1_2 t1_3 t1_4 t1_5 t1_6 t2_0 t3_0 t4_0 t5_0 t6_0 t6_1 t6_2 t6_3 t6_4 t6_5 t6_6 t6_7 t6_8 t6_9 t6_10 t7_0 t8_0 t9_0 t10_0 t11_0 t12_0 t12_1 t12_2 t12_3 t12_4 t12_5 t12_6 t12_7 t12_8 t12_9 t12_10 t13_0 t13_1 t13_2 t13_3 t13_4 t13_5 t13_6 t13_7 t13_8 t13_9 t13_10 t13_11 t13_12 t13_13 t14_0 t15_0 t16_0 t17_0 p383 a352 y354 y355 y356 y357 y358 y359 y360 f361 f363 p413 from (by rw [e414, e394, e393, e392, e391, e390, e389, e388, e387, e386, e385]; have h := hS396; rw [S_NM_toFloat_c70.eq_1] at h; replace h := q_s2 h; with_reducible exact h))
      refine q_putN (ci := 16) (j := 2) (v := .int a404) (ty := .int) C0 V i_TR o_TR n_TR rfl rfl hT13 (by decide) wo_2142 rfl rfl rfl rfl (Nat.le_of_ble_eq_true rfl) d_14_31_124 (fun H locs w422 hu423 hT13 V => ?_)
      replace hT13 : w422[153]? = (some (q 153, .inr (16, [.int t13_0, .ref (q 154), .int a404, .int t13_2, .int t13_3, .int t13_4, .ref (q 155), .int t13_5, .int t13_6, .long t13_7, .ref (q 156), .int t13_8, .int t13_9, .long t13_10, .long t13_11, .int t13_12, .int t13_13])) : Option (Nat × va_E)) := hT13
      replace hI := n_p153 hI hu423 hT13 ⟨(by have t1 : 0 ≤ a352.toInt := b365; have t2 : a352.toInt ≤ a404.toInt := b407; omega), (by first | with_reducible exact q_fe b409 | (have t1 : a404.toInt ≤ 2100 := b409; omega))⟩ (by first | with_reducible exact q_fe btt13_4 | exact ⟨(by have t1 : 0 ≤ t13_4.toInt ∧ t13_4.toInt ≤ 1 := btt13_4; omega), (by have t1 : 0 ≤ t13_4.toInt ∧ t13_4.toInt ≤ 1 := btt13_4; omega)⟩) (by first | with_reducible exact q_fe btt13_13 | exact ⟨(by have t1 : 0 ≤ t13_13.toInt ∧ t13_13.toInt ≤ 1 := btt13_13; omega), (by have t1 : 0 ≤ t13_13.toInt ∧ t13_13.toInt ≤ 1 := btt13_13; omega)⟩)
      replace hT0 := (hu423 _ (by decide)).trans hT0
      replace hO353 := (hu423 _ (by decide)).trans hO353
      replace hA362 := (hu423 _ (by decide)).trans hA362
      replace hA364 := (hu423 _ (by decide)).trans hA364
      replace hT6 := (hu423 _ (by decide)).trans hT6
      replace hT11 := (hu423 _ (by decide)).trans hT11
      replace hT12 := (hu423 _ (by decide)).trans hT12
      replace hA406 := (hu423 _ (by decide)).trans hA406
      replace hT15 := (hu423 _ (by decide)).trans hT15
      replace hT16 := (hu423 _ (by decide)).trans hT16
      replace hT17 := (hu423 _ (by decide)).trans hT17
      replace hF := q_us hF hu423 (by simp)
      refine lv_iload_n hx hb d_14_31_127 rfl (lv_at hl 5 rfl) ?_
      refine lv_iconst (v := 2) hx hb d_14_31_128 (by decide) ?_
      refine lv_icmp_ne (tgt := 142) hx hb d_14_31_129 (by decide) (fun c424 => ?_) (fun c424 => ?_)
      ·
        refine lv_aload_n hx hb d_14_31_142 rfl (lv_at hl 2 rfl) ?_
        refine q_get (ci := 12) (j := 8) (v := .ref (q 153)) C0 V i_NM rfl rfl hT0 (by decide) w_2306 rfl d_14_31_143 ?_
        have ob426 : True ∧ S_TR_floatBits t13_0 a404 t13_2 t13_3 t13_4 t13_5 t13_6 t13_7 t13_8 t13_9 t13_10 t13_11 t13_12 t13_13 f405 t15_0 t16_0 := (by rw [e416, e415]; have h := hS418; rw [S_NM_toFloat_c121_6.eq_1] at h; rw [if_neg c424] at h; with_reducible exact h.2.1)
        refine q_goi V (q_runV (As := []) (rest := []) (d := 6) (mc := 0) (ms := 0) (ci := 16) C0 V rfl LV_NM_113 (X_TR_floatBits l D g q w422   hI t13_0 a404 t13_2 t13_3 t13_4 t13_5 t13_6 t13_7 t13_8 t13_9 t13_10 t13_11 t13_12 t13_13 hT13 f405 hA406 t15_0 hT15 t16_0 hT16 ob426 _) rfl rfl hT13 rfl hl.1 rfl (Nat.le_of_ble_eq_true rfl) ⟨by decide, by decide⟩ ⟨Nat.le_of_ble_eq_true rfl, Nat.le_of_ble_eq_true rfl⟩ d_14_31_146) (fun a429 u427 H locs hp428 V => ?_)
        obtain ⟨hI, hZ9⟩ := hp428
        obtain ⟨hu460, hZ9⟩ := hZ9
        obtain ⟨y431, hZ9⟩ := hZ9
        obtain ⟨y432, hZ9⟩ := hZ9
        obtain ⟨y433, hZ9⟩ := hZ9
        obtain ⟨y434, hZ9⟩ := hZ9
        obtain ⟨y435, hZ9⟩ := hZ9
        obtain ⟨y436, hZ9⟩ := hZ9
        obtain ⟨y437, hZ9⟩ := hZ9
        obtain ⟨y438, hZ9⟩ := hZ9
        obtain ⟨y439, hZ9⟩ := hZ9
        obtain ⟨y440, hZ9⟩ := hZ9
        obtain ⟨y441, hZ9⟩ := hZ9
        obtain ⟨y442, hZ9⟩ := hZ9
        obtain ⟨y443, hZ9⟩ := hZ9
        obtain ⟨y444, hZ9⟩ := hZ9
        obtain ⟨f445, hZ9⟩ := hZ9
        obtain ⟨f447, hZ9⟩ := hZ9
        obtain ⟨hO430, hZ9⟩ := hZ9
        obtain ⟨hA446, hZ9⟩ := hZ9
        obtain ⟨hA448, hZ9⟩ := hZ9
        replace hZ9 := hZ9.2.2.2.2
        obtain ⟨b453, hZ9⟩ := hZ9
        obtain ⟨b454, hZ9⟩ := hZ9
        obtain ⟨b455, hZ9⟩ := hZ9
        obtain ⟨b456, hZ9⟩ := hZ9
        replace hZ9 := hZ9.2
        obtain ⟨-, hE459⟩ := hZ9
        replace hO430 : u427[153]? = (some (q 153, .inr (16, [.int y431, .ref (q 154), .int y432, .int y433, .int y434, .int y435, .ref (q 155), .int y436, .int y437, .long y438, .ref (q 156), .int y439, .int y440, .long y441, .long y442, .int y443, .int y444])) : Option (Nat × va_E)) := hO430
        replace hA446 : u427[155]? = (some (q 155, .inl (g 0, (4100 : Int32).toNatClampNeg, .inl f445)) : Option (Nat × va_E)) := hA446
        replace hA448 : u427[156]? = (some (q 156, .inl (g 0, (800 : Int32).toNatClampNeg, .inl f447)) : Option (Nat × va_E)) := hA448
        obtain ⟨p461, e462⟩ : ∃ z, z = (F_TR_floatBits t13_0 a404 t13_2 t13_3 t13_4 t13_5 t13_6 t13_7 t13_8 t13_9 t13_10 t13_11 t13_12 t13_13 f405 t15_0 t16_0) := ⟨_, rfl⟩
        have e463 : a429 = p461.1 := congrArg (fun z => z.1) (hE459.trans e462.symm)
        have e464 : y431 = p461.2.1 := congrArg (fun z => z.2.1) (hE459.trans e462.symm)
        have e465 : y432 = p461.2.2.1 := congrArg (fun z => z.2.2.1) (hE459.trans e462.symm)
        have e466 : y433 = p461.2.2.2.1 := congrArg (fun z => z.2.2.2.1) (hE459.trans e462.symm)
        have e467 : y434 = p461.2.2.2.2.1 := congrArg (fun z => z.2.2.2.2.1) (hE459.trans e462.symm)
        have e468 : y435 = p461.2.2.2.2.2.1 := congrArg (fun z => z.2.2.2.2.2.1) (hE459.trans e462.symm)
        have e469 : y436 = p461.2.2.2.2.2.2.1 := congrArg (fun z => z.2.2.2.2.2.2.1) (hE459.trans e462.symm)
        have e470 : y437 = p461.2.2.2.2.2.2.2.1 := congrArg (fun z => z.2.2.2.2.2.2.2.1) (hE459.trans e462.symm)
        have e471 : y438 = p461.2.2.2.2.2.2.2.2.1 := congrArg (fun z => z.2.2.2.2.2.2.2.2.1) (hE459.trans e462.symm)
        have e472 : y439 = p461.2.2.2.2.2.2.2.2.2.1 := congrArg (fun z => z.2.2.2.2.2.2.2.2.2.1) (hE459.trans e462.symm)
        have e473 : y440 = p461.2.2.2.2.2.2.2.2.2.2.1 := congrArg (fun z => z.2.2.2.2.2.2.2.2.2.2.1) (hE459.trans e462.symm)
        have e474 : y441 = p461.2.2.2.2.2.2.2.2.2.2.2.1 := congrArg (fun z => z.2.2.2.2.2.2.2.2.2.2.2.1) (hE459.trans e462.symm)
        have e475 : y442 = p461.2.2.2.2.2.2.2.2.2.2.2.2.1 := congrArg (fun z => z.2.2.2.2.2.2.2.2.2.2.2.2.1) (hE459.trans e462.symm)
        have e476 : y443 = p461.2.2.2.2.2.2.2.2.2.2.2.2.2.1 := congrArg (fun z => z.2.2.2.2.2.2.2.2.2.2.2.2.2.1) (hE459.trans e462.symm)
        have e477 : y444 = p461.2.2.2.2.2.2.2.2.2.2.2.2.2.2.1 := congrArg (fun z => z.2.2.2.2.2.2.2.2.2.2.2.2.2.2.1) (hE459.trans e462.symm)
        have e478 : f445 = p461.2.2.2.2.2.2.2.2.2.2.2.2.2.2.2.1 := congrArg (fun z => z.2.2.2.2.2.2.2.2.2.2.2.2.2.2.2.1) (hE459.trans e462.symm)
        have e479 : f447 = p461.2.2.2.2.2.2.2.2.2.2.2.2.2.2.2.2 := congrArg (fun z => z.2.2.2.2.2.2.2.2.2.2.2.2.2.2.2.2) (hE459.trans e462.symm)
        replace b453 : q_F (0 ≤ y435.toInt) := b453
        replace b454 : q_F (y435.toInt ≤ 1) := b454
        replace b455 : q_F (0 ≤ y444.toInt) := b455
        replace b456 : q_F (y444.toInt ≤ 1) := b456
        replace hT0 := (hu460 _ (by decide)).trans hT0
        replace hO353 := (hu460 _ (by decide)).trans hO353
        replace hA362 := (hu460 _ (by decide)).trans hA362
        replace hA364 := (hu460 _ (by decide)).trans hA364
        replace hT6 := (hu460 _ (by decide)).trans hT6
        replace hT11 := (hu460 _ (by decide)).trans hT11
        replace hT12 := (hu460 _ (by decide)).trans hT12
        replace hA406 := (hu460 _ (by decide)).trans hA406
        replace hT17 := (hu460 _ (by decide)).trans hT17
        replace hF := q_uc hF hu460 (by simp)
        have hR480 := (show F_NM_toFloat_c146_7 x2 x3 x4 x5 t0_0 t0_1 t0_2 t1_0 t1_1 t1_2 t1_3 t1_4 t1_5 t1_6 t2_0 t3_0 t4_0 t5_0 t6_0 t6_1 t6_2 t6_3 t6_4 t6_5 t6_6 t6_7 t6_8 t6_9 t6_10 t7_0 t8_0 t9_0 t10_0 t11_0 t12_0 t12_1 t12_2 t12_3 t12_4 t12_5 t12_6 t12_7 t12_8 t12_9 t12_10 t13_0 t13_1 t13_2 t13_3 t13_4 t13_5 t13_6 t13_7 t13_8 t13_9 t13_10 t13_11 t13_12 t13_13 t14_0 t15_0 t16_0 t17_0 p383 a352 y354 y355 y356 y357 y358 y359 y360 f361 f363 p413 f405 p461 = (F_NM_toFloat x2 x3 x4 x5 t0_0 t0_1 t0_2 t1_0 t1_1 t1_2 t1_3 t1_4 t1_5 t1_6 t2_0 t3_0 t4_0 t5_0 t6_0 t6_1 t6_2 t6_3 t6_4 t6_5 t6_6 t6_7 t6_8 t6_9 t6_10 t7_0 t8_0 t9_0 t10_0 t11_0 t12_0 t12_1 t12_2 t12_3 t12_4 t12_5 t12_6 t12_7 t12_8 t12_9 t12_10 t13_0 t13_1 t13_2 t13_3 t13_4 t13_5 t13_6 t13_7 t13_8 t13_9 t13_10 t13_11 t13_12 t13_13 t14_0 t15_0 t16_0 t17_0) from Eq.trans (by rw [e462, e416, e415, F_NM_toFloat_c121_6.eq_1, if_neg c424]) hR417)
        have hS481 := (show True ∧ S_NM_toFloat_c146_7 x2 x3 x4 x5 t0_0 t0_1 t0_2 t1_0 t1_1 t1_2 t1_3 t1_4 t1_5 t1_6 t2_0 t3_0 t4_0 t5_0 t6_0 t6_1 t6_2 t6_3 t6_4 t6_5 t6_6 t6_7 t6_8 t6_9 t6_10 t7_0 t8_0 t9_0 t10_0 t11_0 t12_0 t12_1 t12_2 t12_3 t12_4 t12_5 t12_6 t12_7 t12_8 t12_9 t12_10 t13_0 t13_1 t13_2 t13_3 t13_4 t13_5 t13_6 t13_7 t13_8 t13_9 t13_10 t13_11 t13_12 t13_13 t14_0 t15_0 t16_0 t17_0 p383 a352 y354 y355 y356 y357 y358 y359 y360 f361 f363 p413 f405 p461 from (by rw [e462, e416, e415]; have h := hS418; rw [S_NM_toFloat_c121_6.eq_1] at h; rw [if_neg c424] at h; replace h := q_s2 h; with_reducible exact h))
        refine lv_i2l hx hb d_14_31_149 rfl ?_
        obtain ⟨j485, e486⟩ := q_nm (a429.toInt64 : Int64)
        refine q_tl (v := j485) e486 ?_
        refine q_ldc2 C0 rfl w_2530 d_14_31_150 ?_
        refine lv_land hx hb d_14_31_153 ?_
        obtain ⟨j488, e489⟩ := q_nm (j485 &&& 4294967295 : Int64)
        refine q_tl (v := j488) e489 ?_
        refine lv_lstore (lv' := [(5, .long j488), (7, .int a352), (0, .ref (q 116)), (1, .int x2), (2, .int x3), (3, .int x4), (4, .int x5)]) hx hb d_14_31_154 hl (by decide) rfl (fun ls hl => ?_)
        refine lv_aload_n hx hb d_14_31_156 rfl (lv_at hl 2 rfl) ?_
        refine q_get (ci := 12) (j := 8) (v := .ref (q 153)) C0 V i_NM rfl rfl hT0 (by decide) w_2306 rfl d_14_31_157 ?_
        refine lv_iconst (v := 0) hx hb d_14_31_160 (by decide) ?_
        refine q_putN (ci := 16) (j := 2) (v := .int 0) (ty := .int) C0 V i_TR o_TR n_TR rfl rfl hO430 (by decide) wo_2142 rfl rfl rfl rfl (Nat.le_of_ble_eq_true rfl) d_14_31_161 (fun H locs w491 hu492 hO430 V => ?_)
        replace hO430 : w491[153]? = (some (q 153, .inr (16, [.int y431, .ref (q 154), .int 0, .int y433, .int y434, .int y435, .ref (q 155), .int y436, .int y437, .long y438, .ref (q 156), .int y439, .int y440, .long y441, .long y442, .int y443, .int y444])) : Option (Nat × va_E)) := hO430
        replace hI := n_p153 hI hu492 hO430 ⟨(by have z9 : (0 : Int32).toInt = 0 := rfl; omega), (by have z9 : (0 : Int32).toInt = 0 := rfl; omega)⟩ ⟨(by first | with_reducible exact q_fe b453 | (have t1 : 0 ≤ y435.toInt := b453; omega)), (by first | with_reducible exact q_fe b454 | (have t1 : y435.toInt ≤ 1 := b454; omega))⟩ ⟨(by first | with_reducible exact q_fe b455 | (have t1 : 0 ≤ y444.toInt := b455; omega)), (by first | with_reducible exact q_fe b456 | (have t1 : y444.toInt ≤ 1 := b456; omega))⟩
        replace hT0 := (hu492 _ (by decide)).trans hT0
        replace hO353 := (hu492 _ (by decide)).trans hO353
        replace hA362 := (hu492 _ (by decide)).trans hA362
        replace hA364 := (hu492 _ (by decide)).trans hA364
        replace hT6 := (hu492 _ (by decide)).trans hT6
        replace hT11 := (hu492 _ (by decide)).trans hT11
        replace hT12 := (hu492 _ (by decide)).trans hT12
        replace hA406 := (hu492 _ (by decide)).trans hA406
        replace hA446 := (hu492 _ (by decide)).trans hA446
        replace hA448 := (hu492 _ (by decide)).trans hA448
        replace hT17 := (hu492 _ (by decide)).trans hT17
        replace hF := q_us hF hu492 (by simp)
        refine lv_aload_n hx hb d_14_31_164 rfl (lv_at hl 2 rfl) ?_
        refine lv_iload_n hx hb d_14_31_165 rfl (lv_at hl 5 rfl) ?_
        refine lv_iload hx hb d_14_31_166 (lv_at hl 6 rfl) ?_
        refine lv_lload hx hb d_14_31_168 (lv_at hl 0 rfl) ?_
        have ob493 : True ∧ S_NM_setBits x4 x5 j488 t0_0 t0_1 t0_2 t17_0 := (by rw [← e489, ← e486, e463]; have h := hS481; rw [S_NM_toFloat_c146_7.eq_1] at h; with_reducible exact h.2.1)
        refine q_gov V (q_runV (As := [.int x4, .int x5, .long j488]) (rest := []) (d := 1) (mc := 0) (ms := 0) (ci := 12) C0 V rfl LV_NM_120 (X_NM_setBits l D g q w491  x4 x5 j488 hI t0_0 t0_1 t0_2 hT0 t17_0 hT17 ob493 _) rfl rfl hT0 rfl hl.1 rfl (Nat.le_of_ble_eq_true rfl) ⟨by decide, by decide⟩ ⟨Nat.le_of_ble_eq_true rfl, Nat.le_of_ble_eq_true rfl⟩ d_14_31_170) (fun u494 H locs hp495 V => ?_)
        obtain ⟨hI, hu499, f496, hA497, hE498⟩ := hp495
        replace hA497 : u494[167]? = (some (q 167, .inl (g 1, 20, .inr (.inl f496))) : Option (Nat × va_E)) := hA497
        have e500 : f496 = (F_NM_setBits x4 x5 j488 t0_0 t0_1 t0_2 t17_0) := hE498
        replace hO353 := (hu499 _ (by decide)).trans hO353
        replace hA362 := (hu499 _ (by decide)).trans hA362
        replace hA364 := (hu499 _ (by decide)).trans hA364
        replace hT6 := (hu499 _ (by decide)).trans hT6
        replace hT11 := (hu499 _ (by decide)).trans hT11
        replace hT12 := (hu499 _ (by decide)).trans hT12
        replace hO430 := (hu499 _ (by decide)).trans hO430
        replace hA406 := (hu499 _ (by decide)).trans hA406
        replace hA446 := (hu499 _ (by decide)).trans hA446
        replace hA448 := (hu499 _ (by decide)).trans hA448
        replace hF := q_uc hF hu499 (by simp)
        exact q_retv C0 V (⟨hI, hF, y354, y355, y356, y357, y358, y359, y360, f361, f363, t6_0, t6_1, t6_2, t6_3, t6_4, t6_5, t6_6, t6_7, t6_8, t6_9, t6_10, t11_0, t12_0, t12_1, t12_2, t12_3, t12_4, t12_5, t12_6, t12_7, t12_8, t12_9, t12_10, y431, 0, y433, y434, y435, y436, y437, y438, y439, y440, y441, y442, y443, y444, f405, f445, f447, f496, hO353, hA362, hA364, hT6, hT11, hT12, hO430, hA406, hA446, hA448, hA497, (show 0 ≤ y356.toInt from (by have z96 : (0 : Int32).toInt = 0 := rfl; have t1 : 0 ≤ t1_2.toInt ∧ t1_2.toInt ≤ 4100 := btt1_2; have t2 : t1_2.toInt ≤ y356.toInt := b371; omega)), (show y356.toInt ≤ 4100 from (by have z96 : (0 : Int32).toInt = 0 := rfl; have t1 : 0 ≤ t1_2.toInt ∧ t1_2.toInt ≤ 4100 := btt1_2; have t2 : y356.toInt ≤ t1_2.toInt := b372; omega)), (show 0 ≤ y357.toInt from (by have z96 : (0 : Int32).toInt = 0 := rfl; have t1 : 0 ≤ t1_3.toInt ∧ t1_3.toInt ≤ 1 := btt1_3; have t2 : t1_3.toInt ≤ y357.toInt := b373; omega)), (show y357.toInt ≤ 1 from (by have z96 : (0 : Int32).toInt = 0 := rfl; have t1 : 0 ≤ t1_3.toInt ∧ t1_3.toInt ≤ 1 := btt1_3; have t2 : y357.toInt ≤ t1_3.toInt := b374; omega)), (show 0 ≤ y358.toInt from (by have z96 : (0 : Int32).toInt = 0 := rfl; have t1 : 0 ≤ t1_4.toInt ∧ t1_4.toInt ≤ 1 := btt1_4; have t2 : t1_4.toInt ≤ y358.toInt := b375; omega)), (show y358.toInt ≤ 1 from (by have z96 : (0 : Int32).toInt = 0 := rfl; have t1 : 0 ≤ t1_4.toInt ∧ t1_4.toInt ≤ 1 := btt1_4; have t2 : y358.toInt ≤ t1_4.toInt := b376; omega)), (show 0 ≤ y359.toInt from (by have z96 : (0 : Int32).toInt = 0 := rfl; have t1 : 0 ≤ t1_5.toInt ∧ t1_5.toInt ≤ 1 := btt1_5; have t2 : t1_5.toInt ≤ y359.toInt := b377; omega)), (show y359.toInt ≤ 1 from (by have z96 : (0 : Int32).toInt = 0 := rfl; have t1 : 0 ≤ t1_5.toInt ∧ t1_5.toInt ≤ 1 := btt1_5; have t2 : y359.toInt ≤ t1_5.toInt := b378; omega)), (show 0 ≤ y360.toInt from (by have z96 : (0 : Int32).toInt = 0 := rfl; have t1 : 0 ≤ a352.toInt := b365; have t2 : a352.toInt ≤ y360.toInt := b380; omega)), (show y360.toInt ≤ 2100 from (by have z96 : (0 : Int32).toInt = 0 := rfl; have t1 : y360.toInt ≤ 2100 := b368; omega)), (show 0 ≤ t6_1.toInt from (by have z96 : (0 : Int32).toInt = 0 := rfl; have t1 : 0 ≤ t6_1.toInt ∧ t6_1.toInt ≤ 4100 := btt6_1; omega)), (show t6_1.toInt ≤ 4100 from (by have z96 : (0 : Int32).toInt = 0 := rfl; have t1 : 0 ≤ t6_1.toInt ∧ t6_1.toInt ≤ 4100 := btt6_1; omega)), (show 0 ≤ t6_4.toInt from (by have z96 : (0 : Int32).toInt = 0 := rfl; have t1 : 0 ≤ t6_4.toInt ∧ t6_4.toInt ≤ 1 := btt6_4; omega)), (show t6_4.toInt ≤ 1 from (by have z96 : (0 : Int32).toInt = 0 := rfl; have t1 : 0 ≤ t6_4.toInt ∧ t6_4.toInt ≤ 1 := btt6_4; omega)), (show 0 ≤ t6_5.toInt from (by have z96 : (0 : Int32).toInt = 0 := rfl; have t1 : 0 ≤ t6_5.toInt ∧ t6_5.toInt ≤ 1 := btt6_5; omega)), (show t6_5.toInt ≤ 1 from (by have z96 : (0 : Int32).toInt = 0 := rfl; have t1 : 0 ≤ t6_5.toInt ∧ t6_5.toInt ≤ 1 := btt6_5; omega)), (show 0 ≤ t6_9.toInt from (by have z96 : (0 : Int32).toInt = 0 := rfl; have t1 : 0 ≤ t6_9.toInt ∧ t6_9.toInt ≤ 12200 := btt6_9; omega)), (show t6_9.toInt ≤ 12200 from (by have z96 : (0 : Int32).toInt = 0 := rfl; have t1 : 0 ≤ t6_9.toInt ∧ t6_9.toInt ≤ 12200 := btt6_9; omega)), (show 0 ≤ t12_2.toInt from (by have z96 : (0 : Int32).toInt = 0 := rfl; have t1 : 0 ≤ t12_2.toInt ∧ t12_2.toInt ≤ 1 := btt12_2; omega)), (show t12_2.toInt ≤ 1 from (by have z96 : (0 : Int32).toInt = 0 := rfl; have t1 : 0 ≤ t12_2.toInt ∧ t12_2.toInt ≤ 1 := btt12_2; omega)), (show 0 ≤ (0 : Int32).toInt from (by have z96 : (0 : Int32).toInt = 0 := rfl; omega)), (show (0 : Int32).toInt ≤ 4100 from (by have z96 : (0 : Int32).toInt = 0 := rfl; omega)), (show 0 ≤ y435.toInt from (by have z96 : (0 : Int32).toInt = 0 := rfl; have t1 : 0 ≤ y435.toInt := b453; omega)), (show y435.toInt ≤ 1 from (by have z96 : (0 : Int32).toInt = 0 := rfl; have t1 : y435.toInt ≤ 1 := b454; omega)), (show 0 ≤ y444.toInt from (by have z96 : (0 : Int32).toInt = 0 := rfl; have t1 : 0 ≤ y444.toInt := b455; omega)), (show y444.toInt ≤ 1 from (by have z96 : (0 : Int32).toInt = 0 := rfl; have t1 : y444.toInt ≤ 1 := b456; omega)), (show t1_1.toInt ≤ y355.toInt from (by have z96 : (0 : Int32).toInt = 0 := rfl; have t1 : t1_1.toInt ≤ y355.toInt := b369; omega)), (show y355.toInt ≤ t1_1.toInt from (by have z96 : (0 : Int32).toInt = 0 := rfl; have t1 : y355.toInt ≤ t1_1.toInt := b370; omega)), (show t1_2.toInt ≤ y356.toInt from (by have z96 : (0 : Int32).toInt = 0 := rfl; have t1 : t1_2.toInt ≤ y356.toInt := b371; omega)), (show y356.toInt ≤ t1_2.toInt from (by have z96 : (0 : Int32).toInt = 0 := rfl; have t1 : y356.toInt ≤ t1_2.toInt := b372; omega)), (show t1_3.toInt ≤ y357.toInt from (by have z96 : (0 : Int32).toInt = 0 := rfl; have t1 : t1_3.toInt ≤ y357.toInt := b373; omega)), (show y357.toInt ≤ t1_3.toInt from (by have z96 : (0 : Int32).toInt = 0 := rfl; have t1 : y357.toInt ≤ t1_3.toInt := b374; omega)), (show t1_4.toInt ≤ y358.toInt from (by have z96 : (0 : Int32).toInt = 0 := rfl; have t1 : t1_4.toInt ≤ y358.toInt := b375; omega)), (show y358.toInt ≤ t1_4.toInt from (by have z96 : (0 : Int32).toInt = 0 := rfl; have t1 : y358.toInt ≤ t1_4.toInt := b376; omega)), (show t1_5.toInt ≤ y359.toInt from (by have z96 : (0 : Int32).toInt = 0 := rfl; have t1 : t1_5.toInt ≤ y359.toInt := b377; omega)), (show y359.toInt ≤ t1_5.toInt from (by have z96 : (0 : Int32).toInt = 0 := rfl; have t1 : y359.toInt ≤ t1_5.toInt := b378; omega)), (show t1_6.toInt ≤ y360.toInt + 2099 from (by have z96 : (0 : Int32).toInt = 0 := rfl; have t1 : t1_6.toInt ≤ y360.toInt + 2099 := b379; omega)), (show t6_1.toInt ≤ t6_1.toInt from (by have z96 : (0 : Int32).toInt = 0 := rfl; omega)), (show t6_1.toInt ≤ t6_1.toInt from (by have z96 : (0 : Int32).toInt = 0 := rfl; omega)), (show t6_2.toInt ≤ t6_2.toInt from (by have z96 : (0 : Int32).toInt = 0 := rfl; omega)), (show t6_2.toInt ≤ t6_2.toInt from (by have z96 : (0 : Int32).toInt = 0 := rfl; omega)), (show t6_3.toInt ≤ t6_3.toInt from (by have z96 : (0 : Int32).toInt = 0 := rfl; omega)), (show t6_3.toInt ≤ t6_3.toInt from (by have z96 : (0 : Int32).toInt = 0 := rfl; omega)), (show t6_4.toInt ≤ t6_4.toInt from (by have z96 : (0 : Int32).toInt = 0 := rfl; omega)), (show t6_4.toInt ≤ t6_4.toInt from (by have z96 : (0 : Int32).toInt = 0 := rfl; omega)), (show t6_5.toInt ≤ t6_5.toInt from (by have z96 : (0 : Int32).toInt = 0 := rfl; omega)), (show t6_5.toInt ≤ t6_5.toInt from (by have z96 : (0 : Int32).toInt = 0 := rfl; omega)), (show t6_6.toInt ≤ t6_6.toInt from (by have z96 : (0 : Int32).toInt = 0 := rfl; omega)), (show t6_6.toInt ≤ t6_6.toInt from (by have z96 : (0 : Int32).toInt = 0 := rfl; omega)), (show t6_7.toInt ≤ t6_7.toInt from (by have z96 : (0 : Int32).toInt = 0 := rfl; omega)), (show t6_7.toInt ≤ t6_7.toInt from (by have z96 : (0 : Int32).toInt = 0 := rfl; omega)), (show t6_8.toInt ≤ t6_8.toInt from (by have z96 : (0 : Int32).toInt = 0 := rfl; omega)), (show t6_8.toInt ≤ t6_8.toInt from (by have z96 : (0 : Int32).toInt = 0 := rfl; omega)), (show t6_10.toInt ≤ t6_10.toInt from (by have z96 : (0 : Int32).toInt = 0 := rfl; omega)), (show t6_10.toInt ≤ t6_10.toInt from (by have z96 : (0 : Int32).toInt = 0 := rfl; omega)), (show t12_1.toInt ≤ t12_1.toInt from (by have z96 : (0 : Int32).toInt = 0 := rfl; omega)), (show t12_1.toInt ≤ t12_1.toInt from (by have z96 : (0 : Int32).toInt = 0 := rfl; omega)), (show t12_9.toInt ≤ t12_9.toInt from (by have z96 : (0 : Int32).toInt = 0 := rfl; omega)), (show t12_9.toInt ≤ t12_9.toInt from (by have z96 : (0 : Int32).toInt = 0 := rfl; omega)), (show t12_10.toInt ≤ t12_10.toInt from (by have z96 : (0 : Int32).toInt = 0 := rfl; omega)), (show t12_10.toInt ≤ t12_10.toInt from (by have z96 : (0 : Int32).toInt = 0 := rfl; omega)), (show (0 : Int32).toInt ≤ t13_1.toInt from (by have z96 : (0 : Int32).toInt = 0 := rfl; have t1 : 0 ≤ t13_1.toInt ∧ t13_1.toInt ≤ 4100 := btt13_1; omega)), (show (y354, y355, y356, y357, y358, y359, y360, f361, f363, t6_0, t6_1, t6_2, t6_3, t6_4, t6_5, t6_6, t6_7, t6_8, t6_9, t6_10, t11_0, t12_0, t12_1, t12_2, t12_3, t12_4, t12_5, t12_6, t12_7, t12_8, t12_9, t12_10, y431, (0 : Int32), y433, y434, y435, y436, y437, y438, y439, y440, y441, y442, y443, y444, f405, f445, f447, f496) = (F_NM_toFloat x2 x3 x4 x5 t0_0 t0_1 t0_2 t1_0 t1_1 t1_2 t1_3 t1_4 t1_5 t1_6 t2_0 t3_0 t4_0 t5_0 t6_0 t6_1 t6_2 t6_3 t6_4 t6_5 t6_6 t6_7 t6_8 t6_9 t6_10 t7_0 t8_0 t9_0 t10_0 t11_0 t12_0 t12_1 t12_2 t12_3 t12_4 t12_5 t12_6 t12_7 t12_8 t12_9 t12_10 t13_0 t13_1 t13_2 t13_3 t13_4 t13_5 t13_6 t13_7 t13_8 t13_9 t13_10 t13_11 t13_12 t13_13 t14_0 t15_0 t16_0 t17_0) from Eq.trans (by rw [e500, ← e489, ← e486, e479, e478, e477, e476, e475, e474, e473, e472, e471, e470, e469, e468, e467, e466, e464, e463, F_NM_toFloat_c146_7.eq_1]) hR480)⟩) d_14_31_173
      ·
        refine lv_aload_n hx hb d_14_31_132 rfl (lv_at hl 2 rfl) ?_
        refine q_get (ci := 12) (j := 8) (v := .ref (q 153)) C0 V i_NM rfl rfl hT0 (by decide) w_2306 rfl d_14_31_133 ?_
        have ob502 : True ∧ S_TR_bits t13_0 a404 t13_2 t13_3 t13_4 t13_5 t13_6 t13_7 t13_8 t13_9 t13_10 t13_11 t13_12 t13_13 f405 t15_0 t16_0 := (by rw [e416, e415]; have h := hS418; rw [S_NM_toFloat_c121_6.eq_1] at h; rw [if_pos c424] at h; with_reducible exact h.2.1)
        refine q_gol V (q_runV (As := []) (rest := []) (d := 6) (mc := 0) (ms := 0) (ci := 16) C0 V rfl LV_NM_110 (X_TR_bits l D g q w422   hI t13_0 a404 t13_2 t13_3 t13_4 t13_5 t13_6 t13_7 t13_8 t13_9 t13_10 t13_11 t13_12 t13_13 hT13 f405 hA406 t15_0 hT15 t16_0 hT16 ob502 _) rfl rfl hT13 rfl hl.1 rfl (Nat.le_of_ble_eq_true rfl) ⟨by decide, by decide⟩ ⟨Nat.le_of_ble_eq_true rfl, Nat.le_of_ble_eq_true rfl⟩ d_14_31_136) (fun j505 u503 H locs hp504 V => ?_)
        obtain ⟨hI, hZ9⟩ := hp504
        obtain ⟨hu536, hZ9⟩ := hZ9
        obtain ⟨y507, hZ9⟩ := hZ9
        obtain ⟨y508, hZ9⟩ := hZ9
        obtain ⟨y509, hZ9⟩ := hZ9
        obtain ⟨y510, hZ9⟩ := hZ9
        obtain ⟨y511, hZ9⟩ := hZ9
        obtain ⟨y512, hZ9⟩ := hZ9
        obtain ⟨y513, hZ9⟩ := hZ9
        obtain ⟨y514, hZ9⟩ := hZ9
        obtain ⟨y515, hZ9⟩ := hZ9
        obtain ⟨y516, hZ9⟩ := hZ9
        obtain ⟨y517, hZ9⟩ := hZ9
        obtain ⟨y518, hZ9⟩ := hZ9
        obtain ⟨y519, hZ9⟩ := hZ9
        obtain ⟨y520, hZ9⟩ := hZ9
        obtain ⟨f521, hZ9⟩ := hZ9
        obtain ⟨f523, hZ9⟩ := hZ9
        obtain ⟨hO506, hZ9⟩ := hZ9
        obtain ⟨hA522, hZ9⟩ := hZ9
        obtain ⟨hA524, hZ9⟩ := hZ9
        replace hZ9 := hZ9.2.2.2.2
        obtain ⟨b529, hZ9⟩ := hZ9
        obtain ⟨b530, hZ9⟩ := hZ9
        obtain ⟨b531, hZ9⟩ := hZ9
        obtain ⟨b532, hZ9⟩ := hZ9
        replace hZ9 := hZ9.2
        obtain ⟨-, hE535⟩ := hZ9
        replace hO506 : u503[153]? = (some (q 153, .inr (16, [.int y507, .ref (q 154), .int y508, .int y509, .int y510, .int y511, .ref (q 155), .int y512, .int y513, .long y514, .ref (q 156), .int y515, .int y516, .long y517, .long y518, .int y519, .int y520])) : Option (Nat × va_E)) := hO506
        replace hA522 : u503[155]? = (some (q 155, .inl (g 0, (4100 : Int32).toNatClampNeg, .inl f521)) : Option (Nat × va_E)) := hA522
        replace hA524 : u503[156]? = (some (q 156, .inl (g 0, (800 : Int32).toNatClampNeg, .inl f523)) : Option (Nat × va_E)) := hA524
        obtain ⟨p537, e538⟩ : ∃ z, z = (F_TR_bits t13_0 a404 t13_2 t13_3 t13_4 t13_5 t13_6 t13_7 t13_8 t13_9 t13_10 t13_11 t13_12 t13_13 f405 t15_0 t16_0) := ⟨_, rfl⟩
        have e539 : j505 = p537.1 := congrArg (fun z => z.1) (hE535.trans e538.symm)
        have e540 : y507 = p537.2.1 := congrArg (fun z => z.2.1) (hE535.trans e538.symm)
        have e541 : y508 = p537.2.2.1 := congrArg (fun z => z.2.2.1) (hE535.trans e538.symm)
        have e542 : y509 = p537.2.2.2.1 := congrArg (fun z => z.2.2.2.1) (hE535.trans e538.symm)
        have e543 : y510 = p537.2.2.2.2.1 := congrArg (fun z => z.2.2.2.2.1) (hE535.trans e538.symm)
        have e544 : y511 = p537.2.2.2.2.2.1 := congrArg (fun z => z.2.2.2.2.2.1) (hE535.trans e538.symm)
        have e545 : y512 = p537.2.2.2.2.2.2.1 := congrArg (fun z => z.2.2.2.2.2.2.1) (hE535.trans e538.symm)
        have e546 : y513 = p537.2.2.2.2.2.2.2.1 := congrArg (fun z => z.2.2.2.2.2.2.2.1) (hE535.trans e538.symm)
        have e547 : y514 = p537.2.2.2.2.2.2.2.2.1 := congrArg (fun z => z.2.2.2.2.2.2.2.2.1) (hE535.trans e538.symm)
        have e548 : y515 = p537.2.2.2.2.2.2.2.2.2.1 := congrArg (fun z => z.2.2.2.2.2.2.2.2.2.1) (hE535.trans e538.symm)
        have e549 : y516 = p537.2.2.2.2.2.2.2.2.2.2.1 := congrArg (fun z => z.2.2.2.2.2.2.2.2.2.2.1) (hE535.trans e538.symm)
        have e550 : y517 = p537.2.2.2.2.2.2.2.2.2.2.2.1 := congrArg (fun z => z.2.2.2.2.2.2.2.2.2.2.2.1) (hE535.trans e538.symm)
        have e551 : y518 = p537.2.2.2.2.2.2.2.2.2.2.2.2.1 := congrArg (fun z => z.2.2.2.2.2.2.2.2.2.2.2.2.1) (hE535.trans e538.symm)
        have e552 : y519 = p537.2.2.2.2.2.2.2.2.2.2.2.2.2.1 := congrArg (fun z => z.2.2.2.2.2.2.2.2.2.2.2.2.2.1) (hE535.trans e538.symm)
        have e553 : y520 = p537.2.2.2.2.2.2.2.2.2.2.2.2.2.2.1 := congrArg (fun z => z.2.2.2.2.2.2.2.2.2.2.2.2.2.2.1) (hE535.trans e538.symm)
        have e554 : f521 = p537.2.2.2.2.2.2.2.2.2.2.2.2.2.2.2.1 := congrArg (fun z => z.2.2.2.2.2.2.2.2.2.2.2.2.2.2.2.1) (hE535.trans e538.symm)
        have e555 : f523 = p537.2.2.2.2.2.2.2.2.2.2.2.2.2.2.2.2 := congrArg (fun z => z.2.2.2.2.2.2.2.2.2.2.2.2.2.2.2.2) (hE535.trans e538.symm)
        replace b529 : q_F (0 ≤ y511.toInt) := b529
        replace b530 : q_F (y511.toInt ≤ 1) := b530
        replace b531 : q_F (0 ≤ y520.toInt) := b531
        replace b532 : q_F (y520.toInt ≤ 1) := b532
        replace hT0 := (hu536 _ (by decide)).trans hT0
        replace hO353 := (hu536 _ (by decide)).trans hO353
        replace hA362 := (hu536 _ (by decide)).trans hA362
        replace hA364 := (hu536 _ (by decide)).trans hA364
        replace hT6 := (hu536 _ (by decide)).trans hT6
        replace hT11 := (hu536 _ (by decide)).trans hT11
        replace hT12 := (hu536 _ (by decide)).trans hT12
        replace hA406 := (hu536 _ (by decide)).trans hA406
        replace hT17 := (hu536 _ (by decide)).trans hT17
        replace hF := q_uc hF hu536 (by simp)
        have hR556 := (show F_NM_toFloat_c136_8 x2 x3 x4 x5 t0_0 t0_1 t0_2 t1_0 t1_1 t1_2 t1_3 t1_4 t1_5 t1_6 t2_0 t3_0 t4_0 t5_0 t6_0 t6_1 t6_2 t6_3 t6_4 t6_5 t6_6 t6_7 t6_8 t6_9 t6_10 t7_0 t8_0 t9_0 t10_0 t11_0 t12_0 t12_1 t12_2 t12_3 t12_4 t12_5 t12_6 t12_7 t12_8 t12_9 t12_10 t13_0 t13_1 t13_2 t13_3 t13_4 t13_5 t13_6 t13_7 t13_8 t13_9 t13_10 t13_11 t13_12 t13_13 t14_0 t15_0 t16_0 t17_0 p383 a352 y354 y355 y356 y357 y358 y359 y360 f361 f363 p413 f405 p537 = (F_NM_toFloat x2 x3 x4 x5 t0_0 t0_1 t0_2 t1_0 t1_1 t1_2 t1_3 t1_4 t1_5 t1_6 t2_0 t3_0 t4_0 t5_0 t6_0 t6_1 t6_2 t6_3 t6_4 t6_5 t6_6 t6_7 t6_8 t6_9 t6_10 t7_0 t8_0 t9_0 t10_0 t11_0 t12_0 t12_1 t12_2 t12_3 t12_4 t12_5 t12_6 t12_7 t12_8 t12_9 t12_10 t13_0 t13_1 t13_2 t13_3 t13_4 t13_5 t13_6 t13_7 t13_8 t13_9 t13_10 t13_11 t13_12 t13_13 t14_0 t15_0 t16_0 t17_0) from Eq.trans (by rw [e538, e416, e415, F_NM_toFloat_c121_6.eq_1, if_pos c424]) hR417)
        have hS557 := (show True ∧ S_NM_toFloat_c136_8 x2 x3 x4 x5 t0_0 t0_1 t0_2 t1_0 t1_1 t1_2 t1_3 t1_4 t1_5 t1_6 t2_0 t3_0 t4_0 t5_0 t6_0 t6_1 t6_2 t6_3 t6_4 t6_5 t6_6 t6_7 t6_8 t6_9 t6_10 t7_0 t8_0 t9_0 t10_0 t11_0 t12_0 t12_1 t12_2 t12_3 t12_4 t12_5 t12_6 t12_7 t12_8 t12_9 t12_10 t13_0 t13_1 t13_2 t13_3 t13_4 t13_5 t13_6 t13_7 t13_8 t13_9 t13_10 t13_11 t13_12 t13_13 t14_0 t15_0 t16_0 t17_0 p383 a352 y354 y355 y356 y357 y358 y359 y360 f361 f363 p413 f405 p537 from (by rw [e538, e416, e415]; have h := hS418; rw [S_NM_toFloat_c121_6.eq_1] at h; rw [if_pos c424] at h; replace h := q_s2 h; with_reducible exact h))
        refine lv_goto (tgt := 154) hx hb d_14_31_139 (by decide) ?_
        refine lv_lstore (lv' := [(5, .long j505), (7, .int a352), (0, .ref (q 116)), (1, .int x2), (2, .int x3), (3, .int x4), (4, .int x5)]) hx hb d_14_31_154 hl (by decide) rfl (fun ls hl => ?_)
        refine lv_aload_n hx hb d_14_31_156 rfl (lv_at hl 2 rfl) ?_
        refine q_get (ci := 12) (j := 8) (v := .ref (q 153)) C0 V i_NM rfl rfl hT0 (by decide) w_2306 rfl d_14_31_157 ?_
        refine lv_iconst (v := 0) hx hb d_14_31_160 (by decide) ?_
        refine q_putN (ci := 16) (j := 2) (v := .int 0) (ty := .int) C0 V i_TR o_TR n_TR rfl rfl hO506 (by decide) wo_2142 rfl rfl rfl rfl (Nat.le_of_ble_eq_true rfl) d_14_31_161 (fun H locs w561 hu562 hO506 V => ?_)
        replace hO506 : w561[153]? = (some (q 153, .inr (16, [.int y507, .ref (q 154), .int 0, .int y509, .int y510, .int y511, .ref (q 155), .int y512, .int y513, .long y514, .ref (q 156), .int y515, .int y516, .long y517, .long y518, .int y519, .int y520])) : Option (Nat × va_E)) := hO506
        replace hI := n_p153 hI hu562 hO506 ⟨(by have z9 : (0 : Int32).toInt = 0 := rfl; omega), (by have z9 : (0 : Int32).toInt = 0 := rfl; omega)⟩ ⟨(by first | with_reducible exact q_fe b529 | (have t1 : 0 ≤ y511.toInt := b529; omega)), (by first | with_reducible exact q_fe b530 | (have t1 : y511.toInt ≤ 1 := b530; omega))⟩ ⟨(by first | with_reducible exact q_fe b531 | (have t1 : 0 ≤ y520.toInt := b531; omega)), (by first | with_reducible exact q_fe b532 | (have t1 : y520.toInt ≤ 1 := b532; omega))⟩
        replace hT0 := (hu562 _ (by decide)).trans hT0
        replace hO353 := (hu562 _ (by decide)).trans hO353
        replace hA362 := (hu562 _ (by decide)).trans hA362
        replace hA364 := (hu562 _ (by decide)).trans hA364
        replace hT6 := (hu562 _ (by decide)).trans hT6
        replace hT11 := (hu562 _ (by decide)).trans hT11
        replace hT12 := (hu562 _ (by decide)).trans hT12
        replace hA406 := (hu562 _ (by decide)).trans hA406
        replace hA522 := (hu562 _ (by decide)).trans hA522
        replace hA524 := (hu562 _ (by decide)).trans hA524
        replace hT17 := (hu562 _ (by decide)).trans hT17
        replace hF := q_us hF hu562 (by simp)
        refine lv_aload_n hx hb d_14_31_164 rfl (lv_at hl 2 rfl) ?_
        refine lv_iload_n hx hb d_14_31_165 rfl (lv_at hl 5 rfl) ?_
        refine lv_iload hx hb d_14_31_166 (lv_at hl 6 rfl) ?_
        refine lv_lload hx hb d_14_31_168 (lv_at hl 0 rfl) ?_
        have ob563 : True ∧ S_NM_setBits x4 x5 j505 t0_0 t0_1 t0_2 t17_0 := (by rw [e539]; have h := hS557; rw [S_NM_toFloat_c136_8.eq_1] at h; with_reducible exact h.2.1)
        refine q_gov V (q_runV (As := [.int x4, .int x5, .long j505]) (rest := []) (d := 1) (mc := 0) (ms := 0) (ci := 12) C0 V rfl LV_NM_120 (X_NM_setBits l D g q w561  x4 x5 j505 hI t0_0 t0_1 t0_2 hT0 t17_0 hT17 ob563 _) rfl rfl hT0 rfl hl.1 rfl (Nat.le_of_ble_eq_true rfl) ⟨by decide, by decide⟩ ⟨Nat.le_of_ble_eq_true rfl, Nat.le_of_ble_eq_true rfl⟩ d_14_31_170) (fun u564 H locs hp565 V => ?_)
        obtain ⟨hI, hu569, f566, hA567, hE568⟩ := hp565
        replace hA567 : u564[167]? = (some (q 167, .inl (g 1, 20, .inr (.inl f566))) : Option (Nat × va_E)) := hA567
        have e570 : f566 = (F_NM_setBits x4 x5 j505 t0_0 t0_1 t0_2 t17_0) := hE568
        replace hO353 := (hu569 _ (by decide)).trans hO353
        replace hA362 := (hu569 _ (by decide)).trans hA362
        replace hA364 := (hu569 _ (by decide)).trans hA364
        replace hT6 := (hu569 _ (by decide)).trans hT6
        replace hT11 := (hu569 _ (by decide)).trans hT11
        replace hT12 := (hu569 _ (by decide)).trans hT12
        replace hO506 := (hu569 _ (by decide)).trans hO506
        replace hA406 := (hu569 _ (by decide)).trans hA406
        replace hA522 := (hu569 _ (by decide)).trans hA522
        replace hA524 := (hu569 _ (by decide)).trans hA524
        replace hF := q_uc hF hu569 (by simp)
        exact q_retv C0 V (⟨hI, hF, y354, y355, y356, y357, y358, y359, y360, f361, f363, t6_0, t6_1, t6_2, t6_3, t6_4, t6_5, t6_6, t6_7, t6_8, t6_9, t6_10, t11_0, t12_0, t12_1, t12_2, t12_3, t12_4, t12_5, t12_6, t12_7, t12_8, t12_9, t12_10, y507, 0, y509, y510, y511, y512, y513, y514, y515, y516, y517, y518, y519, y520, f405, f521, f523, f566, hO353, hA362, hA364, hT6, hT11, hT12, hO506, hA406, hA522, hA524, hA567, (show 0 ≤ y356.toInt from (by have z96 : (0 : Int32).toInt = 0 := rfl; have t1 : 0 ≤ t1_2.toInt ∧ t1_2.toInt ≤ 4100 := btt1_2; have t2 : t1_2.toInt ≤ y356.toInt := b371; omega)), (show y356.toInt ≤ 4100 from (by have z96 : (0 : Int32).toInt = 0 := rfl; have t1 : 0 ≤ t1_2.toInt ∧ t1_2.toInt ≤ 4100 := btt1_2; have t2 : y356.toInt ≤ t1_2.toInt := b372; omega)), (show 0 ≤ y357.toInt from (by have z96 : (0 : Int32).toInt = 0 := rfl; have t1 : 0 ≤ t1_3.toInt ∧ t1_3.toInt ≤ 1 := btt1_3; have t2 : t1_3.toInt ≤ y357.toInt := b373; omega)), (show y357.toInt ≤ 1 from (by have z96 : (0 : Int32).toInt = 0 := rfl; have t1 : 0 ≤ t1_3.toInt ∧ t1_3.toInt ≤ 1 := btt1_3; have t2 : y357.toInt ≤ t1_3.toInt := b374; omega)), (show 0 ≤ y358.toInt from (by have z96 : (0 : Int32).toInt = 0 := rfl; have t1 : 0 ≤ t1_4.toInt ∧ t1_4.toInt ≤ 1 := btt1_4; have t2 : t1_4.toInt ≤ y358.toInt := b375; omega)), (show y358.toInt ≤ 1 from (by have z96 : (0 : Int32).toInt = 0 := rfl; have t1 : 0 ≤ t1_4.toInt ∧ t1_4.toInt ≤ 1 := btt1_4; have t2 : y358.toInt ≤ t1_4.toInt := b376; omega)), (show 0 ≤ y359.toInt from (by have z96 : (0 : Int32).toInt = 0 := rfl; have t1 : 0 ≤ t1_5.toInt ∧ t1_5.toInt ≤ 1 := btt1_5; have t2 : t1_5.toInt ≤ y359.toInt := b377; omega)), (show y359.toInt ≤ 1 from (by have z96 : (0 : Int32).toInt = 0 := rfl; have t1 : 0 ≤ t1_5.toInt ∧ t1_5.toInt ≤ 1 := btt1_5; have t2 : y359.toInt ≤ t1_5.toInt := b378; omega)), (show 0 ≤ y360.toInt from (by have z96 : (0 : Int32).toInt = 0 := rfl; have t1 : 0 ≤ a352.toInt := b365; have t2 : a352.toInt ≤ y360.toInt := b380; omega)), (show y360.toInt ≤ 2100 from (by have z96 : (0 : Int32).toInt = 0 := rfl; have t1 : y360.toInt ≤ 2100 := b368; omega)), (show 0 ≤ t6_1.toInt from (by have z96 : (0 : Int32).toInt = 0 := rfl; have t1 : 0 ≤ t6_1.toInt ∧ t6_1.toInt ≤ 4100 := btt6_1; omega)), (show t6_1.toInt ≤ 4100 from (by have z96 : (0 : Int32).toInt = 0 := rfl; have t1 : 0 ≤ t6_1.toInt ∧ t6_1.toInt ≤ 4100 := btt6_1; omega)), (show 0 ≤ t6_4.toInt from (by have z96 : (0 : Int32).toInt = 0 := rfl; have t1 : 0 ≤ t6_4.toInt ∧ t6_4.toInt ≤ 1 := btt6_4; omega)), (show t6_4.toInt ≤ 1 from (by have z96 : (0 : Int32).toInt = 0 := rfl; have t1 : 0 ≤ t6_4.toInt ∧ t6_4.toInt ≤ 1 := btt6_4; omega)), (show 0 ≤ t6_5.toInt from (by have z96 : (0 : Int32).toInt = 0 := rfl; have t1 : 0 ≤ t6_5.toInt ∧ t6_5.toInt ≤ 1 := btt6_5; omega)), (show t6_5.toInt ≤ 1 from (by have z96 : (0 : Int32).toInt = 0 := rfl; have t1 : 0 ≤ t6_5.toInt ∧ t6_5.toInt ≤ 1 := btt6_5; omega)), (show 0 ≤ t6_9.toInt from (by have z96 : (0 : Int32).toInt = 0 := rfl; have t1 : 0 ≤ t6_9.toInt ∧ t6_9.toInt ≤ 12200 := btt6_9; omega)), (show t6_9.toInt ≤ 12200 from (by have z96 : (0 : Int32).toInt = 0 := rfl; have t1 : 0 ≤ t6_9.toInt ∧ t6_9.toInt ≤ 12200 := btt6_9; omega)), (show 0 ≤ t12_2.toInt from (by have z96 : (0 : Int32).toInt = 0 := rfl; have t1 : 0 ≤ t12_2.toInt ∧ t12_2.toInt ≤ 1 := btt12_2; omega)), (show t12_2.toInt ≤ 1 from (by have z96 : (0 : Int32).toInt = 0 := rfl; have t1 : 0 ≤ t12_2.toInt ∧ t12_2.toInt ≤ 1 := btt12_2; omega)), (show 0 ≤ (0 : Int32).toInt from (by have z96 : (0 : Int32).toInt = 0 := rfl; omega)), (show (0 : Int32).toInt ≤ 4100 from (by have z96 : (0 : Int32).toInt = 0 := rfl; omega)), (show 0 ≤ y511.toInt from (by have z96 : (0 : Int32).toInt = 0 := rfl; have t1 : 0 ≤ y511.toInt := b529; omega)), (show y511.toInt ≤ 1 from (by have z96 : (0 : Int32).toInt = 0 := rfl; have t1 : y511.toInt ≤ 1 := b530; omega)), (show 0 ≤ y520.toInt from (by have z96 : (0 : Int32).toInt = 0 := rfl; have t1 : 0 ≤ y520.toInt := b531; omega)), (show y520.toInt ≤ 1 from (by have z96 : (0 : Int32).toInt = 0 := rfl; have t1 : y520.toInt ≤ 1 := b532; omega)), (show t1_1.toInt ≤ y355.toInt from (by have z96 : (0 : Int32).toInt = 0 := rfl; have t1 : t1_1.toInt ≤ y355.toInt := b369; omega)), (show y355.toInt ≤ t1_1.toInt from (by have z96 : (0 : Int32).toInt = 0 := rfl; have t1 : y355.toInt ≤ t1_1.toInt := b370; omega)), (show t1_2.toInt ≤ y356.toInt from (by have z96 : (0 : Int32).toInt = 0 := rfl; have t1 : t1_2.toInt ≤ y356.toInt := b371; omega)), (show y356.toInt ≤ t1_2.toInt from (by have z96 : (0 : Int32).toInt = 0 := rfl; have t1 : y356.toInt ≤ t1_2.toInt := b372; omega)), (show t1_3.toInt ≤ y357.toInt from (by have z96 : (0 : Int32).toInt = 0 := rfl; have t1 : t1_3.toInt ≤ y357.toInt := b373; omega)), (show y357.toInt ≤ t1_3.toInt from (by have z96 : (0 : Int32).toInt = 0 := rfl; have t1 : y357.toInt ≤ t1_3.toInt := b374; omega)), (show t1_4.toInt ≤ y358.toInt from (by have z96 : (0 : Int32).toInt = 0 := rfl; have t1 : t1_4.toInt ≤ y358.toInt := b375; omega)), (show y358.toInt ≤ t1_4.toInt from (by have z96 : (0 : Int32).toInt = 0 := rfl; have t1 : y358.toInt ≤ t1_4.toInt := b376; omega)), (show t1_5.toInt ≤ y359.toInt from (by have z96 : (0 : Int32).toInt = 0 := rfl; have t1 : t1_5.toInt ≤ y359.toInt := b377; omega)), (show y359.toInt ≤ t1_5.toInt from (by have z96 : (0 : Int32).toInt = 0 := rfl; have t1 : y359.toInt ≤ t1_5.toInt := b378; omega)), (show t1_6.toInt ≤ y360.toInt + 2099 from (by have z96 : (0 : Int32).toInt = 0 := rfl; have t1 : t1_6.toInt ≤ y360.toInt + 2099 := b379; omega)), (show t6_1.toInt ≤ t6_1.toInt from (by have z96 : (0 : Int32).toInt = 0 := rfl; omega)), (show t6_1.toInt ≤ t6_1.toInt from (by have z96 : (0 : Int32).toInt = 0 := rfl; omega)), (show t6_2.toInt ≤ t6_2.toInt from (by have z96 : (0 : Int32).toInt = 0 := rfl; omega)), (show t6_2.toInt ≤ t6_2.toInt from (by have z96 : (0 : Int32).toInt = 0 := rfl; omega)), (show t6_3.toInt ≤ t6_3.toInt from (by have z96 : (0 : Int32).toInt = 0 := rfl; omega)), (show t6_3.toInt ≤ t6_3.toInt from (by have z96 : (0 : Int32).toInt = 0 := rfl; omega)), (show t6_4.toInt ≤ t6_4.toInt from (by have z96 : (0 : Int32).toInt = 0 := rfl; omega)), (show t6_4.toInt ≤ t6_4.toInt from (by have z96 : (0 : Int32).toInt = 0 := rfl; omega)), (show t6_5.toInt ≤ t6_5.toInt from (by have z96 : (0 : Int32).toInt = 0 := rfl; omega)), (show t6_5.toInt ≤ t6_5.toInt from (by have z96 : (0 : Int32).toInt = 0 := rfl; omega)), (show t6_6.toInt ≤ t6_6.toInt from (by have z96 : (0 : Int32).toInt = 0 := rfl; omega)), (show t6_6.toInt ≤ t6_6.toInt from (by have z96 : (0 : Int32).toInt = 0 := rfl; omega)), (show t6_7.toInt ≤ t6_7.toInt from (by have z96 : (0 : Int32).toInt = 0 := rfl; omega)), (show t6_7.toInt ≤ t6_7.toInt from (by have z96 : (0 : Int32).toInt = 0 := rfl; omega)), (show t6_8.toInt ≤ t6_8.toInt from (by have z96 : (0 : Int32).toInt = 0 := rfl; omega)), (show t6_8.toInt ≤ t6_8.toInt from (by have z96 : (0 : Int32).toInt = 0 := rfl; omega)), (show t6_10.toInt ≤ t6_10.toInt from (by have z96 : (0 : Int32).toInt = 0 := rfl; omega)), (show t6_10.toInt ≤ t6_10.toInt from (by have z96 : (0 : Int32).toInt = 0 := rfl; omega)), (show t12_1.toInt ≤ t12_1.toInt from (by have z96 : (0 : Int32).toInt = 0 := rfl; omega)), (show t12_1.toInt ≤ t12_1.toInt from (by have z96 : (0 : Int32).toInt = 0 := rfl; omega)), (show t12_9.toInt ≤ t12_9.toInt from (by have z96 : (0 : Int32).toInt = 0 := rfl; omega)), (show t12_9.toInt ≤ t12_9.toInt from (by have z96 : (0 : Int32).toInt = 0 := rfl; omega)), (show t12_10.toInt ≤ t12_10.toInt from (by have z96 : (0 : Int32).toInt = 0 := rfl; omega)), (show t12_10.toInt ≤ t12_10.toInt from (by have z96 : (0 : Int32).toInt = 0 := rfl; omega)), (show (0 : Int32).toInt ≤ t13_1.toInt from (by have z96 : (0 : Int32).toInt = 0 := rfl; have t1 : 0 ≤ t13_1.toInt ∧ t13_1.toInt ≤ 4100 := btt13_1; omega)), (show (y354, y355, y356, y357, y358, y359, y360, f361, f363, t6_0, t6_1, t6_2, t6_3, t6_4, t6_5, t6_6, t6_7, t6_8, t6_9, t6_10, t11_0, t12_0, t12_1, t12_2, t12_3, t12_4, t12_5, t12_6, t12_7, t12_8, t12_9, t12_10, y507, (0 : Int32), y509, y510, y511, y512, y513, y514, y515, y516, y517, y518, y519, y520, f405, f521, f523, f566) = (F_NM_toFloat x2 x3 x4 x5 t0_0 t0_1 t0_2 t1_0 t1_1 t1_2 t1_3 t1_4 t1_5 t1_6 t2_0 t3_0 t4_0 t5_0 t6_0 t6_1 t6_2 t6_3 t6_4 t6_5 t6_6 t6_7 t6_8 t6_9 t6_10 t7_0 t8_0 t9_0 t10_0 t11_0 t12_0 t12_1 t12_2 t12_3 t12_4 t12_5 t12_6 t12_7 t12_8 t12_9 t12_10 t13_0 t13_1 t13_2 t13_3 t13_4 t13_5 t13_6 t13_7 t13_8 t13_9 t13_10 t13_11 t13_12 t13_13 t14_0 t15_0 t16_0 t17_0) from Eq.trans (by rw [e570, e555, e554, e553, e552, e551, e550, e549, e548, e547, e546, e545, e544, e543, e542, e540, e539, F_NM_toFloat_c136_8.eq_1]) hR556)⟩) d_14_31_173
  ·
    refine lv_aload_n hx hb d_14_31_10 rfl (lv_at hl 1 rfl) ?_
    refine lv_iload_n hx hb d_14_31_11 rfl (lv_at hl 2 rfl) ?_
    refine lv_iload_n hx hb d_14_31_12 rfl (lv_at hl 3 rfl) ?_
    have ob572 : True ∧ S_NM_bitsOf x2 x3 t0_0 t0_1 t0_2 t17_0 := (by have h := hS; rw [S_NM_toFloat.eq_1] at h; have c112x := c112; rw [e111] at c112x; rw [if_neg c112x] at h; with_reducible exact h.2.1)
    refine q_gol V (q_runV (As := [.int x2, .int x3]) (rest := []) (d := 1) (mc := 0) (ms := 0) (ci := 12) C0 V rfl LV_NM_138 (X_NM_bitsOf l D g q ws  x2 x3 hI t0_0 t0_1 t0_2 hT0 t17_0 hT17 ob572 _) rfl rfl hT0 rfl hl.1 rfl (Nat.le_of_ble_eq_true rfl) ⟨by decide, by decide⟩ ⟨Nat.le_of_ble_eq_true rfl, Nat.le_of_ble_eq_true rfl⟩ d_14_31_13) (fun j575 u573 H locs hp574 V => ?_)
    obtain ⟨rfl, hE576⟩ := hp574
    have e577 : j575 = (F_NM_bitsOf x2 x3 t0_0 t0_1 t0_2 t17_0) := hE576
    refine lv_lstore (lv' := [(5, .long j575), (0, .ref (q 116)), (1, .int x2), (2, .int x3), (3, .int x4), (4, .int x5)]) hx hb d_14_31_16 hl (by decide) rfl (fun ls hl => ?_)
    refine lv_iload_n hx hb d_14_31_18 rfl (lv_at hl 2 rfl) ?_
    refine lv_iload_n hx hb d_14_31_19 rfl (lv_at hl 4 rfl) ?_
    refine lv_icmp_ne (tgt := 28) hx hb d_14_31_20 (by decide) (fun c578 => ?_) (fun c578 => ?_)
    ·
      refine lv_iload_n hx hb d_14_31_28 rfl (lv_at hl 2 rfl) ?_
      refine lv_iconst (v := 2) hx hb d_14_31_29 (by decide) ?_
      refine lv_icmp_ne (tgt := 45) hx hb d_14_31_30 (by decide) (fun c580 => ?_) (fun c580 => ?_)
      ·
        refine lv_aload_n hx hb d_14_31_45 rfl (lv_at hl 1 rfl) ?_
        refine q_get (ci := 12) (j := 7) (v := .ref (q 145)) C0 V i_NM rfl rfl hT0 (by decide) w_2305 rfl d_14_31_46 ?_
        refine lv_lload hx hb d_14_31_49 (lv_at hl 0 rfl) ?_
        have ob582 : True ∧ S_FR_widened j575 t12_0 t12_1 t12_2 t12_3 t12_4 t12_5 t12_6 t12_7 t12_8 t12_9 t12_10 := (by rw [e577]; have h := hS; rw [S_NM_toFloat.eq_1] at h; have c112x := c112; rw [e111] at c112x; rw [if_neg c112x] at h; replace h := q_s2 h; rw [if_neg c578] at h; rw [if_neg c580] at h; with_reducible exact h.2.1)
        refine q_gol V (q_runV (As := [.long j575]) (rest := []) (d := 2) (mc := 0) (ms := 0) (ci := 15) C0 V rfl LV_NM_257 (X_FR_widened l D g q ws  j575 hI t12_0 t12_1 t12_2 t12_3 t12_4 t12_5 t12_6 t12_7 t12_8 t12_9 t12_10 hT12 ob582 _) rfl rfl hT12 rfl hl.1 rfl (Nat.le_of_ble_eq_true rfl) ⟨by decide, by decide⟩ ⟨Nat.le_of_ble_eq_true rfl, Nat.le_of_ble_eq_true rfl⟩ d_14_31_51) (fun j585 u583 H locs hp584 V => ?_)
        obtain ⟨hI, hZ9⟩ := hp584
        obtain ⟨hu609, hZ9⟩ := hZ9
        obtain ⟨y587, hZ9⟩ := hZ9
        obtain ⟨y588, hZ9⟩ := hZ9
        obtain ⟨y589, hZ9⟩ := hZ9
        obtain ⟨y590, hZ9⟩ := hZ9
        obtain ⟨y591, hZ9⟩ := hZ9
        obtain ⟨y592, hZ9⟩ := hZ9
        obtain ⟨y593, hZ9⟩ := hZ9
        obtain ⟨y594, hZ9⟩ := hZ9
        obtain ⟨y595, hZ9⟩ := hZ9
        obtain ⟨y596, hZ9⟩ := hZ9
        obtain ⟨y597, hZ9⟩ := hZ9
        obtain ⟨hO586, hZ9⟩ := hZ9
        replace hZ9 := hZ9.2.2
        obtain ⟨b600, hZ9⟩ := hZ9
        obtain ⟨b601, hZ9⟩ := hZ9
        obtain ⟨b602, hZ9⟩ := hZ9
        obtain ⟨b603, hZ9⟩ := hZ9
        obtain ⟨b604, hZ9⟩ := hZ9
        obtain ⟨b605, hZ9⟩ := hZ9
        obtain ⟨b606, hZ9⟩ := hZ9
        obtain ⟨b607, hE608⟩ := hZ9
        replace hO586 : u583[145]? = (some (q 145, .inr (15, [.int y587, .ref (q 146), .ref (q 147), .ref (q 148), .ref (q 149), .ref (q 150), .ref (q 151), .ref (q 152), .int y588, .int y589, .int y590, .long y591, .int y592, .int y593, .long y594, .int y595, .long y596, .int y597])) : Option (Nat × va_E)) := hO586
        obtain ⟨p610, e611⟩ : ∃ z, z = (F_FR_widened j575 t12_0 t12_1 t12_2 t12_3 t12_4 t12_5 t12_6 t12_7 t12_8 t12_9 t12_10) := ⟨_, rfl⟩
        have e612 : j585 = p610.1 := congrArg (fun z => z.1) (hE608.trans e611.symm)
        have e613 : y587 = p610.2.1 := congrArg (fun z => z.2.1) (hE608.trans e611.symm)
        have e614 : y588 = p610.2.2.1 := congrArg (fun z => z.2.2.1) (hE608.trans e611.symm)
        have e615 : y589 = p610.2.2.2.1 := congrArg (fun z => z.2.2.2.1) (hE608.trans e611.symm)
        have e616 : y590 = p610.2.2.2.2.1 := congrArg (fun z => z.2.2.2.2.1) (hE608.trans e611.symm)
        have e617 : y591 = p610.2.2.2.2.2.1 := congrArg (fun z => z.2.2.2.2.2.1) (hE608.trans e611.symm)
        have e618 : y592 = p610.2.2.2.2.2.2.1 := congrArg (fun z => z.2.2.2.2.2.2.1) (hE608.trans e611.symm)
        have e619 : y593 = p610.2.2.2.2.2.2.2.1 := congrArg (fun z => z.2.2.2.2.2.2.2.1) (hE608.trans e611.symm)
        have e620 : y594 = p610.2.2.2.2.2.2.2.2.1 := congrArg (fun z => z.2.2.2.2.2.2.2.2.1) (hE608.trans e611.symm)
        have e621 : y595 = p610.2.2.2.2.2.2.2.2.2.1 := congrArg (fun z => z.2.2.2.2.2.2.2.2.2.1) (hE608.trans e611.symm)
        have e622 : y596 = p610.2.2.2.2.2.2.2.2.2.2.1 := congrArg (fun z => z.2.2.2.2.2.2.2.2.2.2.1) (hE608.trans e611.symm)
        have e623 : y597 = p610.2.2.2.2.2.2.2.2.2.2.2 := congrArg (fun z => z.2.2.2.2.2.2.2.2.2.2.2) (hE608.trans e611.symm)
        replace b600 : q_F (0 ≤ y589.toInt) := b600
        replace b601 : q_F (y589.toInt ≤ 1) := b601
        replace b602 : q_F (t12_1.toInt ≤ y588.toInt) := b602
        replace b603 : q_F (y588.toInt ≤ t12_1.toInt) := b603
        replace b604 : q_F (t12_9.toInt ≤ y596.toInt) := b604
        replace b605 : q_F (y596.toInt ≤ t12_9.toInt) := b605
        replace b606 : q_F (t12_10.toInt ≤ y597.toInt) := b606
        replace b607 : q_F (y597.toInt ≤ t12_10.toInt) := b607
        replace hT0 := (hu609 _ (by decide)).trans hT0
        replace hT1 := (hu609 _ (by decide)).trans hT1
        replace hT4 := (hu609 _ (by decide)).trans hT4
        replace hT5 := (hu609 _ (by decide)).trans hT5
        replace hT6 := (hu609 _ (by decide)).trans hT6
        replace hT11 := (hu609 _ (by decide)).trans hT11
        replace hT13 := (hu609 _ (by decide)).trans hT13
        replace hT14 := (hu609 _ (by decide)).trans hT14
        replace hT15 := (hu609 _ (by decide)).trans hT15
        replace hT16 := (hu609 _ (by decide)).trans hT16
        replace hT17 := (hu609 _ (by decide)).trans hT17
        replace hF := q_uc hF hu609 (by simp)
        have hR624 := (show F_NM_toFloat_c51 x2 x3 x4 x5 t0_0 t0_1 t0_2 t1_0 t1_1 t1_2 t1_3 t1_4 t1_5 t1_6 t2_0 t3_0 t4_0 t5_0 t6_0 t6_1 t6_2 t6_3 t6_4 t6_5 t6_6 t6_7 t6_8 t6_9 t6_10 t7_0 t8_0 t9_0 t10_0 t11_0 t12_0 t12_1 t12_2 t12_3 t12_4 t12_5 t12_6 t12_7 t12_8 t12_9 t12_10 t13_0 t13_1 t13_2 t13_3 t13_4 t13_5 t13_6 t13_7 t13_8 t13_9 t13_10 t13_11 t13_12 t13_13 t14_0 t15_0 t16_0 t17_0 j575 p610 = (F_NM_toFloat x2 x3 x4 x5 t0_0 t0_1 t0_2 t1_0 t1_1 t1_2 t1_3 t1_4 t1_5 t1_6 t2_0 t3_0 t4_0 t5_0 t6_0 t6_1 t6_2 t6_3 t6_4 t6_5 t6_6 t6_7 t6_8 t6_9 t6_10 t7_0 t8_0 t9_0 t10_0 t11_0 t12_0 t12_1 t12_2 t12_3 t12_4 t12_5 t12_6 t12_7 t12_8 t12_9 t12_10 t13_0 t13_1 t13_2 t13_3 t13_4 t13_5 t13_6 t13_7 t13_8 t13_9 t13_10 t13_11 t13_12 t13_13 t14_0 t15_0 t16_0 t17_0) from (by have c112x := c112; rw [e111] at c112x; rw [e611, e577, F_NM_toFloat.eq_1, if_neg c112x, if_neg c578, if_neg c580]))
        have hS625 := (show True ∧ S_NM_toFloat_c51 x2 x3 x4 x5 t0_0 t0_1 t0_2 t1_0 t1_1 t1_2 t1_3 t1_4 t1_5 t1_6 t2_0 t3_0 t4_0 t5_0 t6_0 t6_1 t6_2 t6_3 t6_4 t6_5 t6_6 t6_7 t6_8 t6_9 t6_10 t7_0 t8_0 t9_0 t10_0 t11_0 t12_0 t12_1 t12_2 t12_3 t12_4 t12_5 t12_6 t12_7 t12_8 t12_9 t12_10 t13_0 t13_1 t13_2 t13_3 t13_4 t13_5 t13_6 t13_7 t13_8 t13_9 t13_10 t13_11 t13_12 t13_13 t14_0 t15_0 t16_0 t17_0 j575 p610 from (by rw [e611, e577]; have h := hS; rw [S_NM_toFloat.eq_1] at h; have c112x := c112; rw [e111] at c112x; rw [if_neg c112x] at h; replace h := q_s2 h; rw [if_neg c578] at h; rw [if_neg c580] at h; replace h := q_s2 h; with_reducible exact h))
        refine lv_lstore (lv' := [(5, .long j585), (0, .ref (q 116)), (1, .int x2), (2, .int x3), (3, .int x4), (4, .int x5)]) hx hb d_14_31_54 hl (by decide) rfl (fun ls hl => ?_)
        refine lv_goto (tgt := 164) hx hb d_14_31_56 (by decide) ?_
        refine lv_aload_n hx hb d_14_31_164 rfl (lv_at hl 1 rfl) ?_
        refine lv_iload_n hx hb d_14_31_165 rfl (lv_at hl 4 rfl) ?_
        refine lv_iload hx hb d_14_31_166 (lv_at hl 5 rfl) ?_
        refine lv_lload hx hb d_14_31_168 (lv_at hl 0 rfl) ?_
        have ob629 : True ∧ S_NM_setBits x4 x5 j585 t0_0 t0_1 t0_2 t17_0 := (by rw [e612]; have h := hS625; rw [S_NM_toFloat_c51.eq_1] at h; with_reducible exact h.2.1)
        refine q_gov V (q_runV (As := [.int x4, .int x5, .long j585]) (rest := []) (d := 1) (mc := 0) (ms := 0) (ci := 12) C0 V rfl LV_NM_120 (X_NM_setBits l D g q u583  x4 x5 j585 hI t0_0 t0_1 t0_2 hT0 t17_0 hT17 ob629 _) rfl rfl hT0 rfl hl.1 rfl (Nat.le_of_ble_eq_true rfl) ⟨by decide, by decide⟩ ⟨Nat.le_of_ble_eq_true rfl, Nat.le_of_ble_eq_true rfl⟩ d_14_31_170) (fun u630 H locs hp631 V => ?_)
        obtain ⟨hI, hu635, f632, hA633, hE634⟩ := hp631
        replace hA633 : u630[167]? = (some (q 167, .inl (g 1, 20, .inr (.inl f632))) : Option (Nat × va_E)) := hA633
        have e636 : f632 = (F_NM_setBits x4 x5 j585 t0_0 t0_1 t0_2 t17_0) := hE634
        replace hT1 := (hu635 _ (by decide)).trans hT1
        replace hT4 := (hu635 _ (by decide)).trans hT4
        replace hT5 := (hu635 _ (by decide)).trans hT5
        replace hT6 := (hu635 _ (by decide)).trans hT6
        replace hT11 := (hu635 _ (by decide)).trans hT11
        replace hO586 := (hu635 _ (by decide)).trans hO586
        replace hT13 := (hu635 _ (by decide)).trans hT13
        replace hT14 := (hu635 _ (by decide)).trans hT14
        replace hT15 := (hu635 _ (by decide)).trans hT15
        replace hT16 := (hu635 _ (by decide)).trans hT16
        replace hF := q_uc hF hu635 (by simp)
        exact q_retv C0 V (⟨hI, hF, t1_0, t1_1, t1_2, t1_3, t1_4, t1_5, t1_6, t4_0, t5_0, t6_0, t6_1, t6_2, t6_3, t6_4, t6_5, t6_6, t6_7, t6_8, t6_9, t6_10, t11_0, y587, y588, y589, y590, y591, y592, y593, y594, y595, y596, y597, t13_0, t13_1, t13_2, t13_3, t13_4, t13_5, t13_6, t13_7, t13_8, t13_9, t13_10, t13_11, t13_12, t13_13, t14_0, t15_0, t16_0, f632, hT1, hT4, hT5, hT6, hT11, hO586, hT13, hT14, hT15, hT16, hA633, (show 0 ≤ t1_2.toInt from (by first | with_reducible exact (q_fe btt1_2).2 | with_reducible exact (q_fe btt1_2).1 | (have t1 : 0 ≤ t1_2.toInt ∧ t1_2.toInt ≤ 4100 := btt1_2; omega))), (show t1_2.toInt ≤ 4100 from (by first | with_reducible exact (q_fe btt1_2).2 | with_reducible exact (q_fe btt1_2).1 | (have t1 : 0 ≤ t1_2.toInt ∧ t1_2.toInt ≤ 4100 := btt1_2; omega))), (show 0 ≤ t1_3.toInt from (by first | with_reducible exact (q_fe btt1_3).2 | with_reducible exact (q_fe btt1_3).1 | (have t1 : 0 ≤ t1_3.toInt ∧ t1_3.toInt ≤ 1 := btt1_3; omega))), (show t1_3.toInt ≤ 1 from (by first | with_reducible exact (q_fe btt1_3).2 | with_reducible exact (q_fe btt1_3).1 | (have t1 : 0 ≤ t1_3.toInt ∧ t1_3.toInt ≤ 1 := btt1_3; omega))), (show 0 ≤ t1_4.toInt from (by first | with_reducible exact (q_fe btt1_4).2 | with_reducible exact (q_fe btt1_4).1 | (have t1 : 0 ≤ t1_4.toInt ∧ t1_4.toInt ≤ 1 := btt1_4; omega))), (show t1_4.toInt ≤ 1 from (by first | with_reducible exact (q_fe btt1_4).2 | with_reducible exact (q_fe btt1_4).1 | (have t1 : 0 ≤ t1_4.toInt ∧ t1_4.toInt ≤ 1 := btt1_4; omega))), (show 0 ≤ t1_5.toInt from (by first | with_reducible exact (q_fe btt1_5).2 | with_reducible exact (q_fe btt1_5).1 | (have t1 : 0 ≤ t1_5.toInt ∧ t1_5.toInt ≤ 1 := btt1_5; omega))), (show t1_5.toInt ≤ 1 from (by first | with_reducible exact (q_fe btt1_5).2 | with_reducible exact (q_fe btt1_5).1 | (have t1 : 0 ≤ t1_5.toInt ∧ t1_5.toInt ≤ 1 := btt1_5; omega))), (show 0 ≤ t1_6.toInt from (by first | with_reducible exact (q_fe btt1_6).2 | with_reducible exact (q_fe btt1_6).1 | (have t1 : 0 ≤ t1_6.toInt ∧ t1_6.toInt ≤ 2100 := btt1_6; omega))), (show t1_6.toInt ≤ 2100 from (by first | with_reducible exact (q_fe btt1_6).2 | with_reducible exact (q_fe btt1_6).1 | (have t1 : 0 ≤ t1_6.toInt ∧ t1_6.toInt ≤ 2100 := btt1_6; omega))), (show 0 ≤ t6_1.toInt from (by first | with_reducible exact (q_fe btt6_1).2 | with_reducible exact (q_fe btt6_1).1 | (have t1 : 0 ≤ t6_1.toInt ∧ t6_1.toInt ≤ 4100 := btt6_1; omega))), (show t6_1.toInt ≤ 4100 from (by first | with_reducible exact (q_fe btt6_1).2 | with_reducible exact (q_fe btt6_1).1 | (have t1 : 0 ≤ t6_1.toInt ∧ t6_1.toInt ≤ 4100 := btt6_1; omega))), (show 0 ≤ t6_4.toInt from (by first | with_reducible exact (q_fe btt6_4).2 | with_reducible exact (q_fe btt6_4).1 | (have t1 : 0 ≤ t6_4.toInt ∧ t6_4.toInt ≤ 1 := btt6_4; omega))), (show t6_4.toInt ≤ 1 from (by first | with_reducible exact (q_fe btt6_4).2 | with_reducible exact (q_fe btt6_4).1 | (have t1 : 0 ≤ t6_4.toInt ∧ t6_4.toInt ≤ 1 := btt6_4; omega))), (show 0 ≤ t6_5.toInt from (by first | with_reducible exact (q_fe btt6_5).2 | with_reducible exact (q_fe btt6_5).1 | (have t1 : 0 ≤ t6_5.toInt ∧ t6_5.toInt ≤ 1 := btt6_5; omega))), (show t6_5.toInt ≤ 1 from (by first | with_reducible exact (q_fe btt6_5).2 | with_reducible exact (q_fe btt6_5).1 | (have t1 : 0 ≤ t6_5.toInt ∧ t6_5.toInt ≤ 1 := btt6_5; omega))), (show 0 ≤ t6_9.toInt from (by first | with_reducible exact (q_fe btt6_9).2 | with_reducible exact (q_fe btt6_9).1 | (have t1 : 0 ≤ t6_9.toInt ∧ t6_9.toInt ≤ 12200 := btt6_9; omega))), (show t6_9.toInt ≤ 12200 from (by first | with_reducible exact (q_fe btt6_9).2 | with_reducible exact (q_fe btt6_9).1 | (have t1 : 0 ≤ t6_9.toInt ∧ t6_9.toInt ≤ 12200 := btt6_9; omega))), (show 0 ≤ y589.toInt from (by first | with_reducible exact q_fe b600 | (have t1 : 0 ≤ y589.toInt := b600; omega))), (show y589.toInt ≤ 1 from (by first | with_reducible exact q_fe b601 | (have t1 : y589.toInt ≤ 1 := b601; omega))), (show 0 ≤ t13_1.toInt from (by first | with_reducible exact (q_fe btt13_1).2 | with_reducible exact (q_fe btt13_1).1 | (have t1 : 0 ≤ t13_1.toInt ∧ t13_1.toInt ≤ 4100 := btt13_1; omega))), (show t13_1.toInt ≤ 4100 from (by first | with_reducible exact (q_fe btt13_1).2 | with_reducible exact (q_fe btt13_1).1 | (have t1 : 0 ≤ t13_1.toInt ∧ t13_1.toInt ≤ 4100 := btt13_1; omega))), (show 0 ≤ t13_4.toInt from (by first | with_reducible exact (q_fe btt13_4).2 | with_reducible exact (q_fe btt13_4).1 | (have t1 : 0 ≤ t13_4.toInt ∧ t13_4.toInt ≤ 1 := btt13_4; omega))), (show t13_4.toInt ≤ 1 from (by first | with_reducible exact (q_fe btt13_4).2 | with_reducible exact (q_fe btt13_4).1 | (have t1 : 0 ≤ t13_4.toInt ∧ t13_4.toInt ≤ 1 := btt13_4; omega))), (show 0 ≤ t13_13.toInt from (by first | with_reducible exact (q_fe btt13_13).2 | with_reducible exact (q_fe btt13_13).1 | (have t1 : 0 ≤ t13_13.toInt ∧ t13_13.toInt ≤ 1 := btt13_13; omega))), (show t13_13.toInt ≤ 1 from (by first | with_reducible exact (q_fe btt13_13).2 | with_reducible exact (q_fe btt13_13).1 | (have t1 : 0 ≤ t13_13.toInt ∧ t13_13.toInt ≤ 1 := btt13_13; omega))), (show t1_1.toInt ≤ t1_1.toInt from (by omega)), (show t1_1.toInt ≤ t1_1.toInt from (by omega)), (show t1_2.toInt ≤ t1_2.toInt from (by omega)), (show t1_2.toInt ≤ t1_2.toInt from (by omega)), (show t1_3.toInt ≤ t1_3.toInt from (by omega)), (show t1_3.toInt ≤ t1_3.toInt from (by omega)), (show t1_4.toInt ≤ t1_4.toInt from (by omega)), (show t1_4.toInt ≤ t1_4.toInt from (by omega)), (show t1_5.toInt ≤ t1_5.toInt from (by omega)), (show t1_5.toInt ≤ t1_5.toInt from (by omega)), (show t1_6.toInt ≤ t1_6.toInt + 2099 from (by omega)), (show t6_1.toInt ≤ t6_1.toInt from (by omega)), (show t6_1.toInt ≤ t6_1.toInt from (by omega)), (show t6_2.toInt ≤ t6_2.toInt from (by omega)), (show t6_2.toInt ≤ t6_2.toInt from (by omega)), (show t6_3.toInt ≤ t6_3.toInt from (by omega)), (show t6_3.toInt ≤ t6_3.toInt from (by omega)), (show t6_4.toInt ≤ t6_4.toInt from (by omega)), (show t6_4.toInt ≤ t6_4.toInt from (by omega)), (show t6_5.toInt ≤ t6_5.toInt from (by omega)), (show t6_5.toInt ≤ t6_5.toInt from (by omega)), (show t6_6.toInt ≤ t6_6.toInt from (by omega)), (show t6_6.toInt ≤ t6_6.toInt from (by omega)), (show t6_7.toInt ≤ t6_7.toInt from (by omega)), (show t6_7.toInt ≤ t6_7.toInt from (by omega)), (show t6_8.toInt ≤ t6_8.toInt from (by omega)), (show t6_8.toInt ≤ t6_8.toInt from (by omega)), (show t6_10.toInt ≤ t6_10.toInt from (by omega)), (show t6_10.toInt ≤ t6_10.toInt from (by omega)), (show t12_1.toInt ≤ y588.toInt from (by first | with_reducible exact q_fe b602 | (have t1 : t12_1.toInt ≤ y588.toInt := b602; omega))), (show y588.toInt ≤ t12_1.toInt from (by first | with_reducible exact q_fe b603 | (have t1 : y588.toInt ≤ t12_1.toInt := b603; omega))), (show t12_9.toInt ≤ y596.toInt from (by first | with_reducible exact q_fe b604 | (have t1 : t12_9.toInt ≤ y596.toInt := b604; omega))), (show y596.toInt ≤ t12_9.toInt from (by first | with_reducible exact q_fe b605 | (have t1 : y596.toInt ≤ t12_9.toInt := b605; omega))), (show t12_10.toInt ≤ y597.toInt from (by first | with_reducible exact q_fe b606 | (have t1 : t12_10.toInt ≤ y597.toInt := b606; omega))), (show y597.toInt ≤ t12_10.toInt from (by first | with_reducible exact q_fe b607 | (have t1 : y597.toInt ≤ t12_10.toInt := b607; omega))), (show t13_1.toInt ≤ t13_1.toInt from (by omega)), (show (t1_0, t1_1, t1_2, t1_3, t1_4, t1_5, t1_6, t4_0, t5_0, t6_0, t6_1, t6_2, t6_3, t6_4, t6_5, t6_6, t6_7, t6_8, t6_9, t6_10, t11_0, y587, y588, y589, y590, y591, y592, y593, y594, y595, y596, y597, t13_0, t13_1, t13_2, t13_3, t13_4, t13_5, t13_6, t13_7, t13_8, t13_9, t13_10, t13_11, t13_12, t13_13, t14_0, t15_0, t16_0, f632) = (F_NM_toFloat x2 x3 x4 x5 t0_0 t0_1 t0_2 t1_0 t1_1 t1_2 t1_3 t1_4 t1_5 t1_6 t2_0 t3_0 t4_0 t5_0 t6_0 t6_1 t6_2 t6_3 t6_4 t6_5 t6_6 t6_7 t6_8 t6_9 t6_10 t7_0 t8_0 t9_0 t10_0 t11_0 t12_0 t12_1 t12_2 t12_3 t12_4 t12_5 t12_6 t12_7 t12_8 t12_9 t12_10 t13_0 t13_1 t13_2 t13_3 t13_4 t13_5 t13_6 t13_7 t13_8 t13_9 t13_10 t13_11 t13_12 t13_13 t14_0 t15_0 t16_0 t17_0) from Eq.trans (by rw [e636, e623, e622, e621, e620, e619, e618, e617, e616, e615, e614, e613, e612, F_NM_toFloat_c51.eq_1]) hR624)⟩) d_14_31_173
      ·
        refine lv_aload_n hx hb d_14_31_33 rfl (lv_at hl 1 rfl) ?_
        refine q_get (ci := 12) (j := 7) (v := .ref (q 145)) C0 V i_NM rfl rfl hT0 (by decide) w_2305 rfl d_14_31_34 ?_
        refine lv_lload hx hb d_14_31_37 (lv_at hl 0 rfl) ?_
        have ob638 : True ∧ S_FR_narrowed j575 t12_0 t12_1 t12_2 t12_3 t12_4 t12_5 t12_6 t12_7 t12_8 t12_9 t12_10 := (by rw [e577]; have h := hS; rw [S_NM_toFloat.eq_1] at h; have c112x := c112; rw [e111] at c112x; rw [if_neg c112x] at h; replace h := q_s2 h; rw [if_neg c578] at h; rw [if_pos c580] at h; with_reducible exact h.2.1)
        refine q_gol V (q_runV (As := [.long j575]) (rest := []) (d := 2) (mc := 0) (ms := 0) (ci := 15) C0 V rfl LV_NM_253 (X_FR_narrowed l D g q ws  j575 hI t12_0 t12_1 t12_2 t12_3 t12_4 t12_5 t12_6 t12_7 t12_8 t12_9 t12_10 hT12 ob638 _) rfl rfl hT12 rfl hl.1 rfl (Nat.le_of_ble_eq_true rfl) ⟨by decide, by decide⟩ ⟨Nat.le_of_ble_eq_true rfl, Nat.le_of_ble_eq_true rfl⟩ d_14_31_39) (fun j641 u639 H locs hp640 V => ?_)
        obtain ⟨hI, hZ9⟩ := hp640
        obtain ⟨hu676, hZ9⟩ := hZ9
        obtain ⟨y643, hZ9⟩ := hZ9
        obtain ⟨y644, hZ9⟩ := hZ9
        obtain ⟨y645, hZ9⟩ := hZ9
        obtain ⟨y646, hZ9⟩ := hZ9
        obtain ⟨y647, hZ9⟩ := hZ9
        obtain ⟨y648, hZ9⟩ := hZ9
        obtain ⟨y649, hZ9⟩ := hZ9
        obtain ⟨y650, hZ9⟩ := hZ9
        obtain ⟨y651, hZ9⟩ := hZ9
        obtain ⟨y652, hZ9⟩ := hZ9
        obtain ⟨y653, hZ9⟩ := hZ9
        obtain ⟨hO642, hZ9⟩ := hZ9
        obtain ⟨b654, hZ9⟩ := hZ9
        obtain ⟨b655, hZ9⟩ := hZ9
        obtain ⟨b656, hZ9⟩ := hZ9
        obtain ⟨b657, hZ9⟩ := hZ9
        obtain ⟨b658, hZ9⟩ := hZ9
        obtain ⟨b659, hZ9⟩ := hZ9
        obtain ⟨b660, hZ9⟩ := hZ9
        obtain ⟨b661, hZ9⟩ := hZ9
        obtain ⟨b662, hZ9⟩ := hZ9
        obtain ⟨b663, hZ9⟩ := hZ9
        replace hZ9 := hZ9.2.2.2.2.2.2.2.2.2.2
        obtain ⟨-, hE675⟩ := hZ9
        replace hO642 : u639[145]? = (some (q 145, .inr (15, [.int y643, .ref (q 146), .ref (q 147), .ref (q 148), .ref (q 149), .ref (q 150), .ref (q 151), .ref (q 152), .int y644, .int y645, .int y646, .long y647, .int y648, .int y649, .long y650, .int y651, .long y652, .int y653])) : Option (Nat × va_E)) := hO642
        obtain ⟨p677, e678⟩ : ∃ z, z = (F_FR_narrowed j575 t12_0 t12_1 t12_2 t12_3 t12_4 t12_5 t12_6 t12_7 t12_8 t12_9 t12_10) := ⟨_, rfl⟩
        have e679 : j641 = p677.1 := congrArg (fun z => z.1) (hE675.trans e678.symm)
        have e680 : y643 = p677.2.1 := congrArg (fun z => z.2.1) (hE675.trans e678.symm)
        have e681 : y644 = p677.2.2.1 := congrArg (fun z => z.2.2.1) (hE675.trans e678.symm)
        have e682 : y645 = p677.2.2.2.1 := congrArg (fun z => z.2.2.2.1) (hE675.trans e678.symm)
        have e683 : y646 = p677.2.2.2.2.1 := congrArg (fun z => z.2.2.2.2.1) (hE675.trans e678.symm)
        have e684 : y647 = p677.2.2.2.2.2.1 := congrArg (fun z => z.2.2.2.2.2.1) (hE675.trans e678.symm)
        have e685 : y648 = p677.2.2.2.2.2.2.1 := congrArg (fun z => z.2.2.2.2.2.2.1) (hE675.trans e678.symm)
        have e686 : y649 = p677.2.2.2.2.2.2.2.1 := congrArg (fun z => z.2.2.2.2.2.2.2.1) (hE675.trans e678.symm)
        have e687 : y650 = p677.2.2.2.2.2.2.2.2.1 := congrArg (fun z => z.2.2.2.2.2.2.2.2.1) (hE675.trans e678.symm)
        have e688 : y651 = p677.2.2.2.2.2.2.2.2.2.1 := congrArg (fun z => z.2.2.2.2.2.2.2.2.2.1) (hE675.trans e678.symm)
        have e689 : y652 = p677.2.2.2.2.2.2.2.2.2.2.1 := congrArg (fun z => z.2.2.2.2.2.2.2.2.2.2.1) (hE675.trans e678.symm)
        have e690 : y653 = p677.2.2.2.2.2.2.2.2.2.2.2 := congrArg (fun z => z.2.2.2.2.2.2.2.2.2.2.2) (hE675.trans e678.symm)
        replace b654 : q_F (0 ≤ y643.toInt) := b654
        replace b655 : q_F (y643.toInt ≤ 0) := b655
        replace b656 : q_F (t12_1.toInt ≤ y644.toInt) := b656
        replace b657 : q_F (y644.toInt ≤ t12_1.toInt) := b657
        replace b658 : q_F (t12_9.toInt ≤ y652.toInt) := b658
        replace b659 : q_F (y652.toInt ≤ t12_9.toInt) := b659
        replace b660 : q_F (t12_10.toInt ≤ y653.toInt) := b660
        replace b661 : q_F (y653.toInt ≤ t12_10.toInt) := b661
        replace b662 : q_F (y645.toInt ≤ y643.toInt + 1) := b662
        replace b663 : q_F (y643.toInt ≤ y645.toInt) := b663
        replace hT0 := (hu676 _ (by decide)).trans hT0
        replace hT1 := (hu676 _ (by decide)).trans hT1
        replace hT4 := (hu676 _ (by decide)).trans hT4
        replace hT5 := (hu676 _ (by decide)).trans hT5
        replace hT6 := (hu676 _ (by decide)).trans hT6
        replace hT11 := (hu676 _ (by decide)).trans hT11
        replace hT13 := (hu676 _ (by decide)).trans hT13
        replace hT14 := (hu676 _ (by decide)).trans hT14
        replace hT15 := (hu676 _ (by decide)).trans hT15
        replace hT16 := (hu676 _ (by decide)).trans hT16
        replace hT17 := (hu676 _ (by decide)).trans hT17
        replace hF := q_uc hF hu676 (by simp)
        have hR691 := (show F_NM_toFloat_c39 x2 x3 x4 x5 t0_0 t0_1 t0_2 t1_0 t1_1 t1_2 t1_3 t1_4 t1_5 t1_6 t2_0 t3_0 t4_0 t5_0 t6_0 t6_1 t6_2 t6_3 t6_4 t6_5 t6_6 t6_7 t6_8 t6_9 t6_10 t7_0 t8_0 t9_0 t10_0 t11_0 t12_0 t12_1 t12_2 t12_3 t12_4 t12_5 t12_6 t12_7 t12_8 t12_9 t12_10 t13_0 t13_1 t13_2 t13_3 t13_4 t13_5 t13_6 t13_7 t13_8 t13_9 t13_10 t13_11 t13_12 t13_13 t14_0 t15_0 t16_0 t17_0 j575 p677 = (F_NM_toFloat x2 x3 x4 x5 t0_0 t0_1 t0_2 t1_0 t1_1 t1_2 t1_3 t1_4 t1_5 t1_6 t2_0 t3_0 t4_0 t5_0 t6_0 t6_1 t6_2 t6_3 t6_4 t6_5 t6_6 t6_7 t6_8 t6_9 t6_10 t7_0 t8_0 t9_0 t10_0 t11_0 t12_0 t12_1 t12_2 t12_3 t12_4 t12_5 t12_6 t12_7 t12_8 t12_9 t12_10 t13_0 t13_1 t13_2 t13_3 t13_4 t13_5 t13_6 t13_7 t13_8 t13_9 t13_10 t13_11 t13_12 t13_13 t14_0 t15_0 t16_0 t17_0) from (by have c112x := c112; rw [e111] at c112x; rw [e678, e577, F_NM_toFloat.eq_1, if_neg c112x, if_neg c578, if_pos c580]))
        have hS692 := (show True ∧ S_NM_toFloat_c39 x2 x3 x4 x5 t0_0 t0_1 t0_2 t1_0 t1_1 t1_2 t1_3 t1_4 t1_5 t1_6 t2_0 t3_0 t4_0 t5_0 t6_0 t6_1 t6_2 t6_3 t6_4 t6_5 t6_6 t6_7 t6_8 t6_9 t6_10 t7_0 t8_0 t9_0 t10_0 t11_0 t12_0 t12_1 t12_2 t12_3 t12_4 t12_5 t12_6 t12_7 t12_8 t12_9 t12_10 t13_0 t13_1 t13_2 t13_3 t13_4 t13_5 t13_6 t13_7 t13_8 t13_9 t13_10 t13_11 t13_12 t13_13 t14_0 t15_0 t16_0 t17_0 j575 p677 from (by rw [e678, e577]; have h := hS; rw [S_NM_toFloat.eq_1] at h; have c112x := c112; rw [e111] at c112x; rw [if_neg c112x] at h; replace h := q_s2 h; rw [if_neg c578] at h; rw [if_pos c580] at h; replace h := q_s2 h; with_reducible exact h))
        refine lv_goto (tgt := 54) hx hb d_14_31_42 (by decide) ?_
        refine lv_lstore (lv' := [(5, .long j641), (0, .ref (q 116)), (1, .int x2), (2, .int x3), (3, .int x4), (4, .int x5)]) hx hb d_14_31_54 hl (by decide) rfl (fun ls hl => ?_)
        refine lv_goto (tgt := 164) hx hb d_14_31_56 (by decide) ?_
        refine lv_aload_n hx hb d_14_31_164 rfl (lv_at hl 1 rfl) ?_
        refine lv_iload_n hx hb d_14_31_165 rfl (lv_at hl 4 rfl) ?_
        refine lv_iload hx hb d_14_31_166 (lv_at hl 5 rfl) ?_
        refine lv_lload hx hb d_14_31_168 (lv_at hl 0 rfl) ?_
        have ob696 : True ∧ S_NM_setBits x4 x5 j641 t0_0 t0_1 t0_2 t17_0 := (by rw [e679]; have h := hS692; rw [S_NM_toFloat_c39.eq_1] at h; with_reducible exact h.2.1)
        refine q_gov V (q_runV (As := [.int x4, .int x5, .long j641]) (rest := []) (d := 1) (mc := 0) (ms := 0) (ci := 12) C0 V rfl LV_NM_120 (X_NM_setBits l D g q u639  x4 x5 j641 hI t0_0 t0_1 t0_2 hT0 t17_0 hT17 ob696 _) rfl rfl hT0 rfl hl.1 rfl (Nat.le_of_ble_eq_true rfl) ⟨by decide, by decide⟩ ⟨Nat.le_of_ble_eq_true rfl, Nat.le_of_ble_eq_true rfl⟩ d_14_31_170) (fun u697 H locs hp698 V => ?_)
        obtain ⟨hI, hu702, f699, hA700, hE701⟩ := hp698
        replace hA700 : u697[167]? = (some (q 167, .inl (g 1, 20, .inr (.inl f699))) : Option (Nat × va_E)) := hA700
        have e703 : f699 = (F_NM_setBits x4 x5 j641 t0_0 t0_1 t0_2 t17_0) := hE701
        replace hT1 := (hu702 _ (by decide)).trans hT1
        replace hT4 := (hu702 _ (by decide)).trans hT4
        replace hT5 := (hu702 _ (by decide)).trans hT5
        replace hT6 := (hu702 _ (by decide)).trans hT6
        replace hT11 := (hu702 _ (by decide)).trans hT11
        replace hO642 := (hu702 _ (by decide)).trans hO642
        replace hT13 := (hu702 _ (by decide)).trans hT13
        replace hT14 := (hu702 _ (by decide)).trans hT14
        replace hT15 := (hu702 _ (by decide)).trans hT15
        replace hT16 := (hu702 _ (by decide)).trans hT16
        replace hF := q_uc hF hu702 (by simp)
        exact q_retv C0 V (⟨hI, hF, t1_0, t1_1, t1_2, t1_3, t1_4, t1_5, t1_6, t4_0, t5_0, t6_0, t6_1, t6_2, t6_3, t6_4, t6_5, t6_6, t6_7, t6_8, t6_9, t6_10, t11_0, y643, y644, y645, y646, y647, y648, y649, y650, y651, y652, y653, t13_0, t13_1, t13_2, t13_3, t13_4, t13_5, t13_6, t13_7, t13_8, t13_9, t13_10, t13_11, t13_12, t13_13, t14_0, t15_0, t16_0, f699, hT1, hT4, hT5, hT6, hT11, hO642, hT13, hT14, hT15, hT16, hA700, (show 0 ≤ t1_2.toInt from (by first | with_reducible exact (q_fe btt1_2).2 | with_reducible exact (q_fe btt1_2).1 | (have t1 : 0 ≤ t1_2.toInt ∧ t1_2.toInt ≤ 4100 := btt1_2; omega))), (show t1_2.toInt ≤ 4100 from (by first | with_reducible exact (q_fe btt1_2).2 | with_reducible exact (q_fe btt1_2).1 | (have t1 : 0 ≤ t1_2.toInt ∧ t1_2.toInt ≤ 4100 := btt1_2; omega))), (show 0 ≤ t1_3.toInt from (by first | with_reducible exact (q_fe btt1_3).2 | with_reducible exact (q_fe btt1_3).1 | (have t1 : 0 ≤ t1_3.toInt ∧ t1_3.toInt ≤ 1 := btt1_3; omega))), (show t1_3.toInt ≤ 1 from (by first | with_reducible exact (q_fe btt1_3).2 | with_reducible exact (q_fe btt1_3).1 | (have t1 : 0 ≤ t1_3.toInt ∧ t1_3.toInt ≤ 1 := btt1_3; omega))), (show 0 ≤ t1_4.toInt from (by first | with_reducible exact (q_fe btt1_4).2 | with_reducible exact (q_fe btt1_4).1 | (have t1 : 0 ≤ t1_4.toInt ∧ t1_4.toInt ≤ 1 := btt1_4; omega))), (show t1_4.toInt ≤ 1 from (by first | with_reducible exact (q_fe btt1_4).2 | with_reducible exact (q_fe btt1_4).1 | (have t1 : 0 ≤ t1_4.toInt ∧ t1_4.toInt ≤ 1 := btt1_4; omega))), (show 0 ≤ t1_5.toInt from (by first | with_reducible exact (q_fe btt1_5).2 | with_reducible exact (q_fe btt1_5).1 | (have t1 : 0 ≤ t1_5.toInt ∧ t1_5.toInt ≤ 1 := btt1_5; omega))), (show t1_5.toInt ≤ 1 from (by first | with_reducible exact (q_fe btt1_5).2 | with_reducible exact (q_fe btt1_5).1 | (have t1 : 0 ≤ t1_5.toInt ∧ t1_5.toInt ≤ 1 := btt1_5; omega))), (show 0 ≤ t1_6.toInt from (by first | with_reducible exact (q_fe btt1_6).2 | with_reducible exact (q_fe btt1_6).1 | (have t1 : 0 ≤ t1_6.toInt ∧ t1_6.toInt ≤ 2100 := btt1_6; omega))), (show t1_6.toInt ≤ 2100 from (by first | with_reducible exact (q_fe btt1_6).2 | with_reducible exact (q_fe btt1_6).1 | (have t1 : 0 ≤ t1_6.toInt ∧ t1_6.toInt ≤ 2100 := btt1_6; omega))), (show 0 ≤ t6_1.toInt from (by first | with_reducible exact (q_fe btt6_1).2 | with_reducible exact (q_fe btt6_1).1 | (have t1 : 0 ≤ t6_1.toInt ∧ t6_1.toInt ≤ 4100 := btt6_1; omega))), (show t6_1.toInt ≤ 4100 from (by first | with_reducible exact (q_fe btt6_1).2 | with_reducible exact (q_fe btt6_1).1 | (have t1 : 0 ≤ t6_1.toInt ∧ t6_1.toInt ≤ 4100 := btt6_1; omega))), (show 0 ≤ t6_4.toInt from (by first | with_reducible exact (q_fe btt6_4).2 | with_reducible exact (q_fe btt6_4).1 | (have t1 : 0 ≤ t6_4.toInt ∧ t6_4.toInt ≤ 1 := btt6_4; omega))), (show t6_4.toInt ≤ 1 from (by first | with_reducible exact (q_fe btt6_4).2 | with_reducible exact (q_fe btt6_4).1 | (have t1 : 0 ≤ t6_4.toInt ∧ t6_4.toInt ≤ 1 := btt6_4; omega))), (show 0 ≤ t6_5.toInt from (by first | with_reducible exact (q_fe btt6_5).2 | with_reducible exact (q_fe btt6_5).1 | (have t1 : 0 ≤ t6_5.toInt ∧ t6_5.toInt ≤ 1 := btt6_5; omega))), (show t6_5.toInt ≤ 1 from (by first | with_reducible exact (q_fe btt6_5).2 | with_reducible exact (q_fe btt6_5).1 | (have t1 : 0 ≤ t6_5.toInt ∧ t6_5.toInt ≤ 1 := btt6_5; omega))), (show 0 ≤ t6_9.toInt from (by first | with_reducible exact (q_fe btt6_9).2 | with_reducible exact (q_fe btt6_9).1 | (have t1 : 0 ≤ t6_9.toInt ∧ t6_9.toInt ≤ 12200 := btt6_9; omega))), (show t6_9.toInt ≤ 12200 from (by first | with_reducible exact (q_fe btt6_9).2 | with_reducible exact (q_fe btt6_9).1 | (have t1 : 0 ≤ t6_9.toInt ∧ t6_9.toInt ≤ 12200 := btt6_9; omega))), (show 0 ≤ y645.toInt from (by have t1 : 0 ≤ y643.toInt := b654; have t2 : y643.toInt ≤ y645.toInt := b663; omega)), (show y645.toInt ≤ 1 from (by have t1 : y643.toInt ≤ 0 := b655; have t2 : y645.toInt ≤ y643.toInt + 1 := b662; omega)), (show 0 ≤ t13_1.toInt from (by first | with_reducible exact (q_fe btt13_1).2 | with_reducible exact (q_fe btt13_1).1 | (have t1 : 0 ≤ t13_1.toInt ∧ t13_1.toInt ≤ 4100 := btt13_1; omega))), (show t13_1.toInt ≤ 4100 from (by first | with_reducible exact (q_fe btt13_1).2 | with_reducible exact (q_fe btt13_1).1 | (have t1 : 0 ≤ t13_1.toInt ∧ t13_1.toInt ≤ 4100 := btt13_1; omega))), (show 0 ≤ t13_4.toInt from (by first | with_reducible exact (q_fe btt13_4).2 | with_reducible exact (q_fe btt13_4).1 | (have t1 : 0 ≤ t13_4.toInt ∧ t13_4.toInt ≤ 1 := btt13_4; omega))), (show t13_4.toInt ≤ 1 from (by first | with_reducible exact (q_fe btt13_4).2 | with_reducible exact (q_fe btt13_4).1 | (have t1 : 0 ≤ t13_4.toInt ∧ t13_4.toInt ≤ 1 := btt13_4; omega))), (show 0 ≤ t13_13.toInt from (by first | with_reducible exact (q_fe btt13_13).2 | with_reducible exact (q_fe btt13_13).1 | (have t1 : 0 ≤ t13_13.toInt ∧ t13_13.toInt ≤ 1 := btt13_13; omega))), (show t13_13.toInt ≤ 1 from (by first | with_reducible exact (q_fe btt13_13).2 | with_reducible exact (q_fe btt13_13).1 | (have t1 : 0 ≤ t13_13.toInt ∧ t13_13.toInt ≤ 1 := btt13_13; omega))), (show t1_1.toInt ≤ t1_1.toInt from (by omega)), (show t1_1.toInt ≤ t1_1.toInt from (by omega)), (show t1_2.toInt ≤ t1_2.toInt from (by omega)), (show t1_2.toInt ≤ t1_2.toInt from (by omega)), (show t1_3.toInt ≤ t1_3.toInt from (by omega)), (show t1_3.toInt ≤ t1_3.toInt from (by omega)), (show t1_4.toInt ≤ t1_4.toInt from (by omega)), (show t1_4.toInt ≤ t1_4.toInt from (by omega)), (show t1_5.toInt ≤ t1_5.toInt from (by omega)), (show t1_5.toInt ≤ t1_5.toInt from (by omega)), (show t1_6.toInt ≤ t1_6.toInt + 2099 from (by omega)), (show t6_1.toInt ≤ t6_1.toInt from (by omega)), (show t6_1.toInt ≤ t6_1.toInt from (by omega)), (show t6_2.toInt ≤ t6_2.toInt from (by omega)), (show t6_2.toInt ≤ t6_2.toInt from (by omega)), (show t6_3.toInt ≤ t6_3.toInt from (by omega)), (show t6_3.toInt ≤ t6_3.toInt from (by omega)), (show t6_4.toInt ≤ t6_4.toInt from (by omega)), (show t6_4.toInt ≤ t6_4.toInt from (by omega)), (show t6_5.toInt ≤ t6_5.toInt from (by omega)), (show t6_5.toInt ≤ t6_5.toInt from (by omega)), (show t6_6.toInt ≤ t6_6.toInt from (by omega)), (show t6_6.toInt ≤ t6_6.toInt from (by omega)), (show t6_7.toInt ≤ t6_7.toInt from (by omega)), (show t6_7.toInt ≤ t6_7.toInt from (by omega)), (show t6_8.toInt ≤ t6_8.toInt from (by omega)), (show t6_8.toInt ≤ t6_8.toInt from (by omega)), (show t6_10.toInt ≤ t6_10.toInt from (by omega)), (show t6_10.toInt ≤ t6_10.toInt from (by omega)), (show t12_1.toInt ≤ y644.toInt from (by first | with_reducible exact q_fe b656 | (have t1 : t12_1.toInt ≤ y644.toInt := b656; omega))), (show y644.toInt ≤ t12_1.toInt from (by first | with_reducible exact q_fe b657 | (have t1 : y644.toInt ≤ t12_1.toInt := b657; omega))), (show t12_9.toInt ≤ y652.toInt from (by first | with_reducible exact q_fe b658 | (have t1 : t12_9.toInt ≤ y652.toInt := b658; omega))), (show y652.toInt ≤ t12_9.toInt from (by first | with_reducible exact q_fe b659 | (have t1 : y652.toInt ≤ t12_9.toInt := b659; omega))), (show t12_10.toInt ≤ y653.toInt from (by first | with_reducible exact q_fe b660 | (have t1 : t12_10.toInt ≤ y653.toInt := b660; omega))), (show y653.toInt ≤ t12_10.toInt from (by first | with_reducible exact q_fe b661 | (have t1 : y653.toInt ≤ t12_10.toInt := b661; omega))), (show t13_1.toInt ≤ t13_1.toInt from (by omega)), (show (t1_0, t1_1, t1_2, t1_3, t1_4, t1_5, t1_6, t4_0, t5_0, t6_0, t6_1, t6_2, t6_3, t6_4, t6_5, t6_6, t6_7, t6_8, t6_9, t6_10, t11_0, y643, y644, y645, y646, y647, y648, y649, y650, y651, y652, y653, t13_0, t13_1, t13_2, t13_3, t13_4, t13_5, t13_6, t13_7, t13_8, t13_9, t13_10, t13_11, t13_12, t13_13, t14_0, t15_0, t16_0, f699) = (F_NM_toFloat x2 x3 x4 x5 t0_0 t0_1 t0_2 t1_0 t1_1 t1_2 t1_3 t1_4 t1_5 t1_6 t2_0 t3_0 t4_0 t5_0 t6_0 t6_1 t6_2 t6_3 t6_4 t6_5 t6_6 t6_7 t6_8 t6_9 t6_10 t7_0 t8_0 t9_0 t10_0 t11_0 t12_0 t12_1 t12_2 t12_3 t12_4 t12_5 t12_6 t12_7 t12_8 t12_9 t12_10 t13_0 t13_1 t13_2 t13_3 t13_4 t13_5 t13_6 t13_7 t13_8 t13_9 t13_10 t13_11 t13_12 t13_13 t14_0 t15_0 t16_0 t17_0) from Eq.trans (by rw [e703, e690, e689, e688, e687, e686, e685, e684, e683, e682, e681, e680, e679, F_NM_toFloat_c39.eq_1]) hR691)⟩) d_14_31_173
    ·
      refine lv_lload hx hb d_14_31_23 (lv_at hl 0 rfl) ?_
      refine lv_goto (tgt := 54) hx hb d_14_31_25 (by decide) ?_
      refine lv_lstore (lv' := [(5, .long j575), (0, .ref (q 116)), (1, .int x2), (2, .int x3), (3, .int x4), (4, .int x5)]) hx hb d_14_31_54 hl (by decide) rfl (fun ls hl => ?_)
      refine lv_goto (tgt := 164) hx hb d_14_31_56 (by decide) ?_
      refine lv_aload_n hx hb d_14_31_164 rfl (lv_at hl 1 rfl) ?_
      refine lv_iload_n hx hb d_14_31_165 rfl (lv_at hl 4 rfl) ?_
      refine lv_iload hx hb d_14_31_166 (lv_at hl 5 rfl) ?_
      refine lv_lload hx hb d_14_31_168 (lv_at hl 0 rfl) ?_
      have ob705 : True ∧ S_NM_setBits x4 x5 j575 t0_0 t0_1 t0_2 t17_0 := (by rw [e577]; have h := hS; rw [S_NM_toFloat.eq_1] at h; have c112x := c112; rw [e111] at c112x; rw [if_neg c112x] at h; replace h := q_s2 h; rw [if_pos c578] at h; with_reducible exact h.2.1)
      refine q_gov V (q_runV (As := [.int x4, .int x5, .long j575]) (rest := []) (d := 1) (mc := 0) (ms := 0) (ci := 12) C0 V rfl LV_NM_120 (X_NM_setBits l D g q ws  x4 x5 j575 hI t0_0 t0_1 t0_2 hT0 t17_0 hT17 ob705 _) rfl rfl hT0 rfl hl.1 rfl (Nat.le_of_ble_eq_true rfl) ⟨by decide, by decide⟩ ⟨Nat.le_of_ble_eq_true rfl, Nat.le_of_ble_eq_true rfl⟩ d_14_31_170) (fun u706 H locs hp707 V => ?_)
      obtain ⟨hI, hu711, f708, hA709, hE710⟩ := hp707
      replace hA709 : u706[167]? = (some (q 167, .inl (g 1, 20, .inr (.inl f708))) : Option (Nat × va_E)) := hA709
      have e712 : f708 = (F_NM_setBits x4 x5 j575 t0_0 t0_1 t0_2 t17_0) := hE710
      replace hT1 := (hu711 _ (by decide)).trans hT1
      replace hT4 := (hu711 _ (by decide)).trans hT4
      replace hT5 := (hu711 _ (by decide)).trans hT5
      replace hT6 := (hu711 _ (by decide)).trans hT6
      replace hT11 := (hu711 _ (by decide)).trans hT11
      replace hT12 := (hu711 _ (by decide)).trans hT12
      replace hT13 := (hu711 _ (by decide)).trans hT13
      replace hT14 := (hu711 _ (by decide)).trans hT14
      replace hT15 := (hu711 _ (by decide)).trans hT15
      replace hT16 := (hu711 _ (by decide)).trans hT16
      replace hF := q_uc hF hu711 (by simp)
      exact q_retv C0 V (⟨hI, hF, t1_0, t1_1, t1_2, t1_3, t1_4, t1_5, t1_6, t4_0, t5_0, t6_0, t6_1, t6_2, t6_3, t6_4, t6_5, t6_6, t6_7, t6_8, t6_9, t6_10, t11_0, t12_0, t12_1, t12_2, t12_3, t12_4, t12_5, t12_6, t12_7, t12_8, t12_9, t12_10, t13_0, t13_1, t13_2, t13_3, t13_4, t13_5, t13_6, t13_7, t13_8, t13_9, t13_10, t13_11, t13_12, t13_13, t14_0, t15_0, t16_0, f708, hT1, hT4, hT5, hT6, hT11, hT12, hT13, hT14, hT15, hT16, hA709, (show 0 ≤ t1_2.toInt from (by first | with_reducible exact (q_fe btt1_2).2 | with_reducible exact (q_fe btt1_2).1 | (have t1 : 0 ≤ t1_2.toInt ∧ t1_2.toInt ≤ 4100 := btt1_2; omega))), (show t1_2.toInt ≤ 4100 from (by first | with_reducible exact (q_fe btt1_2).2 | with_reducible exact (q_fe btt1_2).1 | (have t1 : 0 ≤ t1_2.toInt ∧ t1_2.toInt ≤ 4100 := btt1_2; omega))), (show 0 ≤ t1_3.toInt from (by first | with_reducible exact (q_fe btt1_3).2 | with_reducible exact (q_fe btt1_3).1 | (have t1 : 0 ≤ t1_3.toInt ∧ t1_3.toInt ≤ 1 := btt1_3; omega))), (show t1_3.toInt ≤ 1 from (by first | with_reducible exact (q_fe btt1_3).2 | with_reducible exact (q_fe btt1_3).1 | (have t1 : 0 ≤ t1_3.toInt ∧ t1_3.toInt ≤ 1 := btt1_3; omega))), (show 0 ≤ t1_4.toInt from (by first | with_reducible exact (q_fe btt1_4).2 | with_reducible exact (q_fe btt1_4).1 | (have t1 : 0 ≤ t1_4.toInt ∧ t1_4.toInt ≤ 1 := btt1_4; omega))), (show t1_4.toInt ≤ 1 from (by first | with_reducible exact (q_fe btt1_4).2 | with_reducible exact (q_fe btt1_4).1 | (have t1 : 0 ≤ t1_4.toInt ∧ t1_4.toInt ≤ 1 := btt1_4; omega))), (show 0 ≤ t1_5.toInt from (by first | with_reducible exact (q_fe btt1_5).2 | with_reducible exact (q_fe btt1_5).1 | (have t1 : 0 ≤ t1_5.toInt ∧ t1_5.toInt ≤ 1 := btt1_5; omega))), (show t1_5.toInt ≤ 1 from (by first | with_reducible exact (q_fe btt1_5).2 | with_reducible exact (q_fe btt1_5).1 | (have t1 : 0 ≤ t1_5.toInt ∧ t1_5.toInt ≤ 1 := btt1_5; omega))), (show 0 ≤ t1_6.toInt from (by first | with_reducible exact (q_fe btt1_6).2 | with_reducible exact (q_fe btt1_6).1 | (have t1 : 0 ≤ t1_6.toInt ∧ t1_6.toInt ≤ 2100 := btt1_6; omega))), (show t1_6.toInt ≤ 2100 from (by first | with_reducible exact (q_fe btt1_6).2 | with_reducible exact (q_fe btt1_6).1 | (have t1 : 0 ≤ t1_6.toInt ∧ t1_6.toInt ≤ 2100 := btt1_6; omega))), (show 0 ≤ t6_1.toInt from (by first | with_reducible exact (q_fe btt6_1).2 | with_reducible exact (q_fe btt6_1).1 | (have t1 : 0 ≤ t6_1.toInt ∧ t6_1.toInt ≤ 4100 := btt6_1; omega))), (show t6_1.toInt ≤ 4100 from (by first | with_reducible exact (q_fe btt6_1).2 | with_reducible exact (q_fe btt6_1).1 | (have t1 : 0 ≤ t6_1.toInt ∧ t6_1.toInt ≤ 4100 := btt6_1; omega))), (show 0 ≤ t6_4.toInt from (by first | with_reducible exact (q_fe btt6_4).2 | with_reducible exact (q_fe btt6_4).1 | (have t1 : 0 ≤ t6_4.toInt ∧ t6_4.toInt ≤ 1 := btt6_4; omega))), (show t6_4.toInt ≤ 1 from (by first | with_reducible exact (q_fe btt6_4).2 | with_reducible exact (q_fe btt6_4).1 | (have t1 : 0 ≤ t6_4.toInt ∧ t6_4.toInt ≤ 1 := btt6_4; omega))), (show 0 ≤ t6_5.toInt from (by first | with_reducible exact (q_fe btt6_5).2 | with_reducible exact (q_fe btt6_5).1 | (have t1 : 0 ≤ t6_5.toInt ∧ t6_5.toInt ≤ 1 := btt6_5; omega))), (show t6_5.toInt ≤ 1 from (by first | with_reducible exact (q_fe btt6_5).2 | with_reducible exact (q_fe btt6_5).1 | (have t1 : 0 ≤ t6_5.toInt ∧ t6_5.toInt ≤ 1 := btt6_5; omega))), (show 0 ≤ t6_9.toInt from (by first | with_reducible exact (q_fe btt6_9).2 | with_reducible exact (q_fe btt6_9).1 | (have t1 : 0 ≤ t6_9.toInt ∧ t6_9.toInt ≤ 12200 := btt6_9; omega))), (show t6_9.toInt ≤ 12200 from (by first | with_reducible exact (q_fe btt6_9).2 | with_reducible exact (q_fe btt6_9).1 | (have t1 : 0 ≤ t6_9.toInt ∧ t6_9.toInt ≤ 12200 := btt6_9; omega))), (show 0 ≤ t12_2.toInt from (by first | with_reducible exact (q_fe btt12_2).2 | with_reducible exact (q_fe btt12_2).1 | (have t1 : 0 ≤ t12_2.toInt ∧ t12_2.toInt ≤ 1 := btt12_2; omega))), (show t12_2.toInt ≤ 1 from (by first | with_reducible exact (q_fe btt12_2).2 | with_reducible exact (q_fe btt12_2).1 | (have t1 : 0 ≤ t12_2.toInt ∧ t12_2.toInt ≤ 1 := btt12_2; omega))), (show 0 ≤ t13_1.toInt from (by first | with_reducible exact (q_fe btt13_1).2 | with_reducible exact (q_fe btt13_1).1 | (have t1 : 0 ≤ t13_1.toInt ∧ t13_1.toInt ≤ 4100 := btt13_1; omega))), (show t13_1.toInt ≤ 4100 from (by first | with_reducible exact (q_fe btt13_1).2 | with_reducible exact (q_fe btt13_1).1 | (have t1 : 0 ≤ t13_1.toInt ∧ t13_1.toInt ≤ 4100 := btt13_1; omega))), (show 0 ≤ t13_4.toInt from (by first | with_reducible exact (q_fe btt13_4).2 | with_reducible exact (q_fe btt13_4).1 | (have t1 : 0 ≤ t13_4.toInt ∧ t13_4.toInt ≤ 1 := btt13_4; omega))), (show t13_4.toInt ≤ 1 from (by first | with_reducible exact (q_fe btt13_4).2 | with_reducible exact (q_fe btt13_4).1 | (have t1 : 0 ≤ t13_4.toInt ∧ t13_4.toInt ≤ 1 := btt13_4; omega))), (show 0 ≤ t13_13.toInt from (by first | with_reducible exact (q_fe btt13_13).2 | with_reducible exact (q_fe btt13_13).1 | (have t1 : 0 ≤ t13_13.toInt ∧ t13_13.toInt ≤ 1 := btt13_13; omega))), (show t13_13.toInt ≤ 1 from (by first | with_reducible exact (q_fe btt13_13).2 | with_reducible exact (q_fe btt13_13).1 | (have t1 : 0 ≤ t13_13.toInt ∧ t13_13.toInt ≤ 1 := btt13_13; omega))), (show t1_1.toInt ≤ t1_1.toInt from (by omega)), (show t1_1.toInt ≤ t1_1.toInt from (by omega)), (show t1_2.toInt ≤ t1_2.toInt from (by omega)), (show t1_2.toInt ≤ t1_2.toInt from (by omega)), (show t1_3.toInt ≤ t1_3.toInt from (by omega)), (show t1_3.toInt ≤ t1_3.toInt from (by omega)), (show t1_4.toInt ≤ t1_4.toInt from (by omega)), (show t1_4.toInt ≤ t1_4.toInt from (by omega)), (show t1_5.toInt ≤ t1_5.toInt from (by omega)), (show t1_5.toInt ≤ t1_5.toInt from (by omega)), (show t1_6.toInt ≤ t1_6.toInt + 2099 from (by omega)), (show t6_1.toInt ≤ t6_1.toInt from (by omega)), (show t6_1.toInt ≤ t6_1.toInt from (by omega)), (show t6_2.toInt ≤ t6_2.toInt from (by omega)), (show t6_2.toInt ≤ t6_2.toInt from (by omega)), (show t6_3.toInt ≤ t6_3.toInt from (by omega)), (show t6_3.toInt ≤ t6_3.toInt from (by omega)), (show t6_4.toInt ≤ t6_4.toInt from (by omega)), (show t6_4.toInt ≤ t6_4.toInt from (by omega)), (show t6_5.toInt ≤ t6_5.toInt from (by omega)), (show t6_5.toInt ≤ t6_5.toInt from (by omega)), (show t6_6.toInt ≤ t6_6.toInt from (by omega)), (show t6_6.toInt ≤ t6_6.toInt from (by omega)), (show t6_7.toInt ≤ t6_7.toInt from (by omega)), (show t6_7.toInt ≤ t6_7.toInt from (by omega)), (show t6_8.toInt ≤ t6_8.toInt from (by omega)), (show t6_8.toInt ≤ t6_8.toInt from (by omega)), (show t6_10.toInt ≤ t6_10.toInt from (by omega)), (show t6_10.toInt ≤ t6_10.toInt from (by omega)), (show t12_1.toInt ≤ t12_1.toInt from (by omega)), (show t12_1.toInt ≤ t12_1.toInt from (by omega)), (show t12_9.toInt ≤ t12_9.toInt from (by omega)), (show t12_9.toInt ≤ t12_9.toInt from (by omega)), (show t12_10.toInt ≤ t12_10.toInt from (by omega)), (show t12_10.toInt ≤ t12_10.toInt from (by omega)), (show t13_1.toInt ≤ t13_1.toInt from (by omega)), (show (t1_0, t1_1, t1_2, t1_3, t1_4, t1_5, t1_6, t4_0, t5_0, t6_0, t6_1, t6_2, t6_3, t6_4, t6_5, t6_6, t6_7, t6_8, t6_9, t6_10, t11_0, t12_0, t12_1, t12_2, t12_3, t12_4, t12_5, t12_6, t12_7, t12_8, t12_9, t12_10, t13_0, t13_1, t13_2, t13_3, t13_4, t13_5, t13_6, t13_7, t13_8, t13_9, t13_10, t13_11, t13_12, t13_13, t14_0, t15_0, t16_0, f708) = (F_NM_toFloat x2 x3 x4 x5 t0_0 t0_1 t0_2 t1_0 t1_1 t1_2 t1_3 t1_4 t1_5 t1_6 t2_0 t3_0 t4_0 t5_0 t6_0 t6_1 t6_2 t6_3 t6_4 t6_5 t6_6 t6_7 t6_8 t6_9 t6_10 t7_0 t8_0 t9_0 t10_0 t11_0 t12_0 t12_1 t12_2 t12_3 t12_4 t12_5 t12_6 t12_7 t12_8 t12_9 t12_10 t13_0 t13_1 t13_2 t13_3 t13_4 t13_5 t13_6 t13_7 t13_8 t13_9 t13_10 t13_11 t13_12 t13_13 t14_0 t15_0 t16_0 t17_0) from (by have c112x := c112; rw [e111] at c112x; rw [e712, e577, F_NM_toFloat.eq_1, if_neg c112x, if_pos c578]))⟩) d_14_31_173

