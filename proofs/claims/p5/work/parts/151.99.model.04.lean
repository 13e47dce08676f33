theorem d_14_21_0 : decode prog_14_method_21_code 0 = .ok (.aload_n 0, 1) := by decide +kernel
theorem d_14_21_1 : decode prog_14_method_21_code 1 = .ok (.iload_n 1, 1) := by decide +kernel
theorem d_14_21_30 : decode prog_14_method_21_code 30 = .ok (.putfield 58, 3) := by decide +kernel
theorem d_14_21_33 : decode prog_14_method_21_code 33 = .ok (.aload_n 0, 1) := by decide +kernel
theorem d_14_21_34 : decode prog_14_method_21_code 34 = .ok (.getfield 58, 3) := by decide +kernel
theorem d_14_21_37 : decode prog_14_method_21_code 37 = .ok (.ifCond .le 4, 3) := by decide +kernel
theorem d_14_21_41 : decode prog_14_method_21_code 41 = .ok (.iload_n 1, 1) := by decide +kernel
theorem d_14_21_42 : decode prog_14_method_21_code 42 = .ok (.ifCond .ne 17, 3) := by decide +kernel
theorem d_14_21_59 : decode prog_14_method_21_code 59 = .ok (.iload_n 1, 1) := by decide +kernel
theorem d_14_21_60 : decode prog_14_method_21_code 60 = .ok (.iconst 1, 1) := by decide +kernel
theorem d_14_21_61 : decode prog_14_method_21_code 61 = .ok (.if_icmp .ne 17, 3) := by decide +kernel
theorem d_14_21_78 : decode prog_14_method_21_code 78 = .ok (.aload_n 0, 1) := by decide +kernel
theorem d_14_21_79 : decode prog_14_method_21_code 79 = .ok (.getfield 19, 3) := by decide +kernel
theorem d_14_21_82 : decode prog_14_method_21_code 82 = .ok (.iload_n 2, 1) := by decide +kernel
theorem d_14_21_83 : decode prog_14_method_21_code 83 = .ok (.iload_n 3, 1) := by decide +kernel
theorem d_14_21_84 : decode prog_14_method_21_code 84 = .ok (.iload 4, 2) := by decide +kernel
theorem d_14_21_86 : decode prog_14_method_21_code 86 = .ok (.invokevirtual 197, 3) := by decide +kernel
set_option maxRecDepth 100000 in
theorem w_2764 : (Cond.code ({ cls := "NumberHouseModel$WholeRows", name := "shift", desc := "(III)V" } : MethodName) prog_19_method_38_code (9 : Nat) (none : Option ClassFile.FieldType)) ∈ q_tbl := q_of12 124 rfl (by decide +kernel)
set_option maxRecDepth 100000 in
theorem w_2761 : (Cond.methodLink "NumberHouseModel" (197 : Nat) ({ cls := "NumberHouseModel$WholeRows", name := "shift", desc := "(III)V" } : MethodName)) ∈ q_tbl := q_of12 121 rfl (by decide +kernel)
set_option maxRecDepth 100000 in
theorem w_2762 : (Cond.instanceMethod ({ cls := "NumberHouseModel$WholeRows", name := "shift", desc := "(III)V" } : MethodName)) ∈ q_tbl := q_of12 122 rfl (by decide +kernel)
set_option maxRecDepth 100000 in
theorem w_2763 : (Cond.selects "NumberHouseModel$WholeRows" ({ cls := "NumberHouseModel$WholeRows", name := "shift", desc := "(III)V" } : MethodName) ({ cls := "NumberHouseModel$WholeRows", name := "shift", desc := "(III)V" } : MethodName)) ∈ q_tbl := q_of12 123 rfl (by decide +kernel)
theorem LV_NM_197 : q_LV "NumberHouseModel" 197 y_WR_shift prog_19_method_38_code 9 none 3 := ⟨w_2764, w_15, w_2761, w_2762, w_2763, ⟨by decide, by decide, by decide +kernel⟩⟩
theorem d_14_21_89 : decode prog_14_method_21_code 89 = .ok (.aload_n 0, 1) := by decide +kernel
theorem d_14_21_90 : decode prog_14_method_21_code 90 = .ok (.aload_n 0, 1) := by decide +kernel
theorem d_14_21_91 : decode prog_14_method_21_code 91 = .ok (.getfield 19, 3) := by decide +kernel
theorem d_14_21_94 : decode prog_14_method_21_code 94 = .ok (.getfield 99, 3) := by decide +kernel
theorem d_14_21_97 : decode prog_14_method_21_code 97 = .ok (.putfield 58, 3) := by decide +kernel
theorem d_14_21_100 : decode prog_14_method_21_code 100 = .ok (.return_, 1) := by decide +kernel
theorem d_14_21_64 : decode prog_14_method_21_code 64 = .ok (.aload_n 0, 1) := by decide +kernel
theorem d_14_21_65 : decode prog_14_method_21_code 65 = .ok (.getfield 19, 3) := by decide +kernel
theorem d_14_21_68 : decode prog_14_method_21_code 68 = .ok (.iload_n 2, 1) := by decide +kernel
theorem d_14_21_69 : decode prog_14_method_21_code 69 = .ok (.iload_n 3, 1) := by decide +kernel
theorem d_14_21_70 : decode prog_14_method_21_code 70 = .ok (.iload 4, 2) := by decide +kernel
theorem d_14_21_72 : decode prog_14_method_21_code 72 = .ok (.invokevirtual 194, 3) := by decide +kernel
set_option maxRecDepth 100000 in
theorem w_2756 : (Cond.code ({ cls := "NumberHouseModel$WholeRows", name := "root", desc := "(III)V" } : MethodName) prog_19_method_31_code (5 : Nat) (none : Option ClassFile.FieldType)) ∈ q_tbl := q_of12 116 rfl (by decide +kernel)
set_option maxRecDepth 100000 in
theorem w_2753 : (Cond.methodLink "NumberHouseModel" (194 : Nat) ({ cls := "NumberHouseModel$WholeRows", name := "root", desc := "(III)V" } : MethodName)) ∈ q_tbl := q_of12 113 rfl (by decide +kernel)
set_option maxRecDepth 100000 in
theorem w_2754 : (Cond.instanceMethod ({ cls := "NumberHouseModel$WholeRows", name := "root", desc := "(III)V" } : MethodName)) ∈ q_tbl := q_of12 114 rfl (by decide +kernel)
set_option maxRecDepth 100000 in
theorem w_2755 : (Cond.selects "NumberHouseModel$WholeRows" ({ cls := "NumberHouseModel$WholeRows", name := "root", desc := "(III)V" } : MethodName) ({ cls := "NumberHouseModel$WholeRows", name := "root", desc := "(III)V" } : MethodName)) ∈ q_tbl := q_of12 115 rfl (by decide +kernel)
theorem LV_NM_194 : q_LV "NumberHouseModel" 194 y_WR_root prog_19_method_31_code 5 none 3 := ⟨w_2756, w_15, w_2753, w_2754, w_2755, ⟨by decide, by decide, by decide +kernel⟩⟩
theorem d_14_21_75 : decode prog_14_method_21_code 75 = .ok (.goto 14, 3) := by decide +kernel
theorem d_14_21_45 : decode prog_14_method_21_code 45 = .ok (.aload_n 0, 1) := by decide +kernel
theorem d_14_21_46 : decode prog_14_method_21_code 46 = .ok (.getfield 19, 3) := by decide +kernel
theorem d_14_21_49 : decode prog_14_method_21_code 49 = .ok (.iload_n 2, 1) := by decide +kernel
theorem d_14_21_50 : decode prog_14_method_21_code 50 = .ok (.iload_n 3, 1) := by decide +kernel
theorem d_14_21_51 : decode prog_14_method_21_code 51 = .ok (.iload 4, 2) := by decide +kernel
theorem d_14_21_53 : decode prog_14_method_21_code 53 = .ok (.invokevirtual 192, 3) := by decide +kernel
set_option maxRecDepth 100000 in
theorem w_2752 : (Cond.code ({ cls := "NumberHouseModel$WholeRows", name := "power", desc := "(III)V" } : MethodName) prog_19_method_29_code (7 : Nat) (none : Option ClassFile.FieldType)) ∈ q_tbl := q_of12 112 rfl (by decide +kernel)
set_option maxRecDepth 100000 in
theorem w_2749 : (Cond.methodLink "NumberHouseModel" (192 : Nat) ({ cls := "NumberHouseModel$WholeRows", name := "power", desc := "(III)V" } : MethodName)) ∈ q_tbl := q_of12 109 rfl (by decide +kernel)
set_option maxRecDepth 100000 in
theorem w_2750 : (Cond.instanceMethod ({ cls := "NumberHouseModel$WholeRows", name := "power", desc := "(III)V" } : MethodName)) ∈ q_tbl := q_of12 110 rfl (by decide +kernel)
set_option maxRecDepth 100000 in
theorem w_2751 : (Cond.selects "NumberHouseModel$WholeRows" ({ cls := "NumberHouseModel$WholeRows", name := "power", desc := "(III)V" } : MethodName) ({ cls := "NumberHouseModel$WholeRows", name := "power", desc := "(III)V" } : MethodName)) ∈ q_tbl := q_of12 111 rfl (by decide +kernel)
theorem LV_NM_192 : q_LV "NumberHouseModel" 192 y_WR_power prog_19_method_29_code 7 none 3 := ⟨w_2752, w_15, w_2749, w_2750, w_2751, ⟨by decide, by decide, by decide +kernel⟩⟩
theorem d_14_21_56 : decode prog_14_method_21_code 56 = .ok (.goto 33, 3) := by decide +kernel
theorem d_14_21_40 : decode prog_14_method_21_code 40 = .ok (.return_, 1) := by decide +kernel
theorem d_14_21_25 : decode prog_14_method_21_code 25 = .ok (.iconst 1, 1) := by decide +kernel
theorem d_14_21_26 : decode prog_14_method_21_code 26 = .ok (.goto 4, 3) := by decide +kernel
theorem d_14_21_2 : decode prog_14_method_21_code 2 = .ok (.ifCond .lt 23, 3) := by decide +kernel
theorem d_14_21_5 : decode prog_14_method_21_code 5 = .ok (.iload_n 1, 1) := by decide +kernel
theorem d_14_21_6 : decode prog_14_method_21_code 6 = .ok (.iconst 2, 1) := by decide +kernel
theorem d_14_21_7 : decode prog_14_method_21_code 7 = .ok (.if_icmp .gt 18, 3) := by decide +kernel
theorem d_14_21_10 : decode prog_14_method_21_code 10 = .ok (.iload_n 2, 1) := by decide +kernel
theorem d_14_21_11 : decode prog_14_method_21_code 11 = .ok (.invokestatic 70, 3) := by decide +kernel
theorem d_14_21_14 : decode prog_14_method_21_code 14 = .ok (.ifCond .ne 11, 3) := by decide +kernel
theorem d_14_21_17 : decode prog_14_method_21_code 17 = .ok (.iload 4, 2) := by decide +kernel
theorem d_14_21_19 : decode prog_14_method_21_code 19 = .ok (.invokestatic 70, 3) := by decide +kernel
theorem d_14_21_22 : decode prog_14_method_21_code 22 = .ok (.ifCond .eq 7, 3) := by decide +kernel
theorem d_14_21_29 : decode prog_14_method_21_code 29 = .ok (.iconst 0, 1) := by decide +kernel
def y_NM_wholeBy : MethodName := ⟨"NumberHouseModel", "wholeBy", "(IIII)V"⟩
def F_NM_wholeBy_c86 (x2 : Int32) (x3 : Int32) (x4 : Int32) (x5 : Int32) (t0_0 : Int32) (t0_1 : Int32) (t0_2 : Int32) (t1_0 : Int32) (t1_1 : Int32) (t1_2 : Int32) (t1_3 : Int32) (t1_4 : Int32) (t1_5 : Int32) (t1_6 : Int32) (t2_0 : (Nat → Int32)) (t3_0 : (Nat → Int32)) (t4_0 : (Nat → Int32)) (t5_0 : (Nat → Int32)) (t6_0 : (Nat → Int32)) (t7_0 : (Nat → Int32)) (lx38 : Int32) (p96 : (Int32 × Int32 × Int32 × Int32 × Int32 × Int32 × Int32 × (Nat → Int32) × (Nat → Int32) × (Nat → Int32) × (Nat → Int32) × (Nat → Int32))) : Int32 × Int32 × Int32 × Int32 × Int32 × Int32 × Int32 × Int32 × (Nat → Int32) × (Nat → Int32) × (Nat → Int32) × (Nat → Int32) × (Nat → Int32) × (Nat → Int32) := ((p96.1 : Int32), (p96.1 : Int32), (p96.2.1 : Int32), (p96.2.2.1 : Int32), (p96.2.2.2.1 : Int32), (p96.2.2.2.2.1 : Int32), (p96.2.2.2.2.2.1 : Int32), (p96.2.2.2.2.2.2.1 : Int32), (p96.2.2.2.2.2.2.2.1 : (Nat → Int32)), (p96.2.2.2.2.2.2.2.2.1 : (Nat → Int32)), (p96.2.2.2.2.2.2.2.2.2.1 : (Nat → Int32)), (p96.2.2.2.2.2.2.2.2.2.2.1 : (Nat → Int32)), t6_0, (p96.2.2.2.2.2.2.2.2.2.2.2 : (Nat → Int32)))
def F_NM_wholeBy_c72 (x2 : Int32) (x3 : Int32) (x4 : Int32) (x5 : Int32) (t0_0 : Int32) (t0_1 : Int32) (t0_2 : Int32) (t1_0 : Int32) (t1_1 : Int32) (t1_2 : Int32) (t1_3 : Int32) (t1_4 : Int32) (t1_5 : Int32) (t1_6 : Int32) (t2_0 : (Nat → Int32)) (t3_0 : (Nat → Int32)) (t4_0 : (Nat → Int32)) (t5_0 : (Nat → Int32)) (t6_0 : (Nat → Int32)) (t7_0 : (Nat → Int32)) (lx38 : Int32) (p153 : (Int32 × Int32 × Int32 × Int32 × Int32 × Int32 × Int32 × (Nat → Int32) × (Nat → Int32) × (Nat → Int32) × (Nat → Int32) × (Nat → Int32) × (Nat → Int32))) : Int32 × Int32 × Int32 × Int32 × Int32 × Int32 × Int32 × Int32 × (Nat → Int32) × (Nat → Int32) × (Nat → Int32) × (Nat → Int32) × (Nat → Int32) × (Nat → Int32) := ((p153.1 : Int32), (p153.1 : Int32), (p153.2.1 : Int32), (p153.2.2.1 : Int32), (p153.2.2.2.1 : Int32), (p153.2.2.2.2.1 : Int32), (p153.2.2.2.2.2.1 : Int32), (p153.2.2.2.2.2.2.1 : Int32), (p153.2.2.2.2.2.2.2.1 : (Nat → Int32)), (p153.2.2.2.2.2.2.2.2.1 : (Nat → Int32)), (p153.2.2.2.2.2.2.2.2.2.1 : (Nat → Int32)), (p153.2.2.2.2.2.2.2.2.2.2.1 : (Nat → Int32)), (p153.2.2.2.2.2.2.2.2.2.2.2.1 : (Nat → Int32)), (p153.2.2.2.2.2.2.2.2.2.2.2.2 : (Nat → Int32)))
def F_NM_wholeBy_c53 (x2 : Int32) (x3 : Int32) (x4 : Int32) (x5 : Int32) (t0_0 : Int32) (t0_1 : Int32) (t0_2 : Int32) (t1_0 : Int32) (t1_1 : Int32) (t1_2 : Int32) (t1_3 : Int32) (t1_4 : Int32) (t1_5 : Int32) (t1_6 : Int32) (t2_0 : (Nat → Int32)) (t3_0 : (Nat → Int32)) (t4_0 : (Nat → Int32)) (t5_0 : (Nat → Int32)) (t6_0 : (Nat → Int32)) (t7_0 : (Nat → Int32)) (lx38 : Int32) (p209 : (Int32 × Int32 × Int32 × Int32 × Int32 × Int32 × Int32 × (Nat → Int32) × (Nat → Int32) × (Nat → Int32) × (Nat → Int32) × (Nat → Int32))) : Int32 × Int32 × Int32 × Int32 × Int32 × Int32 × Int32 × Int32 × (Nat → Int32) × (Nat → Int32) × (Nat → Int32) × (Nat → Int32) × (Nat → Int32) × (Nat → Int32) := ((p209.1 : Int32), (p209.1 : Int32), (p209.2.1 : Int32), (p209.2.2.1 : Int32), (p209.2.2.2.1 : Int32), (p209.2.2.2.2.1 : Int32), (p209.2.2.2.2.2.1 : Int32), (p209.2.2.2.2.2.2.1 : Int32), (p209.2.2.2.2.2.2.2.1 : (Nat → Int32)), (p209.2.2.2.2.2.2.2.2.1 : (Nat → Int32)), (p209.2.2.2.2.2.2.2.2.2.1 : (Nat → Int32)), t5_0, (p209.2.2.2.2.2.2.2.2.2.2.1 : (Nat → Int32)), (p209.2.2.2.2.2.2.2.2.2.2.2 : (Nat → Int32)))
def F_NM_wholeBy_J30 (x2 : Int32) (x3 : Int32) (x4 : Int32) (x5 : Int32) (t0_0 : Int32) (t0_1 : Int32) (t0_2 : Int32) (t1_0 : Int32) (t1_1 : Int32) (t1_2 : Int32) (t1_3 : Int32) (t1_4 : Int32) (t1_5 : Int32) (t1_6 : Int32) (t2_0 : (Nat → Int32)) (t3_0 : (Nat → Int32)) (t4_0 : (Nat → Int32)) (t5_0 : (Nat → Int32)) (t6_0 : (Nat → Int32)) (t7_0 : (Nat → Int32)) (lx38 : Int32) : Int32 × Int32 × Int32 × Int32 × Int32 × Int32 × Int32 × Int32 × (Nat → Int32) × (Nat → Int32) × (Nat → Int32) × (Nat → Int32) × (Nat → Int32) × (Nat → Int32) := if lx38 ≤ (0 : Int32) then (if x2 = (0 : Int32) then (F_NM_wholeBy_c53 x2 x3 x4 x5 t0_0 t0_1 t0_2 t1_0 t1_1 t1_2 t1_3 t1_4 t1_5 t1_6 t2_0 t3_0 t4_0 t5_0 t6_0 t7_0 lx38 ((F_WR_power x3 x4 x5 t1_0 t1_1 t1_2 t1_3 t1_4 t1_5 t1_6 t2_0 t3_0 t4_0 t6_0 t7_0) : (Int32 × Int32 × Int32 × Int32 × Int32 × Int32 × Int32 × (Nat → Int32) × (Nat → Int32) × (Nat → Int32) × (Nat → Int32) × (Nat → Int32)))) else (if x2 = (1 : Int32) then (F_NM_wholeBy_c72 x2 x3 x4 x5 t0_0 t0_1 t0_2 t1_0 t1_1 t1_2 t1_3 t1_4 t1_5 t1_6 t2_0 t3_0 t4_0 t5_0 t6_0 t7_0 lx38 ((F_WR_root x3 x4 x5 t1_0 t1_1 t1_2 t1_3 t1_4 t1_5 t1_6 t2_0 t3_0 t4_0 t5_0 t6_0 t7_0) : (Int32 × Int32 × Int32 × Int32 × Int32 × Int32 × Int32 × (Nat → Int32) × (Nat → Int32) × (Nat → Int32) × (Nat → Int32) × (Nat → Int32) × (Nat → Int32)))) else (F_NM_wholeBy_c86 x2 x3 x4 x5 t0_0 t0_1 t0_2 t1_0 t1_1 t1_2 t1_3 t1_4 t1_5 t1_6 t2_0 t3_0 t4_0 t5_0 t6_0 t7_0 lx38 ((F_WR_shift x3 x4 x5 t1_0 t1_1 t1_2 t1_3 t1_4 t1_5 t1_6 t2_0 t3_0 t4_0 t5_0 t7_0) : (Int32 × Int32 × Int32 × Int32 × Int32 × Int32 × Int32 × (Nat → Int32) × (Nat → Int32) × (Nat → Int32) × (Nat → Int32) × (Nat → Int32)))))) else ((lx38, t1_0, t1_1, t1_2, t1_3, t1_4, t1_5, t1_6, t2_0, t3_0, t4_0, t5_0, t6_0, t7_0))
def F_NM_wholeBy_J25 (x2 : Int32) (x3 : Int32) (x4 : Int32) (x5 : Int32) (t0_0 : Int32) (t0_1 : Int32) (t0_2 : Int32) (t1_0 : Int32) (t1_1 : Int32) (t1_2 : Int32) (t1_3 : Int32) (t1_4 : Int32) (t1_5 : Int32) (t1_6 : Int32) (t2_0 : (Nat → Int32)) (t3_0 : (Nat → Int32)) (t4_0 : (Nat → Int32)) (t5_0 : (Nat → Int32)) (t6_0 : (Nat → Int32)) (t7_0 : (Nat → Int32)) : Int32 × Int32 × Int32 × Int32 × Int32 × Int32 × Int32 × Int32 × (Nat → Int32) × (Nat → Int32) × (Nat → Int32) × (Nat → Int32) × (Nat → Int32) × (Nat → Int32) := F_NM_wholeBy_J30 x2 x3 x4 x5 t0_0 t0_1 t0_2 t1_0 t1_1 t1_2 t1_3 t1_4 t1_5 t1_6 t2_0 t3_0 t4_0 t5_0 t6_0 t7_0 1
def F_NM_wholeBy (x2 : Int32) (x3 : Int32) (x4 : Int32) (x5 : Int32) (t0_0 : Int32) (t0_1 : Int32) (t0_2 : Int32) (t1_0 : Int32) (t1_1 : Int32) (t1_2 : Int32) (t1_3 : Int32) (t1_4 : Int32) (t1_5 : Int32) (t1_6 : Int32) (t2_0 : (Nat → Int32)) (t3_0 : (Nat → Int32)) (t4_0 : (Nat → Int32)) (t5_0 : (Nat → Int32)) (t6_0 : (Nat → Int32)) (t7_0 : (Nat → Int32)) : Int32 × Int32 × Int32 × Int32 × Int32 × Int32 × Int32 × Int32 × (Nat → Int32) × (Nat → Int32) × (Nat → Int32) × (Nat → Int32) × (Nat → Int32) × (Nat → Int32) := if x2 < (0 : Int32) then (F_NM_wholeBy_J25 x2 x3 x4 x5 t0_0 t0_1 t0_2 t1_0 t1_1 t1_2 t1_3 t1_4 t1_5 t1_6 t2_0 t3_0 t4_0 t5_0 t6_0 t7_0) else (if (2 : Int32) < x2 then (F_NM_wholeBy_J25 x2 x3 x4 x5 t0_0 t0_1 t0_2 t1_0 t1_1 t1_2 t1_3 t1_4 t1_5 t1_6 t2_0 t3_0 t4_0 t5_0 t6_0 t7_0) else (if ((F_NM_no_IZ x3) : Int32) = (0 : Int32) then (if ((F_NM_no_IZ x5) : Int32) = (0 : Int32) then (F_NM_wholeBy_J30 x2 x3 x4 x5 t0_0 t0_1 t0_2 t1_0 t1_1 t1_2 t1_3 t1_4 t1_5 t1_6 t2_0 t3_0 t4_0 t5_0 t6_0 t7_0 0) else (F_NM_wholeBy_J25 x2 x3 x4 x5 t0_0 t0_1 t0_2 t1_0 t1_1 t1_2 t1_3 t1_4 t1_5 t1_6 t2_0 t3_0 t4_0 t5_0 t6_0 t7_0)) else (F_NM_wholeBy_J25 x2 x3 x4 x5 t0_0 t0_1 t0_2 t1_0 t1_1 t1_2 t1_3 t1_4 t1_5 t1_6 t2_0 t3_0 t4_0 t5_0 t6_0 t7_0)))
def S_NM_wholeBy_c86 (x2 : Int32) (x3 : Int32) (x4 : Int32) (x5 : Int32) (t0_0 : Int32) (t0_1 : Int32) (t0_2 : Int32) (t1_0 : Int32) (t1_1 : Int32) (t1_2 : Int32) (t1_3 : Int32) (t1_4 : Int32) (t1_5 : Int32) (t1_6 : Int32) (t2_0 : (Nat → Int32)) (t3_0 : (Nat → Int32)) (t4_0 : (Nat → Int32)) (t5_0 : (Nat → Int32)) (t6_0 : (Nat → Int32)) (t7_0 : (Nat → Int32)) (lx38 : Int32) (p96 : (Int32 × Int32 × Int32 × Int32 × Int32 × Int32 × Int32 × (Nat → Int32) × (Nat → Int32) × (Nat → Int32) × (Nat → Int32) × (Nat → Int32))) : Prop := True
def S_NM_wholeBy_c72 (x2 : Int32) (x3 : Int32) (x4 : Int32) (x5 : Int32) (t0_0 : Int32) (t0_1 : Int32) (t0_2 : Int32) (t1_0 : Int32) (t1_1 : Int32) (t1_2 : Int32) (t1_3 : Int32) (t1_4 : Int32) (t1_5 : Int32) (t1_6 : Int32) (t2_0 : (Nat → Int32)) (t3_0 : (Nat → Int32)) (t4_0 : (Nat → Int32)) (t5_0 : (Nat → Int32)) (t6_0 : (Nat → Int32)) (t7_0 : (Nat → Int32)) (lx38 : Int32) (p153 : (Int32 × Int32 × Int32 × Int32 × Int32 × Int32 × Int32 × (Nat → Int32) × (Nat → Int32) × (Nat → Int32) × (Nat → Int32) × (Nat → Int32) × (Nat → Int32))) : Prop := True
def S_NM_wholeBy_c53 (x2 : Int32) (x3 : Int32) (x4 : Int32) (x5 : Int32) (t0_0 : Int32) (t0_1 : Int32) (t0_2 : Int32) (t1_0 : Int32) (t1_1 : Int32) (t1_2 : Int32) (t1_3 : Int32) (t1_4 : Int32) (t1_5 : Int32) (t1_6 : Int32) (t2_0 : (Nat → Int32)) (t3_0 : (Nat → Int32)) (t4_0 : (Nat → Int32)) (t5_0 : (Nat → Int32)) (t6_0 : (Nat → Int32)) (t7_0 : (Nat → Int32)) (lx38 : Int32) (p209 : (Int32 × Int32 × Int32 × Int32 × Int32 × Int32 × Int32 × (Nat → Int32) × (Nat → Int32) × (Nat → Int32) × (Nat → Int32) × (Nat → Int32))) : Prop := True
def S_NM_wholeBy_J30 (x2 : Int32) (x3 : Int32) (x4 : Int32) (x5 : Int32) (t0_0 : Int32) (t0_1 : Int32) (t0_2 : Int32) (t1_0 : Int32) (t1_1 : Int32) (t1_2 : Int32) (t1_3 : Int32) (t1_4 : Int32) (t1_5 : Int32) (t1_6 : Int32) (t2_0 : (Nat → Int32)) (t3_0 : (Nat → Int32)) (t4_0 : (Nat → Int32)) (t5_0 : (Nat → Int32)) (t6_0 : (Nat → Int32)) (t7_0 : (Nat → Int32)) (lx38 : Int32) : Prop := if lx38 ≤ (0 : Int32) then (if x2 = (0 : Int32) then ((True ∧ S_WR_power x3 x4 x5 t1_0 t1_1 t1_2 t1_3 t1_4 t1_5 t1_6 t2_0 t3_0 t4_0 t6_0 t7_0) ∧ (S_NM_wholeBy_c53 x2 x3 x4 x5 t0_0 t0_1 t0_2 t1_0 t1_1 t1_2 t1_3 t1_4 t1_5 t1_6 t2_0 t3_0 t4_0 t5_0 t6_0 t7_0 lx38 ((F_WR_power x3 x4 x5 t1_0 t1_1 t1_2 t1_3 t1_4 t1_5 t1_6 t2_0 t3_0 t4_0 t6_0 t7_0) : (Int32 × Int32 × Int32 × Int32 × Int32 × Int32 × Int32 × (Nat → Int32) × (Nat → Int32) × (Nat → Int32) × (Nat → Int32) × (Nat → Int32))))) else (if x2 = (1 : Int32) then ((True ∧ S_WR_root x3 x4 x5 t1_0 t1_1 t1_2 t1_3 t1_4 t1_5 t1_6 t2_0 t3_0 t4_0 t5_0 t6_0 t7_0) ∧ (S_NM_wholeBy_c72 x2 x3 x4 x5 t0_0 t0_1 t0_2 t1_0 t1_1 t1_2 t1_3 t1_4 t1_5 t1_6 t2_0 t3_0 t4_0 t5_0 t6_0 t7_0 lx38 ((F_WR_root x3 x4 x5 t1_0 t1_1 t1_2 t1_3 t1_4 t1_5 t1_6 t2_0 t3_0 t4_0 t5_0 t6_0 t7_0) : (Int32 × Int32 × Int32 × Int32 × Int32 × Int32 × Int32 × (Nat → Int32) × (Nat → Int32) × (Nat → Int32) × (Nat → Int32) × (Nat → Int32) × (Nat → Int32))))) else ((True ∧ S_WR_shift x3 x4 x5 t1_0 t1_1 t1_2 t1_3 t1_4 t1_5 t1_6 t2_0 t3_0 t4_0 t5_0 t7_0) ∧ (S_NM_wholeBy_c86 x2 x3 x4 x5 t0_0 t0_1 t0_2 t1_0 t1_1 t1_2 t1_3 t1_4 t1_5 t1_6 t2_0 t3_0 t4_0 t5_0 t6_0 t7_0 lx38 ((F_WR_shift x3 x4 x5 t1_0 t1_1 t1_2 t1_3 t1_4 t1_5 t1_6 t2_0 t3_0 t4_0 t5_0 t7_0) : (Int32 × Int32 × Int32 × Int32 × Int32 × Int32 × Int32 × (Nat → Int32) × (Nat → Int32) × (Nat → Int32) × (Nat → Int32) × (Nat → Int32))))))) else (True)
def S_NM_wholeBy_J25 (x2 : Int32) (x3 : Int32) (x4 : Int32) (x5 : Int32) (t0_0 : Int32) (t0_1 : Int32) (t0_2 : Int32) (t1_0 : Int32) (t1_1 : Int32) (t1_2 : Int32) (t1_3 : Int32) (t1_4 : Int32) (t1_5 : Int32) (t1_6 : Int32) (t2_0 : (Nat → Int32)) (t3_0 : (Nat → Int32)) (t4_0 : (Nat → Int32)) (t5_0 : (Nat → Int32)) (t6_0 : (Nat → Int32)) (t7_0 : (Nat → Int32)) : Prop := S_NM_wholeBy_J30 x2 x3 x4 x5 t0_0 t0_1 t0_2 t1_0 t1_1 t1_2 t1_3 t1_4 t1_5 t1_6 t2_0 t3_0 t4_0 t5_0 t6_0 t7_0 1
def S_NM_wholeBy (x2 : Int32) (x3 : Int32) (x4 : Int32) (x5 : Int32) (t0_0 : Int32) (t0_1 : Int32) (t0_2 : Int32) (t1_0 : Int32) (t1_1 : Int32) (t1_2 : Int32) (t1_3 : Int32) (t1_4 : Int32) (t1_5 : Int32) (t1_6 : Int32) (t2_0 : (Nat → Int32)) (t3_0 : (Nat → Int32)) (t4_0 : (Nat → Int32)) (t5_0 : (Nat → Int32)) (t6_0 : (Nat → Int32)) (t7_0 : (Nat → Int32)) : Prop := if x2 < (0 : Int32) then (S_NM_wholeBy_J25 x2 x3 x4 x5 t0_0 t0_1 t0_2 t1_0 t1_1 t1_2 t1_3 t1_4 t1_5 t1_6 t2_0 t3_0 t4_0 t5_0 t6_0 t7_0) else (if (2 : Int32) < x2 then (S_NM_wholeBy_J25 x2 x3 x4 x5 t0_0 t0_1 t0_2 t1_0 t1_1 t1_2 t1_3 t1_4 t1_5 t1_6 t2_0 t3_0 t4_0 t5_0 t6_0 t7_0) else (if ((F_NM_no_IZ x3) : Int32) = (0 : Int32) then (if ((F_NM_no_IZ x5) : Int32) = (0 : Int32) then (S_NM_wholeBy_J30 x2 x3 x4 x5 t0_0 t0_1 t0_2 t1_0 t1_1 t1_2 t1_3 t1_4 t1_5 t1_6 t2_0 t3_0 t4_0 t5_0 t6_0 t7_0 0) else (S_NM_wholeBy_J25 x2 x3 x4 x5 t0_0 t0_1 t0_2 t1_0 t1_1 t1_2 t1_3 t1_4 t1_5 t1_6 t2_0 t3_0 t4_0 t5_0 t6_0 t7_0)) else (S_NM_wholeBy_J25 x2 x3 x4 x5 t0_0 t0_1 t0_2 t1_0 t1_1 t1_2 t1_3 t1_4 t1_5 t1_6 t2_0 t3_0 t4_0 t5_0 t6_0 t7_0)))
set_option maxRecDepth 100000 in
set_option maxHeartbeats 4000000 in
theorem X_NM_wholeBy (l : Launch) (D : va_G) (g : Nat → ClassId) (q : Nat → Nat) (ws : va_W) (x2 : Int32) (x3 : Int32) (x4 : Int32) (x5 : Int32) (hI : q_I (msh g q) q ws) (t0_0 : Int32) (t0_1 : Int32) (t0_2 : Int32) (hT0 : ws[116]? = (some (q 116, .inr (12, [.int t0_0, .ref (q 117), .int t0_1, .ref (q 118), .int t0_2, .ref (q 119), .ref (q 134), .ref (q 145), .ref (q 153), .ref (q 157), .ref (q 167), .ref (q 168)])) : Option (Nat × va_E))) (t1_0 : Int32) (t1_1 : Int32) (t1_2 : Int32) (t1_3 : Int32) (t1_4 : Int32) (t1_5 : Int32) (t1_6 : Int32) (hT1 : ws[119]? = (some (q 119, .inr (13, [.int t1_0, .int t1_1, .ref (q 120), .int t1_2, .ref (q 121), .ref (q 122), .ref (q 123), .int t1_3, .ref (q 124), .ref (q 125), .ref (q 126), .ref (q 127), .ref (q 128), .ref (q 129), .ref (q 130), .ref (q 131), .int t1_4, .int t1_5, .ref (q 132), .ref (q 133), .int t1_6])) : Option (Nat × va_E))) (t2_0 : (Nat → Int32)) (hT2 : ws[121]? = (some (q 121, .inl (g 0, (1408 : Int32).toNatClampNeg, .inl t2_0)) : Option (Nat × va_E))) (t3_0 : (Nat → Int32)) (hT3 : ws[122]? = (some (q 122, .inl (g 3, 11, .inl t3_0)) : Option (Nat × va_E))) (t4_0 : (Nat → Int32)) (hT4 : ws[123]? = (some (q 123, .inl (g 0, (264 : Int32).toNatClampNeg, .inl t4_0)) : Option (Nat × va_E))) (t5_0 : (Nat → Int32)) (hT5 : ws[124]? = (some (q 124, .inl (g 0, (264 : Int32).toNatClampNeg, .inl t5_0)) : Option (Nat × va_E))) (t6_0 : (Nat → Int32)) (hT6 : ws[125]? = (some (q 125, .inl (g 0, (528 : Int32).toNatClampNeg, .inl t6_0)) : Option (Nat × va_E))) (t7_0 : (Nat → Int32)) (hT7 : ws[128]? = (some (q 128, .inl (g 0, (264 : Int32).toNatClampNeg, .inl t7_0)) : Option (Nat × va_E))) (hS : True ∧ S_NM_wholeBy x2 x3 x4 x5 t0_0 t0_1 t0_2 t1_0 t1_1 t1_2 t1_3 t1_4 t1_5 t1_6 t2_0 t3_0 t4_0 t5_0 t6_0 t7_0) : q_mV l y_NM_wholeBy prog_14_method_21_code 5 5 0 0 D g [.ref (q 116), .int x2, .int x3, .int x4, .int x5] ws (fun u => q_I (msh g q) q u ∧ q_un ws u [116, 119, 121, 122, 123, 124, 125, 128] ∧ ∃ (u0_0 : Int32) (u1_0 : Int32) (u1_1 : Int32) (u1_2 : Int32) (u1_3 : Int32) (u1_4 : Int32) (u1_5 : Int32) (u1_6 : Int32) (u2_0 : (Nat → Int32)) (u3_0 : (Nat → Int32)) (u4_0 : (Nat → Int32)) (u5_0 : (Nat → Int32)) (u6_0 : (Nat → Int32)) (u7_0 : (Nat → Int32)), u[116]? = (some (q 116, .inr (12, [.int u0_0, .ref (q 117), .int t0_1, .ref (q 118), .int t0_2, .ref (q 119), .ref (q 134), .ref (q 145), .ref (q 153), .ref (q 157), .ref (q 167), .ref (q 168)])) : Option (Nat × va_E)) ∧ u[119]? = (some (q 119, .inr (13, [.int u1_0, .int u1_1, .ref (q 120), .int u1_2, .ref (q 121), .ref (q 122), .ref (q 123), .int u1_3, .ref (q 124), .ref (q 125), .ref (q 126), .ref (q 127), .ref (q 128), .ref (q 129), .ref (q 130), .ref (q 131), .int u1_4, .int u1_5, .ref (q 132), .ref (q 133), .int u1_6])) : Option (Nat × va_E)) ∧ u[121]? = (some (q 121, .inl (g 0, (1408 : Int32).toNatClampNeg, .inl u2_0)) : Option (Nat × va_E)) ∧ u[122]? = (some (q 122, .inl (g 3, 11, .inl u3_0)) : Option (Nat × va_E)) ∧ u[123]? = (some (q 123, .inl (g 0, (264 : Int32).toNatClampNeg, .inl u4_0)) : Option (Nat × va_E)) ∧ u[124]? = (some (q 124, .inl (g 0, (264 : Int32).toNatClampNeg, .inl u5_0)) : Option (Nat × va_E)) ∧ u[125]? = (some (q 125, .inl (g 0, (528 : Int32).toNatClampNeg, .inl u6_0)) : Option (Nat × va_E)) ∧ u[128]? = (some (q 128, .inl (g 0, (264 : Int32).toNatClampNeg, .inl u7_0)) : Option (Nat × va_E)) ∧ (0 ≤ u1_3.toInt) ∧ (u1_3.toInt ≤ 1) ∧ (t1_2.toInt ≤ u1_2.toInt) ∧ (u1_2.toInt ≤ t1_2.toInt) ∧ (t1_4.toInt ≤ u1_4.toInt) ∧ (u1_4.toInt ≤ t1_4.toInt) ∧ (t1_5.toInt ≤ u1_5.toInt) ∧ (u1_5.toInt ≤ t1_5.toInt) ∧ (t1_6.toInt ≤ u1_6.toInt) ∧ (u1_6.toInt ≤ t1_6.toInt) ∧ (u0_0, u1_0, u1_1, u1_2, u1_3, u1_4, u1_5, u1_6, u2_0, u3_0, u4_0, u5_0, u6_0, u7_0) = (F_NM_wholeBy x2 x3 x4 x5 t0_0 t0_1 t0_2 t1_0 t1_1 t1_2 t1_3 t1_4 t1_5 t1_6 t2_0 t3_0 t4_0 t5_0 t6_0 t7_0)) := by
  intro sz
  refine q_into (by decide) (Nat.le_of_ble_eq_true rfl) ?_
  intro p e s m below meth c ls hsz C0 V hl
  have hx := C0.1
  have hb := C0.2.1
  obtain ⟨btt0_1, btt0_2⟩ := n_w116 hI hT0
  replace btt0_1 : q_F (0 ≤ t0_1.toInt ∧ t0_1.toInt ≤ 4100) := btt0_1
  replace btt0_2 : q_F (0 ≤ t0_2.toInt ∧ t0_2.toInt ≤ 12200) := btt0_2
  have hZ9 := (n_w119 hI hT1).2
  obtain ⟨btt1_3, hZ9⟩ := hZ9
  replace hZ9 := hZ9.2
  obtain ⟨-, btt1_6⟩ := hZ9
  replace btt1_3 : q_F (0 ≤ t1_3.toInt ∧ t1_3.toInt ≤ 1) := btt1_3
  clear btt1_6
  have hF : q_un ws ws [116, 119, 121, 122, 123, 124, 125, 128] := q_u0
  have hl : lv_has ls 5 [(0, .ref (q 116)), (1, .int x2), (2, .int x3), (3, .int x4), (4, .int x5)] := hl
  refine lv_aload_n hx hb d_14_21_0 rfl (lv_at hl 0 rfl) ?_
  refine lv_iload_n hx hb d_14_21_1 rfl (lv_at hl 1 rfl) ?_
  refine q_join (X := Int32) (fun z H locs ls _ => q_F (0 ≤ z.toInt) ∧ q_F (z.toInt ≤ 1) ∧ q_Wd D g (va_A ws sz) s ws H locs ∧ lv_has ls 5 [(0, .ref (q 116)), (1, .int x2), (2, .int x3), (3, .int x4), (4, .int x5)] ∧ F_NM_wholeBy_J30 x2 x3 x4 x5 t0_0 t0_1 t0_2 t1_0 t1_1 t1_2 t1_3 t1_4 t1_5 t1_6 t2_0 t3_0 t4_0 t5_0 t6_0 t7_0 z = (F_NM_wholeBy x2 x3 x4 x5 t0_0 t0_1 t0_2 t1_0 t1_1 t1_2 t1_3 t1_4 t1_5 t1_6 t2_0 t3_0 t4_0 t5_0 t6_0 t7_0) ∧ True ∧ S_NM_wholeBy_J30 x2 x3 x4 x5 t0_0 t0_1 t0_2 t1_0 t1_1 t1_2 t1_3 t1_4 t1_5 t1_6 t2_0 t3_0 t4_0 t5_0 t6_0 t7_0 z) (fun z => [.int z, .ref (q 116)]) 30 0 0 ?_ ?_
  ·
    rintro lx38 H locs ls _ hZ9
    replace hZ9 := hZ9.2.2
    obtain ⟨V, hZ9⟩ := hZ9
    obtain ⟨hl, hZ9⟩ := hZ9
    obtain ⟨hR50, hS51⟩ := hZ9
    replace hl : lv_has ls 5 [(0, .ref (q 116)), (1, .int x2), (2, .int x3), (3, .int x4), (4, .int x5)] := hl
    refine q_put (ci := 12) (j := 0) (v := .int lx38) (ty := .int) C0 V i_NM o_NM n_NM rfl rfl hT0 (by decide) w_2298 rfl rfl rfl rfl (Nat.le_of_ble_eq_true rfl) d_14_21_30 (fun H locs w55 hu56 hT0 V => ?_)
    replace hT0 : w55[116]? = (some (q 116, .inr (12, [.int lx38, .ref (q 117), .int t0_1, .ref (q 118), .int t0_2, .ref (q 119), .ref (q 134), .ref (q 145), .ref (q 153), .ref (q 157), .ref (q 167), .ref (q 168)])) : Option (Nat × va_E)) := hT0
    replace hI := n_p116 hI hu56 hT0 (by first | with_reducible exact q_fe btt0_1 | exact ⟨(by have t1 : 0 ≤ t0_1.toInt ∧ t0_1.toInt ≤ 4100 := btt0_1; omega), (by have t1 : 0 ≤ t0_1.toInt ∧ t0_1.toInt ≤ 4100 := btt0_1; omega)⟩) (by first | with_reducible exact q_fe btt0_2 | exact ⟨(by have t1 : 0 ≤ t0_2.toInt ∧ t0_2.toInt ≤ 12200 := btt0_2; omega), (by have t1 : 0 ≤ t0_2.toInt ∧ t0_2.toInt ≤ 12200 := btt0_2; omega)⟩)
    replace hT1 := (hu56 _ (by decide)).trans hT1
    replace hT2 := (hu56 _ (by decide)).trans hT2
    replace hT3 := (hu56 _ (by decide)).trans hT3
    replace hT4 := (hu56 _ (by decide)).trans hT4
    replace hT5 := (hu56 _ (by decide)).trans hT5
    replace hT6 := (hu56 _ (by decide)).trans hT6
    replace hT7 := (hu56 _ (by decide)).trans hT7
    replace hF := q_us hF hu56 (by simp)
    refine lv_aload_n hx hb d_14_21_33 rfl (lv_at hl 0 rfl) ?_
    refine q_get (ci := 12) (j := 0) (v := .int lx38) C0 V i_NM rfl rfl hT0 (by decide) w_2298 rfl d_14_21_34 ?_
    refine lv_if_le (tgt := 41) hx hb d_14_21_37 (by decide) (fun c57 => ?_) (fun c57 => ?_)
    ·
      refine lv_iload_n hx hb d_14_21_41 rfl (lv_at hl 1 rfl) ?_
      refine lv_if_ne (tgt := 59) hx hb d_14_21_42 (by decide) (fun c59 => ?_) (fun c59 => ?_)
      ·
        refine lv_iload_n hx hb d_14_21_59 rfl (lv_at hl 1 rfl) ?_
        refine lv_iconst (v := 1) hx hb d_14_21_60 (by decide) ?_
        refine lv_icmp_ne (tgt := 78) hx hb d_14_21_61 (by decide) (fun c61 => ?_) (fun c61 => ?_)
        ·
          refine lv_aload_n hx hb d_14_21_78 rfl (lv_at hl 0 rfl) ?_
          refine q_get (ci := 12) (j := 5) (v := .ref (q 119)) C0 V i_NM rfl rfl hT0 (by decide) w_2303 rfl d_14_21_79 ?_
          refine lv_iload_n hx hb d_14_21_82 rfl (lv_at hl 2 rfl) ?_
          refine lv_iload_n hx hb d_14_21_83 rfl (lv_at hl 3 rfl) ?_
          refine lv_iload hx hb d_14_21_84 (lv_at hl 4 rfl) ?_
          have ob63 : True ∧ S_WR_shift x3 x4 x5 t1_0 t1_1 t1_2 t1_3 t1_4 t1_5 t1_6 t2_0 t3_0 t4_0 t5_0 t7_0 := (by have h := hS51; rw [S_NM_wholeBy_J30.eq_1] at h; rw [if_pos c57] at h; rw [if_neg c59] at h; rw [if_neg c61] at h; with_reducible exact h.2.1)
          refine q_gov V (q_runV (As := [.int x3, .int x4, .int x5]) (rest := []) (d := 3) (mc := 0) (ms := 0) (ci := 13) C0 V rfl LV_NM_197 (X_WR_shift l D g q w55  x3 x4 x5 hI t1_0 t1_1 t1_2 t1_3 t1_4 t1_5 t1_6 hT1 t2_0 hT2 t3_0 hT3 t4_0 hT4 t5_0 hT5 t7_0 hT7 ob63 _) rfl rfl hT1 rfl hl.1 rfl (Nat.le_of_ble_eq_true rfl) ⟨by decide, by decide⟩ ⟨Nat.le_of_ble_eq_true rfl, Nat.le_of_ble_eq_true rfl⟩ d_14_21_86) (fun u64 H locs hp65 V => ?_)
          obtain ⟨hI, hZ9⟩ := hp65
          obtain ⟨hu95, hZ9⟩ := hZ9
          obtain ⟨y67, hZ9⟩ := hZ9
          obtain ⟨y68, hZ9⟩ := hZ9
          obtain ⟨y69, hZ9⟩ := hZ9
          obtain ⟨y70, hZ9⟩ := hZ9
          obtain ⟨y71, hZ9⟩ := hZ9
          obtain ⟨y72, hZ9⟩ := hZ9
          obtain ⟨y73, hZ9⟩ := hZ9
          obtain ⟨f74, hZ9⟩ := hZ9
          obtain ⟨f76, hZ9⟩ := hZ9
          obtain ⟨f78, hZ9⟩ := hZ9
          obtain ⟨f80, hZ9⟩ := hZ9
          obtain ⟨f82, hZ9⟩ := hZ9
          obtain ⟨hO66, hZ9⟩ := hZ9
          obtain ⟨hA75, hZ9⟩ := hZ9
          obtain ⟨hA77, hZ9⟩ := hZ9
          obtain ⟨hA79, hZ9⟩ := hZ9
          obtain ⟨hA81, hZ9⟩ := hZ9
          obtain ⟨hA83, hZ9⟩ := hZ9
          obtain ⟨b84, hZ9⟩ := hZ9
          obtain ⟨b85, hZ9⟩ := hZ9
          obtain ⟨b86, hZ9⟩ := hZ9
          obtain ⟨b87, hZ9⟩ := hZ9
          obtain ⟨b88, hZ9⟩ := hZ9
          obtain ⟨b89, hZ9⟩ := hZ9
          obtain ⟨b90, hZ9⟩ := hZ9
          obtain ⟨b91, hZ9⟩ := hZ9
          obtain ⟨b92, hZ9⟩ := hZ9
          obtain ⟨b93, hE94⟩ := hZ9
          replace hO66 : u64[119]? = (some (q 119, .inr (13, [.int y67, .int y68, .ref (q 120), .int y69, .ref (q 121), .ref (q 122), .ref (q 123), .int y70, .ref (q 124), .ref (q 125), .ref (q 126), .ref (q 127), .ref (q 128), .ref (q 129), .ref (q 130), .ref (q 131), .int y71, .int y72, .ref (q 132), .ref (q 133), .int y73])) : Option (Nat × va_E)) := hO66
          replace hA75 : u64[121]? = (some (q 121, .inl (g 0, (1408 : Int32).toNatClampNeg, .inl f74)) : Option (Nat × va_E)) := hA75
          replace hA77 : u64[122]? = (some (q 122, .inl (g 3, 11, .inl f76)) : Option (Nat × va_E)) := hA77
          replace hA79 : u64[123]? = (some (q 123, .inl (g 0, (264 : Int32).toNatClampNeg, .inl f78)) : Option (Nat × va_E)) := hA79
          replace hA81 : u64[124]? = (some (q 124, .inl (g 0, (264 : Int32).toNatClampNeg, .inl f80)) : Option (Nat × va_E)) := hA81
          replace hA83 : u64[128]? = (some (q 128, .inl (g 0, (264 : Int32).toNatClampNeg, .inl f82)) : Option (Nat × va_E)) := hA83
          obtain ⟨p96, e97⟩ : ∃ z, z = (F_WR_shift x3 x4 x5 t1_0 t1_1 t1_2 t1_3 t1_4 t1_5 t1_6 t2_0 t3_0 t4_0 t5_0 t7_0) := ⟨_, rfl⟩
          have e98 : y67 = p96.1 := congrArg (fun z => z.1) (hE94.trans e97.symm)
          have e99 : y68 = p96.2.1 := congrArg (fun z => z.2.1) (hE94.trans e97.symm)
          have e100 : y69 = p96.2.2.1 := congrArg (fun z => z.2.2.1) (hE94.trans e97.symm)
          have e101 : y70 = p96.2.2.2.1 := congrArg (fun z => z.2.2.2.1) (hE94.trans e97.symm)
          have e102 : y71 = p96.2.2.2.2.1 := congrArg (fun z => z.2.2.2.2.1) (hE94.trans e97.symm)
          have e103 : y72 = p96.2.2.2.2.2.1 := congrArg (fun z => z.2.2.2.2.2.1) (hE94.trans e97.symm)
          have e104 : y73 = p96.2.2.2.2.2.2.1 := congrArg (fun z => z.2.2.2.2.2.2.1) (hE94.trans e97.symm)
          have e105 : f74 = p96.2.2.2.2.2.2.2.1 := congrArg (fun z => z.2.2.2.2.2.2.2.1) (hE94.trans e97.symm)
          have e106 : f76 = p96.2.2.2.2.2.2.2.2.1 := congrArg (fun z => z.2.2.2.2.2.2.2.2.1) (hE94.trans e97.symm)
          have e107 : f78 = p96.2.2.2.2.2.2.2.2.2.1 := congrArg (fun z => z.2.2.2.2.2.2.2.2.2.1) (hE94.trans e97.symm)
          have e108 : f80 = p96.2.2.2.2.2.2.2.2.2.2.1 := congrArg (fun z => z.2.2.2.2.2.2.2.2.2.2.1) (hE94.trans e97.symm)
          have e109 : f82 = p96.2.2.2.2.2.2.2.2.2.2.2 := congrArg (fun z => z.2.2.2.2.2.2.2.2.2.2.2) (hE94.trans e97.symm)
          replace b84 : q_F (0 ≤ y70.toInt) := b84
          replace b85 : q_F (y70.toInt ≤ 1) := b85
          replace b86 : q_F (t1_2.toInt ≤ y69.toInt) := b86
          replace b87 : q_F (y69.toInt ≤ t1_2.toInt) := b87
          replace b88 : q_F (t1_4.toInt ≤ y71.toInt) := b88
          replace b89 : q_F (y71.toInt ≤ t1_4.toInt) := b89
          replace b90 : q_F (t1_5.toInt ≤ y72.toInt) := b90
          replace b91 : q_F (y72.toInt ≤ t1_5.toInt) := b91
          replace b92 : q_F (t1_6.toInt ≤ y73.toInt) := b92
          replace b93 : q_F (y73.toInt ≤ t1_6.toInt) := b93
          replace hT0 := (hu95 _ (by decide)).trans hT0
          replace hT6 := (hu95 _ (by decide)).trans hT6
          replace hF := q_uc hF hu95 (by simp)
          have hR110 := (show F_NM_wholeBy_c86 x2 x3 x4 x5 t0_0 t0_1 t0_2 t1_0 t1_1 t1_2 t1_3 t1_4 t1_5 t1_6 t2_0 t3_0 t4_0 t5_0 t6_0 t7_0 lx38 p96 = (F_NM_wholeBy x2 x3 x4 x5 t0_0 t0_1 t0_2 t1_0 t1_1 t1_2 t1_3 t1_4 t1_5 t1_6 t2_0 t3_0 t4_0 t5_0 t6_0 t7_0) from Eq.trans (by rw [e97, F_NM_wholeBy_J30.eq_1, if_pos c57, if_neg c59, if_neg c61]) hR50)
          have hS111 := (show True ∧ S_NM_wholeBy_c86 x2 x3 x4 x5 t0_0 t0_1 t0_2 t1_0 t1_1 t1_2 t1_3 t1_4 t1_5 t1_6 t2_0 t3_0 t4_0 t5_0 t6_0 t7_0 lx38 p96 from (by rw [e97]; have h := hS51; rw [S_NM_wholeBy_J30.eq_1] at h; rw [if_pos c57] at h; rw [if_neg c59] at h; rw [if_neg c61] at h; replace h := q_s2 h; with_reducible exact h))
          refine lv_aload_n hx hb d_14_21_89 rfl (lv_at hl 0 rfl) ?_
          refine lv_aload_n hx hb d_14_21_90 rfl (lv_at hl 0 rfl) ?_
          refine q_get (ci := 12) (j := 5) (v := .ref (q 119)) C0 V i_NM rfl rfl hT0 (by decide) w_2303 rfl d_14_21_91 ?_
          refine q_getN (ci := 13) (j := 0) (v := .int y67) C0 V i_WR rfl rfl hO66 (by decide) wo_1922 rfl d_14_21_94 ?_
          refine q_put (ci := 12) (j := 0) (v := .int y67) (ty := .int) C0 V i_NM o_NM n_NM rfl rfl hT0 (by decide) w_2298 rfl rfl rfl rfl (Nat.le_of_ble_eq_true rfl) d_14_21_97 (fun H locs w115 hu116 hT0 V => ?_)
          replace hT0 : w115[116]? = (some (q 116, .inr (12, [.int y67, .ref (q 117), .int t0_1, .ref (q 118), .int t0_2, .ref (q 119), .ref (q 134), .ref (q 145), .ref (q 153), .ref (q 157), .ref (q 167), .ref (q 168)])) : Option (Nat × va_E)) := hT0
          replace hI := n_p116 hI hu116 hT0 (by first | with_reducible exact q_fe btt0_1 | exact ⟨(by have t1 : 0 ≤ t0_1.toInt ∧ t0_1.toInt ≤ 4100 := btt0_1; omega), (by have t1 : 0 ≤ t0_1.toInt ∧ t0_1.toInt ≤ 4100 := btt0_1; omega)⟩) (by first | with_reducible exact q_fe btt0_2 | exact ⟨(by have t1 : 0 ≤ t0_2.toInt ∧ t0_2.toInt ≤ 12200 := btt0_2; omega), (by have t1 : 0 ≤ t0_2.toInt ∧ t0_2.toInt ≤ 12200 := btt0_2; omega)⟩)
          replace hO66 := (hu116 _ (by decide)).trans hO66
          replace hA75 := (hu116 _ (by decide)).trans hA75
          replace hA77 := (hu116 _ (by decide)).trans hA77
          replace hA79 := (hu116 _ (by decide)).trans hA79
          replace hA81 := (hu116 _ (by decide)).trans hA81
          replace hT6 := (hu116 _ (by decide)).trans hT6
          replace hA83 := (hu116 _ (by decide)).trans hA83
          replace hF := q_us hF hu116 (by simp)
          exact q_retv C0 V (⟨hI, hF, y67, y67, y68, y69, y70, y71, y72, y73, f74, f76, f78, f80, t6_0, f82, hT0, hO66, hA75, hA77, hA79, hA81, hT6, hA83, (show 0 ≤ y70.toInt from (by first | with_reducible exact q_fe b84 | (have t1 : 0 ≤ y70.toInt := b84; omega))), (show y70.toInt ≤ 1 from (by first | with_reducible exact q_fe b85 | (have t1 : y70.toInt ≤ 1 := b85; omega))), (show t1_2.toInt ≤ y69.toInt from (by first | with_reducible exact q_fe b86 | (have t1 : t1_2.toInt ≤ y69.toInt := b86; omega))), (show y69.toInt ≤ t1_2.toInt from (by first | with_reducible exact q_fe b87 | (have t1 : y69.toInt ≤ t1_2.toInt := b87; omega))), (show t1_4.toInt ≤ y71.toInt from (by first | with_reducible exact q_fe b88 | (have t1 : t1_4.toInt ≤ y71.toInt := b88; omega))), (show y71.toInt ≤ t1_4.toInt from (by first | with_reducible exact q_fe b89 | (have t1 : y71.toInt ≤ t1_4.toInt := b89; omega))), (show t1_5.toInt ≤ y72.toInt from (by first | with_reducible exact q_fe b90 | (have t1 : t1_5.toInt ≤ y72.toInt := b90; omega))), (show y72.toInt ≤ t1_5.toInt from (by first | with_reducible exact q_fe b91 | (have t1 : y72.toInt ≤ t1_5.toInt := b91; omega))), (show t1_6.toInt ≤ y73.toInt from (by first | with_reducible exact q_fe b92 | (have t1 : t1_6.toInt ≤ y73.toInt := b92; omega))), (show y73.toInt ≤ t1_6.toInt from (by first | with_reducible exact q_fe b93 | (have t1 : y73.toInt ≤ t1_6.toInt := b93; omega))), (show (y67, y67, y68, y69, y70, y71, y72, y73, f74, f76, f78, f80, t6_0, f82) = (F_NM_wholeBy x2 x3 x4 x5 t0_0 t0_1 t0_2 t1_0 t1_1 t1_2 t1_3 t1_4 t1_5 t1_6 t2_0 t3_0 t4_0 t5_0 t6_0 t7_0) from Eq.trans (by rw [e109, e108, e107, e106, e105, e104, e103, e102, e101, e100, e99, e98, F_NM_wholeBy_c86.eq_1]) hR110)⟩) d_14_21_100
        ·
          refine lv_aload_n hx hb d_14_21_64 rfl (lv_at hl 0 rfl) ?_
          refine q_get (ci := 12) (j := 5) (v := .ref (q 119)) C0 V i_NM rfl rfl hT0 (by decide) w_2303 rfl d_14_21_65 ?_
          refine lv_iload_n hx hb d_14_21_68 rfl (lv_at hl 2 rfl) ?_
          refine lv_iload_n hx hb d_14_21_69 rfl (lv_at hl 3 rfl) ?_
          refine lv_iload hx hb d_14_21_70 (lv_at hl 4 rfl) ?_
          have ob118 : True ∧ S_WR_root x3 x4 x5 t1_0 t1_1 t1_2 t1_3 t1_4 t1_5 t1_6 t2_0 t3_0 t4_0 t5_0 t6_0 t7_0 := (by have h := hS51; rw [S_NM_wholeBy_J30.eq_1] at h; rw [if_pos c57] at h; rw [if_neg c59] at h; rw [if_pos c61] at h; with_reducible exact h.2.1)
          refine q_gov V (q_runV (As := [.int x3, .int x4, .int x5]) (rest := []) (d := 4) (mc := 0) (ms := 0) (ci := 13) C0 V rfl LV_NM_194 (X_WR_root l D g q w55  x3 x4 x5 hI t1_0 t1_1 t1_2 t1_3 t1_4 t1_5 t1_6 hT1 t2_0 hT2 t3_0 hT3 t4_0 hT4 t5_0 hT5 t6_0 hT6 t7_0 hT7 ob118 _) rfl rfl hT1 rfl hl.1 rfl (Nat.le_of_ble_eq_true rfl) ⟨by decide, by decide⟩ ⟨Nat.le_of_ble_eq_true rfl, Nat.le_of_ble_eq_true rfl⟩ d_14_21_72) (fun u119 H locs hp120 V => ?_)
          obtain ⟨hI, hZ9⟩ := hp120
          obtain ⟨hu152, hZ9⟩ := hZ9
          obtain ⟨y122, hZ9⟩ := hZ9
          obtain ⟨y123, hZ9⟩ := hZ9
          obtain ⟨y124, hZ9⟩ := hZ9
          obtain ⟨y125, hZ9⟩ := hZ9
          obtain ⟨y126, hZ9⟩ := hZ9
          obtain ⟨y127, hZ9⟩ := hZ9
          obtain ⟨y128, hZ9⟩ := hZ9
          obtain ⟨f129, hZ9⟩ := hZ9
          obtain ⟨f131, hZ9⟩ := hZ9
          obtain ⟨f133, hZ9⟩ := hZ9
          obtain ⟨f135, hZ9⟩ := hZ9
          obtain ⟨f137, hZ9⟩ := hZ9
          obtain ⟨f139, hZ9⟩ := hZ9
          obtain ⟨hO121, hZ9⟩ := hZ9
          obtain ⟨hA130, hZ9⟩ := hZ9
          obtain ⟨hA132, hZ9⟩ := hZ9
          obtain ⟨hA134, hZ9⟩ := hZ9
          obtain ⟨hA136, hZ9⟩ := hZ9
          obtain ⟨hA138, hZ9⟩ := hZ9
          obtain ⟨hA140, hZ9⟩ := hZ9
          obtain ⟨b141, hZ9⟩ := hZ9
          obtain ⟨b142, hZ9⟩ := hZ9
          obtain ⟨b143, hZ9⟩ := hZ9
          obtain ⟨b144, hZ9⟩ := hZ9
          obtain ⟨b145, hZ9⟩ := hZ9
          obtain ⟨b146, hZ9⟩ := hZ9
          obtain ⟨b147, hZ9⟩ := hZ9
          obtain ⟨b148, hZ9⟩ := hZ9
          obtain ⟨b149, hZ9⟩ := hZ9
          obtain ⟨b150, hE151⟩ := hZ9
          replace hO121 : u119[119]? = (some (q 119, .inr (13, [.int y122, .int y123, .ref (q 120), .int y124, .ref (q 121), .ref (q 122), .ref (q 123), .int y125, .ref (q 124), .ref (q 125), .ref (q 126), .ref (q 127), .ref (q 128), .ref (q 129), .ref (q 130), .ref (q 131), .int y126, .int y127, .ref (q 132), .ref (q 133), .int y128])) : Option (Nat × va_E)) := hO121
          replace hA130 : u119[121]? = (some (q 121, .inl (g 0, (1408 : Int32).toNatClampNeg, .inl f129)) : Option (Nat × va_E)) := hA130
          replace hA132 : u119[122]? = (some (q 122, .inl (g 3, 11, .inl f131)) : Option (Nat × va_E)) := hA132
          replace hA134 : u119[123]? = (some (q 123, .inl (g 0, (264 : Int32).toNatClampNeg, .inl f133)) : Option (Nat × va_E)) := hA134
          replace hA136 : u119[124]? = (some (q 124, .inl (g 0, (264 : Int32).toNatClampNeg, .inl f135)) : Option (Nat × va_E)) := hA136
          replace hA138 : u119[125]? = (some (q 125, .inl (g 0, (528 : Int32).toNatClampNeg, .inl f137)) : Option (Nat × va_E)) := hA138
          replace hA140 : u119[128]? = (some (q 128, .inl (g 0, (264 : Int32).toNatClampNeg, .inl f139)) : Option (Nat × va_E)) := hA140
          obtain ⟨p153, e154⟩ : ∃ z, z = (F_WR_root x3 x4 x5 t1_0 t1_1 t1_2 t1_3 t1_4 t1_5 t1_6 t2_0 t3_0 t4_0 t5_0 t6_0 t7_0) := ⟨_, rfl⟩
          have e155 : y122 = p153.1 := congrArg (fun z => z.1) (hE151.trans e154.symm)
          have e156 : y123 = p153.2.1 := congrArg (fun z => z.2.1) (hE151.trans e154.symm)
          have e157 : y124 = p153.2.2.1 := congrArg (fun z => z.2.2.1) (hE151.trans e154.symm)
          have e158 : y125 = p153.2.2.2.1 := congrArg (fun z => z.2.2.2.1) (hE151.trans e154.symm)
          have e159 : y126 = p153.2.2.2.2.1 := congrArg (fun z => z.2.2.2.2.1) (hE151.trans e154.symm)
          have e160 : y127 = p153.2.2.2.2.2.1 := congrArg (fun z => z.2.2.2.2.2.1) (hE151.trans e154.symm)
          have e161 : y128 = p153.2.2.2.2.2.2.1 := congrArg (fun z => z.2.2.2.2.2.2.1) (hE151.trans e154.symm)
          have e162 : f129 = p153.2.2.2.2.2.2.2.1 := congrArg (fun z => z.2.2.2.2.2.2.2.1) (hE151.trans e154.symm)
          have e163 : f131 = p153.2.2.2.2.2.2.2.2.1 := congrArg (fun z => z.2.2.2.2.2.2.2.2.1) (hE151.trans e154.symm)
          have e164 : f133 = p153.2.2.2.2.2.2.2.2.2.1 := congrArg (fun z => z.2.2.2.2.2.2.2.2.2.1) (hE151.trans e154.symm)
          have e165 : f135 = p153.2.2.2.2.2.2.2.2.2.2.1 := congrArg (fun z => z.2.2.2.2.2.2.2.2.2.2.1) (hE151.trans e154.symm)
          have e166 : f137 = p153.2.2.2.2.2.2.2.2.2.2.2.1 := congrArg (fun z => z.2.2.2.2.2.2.2.2.2.2.2.1) (hE151.trans e154.symm)
          have e167 : f139 = p153.2.2.2.2.2.2.2.2.2.2.2.2 := congrArg (fun z => z.2.2.2.2.2.2.2.2.2.2.2.2) (hE151.trans e154.symm)
          replace b141 : q_F (0 ≤ y125.toInt) := b141
          replace b142 : q_F (t1_2.toInt ≤ y124.toInt) := b142
          replace b143 : q_F (y124.toInt ≤ t1_2.toInt) := b143
          replace b144 : q_F (y125.toInt ≤ t1_3.toInt) := b144
          replace b145 : q_F (t1_4.toInt ≤ y126.toInt) := b145
          replace b146 : q_F (y126.toInt ≤ t1_4.toInt) := b146
          replace b147 : q_F (t1_5.toInt ≤ y127.toInt) := b147
          replace b148 : q_F (y127.toInt ≤ t1_5.toInt) := b148
          replace b149 : q_F (t1_6.toInt ≤ y128.toInt) := b149
          replace b150 : q_F (y128.toInt ≤ t1_6.toInt) := b150
          replace hT0 := (hu152 _ (by decide)).trans hT0
          replace hF := q_uc hF hu152 (by simp)
          have hR168 := (show F_NM_wholeBy_c72 x2 x3 x4 x5 t0_0 t0_1 t0_2 t1_0 t1_1 t1_2 t1_3 t1_4 t1_5 t1_6 t2_0 t3_0 t4_0 t5_0 t6_0 t7_0 lx38 p153 = (F_NM_wholeBy x2 x3 x4 x5 t0_0 t0_1 t0_2 t1_0 t1_1 t1_2 t1_3 t1_4 t1_5 t1_6 t2_0 t3_0 t4_0 t5_0 t6_0 t7_0) from Eq.trans (by rw [e154, F_NM_wholeBy_J30.eq_1, if_pos c57, if_neg c59, if_pos c61]) hR50)
          have hS169 := (show True ∧ S_NM_wholeBy_c72 x2 x3 x4 x5 t0_0 t0_1 t0_2 t1_0 t1_1 t1_2 t1_3 t1_4 t1_5 t1_6 t2_0 t3_0 t4_0 t5_0 t6_0 t7_0 lx38 p153 from (by rw [e154]; have h := hS51; rw [S_NM_wholeBy_J30.eq_1] at h; rw [if_pos c57] at h; rw [if_neg c59] at h; rw [if_pos c61] at h; replace h := q_s2 h; with_reducible exact h))
          refine lv_goto (tgt := 89) hx hb d_14_21_75 (by decide) ?_
          refine lv_aload_n hx hb d_14_21_89 rfl (lv_at hl 0 rfl) ?_
          refine lv_aload_n hx hb d_14_21_90 rfl (lv_at hl 0 rfl) ?_
          refine q_get (ci := 12) (j := 5) (v := .ref (q 119)) C0 V i_NM rfl rfl hT0 (by decide) w_2303 rfl d_14_21_91 ?_
          refine q_getN (ci := 13) (j := 0) (v := .int y122) C0 V i_WR rfl rfl hO121 (by decide) wo_1922 rfl d_14_21_94 ?_
          refine q_put (ci := 12) (j := 0) (v := .int y122) (ty := .int) C0 V i_NM o_NM n_NM rfl rfl hT0 (by decide) w_2298 rfl rfl rfl rfl (Nat.le_of_ble_eq_true rfl) d_14_21_97 (fun H locs w173 hu174 hT0 V => ?_)
          replace hT0 : w173[116]? = (some (q 116, .inr (12, [.int y122, .ref (q 117), .int t0_1, .ref (q 118), .int t0_2, .ref (q 119), .ref (q 134), .ref (q 145), .ref (q 153), .ref (q 157), .ref (q 167), .ref (q 168)])) : Option (Nat × va_E)) := hT0
          replace hI := n_p116 hI hu174 hT0 (by first | with_reducible exact q_fe btt0_1 | exact ⟨(by have t1 : 0 ≤ t0_1.toInt ∧ t0_1.toInt ≤ 4100 := btt0_1; omega), (by have t1 : 0 ≤ t0_1.toInt ∧ t0_1.toInt ≤ 4100 := btt0_1; omega)⟩) (by first | with_reducible exact q_fe btt0_2 | exact ⟨(by have t1 : 0 ≤ t0_2.toInt ∧ t0_2.toInt ≤ 12200 := btt0_2; omega), (by have t1 : 0 ≤ t0_2.toInt ∧ t0_2.toInt ≤ 12200 := btt0_2; omega)⟩)
          replace hO121 := (hu174 _ (by decide)).trans hO121
          replace hA130 := (hu174 _ (by decide)).trans hA130
          replace hA132 := (hu174 _ (by decide)).trans hA132
          replace hA134 := (hu174 _ (by decide)).trans hA134
          replace hA136 := (hu174 _ (by decide)).trans hA136
          replace hA138 := (hu174 _ (by decide)).trans hA138
          replace hA140 := (hu174 _ (by decide)).trans hA140
          replace hF := q_us hF hu174 (by simp)
          exact q_retv C0 V (⟨hI, hF, y122, y122, y123, y124, y125, y126, y127, y128, f129, f131, f133, f135, f137, f139, hT0, hO121, hA130, hA132, hA134, hA136, hA138, hA140, (show 0 ≤ y125.toInt from (by first | with_reducible exact q_fe b141 | (have t1 : 0 ≤ y125.toInt := b141; omega))), (show y125.toInt ≤ 1 from (by have t1 : 0 ≤ t1_3.toInt ∧ t1_3.toInt ≤ 1 := btt1_3; have t2 : y125.toInt ≤ t1_3.toInt := b144; omega)), (show t1_2.toInt ≤ y124.toInt from (by first | with_reducible exact q_fe b142 | (have t1 : t1_2.toInt ≤ y124.toInt := b142; omega))), (show y124.toInt ≤ t1_2.toInt from (by first | with_reducible exact q_fe b143 | (have t1 : y124.toInt ≤ t1_2.toInt := b143; omega))), (show t1_4.toInt ≤ y126.toInt from (by first | with_reducible exact q_fe b145 | (have t1 : t1_4.toInt ≤ y126.toInt := b145; omega))), (show y126.toInt ≤ t1_4.toInt from (by first | with_reducible exact q_fe b146 | (have t1 : y126.toInt ≤ t1_4.toInt := b146; omega))), (show t1_5.toInt ≤ y127.toInt from (by first | with_reducible exact q_fe b147 | (have t1 : t1_5.toInt ≤ y127.toInt := b147; omega))), (show y127.toInt ≤ t1_5.toInt from (by first | with_reducible exact q_fe b148 | (have t1 : y127.toInt ≤ t1_5.toInt := b148; omega))), (show t1_6.toInt ≤ y128.toInt from (by first | with_reducible exact q_fe b149 | (have t1 : t1_6.toInt ≤ y128.toInt := b149; omega))), (show y128.toInt ≤ t1_6.toInt from (by first | with_reducible exact q_fe b150 | (have t1 : y128.toInt ≤ t1_6.toInt := b150; omega))), (show (y122, y122, y123, y124, y125, y126, y127, y128, f129, f131, f133, f135, f137, f139) = (F_NM_wholeBy x2 x3 x4 x5 t0_0 t0_1 t0_2 t1_0 t1_1 t1_2 t1_3 t1_4 t1_5 t1_6 t2_0 t3_0 t4_0 t5_0 t6_0 t7_0) from Eq.trans (by rw [e167, e166, e165, e164, e163, e162, e161, e160, e159, e158, e157, e156, e155, F_NM_wholeBy_c72.eq_1]) hR168)⟩) d_14_21_100
      ·
        refine lv_aload_n hx hb d_14_21_45 rfl (lv_at hl 0 rfl) ?_
        refine q_get (ci := 12) (j := 5) (v := .ref (q 119)) C0 V i_NM rfl rfl hT0 (by decide) w_2303 rfl d_14_21_46 ?_
        refine lv_iload_n hx hb d_14_21_49 rfl (lv_at hl 2 rfl) ?_
        refine lv_iload_n hx hb d_14_21_50 rfl (lv_at hl 3 rfl) ?_
        refine lv_iload hx hb d_14_21_51 (lv_at hl 4 rfl) ?_
        have ob176 : True ∧ S_WR_power x3 x4 x5 t1_0 t1_1 t1_2 t1_3 t1_4 t1_5 t1_6 t2_0 t3_0 t4_0 t6_0 t7_0 := (by have h := hS51; rw [S_NM_wholeBy_J30.eq_1] at h; rw [if_pos c57] at h; rw [if_pos c59] at h; with_reducible exact h.2.1)
        refine q_gov V (q_runV (As := [.int x3, .int x4, .int x5]) (rest := []) (d := 3) (mc := 0) (ms := 0) (ci := 13) C0 V rfl LV_NM_192 (X_WR_power l D g q w55  x3 x4 x5 hI t1_0 t1_1 t1_2 t1_3 t1_4 t1_5 t1_6 hT1 t2_0 hT2 t3_0 hT3 t4_0 hT4 t6_0 hT6 t7_0 hT7 ob176 _) rfl rfl hT1 rfl hl.1 rfl (Nat.le_of_ble_eq_true rfl) ⟨by decide, by decide⟩ ⟨Nat.le_of_ble_eq_true rfl, Nat.le_of_ble_eq_true rfl⟩ d_14_21_53) (fun u177 H locs hp178 V => ?_)
        obtain ⟨hI, hZ9⟩ := hp178
        obtain ⟨hu208, hZ9⟩ := hZ9
        obtain ⟨y180, hZ9⟩ := hZ9
        obtain ⟨y181, hZ9⟩ := hZ9
        obtain ⟨y182, hZ9⟩ := hZ9
        obtain ⟨y183, hZ9⟩ := hZ9
        obtain ⟨y184, hZ9⟩ := hZ9
        obtain ⟨y185, hZ9⟩ := hZ9
        obtain ⟨y186, hZ9⟩ := hZ9
        obtain ⟨f187, hZ9⟩ := hZ9
        obtain ⟨f189, hZ9⟩ := hZ9
        obtain ⟨f191, hZ9⟩ := hZ9
        obtain ⟨f193, hZ9⟩ := hZ9
        obtain ⟨f195, hZ9⟩ := hZ9
        obtain ⟨hO179, hZ9⟩ := hZ9
        obtain ⟨hA188, hZ9⟩ := hZ9
        obtain ⟨hA190, hZ9⟩ := hZ9
        obtain ⟨hA192, hZ9⟩ := hZ9
        obtain ⟨hA194, hZ9⟩ := hZ9
        obtain ⟨hA196, hZ9⟩ := hZ9
        obtain ⟨b197, hZ9⟩ := hZ9
        obtain ⟨b198, hZ9⟩ := hZ9
        obtain ⟨b199, hZ9⟩ := hZ9
        obtain ⟨b200, hZ9⟩ := hZ9
        obtain ⟨b201, hZ9⟩ := hZ9
        obtain ⟨b202, hZ9⟩ := hZ9
        obtain ⟨b203, hZ9⟩ := hZ9
        obtain ⟨b204, hZ9⟩ := hZ9
        obtain ⟨b205, hZ9⟩ := hZ9
        obtain ⟨b206, hE207⟩ := hZ9
        replace hO179 : u177[119]? = (some (q 119, .inr (13, [.int y180, .int y181, .ref (q 120), .int y182, .ref (q 121), .ref (q 122), .ref (q 123), .int y183, .ref (q 124), .ref (q 125), .ref (q 126), .ref (q 127), .ref (q 128), .ref (q 129), .ref (q 130), .ref (q 131), .int y184, .int y185, .ref (q 132), .ref (q 133), .int y186])) : Option (Nat × va_E)) := hO179
        replace hA188 : u177[121]? = (some (q 121, .inl (g 0, (1408 : Int32).toNatClampNeg, .inl f187)) : Option (Nat × va_E)) := hA188
        replace hA190 : u177[122]? = (some (q 122, .inl (g 3, 11, .inl f189)) : Option (Nat × va_E)) := hA190
        replace hA192 : u177[123]? = (some (q 123, .inl (g 0, (264 : Int32).toNatClampNeg, .inl f191)) : Option (Nat × va_E)) := hA192
        replace hA194 : u177[125]? = (some (q 125, .inl (g 0, (528 : Int32).toNatClampNeg, .inl f193)) : Option (Nat × va_E)) := hA194
        replace hA196 : u177[128]? = (some (q 128, .inl (g 0, (264 : Int32).toNatClampNeg, .inl f195)) : Option (Nat × va_E)) := hA196
        obtain ⟨p209, e210⟩ : ∃ z, z = (F_WR_power x3 x4 x5 t1_0 t1_1 t1_2 t1_3 t1_4 t1_5 t1_6 t2_0 t3_0 t4_0 t6_0 t7_0) := ⟨_, rfl⟩
        have e211 : y180 = p209.1 := congrArg (fun z => z.1) (hE207.trans e210.symm)
        have e212 : y181 = p209.2.1 := congrArg (fun z => z.2.1) (hE207.trans e210.symm)
        have e213 : y182 = p209.2.2.1 := congrArg (fun z => z.2.2.1) (hE207.trans e210.symm)
        have e214 : y183 = p209.2.2.2.1 := congrArg (fun z => z.2.2.2.1) (hE207.trans e210.symm)
        have e215 : y184 = p209.2.2.2.2.1 := congrArg (fun z => z.2.2.2.2.1) (hE207.trans e210.symm)
        have e216 : y185 = p209.2.2.2.2.2.1 := congrArg (fun z => z.2.2.2.2.2.1) (hE207.trans e210.symm)
        have e217 : y186 = p209.2.2.2.2.2.2.1 := congrArg (fun z => z.2.2.2.2.2.2.1) (hE207.trans e210.symm)
        have e218 : f187 = p209.2.2.2.2.2.2.2.1 := congrArg (fun z => z.2.2.2.2.2.2.2.1) (hE207.trans e210.symm)
        have e219 : f189 = p209.2.2.2.2.2.2.2.2.1 := congrArg (fun z => z.2.2.2.2.2.2.2.2.1) (hE207.trans e210.symm)
        have e220 : f191 = p209.2.2.2.2.2.2.2.2.2.1 := congrArg (fun z => z.2.2.2.2.2.2.2.2.2.1) (hE207.trans e210.symm)
        have e221 : f193 = p209.2.2.2.2.2.2.2.2.2.2.1 := congrArg (fun z => z.2.2.2.2.2.2.2.2.2.2.1) (hE207.trans e210.symm)
        have e222 : f195 = p209.2.2.2.2.2.2.2.2.2.2.2 := congrArg (fun z => z.2.2.2.2.2.2.2.2.2.2.2) (hE207.trans e210.symm)
        replace b197 : q_F (0 ≤ y183.toInt) := b197
        replace b198 : q_F (y183.toInt ≤ 1) := b198
        replace b199 : q_F (t1_2.toInt ≤ y182.toInt) := b199
        replace b200 : q_F (y182.toInt ≤ t1_2.toInt) := b200
        replace b201 : q_F (t1_4.toInt ≤ y184.toInt) := b201
        replace b202 : q_F (y184.toInt ≤ t1_4.toInt) := b202
        replace b203 : q_F (t1_5.toInt ≤ y185.toInt) := b203
        replace b204 : q_F (y185.toInt ≤ t1_5.toInt) := b204
        replace b205 : q_F (t1_6.toInt ≤ y186.toInt) := b205
        replace b206 : q_F (y186.toInt ≤ t1_6.toInt) := b206
        replace hT0 := (hu208 _ (by decide)).trans hT0
        replace hT5 := (hu208 _ (by decide)).trans hT5
        replace hF := q_uc hF hu208 (by simp)
        have hR223 := (show F_NM_wholeBy_c53 x2 x3 x4 x5 t0_0 t0_1 t0_2 t1_0 t1_1 t1_2 t1_3 t1_4 t1_5 t1_6 t2_0 t3_0 t4_0 t5_0 t6_0 t7_0 lx38 p209 = (F_NM_wholeBy x2 x3 x4 x5 t0_0 t0_1 t0_2 t1_0 t1_1 t1_2 t1_3 t1_4 t1_5 t1_6 t2_0 t3_0 t4_0 t5_0 t6_0 t7_0) from Eq.trans (by rw [e210, F_NM_wholeBy_J30.eq_1, if_pos c57, if_pos c59]) hR50)
        have hS224 := (show True ∧ S_NM_wholeBy_c53 x2 x3 x4 x5 t0_0 t0_1 t0_2 t1_0 t1_1 t1_2 t1_3 t1_4 t1_5 t1_6 t2_0 t3_0 t4_0 t5_0 t6_0 t7_0 lx38 p209 from (by rw [e210]; have h := hS51; rw [S_NM_wholeBy_J30.eq_1] at h; rw [if_pos c57] at h; rw [if_pos c59] at h; replace h := q_s2 h; with_reducible exact h))
        refine lv_goto (tgt := 89) hx hb d_14_21_56 (by decide) ?_
        refine lv_aload_n hx hb d_14_21_89 rfl (lv_at hl 0 rfl) ?_
        refine lv_aload_n hx hb d_14_21_90 rfl (lv_at hl 0 rfl) ?_
        refine q_get (ci := 12) (j := 5) (v := .ref (q 119)) C0 V i_NM rfl rfl hT0 (by decide) w_2303 rfl d_14_21_91 ?_
        refine q_getN (ci := 13) (j := 0) (v := .int y180) C0 V i_WR rfl rfl hO179 (by decide) wo_1922 rfl d_14_21_94 ?_
        refine q_put (ci := 12) (j := 0) (v := .int y180) (ty := .int) C0 V i_NM o_NM n_NM rfl rfl hT0 (by decide) w_2298 rfl rfl rfl rfl (Nat.le_of_ble_eq_true rfl) d_14_21_97 (fun H locs w228 hu229 hT0 V => ?_)
        replace hT0 : w228[116]? = (some (q 116, .inr (12, [.int y180, .ref (q 117), .int t0_1, .ref (q 118), .int t0_2, .ref (q 119), .ref (q 134), .ref (q 145), .ref (q 153), .ref (q 157), .ref (q 167), .ref (q 168)])) : Option (Nat × va_E)) := hT0
        replace hI := n_p116 hI hu229 hT0 (by first | with_reducible exact q_fe btt0_1 | exact ⟨(by have t1 : 0 ≤ t0_1.toInt ∧ t0_1.toInt ≤ 4100 := btt0_1; omega), (by have t1 : 0 ≤ t0_1.toInt ∧ t0_1.toInt ≤ 4100 := btt0_1; omega)⟩) (by first | with_reducible exact q_fe btt0_2 | exact ⟨(by have t1 : 0 ≤ t0_2.toInt ∧ t0_2.toInt ≤ 12200 := btt0_2; omega), (by have t1 : 0 ≤ t0_2.toInt ∧ t0_2.toInt ≤ 12200 := btt0_2; omega)⟩)
        replace hO179 := (hu229 _ (by decide)).trans hO179
        replace hA188 := (hu229 _ (by decide)).trans hA188
        replace hA190 := (hu229 _ (by decide)).trans hA190
        replace hA192 := (hu229 _ (by decide)).trans hA192
        replace hT5 := (hu229 _ (by decide)).trans hT5
        replace hA194 := (hu229 _ (by decide)).trans hA194
        replace hA196 := (hu229 _ (by decide)).trans hA196
        replace hF := q_us hF hu229 (by simp)
        exact q_retv C0 V (⟨hI, hF, y180, y180, y181, y182, y183, y184, y185, y186, f187, f189, f191, t5_0, f193, f195, hT0, hO179, hA188, hA190, hA192, hT5, hA194, hA196, (show 0 ≤ y183.toInt from (by first | with_reducible exact q_fe b197 | (have t1 : 0 ≤ y183.toInt := b197; omega))), (show y183.toInt ≤ 1 from (by first | with_reducible exact q_fe b198 | (have t1 : y183.toInt ≤ 1 := b198; omega))), (show t1_2.toInt ≤ y182.toInt from (by first | with_reducible exact q_fe b199 | (have t1 : t1_2.toInt ≤ y182.toInt := b199; omega))), (show y182.toInt ≤ t1_2.toInt from (by first | with_reducible exact q_fe b200 | (have t1 : y182.toInt ≤ t1_2.toInt := b200; omega))), (show t1_4.toInt ≤ y184.toInt from (by first | with_reducible exact q_fe b201 | (have t1 : t1_4.toInt ≤ y184.toInt := b201; omega))), (show y184.toInt ≤ t1_4.toInt from (by first | with_reducible exact q_fe b202 | (have t1 : y184.toInt ≤ t1_4.toInt := b202; omega))), (show t1_5.toInt ≤ y185.toInt from (by first | with_reducible exact q_fe b203 | (have t1 : t1_5.toInt ≤ y185.toInt := b203; omega))), (show y185.toInt ≤ t1_5.toInt from (by first | with_reducible exact q_fe b204 | (have t1 : y185.toInt ≤ t1_5.toInt := b204; omega))), (show t1_6.toInt ≤ y186.toInt from (by first | with_reducible exact q_fe b205 | (have t1 : t1_6.toInt ≤ y186.toInt := b205; omega))), (show y186.toInt ≤ t1_6.toInt from (by first | with_reducible exact q_fe b206 | (have t1 : y186.toInt ≤ t1_6.toInt := b206; omega))), (show (y180, y180, y181, y182, y183, y184, y185, y186, f187, f189, f191, t5_0, f193, f195) = (F_NM_wholeBy x2 x3 x4 x5 t0_0 t0_1 t0_2 t1_0 t1_1 t1_2 t1_3 t1_4 t1_5 t1_6 t2_0 t3_0 t4_0 t5_0 t6_0 t7_0) from Eq.trans (by rw [e222, e221, e220, e219, e218, e217, e216, e215, e214, e213, e212, e211, F_NM_wholeBy_c53.eq_1]) hR223)⟩) d_14_21_100
    ·
      exact q_retv C0 V (⟨hI, hF, lx38, t1_0, t1_1, t1_2, t1_3, t1_4, t1_5, t1_6, t2_0, t3_0, t4_0, t5_0, t6_0, t7_0, hT0, hT1, hT2, hT3, hT4, hT5, hT6, hT7, (show 0 ≤ t1_3.toInt from (by first | with_reducible exact (q_fe btt1_3).2 | with_reducible exact (q_fe btt1_3).1 | (have t1 : 0 ≤ t1_3.toInt ∧ t1_3.toInt ≤ 1 := btt1_3; omega))), (show t1_3.toInt ≤ 1 from (by first | with_reducible exact (q_fe btt1_3).2 | with_reducible exact (q_fe btt1_3).1 | (have t1 : 0 ≤ t1_3.toInt ∧ t1_3.toInt ≤ 1 := btt1_3; omega))), (show t1_2.toInt ≤ t1_2.toInt from (by omega)), (show t1_2.toInt ≤ t1_2.toInt from (by omega)), (show t1_4.toInt ≤ t1_4.toInt from (by omega)), (show t1_4.toInt ≤ t1_4.toInt from (by omega)), (show t1_5.toInt ≤ t1_5.toInt from (by omega)), (show t1_5.toInt ≤ t1_5.toInt from (by omega)), (show t1_6.toInt ≤ t1_6.toInt from (by omega)), (show t1_6.toInt ≤ t1_6.toInt from (by omega)), (show (lx38, t1_0, t1_1, t1_2, t1_3, t1_4, t1_5, t1_6, t2_0, t3_0, t4_0, t5_0, t6_0, t7_0) = (F_NM_wholeBy x2 x3 x4 x5 t0_0 t0_1 t0_2 t1_0 t1_1 t1_2 t1_3 t1_4 t1_5 t1_6 t2_0 t3_0 t4_0 t5_0 t6_0 t7_0) from Eq.trans (by rw [F_NM_wholeBy_J30.eq_1, if_neg c57]) hR50)⟩) d_14_21_40
  ·
    intro J47
    refine q_join (X := Unit) (fun z H locs ls _ => q_Wd D g (va_A ws sz) s ws H locs ∧ lv_has ls 5 [(0, .ref (q 116)), (1, .int x2), (2, .int x3), (3, .int x4), (4, .int x5)] ∧ F_NM_wholeBy_J25 x2 x3 x4 x5 t0_0 t0_1 t0_2 t1_0 t1_1 t1_2 t1_3 t1_4 t1_5 t1_6 t2_0 t3_0 t4_0 t5_0 t6_0 t7_0 = (F_NM_wholeBy x2 x3 x4 x5 t0_0 t0_1 t0_2 t1_0 t1_1 t1_2 t1_3 t1_4 t1_5 t1_6 t2_0 t3_0 t4_0 t5_0 t6_0 t7_0) ∧ True ∧ S_NM_wholeBy_J25 x2 x3 x4 x5 t0_0 t0_1 t0_2 t1_0 t1_1 t1_2 t1_3 t1_4 t1_5 t1_6 t2_0 t3_0 t4_0 t5_0 t6_0 t7_0) (fun z => [.ref (q 116)]) 25 0 0 ?_ ?_
    ·
      rintro _ H locs ls _ ⟨V, hl, hR240, hS241⟩
      replace hl : lv_has ls 5 [(0, .ref (q 116)), (1, .int x2), (2, .int x3), (3, .int x4), (4, .int x5)] := hl
      refine lv_iconst (v := 1) hx hb d_14_21_25 (by decide) ?_
      refine lv_goto (tgt := 30) hx hb d_14_21_26 (by decide) ?_
      exact J47 ((1 : Int32)) _ _ _ ws ⟨(show q_F (0 ≤ 1) from (show 0 ≤ 1 from by omega)), (show q_F (1 ≤ 1) from (show 1 ≤ 1 from by omega)), V, q_lw hl (q_lw1 0 rfl (q_lw1 1 rfl (q_lw1 2 rfl (q_lw1 3 rfl (q_lw1 4 rfl q_lw0))))), (show F_NM_wholeBy_J30 x2 x3 x4 x5 t0_0 t0_1 t0_2 t1_0 t1_1 t1_2 t1_3 t1_4 t1_5 t1_6 t2_0 t3_0 t4_0 t5_0 t6_0 t7_0 1 = (F_NM_wholeBy x2 x3 x4 x5 t0_0 t0_1 t0_2 t1_0 t1_1 t1_2 t1_3 t1_4 t1_5 t1_6 t2_0 t3_0 t4_0 t5_0 t6_0 t7_0) from Eq.trans (by rw [F_NM_wholeBy_J25.eq_1]) hR240), (show True ∧ S_NM_wholeBy_J30 x2 x3 x4 x5 t0_0 t0_1 t0_2 t1_0 t1_1 t1_2 t1_3 t1_4 t1_5 t1_6 t2_0 t3_0 t4_0 t5_0 t6_0 t7_0 1 from (by have h := hS241; rw [S_NM_wholeBy_J25.eq_1] at h; with_reducible exact h))⟩
    ·
      intro J239
      refine lv_if_lt (tgt := 25) hx hb d_14_21_2 (by decide) (fun c245 => ?_) (fun c245 => ?_)
      ·
        exact J239 (()) _ _ _ ws ⟨V, q_lw hl (q_lw1 0 rfl (q_lw1 1 rfl (q_lw1 2 rfl (q_lw1 3 rfl (q_lw1 4 rfl q_lw0))))), (show F_NM_wholeBy_J25 x2 x3 x4 x5 t0_0 t0_1 t0_2 t1_0 t1_1 t1_2 t1_3 t1_4 t1_5 t1_6 t2_0 t3_0 t4_0 t5_0 t6_0 t7_0 = (F_NM_wholeBy x2 x3 x4 x5 t0_0 t0_1 t0_2 t1_0 t1_1 t1_2 t1_3 t1_4 t1_5 t1_6 t2_0 t3_0 t4_0 t5_0 t6_0 t7_0) from (by rw [F_NM_wholeBy.eq_1, if_pos c245])), (show True ∧ S_NM_wholeBy_J25 x2 x3 x4 x5 t0_0 t0_1 t0_2 t1_0 t1_1 t1_2 t1_3 t1_4 t1_5 t1_6 t2_0 t3_0 t4_0 t5_0 t6_0 t7_0 from (by have h := hS; rw [S_NM_wholeBy.eq_1] at h; rw [if_pos c245] at h; with_reducible exact h))⟩
      ·
        refine lv_iload_n hx hb d_14_21_5 rfl (lv_at hl 1 rfl) ?_
        refine lv_iconst (v := 2) hx hb d_14_21_6 (by decide) ?_
        refine lv_icmp_gt (tgt := 25) hx hb d_14_21_7 (by decide) (fun c248 => ?_) (fun c248 => ?_)
        ·
          exact J239 (()) _ _ _ ws ⟨V, q_lw hl (q_lw1 0 rfl (q_lw1 1 rfl (q_lw1 2 rfl (q_lw1 3 rfl (q_lw1 4 rfl q_lw0))))), (show F_NM_wholeBy_J25 x2 x3 x4 x5 t0_0 t0_1 t0_2 t1_0 t1_1 t1_2 t1_3 t1_4 t1_5 t1_6 t2_0 t3_0 t4_0 t5_0 t6_0 t7_0 = (F_NM_wholeBy x2 x3 x4 x5 t0_0 t0_1 t0_2 t1_0 t1_1 t1_2 t1_3 t1_4 t1_5 t1_6 t2_0 t3_0 t4_0 t5_0 t6_0 t7_0) from (by rw [F_NM_wholeBy.eq_1, if_neg c245, if_pos c248])), (show True ∧ S_NM_wholeBy_J25 x2 x3 x4 x5 t0_0 t0_1 t0_2 t1_0 t1_1 t1_2 t1_3 t1_4 t1_5 t1_6 t2_0 t3_0 t4_0 t5_0 t6_0 t7_0 from (by have h := hS; rw [S_NM_wholeBy.eq_1] at h; rw [if_neg c245] at h; rw [if_pos c248] at h; with_reducible exact h))⟩
        ·
          refine lv_iload_n hx hb d_14_21_10 rfl (lv_at hl 2 rfl) ?_
          refine q_goi V (q_runS (As := [.int x3]) (rest := [.ref (q 116)]) (d := 1) (mc := 0) (ms := 0) C0 V rfl LS_NM_70 (X_NM_no_IZ l D g q ws  x3 hI   _) rfl hl.1 rfl (Nat.le_of_ble_eq_true rfl) ⟨by decide, by decide⟩ ⟨Nat.le_of_ble_eq_true rfl, Nat.le_of_ble_eq_true rfl⟩ d_14_21_11) (fun a253 u251 H locs hp252 V => ?_)
          obtain ⟨rfl, b254, b255, hE256⟩ := hp252
          have e257 : a253 = (F_NM_no_IZ x3) := hE256
          clear b254
          clear b255
          refine lv_if_ne (tgt := 25) hx hb d_14_21_14 (by decide) (fun c258 => ?_) (fun c258 => ?_)
          ·
            exact J239 (()) _ _ _ ws ⟨V, q_lw hl (q_lw1 0 rfl (q_lw1 1 rfl (q_lw1 2 rfl (q_lw1 3 rfl (q_lw1 4 rfl q_lw0))))), (show F_NM_wholeBy_J25 x2 x3 x4 x5 t0_0 t0_1 t0_2 t1_0 t1_1 t1_2 t1_3 t1_4 t1_5 t1_6 t2_0 t3_0 t4_0 t5_0 t6_0 t7_0 = (F_NM_wholeBy x2 x3 x4 x5 t0_0 t0_1 t0_2 t1_0 t1_1 t1_2 t1_3 t1_4 t1_5 t1_6 t2_0 t3_0 t4_0 t5_0 t6_0 t7_0) from (by have c258x := c258; rw [e257] at c258x; rw [F_NM_wholeBy.eq_1, if_neg c245, if_neg c248, if_neg c258x])), (show True ∧ S_NM_wholeBy_J25 x2 x3 x4 x5 t0_0 t0_1 t0_2 t1_0 t1_1 t1_2 t1_3 t1_4 t1_5 t1_6 t2_0 t3_0 t4_0 t5_0 t6_0 t7_0 from (by have h := hS; rw [S_NM_wholeBy.eq_1] at h; rw [if_neg c245] at h; rw [if_neg c248] at h; have c258x := c258; rw [e257] at c258x; rw [if_neg c258x] at h; with_reducible exact h))⟩
          ·
            refine lv_iload hx hb d_14_21_17 (lv_at hl 4 rfl) ?_
            refine q_goi V (q_runS (As := [.int x5]) (rest := [.ref (q 116)]) (d := 1) (mc := 0) (ms := 0) C0 V rfl LS_NM_70 (X_NM_no_IZ l D g q ws  x5 hI   _) rfl hl.1 rfl (Nat.le_of_ble_eq_true rfl) ⟨by decide, by decide⟩ ⟨Nat.le_of_ble_eq_true rfl, Nat.le_of_ble_eq_true rfl⟩ d_14_21_19) (fun a263 u261 H locs hp262 V => ?_)
            obtain ⟨rfl, b264, b265, hE266⟩ := hp262
            have e267 : a263 = (F_NM_no_IZ x5) := hE266
            clear b264
            clear b265
            refine lv_if_eq (tgt := 29) hx hb d_14_21_22 (by decide) (fun c268 => ?_) (fun c268 => ?_)
            ·
              refine lv_iconst (v := 0) hx hb d_14_21_29 (by decide) ?_
              exact J47 ((0 : Int32)) _ _ _ ws ⟨(show q_F (0 ≤ 0) from (show 0 ≤ 0 from by omega)), (show q_F (0 ≤ 1) from (show 0 ≤ 1 from by omega)), V, q_lw hl (q_lw1 0 rfl (q_lw1 1 rfl (q_lw1 2 rfl (q_lw1 3 rfl (q_lw1 4 rfl q_lw0))))), (show F_NM_wholeBy_J30 x2 x3 x4 x5 t0_0 t0_1 t0_2 t1_0 t1_1 t1_2 t1_3 t1_4 t1_5 t1_6 t2_0 t3_0 t4_0 t5_0 t6_0 t7_0 0 = (F_NM_wholeBy x2 x3 x4 x5 t0_0 t0_1 t0_2 t1_0 t1_1 t1_2 t1_3 t1_4 t1_5 t1_6 t2_0 t3_0 t4_0 t5_0 t6_0 t7_0) from (by have c258x := c258; rw [e257] at c258x; have c268x := c268; rw [e267] at c268x; rw [F_NM_wholeBy.eq_1, if_neg c245, if_neg c248, if_pos c258x, if_pos c268x])), (show True ∧ S_NM_wholeBy_J30 x2 x3 x4 x5 t0_0 t0_1 t0_2 t1_0 t1_1 t1_2 t1_3 t1_4 t1_5 t1_6 t2_0 t3_0 t4_0 t5_0 t6_0 t7_0 0 from (by have h := hS; rw [S_NM_wholeBy.eq_1] at h; rw [if_neg c245] at h; rw [if_neg c248] at h; have c258x := c258; rw [e257] at c258x; rw [if_pos c258x] at h; have c268x := c268; rw [e267] at c268x; rw [if_pos c268x] at h; with_reducible exact h))⟩
            ·
              exact J239 (()) _ _ _ ws ⟨V, q_lw hl (q_lw1 0 rfl (q_lw1 1 rfl (q_lw1 2 rfl (q_lw1 3 rfl (q_lw1 4 rfl q_lw0))))), (show F_NM_wholeBy_J25 x2 x3 x4 x5 t0_0 t0_1 t0_2 t1_0 t1_1 t1_2 t1_3 t1_4 t1_5 t1_6 t2_0 t3_0 t4_0 t5_0 t6_0 t7_0 = (F_NM_wholeBy x2 x3 x4 x5 t0_0 t0_1 t0_2 t1_0 t1_1 t1_2 t1_3 t1_4 t1_5 t1_6 t2_0 t3_0 t4_0 t5_0 t6_0 t7_0) from (by have c258x := c258; rw [e257] at c258x; have c268x := c268; rw [e267] at c268x; rw [F_NM_wholeBy.eq_1, if_neg c245, if_neg c248, if_pos c258x, if_neg c268x])), (show True ∧ S_NM_wholeBy_J25 x2 x3 x4 x5 t0_0 t0_1 t0_2 t1_0 t1_1 t1_2 t1_3 t1_4 t1_5 t1_6 t2_0 t3_0 t4_0 t5_0 t6_0 t7_0 from (by have h := hS; rw [S_NM_wholeBy.eq_1] at h; rw [if_neg c245] at h; rw [if_neg c248] at h; have c258x := c258; rw [e257] at c258x; rw [if_pos c258x] at h; have c268x := c268; rw [e267] at c268x; rw [if_neg c268x] at h; with_reducible exact h))⟩
theorem d_14_22_0 : decode prog_14_method_22_code 0 = .ok (.aload_n 0, 1) := by decide +kernel
theorem d_14_22_1 : decode prog_14_method_22_code 1 = .ok (.iload_n 1, 1) := by decide +kernel
theorem d_14_22_2 : decode prog_14_method_22_code 2 = .ok (.invokestatic 70, 3) := by decide +kernel
theorem d_14_22_35 : decode prog_14_method_22_code 35 = .ok (.putfield 58, 3) := by decide +kernel
theorem d_14_22_38 : decode prog_14_method_22_code 38 = .ok (.aload_n 0, 1) := by decide +kernel
theorem d_14_22_39 : decode prog_14_method_22_code 39 = .ok (.getfield 58, 3) := by decide +kernel
theorem d_14_22_42 : decode prog_14_method_22_code 42 = .ok (.ifCond .ne 26, 3) := by decide +kernel
theorem d_14_22_68 : decode prog_14_method_22_code 68 = .ok (.return_, 1) := by decide +kernel
theorem d_14_22_45 : decode prog_14_method_22_code 45 = .ok (.aload_n 0, 1) := by decide +kernel
theorem d_14_22_46 : decode prog_14_method_22_code 46 = .ok (.getfield 19, 3) := by decide +kernel
theorem d_14_22_49 : decode prog_14_method_22_code 49 = .ok (.iload_n 1, 1) := by decide +kernel
theorem d_14_22_50 : decode prog_14_method_22_code 50 = .ok (.iload_n 2, 1) := by decide +kernel
theorem d_14_22_51 : decode prog_14_method_22_code 51 = .ok (.iload_n 3, 1) := by decide +kernel
theorem d_14_22_52 : decode prog_14_method_22_code 52 = .ok (.iload 4, 2) := by decide +kernel
theorem d_14_22_54 : decode prog_14_method_22_code 54 = .ok (.invokevirtual 200, 3) := by decide +kernel
set_option maxRecDepth 100000 in
theorem w_2772 : (Cond.code ({ cls := "NumberHouseModel$WholeRows", name := "powerModulo", desc := "(IIII)V" } : MethodName) prog_19_method_35_code (7 : Nat) (none : Option ClassFile.FieldType)) ∈ q_tbl := q_of12 132 rfl (by decide +kernel)
set_option maxRecDepth 100000 in
theorem w_2769 : (Cond.methodLink "NumberHouseModel" (200 : Nat) ({ cls := "NumberHouseModel$WholeRows", name := "powerModulo", desc := "(IIII)V" } : MethodName)) ∈ q_tbl := q_of12 129 rfl (by decide +kernel)
set_option maxRecDepth 100000 in
theorem w_2770 : (Cond.instanceMethod ({ cls := "NumberHouseModel$WholeRows", name := "powerModulo", desc := "(IIII)V" } : MethodName)) ∈ q_tbl := q_of12 130 rfl (by decide +kernel)
set_option maxRecDepth 100000 in
theorem w_2771 : (Cond.selects "NumberHouseModel$WholeRows" ({ cls := "NumberHouseModel$WholeRows", name := "powerModulo", desc := "(IIII)V" } : MethodName) ({ cls := "NumberHouseModel$WholeRows", name := "powerModulo", desc := "(IIII)V" } : MethodName)) ∈ q_tbl := q_of12 131 rfl (by decide +kernel)
theorem LV_NM_200 : q_LV "NumberHouseModel" 200 y_WR_powerModulo prog_19_method_35_code 7 none 4 := ⟨w_2772, w_15, w_2769, w_2770, w_2771, ⟨by decide, by decide, by decide +kernel⟩⟩
theorem d_14_22_57 : decode prog_14_method_22_code 57 = .ok (.aload_n 0, 1) := by decide +kernel
theorem d_14_22_58 : decode prog_14_method_22_code 58 = .ok (.aload_n 0, 1) := by decide +kernel
theorem d_14_22_59 : decode prog_14_method_22_code 59 = .ok (.getfield 19, 3) := by decide +kernel
theorem d_14_22_62 : decode prog_14_method_22_code 62 = .ok (.getfield 99, 3) := by decide +kernel
theorem d_14_22_65 : decode prog_14_method_22_code 65 = .ok (.putfield 58, 3) := by decide +kernel
theorem d_14_22_30 : decode prog_14_method_22_code 30 = .ok (.iconst 1, 1) := by decide +kernel
theorem d_14_22_31 : decode prog_14_method_22_code 31 = .ok (.goto 4, 3) := by decide +kernel
theorem d_14_22_5 : decode prog_14_method_22_code 5 = .ok (.ifCond .ne 25, 3) := by decide +kernel
theorem d_14_22_8 : decode prog_14_method_22_code 8 = .ok (.iload_n 2, 1) := by decide +kernel
theorem d_14_22_9 : decode prog_14_method_22_code 9 = .ok (.invokestatic 70, 3) := by decide +kernel
theorem d_14_22_12 : decode prog_14_method_22_code 12 = .ok (.ifCond .ne 18, 3) := by decide +kernel
theorem d_14_22_15 : decode prog_14_method_22_code 15 = .ok (.iload_n 3, 1) := by decide +kernel
theorem d_14_22_16 : decode prog_14_method_22_code 16 = .ok (.invokestatic 70, 3) := by decide +kernel
theorem d_14_22_19 : decode prog_14_method_22_code 19 = .ok (.ifCond .ne 11, 3) := by decide +kernel
theorem d_14_22_22 : decode prog_14_method_22_code 22 = .ok (.iload 4, 2) := by decide +kernel
theorem d_14_22_24 : decode prog_14_method_22_code 24 = .ok (.invokestatic 70, 3) := by decide +kernel
theorem d_14_22_27 : decode prog_14_method_22_code 27 = .ok (.ifCond .eq 7, 3) := by decide +kernel
theorem d_14_22_34 : decode prog_14_method_22_code 34 = .ok (.iconst 0, 1) := by decide +kernel
def y_NM_powerModulo : MethodName := ⟨"NumberHouseModel", "powerModulo", "(IIII)V"⟩
def F_NM_powerModulo_c54 (x2 : Int32) (x3 : Int32) (x4 : Int32) (x5 : Int32) (t0_0 : Int32) (t0_1 : Int32) (t0_2 : Int32) (t1_0 : Int32) (t1_1 : Int32) (t1_2 : Int32) (t1_3 : Int32) (t1_4 : Int32) (t1_5 : Int32) (t1_6 : Int32) (t2_0 : (Nat → Int32)) (t3_0 : (Nat → Int32)) (t4_0 : (Nat → Int32)) (t5_0 : (Nat → Int32)) (t6_0 : (Nat → Int32)) (t7_0 : (Nat → Int32)) (t8_0 : (Nat → Int32)) (t9_0 : (Nat → Int32)) (t10_0 : (Nat → Int32)) (t11_0 : (Nat → Int32)) (t12_0 : (Nat → Int32)) (t13_0 : (Nat → Int32)) (lx63 : Int32) (p140 : (Int32 × Int32 × Int32 × Int32 × Int32 × Int32 × Int32 × (Nat → Int32) × (Nat → Int32) × (Nat → Int32) × (Nat → Int32) × (Nat → Int32) × (Nat → Int32) × (Nat → Int32) × (Nat → Int32) × (Nat → Int32) × (Nat → Int32) × (Nat → Int32) × (Nat → Int32))) : Int32 × Int32 × Int32 × Int32 × Int32 × Int32 × Int32 × Int32 × (Nat → Int32) × (Nat → Int32) × (Nat → Int32) × (Nat → Int32) × (Nat → Int32) × (Nat → Int32) × (Nat → Int32) × (Nat → Int32) × (Nat → Int32) × (Nat → Int32) × (Nat → Int32) × (Nat → Int32) := ((p140.1 : Int32), (p140.1 : Int32), (p140.2.1 : Int32), (p140.2.2.1 : Int32), (p140.2.2.2.1 : Int32), (p140.2.2.2.2.1 : Int32), (p140.2.2.2.2.2.1 : Int32), (p140.2.2.2.2.2.2.1 : Int32), (p140.2.2.2.2.2.2.2.1 : (Nat → Int32)), (p140.2.2.2.2.2.2.2.2.1 : (Nat → Int32)), (p140.2.2.2.2.2.2.2.2.2.1 : (Nat → Int32)), (p140.2.2.2.2.2.2.2.2.2.2.1 : (Nat → Int32)), (p140.2.2.2.2.2.2.2.2.2.2.2.1 : (Nat → Int32)), (p140.2.2.2.2.2.2.2.2.2.2.2.2.1 : (Nat → Int32)), (p140.2.2.2.2.2.2.2.2.2.2.2.2.2.1 : (Nat → Int32)), (p140.2.2.2.2.2.2.2.2.2.2.2.2.2.2.1 : (Nat → Int32)), (p140.2.2.2.2.2.2.2.2.2.2.2.2.2.2.2.1 : (Nat → Int32)), (p140.2.2.2.2.2.2.2.2.2.2.2.2.2.2.2.2.1 : (Nat → Int32)), (p140.2.2.2.2.2.2.2.2.2.2.2.2.2.2.2.2.2.1 : (Nat → Int32)), (p140.2.2.2.2.2.2.2.2.2.2.2.2.2.2.2.2.2.2 : (Nat → Int32)))
def F_NM_powerModulo_J35 (x2 : Int32) (x3 : Int32) (x4 : Int32) (x5 : Int32) (t0_0 : Int32) (t0_1 : Int32) (t0_2 : Int32) (t1_0 : Int32) (t1_1 : Int32) (t1_2 : Int32) (t1_3 : Int32) (t1_4 : Int32) (t1_5 : Int32) (t1_6 : Int32) (t2_0 : (Nat → Int32)) (t3_0 : (Nat → Int32)) (t4_0 : (Nat → Int32)) (t5_0 : (Nat → Int32)) (t6_0 : (Nat → Int32)) (t7_0 : (Nat → Int32)) (t8_0 : (Nat → Int32)) (t9_0 : (Nat → Int32)) (t10_0 : (Nat → Int32)) (t11_0 : (Nat → Int32)) (t12_0 : (Nat → Int32)) (t13_0 : (Nat → Int32)) (lx63 : Int32) : Int32 × Int32 × Int32 × Int32 × Int32 × Int32 × Int32 × Int32 × (Nat → Int32) × (Nat → Int32) × (Nat → Int32) × (Nat → Int32) × (Nat → Int32) × (Nat → Int32) × (Nat → Int32) × (Nat → Int32) × (Nat → Int32) × (Nat → Int32) × (Nat → Int32) × (Nat → Int32) := if lx63 = (0 : Int32) then (F_NM_powerModulo_c54 x2 x3 x4 x5 t0_0 t0_1 t0_2 t1_0 t1_1 t1_2 t1_3 t1_4 t1_5 t1_6 t2_0 t3_0 t4_0 t5_0 t6_0 t7_0 t8_0 t9_0 t10_0 t11_0 t12_0 t13_0 lx63 ((F_WR_powerModulo x2 x3 x4 x5 t1_0 t1_1 t1_2 t1_3 t1_4 t1_5 t1_6 t2_0 t3_0 t4_0 t5_0 t6_0 t7_0 t8_0 t9_0 t10_0 t11_0 t12_0 t13_0) : (Int32 × Int32 × Int32 × Int32 × Int32 × Int32 × Int32 × (Nat → Int32) × (Nat → Int32) × (Nat → Int32) × (Nat → Int32) × (Nat → Int32) × (Nat → Int32) × (Nat → Int32) × (Nat → Int32) × (Nat → Int32) × (Nat → Int32) × (Nat → Int32) × (Nat → Int32)))) else ((lx63, t1_0, t1_1, t1_2, t1_3, t1_4, t1_5, t1_6, t2_0, t3_0, t4_0, t5_0, t6_0, t7_0, t8_0, t9_0, t10_0, t11_0, t12_0, t13_0))
def F_NM_powerModulo_J30 (x2 : Int32) (x3 : Int32) (x4 : Int32) (x5 : Int32) (t0_0 : Int32) (t0_1 : Int32) (t0_2 : Int32) (t1_0 : Int32) (t1_1 : Int32) (t1_2 : Int32) (t1_3 : Int32) (t1_4 : Int32) (t1_5 : Int32) (t1_6 : Int32) (t2_0 : (Nat → Int32)) (t3_0 : (Nat → Int32)) (t4_0 : (Nat → Int32)) (t5_0 : (Nat → Int32)) (t6_0 : (Nat → Int32)) (t7_0 : (Nat → Int32)) (t8_0 : (Nat → Int32)) (t9_0 : (Nat → Int32)) (t10_0 : (Nat → Int32)) (t11_0 : (Nat → Int32)) (t12_0 : (Nat → Int32)) (t13_0 : (Nat → Int32)) : Int32 × Int32 × Int32 × Int32 × Int32 × Int32 × Int32 × Int32 × (Nat → Int32) × (Nat → Int32) × (Nat → Int32) × (Nat → Int32) × (Nat → Int32) × (Nat → Int32) × (Nat → Int32) × (Nat → Int32) × (Nat → Int32) × (Nat → Int32) × (Nat → Int32) × (Nat → Int32) := F_NM_powerModulo_J35 x2 x3 x4 x5 t0_0 t0_1 t0_2 t1_0 t1_1 t1_2 t1_3 t1_4 t1_5 t1_6 t2_0 t3_0 t4_0 t5_0 t6_0 t7_0 t8_0 t9_0 t10_0 t11_0 t12_0 t13_0 1
def F_NM_powerModulo (x2 : Int32) (x3 : Int32) (x4 : Int32) (x5 : Int32) (t0_0 : Int32) (t0_1 : Int32) (t0_2 : Int32) (t1_0 : Int32) (t1_1 : Int32) (t1_2 : Int32) (t1_3 : Int32) (t1_4 : Int32) (t1_5 : Int32) (t1_6 : Int32) (t2_0 : (Nat → Int32)) (t3_0 : (Nat → Int32)) (t4_0 : (Nat → Int32)) (t5_0 : (Nat → Int32)) (t6_0 : (Nat → Int32)) (t7_0 : (Nat → Int32)) (t8_0 : (Nat → Int32)) (t9_0 : (Nat → Int32)) (t10_0 : (Nat → Int32)) (t11_0 : (Nat → Int32)) (t12_0 : (Nat → Int32)) (t13_0 : (Nat → Int32)) : Int32 × Int32 × Int32 × Int32 × Int32 × Int32 × Int32 × Int32 × (Nat → Int32) × (Nat → Int32) × (Nat → Int32) × (Nat → Int32) × (Nat → Int32) × (Nat → Int32) × (Nat → Int32) × (Nat → Int32) × (Nat → Int32) × (Nat → Int32) × (Nat → Int32) × (Nat → Int32) := if ((F_NM_no_IZ x2) : Int32) = (0 : Int32) then (if ((F_NM_no_IZ x3) : Int32) = (0 : Int32) then (if ((F_NM_no_IZ x4) : Int32) = (0 : Int32) then (if ((F_NM_no_IZ x5) : Int32) = (0 : Int32) then (F_NM_powerModulo_J35 x2 x3 x4 x5 t0_0 t0_1 t0_2 t1_0 t1_1 t1_2 t1_3 t1_4 t1_5 t1_6 t2_0 t3_0 t4_0 t5_0 t6_0 t7_0 t8_0 t9_0 t10_0 t11_0 t12_0 t13_0 0) else (F_NM_powerModulo_J30 x2 x3 x4 x5 t0_0 t0_1 t0_2 t1_0 t1_1 t1_2 t1_3 t1_4 t1_5 t1_6 t2_0 t3_0 t4_0 t5_0 t6_0 t7_0 t8_0 t9_0 t10_0 t11_0 t12_0 t13_0)) else (F_NM_powerModulo_J30 x2 x3 x4 x5 t0_0 t0_1 t0_2 t1_0 t1_1 t1_2 t1_3 t1_4 t1_5 t1_6 t2_0 t3_0 t4_0 t5_0 t6_0 t7_0 t8_0 t9_0 t10_0 t11_0 t12_0 t13_0)) else (F_NM_powerModulo_J30 x2 x3 x4 x5 t0_0 t0_1 t0_2 t1_0 t1_1 t1_2 t1_3 t1_4 t1_5 t1_6 t2_0 t3_0 t4_0 t5_0 t6_0 t7_0 t8_0 t9_0 t10_0 t11_0 t12_0 t13_0)) else (F_NM_powerModulo_J30 x2 x3 x4 x5 t0_0 t0_1 t0_2 t1_0 t1_1 t1_2 t1_3 t1_4 t1_5 t1_6 t2_0 t3_0 t4_0 t5_0 t6_0 t7_0 t8_0 t9_0 t10_0 t11_0 t12_0 t13_0)
def S_NM_powerModulo_c54 (x2 : Int32) (x3 : Int32) (x4 : Int32) (x5 : Int32) (t0_0 : Int32) (t0_1 : Int32) (t0_2 : Int32) (t1_0 : Int32) (t1_1 : Int32) (t1_2 : Int32) (t1_3 : Int32) (t1_4 : Int32) (t1_5 : Int32) (t1_6 : Int32) (t2_0 : (Nat → Int32)) (t3_0 : (Nat → Int32)) (t4_0 : (Nat → Int32)) (t5_0 : (Nat → Int32)) (t6_0 : (Nat → Int32)) (t7_0 : (Nat → Int32)) (t8_0 : (Nat → Int32)) (t9_0 : (Nat → Int32)) (t10_0 : (Nat → Int32)) (t11_0 : (Nat → Int32)) (t12_0 : (Nat → Int32)) (t13_0 : (Nat → Int32)) (lx63 : Int32) (p140 : (Int32 × Int32 × Int32 × Int32 × Int32 × Int32 × Int32 × (Nat → Int32) × (Nat → Int32) × (Nat → Int32) × (Nat → Int32) × (Nat → Int32) × (Nat → Int32) × (Nat → Int32) × (Nat → Int32) × (Nat → Int32) × (Nat → Int32) × (Nat → Int32) × (Nat → Int32))) : Prop := True
def S_NM_powerModulo_J35 (x2 : Int32) (x3 : Int32) (x4 : Int32) (x5 : Int32) (t0_0 : Int32) (t0_1 : Int32) (t0_2 : Int32) (t1_0 : Int32) (t1_1 : Int32) (t1_2 : Int32) (t1_3 : Int32) (t1_4 : Int32) (t1_5 : Int32) (t1_6 : Int32) (t2_0 : (Nat → Int32)) (t3_0 : (Nat → Int32)) (t4_0 : (Nat → Int32)) (t5_0 : (Nat → Int32)) (t6_0 : (Nat → Int32)) (t7_0 : (Nat → Int32)) (t8_0 : (Nat → Int32)) (t9_0 : (Nat → Int32)) (t10_0 : (Nat → Int32)) (t11_0 : (Nat → Int32)) (t12_0 : (Nat → Int32)) (t13_0 : (Nat → Int32)) (lx63 : Int32) : Prop := if lx63 = (0 : Int32) then ((True ∧ S_WR_powerModulo x2 x3 x4 x5 t1_0 t1_1 t1_2 t1_3 t1_4 t1_5 t1_6 t2_0 t3_0 t4_0 t5_0 t6_0 t7_0 t8_0 t9_0 t10_0 t11_0 t12_0 t13_0) ∧ (S_NM_powerModulo_c54 x2 x3 x4 x5 t0_0 t0_1 t0_2 t1_0 t1_1 t1_2 t1_3 t1_4 t1_5 t1_6 t2_0 t3_0 t4_0 t5_0 t6_0 t7_0 t8_0 t9_0 t10_0 t11_0 t12_0 t13_0 lx63 ((F_WR_powerModulo x2 x3 x4 x5 t1_0 t1_1 t1_2 t1_3 t1_4 t1_5 t1_6 t2_0 t3_0 t4_0 t5_0 t6_0 t7_0 t8_0 t9_0 t10_0 t11_0 t12_0 t13_0) : (Int32 × Int32 × Int32 × Int32 × Int32 × Int32 × Int32 × (Nat → Int32) × (Nat → Int32) × (Nat → Int32) × (Nat → Int32) × (Nat → Int32) × (Nat → Int32) × (Nat → Int32) × (Nat → Int32) × (Nat → Int32) × (Nat → Int32) × (Nat → Int32) × (Nat → Int32))))) else (True)
def S_NM_powerModulo_J30 (x2 : Int32) (x3 : Int32) (x4 : Int32) (x5 : Int32) (t0_0 : Int32) (t0_1 : Int32) (t0_2 : Int32) (t1_0 : Int32) (t1_1 : Int32) (t1_2 : Int32) (t1_3 : Int32) (t1_4 : Int32) (t1_5 : Int32) (t1_6 : Int32) (t2_0 : (Nat → Int32)) (t3_0 : (Nat → Int32)) (t4_0 : (Nat → Int32)) (t5_0 : (Nat → Int32)) (t6_0 : (Nat → Int32)) (t7_0 : (Nat → Int32)) (t8_0 : (Nat → Int32)) (t9_0 : (Nat → Int32)) (t10_0 : (Nat → Int32)) (t11_0 : (Nat → Int32)) (t12_0 : (Nat → Int32)) (t13_0 : (Nat → Int32)) : Prop := S_NM_powerModulo_J35 x2 x3 x4 x5 t0_0 t0_1 t0_2 t1_0 t1_1 t1_2 t1_3 t1_4 t1_5 t1_6 t2_0 t3_0 t4_0 t5_0 t6_0 t7_0 t8_0 t9_0 t10_0 t11_0 t12_0 t13_0 1
def S_NM_powerModulo (x2 : Int32) (x3 : Int32) (x4 : Int32) (x5 : Int32) (t0_0 : Int32) (t0_1 : Int32) (t0_2 : Int32) (t1_0 : Int32) (t1_1 : Int32) (t1_2 : Int32) (t1_3 : Int32) (t1_4 : Int32) (t1_5 : Int32) (t1_6 : Int32) (t2_0 : (Nat → Int32)) (t3_0 : (Nat → Int32)) (t4_0 : (Nat → Int32)) (t5_0 : (Nat → Int32)) (t6_0 : (Nat → Int32)) (t7_0 : (Nat → Int32)) (t8_0 : (Nat → Int32)) (t9_0 : (Nat → Int32)) (t10_0 : (Nat → Int32)) (t11_0 : (Nat → Int32)) (t12_0 : (Nat → Int32)) (t13_0 : (Nat → Int32)) : Prop := if ((F_NM_no_IZ x2) : Int32) = (0 : Int32) then (if ((F_NM_no_IZ x3) : Int32) = (0 : Int32) then (if ((F_NM_no_IZ x4) : Int32) = (0 : Int32) then (if ((F_NM_no_IZ x5) : Int32) = (0 : Int32) then (S_NM_powerModulo_J35 x2 x3 x4 x5 t0_0 t0_1 t0_2 t1_0 t1_1 t1_2 t1_3 t1_4 t1_5 t1_6 t2_0 t3_0 t4_0 t5_0 t6_0 t7_0 t8_0 t9_0 t10_0 t11_0 t12_0 t13_0 0) else (S_NM_powerModulo_J30 x2 x3 x4 x5 t0_0 t0_1 t0_2 t1_0 t1_1 t1_2 t1_3 t1_4 t1_5 t1_6 t2_0 t3_0 t4_0 t5_0 t6_0 t7_0 t8_0 t9_0 t10_0 t11_0 t12_0 t13_0)) else (S_NM_powerModulo_J30 x2 x3 x4 x5 t0_0 t0_1 t0_2 t1_0 t1_1 t1_2 t1_3 t1_4 t1_5 t1_6 t2_0 t3_0 t4_0 t5_0 t6_0 t7_0 t8_0 t9_0 t10_0 t11_0 t12_0 t13_0)) else (S_NM_powerModulo_J30 x2 x3 x4 x5 t0_0 t0_1 t0_2 t1_0 t1_1 t1_2 t1_3 t1_4 t1_5 t1_6 t2_0 t3_0 t4_0 t5_0 t6_0 t7_0 t8_0 t9_0 t10_0 t11_0 t12_0 t13_0)) else (S_NM_powerModulo_J30 x2 x3 x4 x5 t0_0 t0_1 t0_2 t1_0 t1_1 t1_2 t1_3 t1_4 t1_5 t1_6 t2_0 t3_0 t4_0 t5_0 t6_0 t7_0 t8_0 t9_0 t10_0 t11_0 t12_0 t13_0)
set_option maxRecDepth 100000 in
set_option maxHeartbeats 4000000 in
theorem X_NM_powerModulo (l : Launch) (D : va_G) (g : Nat → ClassId) (q : Nat → Nat) (ws : va_W) (x2 : Int32) (x3 : Int32) (x4 : Int32) (x5 : Int32) (hI : q_I (msh g q) q ws) (t0_0 : Int32) (t0_1 : Int32) (t0_2 : Int32) (hT0 : ws[116]? = (some (q 116, .inr (12, [.int t0_0, .ref (q 117), .int t0_1, .ref (q 118), .int t0_2, .ref (q 119), .ref (q 134), .ref (q 145), .ref (q 153), .ref (q 157), .ref (q 167), .ref (q 168)])) : Option (Nat × va_E))) (t1_0 : Int32) (t1_1 : Int32) (t1_2 : Int32) (t1_3 : Int32) (t1_4 : Int32) (t1_5 : Int32) (t1_6 : Int32) (hT1 : ws[119]? = (some (q 119, .inr (13, [.int t1_0, .int t1_1, .ref (q 120), .int t1_2, .ref (q 121), .ref (q 122), .ref (q 123), .int t1_3, .ref (q 124), .ref (q 125), .ref (q 126), .ref (q 127), .ref (q 128), .ref (q 129), .ref (q 130), .ref (q 131), .int t1_4, .int t1_5, .ref (q 132), .ref (q 133), .int t1_6])) : Option (Nat × va_E))) (t2_0 : (Nat → Int32)) (hT2 : ws[121]? = (some (q 121, .inl (g 0, (1408 : Int32).toNatClampNeg, .inl t2_0)) : Option (Nat × va_E))) (t3_0 : (Nat → Int32)) (hT3 : ws[122]? = (some (q 122, .inl (g 3, 11, .inl t3_0)) : Option (Nat × va_E))) (t4_0 : (Nat → Int32)) (hT4 : ws[123]? = (some (q 123, .inl (g 0, (264 : Int32).toNatClampNeg, .inl t4_0)) : Option (Nat × va_E))) (t5_0 : (Nat → Int32)) (hT5 : ws[124]? = (some (q 124, .inl (g 0, (264 : Int32).toNatClampNeg, .inl t5_0)) : Option (Nat × va_E))) (t6_0 : (Nat → Int32)) (hT6 : ws[125]? = (some (q 125, .inl (g 0, (528 : Int32).toNatClampNeg, .inl t6_0)) : Option (Nat × va_E))) (t7_0 : (Nat → Int32)) (hT7 : ws[126]? = (some (q 126, .inl (g 0, (264 : Int32).toNatClampNeg, .inl t7_0)) : Option (Nat × va_E))) (t8_0 : (Nat → Int32)) (hT8 : ws[127]? = (some (q 127, .inl (g 0, (264 : Int32).toNatClampNeg, .inl t8_0)) : Option (Nat × va_E))) (t9_0 : (Nat → Int32)) (hT9 : ws[128]? = (some (q 128, .inl (g 0, (264 : Int32).toNatClampNeg, .inl t9_0)) : Option (Nat × va_E))) (t10_0 : (Nat → Int32)) (hT10 : ws[129]? = (some (q 129, .inl (g 0, (264 : Int32).toNatClampNeg, .inl t10_0)) : Option (Nat × va_E))) (t11_0 : (Nat → Int32)) (hT11 : ws[130]? = (some (q 130, .inl (g 0, (264 : Int32).toNatClampNeg, .inl t11_0)) : Option (Nat × va_E))) (t12_0 : (Nat → Int32)) (hT12 : ws[131]? = (some (q 131, .inl (g 0, (264 : Int32).toNatClampNeg, .inl t12_0)) : Option (Nat × va_E))) (t13_0 : (Nat → Int32)) (hT13 : ws[132]? = (some (q 132, .inl (g 0, (264 : Int32).toNatClampNeg, .inl t13_0)) : Option (Nat × va_E))) (hS : True ∧ S_NM_powerModulo x2 x3 x4 x5 t0_0 t0_1 t0_2 t1_0 t1_1 t1_2 t1_3 t1_4 t1_5 t1_6 t2_0 t3_0 t4_0 t5_0 t6_0 t7_0 t8_0 t9_0 t10_0 t11_0 t12_0 t13_0) : q_mV l y_NM_powerModulo prog_14_method_22_code 5 5 0 0 D g [.ref (q 116), .int x2, .int x3, .int x4, .int x5] ws (fun u => q_I (msh g q) q u ∧ q_un ws u [116, 119, 121, 122, 123, 124, 125, 126, 127, 128, 129, 130, 131, 132] ∧ ∃ (u0_0 : Int32) (u1_0 : Int32) (u1_1 : Int32) (u1_2 : Int32) (u1_3 : Int32) (u1_4 : Int32) (u1_5 : Int32) (u1_6 : Int32) (u2_0 : (Nat → Int32)) (u3_0 : (Nat → Int32)) (u4_0 : (Nat → Int32)) (u5_0 : (Nat → Int32)) (u6_0 : (Nat → Int32)) (u7_0 : (Nat → Int32)) (u8_0 : (Nat → Int32)) (u9_0 : (Nat → Int32)) (u10_0 : (Nat → Int32)) (u11_0 : (Nat → Int32)) (u12_0 : (Nat → Int32)) (u13_0 : (Nat → Int32)), u[116]? = (some (q 116, .inr (12, [.int u0_0, .ref (q 117), .int t0_1, .ref (q 118), .int t0_2, .ref (q 119), .ref (q 134), .ref (q 145), .ref (q 153), .ref (q 157), .ref (q 167), .ref (q 168)])) : Option (Nat × va_E)) ∧ u[119]? = (some (q 119, .inr (13, [.int u1_0, .int u1_1, .ref (q 120), .int u1_2, .ref (q 121), .ref (q 122), .ref (q 123), .int u1_3, .ref (q 124), .ref (q 125), .ref (q 126), .ref (q 127), .ref (q 128), .ref (q 129), .ref (q 130), .ref (q 131), .int u1_4, .int u1_5, .ref (q 132), .ref (q 133), .int u1_6])) : Option (Nat × va_E)) ∧ u[121]? = (some (q 121, .inl (g 0, (1408 : Int32).toNatClampNeg, .inl u2_0)) : Option (Nat × va_E)) ∧ u[122]? = (some (q 122, .inl (g 3, 11, .inl u3_0)) : Option (Nat × va_E)) ∧ u[123]? = (some (q 123, .inl (g 0, (264 : Int32).toNatClampNeg, .inl u4_0)) : Option (Nat × va_E)) ∧ u[124]? = (some (q 124, .inl (g 0, (264 : Int32).toNatClampNeg, .inl u5_0)) : Option (Nat × va_E)) ∧ u[125]? = (some (q 125, .inl (g 0, (528 : Int32).toNatClampNeg, .inl u6_0)) : Option (Nat × va_E)) ∧ u[126]? = (some (q 126, .inl (g 0, (264 : Int32).toNatClampNeg, .inl u7_0)) : Option (Nat × va_E)) ∧ u[127]? = (some (q 127, .inl (g 0, (264 : Int32).toNatClampNeg, .inl u8_0)) : Option (Nat × va_E)) ∧ u[128]? = (some (q 128, .inl (g 0, (264 : Int32).toNatClampNeg, .inl u9_0)) : Option (Nat × va_E)) ∧ u[129]? = (some (q 129, .inl (g 0, (264 : Int32).toNatClampNeg, .inl u10_0)) : Option (Nat × va_E)) ∧ u[130]? = (some (q 130, .inl (g 0, (264 : Int32).toNatClampNeg, .inl u11_0)) : Option (Nat × va_E)) ∧ u[131]? = (some (q 131, .inl (g 0, (264 : Int32).toNatClampNeg, .inl u12_0)) : Option (Nat × va_E)) ∧ u[132]? = (some (q 132, .inl (g 0, (264 : Int32).toNatClampNeg, .inl u13_0)) : Option (Nat × va_E)) ∧ (0 ≤ u1_3.toInt) ∧ (u1_3.toInt ≤ 1) ∧ (0 ≤ u1_4.toInt) ∧ (u1_4.toInt ≤ 1) ∧ (0 ≤ u1_5.toInt) ∧ (u1_5.toInt ≤ 1) ∧ (t1_1.toInt ≤ u1_1.toInt) ∧ (u1_1.toInt ≤ t1_1.toInt) ∧ (t1_2.toInt ≤ u1_2.toInt) ∧ (u1_2.toInt ≤ t1_2.toInt) ∧ (t1_6.toInt ≤ u1_6.toInt) ∧ (u1_6.toInt ≤ t1_6.toInt) ∧ (u0_0, u1_0, u1_1, u1_2, u1_3, u1_4, u1_5, u1_6, u2_0, u3_0, u4_0, u5_0, u6_0, u7_0, u8_0, u9_0, u10_0, u11_0, u12_0, u13_0) = (F_NM_powerModulo x2 x3 x4 x5 t0_0 t0_1 t0_2 t1_0 t1_1 t1_2 t1_3 t1_4 t1_5 t1_6 t2_0 t3_0 t4_0 t5_0 t6_0 t7_0 t8_0 t9_0 t10_0 t11_0 t12_0 t13_0)) := by
  intro sz
  refine q_into (by decide) (Nat.le_of_ble_eq_true rfl) ?_
  intro p e s m below meth c ls hsz C0 V hl
  have hx := C0.1
  have hb := C0.2.1
  obtain ⟨btt0_1, btt0_2⟩ := n_w116 hI hT0
  replace btt0_1 : q_F (0 ≤ t0_1.toInt ∧ t0_1.toInt ≤ 4100) := btt0_1
  replace btt0_2 : q_F (0 ≤ t0_2.toInt ∧ t0_2.toInt ≤ 12200) := btt0_2
  have hZ9 := (n_w119 hI hT1).2
  obtain ⟨btt1_3, hZ9⟩ := hZ9
  obtain ⟨btt1_4, hZ9⟩ := hZ9
  obtain ⟨btt1_5, -⟩ := hZ9
  replace btt1_3 : q_F (0 ≤ t1_3.toInt ∧ t1_3.toInt ≤ 1) := btt1_3
  replace btt1_4 : q_F (0 ≤ t1_4.toInt ∧ t1_4.toInt ≤ 1) := btt1_4
  replace btt1_5 : q_F (0 ≤ t1_5.toInt ∧ t1_5.toInt ≤ 1) := btt1_5
  have hF : q_un ws ws [116, 119, 121, 122, 123, 124, 125, 126, 127, 128, 129, 130, 131, 132] := q_u0
  have hl : lv_has ls 5 [(0, .ref (q 116)), (1, .int x2), (2, .int x3), (3, .int x4), (4, .int x5)] := hl
  refine lv_aload_n hx hb d_14_22_0 rfl (lv_at hl 0 rfl) ?_
  refine lv_iload_n hx hb d_14_22_1 rfl (lv_at hl 1 rfl) ?_
  refine q_goi V (q_runS (As := [.int x2]) (rest := [.ref (q 116)]) (d := 1) (mc := 0) (ms := 0) C0 V rfl LS_NM_70 (X_NM_no_IZ l D g q ws  x2 hI   _) rfl hl.1 rfl (Nat.le_of_ble_eq_true rfl) ⟨by decide, by decide⟩ ⟨Nat.le_of_ble_eq_true rfl, Nat.le_of_ble_eq_true rfl⟩ d_14_22_2) (fun a58 u56 H locs hp57 V => ?_)
  obtain ⟨rfl, b59, b60, hE61⟩ := hp57
  have e62 : a58 = (F_NM_no_IZ x2) := hE61
  clear b59
  clear b60
  refine q_join (X := Int32) (fun z H locs ls _ => q_F (0 ≤ z.toInt) ∧ q_F (z.toInt ≤ 1) ∧ q_Wd D g (va_A ws sz) s ws H locs ∧ lv_has ls 5 [(0, .ref (q 116)), (1, .int x2), (2, .int x3), (3, .int x4), (4, .int x5)] ∧ F_NM_powerModulo_J35 x2 x3 x4 x5 t0_0 t0_1 t0_2 t1_0 t1_1 t1_2 t1_3 t1_4 t1_5 t1_6 t2_0 t3_0 t4_0 t5_0 t6_0 t7_0 t8_0 t9_0 t10_0 t11_0 t12_0 t13_0 z = (F_NM_powerModulo x2 x3 x4 x5 t0_0 t0_1 t0_2 t1_0 t1_1 t1_2 t1_3 t1_4 t1_5 t1_6 t2_0 t3_0 t4_0 t5_0 t6_0 t7_0 t8_0 t9_0 t10_0 t11_0 t12_0 t13_0) ∧ True ∧ S_NM_powerModulo_J35 x2 x3 x4 x5 t0_0 t0_1 t0_2 t1_0 t1_1 t1_2 t1_3 t1_4 t1_5 t1_6 t2_0 t3_0 t4_0 t5_0 t6_0 t7_0 t8_0 t9_0 t10_0 t11_0 t12_0 t13_0 z) (fun z => [.int z, .ref (q 116)]) 35 0 0 ?_ ?_
  ·
    rintro lx63 H locs ls _ hZ9
    replace hZ9 := hZ9.2.2
    obtain ⟨V, hZ9⟩ := hZ9
    obtain ⟨hl, hZ9⟩ := hZ9
    obtain ⟨hR81, hS82⟩ := hZ9
    replace hl : lv_has ls 5 [(0, .ref (q 116)), (1, .int x2), (2, .int x3), (3, .int x4), (4, .int x5)] := hl
    refine q_put (ci := 12) (j := 0) (v := .int lx63) (ty := .int) C0 V i_NM o_NM n_NM rfl rfl hT0 (by decide) w_2298 rfl rfl rfl rfl (Nat.le_of_ble_eq_true rfl) d_14_22_35 (fun H locs w86 hu87 hT0 V => ?_)
    replace hT0 : w86[116]? = (some (q 116, .inr (12, [.int lx63, .ref (q 117), .int t0_1, .ref (q 118), .int t0_2, .ref (q 119), .ref (q 134), .ref (q 145), .ref (q 153), .ref (q 157), .ref (q 167), .ref (q 168)])) : Option (Nat × va_E)) := hT0
    replace hI := n_p116 hI hu87 hT0 (by first | with_reducible exact q_fe btt0_1 | exact ⟨(by have t1 : 0 ≤ t0_1.toInt ∧ t0_1.toInt ≤ 4100 := btt0_1; omega), (by have t1 : 0 ≤ t0_1.toInt ∧ t0_1.toInt ≤ 4100 := btt0_1; omega)⟩) (by first | with_reducible exact q_fe btt0_2 | exact ⟨(by have t1 : 0 ≤ t0_2.toInt ∧ t0_2.toInt ≤ 12200 := btt0_2; omega), (by have t1 : 0 ≤ t0_2.toInt ∧ t0_2.toInt ≤ 12200 := btt0_2; omega)⟩)
    replace hT1 := (hu87 _ (by decide)).trans hT1
    replace hT2 := (hu87 _ (by decide)).trans hT2
    replace hT3 := (hu87 _ (by decide)).trans hT3
    replace hT4 := (hu87 _ (by decide)).trans hT4
    replace hT5 := (hu87 _ (by decide)).trans hT5
    replace hT6 := (hu87 _ (by decide)).trans hT6
    replace hT7 := (hu87 _ (by decide)).trans hT7
    replace hT8 := (hu87 _ (by decide)).trans hT8
    replace hT9 := (hu87 _ (by decide)).trans hT9
    replace hT10 := (hu87 _ (by decide)).trans hT10
    replace hT11 := (hu87 _ (by decide)).trans hT11
    replace hT12 := (hu87 _ (by decide)).trans hT12
    replace hT13 := (hu87 _ (by decide)).trans hT13
    replace hF := q_us hF hu87 (by simp)
    refine lv_aload_n hx hb d_14_22_38 rfl (lv_at hl 0 rfl) ?_
    refine q_get (ci := 12) (j := 0) (v := .int lx63) C0 V i_NM rfl rfl hT0 (by decide) w_2298 rfl d_14_22_39 ?_
    refine lv_if_ne (tgt := 68) hx hb d_14_22_42 (by decide) (fun c88 => ?_) (fun c88 => ?_)
    ·
      exact q_retv C0 V (⟨hI, hF, lx63, t1_0, t1_1, t1_2, t1_3, t1_4, t1_5, t1_6, t2_0, t3_0, t4_0, t5_0, t6_0, t7_0, t8_0, t9_0, t10_0, t11_0, t12_0, t13_0, hT0, hT1, hT2, hT3, hT4, hT5, hT6, hT7, hT8, hT9, hT10, hT11, hT12, hT13, (show 0 ≤ t1_3.toInt from (by first | with_reducible exact (q_fe btt1_3).2 | with_reducible exact (q_fe btt1_3).1 | (have t1 : 0 ≤ t1_3.toInt ∧ t1_3.toInt ≤ 1 := btt1_3; omega))), (show t1_3.toInt ≤ 1 from (by first | with_reducible exact (q_fe btt1_3).2 | with_reducible exact (q_fe btt1_3).1 | (have t1 : 0 ≤ t1_3.toInt ∧ t1_3.toInt ≤ 1 := btt1_3; omega))), (show 0 ≤ t1_4.toInt from (by first | with_reducible exact (q_fe btt1_4).2 | with_reducible exact (q_fe btt1_4).1 | (have t1 : 0 ≤ t1_4.toInt ∧ t1_4.toInt ≤ 1 := btt1_4; omega))), (show t1_4.toInt ≤ 1 from (by first | with_reducible exact (q_fe btt1_4).2 | with_reducible exact (q_fe btt1_4).1 | (have t1 : 0 ≤ t1_4.toInt ∧ t1_4.toInt ≤ 1 := btt1_4; omega))), (show 0 ≤ t1_5.toInt from (by first | with_reducible exact (q_fe btt1_5).2 | with_reducible exact (q_fe btt1_5).1 | (have t1 : 0 ≤ t1_5.toInt ∧ t1_5.toInt ≤ 1 := btt1_5; omega))), (show t1_5.toInt ≤ 1 from (by first | with_reducible exact (q_fe btt1_5).2 | with_reducible exact (q_fe btt1_5).1 | (have t1 : 0 ≤ t1_5.toInt ∧ t1_5.toInt ≤ 1 := btt1_5; omega))), (show t1_1.toInt ≤ t1_1.toInt from (by omega)), (show t1_1.toInt ≤ t1_1.toInt from (by omega)), (show t1_2.toInt ≤ t1_2.toInt from (by omega)), (show t1_2.toInt ≤ t1_2.toInt from (by omega)), (show t1_6.toInt ≤ t1_6.toInt from (by omega)), (show t1_6.toInt ≤ t1_6.toInt from (by omega)), (show (lx63, t1_0, t1_1, t1_2, t1_3, t1_4, t1_5, t1_6, t2_0, t3_0, t4_0, t5_0, t6_0, t7_0, t8_0, t9_0, t10_0, t11_0, t12_0, t13_0) = (F_NM_powerModulo x2 x3 x4 x5 t0_0 t0_1 t0_2 t1_0 t1_1 t1_2 t1_3 t1_4 t1_5 t1_6 t2_0 t3_0 t4_0 t5_0 t6_0 t7_0 t8_0 t9_0 t10_0 t11_0 t12_0 t13_0) from Eq.trans (by rw [F_NM_powerModulo_J35.eq_1, if_neg c88]) hR81)⟩) d_14_22_68
    ·
      refine lv_aload_n hx hb d_14_22_45 rfl (lv_at hl 0 rfl) ?_
      refine q_get (ci := 12) (j := 5) (v := .ref (q 119)) C0 V i_NM rfl rfl hT0 (by decide) w_2303 rfl d_14_22_46 ?_
      refine lv_iload_n hx hb d_14_22_49 rfl (lv_at hl 1 rfl) ?_
      refine lv_iload_n hx hb d_14_22_50 rfl (lv_at hl 2 rfl) ?_
      refine lv_iload_n hx hb d_14_22_51 rfl (lv_at hl 3 rfl) ?_
      refine lv_iload hx hb d_14_22_52 (lv_at hl 4 rfl) ?_
      have ob91 : True ∧ S_WR_powerModulo x2 x3 x4 x5 t1_0 t1_1 t1_2 t1_3 t1_4 t1_5 t1_6 t2_0 t3_0 t4_0 t5_0 t6_0 t7_0 t8_0 t9_0 t10_0 t11_0 t12_0 t13_0 := (by have h := hS82; rw [S_NM_powerModulo_J35.eq_1] at h; rw [if_pos c88] at h; with_reducible exact h.2.1)
      refine q_gov V (q_runV (As := [.int x2, .int x3, .int x4, .int x5]) (rest := []) (d := 4) (mc := 0) (ms := 0) (ci := 13) C0 V rfl LV_NM_200 (X_WR_powerModulo l D g q w86  x2 x3 x4 x5 hI t1_0 t1_1 t1_2 t1_3 t1_4 t1_5 t1_6 hT1 t2_0 hT2 t3_0 hT3 t4_0 hT4 t5_0 hT5 t6_0 hT6 t7_0 hT7 t8_0 hT8 t9_0 hT9 t10_0 hT10 t11_0 hT11 t12_0 hT12 t13_0 hT13 ob91 _) rfl rfl hT1 rfl hl.1 rfl (Nat.le_of_ble_eq_true rfl) ⟨by decide, by decide⟩ ⟨Nat.le_of_ble_eq_true rfl, Nat.le_of_ble_eq_true rfl⟩ d_14_22_54) (fun u92 H locs hp93 V => ?_)
      obtain ⟨hI, hZ9⟩ := hp93
      obtain ⟨hu139, hZ9⟩ := hZ9
      obtain ⟨y95, hZ9⟩ := hZ9
      obtain ⟨y96, hZ9⟩ := hZ9
      obtain ⟨y97, hZ9⟩ := hZ9
      obtain ⟨y98, hZ9⟩ := hZ9
      obtain ⟨y99, hZ9⟩ := hZ9
      obtain ⟨y100, hZ9⟩ := hZ9
      obtain ⟨y101, hZ9⟩ := hZ9
      obtain ⟨f102, hZ9⟩ := hZ9
      obtain ⟨f104, hZ9⟩ := hZ9
      obtain ⟨f106, hZ9⟩ := hZ9
      obtain ⟨f108, hZ9⟩ := hZ9
      obtain ⟨f110, hZ9⟩ := hZ9
      obtain ⟨f112, hZ9⟩ := hZ9
      obtain ⟨f114, hZ9⟩ := hZ9
      obtain ⟨f116, hZ9⟩ := hZ9
      obtain ⟨f118, hZ9⟩ := hZ9
      obtain ⟨f120, hZ9⟩ := hZ9
      obtain ⟨f122, hZ9⟩ := hZ9
      obtain ⟨f124, hZ9⟩ := hZ9
      obtain ⟨hO94, hZ9⟩ := hZ9
      obtain ⟨hA103, hZ9⟩ := hZ9
      obtain ⟨hA105, hZ9⟩ := hZ9
      obtain ⟨hA107, hZ9⟩ := hZ9
      obtain ⟨hA109, hZ9⟩ := hZ9
      obtain ⟨hA111, hZ9⟩ := hZ9
      obtain ⟨hA113, hZ9⟩ := hZ9
      obtain ⟨hA115, hZ9⟩ := hZ9
      obtain ⟨hA117, hZ9⟩ := hZ9
      obtain ⟨hA119, hZ9⟩ := hZ9
      obtain ⟨hA121, hZ9⟩ := hZ9
      obtain ⟨hA123, hZ9⟩ := hZ9
      obtain ⟨hA125, hZ9⟩ := hZ9
      obtain ⟨b126, hZ9⟩ := hZ9
      obtain ⟨b127, hZ9⟩ := hZ9
      obtain ⟨b128, hZ9⟩ := hZ9
      obtain ⟨b129, hZ9⟩ := hZ9
      obtain ⟨b130, hZ9⟩ := hZ9
      obtain ⟨b131, hZ9⟩ := hZ9
      obtain ⟨b132, hZ9⟩ := hZ9
      obtain ⟨b133, hZ9⟩ := hZ9
      obtain ⟨b134, hZ9⟩ := hZ9
      obtain ⟨b135, hZ9⟩ := hZ9
      obtain ⟨b136, hZ9⟩ := hZ9
      obtain ⟨b137, hE138⟩ := hZ9
      replace hO94 : u92[119]? = (some (q 119, .inr (13, [.int y95, .int y96, .ref (q 120), .int y97, .ref (q 121), .ref (q 122), .ref (q 123), .int y98, .ref (q 124), .ref (q 125), .ref (q 126), .ref (q 127), .ref (q 128), .ref (q 129), .ref (q 130), .ref (q 131), .int y99, .int y100, .ref (q 132), .ref (q 133), .int y101])) : Option (Nat × va_E)) := hO94
      replace hA103 : u92[121]? = (some (q 121, .inl (g 0, (1408 : Int32).toNatClampNeg, .inl f102)) : Option (Nat × va_E)) := hA103
      replace hA105 : u92[122]? = (some (q 122, .inl (g 3, 11, .inl f104)) : Option (Nat × va_E)) := hA105
      replace hA107 : u92[123]? = (some (q 123, .inl (g 0, (264 : Int32).toNatClampNeg, .inl f106)) : Option (Nat × va_E)) := hA107
      replace hA109 : u92[124]? = (some (q 124, .inl (g 0, (264 : Int32).toNatClampNeg, .inl f108)) : Option (Nat × va_E)) := hA109
      replace hA111 : u92[125]? = (some (q 125, .inl (g 0, (528 : Int32).toNatClampNeg, .inl f110)) : Option (Nat × va_E)) := hA111
      replace hA113 : u92[126]? = (some (q 126, .inl (g 0, (264 : Int32).toNatClampNeg, .inl f112)) : Option (Nat × va_E)) := hA113
      replace hA115 : u92[127]? = (some (q 127, .inl (g 0, (264 : Int32).toNatClampNeg, .inl f114)) : Option (Nat × va_E)) := hA115
      replace hA117 : u92[128]? = (some (q 128, .inl (g 0, (264 : Int32).toNatClampNeg, .inl f116)) : Option (Nat × va_E)) := hA117
      replace hA119 : u92[129]? = (some (q 129, .inl (g 0, (264 : Int32).toNatClampNeg, .inl f118)) : Option (Nat × va_E)) := hA119
      replace hA121 : u92[130]? = (some (q 130, .inl (g 0, (264 : Int32).toNatClampNeg, .inl f120)) : Option (Nat × va_E)) := hA121
      replace hA123 : u92[131]? = (some (q 131, .inl (g 0, (264 : Int32).toNatClampNeg, .inl f122)) : Option (Nat × va_E)) := hA123
      replace hA125 : u92[132]? = (some (q 132, .inl (g 0, (264 : Int32).toNatClampNeg, .inl f124)) : Option (Nat × va_E)) := hA125
      obtain ⟨p140, e141⟩ : ∃ z, z = (F_WR_powerModulo x2 x3 x4 x5 t1_0 t1_1 t1_2 t1_3 t1_4 t1_5 t1_6 t2_0 t3_0 t4_0 t5_0 t6_0 t7_0 t8_0 t9_0 t10_0 t11_0 t12_0 t13_0) := ⟨_, rfl⟩
      have e142 : y95 = p140.1 := congrArg (fun z => z.1) (hE138.trans e141.symm)
      have e143 : y96 = p140.2.1 := congrArg (fun z => z.2.1) (hE138.trans e141.symm)
      have e144 : y97 = p140.2.2.1 := congrArg (fun z => z.2.2.1) (hE138.trans e141.symm)
      have e145 : y98 = p140.2.2.2.1 := congrArg (fun z => z.2.2.2.1) (hE138.trans e141.symm)
      have e146 : y99 = p140.2.2.2.2.1 := congrArg (fun z => z.2.2.2.2.1) (hE138.trans e141.symm)
      have e147 : y100 = p140.2.2.2.2.2.1 := congrArg (fun z => z.2.2.2.2.2.1) (hE138.trans e141.symm)
      have e148 : y101 = p140.2.2.2.2.2.2.1 := congrArg (fun z => z.2.2.2.2.2.2.1) (hE138.trans e141.symm)
      have e149 : f102 = p140.2.2.2.2.2.2.2.1 := congrArg (fun z => z.2.2.2.2.2.2.2.1) (hE138.trans e141.symm)
      have e150 : f104 = p140.2.2.2.2.2.2.2.2.1 := congrArg (fun z => z.2.2.2.2.2.2.2.2.1) (hE138.trans e141.symm)
      have e151 : f106 = p140.2.2.2.2.2.2.2.2.2.1 := congrArg (fun z => z.2.2.2.2.2.2.2.2.2.1) (hE138.trans e141.symm)
      have e152 : f108 = p140.2.2.2.2.2.2.2.2.2.2.1 := congrArg (fun z => z.2.2.2.2.2.2.2.2.2.2.1) (hE138.trans e141.symm)
      have e153 : f110 = p140.2.2.2.2.2.2.2.2.2.2.2.1 := congrArg (fun z => z.2.2.2.2.2.2.2.2.2.2.2.1) (hE138.trans e141.symm)
      have e154 : f112 = p140.2.2.2.2.2.2.2.2.2.2.2.2.1 := congrArg (fun z => z.2.2.2.2.2.2.2.2.2.2.2.2.1) (hE138.trans e141.symm)
      have e155 : f114 = p140.2.2.2.2.2.2.2.2.2.2.2.2.2.1 := congrArg (fun z => z.2.2.2.2.2.2.2.2.2.2.2.2.2.1) (hE138.trans e141.symm)
      have e156 : f116 = p140.2.2.2.2.2.2.2.2.2.2.2.2.2.2.1 := congrArg (fun z => z.2.2.2.2.2.2.2.2.2.2.2.2.2.2.1) (hE138.trans e141.symm)
      have e157 : f118 = p140.2.2.2.2.2.2.2.2.2.2.2.2.2.2.2.1 := congrArg (fun z => z.2.2.2.2.2.2.2.2.2.2.2.2.2.2.2.1) (hE138.trans e141.symm)
      have e158 : f120 = p140.2.2.2.2.2.2.2.2.2.2.2.2.2.2.2.2.1 := congrArg (fun z => z.2.2.2.2.2.2.2.2.2.2.2.2.2.2.2.2.1) (hE138.trans e141.symm)
      have e159 : f122 = p140.2.2.2.2.2.2.2.2.2.2.2.2.2.2.2.2.2.1 := congrArg (fun z => z.2.2.2.2.2.2.2.2.2.2.2.2.2.2.2.2.2.1) (hE138.trans e141.symm)
      have e160 : f124 = p140.2.2.2.2.2.2.2.2.2.2.2.2.2.2.2.2.2.2 := congrArg (fun z => z.2.2.2.2.2.2.2.2.2.2.2.2.2.2.2.2.2.2) (hE138.trans e141.symm)
      replace b126 : q_F (0 ≤ y98.toInt) := b126
      replace b127 : q_F (y98.toInt ≤ 1) := b127
      replace b128 : q_F (0 ≤ y99.toInt) := b128
      replace b129 : q_F (y99.toInt ≤ 1) := b129
      replace b130 : q_F (0 ≤ y100.toInt) := b130
      replace b131 : q_F (y100.toInt ≤ 1) := b131
      replace b132 : q_F (t1_1.toInt ≤ y96.toInt) := b132
      replace b133 : q_F (y96.toInt ≤ t1_1.toInt) := b133
      replace b134 : q_F (t1_2.toInt ≤ y97.toInt) := b134
      replace b135 : q_F (y97.toInt ≤ t1_2.toInt) := b135
      replace b136 : q_F (t1_6.toInt ≤ y101.toInt) := b136
      replace b137 : q_F (y101.toInt ≤ t1_6.toInt) := b137
      replace hT0 := (hu139 _ (by decide)).trans hT0
      replace hF := q_uc hF hu139 (by simp)
      have hR161 := (show F_NM_powerModulo_c54 x2 x3 x4 x5 t0_0 t0_1 t0_2 t1_0 t1_1 t1_2 t1_3 t1_4 t1_5 t1_6 t2_0 t3_0 t4_0 t5_0 t6_0 t7_0 t8_0 t9_0 t10_0 t11_0 t12_0 t13_0 lx63 p140 = (F_NM_powerModulo x2 x3 x4 x5 t0_0 t0_1 t0_2 t1_0 t1_1 t1_2 t1_3 t1_4 t1_5 t1_6 t2_0 t3_0 t4_0 t5_0 t6_0 t7_0 t8_0 t9_0 t10_0 t11_0 t12_0 t13_0) from Eq.trans (by rw [e141, F_NM_powerModulo_J35.eq_1, if_pos c88]) hR81)
      have hS162 := (show True ∧ S_NM_powerModulo_c54 x2 x3 x4 x5 t0_0 t0_1 t0_2 t1_0 t1_1 t1_2 t1_3 t1_4 t1_5 t1_6 t2_0 t3_0 t4_0 t5_0 t6_0 t7_0 t8_0 t9_0 t10_0 t11_0 t12_0 t13_0 lx63 p140 from (by rw [e141]; have h := hS82; rw [S_NM_powerModulo_J35.eq_1] at h; rw [if_pos c88] at h; replace h := q_s2 h; with_reducible exact h))
      refine lv_aload_n hx hb d_14_22_57 rfl (lv_at hl 0 rfl) ?_
      refine lv_aload_n hx hb d_14_22_58 rfl (lv_at hl 0 rfl) ?_
      refine q_get (ci := 12) (j := 5) (v := .ref (q 119)) C0 V i_NM rfl rfl hT0 (by decide) w_2303 rfl d_14_22_59 ?_
      refine q_getN (ci := 13) (j := 0) (v := .int y95) C0 V i_WR rfl rfl hO94 (by decide) wo_1922 rfl d_14_22_62 ?_
      refine q_put (ci := 12) (j := 0) (v := .int y95) (ty := .int) C0 V i_NM o_NM n_NM rfl rfl hT0 (by decide) w_2298 rfl rfl rfl rfl (Nat.le_of_ble_eq_true rfl) d_14_22_65 (fun H locs w166 hu167 hT0 V => ?_)
      replace hT0 : w166[116]? = (some (q 116, .inr (12, [.int y95, .ref (q 117), .int t0_1, .ref (q 118), .int t0_2, .ref (q 119), .ref (q 134), .ref (q 145), .ref (q 153), .ref (q 157), .ref (q 167), .ref (q 168)])) : Option (Nat × va_E)) := hT0
      replace hI := n_p116 hI hu167 hT0 (by first | with_reducible exact q_fe btt0_1 | exact ⟨(by have t1 : 0 ≤ t0_1.toInt ∧ t0_1.toInt ≤ 4100 := btt0_1; omega), (by have t1 : 0 ≤ t0_1.toInt ∧ t0_1.toInt ≤ 4100 := btt0_1; omega)⟩) (by first | with_reducible exact q_fe btt0_2 | exact ⟨(by have t1 : 0 ≤ t0_2.toInt ∧ t0_2.toInt ≤ 12200 := btt0_2; omega), (by have t1 : 0 ≤ t0_2.toInt ∧ t0_2.toInt ≤ 12200 := btt0_2; omega)⟩)
      replace hO94 := (hu167 _ (by decide)).trans hO94
      replace hA103 := (hu167 _ (by decide)).trans hA103
      replace hA105 := (hu167 _ (by decide)).trans hA105
      replace hA107 := (hu167 _ (by decide)).trans hA107
      replace hA109 := (hu167 _ (by decide)).trans hA109
      replace hA111 := (hu167 _ (by decide)).trans hA111
      replace hA113 := (hu167 _ (by decide)).trans hA113
      replace hA115 := (hu167 _ (by decide)).trans hA115
      replace hA117 := (hu167 _ (by decide)).trans hA117
      replace hA119 := (hu167 _ (by decide)).trans hA119
      replace hA121 := (hu167 _ (by decide)).trans hA121
      replace hA123 := (hu167 _ (by decide)).trans hA123
      replace hA125 := (hu167 _ (by decide)).trans hA125
      replace hF := q_us hF hu167 (by simp)
      exact q_retv C0 V (⟨hI, hF, y95, y95, y96, y97, y98, y99, y100, y101, f102, f104, f106, f108, f110, f112, f114, f116, f118, f120, f122, f124, hT0, hO94, hA103, hA105, hA107, hA109, hA111, hA113, hA115, hA117, hA119, hA121, hA123, hA125, (show 0 ≤ y98.toInt from (by first | with_reducible exact q_fe b126 | (have t1 : 0 ≤ y98.toInt := b126; omega))), (show y98.toInt ≤ 1 from (by first | with_reducible exact q_fe b127 | (have t1 : y98.toInt ≤ 1 := b127; omega))), (show 0 ≤ y99.toInt from (by first | with_reducible exact q_fe b128 | (have t1 : 0 ≤ y99.toInt := b128; omega))), (show y99.toInt ≤ 1 from (by first | with_reducible exact q_fe b129 | (have t1 : y99.toInt ≤ 1 := b129; omega))), (show 0 ≤ y100.toInt from (by first | with_reducible exact q_fe b130 | (have t1 : 0 ≤ y100.toInt := b130; omega))), (show y100.toInt ≤ 1 from (by first | with_reducible exact q_fe b131 | (have t1 : y100.toInt ≤ 1 := b131; omega))), (show t1_1.toInt ≤ y96.toInt from (by first | with_reducible exact q_fe b132 | (have t1 : t1_1.toInt ≤ y96.toInt := b132; omega))), (show y96.toInt ≤ t1_1.toInt from (by first | with_reducible exact q_fe b133 | (have t1 : y96.toInt ≤ t1_1.toInt := b133; omega))), (show t1_2.toInt ≤ y97.toInt from (by first | with_reducible exact q_fe b134 | (have t1 : t1_2.toInt ≤ y97.toInt := b134; omega))), (show y97.toInt ≤ t1_2.toInt from (by first | with_reducible exact q_fe b135 | (have t1 : y97.toInt ≤ t1_2.toInt := b135; omega))), (show t1_6.toInt ≤ y101.toInt from (by first | with_reducible exact q_fe b136 | (have t1 : t1_6.toInt ≤ y101.toInt := b136; omega))), (show y101.toInt ≤ t1_6.toInt from (by first | with_reducible exact q_fe b137 | (have t1 : y101.toInt ≤ t1_6.toInt := b137; omega))), (show (y95, y95, y96, y97, y98, y99, y100, y101, f102, f104, f106, f108, f110, f112, f114, f116, f118, f120, f122, f124) = (F_NM_powerModulo x2 x3 x4 x5 t0_0 t0_1 t0_2 t1_0 t1_1 t1_2 t1_3 t1_4 t1_5 t1_6 t2_0 t3_0 t4_0 t5_0 t6_0 t7_0 t8_0 t9_0 t10_0 t11_0 t12_0 t13_0) from Eq.trans (by rw [e160, e159, e158, e157, e156, e155, e154, e153, e152, e151, e150, e149, e148, e147, e146, e145, e144, e143, e142, F_NM_powerModulo_c54.eq_1]) hR161)⟩) d_14_22_68
  ·
    intro J78
    refine q_join (X := Unit) (fun z H locs ls _ => q_Wd D g (va_A ws sz) s ws H locs ∧ lv_has ls 5 [(0, .ref (q 116)), (1, .int x2), (2, .int x3), (3, .int x4), (4, .int x5)] ∧ F_NM_powerModulo_J30 x2 x3 x4 x5 t0_0 t0_1 t0_2 t1_0 t1_1 t1_2 t1_3 t1_4 t1_5 t1_6 t2_0 t3_0 t4_0 t5_0 t6_0 t7_0 t8_0 t9_0 t10_0 t11_0 t12_0 t13_0 = (F_NM_powerModulo x2 x3 x4 x5 t0_0 t0_1 t0_2 t1_0 t1_1 t1_2 t1_3 t1_4 t1_5 t1_6 t2_0 t3_0 t4_0 t5_0 t6_0 t7_0 t8_0 t9_0 t10_0 t11_0 t12_0 t13_0) ∧ True ∧ S_NM_powerModulo_J30 x2 x3 x4 x5 t0_0 t0_1 t0_2 t1_0 t1_1 t1_2 t1_3 t1_4 t1_5 t1_6 t2_0 t3_0 t4_0 t5_0 t6_0 t7_0 t8_0 t9_0 t10_0 t11_0 t12_0 t13_0) (fun z => [.ref (q 116)]) 30 0 0 ?_ ?_
    ·
      rintro _ H locs ls _ ⟨V, hl, hR183, hS184⟩
      replace hl : lv_has ls 5 [(0, .ref (q 116)), (1, .int x2), (2, .int x3), (3, .int x4), (4, .int x5)] := hl
      refine lv_iconst (v := 1) hx hb d_14_22_30 (by decide) ?_
      refine lv_goto (tgt := 35) hx hb d_14_22_31 (by decide) ?_
      exact J78 ((1 : Int32)) _ _ _ ws ⟨(show q_F (0 ≤ 1) from (show 0 ≤ 1 from by omega)), (show q_F (1 ≤ 1) from (show 1 ≤ 1 from by omega)), V, q_lw hl (q_lw1 0 rfl (q_lw1 1 rfl (q_lw1 2 rfl (q_lw1 3 rfl (q_lw1 4 rfl q_lw0))))), (show F_NM_powerModulo_J35 x2 x3 x4 x5 t0_0 t0_1 t0_2 t1_0 t1_1 t1_2 t1_3 t1_4 t1_5 t1_6 t2_0 t3_0 t4_0 t5_0 t6_0 t7_0 t8_0 t9_0 t10_0 t11_0 t12_0 t13_0 1 = (F_NM_powerModulo x2 x3 x4 x5 t0_0 t0_1 t0_2 t1_0 t1_1 t1_2 t1_3 t1_4 t1_5 t1_6 t2_0 t3_0 t4_0 t5_0 t6_0 t7_0 t8_0 t9_0 t10_0 t11_0 t12_0 t13_0) from Eq.trans (by rw [F_NM_powerModulo_J30.eq_1]) hR183), (show True ∧ S_NM_powerModulo_J35 x2 x3 x4 x5 t0_0 t0_1 t0_2 t1_0 t1_1 t1_2 t1_3 t1_4 t1_5 t1_6 t2_0 t3_0 t4_0 t5_0 t6_0 t7_0 t8_0 t9_0 t10_0 t11_0 t12_0 t13_0 1 from (by have h := hS184; rw [S_NM_powerModulo_J30.eq_1] at h; with_reducible exact h))⟩
    ·
      intro J182
      refine lv_if_ne (tgt := 30) hx hb d_14_22_5 (by decide) (fun c188 => ?_) (fun c188 => ?_)
      ·
        exact J182 (()) _ _ _ ws ⟨V, q_lw hl (q_lw1 0 rfl (q_lw1 1 rfl (q_lw1 2 rfl (q_lw1 3 rfl (q_lw1 4 rfl q_lw0))))), (show F_NM_powerModulo_J30 x2 x3 x4 x5 t0_0 t0_1 t0_2 t1_0 t1_1 t1_2 t1_3 t1_4 t1_5 t1_6 t2_0 t3_0 t4_0 t5_0 t6_0 t7_0 t8_0 t9_0 t10_0 t11_0 t12_0 t13_0 = (F_NM_powerModulo x2 x3 x4 x5 t0_0 t0_1 t0_2 t1_0 t1_1 t1_2 t1_3 t1_4 t1_5 t1_6 t2_0 t3_0 t4_0 t5_0 t6_0 t7_0 t8_0 t9_0 t10_0 t11_0 t12_0 t13_0) from (by have c188x := c188; rw [e62] at c188x; rw [F_NM_powerModulo.eq_1, if_neg c188x])), (show True ∧ S_NM_powerModulo_J30 x2 x3 x4 x5 t0_0 t0_1 t0_2 t1_0 t1_1 t1_2 t1_3 t1_4 t1_5 t1_6 t2_0 t3_0 t4_0 t5_0 t6_0 t7_0 t8_0 t9_0 t10_0 t11_0 t12_0 t13_0 from (by have h := hS; rw [S_NM_powerModulo.eq_1] at h; have c188x := c188; rw [e62] at c188x; rw [if_neg c188x] at h; with_reducible exact h))⟩
      ·
        refine lv_iload_n hx hb d_14_22_8 rfl (lv_at hl 2 rfl) ?_
        refine q_goi V (q_runS (As := [.int x3]) (rest := [.ref (q 116)]) (d := 1) (mc := 0) (ms := 0) C0 V rfl LS_NM_70 (X_NM_no_IZ l D g q ws  x3 hI   _) rfl hl.1 rfl (Nat.le_of_ble_eq_true rfl) ⟨by decide, by decide⟩ ⟨Nat.le_of_ble_eq_true rfl, Nat.le_of_ble_eq_true rfl⟩ d_14_22_9) (fun a193 u191 H locs hp192 V => ?_)
        obtain ⟨rfl, b194, b195, hE196⟩ := hp192
        have e197 : a193 = (F_NM_no_IZ x3) := hE196
        clear b194
        clear b195
        refine lv_if_ne (tgt := 30) hx hb d_14_22_12 (by decide) (fun c198 => ?_) (fun c198 => ?_)
        ·
          exact J182 (()) _ _ _ ws ⟨V, q_lw hl (q_lw1 0 rfl (q_lw1 1 rfl (q_lw1 2 rfl (q_lw1 3 rfl (q_lw1 4 rfl q_lw0))))), (show F_NM_powerModulo_J30 x2 x3 x4 x5 t0_0 t0_1 t0_2 t1_0 t1_1 t1_2 t1_3 t1_4 t1_5 t1_6 t2_0 t3_0 t4_0 t5_0 t6_0 t7_0 t8_0 t9_0 t10_0 t11_0 t12_0 t13_0 = (F_NM_powerModulo x2 x3 x4 x5 t0_0 t0_1 t0_2 t1_0 t1_1 t1_2 t1_3 t1_4 t1_5 t1_6 t2_0 t3_0 t4_0 t5_0 t6_0 t7_0 t8_0 t9_0 t10_0 t11_0 t12_0 t13_0) from (by have c188x := c188; rw [e62] at c188x; have c198x := c198; rw [e197] at c198x; rw [F_NM_powerModulo.eq_1, if_pos c188x, if_neg c198x])), (show True ∧ S_NM_powerModulo_J30 x2 x3 x4 x5 t0_0 t0_1 t0_2 t1_0 t1_1 t1_2 t1_3 t1_4 t1_5 t1_6 t2_0 t3_0 t4_0 t5_0 t6_0 t7_0 t8_0 t9_0 t10_0 t11_0 t12_0 t13_0 from (by have h := hS; rw [S_NM_powerModulo.eq_1] at h; have c188x := c188; rw [e62] at c188x; rw [if_pos c188x] at h; have c198x := c198; rw [e197] at c198x; rw [if_neg c198x] at h; with_reducible exact h))⟩
        ·
          refine lv_iload_n hx hb d_14_22_15 rfl (lv_at hl 3 rfl) ?_
          refine q_goi V (q_runS (As := [.int x4]) (rest := [.ref (q 116)]) (d := 1) (mc := 0) (ms := 0) C0 V rfl LS_NM_70 (X_NM_no_IZ l D g q ws  x4 hI   _) rfl hl.1 rfl (Nat.le_of_ble_eq_true rfl) ⟨by decide, by decide⟩ ⟨Nat.le_of_ble_eq_true rfl, Nat.le_of_ble_eq_true rfl⟩ d_14_22_16) (fun a203 u201 H locs hp202 V => ?_)
          obtain ⟨rfl, b204, b205, hE206⟩ := hp202
          have e207 : a203 = (F_NM_no_IZ x4) := hE206
          clear b204
          clear b205
          refine lv_if_ne (tgt := 30) hx hb d_14_22_19 (by decide) (fun c208 => ?_) (fun c208 => ?_)
          ·
            exact J182 (()) _ _ _ ws ⟨V, q_lw hl (q_lw1 0 rfl (q_lw1 1 rfl (q_lw1 2 rfl (q_lw1 3 rfl (q_lw1 4 rfl q_lw0))))), (show F_NM_powerModulo_J30 x2 x3 x4 x5 t0_0 t0_1 t0_2 t1_0 t1_1 t1_2 t1_3 t1_4 t1_5 t1_6 t2_0 t3_0 t4_0 t5_0 t6_0 t7_0 t8_0 t9_0 t10_0 t11_0 t12_0 t13_0 = (F_NM_powerModulo x2 x3 x4 x5 t0_0 t0_1 t0_2 t1_0 t1_1 t1_2 t1_3 t1_4 t1_5 t1_6 t2_0 t3_0 t4_0 t5_0 t6_0 t7_0 t8_0 t9_0 t10_0 t11_0 t12_0 t13_0) from (by have c188x := c188; rw [e62] at c188x; have c198x := c198; rw [e197] at c198x; have c208x := c208; rw [e207] at c208x; rw [F_NM_powerModulo.eq_1, if_pos c188x, if_pos c198x, if_neg c208x])), (show True ∧ S_NM_powerModulo_J30 x2 x3 x4 x5 t0_0 t0_1 t0_2 t1_0 t1_1 t1_2 t1_3 t1_4 t1_5 t1_6 t2_0 t3_0 t4_0 t5_0 t6_0 t7_0 t8_0 t9_0 t10_0 t11_0 t12_0 t13_0 from (by have h := hS; rw [S_NM_powerModulo.eq_1] at h; have c188x := c188; rw [e62] at c188x; rw [if_pos c188x] at h; have c198x := c198; rw [e197] at c198x; rw [if_pos c198x] at h; have c208x := c208; rw [e207] at c208x; rw [if_neg c208x] at h; with_reducible exact h))⟩
          ·
            refine lv_iload hx hb d_14_22_22 (lv_at hl 4 rfl) ?_
            refine q_goi V (q_runS (As := [.int x5]) (rest := [.ref (q 116)]) (d := 1) (mc := 0) (ms := 0) C0 V rfl LS_NM_70 (X_NM_no_IZ l D g q ws  x5 hI   _) rfl hl.1 rfl (Nat.le_of_ble_eq_true rfl) ⟨by decide, by decide⟩ ⟨Nat.le_of_ble_eq_true rfl, Nat.le_of_ble_eq_true rfl⟩ d_14_22_24) (fun a213 u211 H locs hp212 V => ?_)
            obtain ⟨rfl, b214, b215, hE216⟩ := hp212
            have e217 : a213 = (F_NM_no_IZ x5) := hE216
            clear b214
            clear b215
            refine lv_if_eq (tgt := 34) hx hb d_14_22_27 (by decide) (fun c218 => ?_) (fun c218 => ?_)
            ·
              refine lv_iconst (v := 0) hx hb d_14_22_34 (by decide) ?_
              exact J78 ((0 : Int32)) _ _ _ ws ⟨(show q_F (0 ≤ 0) from (show 0 ≤ 0 from by omega)), (show q_F (0 ≤ 1) from (show 0 ≤ 1 from by omega)), V, q_lw hl (q_lw1 0 rfl (q_lw1 1 rfl (q_lw1 2 rfl (q_lw1 3 rfl (q_lw1 4 rfl q_lw0))))), (show F_NM_powerModulo_J35 x2 x3 x4 x5 t0_0 t0_1 t0_2 t1_0 t1_1 t1_2 t1_3 t1_4 t1_5 t1_6 t2_0 t3_0 t4_0 t5_0 t6_0 t7_0 t8_0 t9_0 t10_0 t11_0 t12_0 t13_0 0 = (F_NM_powerModulo x2 x3 x4 x5 t0_0 t0_1 t0_2 t1_0 t1_1 t1_2 t1_3 t1_4 t1_5 t1_6 t2_0 t3_0 t4_0 t5_0 t6_0 t7_0 t8_0 t9_0 t10_0 t11_0 t12_0 t13_0) from (by have c188x := c188; rw [e62] at c188x; have c198x := c198; rw [e197] at c198x; have c208x := c208; rw [e207] at c208x; have c218x := c218; rw [e217] at c218x; rw [F_NM_powerModulo.eq_1, if_pos c188x, if_pos c198x, if_pos c208x, if_pos c218x])), (show True ∧ S_NM_powerModulo_J35 x2 x3 x4 x5 t0_0 t0_1 t0_2 t1_0 t1_1 t1_2 t1_3 t1_4 t1_5 t1_6 t2_0 t3_0 t4_0 t5_0 t6_0 t7_0 t8_0 t9_0 t10_0 t11_0 t12_0 t13_0 0 from (by have h := hS; rw [S_NM_powerModulo.eq_1] at h; have c188x := c188; rw [e62] at c188x; rw [if_pos c188x] at h; have c198x := c198; rw [e197] at c198x; rw [if_pos c198x] at h; have c208x := c208; rw [e207] at c208x; rw [if_pos c208x] at h; have c218x := c218; rw [e217] at c218x; rw [if_pos c218x] at h; with_reducible exact h))⟩
            ·
              exact J182 (()) _ _ _ ws ⟨V, q_lw hl (q_lw1 0 rfl (q_lw1 1 rfl (q_lw1 2 rfl (q_lw1 3 rfl (q_lw1 4 rfl q_lw0))))), (show F_NM_powerModulo_J30 x2 x3 x4 x5 t0_0 t0_1 t0_2 t1_0 t1_1 t1_2 t1_3 t1_4 t1_5 t1_6 t2_0 t3_0 t4_0 t5_0 t6_0 t7_0 t8_0 t9_0 t10_0 t11_0 t12_0 t13_0 = (F_NM_powerModulo x2 x3 x4 x5 t0_0 t0_1 t0_2 t1_0 t1_1 t1_2 t1_3 t1_4 t1_5 t1_6 t2_0 t3_0 t4_0 t5_0 t6_0 t7_0 t8_0 t9_0 t10_0 t11_0 t12_0 t13_0) from (by have c188x := c188; rw [e62] at c188x; have c198x := c198; rw [e197] at c198x; have c208x := c208; rw [e207] at c208x; have c218x := c218; rw [e217] at c218x; rw [F_NM_powerModulo.eq_1, if_pos c188x, if_pos c198x, if_pos c208x, if_neg c218x])), (show True ∧ S_NM_powerModulo_J30 x2 x3 x4 x5 t0_0 t0_1 t0_2 t1_0 t1_1 t1_2 t1_3 t1_4 t1_5 t1_6 t2_0 t3_0 t4_0 t5_0 t6_0 t7_0 t8_0 t9_0 t10_0 t11_0 t12_0 t13_0 from (by have h := hS; rw [S_NM_powerModulo.eq_1] at h; have c188x := c188; rw [e62] at c188x; rw [if_pos c188x] at h; have c198x := c198; rw [e197] at c198x; rw [if_pos c198x] at h; have c208x := c208; rw [e207] at c208x; rw [if_pos c208x] at h; have c218x := c218; rw [e217] at c218x; rw [if_neg c218x] at h; with_reducible exact h))⟩
theorem d_14_23_0 : decode prog_14_method_23_code 0 = .ok (.aload_n 0, 1) := by decide +kernel
theorem d_14_23_1 : decode prog_14_method_23_code 1 = .ok (.iload_n 1, 1) := by decide +kernel
theorem d_14_23_37 : decode prog_14_method_23_code 37 = .ok (.putfield 58, 3) := by decide +kernel
theorem d_14_23_40 : decode prog_14_method_23_code 40 = .ok (.aload_n 0, 1) := by decide +kernel
theorem d_14_23_41 : decode prog_14_method_23_code 41 = .ok (.getfield 58, 3) := by decide +kernel
theorem d_14_23_44 : decode prog_14_method_23_code 44 = .ok (.ifCond .le 4, 3) := by decide +kernel
theorem d_14_23_48 : decode prog_14_method_23_code 48 = .ok (.iload_n 1, 1) := by decide +kernel
theorem d_14_23_49 : decode prog_14_method_23_code 49 = .ok (.iconst 2, 1) := by decide +kernel
theorem d_14_23_50 : decode prog_14_method_23_code 50 = .ok (.if_icmp .ge 27, 3) := by decide +kernel
theorem d_14_23_77 : decode prog_14_method_23_code 77 = .ok (.iload_n 1, 1) := by decide +kernel
theorem d_14_23_78 : decode prog_14_method_23_code 78 = .ok (.iconst 2, 1) := by decide +kernel
theorem d_14_23_79 : decode prog_14_method_23_code 79 = .ok (.if_icmp .ne 17, 3) := by decide +kernel
theorem d_14_23_96 : decode prog_14_method_23_code 96 = .ok (.aload_n 0, 1) := by decide +kernel
theorem d_14_23_97 : decode prog_14_method_23_code 97 = .ok (.getfield 26, 3) := by decide +kernel
theorem d_14_23_100 : decode prog_14_method_23_code 100 = .ok (.iload_n 2, 1) := by decide +kernel
theorem d_14_23_101 : decode prog_14_method_23_code 101 = .ok (.iload_n 3, 1) := by decide +kernel
theorem d_14_23_102 : decode prog_14_method_23_code 102 = .ok (.iload 4, 2) := by decide +kernel
theorem d_14_23_104 : decode prog_14_method_23_code 104 = .ok (.invokevirtual 205, 3) := by decide +kernel
set_option maxRecDepth 100000 in
theorem w_2801 : (Cond.code ({ cls := "NumberHouseModel$DecimalRows", name := "remainder", desc := "(III)V" } : MethodName) prog_15_method_39_code (14 : Nat) (none : Option ClassFile.FieldType)) ∈ q_tbl := q_of12 161 rfl (by decide +kernel)
set_option maxRecDepth 100000 in
theorem w_2798 : (Cond.methodLink "NumberHouseModel" (205 : Nat) ({ cls := "NumberHouseModel$DecimalRows", name := "remainder", desc := "(III)V" } : MethodName)) ∈ q_tbl := q_of12 158 rfl (by decide +kernel)
set_option maxRecDepth 100000 in
theorem w_2799 : (Cond.instanceMethod ({ cls := "NumberHouseModel$DecimalRows", name := "remainder", desc := "(III)V" } : MethodName)) ∈ q_tbl := q_of12 159 rfl (by decide +kernel)
set_option maxRecDepth 100000 in
theorem w_2800 : (Cond.selects "NumberHouseModel$DecimalRows" ({ cls := "NumberHouseModel$DecimalRows", name := "remainder", desc := "(III)V" } : MethodName) ({ cls := "NumberHouseModel$DecimalRows", name := "remainder", desc := "(III)V" } : MethodName)) ∈ q_tbl := q_of12 160 rfl (by decide +kernel)
theorem LV_NM_205 : q_LV "NumberHouseModel" 205 y_DR_remainder prog_15_method_39_code 14 none 3 := ⟨w_2801, w_16, w_2798, w_2799, w_2800, ⟨by decide, by decide, by decide +kernel⟩⟩
theorem d_14_23_107 : decode prog_14_method_23_code 107 = .ok (.aload_n 0, 1) := by decide +kernel
theorem d_14_23_108 : decode prog_14_method_23_code 108 = .ok (.aload_n 0, 1) := by decide +kernel
theorem d_14_23_109 : decode prog_14_method_23_code 109 = .ok (.getfield 26, 3) := by decide +kernel
theorem d_14_23_112 : decode prog_14_method_23_code 112 = .ok (.getfield 105, 3) := by decide +kernel
theorem d_14_23_115 : decode prog_14_method_23_code 115 = .ok (.putfield 58, 3) := by decide +kernel
theorem d_14_23_118 : decode prog_14_method_23_code 118 = .ok (.return_, 1) := by decide +kernel
theorem d_14_23_82 : decode prog_14_method_23_code 82 = .ok (.aload_n 0, 1) := by decide +kernel
theorem d_14_23_83 : decode prog_14_method_23_code 83 = .ok (.getfield 26, 3) := by decide +kernel
theorem d_14_23_86 : decode prog_14_method_23_code 86 = .ok (.iload_n 2, 1) := by decide +kernel
theorem d_14_23_87 : decode prog_14_method_23_code 87 = .ok (.iload_n 3, 1) := by decide +kernel
theorem d_14_23_88 : decode prog_14_method_23_code 88 = .ok (.iload 4, 2) := by decide +kernel
theorem d_14_23_90 : decode prog_14_method_23_code 90 = .ok (.invokevirtual 204, 3) := by decide +kernel
set_option maxRecDepth 100000 in
theorem w_2789 : (Cond.code ({ cls := "NumberHouseModel$DecimalRows", name := "multiply", desc := "(III)V" } : MethodName) prog_15_method_28_code (4 : Nat) (none : Option ClassFile.FieldType)) ∈ q_tbl := q_of12 149 rfl (by decide +kernel)
set_option maxRecDepth 100000 in
theorem w_2786 : (Cond.methodLink "NumberHouseModel" (204 : Nat) ({ cls := "NumberHouseModel$DecimalRows", name := "multiply", desc := "(III)V" } : MethodName)) ∈ q_tbl := q_of12 146 rfl (by decide +kernel)
set_option maxRecDepth 100000 in
theorem w_2787 : (Cond.instanceMethod ({ cls := "NumberHouseModel$DecimalRows", name := "multiply", desc := "(III)V" } : MethodName)) ∈ q_tbl := q_of12 147 rfl (by decide +kernel)
set_option maxRecDepth 100000 in
theorem w_2788 : (Cond.selects "NumberHouseModel$DecimalRows" ({ cls := "NumberHouseModel$DecimalRows", name := "multiply", desc := "(III)V" } : MethodName) ({ cls := "NumberHouseModel$DecimalRows", name := "multiply", desc := "(III)V" } : MethodName)) ∈ q_tbl := q_of12 148 rfl (by decide +kernel)
theorem LV_NM_204 : q_LV "NumberHouseModel" 204 y_DR_multiply prog_15_method_28_code 4 none 3 := ⟨w_2789, w_16, w_2786, w_2787, w_2788, ⟨by decide, by decide, by decide +kernel⟩⟩
theorem d_14_23_93 : decode prog_14_method_23_code 93 = .ok (.goto 14, 3) := by decide +kernel
theorem d_14_23_53 : decode prog_14_method_23_code 53 = .ok (.aload_n 0, 1) := by decide +kernel
theorem d_14_23_54 : decode prog_14_method_23_code 54 = .ok (.getfield 26, 3) := by decide +kernel
theorem d_14_23_57 : decode prog_14_method_23_code 57 = .ok (.iload_n 2, 1) := by decide +kernel
theorem d_14_23_58 : decode prog_14_method_23_code 58 = .ok (.iload_n 3, 1) := by decide +kernel
theorem d_14_23_59 : decode prog_14_method_23_code 59 = .ok (.iload 4, 2) := by decide +kernel
theorem d_14_23_61 : decode prog_14_method_23_code 61 = .ok (.iload_n 1, 1) := by decide +kernel
theorem d_14_23_62 : decode prog_14_method_23_code 62 = .ok (.iconst 1, 1) := by decide +kernel
theorem d_14_23_63 : decode prog_14_method_23_code 63 = .ok (.if_icmp .ne 7, 3) := by decide +kernel
theorem d_14_23_70 : decode prog_14_method_23_code 70 = .ok (.iconst 0, 1) := by decide +kernel
theorem d_14_23_71 : decode prog_14_method_23_code 71 = .ok (.invokevirtual 203, 3) := by decide +kernel
set_option maxRecDepth 100000 in
theorem w_2780 : (Cond.code ({ cls := "NumberHouseModel$DecimalRows", name := "add", desc := "(IIIZ)V" } : MethodName) prog_15_method_26_code (20 : Nat) (none : Option ClassFile.FieldType)) ∈ q_tbl := q_of12 140 rfl (by decide +kernel)
set_option maxRecDepth 100000 in
theorem w_2777 : (Cond.methodLink "NumberHouseModel" (203 : Nat) ({ cls := "NumberHouseModel$DecimalRows", name := "add", desc := "(IIIZ)V" } : MethodName)) ∈ q_tbl := q_of12 137 rfl (by decide +kernel)
set_option maxRecDepth 100000 in
theorem w_2778 : (Cond.instanceMethod ({ cls := "NumberHouseModel$DecimalRows", name := "add", desc := "(IIIZ)V" } : MethodName)) ∈ q_tbl := q_of12 138 rfl (by decide +kernel)
set_option maxRecDepth 100000 in
theorem w_2779 : (Cond.selects "NumberHouseModel$DecimalRows" ({ cls := "NumberHouseModel$DecimalRows", name := "add", desc := "(IIIZ)V" } : MethodName) ({ cls := "NumberHouseModel$DecimalRows", name := "add", desc := "(IIIZ)V" } : MethodName)) ∈ q_tbl := q_of12 139 rfl (by decide +kernel)
theorem LV_NM_203 : q_LV "NumberHouseModel" 203 y_DR_add prog_15_method_26_code 20 none 4 := ⟨w_2780, w_16, w_2777, w_2778, w_2779, ⟨by decide, by decide, by decide +kernel⟩⟩
theorem d_14_23_74 : decode prog_14_method_23_code 74 = .ok (.goto 33, 3) := by decide +kernel
theorem d_14_23_66 : decode prog_14_method_23_code 66 = .ok (.iconst 1, 1) := by decide +kernel
theorem d_14_23_67 : decode prog_14_method_23_code 67 = .ok (.goto 4, 3) := by decide +kernel
theorem d_14_23_47 : decode prog_14_method_23_code 47 = .ok (.return_, 1) := by decide +kernel
theorem d_14_23_32 : decode prog_14_method_23_code 32 = .ok (.iconst 1, 1) := by decide +kernel
theorem d_14_23_33 : decode prog_14_method_23_code 33 = .ok (.goto 4, 3) := by decide +kernel
theorem d_14_23_2 : decode prog_14_method_23_code 2 = .ok (.ifCond .lt 30, 3) := by decide +kernel
theorem d_14_23_5 : decode prog_14_method_23_code 5 = .ok (.iload_n 1, 1) := by decide +kernel
theorem d_14_23_6 : decode prog_14_method_23_code 6 = .ok (.iconst 3, 1) := by decide +kernel
theorem d_14_23_7 : decode prog_14_method_23_code 7 = .ok (.if_icmp .gt 25, 3) := by decide +kernel
theorem d_14_23_10 : decode prog_14_method_23_code 10 = .ok (.iload_n 2, 1) := by decide +kernel
theorem d_14_23_11 : decode prog_14_method_23_code 11 = .ok (.invokestatic 70, 3) := by decide +kernel
theorem d_14_23_14 : decode prog_14_method_23_code 14 = .ok (.ifCond .ne 18, 3) := by decide +kernel
theorem d_14_23_17 : decode prog_14_method_23_code 17 = .ok (.iload_n 3, 1) := by decide +kernel
theorem d_14_23_18 : decode prog_14_method_23_code 18 = .ok (.invokestatic 70, 3) := by decide +kernel
theorem d_14_23_21 : decode prog_14_method_23_code 21 = .ok (.ifCond .ne 11, 3) := by decide +kernel
theorem d_14_23_24 : decode prog_14_method_23_code 24 = .ok (.iload 4, 2) := by decide +kernel
theorem d_14_23_26 : decode prog_14_method_23_code 26 = .ok (.invokestatic 70, 3) := by decide +kernel
theorem d_14_23_29 : decode prog_14_method_23_code 29 = .ok (.ifCond .eq 7, 3) := by decide +kernel
theorem d_14_23_36 : decode prog_14_method_23_code 36 = .ok (.iconst 0, 1) := by decide +kernel
def y_NM_decimal : MethodName := ⟨"NumberHouseModel", "decimal", "(IIII)V"⟩
def F_NM_decimal_c104 (x2 : Int32) (x3 : Int32) (x4 : Int32) (x5 : Int32) (t0_0 : Int32) (t0_1 : Int32) (t0_2 : Int32) (t1_0 : Int32) (t1_1 : Int32) (t1_2 : Int32) (t1_3 : Int64) (t1_4 : Int32) (t1_5 : Int32) (t1_6 : Int32) (t1_7 : Int32) (t1_8 : Int32) (t1_9 : Int32) (t1_10 : Int32) (t2_0 : (Nat → Int32)) (t3_0 : (Nat → Int32)) (t4_0 : (Nat → Int32)) (t5_0 : (Nat → Int32)) (t6_0 : (Nat → Int32)) (t7_0 : (Nat → Int32)) (t8_0 : (Nat → Int32)) (t9_0 : (Nat → Int32)) (lx47 : Int32) (p117 : (Int32 × Int32 × Int32 × Int64 × Int32 × Int32 × Int32 × Int32 × Int32 × Int32 × Int32 × (Nat → Int32) × (Nat → Int32) × (Nat → Int32) × (Nat → Int32) × (Nat → Int32) × (Nat → Int32) × (Nat → Int32))) : Int32 × Int32 × Int32 × Int32 × Int64 × Int32 × Int32 × Int32 × Int32 × Int32 × Int32 × Int32 × (Nat → Int32) × (Nat → Int32) × (Nat → Int32) × (Nat → Int32) × (Nat → Int32) × (Nat → Int32) × (Nat → Int32) × (Nat → Int32) := ((p117.1 : Int32), (p117.1 : Int32), (p117.2.1 : Int32), (p117.2.2.1 : Int32), (p117.2.2.2.1 : Int64), (p117.2.2.2.2.1 : Int32), (p117.2.2.2.2.2.1 : Int32), (p117.2.2.2.2.2.2.1 : Int32), (p117.2.2.2.2.2.2.2.1 : Int32), (p117.2.2.2.2.2.2.2.2.1 : Int32), (p117.2.2.2.2.2.2.2.2.2.1 : Int32), (p117.2.2.2.2.2.2.2.2.2.2.1 : Int32), (p117.2.2.2.2.2.2.2.2.2.2.2.1 : (Nat → Int32)), (p117.2.2.2.2.2.2.2.2.2.2.2.2.1 : (Nat → Int32)), (p117.2.2.2.2.2.2.2.2.2.2.2.2.2.1 : (Nat → Int32)), (p117.2.2.2.2.2.2.2.2.2.2.2.2.2.2.1 : (Nat → Int32)), (p117.2.2.2.2.2.2.2.2.2.2.2.2.2.2.2.1 : (Nat → Int32)), t7_0, (p117.2.2.2.2.2.2.2.2.2.2.2.2.2.2.2.2.1 : (Nat → Int32)), (p117.2.2.2.2.2.2.2.2.2.2.2.2.2.2.2.2.2 : (Nat → Int32)))
def F_NM_decimal_c90 (x2 : Int32) (x3 : Int32) (x4 : Int32) (x5 : Int32) (t0_0 : Int32) (t0_1 : Int32) (t0_2 : Int32) (t1_0 : Int32) (t1_1 : Int32) (t1_2 : Int32) (t1_3 : Int64) (t1_4 : Int32) (t1_5 : Int32) (t1_6 : Int32) (t1_7 : Int32) (t1_8 : Int32) (t1_9 : Int32) (t1_10 : Int32) (t2_0 : (Nat → Int32)) (t3_0 : (Nat → Int32)) (t4_0 : (Nat → Int32)) (t5_0 : (Nat → Int32)) (t6_0 : (Nat → Int32)) (t7_0 : (Nat → Int32)) (t8_0 : (Nat → Int32)) (t9_0 : (Nat → Int32)) (lx47 : Int32) (p188 : (Int32 × Int32 × Int32 × Int64 × Int32 × Int32 × Int32 × Int32 × Int32 × Int32 × Int32 × (Nat → Int32) × (Nat → Int32) × (Nat → Int32) × (Nat → Int32) × (Nat → Int32) × (Nat → Int32))) : Int32 × Int32 × Int32 × Int32 × Int64 × Int32 × Int32 × Int32 × Int32 × Int32 × Int32 × Int32 × (Nat → Int32) × (Nat → Int32) × (Nat → Int32) × (Nat → Int32) × (Nat → Int32) × (Nat → Int32) × (Nat → Int32) × (Nat → Int32) := ((p188.1 : Int32), (p188.1 : Int32), (p188.2.1 : Int32), (p188.2.2.1 : Int32), (p188.2.2.2.1 : Int64), (p188.2.2.2.2.1 : Int32), (p188.2.2.2.2.2.1 : Int32), (p188.2.2.2.2.2.2.1 : Int32), (p188.2.2.2.2.2.2.2.1 : Int32), (p188.2.2.2.2.2.2.2.2.1 : Int32), (p188.2.2.2.2.2.2.2.2.2.1 : Int32), (p188.2.2.2.2.2.2.2.2.2.2.1 : Int32), (p188.2.2.2.2.2.2.2.2.2.2.2.1 : (Nat → Int32)), (p188.2.2.2.2.2.2.2.2.2.2.2.2.1 : (Nat → Int32)), (p188.2.2.2.2.2.2.2.2.2.2.2.2.2.1 : (Nat → Int32)), (p188.2.2.2.2.2.2.2.2.2.2.2.2.2.2.1 : (Nat → Int32)), (p188.2.2.2.2.2.2.2.2.2.2.2.2.2.2.2.1 : (Nat → Int32)), (p188.2.2.2.2.2.2.2.2.2.2.2.2.2.2.2.2 : (Nat → Int32)), t8_0, t9_0)
def F_NM_decimal_c71 (x2 : Int32) (x3 : Int32) (x4 : Int32) (x5 : Int32) (t0_0 : Int32) (t0_1 : Int32) (t0_2 : Int32) (t1_0 : Int32) (t1_1 : Int32) (t1_2 : Int32) (t1_3 : Int64) (t1_4 : Int32) (t1_5 : Int32) (t1_6 : Int32) (t1_7 : Int32) (t1_8 : Int32) (t1_9 : Int32) (t1_10 : Int32) (t2_0 : (Nat → Int32)) (t3_0 : (Nat → Int32)) (t4_0 : (Nat → Int32)) (t5_0 : (Nat → Int32)) (t6_0 : (Nat → Int32)) (t7_0 : (Nat → Int32)) (t8_0 : (Nat → Int32)) (t9_0 : (Nat → Int32)) (lx47 : Int32) (p258 : (Int32 × Int32 × Int32 × Int64 × Int32 × Int32 × Int32 × Int32 × Int32 × Int32 × Int32 × (Nat → Int32) × (Nat → Int32) × (Nat → Int32) × (Nat → Int32) × (Nat → Int32))) : Int32 × Int32 × Int32 × Int32 × Int64 × Int32 × Int32 × Int32 × Int32 × Int32 × Int32 × Int32 × (Nat → Int32) × (Nat → Int32) × (Nat → Int32) × (Nat → Int32) × (Nat → Int32) × (Nat → Int32) × (Nat → Int32) × (Nat → Int32) := ((p258.1 : Int32), (p258.1 : Int32), (p258.2.1 : Int32), (p258.2.2.1 : Int32), (p258.2.2.2.1 : Int64), (p258.2.2.2.2.1 : Int32), (p258.2.2.2.2.2.1 : Int32), (p258.2.2.2.2.2.2.1 : Int32), (p258.2.2.2.2.2.2.2.1 : Int32), (p258.2.2.2.2.2.2.2.2.1 : Int32), (p258.2.2.2.2.2.2.2.2.2.1 : Int32), (p258.2.2.2.2.2.2.2.2.2.2.1 : Int32), (p258.2.2.2.2.2.2.2.2.2.2.2.1 : (Nat → Int32)), (p258.2.2.2.2.2.2.2.2.2.2.2.2.1 : (Nat → Int32)), (p258.2.2.2.2.2.2.2.2.2.2.2.2.2.1 : (Nat → Int32)), (p258.2.2.2.2.2.2.2.2.2.2.2.2.2.2.1 : (Nat → Int32)), (p258.2.2.2.2.2.2.2.2.2.2.2.2.2.2.2 : (Nat → Int32)), t7_0, t8_0, t9_0)
def F_NM_decimal_c71_5 (x2 : Int32) (x3 : Int32) (x4 : Int32) (x5 : Int32) (t0_0 : Int32) (t0_1 : Int32) (t0_2 : Int32) (t1_0 : Int32) (t1_1 : Int32) (t1_2 : Int32) (t1_3 : Int64) (t1_4 : Int32) (t1_5 : Int32) (t1_6 : Int32) (t1_7 : Int32) (t1_8 : Int32) (t1_9 : Int32) (t1_10 : Int32) (t2_0 : (Nat → Int32)) (t3_0 : (Nat → Int32)) (t4_0 : (Nat → Int32)) (t5_0 : (Nat → Int32)) (t6_0 : (Nat → Int32)) (t7_0 : (Nat → Int32)) (t8_0 : (Nat → Int32)) (t9_0 : (Nat → Int32)) (lx47 : Int32) (p325 : (Int32 × Int32 × Int32 × Int64 × Int32 × Int32 × Int32 × Int32 × Int32 × Int32 × Int32 × (Nat → Int32) × (Nat → Int32) × (Nat → Int32) × (Nat → Int32) × (Nat → Int32))) : Int32 × Int32 × Int32 × Int32 × Int64 × Int32 × Int32 × Int32 × Int32 × Int32 × Int32 × Int32 × (Nat → Int32) × (Nat → Int32) × (Nat → Int32) × (Nat → Int32) × (Nat → Int32) × (Nat → Int32) × (Nat → Int32) × (Nat → Int32) := ((p325.1 : Int32), (p325.1 : Int32), (p325.2.1 : Int32), (p325.2.2.1 : Int32), (p325.2.2.2.1 : Int64), (p325.2.2.2.2.1 : Int32), (p325.2.2.2.2.2.1 : Int32), (p325.2.2.2.2.2.2.1 : Int32), (p325.2.2.2.2.2.2.2.1 : Int32), (p325.2.2.2.2.2.2.2.2.1 : Int32), (p325.2.2.2.2.2.2.2.2.2.1 : Int32), (p325.2.2.2.2.2.2.2.2.2.2.1 : Int32), (p325.2.2.2.2.2.2.2.2.2.2.2.1 : (Nat → Int32)), (p325.2.2.2.2.2.2.2.2.2.2.2.2.1 : (Nat → Int32)), (p325.2.2.2.2.2.2.2.2.2.2.2.2.2.1 : (Nat → Int32)), (p325.2.2.2.2.2.2.2.2.2.2.2.2.2.2.1 : (Nat → Int32)), (p325.2.2.2.2.2.2.2.2.2.2.2.2.2.2.2 : (Nat → Int32)), t7_0, t8_0, t9_0)
def F_NM_decimal_J37 (x2 : Int32) (x3 : Int32) (x4 : Int32) (x5 : Int32) (t0_0 : Int32) (t0_1 : Int32) (t0_2 : Int32) (t1_0 : Int32) (t1_1 : Int32) (t1_2 : Int32) (t1_3 : Int64) (t1_4 : Int32) (t1_5 : Int32) (t1_6 : Int32) (t1_7 : Int32) (t1_8 : Int32) (t1_9 : Int32) (t1_10 : Int32) (t2_0 : (Nat → Int32)) (t3_0 : (Nat → Int32)) (t4_0 : (Nat → Int32)) (t5_0 : (Nat → Int32)) (t6_0 : (Nat → Int32)) (t7_0 : (Nat → Int32)) (t8_0 : (Nat → Int32)) (t9_0 : (Nat → Int32)) (lx47 : Int32) : Int32 × Int32 × Int32 × Int32 × Int64 × Int32 × Int32 × Int32 × Int32 × Int32 × Int32 × Int32 × (Nat → Int32) × (Nat → Int32) × (Nat → Int32) × (Nat → Int32) × (Nat → Int32) × (Nat → Int32) × (Nat → Int32) × (Nat → Int32) := if lx47 ≤ (0 : Int32) then (if (2 : Int32) ≤ x2 then (if x2 = (2 : Int32) then (F_NM_decimal_c90 x2 x3 x4 x5 t0_0 t0_1 t0_2 t1_0 t1_1 t1_2 t1_3 t1_4 t1_5 t1_6 t1_7 t1_8 t1_9 t1_10 t2_0 t3_0 t4_0 t5_0 t6_0 t7_0 t8_0 t9_0 lx47 ((F_DR_multiply x3 x4 x5 t1_0 t1_1 t1_2 t1_3 t1_4 t1_5 t1_6 t1_7 t1_8 t1_9 t1_10 t2_0 t3_0 t4_0 t5_0 t6_0 t7_0) : (Int32 × Int32 × Int32 × Int64 × Int32 × Int32 × Int32 × Int32 × Int32 × Int32 × Int32 × (Nat → Int32) × (Nat → Int32) × (Nat → Int32) × (Nat → Int32) × (Nat → Int32) × (Nat → Int32)))) else (F_NM_decimal_c104 x2 x3 x4 x5 t0_0 t0_1 t0_2 t1_0 t1_1 t1_2 t1_3 t1_4 t1_5 t1_6 t1_7 t1_8 t1_9 t1_10 t2_0 t3_0 t4_0 t5_0 t6_0 t7_0 t8_0 t9_0 lx47 ((F_DR_remainder x3 x4 x5 t1_0 t1_1 t1_2 t1_3 t1_4 t1_5 t1_6 t1_7 t1_8 t1_9 t1_10 t2_0 t3_0 t4_0 t5_0 t6_0 t8_0 t9_0) : (Int32 × Int32 × Int32 × Int64 × Int32 × Int32 × Int32 × Int32 × Int32 × Int32 × Int32 × (Nat → Int32) × (Nat → Int32) × (Nat → Int32) × (Nat → Int32) × (Nat → Int32) × (Nat → Int32) × (Nat → Int32))))) else (if x2 = (1 : Int32) then (F_NM_decimal_c71_5 x2 x3 x4 x5 t0_0 t0_1 t0_2 t1_0 t1_1 t1_2 t1_3 t1_4 t1_5 t1_6 t1_7 t1_8 t1_9 t1_10 t2_0 t3_0 t4_0 t5_0 t6_0 t7_0 t8_0 t9_0 lx47 ((F_DR_add x3 x4 x5 (1 : Int32) t1_0 t1_1 t1_2 t1_3 t1_4 t1_5 t1_6 t1_7 t1_8 t1_9 t1_10 t2_0 t3_0 t4_0 t5_0 t6_0) : (Int32 × Int32 × Int32 × Int64 × Int32 × Int32 × Int32 × Int32 × Int32 × Int32 × Int32 × (Nat → Int32) × (Nat → Int32) × (Nat → Int32) × (Nat → Int32) × (Nat → Int32)))) else (F_NM_decimal_c71 x2 x3 x4 x5 t0_0 t0_1 t0_2 t1_0 t1_1 t1_2 t1_3 t1_4 t1_5 t1_6 t1_7 t1_8 t1_9 t1_10 t2_0 t3_0 t4_0 t5_0 t6_0 t7_0 t8_0 t9_0 lx47 ((F_DR_add x3 x4 x5 (0 : Int32) t1_0 t1_1 t1_2 t1_3 t1_4 t1_5 t1_6 t1_7 t1_8 t1_9 t1_10 t2_0 t3_0 t4_0 t5_0 t6_0) : (Int32 × Int32 × Int32 × Int64 × Int32 × Int32 × Int32 × Int32 × Int32 × Int32 × Int32 × (Nat → Int32) × (Nat → Int32) × (Nat → Int32) × (Nat → Int32) × (Nat → Int32)))))) else ((lx47, t1_0, t1_1, t1_2, t1_3, t1_4, t1_5, t1_6, t1_7, t1_8, t1_9, t1_10, t2_0, t3_0, t4_0, t5_0, t6_0, t7_0, t8_0, t9_0))
def F_NM_decimal_J32 (x2 : Int32) (x3 : Int32) (x4 : Int32) (x5 : Int32) (t0_0 : Int32) (t0_1 : Int32) (t0_2 : Int32) (t1_0 : Int32) (t1_1 : Int32) (t1_2 : Int32) (t1_3 : Int64) (t1_4 : Int32) (t1_5 : Int32) (t1_6 : Int32) (t1_7 : Int32) (t1_8 : Int32) (t1_9 : Int32) (t1_10 : Int32) (t2_0 : (Nat → Int32)) (t3_0 : (Nat → Int32)) (t4_0 : (Nat → Int32)) (t5_0 : (Nat → Int32)) (t6_0 : (Nat → Int32)) (t7_0 : (Nat → Int32)) (t8_0 : (Nat → Int32)) (t9_0 : (Nat → Int32)) : Int32 × Int32 × Int32 × Int32 × Int64 × Int32 × Int32 × Int32 × Int32 × Int32 × Int32 × Int32 × (Nat → Int32) × (Nat → Int32) × (Nat → Int32) × (Nat → Int32) × (Nat → Int32) × (Nat → Int32) × (Nat → Int32) × (Nat → Int32) := F_NM_decimal_J37 x2 x3 x4 x5 t0_0 t0_1 t0_2 t1_0 t1_1 t1_2 t1_3 t1_4 t1_5 t1_6 t1_7 t1_8 t1_9 t1_10 t2_0 t3_0 t4_0 t5_0 t6_0 t7_0 t8_0 t9_0 1
def F_NM_decimal (x2 : Int32) (x3 : Int32) (x4 : Int32) (x5 : Int32) (t0_0 : Int32) (t0_1 : Int32) (t0_2 : Int32) (t1_0 : Int32) (t1_1 : Int32) (t1_2 : Int32) (t1_3 : Int64) (t1_4 : Int32) (t1_5 : Int32) (t1_6 : Int32) (t1_7 : Int32) (t1_8 : Int32) (t1_9 : Int32) (t1_10 : Int32) (t2_0 : (Nat → Int32)) (t3_0 : (Nat → Int32)) (t4_0 : (Nat → Int32)) (t5_0 : (Nat → Int32)) (t6_0 : (Nat → Int32)) (t7_0 : (Nat → Int32)) (t8_0 : (Nat → Int32)) (t9_0 : (Nat → Int32)) : Int32 × Int32 × Int32 × Int32 × Int64 × Int32 × Int32 × Int32 × Int32 × Int32 × Int32 × Int32 × (Nat → Int32) × (Nat → Int32) × (Nat → Int32) × (Nat → Int32) × (Nat → Int32) × (Nat → Int32) × (Nat → Int32) × (Nat → Int32) := if x2 < (0 : Int32) then (F_NM_decimal_J32 x2 x3 x4 x5 t0_0 t0_1 t0_2 t1_0 t1_1 t1_2 t1_3 t1_4 t1_5 t1_6 t1_7 t1_8 t1_9 t1_10 t2_0 t3_0 t4_0 t5_0 t6_0 t7_0 t8_0 t9_0) else (if (3 : Int32) < x2 then (F_NM_decimal_J32 x2 x3 x4 x5 t0_0 t0_1 t0_2 t1_0 t1_1 t1_2 t1_3 t1_4 t1_5 t1_6 t1_7 t1_8 t1_9 t1_10 t2_0 t3_0 t4_0 t5_0 t6_0 t7_0 t8_0 t9_0) else (if ((F_NM_no_IZ x3) : Int32) = (0 : Int32) then (if ((F_NM_no_IZ x4) : Int32) = (0 : Int32) then (if ((F_NM_no_IZ x5) : Int32) = (0 : Int32) then (F_NM_decimal_J37 x2 x3 x4 x5 t0_0 t0_1 t0_2 t1_0 t1_1 t1_2 t1_3 t1_4 t1_5 t1_6 t1_7 t1_8 t1_9 t1_10 t2_0 t3_0 t4_0 t5_0 t6_0 t7_0 t8_0 t9_0 0) else (F_NM_decimal_J32 x2 x3 x4 x5 t0_0 t0_1 t0_2 t1_0 t1_1 t1_2 t1_3 t1_4 t1_5 t1_6 t1_7 t1_8 t1_9 t1_10 t2_0 t3_0 t4_0 t5_0 t6_0 t7_0 t8_0 t9_0)) else (F_NM_decimal_J32 x2 x3 x4 x5 t0_0 t0_1 t0_2 t1_0 t1_1 t1_2 t1_3 t1_4 t1_5 t1_6 t1_7 t1_8 t1_9 t1_10 t2_0 t3_0 t4_0 t5_0 t6_0 t7_0 t8_0 t9_0)) else (F_NM_decimal_J32 x2 x3 x4 x5 t0_0 t0_1 t0_2 t1_0 t1_1 t1_2 t1_3 t1_4 t1_5 t1_6 t1_7 t1_8 t1_9 t1_10 t2_0 t3_0 t4_0 t5_0 t6_0 t7_0 t8_0 t9_0)))
def S_NM_decimal_c104 (x2 : Int32) (x3 : Int32) (x4 : Int32) (x5 : Int32) (t0_0 : Int32) (t0_1 : Int32) (t0_2 : Int32) (t1_0 : Int32) (t1_1 : Int32) (t1_2 : Int32) (t1_3 : Int64) (t1_4 : Int32) (t1_5 : Int32) (t1_6 : Int32) (t1_7 : Int32) (t1_8 : Int32) (t1_9 : Int32) (t1_10 : Int32) (t2_0 : (Nat → Int32)) (t3_0 : (Nat → Int32)) (t4_0 : (Nat → Int32)) (t5_0 : (Nat → Int32)) (t6_0 : (Nat → Int32)) (t7_0 : (Nat → Int32)) (t8_0 : (Nat → Int32)) (t9_0 : (Nat → Int32)) (lx47 : Int32) (p117 : (Int32 × Int32 × Int32 × Int64 × Int32 × Int32 × Int32 × Int32 × Int32 × Int32 × Int32 × (Nat → Int32) × (Nat → Int32) × (Nat → Int32) × (Nat → Int32) × (Nat → Int32) × (Nat → Int32) × (Nat → Int32))) : Prop := True
def S_NM_decimal_c90 (x2 : Int32) (x3 : Int32) (x4 : Int32) (x5 : Int32) (t0_0 : Int32) (t0_1 : Int32) (t0_2 : Int32) (t1_0 : Int32) (t1_1 : Int32) (t1_2 : Int32) (t1_3 : Int64) (t1_4 : Int32) (t1_5 : Int32) (t1_6 : Int32) (t1_7 : Int32) (t1_8 : Int32) (t1_9 : Int32) (t1_10 : Int32) (t2_0 : (Nat → Int32)) (t3_0 : (Nat → Int32)) (t4_0 : (Nat → Int32)) (t5_0 : (Nat → Int32)) (t6_0 : (Nat → Int32)) (t7_0 : (Nat → Int32)) (t8_0 : (Nat → Int32)) (t9_0 : (Nat → Int32)) (lx47 : Int32) (p188 : (Int32 × Int32 × Int32 × Int64 × Int32 × Int32 × Int32 × Int32 × Int32 × Int32 × Int32 × (Nat → Int32) × (Nat → Int32) × (Nat → Int32) × (Nat → Int32) × (Nat → Int32) × (Nat → Int32))) : Prop := True
def S_NM_decimal_c71 (x2 : Int32) (x3 : Int32) (x4 : Int32) (x5 : Int32) (t0_0 : Int32) (t0_1 : Int32) (t0_2 : Int32) (t1_0 : Int32) (t1_1 : Int32) (t1_2 : Int32) (t1_3 : Int64) (t1_4 : Int32) (t1_5 : Int32) (t1_6 : Int32) (t1_7 : Int32) (t1_8 : Int32) (t1_9 : Int32) (t1_10 : Int32) (t2_0 : (Nat → Int32)) (t3_0 : (Nat → Int32)) (t4_0 : (Nat → Int32)) (t5_0 : (Nat → Int32)) (t6_0 : (Nat → Int32)) (t7_0 : (Nat → Int32)) (t8_0 : (Nat → Int32)) (t9_0 : (Nat → Int32)) (lx47 : Int32) (p258 : (Int32 × Int32 × Int32 × Int64 × Int32 × Int32 × Int32 × Int32 × Int32 × Int32 × Int32 × (Nat → Int32) × (Nat → Int32) × (Nat → Int32) × (Nat → Int32) × (Nat → Int32))) : Prop := True
def S_NM_decimal_c71_5 (x2 : Int32) (x3 : Int32) (x4 : Int32) (x5 : Int32) (t0_0 : Int32) (t0_1 : Int32) (t0_2 : Int32) (t1_0 : Int32) (t1_1 : Int32) (t1_2 : Int32) (t1_3 : Int64) (t1_4 : Int32) (t1_5 : Int32) (t1_6 : Int32) (t1_7 : Int32) (t1_8 : Int32) (t1_9 : Int32) (t1_10 : Int32) (t2_0 : (Nat → Int32)) (t3_0 : (Nat → Int32)) (t4_0 : (Nat → Int32)) (t5_0 : (Nat → Int32)) (t6_0 : (Nat → Int32)) (t7_0 : (Nat → Int32)) (t8_0 : (Nat → Int32)) (t9_0 : (Nat → Int32)) (lx47 : Int32) (p325 : (Int32 × Int32 × Int32 × Int64 × Int32 × Int32 × Int32 × Int32 × Int32 × Int32 × Int32 × (Nat → Int32) × (Nat → Int32) × (Nat → Int32) × (Nat → Int32) × (Nat → Int32))) : Prop := True
def S_NM_decimal_J37 (x2 : Int32) (x3 : Int32) (x4 : Int32) (x5 : Int32) (t0_0 : Int32) (t0_1 : Int32) (t0_2 : Int32) (t1_0 : Int32) (t1_1 : Int32) (t1_2 : Int32) (t1_3 : Int64) (t1_4 : Int32) (t1_5 : Int32) (t1_6 : Int32) (t1_7 : Int32) (t1_8 : Int32) (t1_9 : Int32) (t1_10 : Int32) (t2_0 : (Nat → Int32)) (t3_0 : (Nat → Int32)) (t4_0 : (Nat → Int32)) (t5_0 : (Nat → Int32)) (t6_0 : (Nat → Int32)) (t7_0 : (Nat → Int32)) (t8_0 : (Nat → Int32)) (t9_0 : (Nat → Int32)) (lx47 : Int32) : Prop := if lx47 ≤ (0 : Int32) then (if (2 : Int32) ≤ x2 then (if x2 = (2 : Int32) then ((True ∧ S_DR_multiply x3 x4 x5 t1_0 t1_1 t1_2 t1_3 t1_4 t1_5 t1_6 t1_7 t1_8 t1_9 t1_10 t2_0 t3_0 t4_0 t5_0 t6_0 t7_0) ∧ (S_NM_decimal_c90 x2 x3 x4 x5 t0_0 t0_1 t0_2 t1_0 t1_1 t1_2 t1_3 t1_4 t1_5 t1_6 t1_7 t1_8 t1_9 t1_10 t2_0 t3_0 t4_0 t5_0 t6_0 t7_0 t8_0 t9_0 lx47 ((F_DR_multiply x3 x4 x5 t1_0 t1_1 t1_2 t1_3 t1_4 t1_5 t1_6 t1_7 t1_8 t1_9 t1_10 t2_0 t3_0 t4_0 t5_0 t6_0 t7_0) : (Int32 × Int32 × Int32 × Int64 × Int32 × Int32 × Int32 × Int32 × Int32 × Int32 × Int32 × (Nat → Int32) × (Nat → Int32) × (Nat → Int32) × (Nat → Int32) × (Nat → Int32) × (Nat → Int32))))) else ((True ∧ S_DR_remainder x3 x4 x5 t1_0 t1_1 t1_2 t1_3 t1_4 t1_5 t1_6 t1_7 t1_8 t1_9 t1_10 t2_0 t3_0 t4_0 t5_0 t6_0 t8_0 t9_0) ∧ (S_NM_decimal_c104 x2 x3 x4 x5 t0_0 t0_1 t0_2 t1_0 t1_1 t1_2 t1_3 t1_4 t1_5 t1_6 t1_7 t1_8 t1_9 t1_10 t2_0 t3_0 t4_0 t5_0 t6_0 t7_0 t8_0 t9_0 lx47 ((F_DR_remainder x3 x4 x5 t1_0 t1_1 t1_2 t1_3 t1_4 t1_5 t1_6 t1_7 t1_8 t1_9 t1_10 t2_0 t3_0 t4_0 t5_0 t6_0 t8_0 t9_0) : (Int32 × Int32 × Int32 × Int64 × Int32 × Int32 × Int32 × Int32 × Int32 × Int32 × Int32 × (Nat → Int32) × (Nat → Int32) × (Nat → Int32) × (Nat → Int32) × (Nat → Int32) × (Nat → Int32) × (Nat → Int32)))))) else (if x2 = (1 : Int32) then ((True ∧ S_DR_add x3 x4 x5 (1 : Int32) t1_0 t1_1 t1_2 t1_3 t1_4 t1_5 t1_6 t1_7 t1_8 t1_9 t1_10 t2_0 t3_0 t4_0 t5_0 t6_0) ∧ (S_NM_decimal_c71_5 x2 x3 x4 x5 t0_0 t0_1 t0_2 t1_0 t1_1 t1_2 t1_3 t1_4 t1_5 t1_6 t1_7 t1_8 t1_9 t1_10 t2_0 t3_0 t4_0 t5_0 t6_0 t7_0 t8_0 t9_0 lx47 ((F_DR_add x3 x4 x5 (1 : Int32) t1_0 t1_1 t1_2 t1_3 t1_4 t1_5 t1_6 t1_7 t1_8 t1_9 t1_10 t2_0 t3_0 t4_0 t5_0 t6_0) : (Int32 × Int32 × Int32 × Int64 × Int32 × Int32 × Int32 × Int32 × Int32 × Int32 × Int32 × (Nat → Int32) × (Nat → Int32) × (Nat → Int32) × (Nat → Int32) × (Nat → Int32))))) else ((True ∧ S_DR_add x3 x4 x5 (0 : Int32) t1_0 t1_1 t1_2 t1_3 t1_4 t1_5 t1_6 t1_7 t1_8 t1_9 t1_10 t2_0 t3_0 t4_0 t5_0 t6_0) ∧ (S_NM_decimal_c71 x2 x3 x4 x5 t0_0 t0_1 t0_2 t1_0 t1_1 t1_2 t1_3 t1_4 t1_5 t1_6 t1_7 t1_8 t1_9 t1_10 t2_0 t3_0 t4_0 t5_0 t6_0 t7_0 t8_0 t9_0 lx47 ((F_DR_add x3 x4 x5 (0 : Int32) t1_0 t1_1 t1_2 t1_3 t1_4 t1_5 t1_6 t1_7 t1_8 t1_9 t1_10 t2_0 t3_0 t4_0 t5_0 t6_0) : (Int32 × Int32 × Int32 × Int64 × Int32 × Int32 × Int32 × Int32 × Int32 × Int32 × Int32 × (Nat → Int32) × (Nat → Int32) × (Nat → Int32) × (Nat → Int32) × (Nat → Int32))))))) else (True)
def S_NM_decimal_J32 (x2 : Int32) (x3 : Int32) (x4 : Int32) (x5 : Int32) (t0_0 : Int32) (t0_1 : Int32) (t0_2 : Int32) (t1_0 : Int32) (t1_1 : Int32) (t1_2 : Int32) (t1_3 : Int64) (t1_4 : Int32) (t1_5 : Int32) (t1_6 : Int32) (t1_7 : Int32) (t1_8 : Int32) (t1_9 : Int32) (t1_10 : Int32) (t2_0 : (Nat → Int32)) (t3_0 : (Nat → Int32)) (t4_0 : (Nat → Int32)) (t5_0 : (Nat → Int32)) (t6_0 : (Nat → Int32)) (t7_0 : (Nat → Int32)) (t8_0 : (Nat → Int32)) (t9_0 : (Nat → Int32)) : Prop := S_NM_decimal_J37 x2 x3 x4 x5 t0_0 t0_1 t0_2 t1_0 t1_1 t1_2 t1_3 t1_4 t1_5 t1_6 t1_7 t1_8 t1_9 t1_10 t2_0 t3_0 t4_0 t5_0 t6_0 t7_0 t8_0 t9_0 1
def S_NM_decimal (x2 : Int32) (x3 : Int32) (x4 : Int32) (x5 : Int32) (t0_0 : Int32) (t0_1 : Int32) (t0_2 : Int32) (t1_0 : Int32) (t1_1 : Int32) (t1_2 : Int32) (t1_3 : Int64) (t1_4 : Int32) (t1_5 : Int32) (t1_6 : Int32) (t1_7 : Int32) (t1_8 : Int32) (t1_9 : Int32) (t1_10 : Int32) (t2_0 : (Nat → Int32)) (t3_0 : (Nat → Int32)) (t4_0 : (Nat → Int32)) (t5_0 : (Nat → Int32)) (t6_0 : (Nat → Int32)) (t7_0 : (Nat → Int32)) (t8_0 : (Nat → Int32)) (t9_0 : (Nat → Int32)) : Prop := if x2 < (0 : Int32) then (S_NM_decimal_J32 x2 x3 x4 x5 t0_0 t0_1 t0_2 t1_0 t1_1 t1_2 t1_3 t1_4 t1_5 t1_6 t1_7 t1_8 t1_9 t1_10 t2_0 t3_0 t4_0 t5_0 t6_0 t7_0 t8_0 t9_0) else (if (3 : Int32) < x2 then (S_NM_decimal_J32 x2 x3 x4 x5 t0_0 t0_1 t0_2 t1_0 t1_1 t1_2 t1_3 t1_4 t1_5 t1_6 t1_7 t1_8 t1_9 t1_10 t2_0 t3_0 t4_0 t5_0 t6_0 t7_0 t8_0 t9_0) else (if ((F_NM_no_IZ x3) : Int32) = (0 : Int32) then (if ((F_NM_no_IZ x4) : Int32) = (0 : Int32) then (if ((F_NM_no_IZ x5) : Int32) = (0 : Int32) then (S_NM_decimal_J37 x2 x3 x4 x5 t0_0 t0_1 t0_2 t1_0 t1_1 t1_2 t1_3 t1_4 t1_5 t1_6 t1_7 t1_8 t1_9 t1_10 t2_0 t3_0 t4_0 t5_0 t6_0 t7_0 t8_0 t9_0 0) else (S_NM_decimal_J32 x2 x3 x4 x5 t0_0 t0_1 t0_2 t1_0 t1_1 t1_2 t1_3 t1_4 t1_5 t1_6 t1_7 t1_8 t1_9 t1_10 t2_0 t3_0 t4_0 t5_0 t6_0 t7_0 t8_0 t9_0)) else (S_NM_decimal_J32 x2 x3 x4 x5 t0_0 t0_1 t0_2 t1_0 t1_1 t1_2 t1_3 t1_4 t1_5 t1_6 t1_7 t1_8 t1_9 t1_10 t2_0 t3_0 t4_0 t5_0 t6_0 t7_0 t8_0 t9_0)) else (S_NM_decimal_J32 x2 x3 x4 x5 t0_0 t0_1 t0_2 t1_0 t1_1 t1_2 t1_3 t1_4 t1_5 t1_6 t1_7 t1_8 t1_9 t1_10 t2_0 t3_0 t4_0 t5_0 t6_0 t7_0 t8_0 t9_0)))
set_option maxRecDepth 100000 in
set_option maxHeartbeats 4000000 in
theorem X_NM_decimal (l : Launch) (D : va_G) (g : Nat → ClassId) (q : Nat → Nat) (ws : va_W) (x2 : Int32) (x3 : Int32) (x4 : Int32) (x5 : Int32) (hI : q_I (msh g q) q ws) (t0_0 : Int32) (t0_1 : Int32) (t0_2 : Int32) (hT0 : ws[116]? = (some (q 116, .inr (12, [.int t0_0, .ref (q 117), .int t0_1, .ref (q 118), .int t0_2, .ref (q 119), .ref (q 134), .ref (q 145), .ref (q 153), .ref (q 157), .ref (q 167), .ref (q 168)])) : Option (Nat × va_E))) (t1_0 : Int32) (t1_1 : Int32) (t1_2 : Int32) (t1_3 : Int64) (t1_4 : Int32) (t1_5 : Int32) (t1_6 : Int32) (t1_7 : Int32) (t1_8 : Int32) (t1_9 : Int32) (t1_10 : Int32) (hT1 : ws[134]? = (some (q 134, .inr (14, [.int t1_0, .ref (q 135), .int t1_1, .ref (q 136), .ref (q 137), .ref (q 138), .ref (q 139), .ref (q 140), .int t1_2, .long t1_3, .int t1_4, .int t1_5, .ref (q 141), .int t1_6, .ref (q 142), .int t1_7, .ref (q 143), .int t1_8, .ref (q 144), .int t1_9, .int t1_10])) : Option (Nat × va_E))) (t2_0 : (Nat → Int32)) (hT2 : ws[136]? = (some (q 136, .inl (g 0, (10000 : Int32).toNatClampNeg, .inl t2_0)) : Option (Nat × va_E))) (t3_0 : (Nat → Int32)) (hT3 : ws[137]? = (some (q 137, .inl (g 0, (10 : Int32).toNatClampNeg, .inl t3_0)) : Option (Nat × va_E))) (t4_0 : (Nat → Int32)) (hT4 : ws[138]? = (some (q 138, .inl (g 3, 10, .inl t4_0)) : Option (Nat × va_E))) (t5_0 : (Nat → Int32)) (hT5 : ws[139]? = (some (q 139, .inl (g 0, (10 : Int32).toNatClampNeg, .inl t5_0)) : Option (Nat × va_E))) (t6_0 : (Nat → Int32)) (hT6 : ws[140]? = (some (q 140, .inl (g 0, (4400 : Int32).toNatClampNeg, .inl t6_0)) : Option (Nat × va_E))) (t7_0 : (Nat → Int32)) (hT7 : ws[141]? = (some (q 141, .inl (g 0, (4400 : Int32).toNatClampNeg, .inl t7_0)) : Option (Nat × va_E))) (t8_0 : (Nat → Int32)) (hT8 : ws[142]? = (some (q 142, .inl (g 0, (2200 : Int32).toNatClampNeg, .inl t8_0)) : Option (Nat × va_E))) (t9_0 : (Nat → Int32)) (hT9 : ws[143]? = (some (q 143, .inl (g 0, (2202 : Int32).toNatClampNeg, .inl t9_0)) : Option (Nat × va_E))) (hS : True ∧ S_NM_decimal x2 x3 x4 x5 t0_0 t0_1 t0_2 t1_0 t1_1 t1_2 t1_3 t1_4 t1_5 t1_6 t1_7 t1_8 t1_9 t1_10 t2_0 t3_0 t4_0 t5_0 t6_0 t7_0 t8_0 t9_0) : q_mV l y_NM_decimal prog_14_method_23_code 5 6 0 0 D g [.ref (q 116), .int x2, .int x3, .int x4, .int x5] ws (fun u => q_I (msh g q) q u ∧ q_un ws u [116, 134, 136, 137, 138, 139, 140, 141, 142, 143] ∧ ∃ (u0_0 : Int32) (u1_0 : Int32) (u1_1 : Int32) (u1_2 : Int32) (u1_3 : Int64) (u1_4 : Int32) (u1_5 : Int32) (u1_6 : Int32) (u1_7 : Int32) (u1_8 : Int32) (u1_9 : Int32) (u1_10 : Int32) (u2_0 : (Nat → Int32)) (u3_0 : (Nat → Int32)) (u4_0 : (Nat → Int32)) (u5_0 : (Nat → Int32)) (u6_0 : (Nat → Int32)) (u7_0 : (Nat → Int32)) (u8_0 : (Nat → Int32)) (u9_0 : (Nat → Int32)), u[116]? = (some (q 116, .inr (12, [.int u0_0, .ref (q 117), .int t0_1, .ref (q 118), .int t0_2, .ref (q 119), .ref (q 134), .ref (q 145), .ref (q 153), .ref (q 157), .ref (q 167), .ref (q 168)])) : Option (Nat × va_E)) ∧ u[134]? = (some (q 134, .inr (14, [.int u1_0, .ref (q 135), .int u1_1, .ref (q 136), .ref (q 137), .ref (q 138), .ref (q 139), .ref (q 140), .int u1_2, .long u1_3, .int u1_4, .int u1_5, .ref (q 141), .int u1_6, .ref (q 142), .int u1_7, .ref (q 143), .int u1_8, .ref (q 144), .int u1_9, .int u1_10])) : Option (Nat × va_E)) ∧ u[136]? = (some (q 136, .inl (g 0, (10000 : Int32).toNatClampNeg, .inl u2_0)) : Option (Nat × va_E)) ∧ u[137]? = (some (q 137, .inl (g 0, (10 : Int32).toNatClampNeg, .inl u3_0)) : Option (Nat × va_E)) ∧ u[138]? = (some (q 138, .inl (g 3, 10, .inl u4_0)) : Option (Nat × va_E)) ∧ u[139]? = (some (q 139, .inl (g 0, (10 : Int32).toNatClampNeg, .inl u5_0)) : Option (Nat × va_E)) ∧ u[140]? = (some (q 140, .inl (g 0, (4400 : Int32).toNatClampNeg, .inl u6_0)) : Option (Nat × va_E)) ∧ u[141]? = (some (q 141, .inl (g 0, (4400 : Int32).toNatClampNeg, .inl u7_0)) : Option (Nat × va_E)) ∧ u[142]? = (some (q 142, .inl (g 0, (2200 : Int32).toNatClampNeg, .inl u8_0)) : Option (Nat × va_E)) ∧ u[143]? = (some (q 143, .inl (g 0, (2202 : Int32).toNatClampNeg, .inl u9_0)) : Option (Nat × va_E)) ∧ (0 ≤ u1_4.toInt + 1) ∧ (0 ≤ u1_5.toInt) ∧ (u1_5.toInt ≤ 1) ∧ (t1_1.toInt ≤ u1_1.toInt) ∧ (u1_1.toInt ≤ t1_1.toInt) ∧ (u1_4.toInt ≤ t1_4.toInt) ∧ (t1_6.toInt ≤ u1_6.toInt) ∧ (u1_6.toInt ≤ t1_6.toInt) ∧ (t1_8.toInt ≤ u1_8.toInt) ∧ (u1_8.toInt ≤ t1_8.toInt) ∧ (t1_9.toInt ≤ u1_9.toInt) ∧ (u1_9.toInt ≤ t1_9.toInt) ∧ (u0_0, u1_0, u1_1, u1_2, u1_3, u1_4, u1_5, u1_6, u1_7, u1_8, u1_9, u1_10, u2_0, u3_0, u4_0, u5_0, u6_0, u7_0, u8_0, u9_0) = (F_NM_decimal x2 x3 x4 x5 t0_0 t0_1 t0_2 t1_0 t1_1 t1_2 t1_3 t1_4 t1_5 t1_6 t1_7 t1_8 t1_9 t1_10 t2_0 t3_0 t4_0 t5_0 t6_0 t7_0 t8_0 t9_0)) := by
  intro sz
  refine q_into (by decide) (Nat.le_of_ble_eq_true rfl) ?_
  intro p e s m below meth c ls hsz C0 V hl
  have hx := C0.1
  have hb := C0.2.1
  obtain ⟨btt0_1, btt0_2⟩ := n_w116 hI hT0
  replace btt0_1 : q_F (0 ≤ t0_1.toInt ∧ t0_1.toInt ≤ 4100) := btt0_1
  replace btt0_2 : q_F (0 ≤ t0_2.toInt ∧ t0_2.toInt ≤ 12200) := btt0_2
  have hZ9 := (n_w134 hI hT1).2
  obtain ⟨btt1_4, hZ9⟩ := hZ9
  obtain ⟨btt1_5, -⟩ := hZ9
  replace btt1_4 : q_F (0 ≤ t1_4.toInt ∧ t1_4.toInt ≤ 1) := btt1_4
  replace btt1_5 : q_F (0 ≤ t1_5.toInt ∧ t1_5.toInt ≤ 1) := btt1_5
  have hF : q_un ws ws [116, 134, 136, 137, 138, 139, 140, 141, 142, 143] := q_u0
  have hl : lv_has ls 5 [(0, .ref (q 116)), (1, .int x2), (2, .int x3), (3, .int x4), (4, .int x5)] := hl
  refine lv_aload_n hx hb d_14_23_0 rfl (lv_at hl 0 rfl) ?_
  refine lv_iload_n hx hb d_14_23_1 rfl (lv_at hl 1 rfl) ?_
  refine q_join (X := Int32) (fun z H locs ls _ => q_F (0 ≤ z.toInt) ∧ q_F (z.toInt ≤ 1) ∧ q_Wd D g (va_A ws sz) s ws H locs ∧ lv_has ls 5 [(0, .ref (q 116)), (1, .int x2), (2, .int x3), (3, .int x4), (4, .int x5)] ∧ F_NM_decimal_J37 x2 x3 x4 x5 t0_0 t0_1 t0_2 t1_0 t1_1 t1_2 t1_3 t1_4 t1_5 t1_6 t1_7 t1_8 t1_9 t1_10 t2_0 t3_0 t4_0 t5_0 t6_0 t7_0 t8_0 t9_0 z = (F_NM_decimal x2 x3 x4 x5 t0_0 t0_1 t0_2 t1_0 t1_1 t1_2 t1_3 t1_4 t1_5 t1_6 t1_7 t1_8 t1_9 t1_10 t2_0 t3_0 t4_0 t5_0 t6_0 t7_0 t8_0 t9_0) ∧ True ∧ S_NM_decimal_J37 x2 x3 x4 x5 t0_0 t0_1 t0_2 t1_0 t1_1 t1_2 t1_3 t1_4 t1_5 t1_6 t1_7 t1_8 t1_9 t1_10 t2_0 t3_0 t4_0 t5_0 t6_0 t7_0 t8_0 t9_0 z) (fun z => [.int z, .ref (q 116)]) 37 0 0 ?_ ?_
  ·
    rintro lx47 H locs ls _ hZ9
    replace hZ9 := hZ9.2.2
    obtain ⟨V, hZ9⟩ := hZ9
    obtain ⟨hl, hZ9⟩ := hZ9
    obtain ⟨hR61, hS62⟩ := hZ9
    replace hl : lv_has ls 5 [(0, .ref (q 116)), (1, .int x2), (2, .int x3), (3, .int x4), (4, .int x5)] := hl
    refine q_put (ci := 12) (j := 0) (v := .int lx47) (ty := .int) C0 V i_NM o_NM n_NM rfl rfl hT0 (by decide) w_2298 rfl rfl rfl rfl (Nat.le_of_ble_eq_true rfl) d_14_23_37 (fun H locs w66 hu67 hT0 V => ?_)
    replace hT0 : w66[116]? = (some (q 116, .inr (12, [.int lx47, .ref (q 117), .int t0_1, .ref (q 118), .int t0_2, .ref (q 119), .ref (q 134), .ref (q 145), .ref (q 153), .ref (q 157), .ref (q 167), .ref (q 168)])) : Option (Nat × va_E)) := hT0
    replace hI := n_p116 hI hu67 hT0 (by first | with_reducible exact q_fe btt0_1 | exact ⟨(by have t1 : 0 ≤ t0_1.toInt ∧ t0_1.toInt ≤ 4100 := btt0_1; omega), (by have t1 : 0 ≤ t0_1.toInt ∧ t0_1.toInt ≤ 4100 := btt0_1; omega)⟩) (by first | with_reducible exact q_fe btt0_2 | exact ⟨(by have t1 : 0 ≤ t0_2.toInt ∧ t0_2.toInt ≤ 12200 := btt0_2; omega), (by have t1 : 0 ≤ t0_2.toInt ∧ t0_2.toInt ≤ 12200 := btt0_2; omega)⟩)
    replace hT1 := (hu67 _ (by decide)).trans hT1
    replace hT2 := (hu67 _ (by decide)).trans hT2
    replace hT3 := (hu67 _ (by decide)).trans hT3
    replace hT4 := (hu67 _ (by decide)).trans hT4
    replace hT5 := (hu67 _ (by decide)).trans hT5
    replace hT6 := (hu67 _ (by decide)).trans hT6
    replace hT7 := (hu67 _ (by decide)).trans hT7
    replace hT8 := (hu67 _ (by decide)).trans hT8
    replace hT9 := (hu67 _ (by decide)).trans hT9
    replace hF := q_us hF hu67 (by simp)
    refine lv_aload_n hx hb d_14_23_40 rfl (lv_at hl 0 rfl) ?_
    refine q_get (ci := 12) (j := 0) (v := .int lx47) C0 V i_NM rfl rfl hT0 (by decide) w_2298 rfl d_14_23_41 ?_
    refine lv_if_le (tgt := 48) hx hb d_14_23_44 (by decide) (fun c68 => ?_) (fun c68 => ?_)
    ·
      refine lv_iload_n hx hb d_14_23_48 rfl (lv_at hl 1 rfl) ?_
      refine lv_iconst (v := 2) hx hb d_14_23_49 (by decide) ?_
      refine lv_icmp_ge (tgt := 77) hx hb d_14_23_50 (by decide) (fun c70 => ?_) (fun c70 => ?_)
      ·
        refine lv_iload_n hx hb d_14_23_77 rfl (lv_at hl 1 rfl) ?_
        refine lv_iconst (v := 2) hx hb d_14_23_78 (by decide) ?_
        refine lv_icmp_ne (tgt := 96) hx hb d_14_23_79 (by decide) (fun c72 => ?_) (fun c72 => ?_)
        ·
          refine lv_aload_n hx hb d_14_23_96 rfl (lv_at hl 0 rfl) ?_
          refine q_get (ci := 12) (j := 6) (v := .ref (q 134)) C0 V i_NM rfl rfl hT0 (by decide) w_2304 rfl d_14_23_97 ?_
          refine lv_iload_n hx hb d_14_23_100 rfl (lv_at hl 2 rfl) ?_
          refine lv_iload_n hx hb d_14_23_101 rfl (lv_at hl 3 rfl) ?_
          refine lv_iload hx hb d_14_23_102 (lv_at hl 4 rfl) ?_
          have ob74 : True ∧ S_DR_remainder x3 x4 x5 t1_0 t1_1 t1_2 t1_3 t1_4 t1_5 t1_6 t1_7 t1_8 t1_9 t1_10 t2_0 t3_0 t4_0 t5_0 t6_0 t8_0 t9_0 := (by have h := hS62; rw [S_NM_decimal_J37.eq_1] at h; rw [if_pos c68] at h; rw [if_pos c70] at h; rw [if_neg c72] at h; with_reducible exact h.2.1)
          refine q_gov V (q_runV (As := [.int x3, .int x4, .int x5]) (rest := []) (d := 5) (mc := 0) (ms := 0) (ci := 14) C0 V rfl LV_NM_205 (X_DR_remainder l D g q w66  x3 x4 x5 hI t1_0 t1_1 t1_2 t1_3 t1_4 t1_5 t1_6 t1_7 t1_8 t1_9 t1_10 hT1 t2_0 hT2 t3_0 hT3 t4_0 hT4 t5_0 hT5 t6_0 hT6 t8_0 hT8 t9_0 hT9 ob74 _) rfl rfl hT1 rfl hl.1 rfl (Nat.le_of_ble_eq_true rfl) ⟨by decide, by decide⟩ ⟨Nat.le_of_ble_eq_true rfl, Nat.le_of_ble_eq_true rfl⟩ d_14_23_104) (fun u75 H locs hp76 V => ?_)
          obtain ⟨hI, hZ9⟩ := hp76
          obtain ⟨hu116, hZ9⟩ := hZ9
          obtain ⟨y78, hZ9⟩ := hZ9
          obtain ⟨y79, hZ9⟩ := hZ9
          obtain ⟨y80, hZ9⟩ := hZ9
          obtain ⟨y81, hZ9⟩ := hZ9
          obtain ⟨y82, hZ9⟩ := hZ9
          obtain ⟨y83, hZ9⟩ := hZ9
          obtain ⟨y84, hZ9⟩ := hZ9
          obtain ⟨y85, hZ9⟩ := hZ9
          obtain ⟨y86, hZ9⟩ := hZ9
          obtain ⟨y87, hZ9⟩ := hZ9
          obtain ⟨y88, hZ9⟩ := hZ9
          obtain ⟨f89, hZ9⟩ := hZ9
          obtain ⟨f91, hZ9⟩ := hZ9
          obtain ⟨f93, hZ9⟩ := hZ9
          obtain ⟨f95, hZ9⟩ := hZ9
          obtain ⟨f97, hZ9⟩ := hZ9
          obtain ⟨f99, hZ9⟩ := hZ9
          obtain ⟨f101, hZ9⟩ := hZ9
          obtain ⟨hO77, hZ9⟩ := hZ9
          obtain ⟨hA90, hZ9⟩ := hZ9
          obtain ⟨hA92, hZ9⟩ := hZ9
          obtain ⟨hA94, hZ9⟩ := hZ9
          obtain ⟨hA96, hZ9⟩ := hZ9
          obtain ⟨hA98, hZ9⟩ := hZ9
          obtain ⟨hA100, hZ9⟩ := hZ9
          obtain ⟨hA102, hZ9⟩ := hZ9
          obtain ⟨b103, hZ9⟩ := hZ9
          obtain ⟨b104, hZ9⟩ := hZ9
          obtain ⟨b105, hZ9⟩ := hZ9
          obtain ⟨b106, hZ9⟩ := hZ9
          obtain ⟨b107, hZ9⟩ := hZ9
          obtain ⟨b108, hZ9⟩ := hZ9
          obtain ⟨b109, hZ9⟩ := hZ9
          obtain ⟨b110, hZ9⟩ := hZ9
          obtain ⟨b111, hZ9⟩ := hZ9
          obtain ⟨b112, hZ9⟩ := hZ9
          obtain ⟨b113, hZ9⟩ := hZ9
          obtain ⟨b114, hE115⟩ := hZ9
          replace hO77 : u75[134]? = (some (q 134, .inr (14, [.int y78, .ref (q 135), .int y79, .ref (q 136), .ref (q 137), .ref (q 138), .ref (q 139), .ref (q 140), .int y80, .long y81, .int y82, .int y83, .ref (q 141), .int y84, .ref (q 142), .int y85, .ref (q 143), .int y86, .ref (q 144), .int y87, .int y88])) : Option (Nat × va_E)) := hO77
          replace hA90 : u75[136]? = (some (q 136, .inl (g 0, (10000 : Int32).toNatClampNeg, .inl f89)) : Option (Nat × va_E)) := hA90
          replace hA92 : u75[137]? = (some (q 137, .inl (g 0, (10 : Int32).toNatClampNeg, .inl f91)) : Option (Nat × va_E)) := hA92
          replace hA94 : u75[138]? = (some (q 138, .inl (g 3, 10, .inl f93)) : Option (Nat × va_E)) := hA94
          replace hA96 : u75[139]? = (some (q 139, .inl (g 0, (10 : Int32).toNatClampNeg, .inl f95)) : Option (Nat × va_E)) := hA96
          replace hA98 : u75[140]? = (some (q 140, .inl (g 0, (4400 : Int32).toNatClampNeg, .inl f97)) : Option (Nat × va_E)) := hA98
          replace hA100 : u75[142]? = (some (q 142, .inl (g 0, (2200 : Int32).toNatClampNeg, .inl f99)) : Option (Nat × va_E)) := hA100
          replace hA102 : u75[143]? = (some (q 143, .inl (g 0, (2202 : Int32).toNatClampNeg, .inl f101)) : Option (Nat × va_E)) := hA102
          obtain ⟨p117, e118⟩ : ∃ z, z = (F_DR_remainder x3 x4 x5 t1_0 t1_1 t1_2 t1_3 t1_4 t1_5 t1_6 t1_7 t1_8 t1_9 t1_10 t2_0 t3_0 t4_0 t5_0 t6_0 t8_0 t9_0) := ⟨_, rfl⟩
          have e119 : y78 = p117.1 := congrArg (fun z => z.1) (hE115.trans e118.symm)
          have e120 : y79 = p117.2.1 := congrArg (fun z => z.2.1) (hE115.trans e118.symm)
          have e121 : y80 = p117.2.2.1 := congrArg (fun z => z.2.2.1) (hE115.trans e118.symm)
          have e122 : y81 = p117.2.2.2.1 := congrArg (fun z => z.2.2.2.1) (hE115.trans e118.symm)
          have e123 : y82 = p117.2.2.2.2.1 := congrArg (fun z => z.2.2.2.2.1) (hE115.trans e118.symm)
          have e124 : y83 = p117.2.2.2.2.2.1 := congrArg (fun z => z.2.2.2.2.2.1) (hE115.trans e118.symm)
          have e125 : y84 = p117.2.2.2.2.2.2.1 := congrArg (fun z => z.2.2.2.2.2.2.1) (hE115.trans e118.symm)
          have e126 : y85 = p117.2.2.2.2.2.2.2.1 := congrArg (fun z => z.2.2.2.2.2.2.2.1) (hE115.trans e118.symm)
          have e127 : y86 = p117.2.2.2.2.2.2.2.2.1 := congrArg (fun z => z.2.2.2.2.2.2.2.2.1) (hE115.trans e118.symm)
          have e128 : y87 = p117.2.2.2.2.2.2.2.2.2.1 := congrArg (fun z => z.2.2.2.2.2.2.2.2.2.1) (hE115.trans e118.symm)
          have e129 : y88 = p117.2.2.2.2.2.2.2.2.2.2.1 := congrArg (fun z => z.2.2.2.2.2.2.2.2.2.2.1) (hE115.trans e118.symm)
          have e130 : f89 = p117.2.2.2.2.2.2.2.2.2.2.2.1 := congrArg (fun z => z.2.2.2.2.2.2.2.2.2.2.2.1) (hE115.trans e118.symm)
          have e131 : f91 = p117.2.2.2.2.2.2.2.2.2.2.2.2.1 := congrArg (fun z => z.2.2.2.2.2.2.2.2.2.2.2.2.1) (hE115.trans e118.symm)
          have e132 : f93 = p117.2.2.2.2.2.2.2.2.2.2.2.2.2.1 := congrArg (fun z => z.2.2.2.2.2.2.2.2.2.2.2.2.2.1) (hE115.trans e118.symm)
          have e133 : f95 = p117.2.2.2.2.2.2.2.2.2.2.2.2.2.2.1 := congrArg (fun z => z.2.2.2.2.2.2.2.2.2.2.2.2.2.2.1) (hE115.trans e118.symm)
          have e134 : f97 = p117.2.2.2.2.2.2.2.2.2.2.2.2.2.2.2.1 := congrArg (fun z => z.2.2.2.2.2.2.2.2.2.2.2.2.2.2.2.1) (hE115.trans e118.symm)
          have e135 : f99 = p117.2.2.2.2.2.2.2.2.2.2.2.2.2.2.2.2.1 := congrArg (fun z => z.2.2.2.2.2.2.2.2.2.2.2.2.2.2.2.2.1) (hE115.trans e118.symm)
          have e136 : f101 = p117.2.2.2.2.2.2.2.2.2.2.2.2.2.2.2.2.2 := congrArg (fun z => z.2.2.2.2.2.2.2.2.2.2.2.2.2.2.2.2.2) (hE115.trans e118.symm)
          replace b103 : q_F (0 ≤ y82.toInt + 1) := b103
          replace b104 : q_F (0 ≤ y83.toInt) := b104
          replace b105 : q_F (y83.toInt ≤ 1) := b105
          replace b106 : q_F (t1_1.toInt ≤ y79.toInt) := b106
          replace b107 : q_F (y79.toInt ≤ t1_1.toInt) := b107
          replace b108 : q_F (y82.toInt ≤ t1_4.toInt) := b108
          replace b109 : q_F (t1_6.toInt ≤ y84.toInt) := b109
          replace b110 : q_F (y84.toInt ≤ t1_6.toInt) := b110
          replace b111 : q_F (t1_8.toInt ≤ y86.toInt) := b111
          replace b112 : q_F (y86.toInt ≤ t1_8.toInt) := b112
          replace b113 : q_F (t1_9.toInt ≤ y87.toInt) := b113
          replace b114 : q_F (y87.toInt ≤ t1_9.toInt) := b114
          replace hT0 := (hu116 _ (by decide)).trans hT0
          replace hT7 := (hu116 _ (by decide)).trans hT7
          replace hF := q_uc hF hu116 (by simp)
          have hR137 := (show F_NM_decimal_c104 x2 x3 x4 x5 t0_0 t0_1 t0_2 t1_0 t1_1 t1_2 t1_3 t1_4 t1_5 t1_6 t1_7 t1_8 t1_9 t1_10 t2_0 t3_0 t4_0 t5_0 t6_0 t7_0 t8_0 t9_0 lx47 p117 = (F_NM_decimal x2 x3 x4 x5 t0_0 t0_1 t0_2 t1_0 t1_1 t1_2 t1_3 t1_4 t1_5 t1_6 t1_7 t1_8 t1_9 t1_10 t2_0 t3_0 t4_0 t5_0 t6_0 t7_0 t8_0 t9_0) from Eq.trans (by rw [e118, F_NM_decimal_J37.eq_1, if_pos c68, if_pos c70, if_neg c72]) hR61)
          have hS138 := (show True ∧ S_NM_decimal_c104 x2 x3 x4 x5 t0_0 t0_1 t0_2 t1_0 t1_1 t1_2 t1_3 t1_4 t1_5 t1_6 t1_7 t1_8 t1_9 t1_10 t2_0 t3_0 t4_0 t5_0 t6_0 t7_0 t8_0 t9_0 lx47 p117 from (by rw [e118]; have h := hS62; rw [S_NM_decimal_J37.eq_1] at h; rw [if_pos c68] at h; rw [if_pos c70] at h; rw [if_neg c72] at h; replace h := q_s2 h; with_reducible exact h))
          refine lv_aload_n hx hb d_14_23_107 rfl (lv_at hl 0 rfl) ?_
          refine lv_aload_n hx hb d_14_23_108 rfl (lv_at hl 0 rfl) ?_
          refine q_get (ci := 12) (j := 6) (v := .ref (q 134)) C0 V i_NM rfl rfl hT0 (by decide) w_2304 rfl d_14_23_109 ?_
          refine q_getN (ci := 14) (j := 0) (v := .int y78) C0 V i_DR rfl rfl hO77 (by decide) wo_1997 rfl d_14_23_112 ?_
          refine q_put (ci := 12) (j := 0) (v := .int y78) (ty := .int) C0 V i_NM o_NM n_NM rfl rfl hT0 (by decide) w_2298 rfl rfl rfl rfl (Nat.le_of_ble_eq_true rfl) d_14_23_115 (fun H locs w142 hu143 hT0 V => ?_)
          replace hT0 : w142[116]? = (some (q 116, .inr (12, [.int y78, .ref (q 117), .int t0_1, .ref (q 118), .int t0_2, .ref (q 119), .ref (q 134), .ref (q 145), .ref (q 153), .ref (q 157), .ref (q 167), .ref (q 168)])) : Option (Nat × va_E)) := hT0
          replace hI := n_p116 hI hu143 hT0 (by first | with_reducible exact q_fe btt0_1 | exact ⟨(by have t1 : 0 ≤ t0_1.toInt ∧ t0_1.toInt ≤ 4100 := btt0_1; omega), (by have t1 : 0 ≤ t0_1.toInt ∧ t0_1.toInt ≤ 4100 := btt0_1; omega)⟩) (by first | with_reducible exact q_fe btt0_2 | exact ⟨(by have t1 : 0 ≤ t0_2.toInt ∧ t0_2.toInt ≤ 12200 := btt0_2; omega), (by have t1 : 0 ≤ t0_2.toInt ∧ t0_2.toInt ≤ 12200 := btt0_2; omega)⟩)
          replace hO77 := (hu143 _ (by decide)).trans hO77
          replace hA90 := (hu143 _ (by decide)).trans hA90
          replace hA92 := (hu143 _ (by decide)).trans hA92
          replace hA94 := (hu143 _ (by decide)).trans hA94
          replace hA96 := (hu143 _ (by decide)).trans hA96
          replace hA98 := (hu143 _ (by decide)).trans hA98
          replace hT7 := (hu143 _ (by decide)).trans hT7
          replace hA100 := (hu143 _ (by decide)).trans hA100
          replace hA102 := (hu143 _ (by decide)).trans hA102
          replace hF := q_us hF hu143 (by simp)
          exact q_retv C0 V (⟨hI, hF, y78, y78, y79, y80, y81, y82, y83, y84, y85, y86, y87, y88, f89, f91, f93, f95, f97, t7_0, f99, f101, hT0, hO77, hA90, hA92, hA94, hA96, hA98, hT7, hA100, hA102, (show 0 ≤ y82.toInt + 1 from (by first | with_reducible exact q_fe b103 | (have t1 : 0 ≤ y82.toInt + 1 := b103; omega))), (show 0 ≤ y83.toInt from (by first | with_reducible exact q_fe b104 | (have t1 : 0 ≤ y83.toInt := b104; omega))), (show y83.toInt ≤ 1 from (by first | with_reducible exact q_fe b105 | (have t1 : y83.toInt ≤ 1 := b105; omega))), (show t1_1.toInt ≤ y79.toInt from (by first | with_reducible exact q_fe b106 | (have t1 : t1_1.toInt ≤ y79.toInt := b106; omega))), (show y79.toInt ≤ t1_1.toInt from (by first | with_reducible exact q_fe b107 | (have t1 : y79.toInt ≤ t1_1.toInt := b107; omega))), (show y82.toInt ≤ t1_4.toInt from (by first | with_reducible exact q_fe b108 | (have t1 : y82.toInt ≤ t1_4.toInt := b108; omega))), (show t1_6.toInt ≤ y84.toInt from (by first | with_reducible exact q_fe b109 | (have t1 : t1_6.toInt ≤ y84.toInt := b109; omega))), (show y84.toInt ≤ t1_6.toInt from (by first | with_reducible exact q_fe b110 | (have t1 : y84.toInt ≤ t1_6.toInt := b110; omega))), (show t1_8.toInt ≤ y86.toInt from (by first | with_reducible exact q_fe b111 | (have t1 : t1_8.toInt ≤ y86.toInt := b111; omega))), (show y86.toInt ≤ t1_8.toInt from (by first | with_reducible exact q_fe b112 | (have t1 : y86.toInt ≤ t1_8.toInt := b112; omega))), (show t1_9.toInt ≤ y87.toInt from (by first | with_reducible exact q_fe b113 | (have t1 : t1_9.toInt ≤ y87.toInt := b113; omega))), (show y87.toInt ≤ t1_9.toInt from (by first | with_reducible exact q_fe b114 | (have t1 : y87.toInt ≤ t1_9.toInt := b114; omega))), (show (y78, y78, y79, y80, y81, y82, y83, y84, y85, y86, y87, y88, f89, f91, f93, f95, f97, t7_0, f99, f101) = (F_NM_decimal x2 x3 x4 x5 t0_0 t0_1 t0_2 t1_0 t1_1 t1_2 t1_3 t1_4 t1_5 t1_6 t1_7 t1_8 t1_9 t1_10 t2_0 t3_0 t4_0 t5_0 t6_0 t7_0 t8_0 t9_0) from Eq.trans (by rw [e136, e135, e134, e133, e132, e131, e130, e129, e128, e127, e126, e125, e124, e123, e122, e121, e120, e119, F_NM_decimal_c104.eq_1]) hR137)⟩) d_14_23_118
        ·
          refine lv_aload_n hx hb d_14_23_82 rfl (lv_at hl 0 rfl) ?_
          refine q_get (ci := 12) (j := 6) (v := .ref (q 134)) C0 V i_NM rfl rfl hT0 (by decide) w_2304 rfl d_14_23_83 ?_
          refine lv_iload_n hx hb d_14_23_86 rfl (lv_at hl 2 rfl) ?_
          refine lv_iload_n hx hb d_14_23_87 rfl (lv_at hl 3 rfl) ?_
          refine lv_iload hx hb d_14_23_88 (lv_at hl 4 rfl) ?_
          have ob145 : True ∧ S_DR_multiply x3 x4 x5 t1_0 t1_1 t1_2 t1_3 t1_4 t1_5 t1_6 t1_7 t1_8 t1_9 t1_10 t2_0 t3_0 t4_0 t5_0 t6_0 t7_0 := (by have h := hS62; rw [S_NM_decimal_J37.eq_1] at h; rw [if_pos c68] at h; rw [if_pos c70] at h; rw [if_pos c72] at h; with_reducible exact h.2.1)
          refine q_gov V (q_runV (As := [.int x3, .int x4, .int x5]) (rest := []) (d := 3) (mc := 0) (ms := 0) (ci := 14) C0 V rfl LV_NM_204 (X_DR_multiply l D g q w66  x3 x4 x5 hI t1_0 t1_1 t1_2 t1_3 t1_4 t1_5 t1_6 t1_7 t1_8 t1_9 t1_10 hT1 t2_0 hT2 t3_0 hT3 t4_0 hT4 t5_0 hT5 t6_0 hT6 t7_0 hT7 ob145 _) rfl rfl hT1 rfl hl.1 rfl (Nat.le_of_ble_eq_true rfl) ⟨by decide, by decide⟩ ⟨Nat.le_of_ble_eq_true rfl, Nat.le_of_ble_eq_true rfl⟩ d_14_23_90) (fun u146 H locs hp147 V => ?_)
          obtain ⟨hI, hZ9⟩ := hp147
          obtain ⟨hu187, hZ9⟩ := hZ9
          obtain ⟨y149, hZ9⟩ := hZ9
          obtain ⟨y150, hZ9⟩ := hZ9
          obtain ⟨y151, hZ9⟩ := hZ9
          obtain ⟨y152, hZ9⟩ := hZ9
          obtain ⟨y153, hZ9⟩ := hZ9
          obtain ⟨y154, hZ9⟩ := hZ9
          obtain ⟨y155, hZ9⟩ := hZ9
          obtain ⟨y156, hZ9⟩ := hZ9
          obtain ⟨y157, hZ9⟩ := hZ9
          obtain ⟨y158, hZ9⟩ := hZ9
          obtain ⟨y159, hZ9⟩ := hZ9
          obtain ⟨f160, hZ9⟩ := hZ9
          obtain ⟨f162, hZ9⟩ := hZ9
          obtain ⟨f164, hZ9⟩ := hZ9
          obtain ⟨f166, hZ9⟩ := hZ9
          obtain ⟨f168, hZ9⟩ := hZ9
          obtain ⟨f170, hZ9⟩ := hZ9
          obtain ⟨hO148, hZ9⟩ := hZ9
          obtain ⟨hA161, hZ9⟩ := hZ9
          obtain ⟨hA163, hZ9⟩ := hZ9
          obtain ⟨hA165, hZ9⟩ := hZ9
          obtain ⟨hA167, hZ9⟩ := hZ9
          obtain ⟨hA169, hZ9⟩ := hZ9
          obtain ⟨hA171, hZ9⟩ := hZ9
          obtain ⟨b172, hZ9⟩ := hZ9
          obtain ⟨b173, hZ9⟩ := hZ9
          obtain ⟨b174, hZ9⟩ := hZ9
          obtain ⟨b175, hZ9⟩ := hZ9
          obtain ⟨b176, hZ9⟩ := hZ9
          obtain ⟨b177, hZ9⟩ := hZ9
          obtain ⟨b178, hZ9⟩ := hZ9
          obtain ⟨b179, hZ9⟩ := hZ9
          replace hZ9 := hZ9.2.2
          obtain ⟨b182, hZ9⟩ := hZ9
          obtain ⟨b183, hZ9⟩ := hZ9
          obtain ⟨b184, hZ9⟩ := hZ9
          obtain ⟨b185, hE186⟩ := hZ9
          replace hO148 : u146[134]? = (some (q 134, .inr (14, [.int y149, .ref (q 135), .int y150, .ref (q 136), .ref (q 137), .ref (q 138), .ref (q 139), .ref (q 140), .int y151, .long y152, .int y153, .int y154, .ref (q 141), .int y155, .ref (q 142), .int y156, .ref (q 143), .int y157, .ref (q 144), .int y158, .int y159])) : Option (Nat × va_E)) := hO148
          replace hA161 : u146[136]? = (some (q 136, .inl (g 0, (10000 : Int32).toNatClampNeg, .inl f160)) : Option (Nat × va_E)) := hA161
          replace hA163 : u146[137]? = (some (q 137, .inl (g 0, (10 : Int32).toNatClampNeg, .inl f162)) : Option (Nat × va_E)) := hA163
          replace hA165 : u146[138]? = (some (q 138, .inl (g 3, 10, .inl f164)) : Option (Nat × va_E)) := hA165
          replace hA167 : u146[139]? = (some (q 139, .inl (g 0, (10 : Int32).toNatClampNeg, .inl f166)) : Option (Nat × va_E)) := hA167
          replace hA169 : u146[140]? = (some (q 140, .inl (g 0, (4400 : Int32).toNatClampNeg, .inl f168)) : Option (Nat × va_E)) := hA169
          replace hA171 : u146[141]? = (some (q 141, .inl (g 0, (4400 : Int32).toNatClampNeg, .inl f170)) : Option (Nat × va_E)) := hA171
          obtain ⟨p188, e189⟩ : ∃ z, z = (F_DR_multiply x3 x4 x5 t1_0 t1_1 t1_2 t1_3 t1_4 t1_5 t1_6 t1_7 t1_8 t1_9 t1_10 t2_0 t3_0 t4_0 t5_0 t6_0 t7_0) := ⟨_, rfl⟩
          have e190 : y149 = p188.1 := congrArg (fun z => z.1) (hE186.trans e189.symm)
          have e191 : y150 = p188.2.1 := congrArg (fun z => z.2.1) (hE186.trans e189.symm)
          have e192 : y151 = p188.2.2.1 := congrArg (fun z => z.2.2.1) (hE186.trans e189.symm)
          have e193 : y152 = p188.2.2.2.1 := congrArg (fun z => z.2.2.2.1) (hE186.trans e189.symm)
          have e194 : y153 = p188.2.2.2.2.1 := congrArg (fun z => z.2.2.2.2.1) (hE186.trans e189.symm)
          have e195 : y154 = p188.2.2.2.2.2.1 := congrArg (fun z => z.2.2.2.2.2.1) (hE186.trans e189.symm)
          have e196 : y155 = p188.2.2.2.2.2.2.1 := congrArg (fun z => z.2.2.2.2.2.2.1) (hE186.trans e189.symm)
          have e197 : y156 = p188.2.2.2.2.2.2.2.1 := congrArg (fun z => z.2.2.2.2.2.2.2.1) (hE186.trans e189.symm)
          have e198 : y157 = p188.2.2.2.2.2.2.2.2.1 := congrArg (fun z => z.2.2.2.2.2.2.2.2.1) (hE186.trans e189.symm)
          have e199 : y158 = p188.2.2.2.2.2.2.2.2.2.1 := congrArg (fun z => z.2.2.2.2.2.2.2.2.2.1) (hE186.trans e189.symm)
          have e200 : y159 = p188.2.2.2.2.2.2.2.2.2.2.1 := congrArg (fun z => z.2.2.2.2.2.2.2.2.2.2.1) (hE186.trans e189.symm)
          have e201 : f160 = p188.2.2.2.2.2.2.2.2.2.2.2.1 := congrArg (fun z => z.2.2.2.2.2.2.2.2.2.2.2.1) (hE186.trans e189.symm)
          have e202 : f162 = p188.2.2.2.2.2.2.2.2.2.2.2.2.1 := congrArg (fun z => z.2.2.2.2.2.2.2.2.2.2.2.2.1) (hE186.trans e189.symm)
          have e203 : f164 = p188.2.2.2.2.2.2.2.2.2.2.2.2.2.1 := congrArg (fun z => z.2.2.2.2.2.2.2.2.2.2.2.2.2.1) (hE186.trans e189.symm)
          have e204 : f166 = p188.2.2.2.2.2.2.2.2.2.2.2.2.2.2.1 := congrArg (fun z => z.2.2.2.2.2.2.2.2.2.2.2.2.2.2.1) (hE186.trans e189.symm)
          have e205 : f168 = p188.2.2.2.2.2.2.2.2.2.2.2.2.2.2.2.1 := congrArg (fun z => z.2.2.2.2.2.2.2.2.2.2.2.2.2.2.2.1) (hE186.trans e189.symm)
          have e206 : f170 = p188.2.2.2.2.2.2.2.2.2.2.2.2.2.2.2.2 := congrArg (fun z => z.2.2.2.2.2.2.2.2.2.2.2.2.2.2.2.2) (hE186.trans e189.symm)
          replace b172 : q_F (0 ≤ y153.toInt) := b172
          replace b173 : q_F (0 ≤ y154.toInt) := b173
          replace b174 : q_F (y154.toInt ≤ 1) := b174
          replace b175 : q_F (t1_1.toInt ≤ y150.toInt) := b175
          replace b176 : q_F (y150.toInt ≤ t1_1.toInt) := b176
          replace b177 : q_F (y153.toInt ≤ t1_4.toInt) := b177
          replace b178 : q_F (t1_6.toInt ≤ y155.toInt) := b178
          replace b179 : q_F (y155.toInt ≤ t1_6.toInt) := b179
          replace b182 : q_F (t1_8.toInt ≤ y157.toInt) := b182
          replace b183 : q_F (y157.toInt ≤ t1_8.toInt) := b183
          replace b184 : q_F (t1_9.toInt ≤ y158.toInt) := b184
          replace b185 : q_F (y158.toInt ≤ t1_9.toInt) := b185
          replace hT0 := (hu187 _ (by decide)).trans hT0
          replace hT8 := (hu187 _ (by decide)).trans hT8
          replace hT9 := (hu187 _ (by decide)).trans hT9
          replace hF := q_uc hF hu187 (by simp)
          have hR207 := (show F_NM_decimal_c90 x2 x3 x4 x5 t0_0 t0_1 t0_2 t1_0 t1_1 t1_2 t1_3 t1_4 t1_5 t1_6 t1_7 t1_8 t1_9 t1_10 t2_0 t3_0 t4_0 t5_0 t6_0 t7_0 t8_0 t9_0 lx47 p188 = (F_NM_decimal x2 x3 x4 x5 t0_0 t0_1 t0_2 t1_0 t1_1 t1_2 t1_3 t1_4 t1_5 t1_6 t1_7 t1_8 t1_9 t1_10 t2_0 t3_0 t4_0 t5_0 t6_0 t7_0 t8_0 t9_0) from Eq.trans (by rw [e189, F_NM_decimal_J37.eq_1, if_pos c68, if_pos c70, if_pos c72]) hR61)
          have hS208 := (show True ∧ S_NM_decimal_c90 x2 x3 x4 x5 t0_0 t0_1 t0_2 t1_0 t1_1 t1_2 t1_3 t1_4 t1_5 t1_6 t1_7 t1_8 t1_9 t1_10 t2_0 t3_0 t4_0 t5_0 t6_0 t7_0 t8_0 t9_0 lx47 p188 from (by rw [e189]; have h := hS62; rw [S_NM_decimal_J37.eq_1] at h; rw [if_pos c68] at h; rw [if_pos c70] at h; rw [if_pos c72] at h; replace h := q_s2 h; with_reducible exact h))
          refine lv_goto (tgt := 107) hx hb d_14_23_93 (by decide) ?_
          refine lv_aload_n hx hb d_14_23_107 rfl (lv_at hl 0 rfl) ?_
          refine lv_aload_n hx hb d_14_23_108 rfl (lv_at hl 0 rfl) ?_
          refine q_get (ci := 12) (j := 6) (v := .ref (q 134)) C0 V i_NM rfl rfl hT0 (by decide) w_2304 rfl d_14_23_109 ?_
          refine q_getN (ci := 14) (j := 0) (v := .int y149) C0 V i_DR rfl rfl hO148 (by decide) wo_1997 rfl d_14_23_112 ?_
          refine q_put (ci := 12) (j := 0) (v := .int y149) (ty := .int) C0 V i_NM o_NM n_NM rfl rfl hT0 (by decide) w_2298 rfl rfl rfl rfl (Nat.le_of_ble_eq_true rfl) d_14_23_115 (fun H locs w212 hu213 hT0 V => ?_)
          replace hT0 : w212[116]? = (some (q 116, .inr (12, [.int y149, .ref (q 117), .int t0_1, .ref (q 118), .int t0_2, .ref (q 119), .ref (q 134), .ref (q 145), .ref (q 153), .ref (q 157), .ref (q 167), .ref (q 168)])) : Option (Nat × va_E)) := hT0
          replace hI := n_p116 hI hu213 hT0 (by first | with_reducible exact q_fe btt0_1 | exact ⟨(by have t1 : 0 ≤ t0_1.toInt ∧ t0_1.toInt ≤ 4100 := btt0_1; omega), (by have t1 : 0 ≤ t0_1.toInt ∧ t0_1.toInt ≤ 4100 := btt0_1; omega)⟩) (by first | with_reducible exact q_fe btt0_2 | exact ⟨(by have t1 : 0 ≤ t0_2.toInt ∧ t0_2.toInt ≤ 12200 := btt0_2; omega), (by have t1 : 0 ≤ t0_2.toInt ∧ t0_2.toInt ≤ 12200 := btt0_2; omega)⟩)
          replace hO148 := (hu213 _ (by decide)).trans hO148
          replace hA161 := (hu213 _ (by decide)).trans hA161
          replace hA163 := (hu213 _ (by decide)).trans hA163
          replace hA165 := (hu213 _ (by decide)).trans hA165
          replace hA167 := (hu213 _ (by decide)).trans hA167
          replace hA169 := (hu213 _ (by decide)).trans hA169
          replace hA171 := (hu213 _ (by decide)).trans hA171
          replace hT8 := (hu213 _ (by decide)).trans hT8
          replace hT9 := (hu213 _ (by decide)).trans hT9
          replace hF := q_us hF hu213 (by simp)
          exact q_retv C0 V (⟨hI, hF, y149, y149, y150, y151, y152, y153, y154, y155, y156, y157, y158, y159, f160, f162, f164, f166, f168, f170, t8_0, t9_0, hT0, hO148, hA161, hA163, hA165, hA167, hA169, hA171, hT8, hT9, (show 0 ≤ y153.toInt + 1 from (by first | with_reducible exact q_fe b172 | (have t1 : 0 ≤ y153.toInt := b172; omega))), (show 0 ≤ y154.toInt from (by first | with_reducible exact q_fe b173 | (have t1 : 0 ≤ y154.toInt := b173; omega))), (show y154.toInt ≤ 1 from (by first | with_reducible exact q_fe b174 | (have t1 : y154.toInt ≤ 1 := b174; omega))), (show t1_1.toInt ≤ y150.toInt from (by first | with_reducible exact q_fe b175 | (have t1 : t1_1.toInt ≤ y150.toInt := b175; omega))), (show y150.toInt ≤ t1_1.toInt from (by first | with_reducible exact q_fe b176 | (have t1 : y150.toInt ≤ t1_1.toInt := b176; omega))), (show y153.toInt ≤ t1_4.toInt from (by first | with_reducible exact q_fe b177 | (have t1 : y153.toInt ≤ t1_4.toInt := b177; omega))), (show t1_6.toInt ≤ y155.toInt from (by first | with_reducible exact q_fe b178 | (have t1 : t1_6.toInt ≤ y155.toInt := b178; omega))), (show y155.toInt ≤ t1_6.toInt from (by first | with_reducible exact q_fe b179 | (have t1 : y155.toInt ≤ t1_6.toInt := b179; omega))), (show t1_8.toInt ≤ y157.toInt from (by first | with_reducible exact q_fe b182 | (have t1 : t1_8.toInt ≤ y157.toInt := b182; omega))), (show y157.toInt ≤ t1_8.toInt from (by first | with_reducible exact q_fe b183 | (have t1 : y157.toInt ≤ t1_8.toInt := b183; omega))), (show t1_9.toInt ≤ y158.toInt from (by first | with_reducible exact q_fe b184 | (have t1 : t1_9.toInt ≤ y158.toInt := b184; omega))), (show y158.toInt ≤ t1_9.toInt from (by first | with_reducible exact q_fe b185 | (have t1 : y158.toInt ≤ t1_9.toInt := b185; omega))), (show (y149, y149, y150, y151, y152, y153, y154, y155, y156, y157, y158, y159, f160, f162, f164, f166, f168, f170, t8_0, t9_0) = (F_NM_decimal x2 x3 x4 x5 t0_0 t0_1 t0_2 t1_0 t1_1 t1_2 t1_3 t1_4 t1_5 t1_6 t1_7 t1_8 t1_9 t1_10 t2_0 t3_0 t4_0 t5_0 t6_0 t7_0 t8_0 t9_0) from Eq.trans (by rw [e206, e205, e204, e203, e202, e201, e200, e199, e198, e197, e196, e195, e194, e193, e192, e191, e190, F_NM_decimal_c90.eq_1]) hR207)⟩) d_14_23_118
      ·
        refine lv_aload_n hx hb d_14_23_53 rfl (lv_at hl 0 rfl) ?_
        refine q_get (ci := 12) (j := 6) (v := .ref (q 134)) C0 V i_NM rfl rfl hT0 (by decide) w_2304 rfl d_14_23_54 ?_
        refine lv_iload_n hx hb d_14_23_57 rfl (lv_at hl 2 rfl) ?_
        refine lv_iload_n hx hb d_14_23_58 rfl (lv_at hl 3 rfl) ?_
        refine lv_iload hx hb d_14_23_59 (lv_at hl 4 rfl) ?_
        refine lv_iload_n hx hb d_14_23_61 rfl (lv_at hl 1 rfl) ?_
        refine lv_iconst (v := 1) hx hb d_14_23_62 (by decide) ?_
        refine lv_icmp_ne (tgt := 70) hx hb d_14_23_63 (by decide) (fun c215 => ?_) (fun c215 => ?_)
        ·
          refine lv_iconst (v := 0) hx hb d_14_23_70 (by decide) ?_
          have ob217 : True ∧ S_DR_add x3 x4 x5 (0 : Int32) t1_0 t1_1 t1_2 t1_3 t1_4 t1_5 t1_6 t1_7 t1_8 t1_9 t1_10 t2_0 t3_0 t4_0 t5_0 t6_0 := (by have h := hS62; rw [S_NM_decimal_J37.eq_1] at h; rw [if_pos c68] at h; rw [if_neg c70] at h; rw [if_neg c215] at h; with_reducible exact h.2.1)
          refine q_gov V (q_runV (As := [.int x3, .int x4, .int x5, .int 0]) (rest := []) (d := 3) (mc := 0) (ms := 0) (ci := 14) C0 V rfl LV_NM_203 (X_DR_add l D g q w66  x3 x4 x5 0 hI t1_0 t1_1 t1_2 t1_3 t1_4 t1_5 t1_6 t1_7 t1_8 t1_9 t1_10 hT1 t2_0 hT2 t3_0 hT3 t4_0 hT4 t5_0 hT5 t6_0 hT6 ⟨(by have y0 : (0 : Int32).toInt = 0 := rfl; omega), (by have y0 : (0 : Int32).toInt = 0 := rfl; omega)⟩ ob217 _) rfl rfl hT1 rfl hl.1 rfl (Nat.le_of_ble_eq_true rfl) ⟨by decide, by decide⟩ ⟨Nat.le_of_ble_eq_true rfl, Nat.le_of_ble_eq_true rfl⟩ d_14_23_71) (fun u218 H locs hp219 V => ?_)
          obtain ⟨hI, hZ9⟩ := hp219
          obtain ⟨hu257, hZ9⟩ := hZ9
          obtain ⟨y221, hZ9⟩ := hZ9
          obtain ⟨y222, hZ9⟩ := hZ9
          obtain ⟨y223, hZ9⟩ := hZ9
          obtain ⟨y224, hZ9⟩ := hZ9
          obtain ⟨y225, hZ9⟩ := hZ9
          obtain ⟨y226, hZ9⟩ := hZ9
          obtain ⟨y227, hZ9⟩ := hZ9
          obtain ⟨y228, hZ9⟩ := hZ9
          obtain ⟨y229, hZ9⟩ := hZ9
          obtain ⟨y230, hZ9⟩ := hZ9
          obtain ⟨y231, hZ9⟩ := hZ9
          obtain ⟨f232, hZ9⟩ := hZ9
          obtain ⟨f234, hZ9⟩ := hZ9
          obtain ⟨f236, hZ9⟩ := hZ9
          obtain ⟨f238, hZ9⟩ := hZ9
          obtain ⟨f240, hZ9⟩ := hZ9
          obtain ⟨hO220, hZ9⟩ := hZ9
          obtain ⟨hA233, hZ9⟩ := hZ9
          obtain ⟨hA235, hZ9⟩ := hZ9
          obtain ⟨hA237, hZ9⟩ := hZ9
          obtain ⟨hA239, hZ9⟩ := hZ9
          obtain ⟨hA241, hZ9⟩ := hZ9
          obtain ⟨b242, hZ9⟩ := hZ9
          obtain ⟨b243, hZ9⟩ := hZ9
          obtain ⟨b244, hZ9⟩ := hZ9
          obtain ⟨b245, hZ9⟩ := hZ9
          obtain ⟨b246, hZ9⟩ := hZ9
          obtain ⟨b247, hZ9⟩ := hZ9
          obtain ⟨b248, hZ9⟩ := hZ9
          obtain ⟨b249, hZ9⟩ := hZ9
          replace hZ9 := hZ9.2.2
          obtain ⟨b252, hZ9⟩ := hZ9
          obtain ⟨b253, hZ9⟩ := hZ9
          obtain ⟨b254, hZ9⟩ := hZ9
          obtain ⟨b255, hE256⟩ := hZ9
          replace hO220 : u218[134]? = (some (q 134, .inr (14, [.int y221, .ref (q 135), .int y222, .ref (q 136), .ref (q 137), .ref (q 138), .ref (q 139), .ref (q 140), .int y223, .long y224, .int y225, .int y226, .ref (q 141), .int y227, .ref (q 142), .int y228, .ref (q 143), .int y229, .ref (q 144), .int y230, .int y231])) : Option (Nat × va_E)) := hO220
          replace hA233 : u218[136]? = (some (q 136, .inl (g 0, (10000 : Int32).toNatClampNeg, .inl f232)) : Option (Nat × va_E)) := hA233
          replace hA235 : u218[137]? = (some (q 137, .inl (g 0, (10 : Int32).toNatClampNeg, .inl f234)) : Option (Nat × va_E)) := hA235
          replace hA237 : u218[138]? = (some (q 138, .inl (g 3, 10, .inl f236)) : Option (Nat × va_E)) := hA237
          replace hA239 : u218[139]? = (some (q 139, .inl (g 0, (10 : Int32).toNatClampNeg, .inl f238)) : Option (Nat × va_E)) := hA239
          replace hA241 : u218[140]? = (some (q 140, .inl (g 0, (4400 : Int32).toNatClampNeg, .inl f240)) : Option (Nat × va_E)) := hA241
          obtain ⟨p258, e259⟩ : ∃ z, z = (F_DR_add x3 x4 x5 (0 : Int32) t1_0 t1_1 t1_2 t1_3 t1_4 t1_5 t1_6 t1_7 t1_8 t1_9 t1_10 t2_0 t3_0 t4_0 t5_0 t6_0) := ⟨_, rfl⟩
          have e260 : y221 = p258.1 := congrArg (fun z => z.1) (hE256.trans e259.symm)
          have e261 : y222 = p258.2.1 := congrArg (fun z => z.2.1) (hE256.trans e259.symm)
          have e262 : y223 = p258.2.2.1 := congrArg (fun z => z.2.2.1) (hE256.trans e259.symm)
          have e263 : y224 = p258.2.2.2.1 := congrArg (fun z => z.2.2.2.1) (hE256.trans e259.symm)
          have e264 : y225 = p258.2.2.2.2.1 := congrArg (fun z => z.2.2.2.2.1) (hE256.trans e259.symm)
          have e265 : y226 = p258.2.2.2.2.2.1 := congrArg (fun z => z.2.2.2.2.2.1) (hE256.trans e259.symm)
          have e266 : y227 = p258.2.2.2.2.2.2.1 := congrArg (fun z => z.2.2.2.2.2.2.1) (hE256.trans e259.symm)
          have e267 : y228 = p258.2.2.2.2.2.2.2.1 := congrArg (fun z => z.2.2.2.2.2.2.2.1) (hE256.trans e259.symm)
          have e268 : y229 = p258.2.2.2.2.2.2.2.2.1 := congrArg (fun z => z.2.2.2.2.2.2.2.2.1) (hE256.trans e259.symm)
          have e269 : y230 = p258.2.2.2.2.2.2.2.2.2.1 := congrArg (fun z => z.2.2.2.2.2.2.2.2.2.1) (hE256.trans e259.symm)
          have e270 : y231 = p258.2.2.2.2.2.2.2.2.2.2.1 := congrArg (fun z => z.2.2.2.2.2.2.2.2.2.2.1) (hE256.trans e259.symm)
          have e271 : f232 = p258.2.2.2.2.2.2.2.2.2.2.2.1 := congrArg (fun z => z.2.2.2.2.2.2.2.2.2.2.2.1) (hE256.trans e259.symm)
          have e272 : f234 = p258.2.2.2.2.2.2.2.2.2.2.2.2.1 := congrArg (fun z => z.2.2.2.2.2.2.2.2.2.2.2.2.1) (hE256.trans e259.symm)
          have e273 : f236 = p258.2.2.2.2.2.2.2.2.2.2.2.2.2.1 := congrArg (fun z => z.2.2.2.2.2.2.2.2.2.2.2.2.2.1) (hE256.trans e259.symm)
          have e274 : f238 = p258.2.2.2.2.2.2.2.2.2.2.2.2.2.2.1 := congrArg (fun z => z.2.2.2.2.2.2.2.2.2.2.2.2.2.2.1) (hE256.trans e259.symm)
          have e275 : f240 = p258.2.2.2.2.2.2.2.2.2.2.2.2.2.2.2 := congrArg (fun z => z.2.2.2.2.2.2.2.2.2.2.2.2.2.2.2) (hE256.trans e259.symm)
          replace b242 : q_F (0 ≤ y225.toInt) := b242
          replace b243 : q_F (0 ≤ y226.toInt) := b243
          replace b244 : q_F (y226.toInt ≤ 1) := b244
          replace b245 : q_F (t1_1.toInt ≤ y222.toInt) := b245
          replace b246 : q_F (y222.toInt ≤ t1_1.toInt) := b246
          replace b247 : q_F (y225.toInt ≤ t1_4.toInt) := b247
          replace b248 : q_F (t1_6.toInt ≤ y227.toInt) := b248
          replace b249 : q_F (y227.toInt ≤ t1_6.toInt) := b249
          replace b252 : q_F (t1_8.toInt ≤ y229.toInt) := b252
          replace b253 : q_F (y229.toInt ≤ t1_8.toInt) := b253
          replace b254 : q_F (t1_9.toInt ≤ y230.toInt) := b254
          replace b255 : q_F (y230.toInt ≤ t1_9.toInt) := b255
          replace hT0 := (hu257 _ (by decide)).trans hT0
          replace hT7 := (hu257 _ (by decide)).trans hT7
          replace hT8 := (hu257 _ (by decide)).trans hT8
          replace hT9 := (hu257 _ (by decide)).trans hT9
          replace hF := q_uc hF hu257 (by simp)
          have hR276 := (show F_NM_decimal_c71 x2 x3 x4 x5 t0_0 t0_1 t0_2 t1_0 t1_1 t1_2 t1_3 t1_4 t1_5 t1_6 t1_7 t1_8 t1_9 t1_10 t2_0 t3_0 t4_0 t5_0 t6_0 t7_0 t8_0 t9_0 lx47 p258 = (F_NM_decimal x2 x3 x4 x5 t0_0 t0_1 t0_2 t1_0 t1_1 t1_2 t1_3 t1_4 t1_5 t1_6 t1_7 t1_8 t1_9 t1_10 t2_0 t3_0 t4_0 t5_0 t6_0 t7_0 t8_0 t9_0) from Eq.trans (by rw [e259, F_NM_decimal_J37.eq_1, if_pos c68, if_neg c70, if_neg c215]) hR61)
          have hS277 := (show True ∧ S_NM_decimal_c71 x2 x3 x4 x5 t0_0 t0_1 t0_2 t1_0 t1_1 t1_2 t1_3 t1_4 t1_5 t1_6 t1_7 t1_8 t1_9 t1_10 t2_0 t3_0 t4_0 t5_0 t6_0 t7_0 t8_0 t9_0 lx47 p258 from (by rw [e259]; have h := hS62; rw [S_NM_decimal_J37.eq_1] at h; rw [if_pos c68] at h; rw [if_neg c70] at h; rw [if_neg c215] at h; replace h := q_s2 h; with_reducible exact h))
          refine lv_goto (tgt := 107) hx hb d_14_23_74 (by decide) ?_
          refine lv_aload_n hx hb d_14_23_107 rfl (lv_at hl 0 rfl) ?_
          refine lv_aload_n hx hb d_14_23_108 rfl (lv_at hl 0 rfl) ?_
          refine q_get (ci := 12) (j := 6) (v := .ref (q 134)) C0 V i_NM rfl rfl hT0 (by decide) w_2304 rfl d_14_23_109 ?_
          refine q_getN (ci := 14) (j := 0) (v := .int y221) C0 V i_DR rfl rfl hO220 (by decide) wo_1997 rfl d_14_23_112 ?_
          refine q_put (ci := 12) (j := 0) (v := .int y221) (ty := .int) C0 V i_NM o_NM n_NM rfl rfl hT0 (by decide) w_2298 rfl rfl rfl rfl (Nat.le_of_ble_eq_true rfl) d_14_23_115 (fun H locs w281 hu282 hT0 V => ?_)
          replace hT0 : w281[116]? = (some (q 116, .inr (12, [.int y221, .ref (q 117), .int t0_1, .ref (q 118), .int t0_2, .ref (q 119), .ref (q 134), .ref (q 145), .ref (q 153), .ref (q 157), .ref (q 167), .ref (q 168)])) : Option (Nat × va_E)) := hT0
          replace hI := n_p116 hI hu282 hT0 (by first | with_reducible exact q_fe btt0_1 | exact ⟨(by have t1 : 0 ≤ t0_1.toInt ∧ t0_1.toInt ≤ 4100 := btt0_1; omega), (by have t1 : 0 ≤ t0_1.toInt ∧ t0_1.toInt ≤ 4100 := btt0_1; omega)⟩) (by first | with_reducible exact q_fe btt0_2 | exact ⟨(by have t1 : 0 ≤ t0_2.toInt ∧ t0_2.toInt ≤ 12200 := btt0_2; omega), (by have t1 : 0 ≤ t0_2.toInt ∧ t0_2.toInt ≤ 12200 := btt0_2; omega)⟩)
          replace hO220 := (hu282 _ (by decide)).trans hO220
          replace hA233 := (hu282 _ (by decide)).trans hA233
          replace hA235 := (hu282 _ (by decide)).trans hA235
          replace hA237 := (hu282 _ (by decide)).trans hA237
          replace hA239 := (hu282 _ (by decide)).trans hA239
          replace hA241 := (hu282 _ (by decide)).trans hA241
          replace hT7 := (hu282 _ (by decide)).trans hT7
          replace hT8 := (hu282 _ (by decide)).trans hT8
          replace hT9 := (hu282 _ (by decide)).trans hT9
          replace hF := q_us hF hu282 (by simp)
          exact q_retv C0 V (⟨hI, hF, y221, y221, y222, y223, y224, y225, y226, y227, y228, y229, y230, y231, f232, f234, f236, f238, f240, t7_0, t8_0, t9_0, hT0, hO220, hA233, hA235, hA237, hA239, hA241, hT7, hT8, hT9, (show 0 ≤ y225.toInt + 1 from (by first | with_reducible exact q_fe b242 | (have t1 : 0 ≤ y225.toInt := b242; omega))), (show 0 ≤ y226.toInt from (by first | with_reducible exact q_fe b243 | (have t1 : 0 ≤ y226.toInt := b243; omega))), (show y226.toInt ≤ 1 from (by first | with_reducible exact q_fe b244 | (have t1 : y226.toInt ≤ 1 := b244; omega))), (show t1_1.toInt ≤ y222.toInt from (by first | with_reducible exact q_fe b245 | (have t1 : t1_1.toInt ≤ y222.toInt := b245; omega))), (show y222.toInt ≤ t1_1.toInt from (by first | with_reducible exact q_fe b246 | (have t1 : y222.toInt ≤ t1_1.toInt := b246; omega))), (show y225.toInt ≤ t1_4.toInt from (by first | with_reducible exact q_fe b247 | (have t1 : y225.toInt ≤ t1_4.toInt := b247; omega))), (show t1_6.toInt ≤ y227.toInt from (by first | with_reducible exact q_fe b248 | (have t1 : t1_6.toInt ≤ y227.toInt := b248; omega))), (show y227.toInt ≤ t1_6.toInt from (by first | with_reducible exact q_fe b249 | (have t1 : y227.toInt ≤ t1_6.toInt := b249; omega))), (show t1_8.toInt ≤ y229.toInt from (by first | with_reducible exact q_fe b252 | (have t1 : t1_8.toInt ≤ y229.toInt := b252; omega))), (show y229.toInt ≤ t1_8.toInt from (by first | with_reducible exact q_fe b253 | (have t1 : y229.toInt ≤ t1_8.toInt := b253; omega))), (show t1_9.toInt ≤ y230.toInt from (by first | with_reducible exact q_fe b254 | (have t1 : t1_9.toInt ≤ y230.toInt := b254; omega))), (show y230.toInt ≤ t1_9.toInt from (by first | with_reducible exact q_fe b255 | (have t1 : y230.toInt ≤ t1_9.toInt := b255; omega))), (show (y221, y221, y222, y223, y224, y225, y226, y227, y228, y229, y230, y231, f232, f234, f236, f238, f240, t7_0, t8_0, t9_0) = (F_NM_decimal x2 x3 x4 x5 t0_0 t0_1 t0_2 t1_0 t1_1 t1_2 t1_3 t1_4 t1_5 t1_6 t1_7 t1_8 t1_9 t1_10 t2_0 t3_0 t4_0 t5_0 t6_0 t7_0 t8_0 t9_0) from Eq.trans (by rw [e275, e274, e273, e272, e271, e270, e269, e268, e267, e266, e265, e264, e263, e262, e261, e260, F_NM_decimal_c71.eq_1]) hR276)⟩) d_14_23_118
        ·
          refine lv_iconst (v := 1) hx hb d_14_23_66 (by decide) ?_
          refine lv_goto (tgt := 71) hx hb d_14_23_67 (by decide) ?_
          have ob284 : True ∧ S_DR_add x3 x4 x5 (1 : Int32) t1_0 t1_1 t1_2 t1_3 t1_4 t1_5 t1_6 t1_7 t1_8 t1_9 t1_10 t2_0 t3_0 t4_0 t5_0 t6_0 := (by have h := hS62; rw [S_NM_decimal_J37.eq_1] at h; rw [if_pos c68] at h; rw [if_neg c70] at h; rw [if_pos c215] at h; with_reducible exact h.2.1)
          refine q_gov V (q_runV (As := [.int x3, .int x4, .int x5, .int 1]) (rest := []) (d := 3) (mc := 0) (ms := 0) (ci := 14) C0 V rfl LV_NM_203 (X_DR_add l D g q w66  x3 x4 x5 1 hI t1_0 t1_1 t1_2 t1_3 t1_4 t1_5 t1_6 t1_7 t1_8 t1_9 t1_10 hT1 t2_0 hT2 t3_0 hT3 t4_0 hT4 t5_0 hT5 t6_0 hT6 ⟨(by have y0 : (1 : Int32).toInt = 1 := rfl; omega), (by have y0 : (1 : Int32).toInt = 1 := rfl; omega)⟩ ob284 _) rfl rfl hT1 rfl hl.1 rfl (Nat.le_of_ble_eq_true rfl) ⟨by decide, by decide⟩ ⟨Nat.le_of_ble_eq_true rfl, Nat.le_of_ble_eq_true rfl⟩ d_14_23_71) (fun u285 H locs hp286 V => ?_)
          obtain ⟨hI, hZ9⟩ := hp286
          obtain ⟨hu324, hZ9⟩ := hZ9
          obtain ⟨y288, hZ9⟩ := hZ9
          obtain ⟨y289, hZ9⟩ := hZ9
          obtain ⟨y290, hZ9⟩ := hZ9
          obtain ⟨y291, hZ9⟩ := hZ9
          obtain ⟨y292, hZ9⟩ := hZ9
          obtain ⟨y293, hZ9⟩ := hZ9
          obtain ⟨y294, hZ9⟩ := hZ9
          obtain ⟨y295, hZ9⟩ := hZ9
          obtain ⟨y296, hZ9⟩ := hZ9
          obtain ⟨y297, hZ9⟩ := hZ9
          obtain ⟨y298, hZ9⟩ := hZ9
          obtain ⟨f299, hZ9⟩ := hZ9
          obtain ⟨f301, hZ9⟩ := hZ9
          obtain ⟨f303, hZ9⟩ := hZ9
          obtain ⟨f305, hZ9⟩ := hZ9
          obtain ⟨f307, hZ9⟩ := hZ9
          obtain ⟨hO287, hZ9⟩ := hZ9
          obtain ⟨hA300, hZ9⟩ := hZ9
          obtain ⟨hA302, hZ9⟩ := hZ9
          obtain ⟨hA304, hZ9⟩ := hZ9
          obtain ⟨hA306, hZ9⟩ := hZ9
          obtain ⟨hA308, hZ9⟩ := hZ9
          obtain ⟨b309, hZ9⟩ := hZ9
          obtain ⟨b310, hZ9⟩ := hZ9
          obtain ⟨b311, hZ9⟩ := hZ9
          obtain ⟨b312, hZ9⟩ := hZ9
          obtain ⟨b313, hZ9⟩ := hZ9
          obtain ⟨b314, hZ9⟩ := hZ9
          obtain ⟨b315, hZ9⟩ := hZ9
          obtain ⟨b316, hZ9⟩ := hZ9
          replace hZ9 := hZ9.2.2
          obtain ⟨b319, hZ9⟩ := hZ9
          obtain ⟨b320, hZ9⟩ := hZ9
          obtain ⟨b321, hZ9⟩ := hZ9
          obtain ⟨b322, hE323⟩ := hZ9
          replace hO287 : u285[134]? = (some (q 134, .inr (14, [.int y288, .ref (q 135), .int y289, .ref (q 136), .ref (q 137), .ref (q 138), .ref (q 139), .ref (q 140), .int y290, .long y291, .int y292, .int y293, .ref (q 141), .int y294, .ref (q 142), .int y295, .ref (q 143), .int y296, .ref (q 144), .int y297, .int y298])) : Option (Nat × va_E)) := hO287
          replace hA300 : u285[136]? = (some (q 136, .inl (g 0, (10000 : Int32).toNatClampNeg, .inl f299)) : Option (Nat × va_E)) := hA300
          replace hA302 : u285[137]? = (some (q 137, .inl (g 0, (10 : Int32).toNatClampNeg, .inl f301)) : Option (Nat × va_E)) := hA302
          replace hA304 : u285[138]? = (some (q 138, .inl (g 3, 10, .inl f303)) : Option (Nat × va_E)) := hA304
          replace hA306 : u285[139]? = (some (q 139, .inl (g 0, (10 : Int32).toNatClampNeg, .inl f305)) : Option (Nat × va_E)) := hA306
          replace hA308 : u285[140]? = (some (q 140, .inl (g 0, (4400 : Int32).toNatClampNeg, .inl f307)) : Option (Nat × va_E)) := hA308
          obtain ⟨p325, e326⟩ : ∃ z, z = (F_DR_add x3 x4 x5 (1 : Int32) t1_0 t1_1 t1_2 t1_3 t1_4 t1_5 t1_6 t1_7 t1_8 t1_9 t1_10 t2_0 t3_0 t4_0 t5_0 t6_0) := ⟨_, rfl⟩
          have e327 : y288 = p325.1 := congrArg (fun z => z.1) (hE323.trans e326.symm)
          have e328 : y289 = p325.2.1 := congrArg (fun z => z.2.1) (hE323.trans e326.symm)
          have e329 : y290 = p325.2.2.1 := congrArg (fun z => z.2.2.1) (hE323.trans e326.symm)
          have e330 : y291 = p325.2.2.2.1 := congrArg (fun z => z.2.2.2.1) (hE323.trans e326.symm)
          have e331 : y292 = p325.2.2.2.2.1 := congrArg (fun z => z.2.2.2.2.1) (hE323.trans e326.symm)
          have e332 : y293 = p325.2.2.2.2.2.1 := congrArg (fun z => z.2.2.2.2.2.1) (hE323.trans e326.symm)
          have e333 : y294 = p325.2.2.2.2.2.2.1 := congrArg (fun z => z.2.2.2.2.2.2.1) (hE323.trans e326.symm)
          have e334 : y295 = p325.2.2.2.2.2.2.2.1 := congrArg (fun z => z.2.2.2.2.2.2.2.1) (hE323.trans e326.symm)
          have e335 : y296 = p325.2.2.2.2.2.2.2.2.1 := congrArg (fun z => z.2.2.2.2.2.2.2.2.1) (hE323.trans e326.symm)
          have e336 : y297 = p325.2.2.2.2.2.2.2.2.2.1 := congrArg (fun z => z.2.2.2.2.2.2.2.2.2.1) (hE323.trans e326.symm)
          have e337 : y298 = p325.2.2.2.2.2.2.2.2.2.2.1 := congrArg (fun z => z.2.2.2.2.2.2.2.2.2.2.1) (hE323.trans e326.symm)
          have e338 : f299 = p325.2.2.2.2.2.2.2.2.2.2.2.1 := congrArg (fun z => z.2.2.2.2.2.2.2.2.2.2.2.1) (hE323.trans e326.symm)
          have e339 : f301 = p325.2.2.2.2.2.2.2.2.2.2.2.2.1 := congrArg (fun z => z.2.2.2.2.2.2.2.2.2.2.2.2.1) (hE323.trans e326.symm)
          have e340 : f303 = p325.2.2.2.2.2.2.2.2.2.2.2.2.2.1 := congrArg (fun z => z.2.2.2.2.2.2.2.2.2.2.2.2.2.1) (hE323.trans e326.symm)
          have e341 : f305 = p325.2.2.2.2.2.2.2.2.2.2.2.2.2.2.1 := congrArg (fun z => z.2.2.2.2.2.2.2.2.2.2.2.2.2.2.1) (hE323.trans e326.symm)
          have e342 : f307 = p325.2.2.2.2.2.2.2.2.2.2.2.2.2.2.2 := congrArg (fun z => z.2.2.2.2.2.2.2.2.2.2.2.2.2.2.2) (hE323.trans e326.symm)
          replace b309 : q_F (0 ≤ y292.toInt) := b309
          replace b310 : q_F (0 ≤ y293.toInt) := b310
          replace b311 : q_F (y293.toInt ≤ 1) := b311
          replace b312 : q_F (t1_1.toInt ≤ y289.toInt) := b312
          replace b313 : q_F (y289.toInt ≤ t1_1.toInt) := b313
          replace b314 : q_F (y292.toInt ≤ t1_4.toInt) := b314
          replace b315 : q_F (t1_6.toInt ≤ y294.toInt) := b315
          replace b316 : q_F (y294.toInt ≤ t1_6.toInt) := b316
          replace b319 : q_F (t1_8.toInt ≤ y296.toInt) := b319
          replace b320 : q_F (y296.toInt ≤ t1_8.toInt) := b320
          replace b321 : q_F (t1_9.toInt ≤ y297.toInt) := b321
          replace b322 : q_F (y297.toInt ≤ t1_9.toInt) := b322
          replace hT0 := (hu324 _ (by decide)).trans hT0
          replace hT7 := (hu324 _ (by decide)).trans hT7
          replace hT8 := (hu324 _ (by decide)).trans hT8
          replace hT9 := (hu324 _ (by decide)).trans hT9
          replace hF := q_uc hF hu324 (by simp)
          have hR343 := (show F_NM_decimal_c71_5 x2 x3 x4 x5 t0_0 t0_1 t0_2 t1_0 t1_1 t1_2 t1_3 t1_4 t1_5 t1_6 t1_7 t1_8 t1_9 t1_10 t2_0 t3_0 t4_0 t5_0 t6_0 t7_0 t8_0 t9_0 lx47 p325 = (F_NM_decimal x2 x3 x4 x5 t0_0 t0_1 t0_2 t1_0 t1_1 t1_2 t1_3 t1_4 t1_5 t1_6 t1_7 t1_8 t1_9 t1_10 t2_0 t3_0 t4_0 t5_0 t6_0 t7_0 t8_0 t9_0) from Eq.trans (by rw [e326, F_NM_decimal_J37.eq_1, if_pos c68, if_neg c70, if_pos c215]) hR61)
          have hS344 := (show True ∧ S_NM_decimal_c71_5 x2 x3 x4 x5 t0_0 t0_1 t0_2 t1_0 t1_1 t1_2 t1_3 t1_4 t1_5 t1_6 t1_7 t1_8 t1_9 t1_10 t2_0 t3_0 t4_0 t5_0 t6_0 t7_0 t8_0 t9_0 lx47 p325 from (by rw [e326]; have h := hS62; rw [S_NM_decimal_J37.eq_1] at h; rw [if_pos c68] at h; rw [if_neg c70] at h; rw [if_pos c215] at h; replace h := q_s2 h; with_reducible exact h))
          refine lv_goto (tgt := 107) hx hb d_14_23_74 (by decide) ?_
          refine lv_aload_n hx hb d_14_23_107 rfl (lv_at hl 0 rfl) ?_
          refine lv_aload_n hx hb d_14_23_108 rfl (lv_at hl 0 rfl) ?_
          refine q_get (ci := 12) (j := 6) (v := .ref (q 134)) C0 V i_NM rfl rfl hT0 (by decide) w_2304 rfl d_14_23_109 ?_
          refine q_getN (ci := 14) (j := 0) (v := .int y288) C0 V i_DR rfl rfl hO287 (by decide) wo_1997 rfl d_14_23_112 ?_
          refine q_put (ci := 12) (j := 0) (v := .int y288) (ty := .int) C0 V i_NM o_NM n_NM rfl rfl hT0 (by decide) w_2298 rfl rfl rfl rfl (Nat.le_of_ble_eq_true rfl) d_14_23_115 (fun H locs w348 hu349 hT0 V => ?_)
          replace hT0 : w348[116]? = (some (q 116, .inr (12, [.int y288, .ref (q 117), .int t0_1, .ref (q 118), .int t0_2, .ref (q 119), .ref (q 134), .ref (q 145), .ref (q 153), .ref (q 157), .ref (q 167), .ref (q 168)])) : Option (Nat × va_E)) := hT0
          replace hI := n_p116 hI hu349 hT0 (by first | with_reducible exact q_fe btt0_1 | exact ⟨(by have t1 : 0 ≤ t0_1.toInt ∧ t0_1.toInt ≤ 4100 := btt0_1; omega), (by have t1 : 0 ≤ t0_1.toInt ∧ t0_1.toInt ≤ 4100 := btt0_1; omega)⟩) (by first | with_reducible exact q_fe btt0_2 | exact ⟨(by have t1 : 0 ≤ t0_2.toInt ∧ t0_2.toInt ≤ 12200 := btt0_2; omega), (by have t1 : 0 ≤ t0_2.toInt ∧ t0_2.toInt ≤ 12200 := btt0_2; omega)⟩)
          replace hO287 := (hu349 _ (by decide)).trans hO287
          replace hA300 := (hu349 _ (by decide)).trans hA300
          replace hA302 := (hu349 _ (by decide)).trans hA302
          replace hA304 := (hu349 _ (by decide)).trans hA304
          replace hA306 := (hu349 _ (by decide)).trans hA306
          replace hA308 := (hu349 _ (by decide)).trans hA308
          replace hT7 := (hu349 _ (by decide)).trans hT7
          replace hT8 := (hu349 _ (by decide)).trans hT8
          replace hT9 := (hu349 _ (by decide)).trans hT9
          replace hF := q_us hF hu349 (by simp)
          exact q_retv C0 V (⟨hI, hF, y288, y288, y289, y290, y291, y292, y293, y294, y295, y296, y297, y298, f299, f301, f303, f305, f307, t7_0, t8_0, t9_0, hT0, hO287, hA300, hA302, hA304, hA306, hA308, hT7, hT8, hT9, (show 0 ≤ y292.toInt + 1 from (by first | with_reducible exact q_fe b309 | (have t1 : 0 ≤ y292.toInt := b309; omega))), (show 0 ≤ y293.toInt from (by first | with_reducible exact q_fe b310 | (have t1 : 0 ≤ y293.toInt := b310; omega))), (show y293.toInt ≤ 1 from (by first | with_reducible exact q_fe b311 | (have t1 : y293.toInt ≤ 1 := b311; omega))), (show t1_1.toInt ≤ y289.toInt from (by first | with_reducible exact q_fe b312 | (have t1 : t1_1.toInt ≤ y289.toInt := b312; omega))), (show y289.toInt ≤ t1_1.toInt from (by first | with_reducible exact q_fe b313 | (have t1 : y289.toInt ≤ t1_1.toInt := b313; omega))), (show y292.toInt ≤ t1_4.toInt from (by first | with_reducible exact q_fe b314 | (have t1 : y292.toInt ≤ t1_4.toInt := b314; omega))), (show t1_6.toInt ≤ y294.toInt from (by first | with_reducible exact q_fe b315 | (have t1 : t1_6.toInt ≤ y294.toInt := b315; omega))), (show y294.toInt ≤ t1_6.toInt from (by first | with_reducible exact q_fe b316 | (have t1 : y294.toInt ≤ t1_6.toInt := b316; omega))), (show t1_8.toInt ≤ y296.toInt from (by first | with_reducible exact q_fe b319 | (have t1 : t1_8.toInt ≤ y296.toInt := b319; omega))), (show y296.toInt ≤ t1_8.toInt from (by first | with_reducible exact q_fe b320 | (have t1 : y296.toInt ≤ t1_8.toInt := b320; omega))), (show t1_9.toInt ≤ y297.toInt from (by first | with_reducible exact q_fe b321 | (have t1 : t1_9.toInt ≤ y297.toInt := b321; omega))), (show y297.toInt ≤ t1_9.toInt from (by first | with_reducible exact q_fe b322 | (have t1 : y297.toInt ≤ t1_9.toInt := b322; omega))), (show (y288, y288, y289, y290, y291, y292, y293, y294, y295, y296, y297, y298, f299, f301, f303, f305, f307, t7_0, t8_0, t9_0) = (F_NM_decimal x2 x3 x4 x5 t0_0 t0_1 t0_2 t1_0 t1_1 t1_2 t1_3 t1_4 t1_5 t1_6 t1_7 t1_8 t1_9 t1_10 t2_0 t3_0 t4_0 t5_0 t6_0 t7_0 t8_0 t9_0) from Eq.trans (by rw [e342, e341, e340, e339, e338, e337, e336, e335, e334, e333, e332, e331, e330, e329, e328, e327, F_NM_decimal_c71_5.eq_1]) hR343)⟩) d_14_23_118
    ·
      exact q_retv C0 V (⟨hI, hF, lx47, t1_0, t1_1, t1_2, t1_3, t1_4, t1_5, t1_6, t1_7, t1_8, t1_9, t1_10, t2_0, t3_0, t4_0, t5_0, t6_0, t7_0, t8_0, t9_0, hT0, hT1, hT2, hT3, hT4, hT5, hT6, hT7, hT8, hT9, (show 0 ≤ t1_4.toInt + 1 from (by first | with_reducible exact (q_fe btt1_4).2 | with_reducible exact (q_fe btt1_4).1 | (have t1 : 0 ≤ t1_4.toInt ∧ t1_4.toInt ≤ 1 := btt1_4; omega))), (show 0 ≤ t1_5.toInt from (by first | with_reducible exact (q_fe btt1_5).2 | with_reducible exact (q_fe btt1_5).1 | (have t1 : 0 ≤ t1_5.toInt ∧ t1_5.toInt ≤ 1 := btt1_5; omega))), (show t1_5.toInt ≤ 1 from (by first | with_reducible exact (q_fe btt1_5).2 | with_reducible exact (q_fe btt1_5).1 | (have t1 : 0 ≤ t1_5.toInt ∧ t1_5.toInt ≤ 1 := btt1_5; omega))), (show t1_1.toInt ≤ t1_1.toInt from (by omega)), (show t1_1.toInt ≤ t1_1.toInt from (by omega)), (show t1_4.toInt ≤ t1_4.toInt from (by omega)), (show t1_6.toInt ≤ t1_6.toInt from (by omega)), (show t1_6.toInt ≤ t1_6.toInt from (by omega)), (show t1_8.toInt ≤ t1_8.toInt from (by omega)), (show t1_8.toInt ≤ t1_8.toInt from (by omega)), (show t1_9.toInt ≤ t1_9.toInt from (by omega)), (show t1_9.toInt ≤ t1_9.toInt from (by omega)), (show (lx47, t1_0, t1_1, t1_2, t1_3, t1_4, t1_5, t1_6, t1_7, t1_8, t1_9, t1_10, t2_0, t3_0, t4_0, t5_0, t6_0, t7_0, t8_0, t9_0) = (F_NM_decimal x2 x3 x4 x5 t0_0 t0_1 t0_2 t1_0 t1_1 t1_2 t1_3 t1_4 t1_5 t1_6 t1_7 t1_8 t1_9 t1_10 t2_0 t3_0 t4_0 t5_0 t6_0 t7_0 t8_0 t9_0) from Eq.trans (by rw [F_NM_decimal_J37.eq_1, if_neg c68]) hR61)⟩) d_14_23_47
  ·
    intro J58
    refine q_join (X := Unit) (fun z H locs ls _ => q_Wd D g (va_A ws sz) s ws H locs ∧ lv_has ls 5 [(0, .ref (q 116)), (1, .int x2), (2, .int x3), (3, .int x4), (4, .int x5)] ∧ F_NM_decimal_J32 x2 x3 x4 x5 t0_0 t0_1 t0_2 t1_0 t1_1 t1_2 t1_3 t1_4 t1_5 t1_6 t1_7 t1_8 t1_9 t1_10 t2_0 t3_0 t4_0 t5_0 t6_0 t7_0 t8_0 t9_0 = (F_NM_decimal x2 x3 x4 x5 t0_0 t0_1 t0_2 t1_0 t1_1 t1_2 t1_3 t1_4 t1_5 t1_6 t1_7 t1_8 t1_9 t1_10 t2_0 t3_0 t4_0 t5_0 t6_0 t7_0 t8_0 t9_0) ∧ True ∧ S_NM_decimal_J32 x2 x3 x4 x5 t0_0 t0_1 t0_2 t1_0 t1_1 t1_2 t1_3 t1_4 t1_5 t1_6 t1_7 t1_8 t1_9 t1_10 t2_0 t3_0 t4_0 t5_0 t6_0 t7_0 t8_0 t9_0) (fun z => [.ref (q 116)]) 32 0 0 ?_ ?_
    ·
      rintro _ H locs ls _ ⟨V, hl, hR362, hS363⟩
      replace hl : lv_has ls 5 [(0, .ref (q 116)), (1, .int x2), (2, .int x3), (3, .int x4), (4, .int x5)] := hl
      refine lv_iconst (v := 1) hx hb d_14_23_32 (by decide) ?_
      refine lv_goto (tgt := 37) hx hb d_14_23_33 (by decide) ?_
      exact J58 ((1 : Int32)) _ _ _ ws ⟨(show q_F (0 ≤ 1) from (show 0 ≤ 1 from by omega)), (show q_F (1 ≤ 1) from (show 1 ≤ 1 from by omega)), V, q_lw hl (q_lw1 0 rfl (q_lw1 1 rfl (q_lw1 2 rfl (q_lw1 3 rfl (q_lw1 4 rfl q_lw0))))), (show F_NM_decimal_J37 x2 x3 x4 x5 t0_0 t0_1 t0_2 t1_0 t1_1 t1_2 t1_3 t1_4 t1_5 t1_6 t1_7 t1_8 t1_9 t1_10 t2_0 t3_0 t4_0 t5_0 t6_0 t7_0 t8_0 t9_0 1 = (F_NM_decimal x2 x3 x4 x5 t0_0 t0_1 t0_2 t1_0 t1_1 t1_2 t1_3 t1_4 t1_5 t1_6 t1_7 t1_8 t1_9 t1_10 t2_0 t3_0 t4_0 t5_0 t6_0 t7_0 t8_0 t9_0) from Eq.trans (by rw [F_NM_decimal_J32.eq_1]) hR362), (show True ∧ S_NM_decimal_J37 x2 x3 x4 x5 t0_0 t0_1 t0_2 t1_0 t1_1 t1_2 t1_3 t1_4 t1_5 t1_6 t1_7 t1_8 t1_9 t1_10 t2_0 t3_0 t4_0 t5_0 t6_0 t7_0 t8_0 t9_0 1 from (by have h := hS363; rw [S_NM_decimal_J32.eq_1] at h; with_reducible exact h))⟩
    ·
      intro J361
      refine lv_if_lt (tgt := 32) hx hb d_14_23_2 (by decide) (fun c367 => ?_) (fun c367 => ?_)
      ·
        exact J361 (()) _ _ _ ws ⟨V, q_lw hl (q_lw1 0 rfl (q_lw1 1 rfl (q_lw1 2 rfl (q_lw1 3 rfl (q_lw1 4 rfl q_lw0))))), (show F_NM_decimal_J32 x2 x3 x4 x5 t0_0 t0_1 t0_2 t1_0 t1_1 t1_2 t1_3 t1_4 t1_5 t1_6 t1_7 t1_8 t1_9 t1_10 t2_0 t3_0 t4_0 t5_0 t6_0 t7_0 t8_0 t9_0 = (F_NM_decimal x2 x3 x4 x5 t0_0 t0_1 t0_2 t1_0 t1_1 t1_2 t1_3 t1_4 t1_5 t1_6 t1_7 t1_8 t1_9 t1_10 t2_0 t3_0 t4_0 t5_0 t6_0 t7_0 t8_0 t9_0) from (by rw [F_NM_decimal.eq_1, if_pos c367])), (show True ∧ S_NM_decimal_J32 x2 x3 x4 x5 t0_0 t0_1 t0_2 t1_0 t1_1 t1_2 t1_3 t1_4 t1_5 t1_6 t1_7 t1_8 t1_9 t1_10 t2_0 t3_0 t4_0 t5_0 t6_0 t7_0 t8_0 t9_0 from (by have h := hS; rw [S_NM_decimal.eq_1] at h; rw [if_pos c367] at h; with_reducible exact h))⟩
      ·
        refine lv_iload_n hx hb d_14_23_5 rfl (lv_at hl 1 rfl) ?_
        refine lv_iconst (v := 3) hx hb d_14_23_6 (by decide) ?_
        refine lv_icmp_gt (tgt := 32) hx hb d_14_23_7 (by decide) (fun c370 => ?_) (fun c370 => ?_)
        ·
          exact J361 (()) _ _ _ ws ⟨V, q_lw hl (q_lw1 0 rfl (q_lw1 1 rfl (q_lw1 2 rfl (q_lw1 3 rfl (q_lw1 4 rfl q_lw0))))), (show F_NM_decimal_J32 x2 x3 x4 x5 t0_0 t0_1 t0_2 t1_0 t1_1 t1_2 t1_3 t1_4 t1_5 t1_6 t1_7 t1_8 t1_9 t1_10 t2_0 t3_0 t4_0 t5_0 t6_0 t7_0 t8_0 t9_0 = (F_NM_decimal x2 x3 x4 x5 t0_0 t0_1 t0_2 t1_0 t1_1 t1_2 t1_3 t1_4 t1_5 t1_6 t1_7 t1_8 t1_9 t1_10 t2_0 t3_0 t4_0 t5_0 t6_0 t7_0 t8_0 t9_0) from (by rw [F_NM_decimal.eq_1, if_neg c367, if_pos c370])), (show True ∧ S_NM_decimal_J32 x2 x3 x4 x5 t0_0 t0_1 t0_2 t1_0 t1_1 t1_2 t1_3 t1_4 t1_5 t1_6 t1_7 t1_8 t1_9 t1_10 t2_0 t3_0 t4_0 t5_0 t6_0 t7_0 t8_0 t9_0 from (by have h := hS; rw [S_NM_decimal.eq_1] at h; rw [if_neg c367] at h; rw [if_pos c370] at h; with_reducible exact h))⟩
        ·
          refine lv_iload_n hx hb d_14_23_10 rfl (lv_at hl 2 rfl) ?_
          refine q_goi V (q_runS (As := [.int x3]) (rest := [.ref (q 116)]) (d := 1) (mc := 0) (ms := 0) C0 V rfl LS_NM_70 (X_NM_no_IZ l D g q ws  x3 hI   _) rfl hl.1 rfl (Nat.le_of_ble_eq_true rfl) ⟨by decide, by decide⟩ ⟨Nat.le_of_ble_eq_true rfl, Nat.le_of_ble_eq_true rfl⟩ d_14_23_11) (fun a375 u373 H locs hp374 V => ?_)
          obtain ⟨rfl, b376, b377, hE378⟩ := hp374
          have e379 : a375 = (F_NM_no_IZ x3) := hE378
          clear b376
          clear b377
          refine lv_if_ne (tgt := 32) hx hb d_14_23_14 (by decide) (fun c380 => ?_) (fun c380 => ?_)
          ·
            exact J361 (()) _ _ _ ws ⟨V, q_lw hl (q_lw1 0 rfl (q_lw1 1 rfl (q_lw1 2 rfl (q_lw1 3 rfl (q_lw1 4 rfl q_lw0))))), (show F_NM_decimal_J32 x2 x3 x4 x5 t0_0 t0_1 t0_2 t1_0 t1_1 t1_2 t1_3 t1_4 t1_5 t1_6 t1_7 t1_8 t1_9 t1_10 t2_0 t3_0 t4_0 t5_0 t6_0 t7_0 t8_0 t9_0 = (F_NM_decimal x2 x3 x4 x5 t0_0 t0_1 t0_2 t1_0 t1_1 t1_2 t1_3 t1_4 t1_5 t1_6 t1_7 t1_8 t1_9 t1_10 t2_0 t3_0 t4_0 t5_0 t6_0 t7_0 t8_0 t9_0) from (by have c380x := c380; rw [e379] at c380x; rw [F_NM_decimal.eq_1, if_neg c367, if_neg c370, if_neg c380x])), (show True ∧ S_NM_decimal_J32 x2 x3 x4 x5 t0_0 t0_1 t0_2 t1_0 t1_1 t1_2 t1_3 t1_4 t1_5 t1_6 t1_7 t1_8 t1_9 t1_10 t2_0 t3_0 t4_0 t5_0 t6_0 t7_0 t8_0 t9_0 from (by have h := hS; rw [S_NM_decimal.eq_1] at h; rw [if_neg c367] at h; rw [if_neg c370] at h; have c380x := c380; rw [e379] at c380x; rw [if_neg c380x] at h; with_reducible exact h))⟩
          ·
            refine lv_iload_n hx hb d_14_23_17 rfl (lv_at hl 3 rfl) ?_
            refine q_goi V (q_runS (As := [.int x4]) (rest := [.ref (q 116)]) (d := 1) (mc := 0) (ms := 0) C0 V rfl LS_NM_70 (X_NM_no_IZ l D g q ws  x4 hI   _) rfl hl.1 rfl (Nat.le_of_ble_eq_true rfl) ⟨by decide, by decide⟩ ⟨Nat.le_of_ble_eq_true rfl, Nat.le_of_ble_eq_true rfl⟩ d_14_23_18) (fun a385 u383 H locs hp384 V => ?_)
            obtain ⟨rfl, b386, b387, hE388⟩ := hp384
            have e389 : a385 = (F_NM_no_IZ x4) := hE388
            clear b386
            clear b387
            refine lv_if_ne (tgt := 32) hx hb d_14_23_21 (by decide) (fun c390 => ?_) (fun c390 => ?_)
            ·
              exact J361 (()) _ _ _ ws ⟨V, q_lw hl (q_lw1 0 rfl (q_lw1 1 rfl (q_lw1 2 rfl (q_lw1 3 rfl (q_lw1 4 rfl q_lw0))))), (show F_NM_decimal_J32 x2 x3 x4 x5 t0_0 t0_1 t0_2 t1_0 t1_1 t1_2 t1_3 t1_4 t1_5 t1_6 t1_7 t1_8 t1_9 t1_10 t2_0 t3_0 t4_0 t5_0 t6_0 t7_0 t8_0 t9_0 = (F_NM_decimal x2 x3 x4 x5 t0_0 t0_1 t0_2 t1_0 t1_1 t1_2 t1_3 t1_4 t1_5 t1_6 t1_7 t1_8 t1_9 t1_10 t2_0 t3_0 t4_0 t5_0 t6_0 t7_0 t8_0 t9_0) from (by have c380x := c380; rw [e379] at c380x; have c390x := c390; rw [e389] at c390x; rw [F_NM_decimal.eq_1, if_neg c367, if_neg c370, if_pos c380x, if_neg c390x])), (show True ∧ S_NM_decimal_J32 x2 x3 x4 x5 t0_0 t0_1 t0_2 t1_0 t1_1 t1_2 t1_3 t1_4 t1_5 t1_6 t1_7 t1_8 t1_9 t1_10 t2_0 t3_0 t4_0 t5_0 t6_0 t7_0 t8_0 t9_0 from (by have h := hS; rw [S_NM_decimal.eq_1] at h; rw [if_neg c367] at h; rw [if_neg c370] at h; have c380x := c380; rw [e379] at c380x; rw [if_pos c380x] at h; have c390x := c390; rw [e389] at c390x; rw [if_neg c390x] at h; with_reducible exact h))⟩
            ·
              refine lv_iload hx hb d_14_23_24 (lv_at hl 4 rfl) ?_
              refine q_goi V (q_runS (As := [.int x5]) (rest := [.ref (q 116)]) (d := 1) (mc := 0) (ms := 0) C0 V rfl LS_NM_70 (X_NM_no_IZ l D g q ws  x5 hI   _) rfl hl.1 rfl (Nat.le_of_ble_eq_true rfl) ⟨by decide, by decide⟩ ⟨Nat.le_of_ble_eq_true rfl, Nat.le_of_ble_eq_true rfl⟩ d_14_23_26) (fun a395 u393 H locs hp394 V => ?_)
              obtain ⟨rfl, b396, b397, hE398⟩ := hp394
              have e399 : a395 = (F_NM_no_IZ x5) := hE398
              clear b396
              clear b397
              refine lv_if_eq (tgt := 36) hx hb d_14_23_29 (by decide) (fun c400 => ?_) (fun c400 => ?_)
              ·
                refine lv_iconst (v := 0) hx hb d_14_23_36 (by decide) ?_
                exact J58 ((0 : Int32)) _ _ _ ws ⟨(show q_F (0 ≤ 0) from (show 0 ≤ 0 from by omega)), (show q_F (0 ≤ 1) from (show 0 ≤ 1 from by omega)), V, q_lw hl (q_lw1 0 rfl (q_lw1 1 rfl (q_lw1 2 rfl (q_lw1 3 rfl (q_lw1 4 rfl q_lw0))))), (show F_NM_decimal_J37 x2 x3 x4 x5 t0_0 t0_1 t0_2 t1_0 t1_1 t1_2 t1_3 t1_4 t1_5 t1_6 t1_7 t1_8 t1_9 t1_10 t2_0 t3_0 t4_0 t5_0 t6_0 t7_0 t8_0 t9_0 0 = (F_NM_decimal x2 x3 x4 x5 t0_0 t0_1 t0_2 t1_0 t1_1 t1_2 t1_3 t1_4 t1_5 t1_6 t1_7 t1_8 t1_9 t1_10 t2_0 t3_0 t4_0 t5_0 t6_0 t7_0 t8_0 t9_0) from (by have c380x := c380; rw [e379] at c380x; have c390x := c390; rw [e389] at c390x; have c400x := c400; rw [e399] at c400x; rw [F_NM_decimal.eq_1, if_neg c367, if_neg c370, if_pos c380x, if_pos c390x, if_pos c400x])), (show True ∧ S_NM_decimal_J37 x2 x3 x4 x5 t0_0 t0_1 t0_2 t1_0 t1_1 t1_2 t1_3 t1_4 t1_5 t1_6 t1_7 t1_8 t1_9 t1_10 t2_0 t3_0 t4_0 t5_0 t6_0 t7_0 t8_0 t9_0 0 from (by have h := hS; rw [S_NM_decimal.eq_1] at h; rw [if_neg c367] at h; rw [if_neg c370] at h; have c380x := c380; rw [e379] at c380x; rw [if_pos c380x] at h; have c390x := c390; rw [e389] at c390x; rw [if_pos c390x] at h; have c400x := c400; rw [e399] at c400x; rw [if_pos c400x] at h; with_reducible exact h))⟩
              ·
                exact J361 (()) _ _ _ ws ⟨V, q_lw hl (q_lw1 0 rfl (q_lw1 1 rfl (q_lw1 2 rfl (q_lw1 3 rfl (q_lw1 4 rfl q_lw0))))), (show F_NM_decimal_J32 x2 x3 x4 x5 t0_0 t0_1 t0_2 t1_0 t1_1 t1_2 t1_3 t1_4 t1_5 t1_6 t1_7 t1_8 t1_9 t1_10 t2_0 t3_0 t4_0 t5_0 t6_0 t7_0 t8_0 t9_0 = (F_NM_decimal x2 x3 x4 x5 t0_0 t0_1 t0_2 t1_0 t1_1 t1_2 t1_3 t1_4 t1_5 t1_6 t1_7 t1_8 t1_9 t1_10 t2_0 t3_0 t4_0 t5_0 t6_0 t7_0 t8_0 t9_0) from (by have c380x := c380; rw [e379] at c380x; have c390x := c390; rw [e389] at c390x; have c400x := c400; rw [e399] at c400x; rw [F_NM_decimal.eq_1, if_neg c367, if_neg c370, if_pos c380x, if_pos c390x, if_neg c400x])), (show True ∧ S_NM_decimal_J32 x2 x3 x4 x5 t0_0 t0_1 t0_2 t1_0 t1_1 t1_2 t1_3 t1_4 t1_5 t1_6 t1_7 t1_8 t1_9 t1_10 t2_0 t3_0 t4_0 t5_0 t6_0 t7_0 t8_0 t9_0 from (by have h := hS; rw [S_NM_decimal.eq_1] at h; rw [if_neg c367] at h; rw [if_neg c370] at h; have c380x := c380; rw [e379] at c380x; rw [if_pos c380x] at h; have c390x := c390; rw [e389] at c390x; rw [if_pos c390x] at h; have c400x := c400; rw [e399] at c400x; rw [if_neg c400x] at h; with_reducible exact h))⟩

