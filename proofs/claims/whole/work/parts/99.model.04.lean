theorem d_14_21_0 : decode prog_14_method_21_code 0 = .ok (.aload_n 0, 1) := by decide +kernel
theorem d_14_21_1 : decode prog_14_method_21_code 1 = .ok (.iload_n 1, 1) := by decide +kernel
theorem d_14_21_30 : decode prog_14_method_21_code 30 = .ok (.putfield 58, 3) := by decide +kernel
theorem d_14_21_33 : decode prog_14_method_21_code 33 = .ok (.aload_n 0, 1) := by decide +kernel
theorem d_14_21_34 : decode prog_14_method_21_code 34 = .ok (.getfield 58, 3) := by decide +kernel
theorem d_14_21_37 : decode prog_14_method_21_code 37 = .ok (.ifCond .le 4, 3) := by decide +kernel
theorem d_14_21_41 : decode prog_14_method_21_code 41 = .ok (.iload_n 1, 1) := by decide +kernel
theorem d_14_21_42 : decode prog_14_method_21_code 42 = .ok (.ifCond .ne 17, 3) := by decide +kernel
theorem d_14_21_59 : decode prog_14_method_21_code 59 = .ok (.iload_n 1, 1) := by decide +kernel
theorem d_14_21_60 : decode prog_14_method_21_code 60 = .ok (.iconst 1, 1) := by decide +kernel
theorem d_14_21_61 : decode prog_14_method_21_code 61 = .ok (.if_icmp .ne 17, 3) := by decide +kernel
theorem d_14_21_78 : decode prog_14_method_21_code 78 = .ok (.aload_n 0, 1) := by decide +kernel
theorem d_14_21_79 : decode prog_14_method_21_code 79 = .ok (.getfield 19, 3) := by decide +kernel
theorem d_14_21_82 : decode prog_14_method_21_code 82 = .ok (.iload_n 2, 1) := by decide +kernel
theorem d_14_21_83 : decode prog_14_method_21_code 83 = .ok (.iload_n 3, 1) := by decide +kernel
theorem d_14_21_84 : decode prog_14_method_21_code 84 = .ok (.iload 4, 2) := by decide +kernel
theorem d_14_21_86 : decode prog_14_method_21_code 86 = .ok (.invokevirtual 197, 3) := by decide +kernel
set_option maxRecDepth 100000 in
theorem w_2764 : (Cond.code ({ cls := "NumberHouseModel$WholeRows", name := "shift", desc := "(III)V" } : MethodName) prog_19_method_38_code (9 : Nat) (none : Option ClassFile.FieldType)) ∈ q_tbl := q_of12 124 rfl (by decide +kernel)
set_option maxRecDepth 100000 in
theorem w_2761 : (Cond.methodLink "NumberHouseModel" (197 : Nat) ({ cls := "NumberHouseModel$WholeRows", name := "shift", desc := "(III)V" } : MethodName)) ∈ q_tbl := q_of12 121 rfl (by decide +kernel)
set_option maxRecDepth 100000 in
theorem w_2762 : (Cond.instanceMethod ({ cls := "NumberHouseModel$WholeRows", name := "shift", desc := "(III)V" } : MethodName)) ∈ q_tbl := q_of12 122 rfl (by decide +kernel)
set_option maxRecDepth 100000 in
theorem w_2763 : (Cond.selects "NumberHouseModel$WholeRows" ({ cls := "NumberHouseModel$WholeRows", name := "shift", desc := "(III)V" } : MethodName) ({ cls := "NumberHouseModel$WholeRows", name := "shift", desc := "(III)V" } : MethodName)) ∈ q_tbl := q_of12 123 rfl (by decide +kernel)
theorem LV_NM_197 : q_LV "NumberHouseModel" 197 y_WR_shift prog_19_method_38_code 9 none 3 := ⟨w_2764, w_15, w_2761, w_2762, w_2763, ⟨by decide, by decide, by decide +kernel⟩⟩
theorem d_14_21_89 : decode prog_14_method_21_code 89 = .ok (.aload_n 0, 1) := by decide +kernel
theorem d_14_21_90 : decode prog_14_method_21_code 90 = .ok (.aload_n 0, 1) := by decide +kernel
theorem d_14_21_91 : decode prog_14_method_21_code 91 = .ok (.getfield 19, 3) := by decide +kernel
theorem d_14_21_94 : decode prog_14_method_21_code 94 = .ok (.getfield 99, 3) := by decide +kernel
theorem d_14_21_97 : decode prog_14_method_21_code 97 = .ok (.putfield 58, 3) := by decide +kernel
theorem d_14_21_100 : decode prog_14_method_21_code 100 = .ok (.return_, 1) := by decide +kernel
theorem d_14_21_64 : decode prog_14_method_21_code 64 = .ok (.aload_n 0, 1) := by decide +kernel
theorem d_14_21_65 : decode prog_14_method_21_code 65 = .ok (.getfield 19, 3) := by decide +kernel
theorem d_14_21_68 : decode prog_14_method_21_code 68 = .ok (.iload_n 2, 1) := by decide +kernel
theorem d_14_21_69 : decode prog_14_method_21_code 69 = .ok (.iload_n 3, 1) := by decide +kernel
theorem d_14_21_70 : decode prog_14_method_21_code 70 = .ok (.iload 4, 2) := by decide +kernel
theorem d_14_21_72 : decode prog_14_method_21_code 72 = .ok (.invokevirtual 194, 3) := by decide +kernel
set_option maxRecDepth 100000 in
theorem w_2756 : (Cond.code ({ cls := "NumberHouseModel$WholeRows", name := "root", desc := "(III)V" } : MethodName) prog_19_method_31_code (5 : Nat) (none : Option ClassFile.FieldType)) ∈ q_tbl := q_of12 116 rfl (by decide +kernel)
set_option maxRecDepth 100000 in
theorem w_2753 : (Cond.methodLink "NumberHouseModel" (194 : Nat) ({ cls := "NumberHouseModel$WholeRows", name := "root", desc := "(III)V" } : MethodName)) ∈ q_tbl := q_of12 113 rfl (by decide +kernel)
set_option maxRecDepth 100000 in
theorem w_2754 : (Cond.instanceMethod ({ cls := "NumberHouseModel$WholeRows", name := "root", desc := "(III)V" } : MethodName)) ∈ q_tbl := q_of12 114 rfl (by decide +kernel)
set_option maxRecDepth 100000 in
theorem w_2755 : (Cond.selects "NumberHouseModel$WholeRows" ({ cls := "NumberHouseModel$WholeRows", name := "root", desc := "(III)V" } : MethodName) ({ cls := "NumberHouseModel$WholeRows", name := "root", desc := "(III)V" } : MethodName)) ∈ q_tbl := q_of12 115 rfl (by decide +kernel)
theorem LV_NM_194 : q_LV "NumberHouseModel" 194 y_WR_root prog_19_method_31_code 5 none 3 := ⟨w_2756, w_15, w_2753, w_2754, w_2755, ⟨by decide, by decide, by decide +kernel⟩⟩
theorem d_14_21_75 : decode prog_14_method_21_code 75 = .ok (.goto 14, 3) := by decide +kernel
theorem d_14_21_45 : decode prog_14_method_21_code 45 = .ok (.aload_n 0, 1) := by decide +kernel
theorem d_14_21_46 : decode prog_14_method_21_code 46 = .ok (.getfield 19, 3) := by decide +kernel
theorem d_14_21_49 : decode prog_14_method_21_code 49 = .ok (.iload_n 2, 1) := by decide +kernel
theorem d_14_21_50 : decode prog_14_method_21_code 50 = .ok (.iload_n 3, 1) := by decide +kernel
theorem d_14_21_51 : decode prog_14_method_21_code 51 = .ok (.iload 4, 2) := by decide +kernel
theorem d_14_21_53 : decode prog_14_method_21_code 53 = .ok (.invokevirtual 192, 3) := by decide +kernel
set_option maxRecDepth 100000 in
theorem w_2752 : (Cond.code ({ cls := "NumberHouseModel$WholeRows", name := "power", desc := "(III)V" } : MethodName) prog_19_method_29_code (7 : Nat) (none : Option ClassFile.FieldType)) ∈ q_tbl := q_of12 112 rfl (by decide +kernel)
set_option maxRecDepth 100000 in
theorem w_2749 : (Cond.methodLink "NumberHouseModel" (192 : Nat) ({ cls := "NumberHouseModel$WholeRows", name := "power", desc := "(III)V" } : MethodName)) ∈ q_tbl := q_of12 109 rfl (by decide +kernel)
set_option maxRecDepth 100000 in
theorem w_2750 : (Cond.instanceMethod ({ cls := "NumberHouseModel$WholeRows", name := "power", desc := "(III)V" } : MethodName)) ∈ q_tbl := q_of12 110 rfl (by decide +kernel)
set_option maxRecDepth 100000 in
theorem w_2751 : (Cond.selects "NumberHouseModel$WholeRows" ({ cls := "NumberHouseModel$WholeRows", name := "power", desc := "(III)V" } : MethodName) ({ cls := "NumberHouseModel$WholeRows", name := "power", desc := "(III)V" } : MethodName)) ∈ q_tbl := q_of12 111 rfl (by decide +kernel)
theorem LV_NM_192 : q_LV "NumberHouseModel" 192 y_WR_power prog_19_method_29_code 7 none 3 := ⟨w_2752, w_15, w_2749, w_2750, w_2751, ⟨by decide, by decide, by decide +kernel⟩⟩
theorem d_14_21_56 : decode prog_14_method_21_code 56 = .ok (.goto 33, 3) := by decide +kernel
theorem d_14_21_40 : decode prog_14_method_21_code 40 = .ok (.return_, 1) := by decide +kernel
theorem d_14_21_25 : decode prog_14_method_21_code 25 = .ok (.iconst 1, 1) := by decide +kernel
theorem d_14_21_26 : decode prog_14_method_21_code 26 = .ok (.goto 4, 3) := by decide +kernel
theorem d_14_21_2 : decode prog_14_method_21_code 2 = .ok (.ifCond .lt 23, 3) := by decide +kernel
theorem d_14_21_5 : decode prog_14_method_21_code 5 = .ok (.iload_n 1, 1) := by decide +kernel
theorem d_14_21_6 : decode prog_14_method_21_code 6 = .ok (.iconst 2, 1) := by decide +kernel
theorem d_14_21_7 : decode prog_14_method_21_code 7 = .ok (.if_icmp .gt 18, 3) := by decide +kernel
theorem d_14_21_10 : decode prog_14_method_21_code 10 = .ok (.iload_n 2, 1) := by decide +kernel
theorem d_14_21_11 : decode prog_14_method_21_code 11 = .ok (.invokestatic 70, 3) := by decide +kernel
theorem d_14_21_14 : decode prog_14_method_21_code 14 = .ok (.ifCond .ne 11, 3) := by decide +kernel
theorem d_14_21_17 : decode prog_14_method_21_code 17 = .ok (.iload 4, 2) := by decide +kernel
theorem d_14_21_19 : decode prog_14_method_21_code 19 = .ok (.invokestatic 70, 3) := by decide +kernel
theorem d_14_21_22 : decode prog_14_method_21_code 22 = .ok (.ifCond .eq 7, 3) := by decide +kernel
theorem d_14_21_29 : decode prog_14_method_21_code 29 = .ok (.iconst 0, 1) := by decide +kernel
def y_NM_wholeBy : MethodName := ⟨"NumberHouseModel", "wholeBy", "(IIII)V"⟩
def F_NM_wholeBy_c86 (x2 : Int32) (x3 : Int32) (x4 : Int32) (x5 : Int32) (t0_0 : Int32) (t0_1 : Int32) (t0_2 : Int32) (t1_0 : Int32) (t1_1 : Int32) (t1_2 : Int32) (t1_3 : Int32) (t1_4 : Int32) (t1_5 : Int32) (t1_6 : Int32) (t2_0 : (Nat → Int32)) (t3_0 : (Nat → Int32)) (t4_0 : (Nat → Int32)) (t5_0 : (Nat → Int32)) (t6_0 : (Nat → Int32)) (t7_0 : (Nat → Int32)) (lx38 : Int32) (p96 : (Int32 × Int32 × Int32 × Int32 × Int32 × Int32 × Int32 × (Nat → Int32) × (Nat → Int32) × (Nat → Int32) × (Nat → Int32) × (Nat → Int32))) : Int32 × Int32 × Int32 × Int32 × Int32 × Int32 × Int32 × Int32 × Int32 × Int32 × (Nat → Int32) × (Nat → Int32) × (Nat → Int32) × (Nat → Int32) × (Nat → Int32) × (Nat → Int32) := ((p96.1 : Int32), t0_1, t0_2, (p96.1 : Int32), (p96.2.1 : Int32), (p96.2.2.1 : Int32), (p96.2.2.2.1 : Int32), (p96.2.2.2.2.1 : Int32), (p96.2.2.2.2.2.1 : Int32), (p96.2.2.2.2.2.2.1 : Int32), (p96.2.2.2.2.2.2.2.1 : (Nat → Int32)), (p96.2.2.2.2.2.2.2.2.1 : (Nat → Int32)), (p96.2.2.2.2.2.2.2.2.2.1 : (Nat → Int32)), (p96.2.2.2.2.2.2.2.2.2.2.1 : (Nat → Int32)), t6_0, (p96.2.2.2.2.2.2.2.2.2.2.2 : (Nat → Int32)))
def F_NM_wholeBy_c72 (x2 : Int32) (x3 : Int32) (x4 : Int32) (x5 : Int32) (t0_0 : Int32) (t0_1 : Int32) (t0_2 : Int32) (t1_0 : Int32) (t1_1 : Int32) (t1_2 : Int32) (t1_3 : Int32) (t1_4 : Int32) (t1_5 : Int32) (t1_6 : Int32) (t2_0 : (Nat → Int32)) (t3_0 : (Nat → Int32)) (t4_0 : (Nat → Int32)) (t5_0 : (Nat → Int32)) (t6_0 : (Nat → Int32)) (t7_0 : (Nat → Int32)) (lx38 : Int32) (p153 : (Int32 × Int32 × Int32 × Int32 × Int32 × Int32 × Int32 × (Nat → Int32) × (Nat → Int32) × (Nat → Int32) × (Nat → Int32) × (Nat → Int32) × (Nat → Int32))) : Int32 × Int32 × Int32 × Int32 × Int32 × Int32 × Int32 × Int32 × Int32 × Int32 × (Nat → Int32) × (Nat → Int32) × (Nat → Int32) × (Nat → Int32) × (Nat → Int32) × (Nat → Int32) := ((p153.1 : Int32), t0_1, t0_2, (p153.1 : Int32), (p153.2.1 : Int32), (p153.2.2.1 : Int32), (p153.2.2.2.1 : Int32), (p153.2.2.2.2.1 : Int32), (p153.2.2.2.2.2.1 : Int32), (p153.2.2.2.2.2.2.1 : Int32), (p153.2.2.2.2.2.2.2.1 : (Nat → Int32)), (p153.2.2.2.2.2.2.2.2.1 : (Nat → Int32)), (p153.2.2.2.2.2.2.2.2.2.1 : (Nat → Int32)), (p153.2.2.2.2.2.2.2.2.2.2.1 : (Nat → Int32)), (p153.2.2.2.2.2.2.2.2.2.2.2.1 : (Nat → Int32)), (p153.2.2.2.2.2.2.2.2.2.2.2.2 : (Nat → Int32)))
def F_NM_wholeBy_c53 (x2 : Int32) (x3 : Int32) (x4 : Int32) (x5 : Int32) (t0_0 : Int32) (t0_1 : Int32) (t0_2 : Int32) (t1_0 : Int32) (t1_1 : Int32) (t1_2 : Int32) (t1_3 : Int32) (t1_4 : Int32) (t1_5 : Int32) (t1_6 : Int32) (t2_0 : (Nat → Int32)) (t3_0 : (Nat → Int32)) (t4_0 : (Nat → Int32)) (t5_0 : (Nat → Int32)) (t6_0 : (Nat → Int32)) (t7_0 : (Nat → Int32)) (lx38 : Int32) (p209 : (Int32 × Int32 × Int32 × Int32 × Int32 × Int32 × Int32 × (Nat → Int32) × (Nat → Int32) × (Nat → Int32) × (Nat → Int32) × (Nat → Int32))) : Int32 × Int32 × Int32 × Int32 × Int32 × Int32 × Int32 × Int32 × Int32 × Int32 × (Nat → Int32) × (Nat → Int32) × (Nat → Int32) × (Nat → Int32) × (Nat → Int32) × (Nat → Int32) := ((p209.1 : Int32), t0_1, t0_2, (p209.1 : Int32), (p209.2.1 : Int32), (p209.2.2.1 : Int32), (p209.2.2.2.1 : Int32), (p209.2.2.2.2.1 : Int32), (p209.2.2.2.2.2.1 : Int32), (p209.2.2.2.2.2.2.1 : Int32), (p209.2.2.2.2.2.2.2.1 : (Nat → Int32)), (p209.2.2.2.2.2.2.2.2.1 : (Nat → Int32)), (p209.2.2.2.2.2.2.2.2.2.1 : (Nat → Int32)), t5_0, (p209.2.2.2.2.2.2.2.2.2.2.1 : (Nat → Int32)), (p209.2.2.2.2.2.2.2.2.2.2.2 : (Nat → Int32)))
def F_NM_wholeBy_J30 (x2 : Int32) (x3 : Int32) (x4 : Int32) (x5 : Int32) (t0_0 : Int32) (t0_1 : Int32) (t0_2 : Int32) (t1_0 : Int32) (t1_1 : Int32) (t1_2 : Int32) (t1_3 : Int32) (t1_4 : Int32) (t1_5 : Int32) (t1_6 : Int32) (t2_0 : (Nat → Int32)) (t3_0 : (Nat → Int32)) (t4_0 : (Nat → Int32)) (t5_0 : (Nat → Int32)) (t6_0 : (Nat → Int32)) (t7_0 : (Nat → Int32)) (lx38 : Int32) : Int32 × Int32 × Int32 × Int32 × Int32 × Int32 × Int32 × Int32 × Int32 × Int32 × (Nat → Int32) × (Nat → Int32) × (Nat → Int32) × (Nat → Int32) × (Nat → Int32) × (Nat → Int32) := if lx38 ≤ (0 : Int32) then (if x2 = (0 : Int32) then (F_NM_wholeBy_c53 x2 x3 x4 x5 t0_0 t0_1 t0_2 t1_0 t1_1 t1_2 t1_3 t1_4 t1_5 t1_6 t2_0 t3_0 t4_0 t5_0 t6_0 t7_0 lx38 ((F_WR_power x3 x4 x5 t1_0 t1_1 t1_2 t1_3 t1_4 t1_5 t1_6 t2_0 t3_0 t4_0 t6_0 t7_0) : (Int32 × Int32 × Int32 × Int32 × Int32 × Int32 × Int32 × (Nat → Int32) × (Nat → Int32) × (Nat → Int32) × (Nat → Int32) × (Nat → Int32)))) else (if x2 = (1 : Int32) then (F_NM_wholeBy_c72 x2 x3 x4 x5 t0_0 t0_1 t0_2 t1_0 t1_1 t1_2 t1_3 t1_4 t1_5 t1_6 t2_0 t3_0 t4_0 t5_0 t6_0 t7_0 lx38 ((F_WR_root x3 x4 x5 t1_0 t1_1 t1_2 t1_3 t1_4 t1_5 t1_6 t2_0 t3_0 t4_0 t5_0 t6_0 t7_0) : (Int32 × Int32 × Int32 × Int32 × Int32 × Int32 × Int32 × (Nat → Int32) × (Nat → Int32) × (Nat → Int32) × (Nat → Int32) × (Nat → Int32) × (Nat → Int32)))) else (F_NM_wholeBy_c86 x2 x3 x4 x5 t0_0 t0_1 t0_2 t1_0 t1_1 t1_2 t1_3 t1_4 t1_5 t1_6 t2_0 t3_0 t4_0 t5_0 t6_0 t7_0 lx38 ((F_WR_shift x3 x4 x5 t1_0 t1_1 t1_2 t1_3 t1_4 t1_5 t1_6 t2_0 t3_0 t4_0 t5_0 t7_0) : (Int32 × Int32 × Int32 × Int32 × Int32 × Int32 × Int32 × (Nat → Int32) × (Nat → Int32) × (Nat → Int32) × (Nat → Int32) × (Nat → Int32)))))) else ((lx38, t0_1, t0_2, t1_0, t1_1, t1_2, t1_3, t1_4, t1_5, t1_6, t2_0, t3_0, t4_0, t5_0, t6_0, t7_0))
def F_NM_wholeBy_J25 (x2 : Int32) (x3 : Int32) (x4 : Int32) (x5 : Int32) (t0_0 : Int32) (t0_1 : Int32) (t0_2 : Int32) (t1_0 : Int32) (t1_1 : Int32) (t1_2 : Int32) (t1_3 : Int32) (t1_4 : Int32) (t1_5 : Int32) (t1_6 : Int32) (t2_0 : (Nat → Int32)) (t3_0 : (Nat → Int32)) (t4_0 : (Nat → Int32)) (t5_0 : (Nat → Int32)) (t6_0 : (Nat → Int32)) (t7_0 : (Nat → Int32)) : Int32 × Int32 × Int32 × Int32 × Int32 × Int32 × Int32 × Int32 × Int32 × Int32 × (Nat → Int32) × (Nat → Int32) × (Nat → Int32) × (Nat → Int32) × (Nat → Int32) × (Nat → Int32) := F_NM_wholeBy_J30 x2 x3 x4 x5 t0_0 t0_1 t0_2 t1_0 t1_1 t1_2 t1_3 t1_4 t1_5 t1_6 t2_0 t3_0 t4_0 t5_0 t6_0 t7_0 1
def F_NM_wholeBy (x2 : Int32) (x3 : Int32) (x4 : Int32) (x5 : Int32) (t0_0 : Int32) (t0_1 : Int32) (t0_2 : Int32) (t1_0 : Int32) (t1_1 : Int32) (t1_2 : Int32) (t1_3 : Int32) (t1_4 : Int32) (t1_5 : Int32) (t1_6 : Int32) (t2_0 : (Nat → Int32)) (t3_0 : (Nat → Int32)) (t4_0 : (Nat → Int32)) (t5_0 : (Nat → Int32)) (t6_0 : (Nat → Int32)) (t7_0 : (Nat → Int32)) : Int32 × Int32 × Int32 × Int32 × Int32 × Int32 × Int32 × Int32 × Int32 × Int32 × (Nat → Int32) × (Nat → Int32) × (Nat → Int32) × (Nat → Int32) × (Nat → Int32) × (Nat → Int32) := if x2 < (0 : Int32) then (F_NM_wholeBy_J25 x2 x3 x4 x5 t0_0 t0_1 t0_2 t1_0 t1_1 t1_2 t1_3 t1_4 t1_5 t1_6 t2_0 t3_0 t4_0 t5_0 t6_0 t7_0) else (if (2 : Int32) < x2 then (F_NM_wholeBy_J25 x2 x3 x4 x5 t0_0 t0_1 t0_2 t1_0 t1_1 t1_2 t1_3 t1_4 t1_5 t1_6 t2_0 t3_0 t4_0 t5_0 t6_0 t7_0) else (if ((F_NM_no_IZ x3) : Int32) = (0 : Int32) then (if ((F_NM_no_IZ x5) : Int32) = (0 : Int32) then (F_NM_wholeBy_J30 x2 x3 x4 x5 t0_0 t0_1 t0_2 t1_0 t1_1 t1_2 t1_3 t1_4 t1_5 t1_6 t2_0 t3_0 t4_0 t5_0 t6_0 t7_0 0) else (F_NM_wholeBy_J25 x2 x3 x4 x5 t0_0 t0_1 t0_2 t1_0 t1_1 t1_2 t1_3 t1_4 t1_5 t1_6 t2_0 t3_0 t4_0 t5_0 t6_0 t7_0)) else (F_NM_wholeBy_J25 x2 x3 x4 x5 t0_0 t0_1 t0_2 t1_0 t1_1 t1_2 t1_3 t1_4 t1_5 t1_6 t2_0 t3_0 t4_0 t5_0 t6_0 t7_0)))
def S_NM_wholeBy_c86 (x2 : Int32) (x3 : Int32) (x4 : Int32) (x5 : Int32) (t0_0 : Int32) (t0_1 : Int32) (t0_2 : Int32) (t1_0 : Int32) (t1_1 : Int32) (t1_2 : Int32) (t1_3 : Int32) (t1_4 : Int32) (t1_5 : Int32) (t1_6 : Int32) (t2_0 : (Nat → Int32)) (t3_0 : (Nat → Int32)) (t4_0 : (Nat → Int32)) (t5_0 : (Nat → Int32)) (t6_0 : (Nat → Int32)) (t7_0 : (Nat → Int32)) (lx38 : Int32) (p96 : (Int32 × Int32 × Int32 × Int32 × Int32 × Int32 × Int32 × (Nat → Int32) × (Nat → Int32) × (Nat → Int32) × (Nat → Int32) × (Nat → Int32))) : Prop := True
def S_NM_wholeBy_c72 (x2 : Int32) (x3 : Int32) (x4 : Int32) (x5 : Int32) (t0_0 : Int32) (t0_1 : Int32) (t0_2 : Int32) (t1_0 : Int32) (t1_1 : Int32) (t1_2 : Int32) (t1_3 : Int32) (t1_4 : Int32) (t1_5 : Int32) (t1_6 : Int32) (t2_0 : (Nat → Int32)) (t3_0 : (Nat → Int32)) (t4_0 : (Nat → Int32)) (t5_0 : (Nat → Int32)) (t6_0 : (Nat → Int32)) (t7_0 : (Nat → Int32)) (lx38 : Int32) (p153 : (Int32 × Int32 × Int32 × Int32 × Int32 × Int32 × Int32 × (Nat → Int32) × (Nat → Int32) × (Nat → Int32) × (Nat → Int32) × (Nat → Int32) × (Nat → Int32))) : Prop := True
def S_NM_wholeBy_c53 (x2 : Int32) (x3 : Int32) (x4 : Int32) (x5 : Int32) (t0_0 : Int32) (t0_1 : Int32) (t0_2 : Int32) (t1_0 : Int32) (t1_1 : Int32) (t1_2 : Int32) (t1_3 : Int32) (t1_4 : Int32) (t1_5 : Int32) (t1_6 : Int32) (t2_0 : (Nat → Int32)) (t3_0 : (Nat → Int32)) (t4_0 : (Nat → Int32)) (t5_0 : (Nat → Int32)) (t6_0 : (Nat → Int32)) (t7_0 : (Nat → Int32)) (lx38 : Int32) (p209 : (Int32 × Int32 × Int32 × Int32 × Int32 × Int32 × Int32 × (Nat → Int32) × (Nat → Int32) × (Nat → Int32) × (Nat → Int32) × (Nat → Int32))) : Prop := True
def S_NM_wholeBy_J30 (x2 : Int32) (x3 : Int32) (x4 : Int32) (x5 : Int32) (t0_0 : Int32) (t0_1 : Int32) (t0_2 : Int32) (t1_0 : Int32) (t1_1 : Int32) (t1_2 : Int32) (t1_3 : Int32) (t1_4 : Int32) (t1_5 : Int32) (t1_6 : Int32) (t2_0 : (Nat → Int32)) (t3_0 : (Nat → Int32)) (t4_0 : (Nat → Int32)) (t5_0 : (Nat → Int32)) (t6_0 : (Nat → Int32)) (t7_0 : (Nat → Int32)) (lx38 : Int32) : Prop := if lx38 ≤ (0 : Int32) then (if x2 = (0 : Int32) then ((True ∧ S_WR_power x3 x4 x5 t1_0 t1_1 t1_2 t1_3 t1_4 t1_5 t1_6 t2_0 t3_0 t4_0 t6_0 t7_0) ∧ (S_NM_wholeBy_c53 x2 x3 x4 x5 t0_0 t0_1 t0_2 t1_0 t1_1 t1_2 t1_3 t1_4 t1_5 t1_6 t2_0 t3_0 t4_0 t5_0 t6_0 t7_0 lx38 ((F_WR_power x3 x4 x5 t1_0 t1_1 t1_2 t1_3 t1_4 t1_5 t1_6 t2_0 t3_0 t4_0 t6_0 t7_0) : (Int32 × Int32 × Int32 × Int32 × Int32 × Int32 × Int32 × (Nat → Int32) × (Nat → Int32) × (Nat → Int32) × (Nat → Int32) × (Nat → Int32))))) else (if x2 = (1 : Int32) then ((True ∧ S_WR_root x3 x4 x5 t1_0 t1_1 t1_2 t1_3 t1_4 t1_5 t1_6 t2_0 t3_0 t4_0 t5_0 t6_0 t7_0) ∧ (S_NM_wholeBy_c72 x2 x3 x4 x5 t0_0 t0_1 t0_2 t1_0 t1_1 t1_2 t1_3 t1_4 t1_5 t1_6 t2_0 t3_0 t4_0 t5_0 t6_0 t7_0 lx38 ((F_WR_root x3 x4 x5 t1_0 t1_1 t1_2 t1_3 t1_4 t1_5 t1_6 t2_0 t3_0 t4_0 t5_0 t6_0 t7_0) : (Int32 × Int32 × Int32 × Int32 × Int32 × Int32 × Int32 × (Nat → Int32) × (Nat → Int32) × (Nat → Int32) × (Nat → Int32) × (Nat → Int32) × (Nat → Int32))))) else ((True ∧ S_WR_shift x3 x4 x5 t1_0 t1_1 t1_2 t1_3 t1_4 t1_5 t1_6 t2_0 t3_0 t4_0 t5_0 t7_0) ∧ (S_NM_wholeBy_c86 x2 x3 x4 x5 t0_0 t0_1 t0_2 t1_0 t1_1 t1_2 t1_3 t1_4 t1_5 t1_6 t2_0 t3_0 t4_0 t5_0 t6_0 t7_0 lx38 ((F_WR_shift x3 x4 x5 t1_0 t1_1 t1_2 t1_3 t1_4 t1_5 t1_6 t2_0 t3_0 t4_0 t5_0 t7_0) : (Int32 × Int32 × Int32 × Int32 × Int32 × Int32 × Int32 × (Nat → Int32) × (Nat → Int32) × (Nat → Int32) × (Nat → Int32) × (Nat → Int32))))))) else (True)
def S_NM_wholeBy_J25 (x2 : Int32) (x3 : Int32) (x4 : Int32) (x5 : Int32) (t0_0 : Int32) (t0_1 : Int32) (t0_2 : Int32) (t1_0 : Int32) (t1_1 : Int32) (t1_2 : Int32) (t1_3 : Int32) (t1_4 : Int32) (t1_5 : Int32) (t1_6 : Int32) (t2_0 : (Nat → Int32)) (t3_0 : (Nat → Int32)) (t4_0 : (Nat → Int32)) (t5_0 : (Nat → Int32)) (t6_0 : (Nat → Int32)) (t7_0 : (Nat → Int32)) : Prop := S_NM_wholeBy_J30 x2 x3 x4 x5 t0_0 t0_1 t0_2 t1_0 t1_1 t1_2 t1_3 t1_4 t1_5 t1_6 t2_0 t3_0 t4_0 t5_0 t6_0 t7_0 1
def S_NM_wholeBy (x2 : Int32) (x3 : Int32) (x4 : Int32) (x5 : Int32) (t0_0 : Int32) (t0_1 : Int32) (t0_2 : Int32) (t1_0 : Int32) (t1_1 : Int32) (t1_2 : Int32) (t1_3 : Int32) (t1_4 : Int32) (t1_5 : Int32) (t1_6 : Int32) (t2_0 : (Nat → Int32)) (t3_0 : (Nat → Int32)) (t4_0 : (Nat → Int32)) (t5_0 : (Nat → Int32)) (t6_0 : (Nat → Int32)) (t7_0 : (Nat → Int32)) : Prop := if x2 < (0 : Int32) then (S_NM_wholeBy_J25 x2 x3 x4 x5 t0_0 t0_1 t0_2 t1_0 t1_1 t1_2 t1_3 t1_4 t1_5 t1_6 t2_0 t3_0 t4_0 t5_0 t6_0 t7_0) else (if (2 : Int32) < x2 then (S_NM_wholeBy_J25 x2 x3 x4 x5 t0_0 t0_1 t0_2 t1_0 t1_1 t1_2 t1_3 t1_4 t1_5 t1_6 t2_0 t3_0 t4_0 t5_0 t6_0 t7_0) else (if ((F_NM_no_IZ x3) : Int32) = (0 : Int32) then (if ((F_NM_no_IZ x5) : Int32) = (0 : Int32) then (S_NM_wholeBy_J30 x2 x3 x4 x5 t0_0 t0_1 t0_2 t1_0 t1_1 t1_2 t1_3 t1_4 t1_5 t1_6 t2_0 t3_0 t4_0 t5_0 t6_0 t7_0 0) else (S_NM_wholeBy_J25 x2 x3 x4 x5 t0_0 t0_1 t0_2 t1_0 t1_1 t1_2 t1_3 t1_4 t1_5 t1_6 t2_0 t3_0 t4_0 t5_0 t6_0 t7_0)) else (S_NM_wholeBy_J25 x2 x3 x4 x5 t0_0 t0_1 t0_2 t1_0 t1_1 t1_2 t1_3 t1_4 t1_5 t1_6 t2_0 t3_0 t4_0 t5_0 t6_0 t7_0)))
set_option maxRecDepth 100000 in
set_option maxHeartbeats 4000000 in
theorem X_NM_wholeBy (l : Launch) (D : va_G) (g : Nat → ClassId) (q : Nat → Nat) (ws : va_W) (x2 : Int32) (x3 : Int32) (x4 : Int32) (x5 : Int32) (hI : q_I (msh g q) q ws) (t0_0 : Int32) (t0_1 : Int32) (t0_2 : Int32) (hT0 : ws[116]? = (some (q 116, .inr (12, [.int t0_0, .ref (q 117), .int t0_1, .ref (q 118), .int t0_2, .ref (q 119), .ref (q 134), .ref (q 145), .ref (q 153), .ref (q 157), .ref (q 167), .ref (q 168)])) : Option (Nat × va_E))) (t1_0 : Int32) (t1_1 : Int32) (t1_2 : Int32) (t1_3 : Int32) (t1_4 : Int32) (t1_5 : Int32) (t1_6 : Int32) (hT1 : ws[119]? = (some (q 119, .inr (13, [.int t1_0, .int t1_1, .ref (q 120), .int t1_2, .ref (q 121), .ref (q 122), .ref (q 123), .int t1_3, .ref (q 124), .ref (q 125), .ref (q 126), .ref (q 127), .ref (q 128), .ref (q 129), .ref (q 130), .ref (q 131), .int t1_4, .int t1_5, .ref (q 132), .ref (q 133), .int t1_6])) : Option (Nat × va_E))) (t2_0 : (Nat → Int32)) (hT2 : ws[121]? = (some (q 121, .inl (g 0, (1408 : Int32).toNatClampNeg, .inl t2_0)) : Option (Nat × va_E))) (t3_0 : (Nat → Int32)) (hT3 : ws[122]? = (some (q 122, .inl (g 3, 11, .inl t3_0)) : Option (Nat × va_E))) (t4_0 : (Nat → Int32)) (hT4 : ws[123]? = (some (q 123, .inl (g 0, (264 : Int32).toNatClampNeg, .inl t4_0)) : Option (Nat × va_E))) (t5_0 : (Nat → Int32)) (hT5 : ws[124]? = (some (q 124, .inl (g 0, (264 : Int32).toNatClampNeg, .inl t5_0)) : Option (Nat × va_E))) (t6_0 : (Nat → Int32)) (hT6 : ws[125]? = (some (q 125, .inl (g 0, (528 : Int32).toNatClampNeg, .inl t6_0)) : Option (Nat × va_E))) (t7_0 : (Nat → Int32)) (hT7 : ws[128]? = (some (q 128, .inl (g 0, (264 : Int32).toNatClampNeg, .inl t7_0)) : Option (Nat × va_E))) (hS : True ∧ S_NM_wholeBy x2 x3 x4 x5 t0_0 t0_1 t0_2 t1_0 t1_1 t1_2 t1_3 t1_4 t1_5 t1_6 t2_0 t3_0 t4_0 t5_0 t6_0 t7_0) : q_mV l y_NM_wholeBy prog_14_method_21_code 5 5 0 0 D g [.ref (q 116), .int x2, .int x3, .int x4, .int x5] ws (fun u => q_I (msh g q) q u ∧ q_un ws u [116, 119, 121, 122, 123, 124, 125, 128] ∧ ∃ (u0_0 : Int32) (u0_1 : Int32) (u0_2 : Int32) (u1_0 : Int32) (u1_1 : Int32) (u1_2 : Int32) (u1_3 : Int32) (u1_4 : Int32) (u1_5 : Int32) (u1_6 : Int32) (u2_0 : (Nat → Int32)) (u3_0 : (Nat → Int32)) (u4_0 : (Nat → Int32)) (u5_0 : (Nat → Int32)) (u6_0 : (Nat → Int32)) (u7_0 : (Nat → Int32)), u[116]? = (some (q 116, .inr (12, [.int u0_0, .ref (q 117), .int u0_1, .ref (q 118), .int u0_2, .ref (q 119), .ref (q 134), .ref (q 145), .ref (q 153), .ref (q 157), .ref (q 167), .ref (q 168)])) : Option (Nat × va_E)) ∧ u[119]? = (some (q 119, .inr (13, [.int u1_0, .int u1_1, .ref (q 120), .int u1_2, .ref (q 121), .ref (q 122), .ref (q 123), .int u1_3, .ref (q 124), .ref (q 125), .ref (q 126), .ref (q 127), .ref (q 128), .ref (q 129), .ref (q 130), .ref (q 131), .int u1_4, .int u1_5, .ref (q 132), .ref (q 133), .int u1_6])) : Option (Nat × va_E)) ∧ u[121]? = (some (q 121, .inl (g 0, (1408 : Int32).toNatClampNeg, .inl u2_0)) : Option (Nat × va_E)) ∧ u[122]? = (some (q 122, .inl (g 3, 11, .inl u3_0)) : Option (Nat × va_E)) ∧ u[123]? = (some (q 123, .inl (g 0, (264 : Int32).toNatClampNeg, .inl u4_0)) : Option (Nat × va_E)) ∧ u[124]? = (some (q 124, .inl (g 0, (264 : Int32).toNatClampNeg, .inl u5_0)) : Option (Nat × va_E)) ∧ u[125]? = (some (q 125, .inl (g 0, (528 : Int32).toNatClampNeg, .inl u6_0)) : Option (Nat × va_E)) ∧ u[128]? = (some (q 128, .inl (g 0, (264 : Int32).toNatClampNeg, .inl u7_0)) : Option (Nat × va_E)) ∧ (0 ≤ u1_3.toInt) ∧ (u1_3.toInt ≤ 1) ∧ (t0_1.toInt ≤ u0_1.toInt) ∧ (u0_1.toInt ≤ t0_1.toInt) ∧ (t0_2.toInt ≤ u0_2.toInt) ∧ (u0_2.toInt ≤ t0_2.toInt) ∧ (t1_2.toInt ≤ u1_2.toInt) ∧ (u1_2.toInt ≤ t1_2.toInt) ∧ (t1_4.toInt ≤ u1_4.toInt) ∧ (u1_4.toInt ≤ t1_4.toInt) ∧ (t1_5.toInt ≤ u1_5.toInt) ∧ (u1_5.toInt ≤ t1_5.toInt) ∧ (t1_6.toInt ≤ u1_6.toInt) ∧ (u1_6.toInt ≤ t1_6.toInt) ∧ (u0_0, u0_1, u0_2, u1_0, u1_1, u1_2, u1_3, u1_4, u1_5, u1_6, u2_0, u3_0, u4_0, u5_0, u6_0, u7_0) = (F_NM_wholeBy x2 x3 x4 x5 t0_0 t0_1 t0_2 t1_0 t1_1 t1_2 t1_3 t1_4 t1_5 t1_6 t2_0 t3_0 t4_0 t5_0 t6_0 t7_0)) := by
  intro sz
  refine q_into (by decide) (Nat.le_of_ble_eq_true rfl) ?_
  intro p e s m below meth c ls hsz C0 V hl
  have hx := C0.1
  have hb := C0.2.1
  obtain ⟨yy0_0, yy0_1, yy0_2, hh0, btt0_1, btt0_2⟩ := n_o116 hI
  obtain ⟨rfl, rfl, rfl⟩ : t0_0 = yy0_0 ∧ t0_1 = yy0_1 ∧ t0_2 = yy0_2 := by have z := Option.some.inj (hT0.symm.trans hh0); simpa using z
  replace btt0_1 : q_F (0 ≤ t0_1.toInt ∧ t0_1.toInt ≤ 4100) := btt0_1
  replace btt0_2 : q_F (0 ≤ t0_2.toInt ∧ t0_2.toInt ≤ 12200) := btt0_2
  obtain ⟨yy1_0, yy1_1, yy1_2, yy1_3, yy1_4, yy1_5, yy1_6, hh1, btt1_2, btt1_3, btt1_4, btt1_5, btt1_6⟩ := n_o119 hI
  obtain ⟨rfl, rfl, rfl, rfl, rfl, rfl, rfl⟩ : t1_0 = yy1_0 ∧ t1_1 = yy1_1 ∧ t1_2 = yy1_2 ∧ t1_3 = yy1_3 ∧ t1_4 = yy1_4 ∧ t1_5 = yy1_5 ∧ t1_6 = yy1_6 := by have z := Option.some.inj (hT1.symm.trans hh1); simpa using z
  replace btt1_2 : q_F (0 ≤ t1_2.toInt ∧ t1_2.toInt ≤ 4100) := btt1_2
  replace btt1_3 : q_F (0 ≤ t1_3.toInt ∧ t1_3.toInt ≤ 1) := btt1_3
  replace btt1_4 : q_F (0 ≤ t1_4.toInt ∧ t1_4.toInt ≤ 1) := btt1_4
  replace btt1_5 : q_F (0 ≤ t1_5.toInt ∧ t1_5.toInt ≤ 1) := btt1_5
  replace btt1_6 : q_F (0 ≤ t1_6.toInt ∧ t1_6.toInt ≤ 2100) := btt1_6
  have hF : q_un ws ws [116, 119, 121, 122, 123, 124, 125, 128] := q_u0
  have hl : lv_has ls 5 [(0, .ref (q 116)), (1, .int x2), (2, .int x3), (3, .int x4), (4, .int x5)] := hl
  refine lv_aload_n hx hb d_14_21_0 rfl (lv_at hl 0 rfl) ?_
  refine lv_iload_n hx hb d_14_21_1 rfl (lv_at hl 1 rfl) ?_
  refine q_join (X := Int32) (fun z H locs ls _ => q_F (0 ≤ z.toInt) ∧ q_F (z.toInt ≤ 1) ∧ q_Wd D g (va_A ws sz) s ws H locs ∧ lv_has ls 5 [(0, .ref (q 116)), (1, .int x2), (2, .int x3), (3, .int x4), (4, .int x5)] ∧ F_NM_wholeBy_J30 x2 x3 x4 x5 t0_0 t0_1 t0_2 t1_0 t1_1 t1_2 t1_3 t1_4 t1_5 t1_6 t2_0 t3_0 t4_0 t5_0 t6_0 t7_0 z = (F_NM_wholeBy x2 x3 x4 x5 t0_0 t0_1 t0_2 t1_0 t1_1 t1_2 t1_3 t1_4 t1_5 t1_6 t2_0 t3_0 t4_0 t5_0 t6_0 t7_0) ∧ True ∧ S_NM_wholeBy_J30 x2 x3 x4 x5 t0_0 t0_1 t0_2 t1_0 t1_1 t1_2 t1_3 t1_4 t1_5 t1_6 t2_0 t3_0 t4_0 t5_0 t6_0 t7_0 z) (fun z => [.int z, .ref (q 116)]) 30 0 0 ?_ ?_
  ·
    rintro lx38 H locs ls _ ⟨i48, i49, V, hl, hR50, hS51⟩
    replace i48 : q_F (0 ≤ lx38.toInt) := i48
    replace i49 : q_F (lx38.toInt ≤ 1) := i49
    replace hl : lv_has ls 5 [(0, .ref (q 116)), (1, .int x2), (2, .int x3), (3, .int x4), (4, .int x5)] := hl
    refine q_put (ci := 12) (j := 0) (v := .int lx38) (ty := .int) C0 V i_NM o_NM n_NM rfl rfl hT0 (by decide) w_2298 rfl rfl rfl rfl (Nat.le_of_ble_eq_true rfl) d_14_21_30 (fun H locs w55 hu56 hT0 V => ?_)
    replace hT0 : w55[116]? = (some (q 116, .inr (12, [.int lx38, .ref (q 117), .int t0_1, .ref (q 118), .int t0_2, .ref (q 119), .ref (q 134), .ref (q 145), .ref (q 153), .ref (q 157), .ref (q 167), .ref (q 168)])) : Option (Nat × va_E)) := hT0
    replace hI := n_p116 hI hu56 hT0 ⟨(by have t1 : 0 ≤ t0_1.toInt ∧ t0_1.toInt ≤ 4100 := btt0_1; omega), (by have t1 : 0 ≤ t0_1.toInt ∧ t0_1.toInt ≤ 4100 := btt0_1; omega)⟩ ⟨(by have t1 : 0 ≤ t0_2.toInt ∧ t0_2.toInt ≤ 12200 := btt0_2; omega), (by have t1 : 0 ≤ t0_2.toInt ∧ t0_2.toInt ≤ 12200 := btt0_2; omega)⟩
    replace hT1 := (hu56 _ (by decide)).trans hT1
    replace hT2 := (hu56 _ (by decide)).trans hT2
    replace hT3 := (hu56 _ (by decide)).trans hT3
    replace hT4 := (hu56 _ (by decide)).trans hT4
    replace hT5 := (hu56 _ (by decide)).trans hT5
    replace hT6 := (hu56 _ (by decide)).trans hT6
    replace hT7 := (hu56 _ (by decide)).trans hT7
    replace hF := q_us hF hu56 (by simp)
    refine lv_aload_n hx hb d_14_21_33 rfl (lv_at hl 0 rfl) ?_
    refine q_get (ci := 12) (j := 0) (v := .int lx38) C0 V i_NM rfl rfl hT0 (by decide) w_2298 rfl d_14_21_34 ?_
    refine lv_if_le (tgt := 41) hx hb d_14_21_37 (by decide) (fun c57 => ?_) (fun c57 => ?_)
    ·
      have b58 : q_F (lx38.toInt ≤ 0) := (q_leI c57)
      refine lv_iload_n hx hb d_14_21_41 rfl (lv_at hl 1 rfl) ?_
      refine lv_if_ne (tgt := 59) hx hb d_14_21_42 (by decide) (fun c59 => ?_) (fun c59 => ?_)
      ·
        have b60 : q_F (x2.toInt ≠ 0) := (q_neI c59)
        refine lv_iload_n hx hb d_14_21_59 rfl (lv_at hl 1 rfl) ?_
        refine lv_iconst (v := 1) hx hb d_14_21_60 (by decide) ?_
        refine lv_icmp_ne (tgt := 78) hx hb d_14_21_61 (by decide) (fun c61 => ?_) (fun c61 => ?_)
        ·
          have b62 : q_F (x2.toInt ≠ 1) := (q_neI c61)
          refine lv_aload_n hx hb d_14_21_78 rfl (lv_at hl 0 rfl) ?_
          refine q_get (ci := 12) (j := 5) (v := .ref (q 119)) C0 V i_NM rfl rfl hT0 (by decide) w_2303 rfl d_14_21_79 ?_
          refine lv_iload_n hx hb d_14_21_82 rfl (lv_at hl 2 rfl) ?_
          refine lv_iload_n hx hb d_14_21_83 rfl (lv_at hl 3 rfl) ?_
          refine lv_iload hx hb d_14_21_84 (lv_at hl 4 rfl) ?_
          have ob63 : True ∧ S_WR_shift x3 x4 x5 t1_0 t1_1 t1_2 t1_3 t1_4 t1_5 t1_6 t2_0 t3_0 t4_0 t5_0 t7_0 := (by have h := hS51; rw [S_NM_wholeBy_J30.eq_1] at h; rw [if_pos c57] at h; rw [if_neg c59] at h; rw [if_neg c61] at h; with_reducible exact h.2.1)
          refine q_gov V (q_runV (As := [.int x3, .int x4, .int x5]) (rest := []) (d := 3) (mc := 0) (ms := 0) (ci := 13) C0 V rfl LV_NM_197 (X_WR_shift l D g q w55  x3 x4 x5 hI t1_0 t1_1 t1_2 t1_3 t1_4 t1_5 t1_6 hT1 t2_0 hT2 t3_0 hT3 t4_0 hT4 t5_0 hT5 t7_0 hT7 ob63 _) rfl rfl hT1 rfl hl.1 rfl (Nat.le_of_ble_eq_true rfl) ⟨by decide, by decide⟩ ⟨Nat.le_of_ble_eq_true rfl, Nat.le_of_ble_eq_true rfl⟩ d_14_21_86) (fun u64 H locs hp65 V => ?_)
          obtain ⟨hI, hu95, y67, y68, y69, y70, y71, y72, y73, f74, f76, f78, f80, f82, hO66, hA75, hA77, hA79, hA81, hA83, b84, b85, b86, b87, b88, b89, b90, b91, b92, b93, hE94⟩ := hp65
          replace hO66 : u64[119]? = (some (q 119, .inr (13, [.int y67, .int y68, .ref (q 120), .int y69, .ref (q 121), .ref (q 122), .ref (q 123), .int y70, .ref (q 124), .ref (q 125), .ref (q 126), .ref (q 127), .ref (q 128), .ref (q 129), .ref (q 130), .ref (q 131), .int y71, .int y72, .ref (q 132), .ref (q 133), .int y73])) : Option (Nat × va_E)) := hO66
          replace hA75 : u64[121]? = (some (q 121, .inl (g 0, (1408 : Int32).toNatClampNeg, .inl f74)) : Option (Nat × va_E)) := hA75
          replace hA77 : u64[122]? = (some (q 122, .inl (g 3, 11, .inl f76)) : Option (Nat × va_E)) := hA77
          replace hA79 : u64[123]? = (some (q 123, .inl (g 0, (264 : Int32).toNatClampNeg, .inl f78)) : Option (Nat × va_E)) := hA79
          replace hA81 : u64[124]? = (some (q 124, .inl (g 0, (264 : Int32).toNatClampNeg, .inl f80)) : Option (Nat × va_E)) := hA81
          replace hA83 : u64[128]? = (some (q 128, .inl (g 0, (264 : Int32).toNatClampNeg, .inl f82)) : Option (Nat × va_E)) := hA83
          obtain ⟨p96, e97⟩ : ∃ z, z = (F_WR_shift x3 x4 x5 t1_0 t1_1 t1_2 t1_3 t1_4 t1_5 t1_6 t2_0 t3_0 t4_0 t5_0 t7_0) := ⟨_, rfl⟩
          have e98 : y67 = p96.1 := congrArg (fun z => z.1) (hE94.trans e97.symm)
          have e99 : y68 = p96.2.1 := congrArg (fun z => z.2.1) (hE94.trans e97.symm)
          have e100 : y69 = p96.2.2.1 := congrArg (fun z => z.2.2.1) (hE94.trans e97.symm)
          have e101 : y70 = p96.2.2.2.1 := congrArg (fun z => z.2.2.2.1) (hE94.trans e97.symm)
          have e102 : y71 = p96.2.2.2.2.1 := congrArg (fun z => z.2.2.2.2.1) (hE94.trans e97.symm)
          have e103 : y72 = p96.2.2.2.2.2.1 := congrArg (fun z => z.2.2.2.2.2.1) (hE94.trans e97.symm)
          have e104 : y73 = p96.2.2.2.2.2.2.1 := congrArg (fun z => z.2.2.2.2.2.2.1) (hE94.trans e97.symm)
          have e105 : f74 = p96.2.2.2.2.2.2.2.1 := congrArg (fun z => z.2.2.2.2.2.2.2.1) (hE94.trans e97.symm)
          have e106 : f76 = p96.2.2.2.2.2.2.2.2.1 := congrArg (fun z => z.2.2.2.2.2.2.2.2.1) (hE94.trans e97.symm)
          have e107 : f78 = p96.2.2.2.2.2.2.2.2.2.1 := congrArg (fun z => z.2.2.2.2.2.2.2.2.2.1) (hE94.trans e97.symm)
          have e108 : f80 = p96.2.2.2.2.2.2.2.2.2.2.1 := congrArg (fun z => z.2.2.2.2.2.2.2.2.2.2.1) (hE94.trans e97.symm)
          have e109 : f82 = p96.2.2.2.2.2.2.2.2.2.2.2 := congrArg (fun z => z.2.2.2.2.2.2.2.2.2.2.2) (hE94.trans e97.symm)
          replace b84 : q_F (0 ≤ y70.toInt) := b84
          replace b85 : q_F (y70.toInt ≤ 1) := b85
          replace b86 : q_F (t1_2.toInt ≤ y69.toInt) := b86
          replace b87 : q_F (y69.toInt ≤ t1_2.toInt) := b87
          replace b88 : q_F (t1_4.toInt ≤ y71.toInt) := b88
          replace b89 : q_F (y71.toInt ≤ t1_4.toInt) := b89
          replace b90 : q_F (t1_5.toInt ≤ y72.toInt) := b90
          replace b91 : q_F (y72.toInt ≤ t1_5.toInt) := b91
          replace b92 : q_F (t1_6.toInt ≤ y73.toInt) := b92
          replace b93 : q_F (y73.toInt ≤ t1_6.toInt) := b93
          replace hT0 := (hu95 _ (by decide)).trans hT0
          replace hT6 := (hu95 _ (by decide)).trans hT6
          replace hF := q_uc hF hu95 (by simp)
          have hR110 := (show F_NM_wholeBy_c86 x2 x3 x4 x5 t0_0 t0_1 t0_2 t1_0 t1_1 t1_2 t1_3 t1_4 t1_5 t1_6 t2_0 t3_0 t4_0 t5_0 t6_0 t7_0 lx38 p96 = (F_NM_wholeBy x2 x3 x4 x5 t0_0 t0_1 t0_2 t1_0 t1_1 t1_2 t1_3 t1_4 t1_5 t1_6 t2_0 t3_0 t4_0 t5_0 t6_0 t7_0) from Eq.trans (by rw [e97, F_NM_wholeBy_J30.eq_1, if_pos c57, if_neg c59, if_neg c61]) hR50)
          have hS111 := (show True ∧ S_NM_wholeBy_c86 x2 x3 x4 x5 t0_0 t0_1 t0_2 t1_0 t1_1 t1_2 t1_3 t1_4 t1_5 t1_6 t2_0 t3_0 t4_0 t5_0 t6_0 t7_0 lx38 p96 from (by rw [e97]; have h := hS51; rw [S_NM_wholeBy_J30.eq_1] at h; rw [if_pos c57] at h; rw [if_neg c59] at h; rw [if_neg c61] at h; replace h := q_s2 h; with_reducible exact h))
          refine lv_aload_n hx hb d_14_21_89 rfl (lv_at hl 0 rfl) ?_
          refine lv_aload_n hx hb d_14_21_90 rfl (lv_at hl 0 rfl) ?_
          refine q_get (ci := 12) (j := 5) (v := .ref (q 119)) C0 V i_NM rfl rfl hT0 (by decide) w_2303 rfl d_14_21_91 ?_
          refine q_getN (ci := 13) (j := 0) (v := .int y67) C0 V i_WR rfl rfl hO66 (by decide) wo_1922 rfl d_14_21_94 ?_
          refine q_put (ci := 12) (j := 0) (v := .int y67) (ty := .int) C0 V i_NM o_NM n_NM rfl rfl hT0 (by decide) w_2298 rfl rfl rfl rfl (Nat.le_of_ble_eq_true rfl) d_14_21_97 (fun H locs w115 hu116 hT0 V => ?_)
          replace hT0 : w115[116]? = (some (q 116, .inr (12, [.int y67, .ref (q 117), .int t0_1, .ref (q 118), .int t0_2, .ref (q 119), .ref (q 134), .ref (q 145), .ref (q 153), .ref (q 157), .ref (q 167), .ref (q 168)])) : Option (Nat × va_E)) := hT0
          replace hI := n_p116 hI hu116 hT0 ⟨(by have t1 : 0 ≤ t0_1.toInt ∧ t0_1.toInt ≤ 4100 := btt0_1; omega), (by have t1 : 0 ≤ t0_1.toInt ∧ t0_1.toInt ≤ 4100 := btt0_1; omega)⟩ ⟨(by have t1 : 0 ≤ t0_2.toInt ∧ t0_2.toInt ≤ 12200 := btt0_2; omega), (by have t1 : 0 ≤ t0_2.toInt ∧ t0_2.toInt ≤ 12200 := btt0_2; omega)⟩
          replace hO66 := (hu116 _ (by decide)).trans hO66
          replace hA75 := (hu116 _ (by decide)).trans hA75
          replace hA77 := (hu116 _ (by decide)).trans hA77
          replace hA79 := (hu116 _ (by decide)).trans hA79
          replace hA81 := (hu116 _ (by decide)).trans hA81
          replace hT6 := (hu116 _ (by decide)).trans hT6
          replace hA83 := (hu116 _ (by decide)).trans hA83
          replace hF := q_us hF hu116 (by simp)
          exact q_retv C0 V (⟨hI, hF, y67, t0_1, t0_2, y67, y68, y69, y70, y71, y72, y73, f74, f76, f78, f80, t6_0, f82, hT0, hO66, hA75, hA77, hA79, hA81, hT6, hA83, (show 0 ≤ y70.toInt from (by have t1 : 0 ≤ y70.toInt := b84; omega)), (show y70.toInt ≤ 1 from (by have t1 : y70.toInt ≤ 1 := b85; omega)), (show t0_1.toInt ≤ t0_1.toInt from (by omega)), (show t0_1.toInt ≤ t0_1.toInt from (by omega)), (show t0_2.toInt ≤ t0_2.toInt from (by omega)), (show t0_2.toInt ≤ t0_2.toInt from (by omega)), (show t1_2.toInt ≤ y69.toInt from (by have t1 : t1_2.toInt ≤ y69.toInt := b86; omega)), (show y69.toInt ≤ t1_2.toInt from (by have t1 : y69.toInt ≤ t1_2.toInt := b87; omega)), (show t1_4.toInt ≤ y71.toInt from (by have t1 : t1_4.toInt ≤ y71.toInt := b88; omega)), (show y71.toInt ≤ t1_4.toInt from (by have t1 : y71.toInt ≤ t1_4.toInt := b89; omega)), (show t1_5.toInt ≤ y72.toInt from (by have t1 : t1_5.toInt ≤ y72.toInt := b90; omega)), (show y72.toInt ≤ t1_5.toInt from (by have t1 : y72.toInt ≤ t1_5.toInt := b91; omega)), (show t1_6.toInt ≤ y73.toInt from (by have t1 : t1_6.toInt ≤ y73.toInt := b92; omega)), (show y73.toInt ≤ t1_6.toInt from (by have t1 : y73.toInt ≤ t1_6.toInt := b93; omega)), (show (y67, t0_1, t0_2, y67, y68, y69, y70, y71, y72, y73, f74, f76, f78, f80, t6_0, f82) = (F_NM_wholeBy x2 x3 x4 x5 t0_0 t0_1 t0_2 t1_0 t1_1 t1_2 t1_3 t1_4 t1_5 t1_6 t2_0 t3_0 t4_0 t5_0 t6_0 t7_0) from Eq.trans (by rw [e109, e108, e107, e106, e105, e104, e103, e102, e101, e100, e99, e98, F_NM_wholeBy_c86.eq_1]) hR110)⟩) d_14_21_100
        ·
          have b117 : q_F (x2.toInt = 1) := (q_eqI c61)
          refine lv_aload_n hx hb d_14_21_64 rfl (lv_at hl 0 rfl) ?_
          refine q_get (ci := 12) (j := 5) (v := .ref (q 119)) C0 V i_NM rfl rfl hT0 (by decide) w_2303 rfl d_14_21_65 ?_
          refine lv_iload_n hx hb d_14_21_68 rfl (lv_at hl 2 rfl) ?_
          refine lv_iload_n hx hb d_14_21_69 rfl (lv_at hl 3 rfl) ?_
          refine lv_iload hx hb d_14_21_70 (lv_at hl 4 rfl) ?_
          have ob118 : True ∧ S_WR_root x3 x4 x5 t1_0 t1_1 t1_2 t1_3 t1_4 t1_5 t1_6 t2_0 t3_0 t4_0 t5_0 t6_0 t7_0 := (by have h := hS51; rw [S_NM_wholeBy_J30.eq_1] at h; rw [if_pos c57] at h; rw [if_neg c59] at h; rw [if_pos c61] at h; with_reducible exact h.2.1)
          refine q_gov V (q_runV (As := [.int x3, .int x4, .int x5]) (rest := []) (d := 4) (mc := 0) (ms := 0) (ci := 13) C0 V rfl LV_NM_194 (X_WR_root l D g q w55  x3 x4 x5 hI t1_0 t1_1 t1_2 t1_3 t1_4 t1_5 t1_6 hT1 t2_0 hT2 t3_0 hT3 t4_0 hT4 t5_0 hT5 t6_0 hT6 t7_0 hT7 ob118 _) rfl rfl hT1 rfl hl.1 rfl (Nat.le_of_ble_eq_true rfl) ⟨by decide, by decide⟩ ⟨Nat.le_of_ble_eq_true rfl, Nat.le_of_ble_eq_true rfl⟩ d_14_21_72) (fun u119 H locs hp120 V => ?_)
          obtain ⟨hI, hu152, y122, y123, y124, y125, y126, y127, y128, f129, f131, f133, f135, f137, f139, hO121, hA130, hA132, hA134, hA136, hA138, hA140, b141, b142, b143, b144, b145, b146, b147, b148, b149, b150, hE151⟩ := hp120
          replace hO121 : u119[119]? = (some (q 119, .inr (13, [.int y122, .int y123, .ref (q 120), .int y124, .ref (q 121), .ref (q 122), .ref (q 123), .int y125, .ref (q 124), .ref (q 125), .ref (q 126), .ref (q 127), .ref (q 128), .ref (q 129), .ref (q 130), .ref (q 131), .int y126, .int y127, .ref (q 132), .ref (q 133), .int y128])) : Option (Nat × va_E)) := hO121
          replace hA130 : u119[121]? = (some (q 121, .inl (g 0, (1408 : Int32).toNatClampNeg, .inl f129)) : Option (Nat × va_E)) := hA130
          replace hA132 : u119[122]? = (some (q 122, .inl (g 3, 11, .inl f131)) : Option (Nat × va_E)) := hA132
          replace hA134 : u119[123]? = (some (q 123, .inl (g 0, (264 : Int32).toNatClampNeg, .inl f133)) : Option (Nat × va_E)) := hA134
          replace hA136 : u119[124]? = (some (q 124, .inl (g 0, (264 : Int32).toNatClampNeg, .inl f135)) : Option (Nat × va_E)) := hA136
          replace hA138 : u119[125]? = (some (q 125, .inl (g 0, (528 : Int32).toNatClampNeg, .inl f137)) : Option (Nat × va_E)) := hA138
          replace hA140 : u119[128]? = (some (q 128, .inl (g 0, (264 : Int32).toNatClampNeg, .inl f139)) : Option (Nat × va_E)) := hA140
          obtain ⟨p153, e154⟩ : ∃ z, z = (F_WR_root x3 x4 x5 t1_0 t1_1 t1_2 t1_3 t1_4 t1_5 t1_6 t2_0 t3_0 t4_0 t5_0 t6_0 t7_0) := ⟨_, rfl⟩
          have e155 : y122 = p153.1 := congrArg (fun z => z.1) (hE151.trans e154.symm)
          have e156 : y123 = p153.2.1 := congrArg (fun z => z.2.1) (hE151.trans e154.symm)
          have e157 : y124 = p153.2.2.1 := congrArg (fun z => z.2.2.1) (hE151.trans e154.symm)
          have e158 : y125 = p153.2.2.2.1 := congrArg (fun z => z.2.2.2.1) (hE151.trans e154.symm)
          have e159 : y126 = p153.2.2.2.2.1 := congrArg (fun z => z.2.2.2.2.1) (hE151.trans e154.symm)
          have e160 : y127 = p153.2.2.2.2.2.1 := congrArg (fun z => z.2.2.2.2.2.1) (hE151.trans e154.symm)
          have e161 : y128 = p153.2.2.2.2.2.2.1 := congrArg (fun z => z.2.2.2.2.2.2.1) (hE151.trans e154.symm)
          have e162 : f129 = p153.2.2.2.2.2.2.2.1 := congrArg (fun z => z.2.2.2.2.2.2.2.1) (hE151.trans e154.symm)
          have e163 : f131 = p153.2.2.2.2.2.2.2.2.1 := congrArg (fun z => z.2.2.2.2.2.2.2.2.1) (hE151.trans e154.symm)
          have e164 : f133 = p153.2.2.2.2.2.2.2.2.2.1 := congrArg (fun z => z.2.2.2.2.2.2.2.2.2.1) (hE151.trans e154.symm)
          have e165 : f135 = p153.2.2.2.2.2.2.2.2.2.2.1 := congrArg (fun z => z.2.2.2.2.2.2.2.2.2.2.1) (hE151.trans e154.symm)
          have e166 : f137 = p153.2.2.2.2.2.2.2.2.2.2.2.1 := congrArg (fun z => z.2.2.2.2.2.2.2.2.2.2.2.1) (hE151.trans e154.symm)
          have e167 : f139 = p153.2.2.2.2.2.2.2.2.2.2.2.2 := congrArg (fun z => z.2.2.2.2.2.2.2.2.2.2.2.2) (hE151.trans e154.symm)
          replace b141 : q_F (0 ≤ y125.toInt) := b141
          replace b142 : q_F (t1_2.toInt ≤ y124.toInt) := b142
          replace b143 : q_F (y124.toInt ≤ t1_2.toInt) := b143
          replace b144 : q_F (y125.toInt ≤ t1_3.toInt) := b144
          replace b145 : q_F (t1_4.toInt ≤ y126.toInt) := b145
          replace b146 : q_F (y126.toInt ≤ t1_4.toInt) := b146
          replace b147 : q_F (t1_5.toInt ≤ y127.toInt) := b147
          replace b148 : q_F (y127.toInt ≤ t1_5.toInt) := b148
          replace b149 : q_F (t1_6.toInt ≤ y128.toInt) := b149
          replace b150 : q_F (y128.toInt ≤ t1_6.toInt) := b150
          replace hT0 := (hu152 _ (by decide)).trans hT0
          replace hF := q_uc hF hu152 (by simp)
          have hR168 := (show F_NM_wholeBy_c72 x2 x3 x4 x5 t0_0 t0_1 t0_2 t1_0 t1_1 t1_2 t1_3 t1_4 t1_5 t1_6 t2_0 t3_0 t4_0 t5_0 t6_0 t7_0 lx38 p153 = (F_NM_wholeBy x2 x3 x4 x5 t0_0 t0_1 t0_2 t1_0 t1_1 t1_2 t1_3 t1_4 t1_5 t1_6 t2_0 t3_0 t4_0 t5_0 t6_0 t7_0) from Eq.trans (by rw [e154, F_NM_wholeBy_J30.eq_1, if_pos c57, if_neg c59, if_pos c61]) hR50)
          have hS169 := (show True ∧ S_NM_wholeBy_c72 x2 x3 x4 x5 t0_0 t0_1 t0_2 t1_0 t1_1 t1_2 t1_3 t1_4 t1_5 t1_6 t2_0 t3_0 t4_0 t5_0 t6_0 t7_0 lx38 p153 from (by rw [e154]; have h := hS51; rw [S_NM_wholeBy_J30.eq_1] at h; rw [if_pos c57] at h; rw [if_neg c59] at h; rw [if_pos c61] at h; replace h := q_s2 h; with_reducible exact h))
          refine lv_goto (tgt := 89) hx hb d_14_21_75 (by decide) ?_
          refine lv_aload_n hx hb d_14_21_89 rfl (lv_at hl 0 rfl) ?_
          refine lv_aload_n hx hb d_14_21_90 rfl (lv_at hl 0 rfl) ?_
          refine q_get (ci := 12) (j := 5) (v := .ref (q 119)) C0 V i_NM rfl rfl hT0 (by decide) w_2303 rfl d_14_21_91 ?_
          refine q_getN (ci := 13) (j := 0) (v := .int y122) C0 V i_WR rfl rfl hO121 (by decide) wo_1922 rfl d_14_21_94 ?_
          refine q_put (ci := 12) (j := 0) (v := .int y122) (ty := .int) C0 V i_NM o_NM n_NM rfl rfl hT0 (by decide) w_2298 rfl rfl rfl rfl (Nat.le_of_ble_eq_true rfl) d_14_21_97 (fun H locs w173 hu174 hT0 V => ?_)
          replace hT0 : w173[116]? = (some (q 116, .inr (12, [.int y122, .ref (q 117), .int t0_1, .ref (q 118), .int t0_2, .ref (q 119), .ref (q 134), .ref (q 145), .ref (q 153), .ref (q 157), .ref (q 167), .ref (q 168)])) : Option (Nat × va_E)) := hT0
          replace hI := n_p116 hI hu174 hT0 ⟨(by have t1 : 0 ≤ t0_1.toInt ∧ t0_1.toInt ≤ 4100 := btt0_1; omega), (by have t1 : 0 ≤ t0_1.toInt ∧ t0_1.toInt ≤ 4100 := btt0_1; omega)⟩ ⟨(by have t1 : 0 ≤ t0_2.toInt ∧ t0_2.toInt ≤ 12200 := btt0_2; omega), (by have t1 : 0 ≤ t0_2.toInt ∧ t0_2.toInt ≤ 12200 := btt0_2; omega)⟩
          replace hO121 := (hu174 _ (by decide)).trans hO121
          replace hA130 := (hu174 _ (by decide)).trans hA130
          replace hA132 := (hu174 _ (by decide)).trans hA132
          replace hA134 := (hu174 _ (by decide)).trans hA134
          replace hA136 := (hu174 _ (by decide)).trans hA136
          replace hA138 := (hu174 _ (by decide)).trans hA138
          replace hA140 := (hu174 _ (by decide)).trans hA140
          replace hF := q_us hF hu174 (by simp)
          exact q_retv C0 V (⟨hI, hF, y122, t0_1, t0_2, y122, y123, y124, y125, y126, y127, y128, f129, f131, f133, f135, f137, f139, hT0, hO121, hA130, hA132, hA134, hA136, hA138, hA140, (show 0 ≤ y125.toInt from (by have t1 : 0 ≤ y125.toInt := b141; omega)), (show y125.toInt ≤ 1 from (by have t1 : 0 ≤ t1_3.toInt ∧ t1_3.toInt ≤ 1 := btt1_3; have t2 : y125.toInt ≤ t1_3.toInt := b144; omega)), (show t0_1.toInt ≤ t0_1.toInt from (by omega)), (show t0_1.toInt ≤ t0_1.toInt from (by omega)), (show t0_2.toInt ≤ t0_2.toInt from (by omega)), (show t0_2.toInt ≤ t0_2.toInt from (by omega)), (show t1_2.toInt ≤ y124.toInt from (by have t1 : t1_2.toInt ≤ y124.toInt := b142; omega)), (show y124.toInt ≤ t1_2.toInt from (by have t1 : y124.toInt ≤ t1_2.toInt := b143; omega)), (show t1_4.toInt ≤ y126.toInt from (by have t1 : t1_4.toInt ≤ y126.toInt := b145; omega)), (show y126.toInt ≤ t1_4.toInt from (by have t1 : y126.toInt ≤ t1_4.toInt := b146; omega)), (show t1_5.toInt ≤ y127.toInt from (by have t1 : t1_5.toInt ≤ y127.toInt := b147; omega)), (show y127.toInt ≤ t1_5.toInt from (by have t1 : y127.toInt ≤ t1_5.toInt := b148; omega)), (show t1_6.toInt ≤ y128.toInt from (by have t1 : t1_6.toInt ≤ y128.toInt := b149; omega)), (show y128.toInt ≤ t1_6.toInt from (by have t1 : y128.toInt ≤ t1_6.toInt := b150; omega)), (show (y122, t0_1, t0_2, y122, y123, y124, y125, y126, y127, y128, f129, f131, f133, f135, f137, f139) = (F_NM_wholeBy x2 x3 x4 x5 t0_0 t0_1 t0_2 t1_0 t1_1 t1_2 t1_3 t1_4 t1_5 t1_6 t2_0 t3_0 t4_0 t5_0 t6_0 t7_0) from Eq.trans (by rw [e167, e166, e165, e164, e163, e162, e161, e160, e159, e158, e157, e156, e155, F_NM_wholeBy_c72.eq_1]) hR168)⟩) d_14_21_100
      ·
        have b175 : q_F (x2.toInt = 0) := (q_eqI c59)
        refine lv_aload_n hx hb d_14_21_45 rfl (lv_at hl 0 rfl) ?_
        refine q_get (ci := 12) (j := 5) (v := .ref (q 119)) C0 V i_NM rfl rfl hT0 (by decide) w_2303 rfl d_14_21_46 ?_
        refine lv_iload_n hx hb d_14_21_49 rfl (lv_at hl 2 rfl) ?_
        refine lv_iload_n hx hb d_14_21_50 rfl (lv_at hl 3 rfl) ?_
        refine lv_iload hx hb d_14_21_51 (lv_at hl 4 rfl) ?_
        have ob176 : True ∧ S_WR_power x3 x4 x5 t1_0 t1_1 t1_2 t1_3 t1_4 t1_5 t1_6 t2_0 t3_0 t4_0 t6_0 t7_0 := (by have h := hS51; rw [S_NM_wholeBy_J30.eq_1] at h; rw [if_pos c57] at h; rw [if_pos c59] at h; with_reducible exact h.2.1)
        refine q_gov V (q_runV (As := [.int x3, .int x4, .int x5]) (rest := []) (d := 3) (mc := 0) (ms := 0) (ci := 13) C0 V rfl LV_NM_192 (X_WR_power l D g q w55  x3 x4 x5 hI t1_0 t1_1 t1_2 t1_3 t1_4 t1_5 t1_6 hT1 t2_0 hT2 t3_0 hT3 t4_0 hT4 t6_0 hT6 t7_0 hT7 ob176 _) rfl rfl hT1 rfl hl.1 rfl (Nat.le_of_ble_eq_true rfl) ⟨by decide, by decide⟩ ⟨Nat.le_of_ble_eq_true rfl, Nat.le_of_ble_eq_true rfl⟩ d_14_21_53) (fun u177 H locs hp178 V => ?_)
        obtain ⟨hI, hu208, y180, y181, y182, y183, y184, y185, y186, f187, f189, f191, f193, f195, hO179, hA188, hA190, hA192, hA194, hA196, b197, b198, b199, b200, b201, b202, b203, b204, b205, b206, hE207⟩ := hp178
        replace hO179 : u177[119]? = (some (q 119, .inr (13, [.int y180, .int y181, .ref (q 120), .int y182, .ref (q 121), .ref (q 122), .ref (q 123), .int y183, .ref (q 124), .ref (q 125), .ref (q 126), .ref (q 127), .ref (q 128), .ref (q 129), .ref (q 130), .ref (q 131), .int y184, .int y185, .ref (q 132), .ref (q 133), .int y186])) : Option (Nat × va_E)) := hO179
        replace hA188 : u177[121]? = (some (q 121, .inl (g 0, (1408 : Int32).toNatClampNeg, .inl f187)) : Option (Nat × va_E)) := hA188
        replace hA190 : u177[122]? = (some (q 122, .inl (g 3, 11, .inl f189)) : Option (Nat × va_E)) := hA190
        replace hA192 : u177[123]? = (some (q 123, .inl (g 0, (264 : Int32).toNatClampNeg, .inl f191)) : Option (Nat × va_E)) := hA192
        replace hA194 : u177[125]? = (some (q 125, .inl (g 0, (528 : Int32).toNatClampNeg, .inl f193)) : Option (Nat × va_E)) := hA194
        replace hA196 : u177[128]? = (some (q 128, .inl (g 0, (264 : Int32).toNatClampNeg, .inl f195)) : Option (Nat × va_E)) := hA196
        obtain ⟨p209, e210⟩ : ∃ z, z = (F_WR_power x3 x4 x5 t1_0 t1_1 t1_2 t1_3 t1_4 t1_5 t1_6 t2_0 t3_0 t4_0 t6_0 t7_0) := ⟨_, rfl⟩
        have e211 : y180 = p209.1 := congrArg (fun z => z.1) (hE207.trans e210.symm)
        have e212 : y181 = p209.2.1 := congrArg (fun z => z.2.1) (hE207.trans e210.symm)
        have e213 : y182 = p209.2.2.1 := congrArg (fun z => z.2.2.1) (hE207.trans e210.symm)
        have e214 : y183 = p209.2.2.2.1 := congrArg (fun z => z.2.2.2.1) (hE207.trans e210.symm)
        have e215 : y184 = p209.2.2.2.2.1 := congrArg (fun z => z.2.2.2.2.1) (hE207.trans e210.symm)
        have e216 : y185 = p209.2.2.2.2.2.1 := congrArg (fun z => z.2.2.2.2.2.1) (hE207.trans e210.symm)
        have e217 : y186 = p209.2.2.2.2.2.2.1 := congrArg (fun z => z.2.2.2.2.2.2.1) (hE207.trans e210.symm)
        have e218 : f187 = p209.2.2.2.2.2.2.2.1 := congrArg (fun z => z.2.2.2.2.2.2.2.1) (hE207.trans e210.symm)
        have e219 : f189 = p209.2.2.2.2.2.2.2.2.1 := congrArg (fun z => z.2.2.2.2.2.2.2.2.1) (hE207.trans e210.symm)
        have e220 : f191 = p209.2.2.2.2.2.2.2.2.2.1 := congrArg (fun z => z.2.2.2.2.2.2.2.2.2.1) (hE207.trans e210.symm)
        have e221 : f193 = p209.2.2.2.2.2.2.2.2.2.2.1 := congrArg (fun z => z.2.2.2.2.2.2.2.2.2.2.1) (hE207.trans e210.symm)
        have e222 : f195 = p209.2.2.2.2.2.2.2.2.2.2.2 := congrArg (fun z => z.2.2.2.2.2.2.2.2.2.2.2) (hE207.trans e210.symm)
        replace b197 : q_F (0 ≤ y183.toInt) := b197
        replace b198 : q_F (y183.toInt ≤ 1) := b198
        replace b199 : q_F (t1_2.toInt ≤ y182.toInt) := b199
        replace b200 : q_F (y182.toInt ≤ t1_2.toInt) := b200
        replace b201 : q_F (t1_4.toInt ≤ y184.toInt) := b201
        replace b202 : q_F (y184.toInt ≤ t1_4.toInt) := b202
        replace b203 : q_F (t1_5.toInt ≤ y185.toInt) := b203
        replace b204 : q_F (y185.toInt ≤ t1_5.toInt) := b204
        replace b205 : q_F (t1_6.toInt ≤ y186.toInt) := b205
        replace b206 : q_F (y186.toInt ≤ t1_6.toInt) := b206
        replace hT0 := (hu208 _ (by decide)).trans hT0
        replace hT5 := (hu208 _ (by decide)).trans hT5
        replace hF := q_uc hF hu208 (by simp)
        have hR223 := (show F_NM_wholeBy_c53 x2 x3 x4 x5 t0_0 t0_1 t0_2 t1_0 t1_1 t1_2 t1_3 t1_4 t1_5 t1_6 t2_0 t3_0 t4_0 t5_0 t6_0 t7_0 lx38 p209 = (F_NM_wholeBy x2 x3 x4 x5 t0_0 t0_1 t0_2 t1_0 t1_1 t1_2 t1_3 t1_4 t1_5 t1_6 t2_0 t3_0 t4_0 t5_0 t6_0 t7_0) from Eq.trans (by rw [e210, F_NM_wholeBy_J30.eq_1, if_pos c57, if_pos c59]) hR50)
        have hS224 := (show True ∧ S_NM_wholeBy_c53 x2 x3 x4 x5 t0_0 t0_1 t0_2 t1_0 t1_1 t1_2 t1_3 t1_4 t1_5 t1_6 t2_0 t3_0 t4_0 t5_0 t6_0 t7_0 lx38 p209 from (by rw [e210]; have h := hS51; rw [S_NM_wholeBy_J30.eq_1] at h; rw [if_pos c57] at h; rw [if_pos c59] at h; replace h := q_s2 h; with_reducible exact h))
        refine lv_goto (tgt := 89) hx hb d_14_21_56 (by decide) ?_
        refine lv_aload_n hx hb d_14_21_89 rfl (lv_at hl 0 rfl) ?_
        refine lv_aload_n hx hb d_14_21_90 rfl (lv_at hl 0 rfl) ?_
        refine q_get (ci := 12) (j := 5) (v := .ref (q 119)) C0 V i_NM rfl rfl hT0 (by decide) w_2303 rfl d_14_21_91 ?_
        refine q_getN (ci := 13) (j := 0) (v := .int y180) C0 V i_WR rfl rfl hO179 (by decide) wo_1922 rfl d_14_21_94 ?_
        refine q_put (ci := 12) (j := 0) (v := .int y180) (ty := .int) C0 V i_NM o_NM n_NM rfl rfl hT0 (by decide) w_2298 rfl rfl rfl rfl (Nat.le_of_ble_eq_true rfl) d_14_21_97 (fun H locs w228 hu229 hT0 V => ?_)
        replace hT0 : w228[116]? = (some (q 116, .inr (12, [.int y180, .ref (q 117), .int t0_1, .ref (q 118), .int t0_2, .ref (q 119), .ref (q 134), .ref (q 145), .ref (q 153), .ref (q 157), .ref (q 167), .ref (q 168)])) : Option (Nat × va_E)) := hT0
        replace hI := n_p116 hI hu229 hT0 ⟨(by have t1 : 0 ≤ t0_1.toInt ∧ t0_1.toInt ≤ 4100 := btt0_1; omega), (by have t1 : 0 ≤ t0_1.toInt ∧ t0_1.toInt ≤ 4100 := btt0_1; omega)⟩ ⟨(by have t1 : 0 ≤ t0_2.toInt ∧ t0_2.toInt ≤ 12200 := btt0_2; omega), (by have t1 : 0 ≤ t0_2.toInt ∧ t0_2.toInt ≤ 12200 := btt0_2; omega)⟩
        replace hO179 := (hu229 _ (by decide)).trans hO179
        replace hA188 := (hu229 _ (by decide)).trans hA188
        replace hA190 := (hu229 _ (by decide)).trans hA190
        replace hA192 := (hu229 _ (by decide)).trans hA192
        replace hT5 := (hu229 _ (by decide)).trans hT5
        replace hA194 := (hu229 _ (by decide)).trans hA194
        replace hA196 := (hu229 _ (by decide)).trans hA196
        replace hF := q_us hF hu229 (by simp)
        exact q_retv C0 V (⟨hI, hF, y180, t0_1, t0_2, y180, y181, y182, y183, y184, y185, y186, f187, f189, f191, t5_0, f193, f195, hT0, hO179, hA188, hA190, hA192, hT5, hA194, hA196, (show 0 ≤ y183.toInt from (by have t1 : 0 ≤ y183.toInt := b197; omega)), (show y183.toInt ≤ 1 from (by have t1 : y183.toInt ≤ 1 := b198; omega)), (show t0_1.toInt ≤ t0_1.toInt from (by omega)), (show t0_1.toInt ≤ t0_1.toInt from (by omega)), (show t0_2.toInt ≤ t0_2.toInt from (by omega)), (show t0_2.toInt ≤ t0_2.toInt from (by omega)), (show t1_2.toInt ≤ y182.toInt from (by have t1 : t1_2.toInt ≤ y182.toInt := b199; omega)), (show y182.toInt ≤ t1_2.toInt from (by have t1 : y182.toInt ≤ t1_2.toInt := b200; omega)), (show t1_4.toInt ≤ y184.toInt from (by have t1 : t1_4.toInt ≤ y184.toInt := b201; omega)), (show y184.toInt ≤ t1_4.toInt from (by have t1 : y184.toInt ≤ t1_4.toInt := b202; omega)), (show t1_5.toInt ≤ y185.toInt from (by have t1 : t1_5.toInt ≤ y185.toInt := b203; omega)), (show y185.toInt ≤ t1_5.toInt from (by have t1 : y185.toInt ≤ t1_5.toInt := b204; omega)), (show t1_6.toInt ≤ y186.toInt from (by have t1 : t1_6.toInt ≤ y186.toInt := b205; omega)), (show y186.toInt ≤ t1_6.toInt from (by have t1 : y186.toInt ≤ t1_6.toInt := b206; omega)), (show (y180, t0_1, t0_2, y180, y181, y182, y183, y184, y185, y186, f187, f189, f191, t5_0, f193, f195) = (F_NM_wholeBy x2 x3 x4 x5 t0_0 t0_1 t0_2 t1_0 t1_1 t1_2 t1_3 t1_4 t1_5 t1_6 t2_0 t3_0 t4_0 t5_0 t6_0 t7_0) from Eq.trans (by rw [e222, e221, e220, e219, e218, e217, e216, e215, e214, e213, e212, e211, F_NM_wholeBy_c53.eq_1]) hR223)⟩) d_14_21_100
    ·
      have b230 : q_F (0 < lx38.toInt) := (q_nleI c57)
      exact q_retv C0 V (⟨hI, hF, lx38, t0_1, t0_2, t1_0, t1_1, t1_2, t1_3, t1_4, t1_5, t1_6, t2_0, t3_0, t4_0, t5_0, t6_0, t7_0, hT0, hT1, hT2, hT3, hT4, hT5, hT6, hT7, (show 0 ≤ t1_3.toInt from (by have t1 : 0 ≤ t1_3.toInt ∧ t1_3.toInt ≤ 1 := btt1_3; omega)), (show t1_3.toInt ≤ 1 from (by have t1 : 0 ≤ t1_3.toInt ∧ t1_3.toInt ≤ 1 := btt1_3; omega)), (show t0_1.toInt ≤ t0_1.toInt from (by omega)), (show t0_1.toInt ≤ t0_1.toInt from (by omega)), (show t0_2.toInt ≤ t0_2.toInt from (by omega)), (show t0_2.toInt ≤ t0_2.toInt from (by omega)), (show t1_2.toInt ≤ t1_2.toInt from (by omega)), (show t1_2.toInt ≤ t1_2.toInt from (by omega)), (show t1_4.toInt ≤ t1_4.toInt from (by omega)), (show t1_4.toInt ≤ t1_4.toInt from (by omega)), (show t1_5.toInt ≤ t1_5.toInt from (by omega)), (show t1_5.toInt ≤ t1_5.toInt from (by omega)), (show t1_6.toInt ≤ t1_6.toInt from (by omega)), (show t1_6.toInt ≤ t1_6.toInt from (by omega)), (show (lx38, t0_1, t0_2, t1_0, t1_1, t1_2, t1_3, t1_4, t1_5, t1_6, t2_0, t3_0, t4_0, t5_0, t6_0, t7_0) = (F_NM_wholeBy x2 x3 x4 x5 t0_0 t0_1 t0_2 t1_0 t1_1 t1_2 t1_3 t1_4 t1_5 t1_6 t2_0 t3_0 t4_0 t5_0 t6_0 t7_0) from Eq.trans (by rw [F_NM_wholeBy_J30.eq_1, if_neg c57]) hR50)⟩) d_14_21_40
  ·
    intro J47
    refine q_join (X := Unit) (fun z H locs ls _ => q_Wd D g (va_A ws sz) s ws H locs ∧ lv_has ls 5 [(0, .ref (q 116)), (1, .int x2), (2, .int x3), (3, .int x4), (4, .int x5)] ∧ F_NM_wholeBy_J25 x2 x3 x4 x5 t0_0 t0_1 t0_2 t1_0 t1_1 t1_2 t1_3 t1_4 t1_5 t1_6 t2_0 t3_0 t4_0 t5_0 t6_0 t7_0 = (F_NM_wholeBy x2 x3 x4 x5 t0_0 t0_1 t0_2 t1_0 t1_1 t1_2 t1_3 t1_4 t1_5 t1_6 t2_0 t3_0 t4_0 t5_0 t6_0 t7_0) ∧ True ∧ S_NM_wholeBy_J25 x2 x3 x4 x5 t0_0 t0_1 t0_2 t1_0 t1_1 t1_2 t1_3 t1_4 t1_5 t1_6 t2_0 t3_0 t4_0 t5_0 t6_0 t7_0) (fun z => [.ref (q 116)]) 25 0 0 ?_ ?_
    ·
      rintro _ H locs ls _ ⟨V, hl, hR240, hS241⟩
      replace hl : lv_has ls 5 [(0, .ref (q 116)), (1, .int x2), (2, .int x3), (3, .int x4), (4, .int x5)] := hl
      refine lv_iconst (v := 1) hx hb d_14_21_25 (by decide) ?_
      refine lv_goto (tgt := 30) hx hb d_14_21_26 (by decide) ?_
      exact J47 ((1 : Int32)) _ _ _ ws ⟨(show q_F (0 ≤ 1) from (show 0 ≤ 1 from by omega)), (show q_F (1 ≤ 1) from (show 1 ≤ 1 from by omega)), V, q_lw hl (q_lw1 0 rfl (q_lw1 1 rfl (q_lw1 2 rfl (q_lw1 3 rfl (q_lw1 4 rfl q_lw0))))), (show F_NM_wholeBy_J30 x2 x3 x4 x5 t0_0 t0_1 t0_2 t1_0 t1_1 t1_2 t1_3 t1_4 t1_5 t1_6 t2_0 t3_0 t4_0 t5_0 t6_0 t7_0 1 = (F_NM_wholeBy x2 x3 x4 x5 t0_0 t0_1 t0_2 t1_0 t1_1 t1_2 t1_3 t1_4 t1_5 t1_6 t2_0 t3_0 t4_0 t5_0 t6_0 t7_0) from Eq.trans (by rw [F_NM_wholeBy_J25.eq_1]) hR240), (show True ∧ S_NM_wholeBy_J30 x2 x3 x4 x5 t0_0 t0_1 t0_2 t1_0 t1_1 t1_2 t1_3 t1_4 t1_5 t1_6 t2_0 t3_0 t4_0 t5_0 t6_0 t7_0 1 from (by have h := hS241; rw [S_NM_wholeBy_J25.eq_1] at h; with_reducible exact h))⟩
    ·
      intro J239
      refine lv_if_lt (tgt := 25) hx hb d_14_21_2 (by decide) (fun c245 => ?_) (fun c245 => ?_)
      ·
        have b246 : q_F (x2.toInt < 0) := (q_ltI c245)
        exact J239 (()) _ _ _ ws ⟨V, q_lw hl (q_lw1 0 rfl (q_lw1 1 rfl (q_lw1 2 rfl (q_lw1 3 rfl (q_lw1 4 rfl q_lw0))))), (show F_NM_wholeBy_J25 x2 x3 x4 x5 t0_0 t0_1 t0_2 t1_0 t1_1 t1_2 t1_3 t1_4 t1_5 t1_6 t2_0 t3_0 t4_0 t5_0 t6_0 t7_0 = (F_NM_wholeBy x2 x3 x4 x5 t0_0 t0_1 t0_2 t1_0 t1_1 t1_2 t1_3 t1_4 t1_5 t1_6 t2_0 t3_0 t4_0 t5_0 t6_0 t7_0) from (by rw [F_NM_wholeBy.eq_1, if_pos c245])), (show True ∧ S_NM_wholeBy_J25 x2 x3 x4 x5 t0_0 t0_1 t0_2 t1_0 t1_1 t1_2 t1_3 t1_4 t1_5 t1_6 t2_0 t3_0 t4_0 t5_0 t6_0 t7_0 from (by have h := hS; rw [S_NM_wholeBy.eq_1] at h; rw [if_pos c245] at h; with_reducible exact h))⟩
      ·
        have b247 : q_F (0 ≤ x2.toInt) := (q_nltI c245)
        refine lv_iload_n hx hb d_14_21_5 rfl (lv_at hl 1 rfl) ?_
        refine lv_iconst (v := 2) hx hb d_14_21_6 (by decide) ?_
        refine lv_icmp_gt (tgt := 25) hx hb d_14_21_7 (by decide) (fun c248 => ?_) (fun c248 => ?_)
        ·
          have b249 : q_F (2 < x2.toInt) := (q_ltI c248)
          exact J239 (()) _ _ _ ws ⟨V, q_lw hl (q_lw1 0 rfl (q_lw1 1 rfl (q_lw1 2 rfl (q_lw1 3 rfl (q_lw1 4 rfl q_lw0))))), (show F_NM_wholeBy_J25 x2 x3 x4 x5 t0_0 t0_1 t0_2 t1_0 t1_1 t1_2 t1_3 t1_4 t1_5 t1_6 t2_0 t3_0 t4_0 t5_0 t6_0 t7_0 = (F_NM_wholeBy x2 x3 x4 x5 t0_0 t0_1 t0_2 t1_0 t1_1 t1_2 t1_3 t1_4 t1_5 t1_6 t2_0 t3_0 t4_0 t5_0 t6_0 t7_0) from (by rw [F_NM_wholeBy.eq_1, if_neg c245, if_pos c248])), (show True ∧ S_NM_wholeBy_J25 x2 x3 x4 x5 t0_0 t0_1 t0_2 t1_0 t1_1 t1_2 t1_3 t1_4 t1_5 t1_6 t2_0 t3_0 t4_0 t5_0 t6_0 t7_0 from (by have h := hS; rw [S_NM_wholeBy.eq_1] at h; rw [if_neg c245] at h; rw [if_pos c248] at h; with_reducible exact h))⟩
        ·
          have b250 : q_F (x2.toInt ≤ 2) := (q_nltI c248)
          refine lv_iload_n hx hb d_14_21_10 rfl (lv_at hl 2 rfl) ?_
          refine q_goi V (q_runS (As := [.int x3]) (rest := [.ref (q 116)]) (d := 1) (mc := 0) (ms := 0) C0 V rfl LS_NM_70 (X_NM_no_IZ l D g q ws  x3 hI   _) rfl hl.1 rfl (Nat.le_of_ble_eq_true rfl) ⟨by decide, by decide⟩ ⟨Nat.le_of_ble_eq_true rfl, Nat.le_of_ble_eq_true rfl⟩ d_14_21_11) (fun a253 u251 H locs hp252 V => ?_)
          obtain ⟨rfl, b254, b255, hE256⟩ := hp252
          have e257 : a253 = (F_NM_no_IZ x3) := hE256
          replace b254 : q_F (0 ≤ a253.toInt) := b254
          replace b255 : q_F (a253.toInt ≤ 1) := b255
          refine lv_if_ne (tgt := 25) hx hb d_14_21_14 (by decide) (fun c258 => ?_) (fun c258 => ?_)
          ·
            have b259 : q_F (a253.toInt ≠ 0) := (q_neI c258)
            exact J239 (()) _ _ _ ws ⟨V, q_lw hl (q_lw1 0 rfl (q_lw1 1 rfl (q_lw1 2 rfl (q_lw1 3 rfl (q_lw1 4 rfl q_lw0))))), (show F_NM_wholeBy_J25 x2 x3 x4 x5 t0_0 t0_1 t0_2 t1_0 t1_1 t1_2 t1_3 t1_4 t1_5 t1_6 t2_0 t3_0 t4_0 t5_0 t6_0 t7_0 = (F_NM_wholeBy x2 x3 x4 x5 t0_0 t0_1 t0_2 t1_0 t1_1 t1_2 t1_3 t1_4 t1_5 t1_6 t2_0 t3_0 t4_0 t5_0 t6_0 t7_0) from (by have c258x := c258; rw [e257] at c258x; rw [F_NM_wholeBy.eq_1, if_neg c245, if_neg c248, if_neg c258x])), (show True ∧ S_NM_wholeBy_J25 x2 x3 x4 x5 t0_0 t0_1 t0_2 t1_0 t1_1 t1_2 t1_3 t1_4 t1_5 t1_6 t2_0 t3_0 t4_0 t5_0 t6_0 t7_0 from (by have h := hS; rw [S_NM_wholeBy.eq_1] at h; rw [if_neg c245] at h; rw [if_neg c248] at h; have c258x := c258; rw [e257] at c258x; rw [if_neg c258x] at h; with_reducible exact h))⟩
          ·
            have b260 : q_F (a253.toInt = 0) := (q_eqI c258)
            refine lv_iload hx hb d_14_21_17 (lv_at hl 4 rfl) ?_
            refine q_goi V (q_runS (As := [.int x5]) (rest := [.ref (q 116)]) (d := 1) (mc := 0) (ms := 0) C0 V rfl LS_NM_70 (X_NM_no_IZ l D g q ws  x5 hI   _) rfl hl.1 rfl (Nat.le_of_ble_eq_true rfl) ⟨by decide, by decide⟩ ⟨Nat.le_of_ble_eq_true rfl, Nat.le_of_ble_eq_true rfl⟩ d_14_21_19) (fun a263 u261 H locs hp262 V => ?_)
            obtain ⟨rfl, b264, b265, hE266⟩ := hp262
            have e267 : a263 = (F_NM_no_IZ x5) := hE266
            replace b264 : q_F (0 ≤ a263.toInt) := b264
            replace b265 : q_F (a263.toInt ≤ 1) := b265
            refine lv_if_eq (tgt := 29) hx hb d_14_21_22 (by decide) (fun c268 => ?_) (fun c268 => ?_)
            ·
              have b269 : q_F (a263.toInt = 0) := (q_eqI c268)
              refine lv_iconst (v := 0) hx hb d_14_21_29 (by decide) ?_
              exact J47 ((0 : Int32)) _ _ _ ws ⟨(show q_F (0 ≤ 0) from (show 0 ≤ 0 from by omega)), (show q_F (0 ≤ 1) from (show 0 ≤ 1 from by omega)), V, q_lw hl (q_lw1 0 rfl (q_lw1 1 rfl (q_lw1 2 rfl (q_lw1 3 rfl (q_lw1 4 rfl q_lw0))))), (show F_NM_wholeBy_J30 x2 x3 x4 x5 t0_0 t0_1 t0_2 t1_0 t1_1 t1_2 t1_3 t1_4 t1_5 t1_6 t2_0 t3_0 t4_0 t5_0 t6_0 t7_0 0 = (F_NM_wholeBy x2 x3 x4 x5 t0_0 t0_1 t0_2 t1_0 t1_1 t1_2 t1_3 t1_4 t1_5 t1_6 t2_0 t3_0 t4_0 t5_0 t6_0 t7_0) from (by have c258x := c258; rw [e257] at c258x; have c268x := c268; rw [e267] at c268x; rw [F_NM_wholeBy.eq_1, if_neg c245, if_neg c248, if_pos c258x, if_pos c268x])), (show True ∧ S_NM_wholeBy_J30 x2 x3 x4 x5 t0_0 t0_1 t0_2 t1_0 t1_1 t1_2 t1_3 t1_4 t1_5 t1_6 t2_0 t3_0 t4_0 t5_0 t6_0 t7_0 0 from (by have h := hS; rw [S_NM_wholeBy.eq_1] at h; rw [if_neg c245] at h; rw [if_neg c248] at h; have c258x := c258; rw [e257] at c258x; rw [if_pos c258x] at h; have c268x := c268; rw [e267] at c268x; rw [if_pos c268x] at h; with_reducible exact h))⟩
            ·
              have b270 : q_F (a263.toInt ≠ 0) := (q_neI c268)
              exact J239 (()) _ _ _ ws ⟨V, q_lw hl (q_lw1 0 rfl (q_lw1 1 rfl (q_lw1 2 rfl (q_lw1 3 rfl (q_lw1 4 rfl q_lw0))))), (show F_NM_wholeBy_J25 x2 x3 x4 x5 t0_0 t0_1 t0_2 t1_0 t1_1 t1_2 t1_3 t1_4 t1_5 t1_6 t2_0 t3_0 t4_0 t5_0 t6_0 t7_0 = (F_NM_wholeBy x2 x3 x4 x5 t0_0 t0_1 t0_2 t1_0 t1_1 t1_2 t1_3 t1_4 t1_5 t1_6 t2_0 t3_0 t4_0 t5_0 t6_0 t7_0) from (by have c258x := c258; rw [e257] at c258x; have c268x := c268; rw [e267] at c268x; rw [F_NM_wholeBy.eq_1, if_neg c245, if_neg c248, if_pos c258x, if_neg c268x])), (show True ∧ S_NM_wholeBy_J25 x2 x3 x4 x5 t0_0 t0_1 t0_2 t1_0 t1_1 t1_2 t1_3 t1_4 t1_5 t1_6 t2_0 t3_0 t4_0 t5_0 t6_0 t7_0 from (by have h := hS; rw [S_NM_wholeBy.eq_1] at h; rw [if_neg c245] at h; rw [if_neg c248] at h; have c258x := c258; rw [e257] at c258x; rw [if_pos c258x] at h; have c268x := c268; rw [e267] at c268x; rw [if_neg c268x] at h; with_reducible exact h))⟩
theorem d_14_22_0 : decode prog_14_method_22_code 0 = .ok (.aload_n 0, 1) := by decide +kernel
theorem d_14_22_1 : decode prog_14_method_22_code 1 = .ok (.iload_n 1, 1) := by decide +kernel
theorem d_14_22_2 : decode prog_14_method_22_code 2 = .ok (.invokestatic 70, 3) := by decide +kernel
theorem d_14_22_35 : decode prog_14_method_22_code 35 = .ok (.putfield 58, 3) := by decide +kernel
theorem d_14_22_38 : decode prog_14_method_22_code 38 = .ok (.aload_n 0, 1) := by decide +kernel
theorem d_14_22_39 : decode prog_14_method_22_code 39 = .ok (.getfield 58, 3) := by decide +kernel
theorem d_14_22_42 : decode prog_14_method_22_code 42 = .ok (.ifCond .ne 26, 3) := by decide +kernel
theorem d_14_22_68 : decode prog_14_method_22_code 68 = .ok (.return_, 1) := by decide +kernel
theorem d_14_22_45 : decode prog_14_method_22_code 45 = .ok (.aload_n 0, 1) := by decide +kernel
theorem d_14_22_46 : decode prog_14_method_22_code 46 = .ok (.getfield 19, 3) := by decide +kernel
theorem d_14_22_49 : decode prog_14_method_22_code 49 = .ok (.iload_n 1, 1) := by decide +kernel
theorem d_14_22_50 : decode prog_14_method_22_code 50 = .ok (.iload_n 2, 1) := by decide +kernel
theorem d_14_22_51 : decode prog_14_method_22_code 51 = .ok (.iload_n 3, 1) := by decide +kernel
theorem d_14_22_52 : decode prog_14_method_22_code 52 = .ok (.iload 4, 2) := by decide +kernel
theorem d_14_22_54 : decode prog_14_method_22_code 54 = .ok (.invokevirtual 200, 3) := by decide +kernel
set_option maxRecDepth 100000 in
theorem w_2772 : (Cond.code ({ cls := "NumberHouseModel$WholeRows", name := "powerModulo", desc := "(IIII)V" } : MethodName) prog_19_method_35_code (7 : Nat) (none : Option ClassFile.FieldType)) ∈ q_tbl := q_of12 132 rfl (by decide +kernel)
set_option maxRecDepth 100000 in
theorem w_2769 : (Cond.methodLink "NumberHouseModel" (200 : Nat) ({ cls := "NumberHouseModel$WholeRows", name := "powerModulo", desc := "(IIII)V" } : MethodName)) ∈ q_tbl := q_of12 129 rfl (by decide +kernel)
set_option maxRecDepth 100000 in
theorem w_2770 : (Cond.instanceMethod ({ cls := "NumberHouseModel$WholeRows", name := "powerModulo", desc := "(IIII)V" } : MethodName)) ∈ q_tbl := q_of12 130 rfl (by decide +kernel)
set_option maxRecDepth 100000 in
theorem w_2771 : (Cond.selects "NumberHouseModel$WholeRows" ({ cls := "NumberHouseModel$WholeRows", name := "powerModulo", desc := "(IIII)V" } : MethodName) ({ cls := "NumberHouseModel$WholeRows", name := "powerModulo", desc := "(IIII)V" } : MethodName)) ∈ q_tbl := q_of12 131 rfl (by decide +kernel)
theorem LV_NM_200 : q_LV "NumberHouseModel" 200 y_WR_powerModulo prog_19_method_35_code 7 none 4 := ⟨w_2772, w_15, w_2769, w_2770, w_2771, ⟨by decide, by decide, by decide +kernel⟩⟩
theorem d_14_22_57 : decode prog_14_method_22_code 57 = .ok (.aload_n 0, 1) := by decide +kernel
theorem d_14_22_58 : decode prog_14_method_22_code 58 = .ok (.aload_n 0, 1) := by decide +kernel
theorem d_14_22_59 : decode prog_14_method_22_code 59 = .ok (.getfield 19, 3) := by decide +kernel
theorem d_14_22_62 : decode prog_14_method_22_code 62 = .ok (.getfield 99, 3) := by decide +kernel
theorem d_14_22_65 : decode prog_14_method_22_code 65 = .ok (.putfield 58, 3) := by decide +kernel
theorem d_14_22_30 : decode prog_14_method_22_code 30 = .ok (.iconst 1, 1) := by decide +kernel
theorem d_14_22_31 : decode prog_14_method_22_code 31 = .ok (.goto 4, 3) := by decide +kernel
theorem d_14_22_5 : decode prog_14_method_22_code 5 = .ok (.ifCond .ne 25, 3) := by decide +kernel
theorem d_14_22_8 : decode prog_14_method_22_code 8 = .ok (.iload_n 2, 1) := by decide +kernel
theorem d_14_22_9 : decode prog_14_method_22_code 9 = .ok (.invokestatic 70, 3) := by decide +kernel
theorem d_14_22_12 : decode prog_14_method_22_code 12 = .ok (.ifCond .ne 18, 3) := by decide +kernel
theorem d_14_22_15 : decode prog_14_method_22_code 15 = .ok (.iload_n 3, 1) := by decide +kernel
theorem d_14_22_16 : decode prog_14_method_22_code 16 = .ok (.invokestatic 70, 3) := by decide +kernel
theorem d_14_22_19 : decode prog_14_method_22_code 19 = .ok (.ifCond .ne 11, 3) := by decide +kernel
theorem d_14_22_22 : decode prog_14_method_22_code 22 = .ok (.iload 4, 2) := by decide +kernel
theorem d_14_22_24 : decode prog_14_method_22_code 24 = .ok (.invokestatic 70, 3) := by decide +kernel
theorem d_14_22_27 : decode prog_14_method_22_code 27 = .ok (.ifCond .eq 7, 3) := by decide +kernel
theorem d_14_22_34 : decode prog_14_method_22_code 34 = .ok (.iconst 0, 1) := by decide +kernel
def y_NM_powerModulo : MethodName := ⟨"NumberHouseModel", "powerModulo", "(IIII)V"⟩
def F_NM_powerModulo_c54 (x2 : Int32) (x3 : Int32) (x4 : Int32) (x5 : Int32) (t0_0 : Int32) (t0_1 : Int32) (t0_2 : Int32) (t1_0 : Int32) (t1_1 : Int32) (t1_2 : Int32) (t1_3 : Int32) (t1_4 : Int32) (t1_5 : Int32) (t1_6 : Int32) (t2_0 : (Nat → Int32)) (t3_0 : (Nat → Int32)) (t4_0 : (Nat → Int32)) (t5_0 : (Nat → Int32)) (t6_0 : (Nat → Int32)) (t7_0 : (Nat → Int32)) (t8_0 : (Nat → Int32)) (t9_0 : (Nat → Int32)) (t10_0 : (Nat → Int32)) (t11_0 : (Nat → Int32)) (t12_0 : (Nat → Int32)) (t13_0 : (Nat → Int32)) (lx63 : Int32) (p140 : (Int32 × Int32 × Int32 × Int32 × Int32 × Int32 × Int32 × (Nat → Int32) × (Nat → Int32) × (Nat → Int32) × (Nat → Int32) × (Nat → Int32) × (Nat → Int32) × (Nat → Int32) × (Nat → Int32) × (Nat → Int32) × (Nat → Int32) × (Nat → Int32) × (Nat → Int32))) : Int32 × Int32 × Int32 × Int32 × Int32 × Int32 × Int32 × Int32 × Int32 × Int32 × (Nat → Int32) × (Nat → Int32) × (Nat → Int32) × (Nat → Int32) × (Nat → Int32) × (Nat → Int32) × (Nat → Int32) × (Nat → Int32) × (Nat → Int32) × (Nat → Int32) × (Nat → Int32) × (Nat → Int32) := ((p140.1 : Int32), t0_1, t0_2, (p140.1 : Int32), (p140.2.1 : Int32), (p140.2.2.1 : Int32), (p140.2.2.2.1 : Int32), (p140.2.2.2.2.1 : Int32), (p140.2.2.2.2.2.1 : Int32), (p140.2.2.2.2.2.2.1 : Int32), (p140.2.2.2.2.2.2.2.1 : (Nat → Int32)), (p140.2.2.2.2.2.2.2.2.1 : (Nat → Int32)), (p140.2.2.2.2.2.2.2.2.2.1 : (Nat → Int32)), (p140.2.2.2.2.2.2.2.2.2.2.1 : (Nat → Int32)), (p140.2.2.2.2.2.2.2.2.2.2.2.1 : (Nat → Int32)), (p140.2.2.2.2.2.2.2.2.2.2.2.2.1 : (Nat → Int32)), (p140.2.2.2.2.2.2.2.2.2.2.2.2.2.1 : (Nat → Int32)), (p140.2.2.2.2.2.2.2.2.2.2.2.2.2.2.1 : (Nat → Int32)), (p140.2.2.2.2.2.2.2.2.2.2.2.2.2.2.2.1 : (Nat → Int32)), (p140.2.2.2.2.2.2.2.2.2.2.2.2.2.2.2.2.1 : (Nat → Int32)), (p140.2.2.2.2.2.2.2.2.2.2.2.2.2.2.2.2.2.1 : (Nat → Int32)), (p140.2.2.2.2.2.2.2.2.2.2.2.2.2.2.2.2.2.2 : (Nat → Int32)))
def F_NM_powerModulo_J35 (x2 : Int32) (x3 : Int32) (x4 : Int32) (x5 : Int32) (t0_0 : Int32) (t0_1 : Int32) (t0_2 : Int32) (t1_0 : Int32) (t1_1 : Int32) (t1_2 : Int32) (t1_3 : Int32) (t1_4 : Int32) (t1_5 : Int32) (t1_6 : Int32) (t2_0 : (Nat → Int32)) (t3_0 : (Nat → Int32)) (t4_0 : (Nat → Int32)) (t5_0 : (Nat → Int32)) (t6_0 : (Nat → Int32)) (t7_0 : (Nat → Int32)) (t8_0 : (Nat → Int32)) (t9_0 : (Nat → Int32)) (t10_0 : (Nat → Int32)) (t11_0 : (Nat → Int32)) (t12_0 : (Nat → Int32)) (t13_0 : (Nat → Int32)) (lx63 : Int32) : Int32 × Int32 × Int32 × Int32 × Int32 × Int32 × Int32 × Int32 × Int32 × Int32 × (Nat → Int32) × (Nat → Int32) × (Nat → Int32) × (Nat → Int32) × (Nat → Int32) × (Nat → Int32) × (Nat → Int32) × (Nat → Int32) × (Nat → Int32) × (Nat → Int32) × (Nat → Int32) × (Nat → Int32) := if lx63 = (0 : Int32) then (F_NM_powerModulo_c54 x2 x3 x4 x5 t0_0 t0_1 t0_2 t1_0 t1_1 t1_2 t1_3 t1_4 t1_5 t1_6 t2_0 t3_0 t4_0 t5_0 t6_0 t7_0 t8_0 t9_0 t10_0 t11_0 t12_0 t13_0 lx63 ((F_WR_powerModulo x2 x3 x4 x5 t1_0 t1_1 t1_2 t1_3 t1_4 t1_5 t1_6 t2_0 t3_0 t4_0 t5_0 t6_0 t7_0 t8_0 t9_0 t10_0 t11_0 t12_0 t13_0) : (Int32 × Int32 × Int32 × Int32 × Int32 × Int32 × Int32 × (Nat → Int32) × (Nat → Int32) × (Nat → Int32) × (Nat → Int32) × (Nat → Int32) × (Nat → Int32) × (Nat → Int32) × (Nat → Int32) × (Nat → Int32) × (Nat → Int32) × (Nat → Int32) × (Nat → Int32)))) else ((lx63, t0_1, t0_2, t1_0, t1_1, t1_2, t1_3, t1_4, t1_5, t1_6, t2_0, t3_0, t4_0, t5_0, t6_0, t7_0, t8_0, t9_0, t10_0, t11_0, t12_0, t13_0))
def F_NM_powerModulo_J30 (x2 : Int32) (x3 : Int32) (x4 : Int32) (x5 : Int32) (t0_0 : Int32) (t0_1 : Int32) (t0_2 : Int32) (t1_0 : Int32) (t1_1 : Int32) (t1_2 : Int32) (t1_3 : Int32) (t1_4 : Int32) (t1_5 : Int32) (t1_6 : Int32) (t2_0 : (Nat → Int32)) (t3_0 : (Nat → Int32)) (t4_0 : (Nat → Int32)) (t5_0 : (Nat → Int32)) (t6_0 : (Nat → Int32)) (t7_0 : (Nat → Int32)) (t8_0 : (Nat → Int32)) (t9_0 : (Nat → Int32)) (t10_0 : (Nat → Int32)) (t11_0 : (Nat → Int32)) (t12_0 : (Nat → Int32)) (t13_0 : (Nat → Int32)) : Int32 × Int32 × Int32 × Int32 × Int32 × Int32 × Int32 × Int32 × Int32 × Int32 × (Nat → Int32) × (Nat → Int32) × (Nat → Int32) × (Nat → Int32) × (Nat → Int32) × (Nat → Int32) × (Nat → Int32) × (Nat → Int32) × (Nat → Int32) × (Nat → Int32) × (Nat → Int32) × (Nat → Int32) := F_NM_powerModulo_J35 x2 x3 x4 x5 t0_0 t0_1 t0_2 t1_0 t1_1 t1_2 t1_3 t1_4 t1_5 t1_6 t2_0 t3_0 t4_0 t5_0 t6_0 t7_0 t8_0 t9_0 t10_0 t11_0 t12_0 t13_0 1
def F_NM_powerModulo (x2 : Int32) (x3 : Int32) (x4 : Int32) (x5 : Int32) (t0_0 : Int32) (t0_1 : Int32) (t0_2 : Int32) (t1_0 : Int32) (t1_1 : Int32) (t1_2 : Int32) (t1_3 : Int32) (t1_4 : Int32) (t1_5 : Int32) (t1_6 : Int32) (t2_0 : (Nat → Int32)) (t3_0 : (Nat → Int32)) (t4_0 : (Nat → Int32)) (t5_0 : (Nat → Int32)) (t6_0 : (Nat → Int32)) (t7_0 : (Nat → Int32)) (t8_0 : (Nat → Int32)) (t9_0 : (Nat → Int32)) (t10_0 : (Nat → Int32)) (t11_0 : (Nat → Int32)) (t12_0 : (Nat → Int32)) (t13_0 : (Nat → Int32)) : Int32 × Int32 × Int32 × Int32 × Int32 × Int32 × Int32 × Int32 × Int32 × Int32 × (Nat → Int32) × (Nat → Int32) × (Nat → Int32) × (Nat → Int32) × (Nat → Int32) × (Nat → Int32) × (Nat → Int32) × (Nat → Int32) × (Nat → Int32) × (Nat → Int32) × (Nat → Int32) × (Nat → Int32) := if ((F_NM_no_IZ x2) : Int32) = (0 : Int32) then (if ((F_NM_no_IZ x3) : Int32) = (0 : Int32) then (if ((F_NM_no_IZ x4) : Int32) = (0 : Int32) then (if ((F_NM_no_IZ x5) : Int32) = (0 : Int32) then (F_NM_powerModulo_J35 x2 x3 x4 x5 t0_0 t0_1 t0_2 t1_0 t1_1 t1_2 t1_3 t1_4 t1_5 t1_6 t2_0 t3_0 t4_0 t5_0 t6_0 t7_0 t8_0 t9_0 t10_0 t11_0 t12_0 t13_0 0) else (F_NM_powerModulo_J30 x2 x3 x4 x5 t0_0 t0_1 t0_2 t1_0 t1_1 t1_2 t1_3 t1_4 t1_5 t1_6 t2_0 t3_0 t4_0 t5_0 t6_0 t7_0 t8_0 t9_0 t10_0 t11_0 t12_0 t13_0)) else (F_NM_powerModulo_J30 x2 x3 x4 x5 t0_0 t0_1 t0_2 t1_0 t1_1 t1_2 t1_3 t1_4 t1_5 t1_6 t2_0 t3_0 t4_0 t5_0 t6_0 t7_0 t8_0 t9_0 t10_0 t11_0 t12_0 t13_0)) else (F_NM_powerModulo_J30 x2 x3 x4 x5 t0_0 t0_1 t0_2 t1_0 t1_1 t1_2 t1_3 t1_4 t1_5 t1_6 t2_0 t3_0 t4_0 t5_0 t6_0 t7_0 t8_0 t9_0 t10_0 t11_0 t12_0 t13_0)) else (F_NM_powerModulo_J30 x2 x3 x4 x5 t0_0 t0_1 t0_2 t1_0 t1_1 t1_2 t1_3 t1_4 t1_5 t1_6 t2_0 t3_0 t4_0 t5_0 t6_0 t7_0 t8_0 t9_0 t10_0 t11_0 t12_0 t13_0)
def S_NM_powerModulo_c54 (x2 : Int32) (x3 : Int32) (x4 : Int32) (x5 : Int32) (t0_0 : Int32) (t0_1 : Int32) (t0_2 : Int32) (t1_0 : Int32) (t1_1 : Int32) (t1_2 : Int32) (t1_3 : Int32) (t1_4 : Int32) (t1_5 : Int32) (t1_6 : Int32) (t2_0 : (Nat → Int32)) (t3_0 : (Nat → Int32)) (t4_0 : (Nat → Int32)) (t5_0 : (Nat → Int32)) (t6_0 : (Nat → Int32)) (t7_0 : (Nat → Int32)) (t8_0 : (Nat → Int32)) (t9_0 : (Nat → Int32)) (t10_0 : (Nat → Int32)) (t11_0 : (Nat → Int32)) (t12_0 : (Nat → Int32)) (t13_0 : (Nat → Int32)) (lx63 : Int32) (p140 : (Int32 × Int32 × Int32 × Int32 × Int32 × Int32 × Int32 × (Nat → Int32) × (Nat → Int32) × (Nat → Int32) × (Nat → Int32) × (Nat → Int32) × (Nat → Int32) × (Nat → Int32) × (Nat → Int32) × (Nat → Int32) × (Nat → Int32) × (Nat → Int32) × (Nat → Int32))) : Prop := True
def S_NM_powerModulo_J35 (x2 : Int32) (x3 : Int32) (x4 : Int32) (x5 : Int32) (t0_0 : Int32) (t0_1 : Int32) (t0_2 : Int32) (t1_0 : Int32) (t1_1 : Int32) (t1_2 : Int32) (t1_3 : Int32) (t1_4 : Int32) (t1_5 : Int32) (t1_6 : Int32) (t2_0 : (Nat → Int32)) (t3_0 : (Nat → Int32)) (t4_0 : (Nat → Int32)) (t5_0 : (Nat → Int32)) (t6_0 : (Nat → Int32)) (t7_0 : (Nat → Int32)) (t8_0 : (Nat → Int32)) (t9_0 : (Nat → Int32)) (t10_0 : (Nat → Int32)) (t11_0 : (Nat → Int32)) (t12_0 : (Nat → Int32)) (t13_0 : (Nat → Int32)) (lx63 : Int32) : Prop := if lx63 = (0 : Int32) then ((True ∧ S_WR_powerModulo x2 x3 x4 x5 t1_0 t1_1 t1_2 t1_3 t1_4 t1_5 t1_6 t2_0 t3_0 t4_0 t5_0 t6_0 t7_0 t8_0 t9_0 t10_0 t11_0 t12_0 t13_0) ∧ (S_NM_powerModulo_c54 x2 x3 x4 x5 t0_0 t0_1 t0_2 t1_0 t1_1 t1_2 t1_3 t1_4 t1_5 t1_6 t2_0 t3_0 t4_0 t5_0 t6_0 t7_0 t8_0 t9_0 t10_0 t11_0 t12_0 t13_0 lx63 ((F_WR_powerModulo x2 x3 x4 x5 t1_0 t1_1 t1_2 t1_3 t1_4 t1_5 t1_6 t2_0 t3_0 t4_0 t5_0 t6_0 t7_0 t8_0 t9_0 t10_0 t11_0 t12_0 t13_0) : (Int32 × Int32 × Int32 × Int32 × Int32 × Int32 × Int32 × (Nat → Int32) × (Nat → Int32) × (Nat → Int32) × (Nat → Int32) × (Nat → Int32) × (Nat → Int32) × (Nat → Int32) × (Nat → Int32) × (Nat → Int32) × (Nat → Int32) × (Nat → Int32) × (Nat → Int32))))) else (True)
def S_NM_powerModulo_J30 (x2 : Int32) (x3 : Int32) (x4 : Int32) (x5 : Int32) (t0_0 : Int32) (t0_1 : Int32) (t0_2 : Int32) (t1_0 : Int32) (t1_1 : Int32) (t1_2 : Int32) (t1_3 : Int32) (t1_4 : Int32) (t1_5 : Int32) (t1_6 : Int32) (t2_0 : (Nat → Int32)) (t3_0 : (Nat → Int32)) (t4_0 : (Nat → Int32)) (t5_0 : (Nat → Int32)) (t6_0 : (Nat → Int32)) (t7_0 : (Nat → Int32)) (t8_0 : (Nat → Int32)) (t9_0 : (Nat → Int32)) (t10_0 : (Nat → Int32)) (t11_0 : (Nat → Int32)) (t12_0 : (Nat → Int32)) (t13_0 : (Nat → Int32)) : Prop := S_NM_powerModulo_J35 x2 x3 x4 x5 t0_0 t0_1 t0_2 t1_0 t1_1 t1_2 t1_3 t1_4 t1_5 t1_6 t2_0 t3_0 t4_0 t5_0 t6_0 t7_0 t8_0 t9_0 t10_0 t11_0 t12_0 t13_0 1
def S_NM_powerModulo (x2 : Int32) (x3 : Int32) (x4 : Int32) (x5 : Int32) (t0_0 : Int32) (t0_1 : Int32) (t0_2 : Int32) (t1_0 : Int32) (t1_1 : Int32) (t1_2 : Int32) (t1_3 : Int32) (t1_4 : Int32) (t1_5 : Int32) (t1_6 : Int32) (t2_0 : (Nat → Int32)) (t3_0 : (Nat → Int32)) (t4_0 : (Nat → Int32)) (t5_0 : (Nat → Int32)) (t6_0 : (Nat → Int32)) (t7_0 : (Nat → Int32)) (t8_0 : (Nat → Int32)) (t9_0 : (Nat → Int32)) (t10_0 : (Nat → Int32)) (t11_0 : (Nat → Int32)) (t12_0 : (Nat → Int32)) (t13_0 : (Nat → Int32)) : Prop := if ((F_NM_no_IZ x2) : Int32) = (0 : Int32) then (if ((F_NM_no_IZ x3) : Int32) = (0 : Int32) then (if ((F_NM_no_IZ x4) : Int32) = (0 : Int32) then (if ((F_NM_no_IZ x5) : Int32) = (0 : Int32) then (S_NM_powerModulo_J35 x2 x3 x4 x5 t0_0 t0_1 t0_2 t1_0 t1_1 t1_2 t1_3 t1_4 t1_5 t1_6 t2_0 t3_0 t4_0 t5_0 t6_0 t7_0 t8_0 t9_0 t10_0 t11_0 t12_0 t13_0 0) else (S_NM_powerModulo_J30 x2 x3 x4 x5 t0_0 t0_1 t0_2 t1_0 t1_1 t1_2 t1_3 t1_4 t1_5 t1_6 t2_0 t3_0 t4_0 t5_0 t6_0 t7_0 t8_0 t9_0 t10_0 t11_0 t12_0 t13_0)) else (S_NM_powerModulo_J30 x2 x3 x4 x5 t0_0 t0_1 t0_2 t1_0 t1_1 t1_2 t1_3 t1_4 t1_5 t1_6 t2_0 t3_0 t4_0 t5_0 t6_0 t7_0 t8_0 t9_0 t10_0 t11_0 t12_0 t13_0)) else (S_NM_powerModulo_J30 x2 x3 x4 x5 t0_0 t0_1 t0_2 t1_0 t1_1 t1_2 t1_3 t1_4 t1_5 t1_6 t2_0 t3_0 t4_0 t5_0 t6_0 t7_0 t8_0 t9_0 t10_0 t11_0 t12_0 t13_0)) else (S_NM_powerModulo_J30 x2 x3 x4 x5 t0_0 t0_1 t0_2 t1_0 t1_1 t1_2 t1_3 t1_4 t1_5 t1_6 t2_0 t3_0 t4_0 t5_0 t6_0 t7_0 t8_0 t9_0 t10_0 t11_0 t12_0 t13_0)
set_option maxRecDepth 100000 in
set_option maxHeartbeats 4000000 in
theorem X_NM_powerModulo (l : Launch) (D : va_G) (g : Nat → ClassId) (q : Nat → Nat) (ws : va_W) (x2 : Int32) (x3 : Int32) (x4 : Int32) (x5 : Int32) (hI : q_I (msh g q) q ws) (t0_0 : Int32) (t0_1 : Int32) (t0_2 : Int32) (hT0 : ws[116]? = (some (q 116, .inr (12, [.int t0_0, .ref (q 117), .int t0_1, .ref (q 118), .int t0_2, .ref (q 119), .ref (q 134), .ref (q 145), .ref (q 153), .ref (q 157), .ref (q 167), .ref (q 168)])) : Option (Nat × va_E))) (t1_0 : Int32) (t1_1 : Int32) (t1_2 : Int32) (t1_3 : Int32) (t1_4 : Int32) (t1_5 : Int32) (t1_6 : Int32) (hT1 : ws[119]? = (some (q 119, .inr (13, [.int t1_0, .int t1_1, .ref (q 120), .int t1_2, .ref (q 121), .ref (q 122), .ref (q 123), .int t1_3, .ref (q 124), .ref (q 125), .ref (q 126), .ref (q 127), .ref (q 128), .ref (q 129), .ref (q 130), .ref (q 131), .int t1_4, .int t1_5, .ref (q 132), .ref (q 133), .int t1_6])) : Option (Nat × va_E))) (t2_0 : (Nat → Int32)) (hT2 : ws[121]? = (some (q 121, .inl (g 0, (1408 : Int32).toNatClampNeg, .inl t2_0)) : Option (Nat × va_E))) (t3_0 : (Nat → Int32)) (hT3 : ws[122]? = (some (q 122, .inl (g 3, 11, .inl t3_0)) : Option (Nat × va_E))) (t4_0 : (Nat → Int32)) (hT4 : ws[123]? = (some (q 123, .inl (g 0, (264 : Int32).toNatClampNeg, .inl t4_0)) : Option (Nat × va_E))) (t5_0 : (Nat → Int32)) (hT5 : ws[124]? = (some (q 124, .inl (g 0, (264 : Int32).toNatClampNeg, .inl t5_0)) : Option (Nat × va_E))) (t6_0 : (Nat → Int32)) (hT6 : ws[125]? = (some (q 125, .inl (g 0, (528 : Int32).toNatClampNeg, .inl t6_0)) : Option (Nat × va_E))) (t7_0 : (Nat → Int32)) (hT7 : ws[126]? = (some (q 126, .inl (g 0, (264 : Int32).toNatClampNeg, .inl t7_0)) : Option (Nat × va_E))) (t8_0 : (Nat → Int32)) (hT8 : ws[127]? = (some (q 127, .inl (g 0, (264 : Int32).toNatClampNeg, .inl t8_0)) : Option (Nat × va_E))) (t9_0 : (Nat → Int32)) (hT9 : ws[128]? = (some (q 128, .inl (g 0, (264 : Int32).toNatClampNeg, .inl t9_0)) : Option (Nat × va_E))) (t10_0 : (Nat → Int32)) (hT10 : ws[129]? = (some (q 129, .inl (g 0, (264 : Int32).toNatClampNeg, .inl t10_0)) : Option (Nat × va_E))) (t11_0 : (Nat → Int32)) (hT11 : ws[130]? = (some (q 130, .inl (g 0, (264 : Int32).toNatClampNeg, .inl t11_0)) : Option (Nat × va_E))) (t12_0 : (Nat → Int32)) (hT12 : ws[131]? = (some (q 131, .inl (g 0, (264 : Int32).toNatClampNeg, .inl t12_0)) : Option (Nat × va_E))) (t13_0 : (Nat → Int32)) (hT13 : ws[132]? = (some (q 132, .inl (g 0, (264 : Int32).toNatClampNeg, .inl t13_0)) : Option (Nat × va_E))) (hS : True ∧ S_NM_powerModulo x2 x3 x4 x5 t0_0 t0_1 t0_2 t1_0 t1_1 t1_2 t1_3 t1_4 t1_5 t1_6 t2_0 t3_0 t4_0 t5_0 t6_0 t7_0 t8_0 t9_0 t10_0 t11_0 t12_0 t13_0) : q_mV l y_NM_powerModulo prog_14_method_22_code 5 5 0 0 D g [.ref (q 116), .int x2, .int x3, .int x4, .int x5] ws (fun u => q_I (msh g q) q u ∧ q_un ws u [116, 119, 121, 122, 123, 124, 125, 126, 127, 128, 129, 130, 131, 132] ∧ ∃ (u0_0 : Int32) (u0_1 : Int32) (u0_2 : Int32) (u1_0 : Int32) (u1_1 : Int32) (u1_2 : Int32) (u1_3 : Int32) (u1_4 : Int32) (u1_5 : Int32) (u1_6 : Int32) (u2_0 : (Nat → Int32)) (u3_0 : (Nat → Int32)) (u4_0 : (Nat → Int32)) (u5_0 : (Nat → Int32)) (u6_0 : (Nat → Int32)) (u7_0 : (Nat → Int32)) (u8_0 : (Nat → Int32)) (u9_0 : (Nat → Int32)) (u10_0 : (Nat → Int32)) (u11_0 : (Nat → Int32)) (u12_0 : (Nat → Int32)) (u13_0 : (Nat → Int32)), u[116]? = (some (q 116, .inr (12, [.int u0_0, .ref (q 117), .int u0_1, .ref (q 118), .int u0_2, .ref (q 119), .ref (q 134), .ref (q 145), .ref (q 153), .ref (q 157), .ref (q 167), .ref (q 168)])) : Option (Nat × va_E)) ∧ u[119]? = (some (q 119, .inr (13, [.int u1_0, .int u1_1, .ref (q 120), .int u1_2, .ref (q 121), .ref (q 122), .ref (q 123), .int u1_3, .ref (q 124), .ref (q 125), .ref (q 126), .ref (q 127), .ref (q 128), .ref (q 129), .ref (q 130), .ref (q 131), .int u1_4, .int u1_5, .ref (q 132), .ref (q 133), .int u1_6])) : Option (Nat × va_E)) ∧ u[121]? = (some (q 121, .inl (g 0, (1408 : Int32).toNatClampNeg, .inl u2_0)) : Option (Nat × va_E)) ∧ u[122]? = (some (q 122, .inl (g 3, 11, .inl u3_0)) : Option (Nat × va_E)) ∧ u[123]? = (some (q 123, .inl (g 0, (264 : Int32).toNatClampNeg, .inl u4_0)) : Option (Nat × va_E)) ∧ u[124]? = (some (q 124, .inl (g 0, (264 : Int32).toNatClampNeg, .inl u5_0)) : Option (Nat × va_E)) ∧ u[125]? = (some (q 125, .inl (g 0, (528 : Int32).toNatClampNeg, .inl u6_0)) : Option (Nat × va_E)) ∧ u[126]? = (some (q 126, .inl (g 0, (264 : Int32).toNatClampNeg, .inl u7_0)) : Option (Nat × va_E)) ∧ u[127]? = (some (q 127, .inl (g 0, (264 : Int32).toNatClampNeg, .inl u8_0)) : Option (Nat × va_E)) ∧ u[128]? = (some (q 128, .inl (g 0, (264 : Int32).toNatClampNeg, .inl u9_0)) : Option (Nat × va_E)) ∧ u[129]? = (some (q 129, .inl (g 0, (264 : Int32).toNatClampNeg, .inl u10_0)) : Option (Nat × va_E)) ∧ u[130]? = (some (q 130, .inl (g 0, (264 : Int32).toNatClampNeg, .inl u11_0)) : Option (Nat × va_E)) ∧ u[131]? = (some (q 131, .inl (g 0, (264 : Int32).toNatClampNeg, .inl u12_0)) : Option (Nat × va_E)) ∧ u[132]? = (some (q 132, .inl (g 0, (264 : Int32).toNatClampNeg, .inl u13_0)) : Option (Nat × va_E)) ∧ (0 ≤ u1_3.toInt) ∧ (u1_3.toInt ≤ 1) ∧ (0 ≤ u1_4.toInt) ∧ (u1_4.toInt ≤ 1) ∧ (0 ≤ u1_5.toInt) ∧ (u1_5.toInt ≤ 1) ∧ (t0_1.toInt ≤ u0_1.toInt) ∧ (u0_1.toInt ≤ t0_1.toInt) ∧ (t0_2.toInt ≤ u0_2.toInt) ∧ (u0_2.toInt ≤ t0_2.toInt) ∧ (t1_1.toInt ≤ u1_1.toInt) ∧ (u1_1.toInt ≤ t1_1.toInt) ∧ (t1_2.toInt ≤ u1_2.toInt) ∧ (u1_2.toInt ≤ t1_2.toInt) ∧ (t1_6.toInt ≤ u1_6.toInt) ∧ (u1_6.toInt ≤ t1_6.toInt) ∧ (u0_0, u0_1, u0_2, u1_0, u1_1, u1_2, u1_3, u1_4, u1_5, u1_6, u2_0, u3_0, u4_0, u5_0, u6_0, u7_0, u8_0, u9_0, u10_0, u11_0, u12_0, u13_0) = (F_NM_powerModulo x2 x3 x4 x5 t0_0 t0_1 t0_2 t1_0 t1_1 t1_2 t1_3 t1_4 t1_5 t1_6 t2_0 t3_0 t4_0 t5_0 t6_0 t7_0 t8_0 t9_0 t10_0 t11_0 t12_0 t13_0)) := by
  intro sz
  refine q_into (by decide) (Nat.le_of_ble_eq_true rfl) ?_
  intro p e s m below meth c ls hsz C0 V hl
  have hx := C0.1
  have hb := C0.2.1
  obtain ⟨yy0_0, yy0_1, yy0_2, hh0, btt0_1, btt0_2⟩ := n_o116 hI
  obtain ⟨rfl, rfl, rfl⟩ : t0_0 = yy0_0 ∧ t0_1 = yy0_1 ∧ t0_2 = yy0_2 := by have z := Option.some.inj (hT0.symm.trans hh0); simpa using z
  replace btt0_1 : q_F (0 ≤ t0_1.toInt ∧ t0_1.toInt ≤ 4100) := btt0_1
  replace btt0_2 : q_F (0 ≤ t0_2.toInt ∧ t0_2.toInt ≤ 12200) := btt0_2
  obtain ⟨yy1_0, yy1_1, yy1_2, yy1_3, yy1_4, yy1_5, yy1_6, hh1, btt1_2, btt1_3, btt1_4, btt1_5, btt1_6⟩ := n_o119 hI
  obtain ⟨rfl, rfl, rfl, rfl, rfl, rfl, rfl⟩ : t1_0 = yy1_0 ∧ t1_1 = yy1_1 ∧ t1_2 = yy1_2 ∧ t1_3 = yy1_3 ∧ t1_4 = yy1_4 ∧ t1_5 = yy1_5 ∧ t1_6 = yy1_6 := by have z := Option.some.inj (hT1.symm.trans hh1); simpa using z
  replace btt1_2 : q_F (0 ≤ t1_2.toInt ∧ t1_2.toInt ≤ 4100) := btt1_2
  replace btt1_3 : q_F (0 ≤ t1_3.toInt ∧ t1_3.toInt ≤ 1) := btt1_3
  replace btt1_4 : q_F (0 ≤ t1_4.toInt ∧ t1_4.toInt ≤ 1) := btt1_4
  replace btt1_5 : q_F (0 ≤ t1_5.toInt ∧ t1_5.toInt ≤ 1) := btt1_5
  replace btt1_6 : q_F (0 ≤ t1_6.toInt ∧ t1_6.toInt ≤ 2100) := btt1_6
  have hF : q_un ws ws [116, 119, 121, 122, 123, 124, 125, 126, 127, 128, 129, 130, 131, 132] := q_u0
  have hl : lv_has ls 5 [(0, .ref (q 116)), (1, .int x2), (2, .int x3), (3, .int x4), (4, .int x5)] := hl
  refine lv_aload_n hx hb d_14_22_0 rfl (lv_at hl 0 rfl) ?_
  refine lv_iload_n hx hb d_14_22_1 rfl (lv_at hl 1 rfl) ?_
  refine q_goi V (q_runS (As := [.int x2]) (rest := [.ref (q 116)]) (d := 1) (mc := 0) (ms := 0) C0 V rfl LS_NM_70 (X_NM_no_IZ l D g q ws  x2 hI   _) rfl hl.1 rfl (Nat.le_of_ble_eq_true rfl) ⟨by decide, by decide⟩ ⟨Nat.le_of_ble_eq_true rfl, Nat.le_of_ble_eq_true rfl⟩ d_14_22_2) (fun a58 u56 H locs hp57 V => ?_)
  obtain ⟨rfl, b59, b60, hE61⟩ := hp57
  have e62 : a58 = (F_NM_no_IZ x2) := hE61
  replace b59 : q_F (0 ≤ a58.toInt) := b59
  replace b60 : q_F (a58.toInt ≤ 1) := b60
  refine q_join (X := Int32) (fun z H locs ls _ => q_F (0 ≤ z.toInt) ∧ q_F (z.toInt ≤ 1) ∧ q_Wd D g (va_A ws sz) s ws H locs ∧ lv_has ls 5 [(0, .ref (q 116)), (1, .int x2), (2, .int x3), (3, .int x4), (4, .int x5)] ∧ F_NM_powerModulo_J35 x2 x3 x4 x5 t0_0 t0_1 t0_2 t1_0 t1_1 t1_2 t1_3 t1_4 t1_5 t1_6 t2_0 t3_0 t4_0 t5_0 t6_0 t7_0 t8_0 t9_0 t10_0 t11_0 t12_0 t13_0 z = (F_NM_powerModulo x2 x3 x4 x5 t0_0 t0_1 t0_2 t1_0 t1_1 t1_2 t1_3 t1_4 t1_5 t1_6 t2_0 t3_0 t4_0 t5_0 t6_0 t7_0 t8_0 t9_0 t10_0 t11_0 t12_0 t13_0) ∧ True ∧ S_NM_powerModulo_J35 x2 x3 x4 x5 t0_0 t0_1 t0_2 t1_0 t1_1 t1_2 t1_3 t1_4 t1_5 t1_6 t2_0 t3_0 t4_0 t5_0 t6_0 t7_0 t8_0 t9_0 t10_0 t11_0 t12_0 t13_0 z) (fun z => [.int z, .ref (q 116)]) 35 0 0 ?_ ?_
  ·
    rintro lx63 H locs ls _ ⟨i79, i80, V, hl, hR81, hS82⟩
    replace i79 : q_F (0 ≤ lx63.toInt) := i79
    replace i80 : q_F (lx63.toInt ≤ 1) := i80
    replace hl : lv_has ls 5 [(0, .ref (q 116)), (1, .int x2), (2, .int x3), (3, .int x4), (4, .int x5)] := hl
    refine q_put (ci := 12) (j := 0) (v := .int lx63) (ty := .int) C0 V i_NM o_NM n_NM rfl rfl hT0 (by decide) w_2298 rfl rfl rfl rfl (Nat.le_of_ble_eq_true rfl) d_14_22_35 (fun H locs w86 hu87 hT0 V => ?_)
    replace hT0 : w86[116]? = (some (q 116, .inr (12, [.int lx63, .ref (q 117), .int t0_1, .ref (q 118), .int t0_2, .ref (q 119), .ref (q 134), .ref (q 145), .ref (q 153), .ref (q 157), .ref (q 167), .ref (q 168)])) : Option (Nat × va_E)) := hT0
    replace hI := n_p116 hI hu87 hT0 ⟨(by have t1 : 0 ≤ t0_1.toInt ∧ t0_1.toInt ≤ 4100 := btt0_1; omega), (by have t1 : 0 ≤ t0_1.toInt ∧ t0_1.toInt ≤ 4100 := btt0_1; omega)⟩ ⟨(by have t1 : 0 ≤ t0_2.toInt ∧ t0_2.toInt ≤ 12200 := btt0_2; omega), (by have t1 : 0 ≤ t0_2.toInt ∧ t0_2.toInt ≤ 12200 := btt0_2; omega)⟩
    replace hT1 := (hu87 _ (by decide)).trans hT1
    replace hT2 := (hu87 _ (by decide)).trans hT2
    replace hT3 := (hu87 _ (by decide)).trans hT3
    replace hT4 := (hu87 _ (by decide)).trans hT4
    replace hT5 := (hu87 _ (by decide)).trans hT5
    replace hT6 := (hu87 _ (by decide)).trans hT6
    replace hT7 := (hu87 _ (by decide)).trans hT7
    replace hT8 := (hu87 _ (by decide)).trans hT8
    replace hT9 := (hu87 _ (by decide)).trans hT9
    replace hT10 := (hu87 _ (by decide)).trans hT10
    replace hT11 := (hu87 _ (by decide)).trans hT11
    replace hT12 := (hu87 _ (by decide)).trans hT12
    replace hT13 := (hu87 _ (by decide)).trans hT13
    replace hF := q_us hF hu87 (by simp)
    refine lv_aload_n hx hb d_14_22_38 rfl (lv_at hl 0 rfl) ?_
    refine q_get (ci := 12) (j := 0) (v := .int lx63) C0 V i_NM rfl rfl hT0 (by decide) w_2298 rfl d_14_22_39 ?_
    refine lv_if_ne (tgt := 68) hx hb d_14_22_42 (by decide) (fun c88 => ?_) (fun c88 => ?_)
    ·
      have b89 : q_F (lx63.toInt ≠ 0) := (q_neI c88)
      exact q_retv C0 V (⟨hI, hF, lx63, t0_1, t0_2, t1_0, t1_1, t1_2, t1_3, t1_4, t1_5, t1_6, t2_0, t3_0, t4_0, t5_0, t6_0, t7_0, t8_0, t9_0, t10_0, t11_0, t12_0, t13_0, hT0, hT1, hT2, hT3, hT4, hT5, hT6, hT7, hT8, hT9, hT10, hT11, hT12, hT13, (show 0 ≤ t1_3.toInt from (by have t1 : 0 ≤ t1_3.toInt ∧ t1_3.toInt ≤ 1 := btt1_3; omega)), (show t1_3.toInt ≤ 1 from (by have t1 : 0 ≤ t1_3.toInt ∧ t1_3.toInt ≤ 1 := btt1_3; omega)), (show 0 ≤ t1_4.toInt from (by have t1 : 0 ≤ t1_4.toInt ∧ t1_4.toInt ≤ 1 := btt1_4; omega)), (show t1_4.toInt ≤ 1 from (by have t1 : 0 ≤ t1_4.toInt ∧ t1_4.toInt ≤ 1 := btt1_4; omega)), (show 0 ≤ t1_5.toInt from (by have t1 : 0 ≤ t1_5.toInt ∧ t1_5.toInt ≤ 1 := btt1_5; omega)), (show t1_5.toInt ≤ 1 from (by have t1 : 0 ≤ t1_5.toInt ∧ t1_5.toInt ≤ 1 := btt1_5; omega)), (show t0_1.toInt ≤ t0_1.toInt from (by omega)), (show t0_1.toInt ≤ t0_1.toInt from (by omega)), (show t0_2.toInt ≤ t0_2.toInt from (by omega)), (show t0_2.toInt ≤ t0_2.toInt from (by omega)), (show t1_1.toInt ≤ t1_1.toInt from (by omega)), (show t1_1.toInt ≤ t1_1.toInt from (by omega)), (show t1_2.toInt ≤ t1_2.toInt from (by omega)), (show t1_2.toInt ≤ t1_2.toInt from (by omega)), (show t1_6.toInt ≤ t1_6.toInt from (by omega)), (show t1_6.toInt ≤ t1_6.toInt from (by omega)), (show (lx63, t0_1, t0_2, t1_0, t1_1, t1_2, t1_3, t1_4, t1_5, t1_6, t2_0, t3_0, t4_0, t5_0, t6_0, t7_0, t8_0, t9_0, t10_0, t11_0, t12_0, t13_0) = (F_NM_powerModulo x2 x3 x4 x5 t0_0 t0_1 t0_2 t1_0 t1_1 t1_2 t1_3 t1_4 t1_5 t1_6 t2_0 t3_0 t4_0 t5_0 t6_0 t7_0 t8_0 t9_0 t10_0 t11_0 t12_0 t13_0) from Eq.trans (by rw [F_NM_powerModulo_J35.eq_1, if_neg c88]) hR81)⟩) d_14_22_68
    ·
      have b90 : q_F (lx63.toInt = 0) := (q_eqI c88)
      refine lv_aload_n hx hb d_14_22_45 rfl (lv_at hl 0 rfl) ?_
      refine q_get (ci := 12) (j := 5) (v := .ref (q 119)) C0 V i_NM rfl rfl hT0 (by decide) w_2303 rfl d_14_22_46 ?_
      refine lv_iload_n hx hb d_14_22_49 rfl (lv_at hl 1 rfl) ?_
      refine lv_iload_n hx hb d_14_22_50 rfl (lv_at hl 2 rfl) ?_
      refine lv_iload_n hx hb d_14_22_51 rfl (lv_at hl 3 rfl) ?_
      refine lv_iload hx hb d_14_22_52 (lv_at hl 4 rfl) ?_
      have ob91 : True ∧ S_WR_powerModulo x2 x3 x4 x5 t1_0 t1_1 t1_2 t1_3 t1_4 t1_5 t1_6 t2_0 t3_0 t4_0 t5_0 t6_0 t7_0 t8_0 t9_0 t10_0 t11_0 t12_0 t13_0 := (by have h := hS82; rw [S_NM_powerModulo_J35.eq_1] at h; rw [if_pos c88] at h; with_reducible exact h.2.1)
      refine q_gov V (q_runV (As := [.int x2, .int x3, .int x4, .int x5]) (rest := []) (d := 4) (mc := 0) (ms := 0) (ci := 13) C0 V rfl LV_NM_200 (X_WR_powerModulo l D g q w86  x2 x3 x4 x5 hI t1_0 t1_1 t1_2 t1_3 t1_4 t1_5 t1_6 hT1 t2_0 hT2 t3_0 hT3 t4_0 hT4 t5_0 hT5 t6_0 hT6 t7_0 hT7 t8_0 hT8 t9_0 hT9 t10_0 hT10 t11_0 hT11 t12_0 hT12 t13_0 hT13 ob91 _) rfl rfl hT1 rfl hl.1 rfl (Nat.le_of_ble_eq_true rfl) ⟨by decide, by decide⟩ ⟨Nat.le_of_ble_eq_true rfl, Nat.le_of_ble_eq_true rfl⟩ d_14_22_54) (fun u92 H locs hp93 V => ?_)
      obtain ⟨hI, hu139, y95, y96, y97, y98, y99, y100, y101, f102, f104, f106, f108, f110, f112, f114, f116, f118, f120, f122, f124, hO94, hA103, hA105, hA107, hA109, hA111, hA113, hA115, hA117, hA119, hA121, hA123, hA125, b126, b127, b128, b129, b130, b131, b132, b133, b134, b135, b136, b137, hE138⟩ := hp93
      replace hO94 : u92[119]? = (some (q 119, .inr (13, [.int y95, .int y96, .ref (q 120), .int y97, .ref (q 121), .ref (q 122), .ref (q 123), .int y98, .ref (q 124), .ref (q 125), .ref (q 126), .ref (q 127), .ref (q 128), .ref (q 129), .ref (q 130), .ref (q 131), .int y99, .int y100, .ref (q 132), .ref (q 133), .int y101])) : Option (Nat × va_E)) := hO94
      replace hA103 : u92[121]? = (some (q 121, .inl (g 0, (1408 : Int32).toNatClampNeg, .inl f102)) : Option (Nat × va_E)) := hA103
      replace hA105 : u92[122]? = (some (q 122, .inl (g 3, 11, .inl f104)) : Option (Nat × va_E)) := hA105
      replace hA107 : u92[123]? = (some (q 123, .inl (g 0, (264 : Int32).toNatClampNeg, .inl f106)) : Option (Nat × va_E)) := hA107
      replace hA109 : u92[124]? = (some (q 124, .inl (g 0, (264 : Int32).toNatClampNeg, .inl f108)) : Option (Nat × va_E)) := hA109
      replace hA111 : u92[125]? = (some (q 125, .inl (g 0, (528 : Int32).toNatClampNeg, .inl f110)) : Option (Nat × va_E)) := hA111
      replace hA113 : u92[126]? = (some (q 126, .inl (g 0, (264 : Int32).toNatClampNeg, .inl f112)) : Option (Nat × va_E)) := hA113
      replace hA115 : u92[127]? = (some (q 127, .inl (g 0, (264 : Int32).toNatClampNeg, .inl f114)) : Option (Nat × va_E)) := hA115
      replace hA117 : u92[128]? = (some (q 128, .inl (g 0, (264 : Int32).toNatClampNeg, .inl f116)) : Option (Nat × va_E)) := hA117
      replace hA119 : u92[129]? = (some (q 129, .inl (g 0, (264 : Int32).toNatClampNeg, .inl f118)) : Option (Nat × va_E)) := hA119
      replace hA121 : u92[130]? = (some (q 130, .inl (g 0, (264 : Int32).toNatClampNeg, .inl f120)) : Option (Nat × va_E)) := hA121
      replace hA123 : u92[131]? = (some (q 131, .inl (g 0, (264 : Int32).toNatClampNeg, .inl f122)) : Option (Nat × va_E)) := hA123
      replace hA125 : u92[132]? = (some (q 132, .inl (g 0, (264 : Int32).toNatClampNeg, .inl f124)) : Option (Nat × va_E)) := hA125
      obtain ⟨p140, e141⟩ : ∃ z, z = (F_WR_powerModulo x2 x3 x4 x5 t1_0 t1_1 t1_2 t1_3 t1_4 t1_5 t1_6 t2_0 t3_0 t4_0 t5_0 t6_0 t7_0 t8_0 t9_0 t10_0 t11_0 t12_0 t13_0) := ⟨_, rfl⟩
      have e142 : y95 = p140.1 := congrArg (fun z => z.1) (hE138.trans e141.symm)
      have e143 : y96 = p140.2.1 := congrArg (fun z => z.2.1) (hE138.trans e141.symm)
      have e144 : y97 = p140.2.2.1 := congrArg (fun z => z.2.2.1) (hE138.trans e141.symm)
      have e145 : y98 = p140.2.2.2.1 := congrArg (fun z => z.2.2.2.1) (hE138.trans e141.symm)
      have e146 : y99 = p140.2.2.2.2.1 := congrArg (fun z => z.2.2.2.2.1) (hE138.trans e141.symm)
      have e147 : y100 = p140.2.2.2.2.2.1 := congrArg (fun z => z.2.2.2.2.2.1) (hE138.trans e141.symm)
      have e148 : y101 = p140.2.2.2.2.2.2.1 := congrArg (fun z => z.2.2.2.2.2.2.1) (hE138.trans e141.symm)
      have e149 : f102 = p140.2.2.2.2.2.2.2.1 := congrArg (fun z => z.2.2.2.2.2.2.2.1) (hE138.trans e141.symm)
      have e150 : f104 = p140.2.2.2.2.2.2.2.2.1 := congrArg (fun z => z.2.2.2.2.2.2.2.2.1) (hE138.trans e141.symm)
      have e151 : f106 = p140.2.2.2.2.2.2.2.2.2.1 := congrArg (fun z => z.2.2.2.2.2.2.2.2.2.1) (hE138.trans e141.symm)
      have e152 : f108 = p140.2.2.2.2.2.2.2.2.2.2.1 := congrArg (fun z => z.2.2.2.2.2.2.2.2.2.2.1) (hE138.trans e141.symm)
      have e153 : f110 = p140.2.2.2.2.2.2.2.2.2.2.2.1 := congrArg (fun z => z.2.2.2.2.2.2.2.2.2.2.2.1) (hE138.trans e141.symm)
      have e154 : f112 = p140.2.2.2.2.2.2.2.2.2.2.2.2.1 := congrArg (fun z => z.2.2.2.2.2.2.2.2.2.2.2.2.1) (hE138.trans e141.symm)
      have e155 : f114 = p140.2.2.2.2.2.2.2.2.2.2.2.2.2.1 := congrArg (fun z => z.2.2.2.2.2.2.2.2.2.2.2.2.2.1) (hE138.trans e141.symm)
      have e156 : f116 = p140.2.2.2.2.2.2.2.2.2.2.2.2.2.2.1 := congrArg (fun z => z.2.2.2.2.2.2.2.2.2.2.2.2.2.2.1) (hE138.trans e141.symm)
      have e157 : f118 = p140.2.2.2.2.2.2.2.2.2.2.2.2.2.2.2.1 := congrArg (fun z => z.2.2.2.2.2.2.2.2.2.2.2.2.2.2.2.1) (hE138.trans e141.symm)
      have e158 : f120 = p140.2.2.2.2.2.2.2.2.2.2.2.2.2.2.2.2.1 := congrArg (fun z => z.2.2.2.2.2.2.2.2.2.2.2.2.2.2.2.2.1) (hE138.trans e141.symm)
      have e159 : f122 = p140.2.2.2.2.2.2.2.2.2.2.2.2.2.2.2.2.2.1 := congrArg (fun z => z.2.2.2.2.2.2.2.2.2.2.2.2.2.2.2.2.2.1) (hE138.trans e141.symm)
      have e160 : f124 = p140.2.2.2.2.2.2.2.2.2.2.2.2.2.2.2.2.2.2 := congrArg (fun z => z.2.2.2.2.2.2.2.2.2.2.2.2.2.2.2.2.2.2) (hE138.trans e141.symm)
      replace b126 : q_F (0 ≤ y98.toInt) := b126
      replace b127 : q_F (y98.toInt ≤ 1) := b127
      replace b128 : q_F (0 ≤ y99.toInt) := b128
      replace b129 : q_F (y99.toInt ≤ 1) := b129
      replace b130 : q_F (0 ≤ y100.toInt) := b130
      replace b131 : q_F (y100.toInt ≤ 1) := b131
      replace b132 : q_F (t1_1.toInt ≤ y96.toInt) := b132
      replace b133 : q_F (y96.toInt ≤ t1_1.toInt) := b133
      replace b134 : q_F (t1_2.toInt ≤ y97.toInt) := b134
      replace b135 : q_F (y97.toInt ≤ t1_2.toInt) := b135
      replace b136 : q_F (t1_6.toInt ≤ y101.toInt) := b136
      replace b137 : q_F (y101.toInt ≤ t1_6.toInt) := b137
      replace hT0 := (hu139 _ (by decide)).trans hT0
      replace hF := q_uc hF hu139 (by simp)
      have hR161 := (show F_NM_powerModulo_c54 x2 x3 x4 x5 t0_0 t0_1 t0_2 t1_0 t1_1 t1_2 t1_3 t1_4 t1_5 t1_6 t2_0 t3_0 t4_0 t5_0 t6_0 t7_0 t8_0 t9_0 t10_0 t11_0 t12_0 t13_0 lx63 p140 = (F_NM_powerModulo x2 x3 x4 x5 t0_0 t0_1 t0_2 t1_0 t1_1 t1_2 t1_3 t1_4 t1_5 t1_6 t2_0 t3_0 t4_0 t5_0 t6_0 t7_0 t8_0 t9_0 t10_0 t11_0 t12_0 t13_0) from Eq.trans (by rw [e141, F_NM_powerModulo_J35.eq_1, if_pos c88]) hR81)
      have hS162 := (show True ∧ S_NM_powerModulo_c54 x2 x3 x4 x5 t0_0 t0_1 t0_2 t1_0 t1_1 t1_2 t1_3 t1_4 t1_5 t1_6 t2_0 t3_0 t4_0 t5_0 t6_0 t7_0 t8_0 t9_0 t10_0 t11_0 t12_0 t13_0 lx63 p140 from (by rw [e141]; have h := hS82; rw [S_NM_powerModulo_J35.eq_1] at h; rw [if_pos c88] at h; replace h := q_s2 h; with_reducible exact h))
      refine lv_aload_n hx hb d_14_22_57 rfl (lv_at hl 0 rfl) ?_
      refine lv_aload_n hx hb d_14_22_58 rfl (lv_at hl 0 rfl) ?_
      refine q_get (ci := 12) (j := 5) (v := .ref (q 119)) C0 V i_NM rfl rfl hT0 (by decide) w_2303 rfl d_14_22_59 ?_
      refine q_getN (ci := 13) (j := 0) (v := .int y95) C0 V i_WR rfl rfl hO94 (by decide) wo_1922 rfl d_14_22_62 ?_
      refine q_put (ci := 12) (j := 0) (v := .int y95) (ty := .int) C0 V i_NM o_NM n_NM rfl rfl hT0 (by decide) w_2298 rfl rfl rfl rfl (Nat.le_of_ble_eq_true rfl) d_14_22_65 (fun H locs w166 hu167 hT0 V => ?_)
      replace hT0 : w166[116]? = (some (q 116, .inr (12, [.int y95, .ref (q 117), .int t0_1, .ref (q 118), .int t0_2, .ref (q 119), .ref (q 134), .ref (q 145), .ref (q 153), .ref (q 157), .ref (q 167), .ref (q 168)])) : Option (Nat × va_E)) := hT0
      replace hI := n_p116 hI hu167 hT0 ⟨(by have t1 : 0 ≤ t0_1.toInt ∧ t0_1.toInt ≤ 4100 := btt0_1; omega), (by have t1 : 0 ≤ t0_1.toInt ∧ t0_1.toInt ≤ 4100 := btt0_1; omega)⟩ ⟨(by have t1 : 0 ≤ t0_2.toInt ∧ t0_2.toInt ≤ 12200 := btt0_2; omega), (by have t1 : 0 ≤ t0_2.toInt ∧ t0_2.toInt ≤ 12200 := btt0_2; omega)⟩
      replace hO94 := (hu167 _ (by decide)).trans hO94
      replace hA103 := (hu167 _ (by decide)).trans hA103
      replace hA105 := (hu167 _ (by decide)).trans hA105
      replace hA107 := (hu167 _ (by decide)).trans hA107
      replace hA109 := (hu167 _ (by decide)).trans hA109
      replace hA111 := (hu167 _ (by decide)).trans hA111
      replace hA113 := (hu167 _ (by decide)).trans hA113
      replace hA115 := (hu167 _ (by decide)).trans hA115
      replace hA117 := (hu167 _ (by decide)).trans hA117
      replace hA119 := (hu167 _ (by decide)).trans hA119
      replace hA121 := (hu167 _ (by decide)).trans hA121
      replace hA123 := (hu167 _ (by decide)).trans hA123
      replace hA125 := (hu167 _ (by decide)).trans hA125
      replace hF := q_us hF hu167 (by simp)
      exact q_retv C0 V (⟨hI, hF, y95, t0_1, t0_2, y95, y96, y97, y98, y99, y100, y101, f102, f104, f106, f108, f110, f112, f114, f116, f118, f120, f122, f124, hT0, hO94, hA103, hA105, hA107, hA109, hA111, hA113, hA115, hA117, hA119, hA121, hA123, hA125, (show 0 ≤ y98.toInt from (by have t1 : 0 ≤ y98.toInt := b126; omega)), (show y98.toInt ≤ 1 from (by have t1 : y98.toInt ≤ 1 := b127; omega)), (show 0 ≤ y99.toInt from (by have t1 : 0 ≤ y99.toInt := b128; omega)), (show y99.toInt ≤ 1 from (by have t1 : y99.toInt ≤ 1 := b129; omega)), (show 0 ≤ y100.toInt from (by have t1 : 0 ≤ y100.toInt := b130; omega)), (show y100.toInt ≤ 1 from (by have t1 : y100.toInt ≤ 1 := b131; omega)), (show t0_1.toInt ≤ t0_1.toInt from (by omega)), (show t0_1.toInt ≤ t0_1.toInt from (by omega)), (show t0_2.toInt ≤ t0_2.toInt from (by omega)), (show t0_2.toInt ≤ t0_2.toInt from (by omega)), (show t1_1.toInt ≤ y96.toInt from (by have t1 : t1_1.toInt ≤ y96.toInt := b132; omega)), (show y96.toInt ≤ t1_1.toInt from (by have t1 : y96.toInt ≤ t1_1.toInt := b133; omega)), (show t1_2.toInt ≤ y97.toInt from (by have t1 : t1_2.toInt ≤ y97.toInt := b134; omega)), (show y97.toInt ≤ t1_2.toInt from (by have t1 : y97.toInt ≤ t1_2.toInt := b135; omega)), (show t1_6.toInt ≤ y101.toInt from (by have t1 : t1_6.toInt ≤ y101.toInt := b136; omega)), (show y101.toInt ≤ t1_6.toInt from (by have t1 : y101.toInt ≤ t1_6.toInt := b137; omega)), (show (y95, t0_1, t0_2, y95, y96, y97, y98, y99, y100, y101, f102, f104, f106, f108, f110, f112, f114, f116, f118, f120, f122, f124) = (F_NM_powerModulo x2 x3 x4 x5 t0_0 t0_1 t0_2 t1_0 t1_1 t1_2 t1_3 t1_4 t1_5 t1_6 t2_0 t3_0 t4_0 t5_0 t6_0 t7_0 t8_0 t9_0 t10_0 t11_0 t12_0 t13_0) from Eq.trans (by rw [e160, e159, e158, e157, e156, e155, e154, e153, e152, e151, e150, e149, e148, e147, e146, e145, e144, e143, e142, F_NM_powerModulo_c54.eq_1]) hR161)⟩) d_14_22_68
  ·
    intro J78
    refine q_join (X := Unit) (fun z H locs ls _ => q_Wd D g (va_A ws sz) s ws H locs ∧ lv_has ls 5 [(0, .ref (q 116)), (1, .int x2), (2, .int x3), (3, .int x4), (4, .int x5)] ∧ F_NM_powerModulo_J30 x2 x3 x4 x5 t0_0 t0_1 t0_2 t1_0 t1_1 t1_2 t1_3 t1_4 t1_5 t1_6 t2_0 t3_0 t4_0 t5_0 t6_0 t7_0 t8_0 t9_0 t10_0 t11_0 t12_0 t13_0 = (F_NM_powerModulo x2 x3 x4 x5 t0_0 t0_1 t0_2 t1_0 t1_1 t1_2 t1_3 t1_4 t1_5 t1_6 t2_0 t3_0 t4_0 t5_0 t6_0 t7_0 t8_0 t9_0 t10_0 t11_0 t12_0 t13_0) ∧ True ∧ S_NM_powerModulo_J30 x2 x3 x4 x5 t0_0 t0_1 t0_2 t1_0 t1_1 t1_2 t1_3 t1_4 t1_5 t1_6 t2_0 t3_0 t4_0 t5_0 t6_0 t7_0 t8_0 t9_0 t10_0 t11_0 t12_0 t13_0) (fun z => [.ref (q 116)]) 30 0 0 ?_ ?_
    ·
      rintro _ H locs ls _ ⟨V, hl, hR183, hS184⟩
      replace hl : lv_has ls 5 [(0, .ref (q 116)), (1, .int x2), (2, .int x3), (3, .int x4), (4, .int x5)] := hl
      refine lv_iconst (v := 1) hx hb d_14_22_30 (by decide) ?_
      refine lv_goto (tgt := 35) hx hb d_14_22_31 (by decide) ?_
      exact J78 ((1 : Int32)) _ _ _ ws ⟨(show q_F (0 ≤ 1) from (show 0 ≤ 1 from by omega)), (show q_F (1 ≤ 1) from (show 1 ≤ 1 from by omega)), V, q_lw hl (q_lw1 0 rfl (q_lw1 1 rfl (q_lw1 2 rfl (q_lw1 3 rfl (q_lw1 4 rfl q_lw0))))), (show F_NM_powerModulo_J35 x2 x3 x4 x5 t0_0 t0_1 t0_2 t1_0 t1_1 t1_2 t1_3 t1_4 t1_5 t1_6 t2_0 t3_0 t4_0 t5_0 t6_0 t7_0 t8_0 t9_0 t10_0 t11_0 t12_0 t13_0 1 = (F_NM_powerModulo x2 x3 x4 x5 t0_0 t0_1 t0_2 t1_0 t1_1 t1_2 t1_3 t1_4 t1_5 t1_6 t2_0 t3_0 t4_0 t5_0 t6_0 t7_0 t8_0 t9_0 t10_0 t11_0 t12_0 t13_0) from Eq.trans (by rw [F_NM_powerModulo_J30.eq_1]) hR183), (show True ∧ S_NM_powerModulo_J35 x2 x3 x4 x5 t0_0 t0_1 t0_2 t1_0 t1_1 t1_2 t1_3 t1_4 t1_5 t1_6 t2_0 t3_0 t4_0 t5_0 t6_0 t7_0 t8_0 t9_0 t10_0 t11_0 t12_0 t13_0 1 from (by have h := hS184; rw [S_NM_powerModulo_J30.eq_1] at h; with_reducible exact h))⟩
    ·
      intro J182
      refine lv_if_ne (tgt := 30) hx hb d_14_22_5 (by decide) (fun c188 => ?_) (fun c188 => ?_)
      ·
        have b189 : q_F (a58.toInt ≠ 0) := (q_neI c188)
        exact J182 (()) _ _ _ ws ⟨V, q_lw hl (q_lw1 0 rfl (q_lw1 1 rfl (q_lw1 2 rfl (q_lw1 3 rfl (q_lw1 4 rfl q_lw0))))), (show F_NM_powerModulo_J30 x2 x3 x4 x5 t0_0 t0_1 t0_2 t1_0 t1_1 t1_2 t1_3 t1_4 t1_5 t1_6 t2_0 t3_0 t4_0 t5_0 t6_0 t7_0 t8_0 t9_0 t10_0 t11_0 t12_0 t13_0 = (F_NM_powerModulo x2 x3 x4 x5 t0_0 t0_1 t0_2 t1_0 t1_1 t1_2 t1_3 t1_4 t1_5 t1_6 t2_0 t3_0 t4_0 t5_0 t6_0 t7_0 t8_0 t9_0 t10_0 t11_0 t12_0 t13_0) from (by have c188x := c188; rw [e62] at c188x; rw [F_NM_powerModulo.eq_1, if_neg c188x])), (show True ∧ S_NM_powerModulo_J30 x2 x3 x4 x5 t0_0 t0_1 t0_2 t1_0 t1_1 t1_2 t1_3 t1_4 t1_5 t1_6 t2_0 t3_0 t4_0 t5_0 t6_0 t7_0 t8_0 t9_0 t10_0 t11_0 t12_0 t13_0 from (by have h := hS; rw [S_NM_powerModulo.eq_1] at h; have c188x := c188; rw [e62] at c188x; rw [if_neg c188x] at h; with_reducible exact h))⟩
      ·
        have b190 : q_F (a58.toInt = 0) := (q_eqI c188)
        refine lv_iload_n hx hb d_14_22_8 rfl (lv_at hl 2 rfl) ?_
        refine q_goi V (q_runS (As := [.int x3]) (rest := [.ref (q 116)]) (d := 1) (mc := 0) (ms := 0) C0 V rfl LS_NM_70 (X_NM_no_IZ l D g q ws  x3 hI   _) rfl hl.1 rfl (Nat.le_of_ble_eq_true rfl) ⟨by decide, by decide⟩ ⟨Nat.le_of_ble_eq_true rfl, Nat.le_of_ble_eq_true rfl⟩ d_14_22_9) (fun a193 u191 H locs hp192 V => ?_)
        obtain ⟨rfl, b194, b195, hE196⟩ := hp192
        have e197 : a193 = (F_NM_no_IZ x3) := hE196
        replace b194 : q_F (0 ≤ a193.toInt) := b194
        replace b195 : q_F (a193.toInt ≤ 1) := b195
        refine lv_if_ne (tgt := 30) hx hb d_14_22_12 (by decide) (fun c198 => ?_) (fun c198 => ?_)
        ·
          have b199 : q_F (a193.toInt ≠ 0) := (q_neI c198)
          exact J182 (()) _ _ _ ws ⟨V, q_lw hl (q_lw1 0 rfl (q_lw1 1 rfl (q_lw1 2 rfl (q_lw1 3 rfl (q_lw1 4 rfl q_lw0))))), (show F_NM_powerModulo_J30 x2 x3 x4 x5 t0_0 t0_1 t0_2 t1_0 t1_1 t1_2 t1_3 t1_4 t1_5 t1_6 t2_0 t3_0 t4_0 t5_0 t6_0 t7_0 t8_0 t9_0 t10_0 t11_0 t12_0 t13_0 = (F_NM_powerModulo x2 x3 x4 x5 t0_0 t0_1 t0_2 t1_0 t1_1 t1_2 t1_3 t1_4 t1_5 t1_6 t2_0 t3_0 t4_0 t5_0 t6_0 t7_0 t8_0 t9_0 t10_0 t11_0 t12_0 t13_0) from (by have c188x := c188; rw [e62] at c188x; have c198x := c198; rw [e197] at c198x; rw [F_NM_powerModulo.eq_1, if_pos c188x, if_neg c198x])), (show True ∧ S_NM_powerModulo_J30 x2 x3 x4 x5 t0_0 t0_1 t0_2 t1_0 t1_1 t1_2 t1_3 t1_4 t1_5 t1_6 t2_0 t3_0 t4_0 t5_0 t6_0 t7_0 t8_0 t9_0 t10_0 t11_0 t12_0 t13_0 from (by have h := hS; rw [S_NM_powerModulo.eq_1] at h; have c188x := c188; rw [e62] at c188x; rw [if_pos c188x] at h; have c198x := c198; rw [e197] at c198x; rw [if_neg c198x] at h; with_reducible exact h))⟩
        ·
          have b200 : q_F (a193.toInt = 0) := (q_eqI c198)
          refine lv_iload_n hx hb d_14_22_15 rfl (lv_at hl 3 rfl) ?_
          refine q_goi V (q_runS (As := [.int x4]) (rest := [.ref (q 116)]) (d := 1) (mc := 0) (ms := 0) C0 V rfl LS_NM_70 (X_NM_no_IZ l D g q ws  x4 hI   _) rfl hl.1 rfl (Nat.le_of_ble_eq_true rfl) ⟨by decide, by decide⟩ ⟨Nat.le_of_ble_eq_true rfl, Nat.le_of_ble_eq_true rfl⟩ d_14_22_16) (fun a203 u201 H locs hp202 V => ?_)
          obtain ⟨rfl, b204, b205, hE206⟩ := hp202
          have e207 : a203 = (F_NM_no_IZ x4) := hE206
          replace b204 : q_F (0 ≤ a203.toInt) := b204
          replace b205 : q_F (a203.toInt ≤ 1) := b205
          refine lv_if_ne (tgt := 30) hx hb d_14_22_19 (by decide) (fun c208 => ?_) (fun c208 => ?_)
          ·
            have b209 : q_F (a203.toInt ≠ 0) := (q_neI c208)
            exact J182 (()) _ _ _ ws ⟨V, q_lw hl (q_lw1 0 rfl (q_lw1 1 rfl (q_lw1 2 rfl (q_lw1 3 rfl (q_lw1 4 rfl q_lw0))))), (show F_NM_powerModulo_J30 x2 x3 x4 x5 t0_0 t0_1 t0_2 t1_0 t1_1 t1_2 t1_3 t1_4 t1_5 t1_6 t2_0 t3_0 t4_0 t5_0 t6_0 t7_0 t8_0 t9_0 t10_0 t11_0 t12_0 t13_0 = (F_NM_powerModulo x2 x3 x4 x5 t0_0 t0_1 t0_2 t1_0 t1_1 t1_2 t1_3 t1_4 t1_5 t1_6 t2_0 t3_0 t4_0 t5_0 t6_0 t7_0 t8_0 t9_0 t10_0 t11_0 t12_0 t13_0) from (by have c188x := c188; rw [e62] at c188x; have c198x := c198; rw [e197] at c198x; have c208x := c208; rw [e207] at c208x; rw [F_NM_powerModulo.eq_1, if_pos c188x, if_pos c198x, if_neg c208x])), (show True ∧ S_NM_powerModulo_J30 x2 x3 x4 x5 t0_0 t0_1 t0_2 t1_0 t1_1 t1_2 t1_3 t1_4 t1_5 t1_6 t2_0 t3_0 t4_0 t5_0 t6_0 t7_0 t8_0 t9_0 t10_0 t11_0 t12_0 t13_0 from (by have h := hS; rw [S_NM_powerModulo.eq_1] at h; have c188x := c188; rw [e62] at c188x; rw [if_pos c188x] at h; have c198x := c198; rw [e197] at c198x; rw [if_pos c198x] at h; have c208x := c208; rw [e207] at c208x; rw [if_neg c208x] at h; with_reducible exact h))⟩
          ·
            have b210 : q_F (a203.toInt = 0) := (q_eqI c208)
            refine lv_iload hx hb d_14_22_22 (lv_at hl 4 rfl) ?_
            refine q_goi V (q_runS (As := [.int x5]) (rest := [.ref (q 116)]) (d := 1) (mc := 0) (ms := 0) C0 V rfl LS_NM_70 (X_NM_no_IZ l D g q ws  x5 hI   _) rfl hl.1 rfl (Nat.le_of_ble_eq_true rfl) ⟨by decide, by decide⟩ ⟨Nat.le_of_ble_eq_true rfl, Nat.le_of_ble_eq_true rfl⟩ d_14_22_24) (fun a213 u211 H locs hp212 V => ?_)
            obtain ⟨rfl, b214, b215, hE216⟩ := hp212
            have e217 : a213 = (F_NM_no_IZ x5) := hE216
            replace b214 : q_F (0 ≤ a213.toInt) := b214
            replace b215 : q_F (a213.toInt ≤ 1) := b215
            refine lv_if_eq (tgt := 34) hx hb d_14_22_27 (by decide) (fun c218 => ?_) (fun c218 => ?_)
            ·
              have b219 : q_F (a213.toInt = 0) := (q_eqI c218)
              refine lv_iconst (v := 0) hx hb d_14_22_34 (by decide) ?_
              exact J78 ((0 : Int32)) _ _ _ ws ⟨(show q_F (0 ≤ 0) from (show 0 ≤ 0 from by omega)), (show q_F (0 ≤ 1) from (show 0 ≤ 1 from by omega)), V, q_lw hl (q_lw1 0 rfl (q_lw1 1 rfl (q_lw1 2 rfl (q_lw1 3 rfl (q_lw1 4 rfl q_lw0))))), (show F_NM_powerModulo_J35 x2 x3 x4 x5 t0_0 t0_1 t0_2 t1_0 t1_1 t1_2 t1_3 t1_4 t1_5 t1_6 t2_0 t3_0 t4_0 t5_0 t6_0 t7_0 t8_0 t9_0 t10_0 t11_0 t12_0 t13_0 0 = (F_NM_powerModulo x2 x3 x4 x5 t0_0 t0_1 t0_2 t1_0 t1_1 t1_2 t1_3 t1_4 t1_5 t1_6 t2_0 t3_0 t4_0 t5_0 t6_0 t7_0 t8_0 t9_0 t10_0 t11_0 t12_0 t13_0) from (by have c188x := c188; rw [e62] at c188x; have c198x := c198; rw [e197] at c198x; have c208x := c208; rw [e207] at c208x; have c218x := c218; rw [e217] at c218x; rw [F_NM_powerModulo.eq_1, if_pos c188x, if_pos c198x, if_pos c208x, if_pos c218x])), (show True ∧ S_NM_powerModulo_J35 x2 x3 x4 x5 t0_0 t0_1 t0_2 t1_0 t1_1 t1_2 t1_3 t1_4 t1_5 t1_6 t2_0 t3_0 t4_0 t5_0 t6_0 t7_0 t8_0 t9_0 t10_0 t11_0 t12_0 t13_0 0 from (by have h := hS; rw [S_NM_powerModulo.eq_1] at h; have c188x := c188; rw [e62] at c188x; rw [if_pos c188x] at h; have c198x := c198; rw [e197] at c198x; rw [if_pos c198x] at h; have c208x := c208; rw [e207] at c208x; rw [if_pos c208x] at h; have c218x := c218; rw [e217] at c218x; rw [if_pos c218x] at h; with_reducible exact h))⟩
            ·
              have b220 : q_F (a213.toInt ≠ 0) := (q_neI c218)
              exact J182 (()) _ _ _ ws ⟨V, q_lw hl (q_lw1 0 rfl (q_lw1 1 rfl (q_lw1 2 rfl (q_lw1 3 rfl (q_lw1 4 rfl q_lw0))))), (show F_NM_powerModulo_J30 x2 x3 x4 x5 t0_0 t0_1 t0_2 t1_0 t1_1 t1_2 t1_3 t1_4 t1_5 t1_6 t2_0 t3_0 t4_0 t5_0 t6_0 t7_0 t8_0 t9_0 t10_0 t11_0 t12_0 t13_0 = (F_NM_powerModulo x2 x3 x4 x5 t0_0 t0_1 t0_2 t1_0 t1_1 t1_2 t1_3 t1_4 t1_5 t1_6 t2_0 t3_0 t4_0 t5_0 t6_0 t7_0 t8_0 t9_0 t10_0 t11_0 t12_0 t13_0) from (by have c188x := c188; rw [e62] at c188x; have c198x := c198; rw [e197] at c198x; have c208x := c208; rw [e207] at c208x; have c218x := c218; rw [e217] at c218x; rw [F_NM_powerModulo.eq_1, if_pos c188x, if_pos c198x, if_pos c208x, if_neg c218x])), (show True ∧ S_NM_powerModulo_J30 x2 x3 x4 x5 t0_0 t0_1 t0_2 t1_0 t1_1 t1_2 t1_3 t1_4 t1_5 t1_6 t2_0 t3_0 t4_0 t5_0 t6_0 t7_0 t8_0 t9_0 t10_0 t11_0 t12_0 t13_0 from (by have h := hS; rw [S_NM_powerModulo.eq_1] at h; have c188x := c188; rw [e62] at c188x; rw [if_pos c188x] at h; have c198x := c198; rw [e197] at c198x; rw [if_pos c198x] at h; have c208x := c208; rw [e207] at c208x; rw [if_pos c208x] at h; have c218x := c218; rw [e217] at c218x; rw [if_neg c218x] at h; with_reducible exact h))⟩
