theorem d_19_34_0 : decode prog_19_method_34_code 0 = .ok (.aload_n 0, 1) := by decide +kernel
theorem d_19_34_1 : decode prog_19_method_34_code 1 = .ok (.iload_n 1, 1) := by decide +kernel
theorem d_19_34_2 : decode prog_19_method_34_code 2 = .ok (.invokestatic 91, 3) := by decide +kernel
theorem d_19_34_39 : decode prog_19_method_34_code 39 = .ok (.putfield 53, 3) := by decide +kernel
theorem d_19_34_42 : decode prog_19_method_34_code 42 = .ok (.aload_n 0, 1) := by decide +kernel
theorem d_19_34_43 : decode prog_19_method_34_code 43 = .ok (.getfield 53, 3) := by decide +kernel
theorem d_19_34_46 : decode prog_19_method_34_code 46 = .ok (.ifCond .le 4, 3) := by decide +kernel
theorem d_19_34_50 : decode prog_19_method_34_code 50 = .ok (.aload_n 0, 1) := by decide +kernel
theorem d_19_34_51 : decode prog_19_method_34_code 51 = .ok (.iload_n 2, 1) := by decide +kernel
theorem d_19_34_52 : decode prog_19_method_34_code 52 = .ok (.aload_n 0, 1) := by decide +kernel
theorem d_19_34_53 : decode prog_19_method_34_code 53 = .ok (.getfield 47, 3) := by decide +kernel
theorem d_19_34_56 : decode prog_19_method_34_code 56 = .ok (.invokevirtual 107, 3) := by decide +kernel
theorem d_19_34_59 : decode prog_19_method_34_code 59 = .ok (.aload_n 0, 1) := by decide +kernel
theorem d_19_34_60 : decode prog_19_method_34_code 60 = .ok (.iload_n 1, 1) := by decide +kernel
theorem d_19_34_61 : decode prog_19_method_34_code 61 = .ok (.aload_n 0, 1) := by decide +kernel
theorem d_19_34_62 : decode prog_19_method_34_code 62 = .ok (.getfield 35, 3) := by decide +kernel
theorem d_19_34_65 : decode prog_19_method_34_code 65 = .ok (.invokevirtual 128, 3) := by decide +kernel
theorem d_19_34_68 : decode prog_19_method_34_code 68 = .ok (.aload_n 0, 1) := by decide +kernel
theorem d_19_34_69 : decode prog_19_method_34_code 69 = .ok (.invokevirtual 143, 3) := by decide +kernel
set_option maxRecDepth 100000 in
theorem w_2735 : (Cond.code ({ cls := "NumberHouseModel$WholeRows", name := "inverts", desc := "()Z" } : MethodName) prog_19_method_33_code (1 : Nat) (some .boolean)) ∈ q_tbl := q_of12 95 rfl (by decide +kernel)
set_option maxRecDepth 100000 in
theorem w_2732 : (Cond.methodLink "NumberHouseModel$WholeRows" (143 : Nat) ({ cls := "NumberHouseModel$WholeRows", name := "inverts", desc := "()Z" } : MethodName)) ∈ q_tbl := q_of12 92 rfl (by decide +kernel)
set_option maxRecDepth 100000 in
theorem w_2734 : (Cond.instanceMethod ({ cls := "NumberHouseModel$WholeRows", name := "inverts", desc := "()Z" } : MethodName)) ∈ q_tbl := q_of12 94 rfl (by decide +kernel)
theorem ws_107 : Cond.selects "NumberHouseModel$WholeRows" (⟨"NumberHouseModel$WholeRows", "inverts", "()Z"⟩ : MethodName) (⟨"NumberHouseModel$WholeRows", "inverts", "()Z"⟩ : MethodName) ∈ q_tbl := q_ofs 107 (by decide +kernel) (by decide +kernel)
theorem LV_WR_143 : q_LV "NumberHouseModel$WholeRows" 143 y_WR_inverts prog_19_method_33_code 1 (some .boolean) 0 := ⟨w_2735, w_15, w_2732, w_2734, ws_107, ⟨by decide, by decide, by decide +kernel⟩⟩
theorem d_19_34_72 : decode prog_19_method_34_code 72 = .ok (.ifCond .ne 9, 3) := by decide +kernel
theorem d_19_34_81 : decode prog_19_method_34_code 81 = .ok (.aload_n 0, 1) := by decide +kernel
theorem d_19_34_82 : decode prog_19_method_34_code 82 = .ok (.getfield 35, 3) := by decide +kernel
theorem d_19_34_85 : decode prog_19_method_34_code 85 = .ok (.aload_n 0, 1) := by decide +kernel
theorem d_19_34_86 : decode prog_19_method_34_code 86 = .ok (.getfield 20, 3) := by decide +kernel
theorem d_19_34_89 : decode prog_19_method_34_code 89 = .ok (.invokestatic 67, 3) := by decide +kernel
theorem d_19_34_92 : decode prog_19_method_34_code 92 = .ok (.aload_n 0, 1) := by decide +kernel
theorem d_19_34_93 : decode prog_19_method_34_code 93 = .ok (.iconst 0, 1) := by decide +kernel
theorem d_19_34_94 : decode prog_19_method_34_code 94 = .ok (.putfield 82, 3) := by decide +kernel
theorem d_19_34_97 : decode prog_19_method_34_code 97 = .ok (.aload_n 0, 1) := by decide +kernel
theorem d_19_34_98 : decode prog_19_method_34_code 98 = .ok (.iload_n 3, 1) := by decide +kernel
theorem d_19_34_99 : decode prog_19_method_34_code 99 = .ok (.invokevirtual 103, 3) := by decide +kernel
theorem d_19_34_102 : decode prog_19_method_34_code 102 = .ok (.return_, 1) := by decide +kernel
theorem d_19_34_75 : decode prog_19_method_34_code 75 = .ok (.aload_n 0, 1) := by decide +kernel
theorem d_19_34_76 : decode prog_19_method_34_code 76 = .ok (.iconst 2, 1) := by decide +kernel
theorem d_19_34_77 : decode prog_19_method_34_code 77 = .ok (.putfield 53, 3) := by decide +kernel
theorem d_19_34_80 : decode prog_19_method_34_code 80 = .ok (.return_, 1) := by decide +kernel
theorem d_19_34_49 : decode prog_19_method_34_code 49 = .ok (.return_, 1) := by decide +kernel
theorem d_19_34_22 : decode prog_19_method_34_code 22 = .ok (.iconst 1, 1) := by decide +kernel
theorem d_19_34_23 : decode prog_19_method_34_code 23 = .ok (.goto 16, 3) := by decide +kernel
theorem d_19_34_5 : decode prog_19_method_34_code 5 = .ok (.ifCond .ne 17, 3) := by decide +kernel
theorem d_19_34_8 : decode prog_19_method_34_code 8 = .ok (.iload_n 2, 1) := by decide +kernel
theorem d_19_34_9 : decode prog_19_method_34_code 9 = .ok (.invokestatic 91, 3) := by decide +kernel
theorem d_19_34_12 : decode prog_19_method_34_code 12 = .ok (.ifCond .ne 10, 3) := by decide +kernel
theorem d_19_34_15 : decode prog_19_method_34_code 15 = .ok (.iload_n 3, 1) := by decide +kernel
theorem d_19_34_16 : decode prog_19_method_34_code 16 = .ok (.invokestatic 91, 3) := by decide +kernel
theorem d_19_34_19 : decode prog_19_method_34_code 19 = .ok (.ifCond .eq 7, 3) := by decide +kernel
theorem d_19_34_26 : decode prog_19_method_34_code 26 = .ok (.aload_n 0, 1) := by decide +kernel
theorem d_19_34_27 : decode prog_19_method_34_code 27 = .ok (.iload_n 2, 1) := by decide +kernel
theorem d_19_34_28 : decode prog_19_method_34_code 28 = .ok (.invokevirtual 125, 3) := by decide +kernel
theorem d_19_34_31 : decode prog_19_method_34_code 31 = .ok (.ifCond .ne 7, 3) := by decide +kernel
theorem d_19_34_38 : decode prog_19_method_34_code 38 = .ok (.iconst 0, 1) := by decide +kernel
theorem d_19_34_34 : decode prog_19_method_34_code 34 = .ok (.iconst 2, 1) := by decide +kernel
theorem d_19_34_35 : decode prog_19_method_34_code 35 = .ok (.goto 4, 3) := by decide +kernel
def y_WR_inverse : MethodName := ⟨"NumberHouseModel$WholeRows", "inverse", "(III)V"⟩
def F_WR_inverse_c99 (x2 : Int32) (x3 : Int32) (x4 : Int32) (t0_0 : Int32) (t0_1 : Int32) (t0_2 : Int32) (t0_3 : Int32) (t0_4 : Int32) (t0_5 : Int32) (t0_6 : Int32) (t1_0 : (Nat → Int32)) (t2_0 : (Nat → Int32)) (t3_0 : (Nat → Int32)) (t4_0 : (Nat → Int32)) (t5_0 : (Nat → Int32)) (t6_0 : (Nat → Int32)) (t7_0 : (Nat → Int32)) (t8_0 : (Nat → Int32)) (t9_0 : (Nat → Int32)) (t10_0 : (Nat → Int32)) (t11_0 : (Nat → Int32)) (t12_0 : (Nat → Int32)) (lx57 : Int32) (f86 : (Nat → Int32)) (p104 : ((Nat → Int32) × (Nat → Int32) × (Nat → Int32) × (Nat → Int32))) (p163 : (Int32 × Int32 × Int32 × Int32 × Int32 × Int32 × Int32 × Int32 × (Nat → Int32) × (Nat → Int32) × (Nat → Int32) × (Nat → Int32) × (Nat → Int32) × (Nat → Int32) × (Nat → Int32) × (Nat → Int32) × (Nat → Int32))) (f191 : (Nat → Int32)) (f129 : (Nat → Int32)) (f131 : (Nat → Int32)) (f133 : (Nat → Int32)) (f135 : (Nat → Int32)) (f137 : (Nat → Int32)) (f139 : (Nat → Int32)) (f141 : (Nat → Int32)) (f143 : (Nat → Int32)) (p227 : (Int32 × Int32 × Int32 × Int32 × Int32 × Int32 × Int32 × (Nat → Int32) × (Nat → Int32))) : Int32 × Int32 × Int32 × Int32 × Int32 × Int32 × Int32 × (Nat → Int32) × (Nat → Int32) × (Nat → Int32) × (Nat → Int32) × (Nat → Int32) × (Nat → Int32) × (Nat → Int32) × (Nat → Int32) × (Nat → Int32) × (Nat → Int32) × (Nat → Int32) × (Nat → Int32) := ((p227.1 : Int32), (p227.2.1 : Int32), (p227.2.2.1 : Int32), (p227.2.2.2.1 : Int32), (p227.2.2.2.2.1 : Int32), (p227.2.2.2.2.2.1 : Int32), (p227.2.2.2.2.2.2.1 : Int32), (p227.2.2.2.2.2.2.2.1 : (Nat → Int32)), (p227.2.2.2.2.2.2.2.2 : (Nat → Int32)), f191, f129, f131, f133, f135, f137, f139, f141, f143, f86)
def F_WR_inverse_c69 (x2 : Int32) (x3 : Int32) (x4 : Int32) (t0_0 : Int32) (t0_1 : Int32) (t0_2 : Int32) (t0_3 : Int32) (t0_4 : Int32) (t0_5 : Int32) (t0_6 : Int32) (t1_0 : (Nat → Int32)) (t2_0 : (Nat → Int32)) (t3_0 : (Nat → Int32)) (t4_0 : (Nat → Int32)) (t5_0 : (Nat → Int32)) (t6_0 : (Nat → Int32)) (t7_0 : (Nat → Int32)) (t8_0 : (Nat → Int32)) (t9_0 : (Nat → Int32)) (t10_0 : (Nat → Int32)) (t11_0 : (Nat → Int32)) (t12_0 : (Nat → Int32)) (lx57 : Int32) (f86 : (Nat → Int32)) (p104 : ((Nat → Int32) × (Nat → Int32) × (Nat → Int32) × (Nat → Int32))) (p163 : (Int32 × Int32 × Int32 × Int32 × Int32 × Int32 × Int32 × Int32 × (Nat → Int32) × (Nat → Int32) × (Nat → Int32) × (Nat → Int32) × (Nat → Int32) × (Nat → Int32) × (Nat → Int32) × (Nat → Int32) × (Nat → Int32))) : Int32 × Int32 × Int32 × Int32 × Int32 × Int32 × Int32 × (Nat → Int32) × (Nat → Int32) × (Nat → Int32) × (Nat → Int32) × (Nat → Int32) × (Nat → Int32) × (Nat → Int32) × (Nat → Int32) × (Nat → Int32) × (Nat → Int32) × (Nat → Int32) × (Nat → Int32) := if (p163.1 : Int32) = (0 : Int32) then (((2 : Int32), (p163.2.2.1 : Int32), (p163.2.2.2.1 : Int32), (p163.2.2.2.2.1 : Int32), (p163.2.2.2.2.2.1 : Int32), (p163.2.2.2.2.2.2.1 : Int32), (p163.2.2.2.2.2.2.2.1 : Int32), t1_0, t2_0, (p163.2.2.2.2.2.2.2.2.1 : (Nat → Int32)), (p163.2.2.2.2.2.2.2.2.2.1 : (Nat → Int32)), (p163.2.2.2.2.2.2.2.2.2.2.1 : (Nat → Int32)), (p163.2.2.2.2.2.2.2.2.2.2.2.1 : (Nat → Int32)), (p163.2.2.2.2.2.2.2.2.2.2.2.2.1 : (Nat → Int32)), (p163.2.2.2.2.2.2.2.2.2.2.2.2.2.1 : (Nat → Int32)), (p163.2.2.2.2.2.2.2.2.2.2.2.2.2.2.1 : (Nat → Int32)), (p163.2.2.2.2.2.2.2.2.2.2.2.2.2.2.2.1 : (Nat → Int32)), (p163.2.2.2.2.2.2.2.2.2.2.2.2.2.2.2.2 : (Nat → Int32)), f86)) else (F_WR_inverse_c99 x2 x3 x4 t0_0 t0_1 t0_2 t0_3 t0_4 t0_5 t0_6 t1_0 t2_0 t3_0 t4_0 t5_0 t6_0 t7_0 t8_0 t9_0 t10_0 t11_0 t12_0 lx57 f86 p104 p163 ((F_WR_copy (264 : Int32) (264 : Int32) (p163.2.2.2.2.2.2.2.2.2.2.2.2.2.1 : (Nat → Int32)) (p163.2.2.2.2.2.2.2.2.1 : (Nat → Int32))) : (Nat → Int32)) (p163.2.2.2.2.2.2.2.2.2.1 : (Nat → Int32)) (p163.2.2.2.2.2.2.2.2.2.2.1 : (Nat → Int32)) (p163.2.2.2.2.2.2.2.2.2.2.2.1 : (Nat → Int32)) (p163.2.2.2.2.2.2.2.2.2.2.2.2.1 : (Nat → Int32)) (p163.2.2.2.2.2.2.2.2.2.2.2.2.2.1 : (Nat → Int32)) (p163.2.2.2.2.2.2.2.2.2.2.2.2.2.2.1 : (Nat → Int32)) (p163.2.2.2.2.2.2.2.2.2.2.2.2.2.2.2.1 : (Nat → Int32)) (p163.2.2.2.2.2.2.2.2.2.2.2.2.2.2.2.2 : (Nat → Int32)) ((F_WR_store x4 (p163.2.1 : Int32) (p163.2.2.1 : Int32) (p163.2.2.2.1 : Int32) (0 : Int32) (p163.2.2.2.2.2.1 : Int32) (p163.2.2.2.2.2.2.1 : Int32) (p163.2.2.2.2.2.2.2.1 : Int32) t1_0 t2_0 ((F_WR_copy (264 : Int32) (264 : Int32) (p163.2.2.2.2.2.2.2.2.2.2.2.2.2.1 : (Nat → Int32)) (p163.2.2.2.2.2.2.2.2.1 : (Nat → Int32))) : (Nat → Int32))) : (Int32 × Int32 × Int32 × Int32 × Int32 × Int32 × Int32 × (Nat → Int32) × (Nat → Int32))))
def F_WR_inverse_c65 (x2 : Int32) (x3 : Int32) (x4 : Int32) (t0_0 : Int32) (t0_1 : Int32) (t0_2 : Int32) (t0_3 : Int32) (t0_4 : Int32) (t0_5 : Int32) (t0_6 : Int32) (t1_0 : (Nat → Int32)) (t2_0 : (Nat → Int32)) (t3_0 : (Nat → Int32)) (t4_0 : (Nat → Int32)) (t5_0 : (Nat → Int32)) (t6_0 : (Nat → Int32)) (t7_0 : (Nat → Int32)) (t8_0 : (Nat → Int32)) (t9_0 : (Nat → Int32)) (t10_0 : (Nat → Int32)) (t11_0 : (Nat → Int32)) (t12_0 : (Nat → Int32)) (lx57 : Int32) (f86 : (Nat → Int32)) (p104 : ((Nat → Int32) × (Nat → Int32) × (Nat → Int32) × (Nat → Int32))) : Int32 × Int32 × Int32 × Int32 × Int32 × Int32 × Int32 × (Nat → Int32) × (Nat → Int32) × (Nat → Int32) × (Nat → Int32) × (Nat → Int32) × (Nat → Int32) × (Nat → Int32) × (Nat → Int32) × (Nat → Int32) × (Nat → Int32) × (Nat → Int32) × (Nat → Int32) := F_WR_inverse_c69 x2 x3 x4 t0_0 t0_1 t0_2 t0_3 t0_4 t0_5 t0_6 t1_0 t2_0 t3_0 t4_0 t5_0 t6_0 t7_0 t8_0 t9_0 t10_0 t11_0 t12_0 lx57 f86 p104 ((F_WR_inverts lx57 t0_1 t0_2 t0_3 t0_4 t0_5 t0_6 (p104.1 : (Nat → Int32)) t4_0 t5_0 (p104.2.1 : (Nat → Int32)) (p104.2.2.1 : (Nat → Int32)) (p104.2.2.2 : (Nat → Int32)) t9_0 t10_0 t11_0 f86) : (Int32 × Int32 × Int32 × Int32 × Int32 × Int32 × Int32 × Int32 × (Nat → Int32) × (Nat → Int32) × (Nat → Int32) × (Nat → Int32) × (Nat → Int32) × (Nat → Int32) × (Nat → Int32) × (Nat → Int32) × (Nat → Int32)))
def F_WR_inverse_J39 (x2 : Int32) (x3 : Int32) (x4 : Int32) (t0_0 : Int32) (t0_1 : Int32) (t0_2 : Int32) (t0_3 : Int32) (t0_4 : Int32) (t0_5 : Int32) (t0_6 : Int32) (t1_0 : (Nat → Int32)) (t2_0 : (Nat → Int32)) (t3_0 : (Nat → Int32)) (t4_0 : (Nat → Int32)) (t5_0 : (Nat → Int32)) (t6_0 : (Nat → Int32)) (t7_0 : (Nat → Int32)) (t8_0 : (Nat → Int32)) (t9_0 : (Nat → Int32)) (t10_0 : (Nat → Int32)) (t11_0 : (Nat → Int32)) (t12_0 : (Nat → Int32)) (lx57 : Int32) : Int32 × Int32 × Int32 × Int32 × Int32 × Int32 × Int32 × (Nat → Int32) × (Nat → Int32) × (Nat → Int32) × (Nat → Int32) × (Nat → Int32) × (Nat → Int32) × (Nat → Int32) × (Nat → Int32) × (Nat → Int32) × (Nat → Int32) × (Nat → Int32) × (Nat → Int32) := if lx57 ≤ (0 : Int32) then (F_WR_inverse_c65 x2 x3 x4 t0_0 t0_1 t0_2 t0_3 t0_4 t0_5 t0_6 t1_0 t2_0 t3_0 t4_0 t5_0 t6_0 t7_0 t8_0 t9_0 t10_0 t11_0 t12_0 lx57 ((F_WR_take x3 (264 : Int32) lx57 t0_1 t0_2 t0_3 t0_4 t0_5 t0_6 t1_0 t12_0) : (Nat → Int32)) ((F_WR_reduce x2 (264 : Int32) lx57 t0_1 t0_2 t0_3 t0_4 t0_5 t0_6 t1_0 t2_0 t3_0 t6_0 t7_0 ((F_WR_take x3 (264 : Int32) lx57 t0_1 t0_2 t0_3 t0_4 t0_5 t0_6 t1_0 t12_0) : (Nat → Int32)) t8_0) : ((Nat → Int32) × (Nat → Int32) × (Nat → Int32) × (Nat → Int32)))) else ((lx57, t0_1, t0_2, t0_3, t0_4, t0_5, t0_6, t1_0, t2_0, t3_0, t4_0, t5_0, t6_0, t7_0, t8_0, t9_0, t10_0, t11_0, t12_0))
def F_WR_inverse_J22 (x2 : Int32) (x3 : Int32) (x4 : Int32) (t0_0 : Int32) (t0_1 : Int32) (t0_2 : Int32) (t0_3 : Int32) (t0_4 : Int32) (t0_5 : Int32) (t0_6 : Int32) (t1_0 : (Nat → Int32)) (t2_0 : (Nat → Int32)) (t3_0 : (Nat → Int32)) (t4_0 : (Nat → Int32)) (t5_0 : (Nat → Int32)) (t6_0 : (Nat → Int32)) (t7_0 : (Nat → Int32)) (t8_0 : (Nat → Int32)) (t9_0 : (Nat → Int32)) (t10_0 : (Nat → Int32)) (t11_0 : (Nat → Int32)) (t12_0 : (Nat → Int32)) : Int32 × Int32 × Int32 × Int32 × Int32 × Int32 × Int32 × (Nat → Int32) × (Nat → Int32) × (Nat → Int32) × (Nat → Int32) × (Nat → Int32) × (Nat → Int32) × (Nat → Int32) × (Nat → Int32) × (Nat → Int32) × (Nat → Int32) × (Nat → Int32) × (Nat → Int32) := F_WR_inverse_J39 x2 x3 x4 t0_0 t0_1 t0_2 t0_3 t0_4 t0_5 t0_6 t1_0 t2_0 t3_0 t4_0 t5_0 t6_0 t7_0 t8_0 t9_0 t10_0 t11_0 t12_0 1
def F_WR_inverse (x2 : Int32) (x3 : Int32) (x4 : Int32) (t0_0 : Int32) (t0_1 : Int32) (t0_2 : Int32) (t0_3 : Int32) (t0_4 : Int32) (t0_5 : Int32) (t0_6 : Int32) (t1_0 : (Nat → Int32)) (t2_0 : (Nat → Int32)) (t3_0 : (Nat → Int32)) (t4_0 : (Nat → Int32)) (t5_0 : (Nat → Int32)) (t6_0 : (Nat → Int32)) (t7_0 : (Nat → Int32)) (t8_0 : (Nat → Int32)) (t9_0 : (Nat → Int32)) (t10_0 : (Nat → Int32)) (t11_0 : (Nat → Int32)) (t12_0 : (Nat → Int32)) : Int32 × Int32 × Int32 × Int32 × Int32 × Int32 × Int32 × (Nat → Int32) × (Nat → Int32) × (Nat → Int32) × (Nat → Int32) × (Nat → Int32) × (Nat → Int32) × (Nat → Int32) × (Nat → Int32) × (Nat → Int32) × (Nat → Int32) × (Nat → Int32) × (Nat → Int32) := if ((F_WR_no x2) : Int32) = (0 : Int32) then (if ((F_WR_no x3) : Int32) = (0 : Int32) then (if ((F_WR_no x4) : Int32) = (0 : Int32) then (if ((F_WR_isAbove0 x3 t0_0 t0_1 t0_2 t0_3 t0_4 t0_5 t0_6 t1_0 t2_0) : Int32) = (0 : Int32) then (F_WR_inverse_J39 x2 x3 x4 t0_0 t0_1 t0_2 t0_3 t0_4 t0_5 t0_6 t1_0 t2_0 t3_0 t4_0 t5_0 t6_0 t7_0 t8_0 t9_0 t10_0 t11_0 t12_0 2) else (F_WR_inverse_J39 x2 x3 x4 t0_0 t0_1 t0_2 t0_3 t0_4 t0_5 t0_6 t1_0 t2_0 t3_0 t4_0 t5_0 t6_0 t7_0 t8_0 t9_0 t10_0 t11_0 t12_0 0)) else (F_WR_inverse_J22 x2 x3 x4 t0_0 t0_1 t0_2 t0_3 t0_4 t0_5 t0_6 t1_0 t2_0 t3_0 t4_0 t5_0 t6_0 t7_0 t8_0 t9_0 t10_0 t11_0 t12_0)) else (F_WR_inverse_J22 x2 x3 x4 t0_0 t0_1 t0_2 t0_3 t0_4 t0_5 t0_6 t1_0 t2_0 t3_0 t4_0 t5_0 t6_0 t7_0 t8_0 t9_0 t10_0 t11_0 t12_0)) else (F_WR_inverse_J22 x2 x3 x4 t0_0 t0_1 t0_2 t0_3 t0_4 t0_5 t0_6 t1_0 t2_0 t3_0 t4_0 t5_0 t6_0 t7_0 t8_0 t9_0 t10_0 t11_0 t12_0)
def S_WR_inverse_c99 (x2 : Int32) (x3 : Int32) (x4 : Int32) (t0_0 : Int32) (t0_1 : Int32) (t0_2 : Int32) (t0_3 : Int32) (t0_4 : Int32) (t0_5 : Int32) (t0_6 : Int32) (t1_0 : (Nat → Int32)) (t2_0 : (Nat → Int32)) (t3_0 : (Nat → Int32)) (t4_0 : (Nat → Int32)) (t5_0 : (Nat → Int32)) (t6_0 : (Nat → Int32)) (t7_0 : (Nat → Int32)) (t8_0 : (Nat → Int32)) (t9_0 : (Nat → Int32)) (t10_0 : (Nat → Int32)) (t11_0 : (Nat → Int32)) (t12_0 : (Nat → Int32)) (lx57 : Int32) (f86 : (Nat → Int32)) (p104 : ((Nat → Int32) × (Nat → Int32) × (Nat → Int32) × (Nat → Int32))) (p163 : (Int32 × Int32 × Int32 × Int32 × Int32 × Int32 × Int32 × Int32 × (Nat → Int32) × (Nat → Int32) × (Nat → Int32) × (Nat → Int32) × (Nat → Int32) × (Nat → Int32) × (Nat → Int32) × (Nat → Int32) × (Nat → Int32))) (f191 : (Nat → Int32)) (f129 : (Nat → Int32)) (f131 : (Nat → Int32)) (f133 : (Nat → Int32)) (f135 : (Nat → Int32)) (f137 : (Nat → Int32)) (f139 : (Nat → Int32)) (f141 : (Nat → Int32)) (f143 : (Nat → Int32)) (p227 : (Int32 × Int32 × Int32 × Int32 × Int32 × Int32 × Int32 × (Nat → Int32) × (Nat → Int32))) : Prop := True
def S_WR_inverse_c69 (x2 : Int32) (x3 : Int32) (x4 : Int32) (t0_0 : Int32) (t0_1 : Int32) (t0_2 : Int32) (t0_3 : Int32) (t0_4 : Int32) (t0_5 : Int32) (t0_6 : Int32) (t1_0 : (Nat → Int32)) (t2_0 : (Nat → Int32)) (t3_0 : (Nat → Int32)) (t4_0 : (Nat → Int32)) (t5_0 : (Nat → Int32)) (t6_0 : (Nat → Int32)) (t7_0 : (Nat → Int32)) (t8_0 : (Nat → Int32)) (t9_0 : (Nat → Int32)) (t10_0 : (Nat → Int32)) (t11_0 : (Nat → Int32)) (t12_0 : (Nat → Int32)) (lx57 : Int32) (f86 : (Nat → Int32)) (p104 : ((Nat → Int32) × (Nat → Int32) × (Nat → Int32) × (Nat → Int32))) (p163 : (Int32 × Int32 × Int32 × Int32 × Int32 × Int32 × Int32 × Int32 × (Nat → Int32) × (Nat → Int32) × (Nat → Int32) × (Nat → Int32) × (Nat → Int32) × (Nat → Int32) × (Nat → Int32) × (Nat → Int32) × (Nat → Int32))) : Prop := if (p163.1 : Int32) = (0 : Int32) then (True) else ((True ∧ S_WR_store x4 (p163.2.1 : Int32) (p163.2.2.1 : Int32) (p163.2.2.2.1 : Int32) (0 : Int32) (p163.2.2.2.2.2.1 : Int32) (p163.2.2.2.2.2.2.1 : Int32) (p163.2.2.2.2.2.2.2.1 : Int32) t1_0 t2_0 ((F_WR_copy (264 : Int32) (264 : Int32) (p163.2.2.2.2.2.2.2.2.2.2.2.2.2.1 : (Nat → Int32)) (p163.2.2.2.2.2.2.2.2.1 : (Nat → Int32))) : (Nat → Int32))) ∧ (S_WR_inverse_c99 x2 x3 x4 t0_0 t0_1 t0_2 t0_3 t0_4 t0_5 t0_6 t1_0 t2_0 t3_0 t4_0 t5_0 t6_0 t7_0 t8_0 t9_0 t10_0 t11_0 t12_0 lx57 f86 p104 p163 ((F_WR_copy (264 : Int32) (264 : Int32) (p163.2.2.2.2.2.2.2.2.2.2.2.2.2.1 : (Nat → Int32)) (p163.2.2.2.2.2.2.2.2.1 : (Nat → Int32))) : (Nat → Int32)) (p163.2.2.2.2.2.2.2.2.2.1 : (Nat → Int32)) (p163.2.2.2.2.2.2.2.2.2.2.1 : (Nat → Int32)) (p163.2.2.2.2.2.2.2.2.2.2.2.1 : (Nat → Int32)) (p163.2.2.2.2.2.2.2.2.2.2.2.2.1 : (Nat → Int32)) (p163.2.2.2.2.2.2.2.2.2.2.2.2.2.1 : (Nat → Int32)) (p163.2.2.2.2.2.2.2.2.2.2.2.2.2.2.1 : (Nat → Int32)) (p163.2.2.2.2.2.2.2.2.2.2.2.2.2.2.2.1 : (Nat → Int32)) (p163.2.2.2.2.2.2.2.2.2.2.2.2.2.2.2.2 : (Nat → Int32)) ((F_WR_store x4 (p163.2.1 : Int32) (p163.2.2.1 : Int32) (p163.2.2.2.1 : Int32) (0 : Int32) (p163.2.2.2.2.2.1 : Int32) (p163.2.2.2.2.2.2.1 : Int32) (p163.2.2.2.2.2.2.2.1 : Int32) t1_0 t2_0 ((F_WR_copy (264 : Int32) (264 : Int32) (p163.2.2.2.2.2.2.2.2.2.2.2.2.2.1 : (Nat → Int32)) (p163.2.2.2.2.2.2.2.2.1 : (Nat → Int32))) : (Nat → Int32))) : (Int32 × Int32 × Int32 × Int32 × Int32 × Int32 × Int32 × (Nat → Int32) × (Nat → Int32)))))
def S_WR_inverse_c65 (x2 : Int32) (x3 : Int32) (x4 : Int32) (t0_0 : Int32) (t0_1 : Int32) (t0_2 : Int32) (t0_3 : Int32) (t0_4 : Int32) (t0_5 : Int32) (t0_6 : Int32) (t1_0 : (Nat → Int32)) (t2_0 : (Nat → Int32)) (t3_0 : (Nat → Int32)) (t4_0 : (Nat → Int32)) (t5_0 : (Nat → Int32)) (t6_0 : (Nat → Int32)) (t7_0 : (Nat → Int32)) (t8_0 : (Nat → Int32)) (t9_0 : (Nat → Int32)) (t10_0 : (Nat → Int32)) (t11_0 : (Nat → Int32)) (t12_0 : (Nat → Int32)) (lx57 : Int32) (f86 : (Nat → Int32)) (p104 : ((Nat → Int32) × (Nat → Int32) × (Nat → Int32) × (Nat → Int32))) : Prop := (True ∧ S_WR_inverts lx57 t0_1 t0_2 t0_3 t0_4 t0_5 t0_6 (p104.1 : (Nat → Int32)) t4_0 t5_0 (p104.2.1 : (Nat → Int32)) (p104.2.2.1 : (Nat → Int32)) (p104.2.2.2 : (Nat → Int32)) t9_0 t10_0 t11_0 f86) ∧ (S_WR_inverse_c69 x2 x3 x4 t0_0 t0_1 t0_2 t0_3 t0_4 t0_5 t0_6 t1_0 t2_0 t3_0 t4_0 t5_0 t6_0 t7_0 t8_0 t9_0 t10_0 t11_0 t12_0 lx57 f86 p104 ((F_WR_inverts lx57 t0_1 t0_2 t0_3 t0_4 t0_5 t0_6 (p104.1 : (Nat → Int32)) t4_0 t5_0 (p104.2.1 : (Nat → Int32)) (p104.2.2.1 : (Nat → Int32)) (p104.2.2.2 : (Nat → Int32)) t9_0 t10_0 t11_0 f86) : (Int32 × Int32 × Int32 × Int32 × Int32 × Int32 × Int32 × Int32 × (Nat → Int32) × (Nat → Int32) × (Nat → Int32) × (Nat → Int32) × (Nat → Int32) × (Nat → Int32) × (Nat → Int32) × (Nat → Int32) × (Nat → Int32))))
def S_WR_inverse_J39 (x2 : Int32) (x3 : Int32) (x4 : Int32) (t0_0 : Int32) (t0_1 : Int32) (t0_2 : Int32) (t0_3 : Int32) (t0_4 : Int32) (t0_5 : Int32) (t0_6 : Int32) (t1_0 : (Nat → Int32)) (t2_0 : (Nat → Int32)) (t3_0 : (Nat → Int32)) (t4_0 : (Nat → Int32)) (t5_0 : (Nat → Int32)) (t6_0 : (Nat → Int32)) (t7_0 : (Nat → Int32)) (t8_0 : (Nat → Int32)) (t9_0 : (Nat → Int32)) (t10_0 : (Nat → Int32)) (t11_0 : (Nat → Int32)) (t12_0 : (Nat → Int32)) (lx57 : Int32) : Prop := if lx57 ≤ (0 : Int32) then ((True ∧ S_WR_take x3 (264 : Int32) lx57 t0_1 t0_2 t0_3 t0_4 t0_5 t0_6 t1_0 t12_0) ∧ ((True ∧ S_WR_reduce x2 (264 : Int32) lx57 t0_1 t0_2 t0_3 t0_4 t0_5 t0_6 t1_0 t2_0 t3_0 t6_0 t7_0 ((F_WR_take x3 (264 : Int32) lx57 t0_1 t0_2 t0_3 t0_4 t0_5 t0_6 t1_0 t12_0) : (Nat → Int32)) t8_0) ∧ (S_WR_inverse_c65 x2 x3 x4 t0_0 t0_1 t0_2 t0_3 t0_4 t0_5 t0_6 t1_0 t2_0 t3_0 t4_0 t5_0 t6_0 t7_0 t8_0 t9_0 t10_0 t11_0 t12_0 lx57 ((F_WR_take x3 (264 : Int32) lx57 t0_1 t0_2 t0_3 t0_4 t0_5 t0_6 t1_0 t12_0) : (Nat → Int32)) ((F_WR_reduce x2 (264 : Int32) lx57 t0_1 t0_2 t0_3 t0_4 t0_5 t0_6 t1_0 t2_0 t3_0 t6_0 t7_0 ((F_WR_take x3 (264 : Int32) lx57 t0_1 t0_2 t0_3 t0_4 t0_5 t0_6 t1_0 t12_0) : (Nat → Int32)) t8_0) : ((Nat → Int32) × (Nat → Int32) × (Nat → Int32) × (Nat → Int32)))))) else (True)
def S_WR_inverse_J22 (x2 : Int32) (x3 : Int32) (x4 : Int32) (t0_0 : Int32) (t0_1 : Int32) (t0_2 : Int32) (t0_3 : Int32) (t0_4 : Int32) (t0_5 : Int32) (t0_6 : Int32) (t1_0 : (Nat → Int32)) (t2_0 : (Nat → Int32)) (t3_0 : (Nat → Int32)) (t4_0 : (Nat → Int32)) (t5_0 : (Nat → Int32)) (t6_0 : (Nat → Int32)) (t7_0 : (Nat → Int32)) (t8_0 : (Nat → Int32)) (t9_0 : (Nat → Int32)) (t10_0 : (Nat → Int32)) (t11_0 : (Nat → Int32)) (t12_0 : (Nat → Int32)) : Prop := S_WR_inverse_J39 x2 x3 x4 t0_0 t0_1 t0_2 t0_3 t0_4 t0_5 t0_6 t1_0 t2_0 t3_0 t4_0 t5_0 t6_0 t7_0 t8_0 t9_0 t10_0 t11_0 t12_0 1
def S_WR_inverse (x2 : Int32) (x3 : Int32) (x4 : Int32) (t0_0 : Int32) (t0_1 : Int32) (t0_2 : Int32) (t0_3 : Int32) (t0_4 : Int32) (t0_5 : Int32) (t0_6 : Int32) (t1_0 : (Nat → Int32)) (t2_0 : (Nat → Int32)) (t3_0 : (Nat → Int32)) (t4_0 : (Nat → Int32)) (t5_0 : (Nat → Int32)) (t6_0 : (Nat → Int32)) (t7_0 : (Nat → Int32)) (t8_0 : (Nat → Int32)) (t9_0 : (Nat → Int32)) (t10_0 : (Nat → Int32)) (t11_0 : (Nat → Int32)) (t12_0 : (Nat → Int32)) : Prop := if ((F_WR_no x2) : Int32) = (0 : Int32) then (if ((F_WR_no x3) : Int32) = (0 : Int32) then (if ((F_WR_no x4) : Int32) = (0 : Int32) then ((True ∧ S_WR_isAbove0 x3 t0_0 t0_1 t0_2 t0_3 t0_4 t0_5 t0_6 t1_0 t2_0) ∧ (if ((F_WR_isAbove0 x3 t0_0 t0_1 t0_2 t0_3 t0_4 t0_5 t0_6 t1_0 t2_0) : Int32) = (0 : Int32) then (S_WR_inverse_J39 x2 x3 x4 t0_0 t0_1 t0_2 t0_3 t0_4 t0_5 t0_6 t1_0 t2_0 t3_0 t4_0 t5_0 t6_0 t7_0 t8_0 t9_0 t10_0 t11_0 t12_0 2) else (S_WR_inverse_J39 x2 x3 x4 t0_0 t0_1 t0_2 t0_3 t0_4 t0_5 t0_6 t1_0 t2_0 t3_0 t4_0 t5_0 t6_0 t7_0 t8_0 t9_0 t10_0 t11_0 t12_0 0))) else (S_WR_inverse_J22 x2 x3 x4 t0_0 t0_1 t0_2 t0_3 t0_4 t0_5 t0_6 t1_0 t2_0 t3_0 t4_0 t5_0 t6_0 t7_0 t8_0 t9_0 t10_0 t11_0 t12_0)) else (S_WR_inverse_J22 x2 x3 x4 t0_0 t0_1 t0_2 t0_3 t0_4 t0_5 t0_6 t1_0 t2_0 t3_0 t4_0 t5_0 t6_0 t7_0 t8_0 t9_0 t10_0 t11_0 t12_0)) else (S_WR_inverse_J22 x2 x3 x4 t0_0 t0_1 t0_2 t0_3 t0_4 t0_5 t0_6 t1_0 t2_0 t3_0 t4_0 t5_0 t6_0 t7_0 t8_0 t9_0 t10_0 t11_0 t12_0)
set_option maxRecDepth 100000 in
set_option maxHeartbeats 4000000 in
theorem X_WR_inverse (l : Launch) (D : va_G) (g : Nat → ClassId) (q : Nat → Nat) (ws : va_W) (x2 : Int32) (x3 : Int32) (x4 : Int32) (hI : q_I (msh g q) q ws) (t0_0 : Int32) (t0_1 : Int32) (t0_2 : Int32) (t0_3 : Int32) (t0_4 : Int32) (t0_5 : Int32) (t0_6 : Int32) (hT0 : ws[119]? = (some (q 119, .inr (13, [.int t0_0, .int t0_1, .ref (q 120), .int t0_2, .ref (q 121), .ref (q 122), .ref (q 123), .int t0_3, .ref (q 124), .ref (q 125), .ref (q 126), .ref (q 127), .ref (q 128), .ref (q 129), .ref (q 130), .ref (q 131), .int t0_4, .int t0_5, .ref (q 132), .ref (q 133), .int t0_6])) : Option (Nat × va_E))) (t1_0 : (Nat → Int32)) (hT1 : ws[121]? = (some (q 121, .inl (g 0, (1408 : Int32).toNatClampNeg, .inl t1_0)) : Option (Nat × va_E))) (t2_0 : (Nat → Int32)) (hT2 : ws[122]? = (some (q 122, .inl (g 3, 11, .inl t2_0)) : Option (Nat × va_E))) (t3_0 : (Nat → Int32)) (hT3 : ws[123]? = (some (q 123, .inl (g 0, (264 : Int32).toNatClampNeg, .inl t3_0)) : Option (Nat × va_E))) (t4_0 : (Nat → Int32)) (hT4 : ws[124]? = (some (q 124, .inl (g 0, (264 : Int32).toNatClampNeg, .inl t4_0)) : Option (Nat × va_E))) (t5_0 : (Nat → Int32)) (hT5 : ws[125]? = (some (q 125, .inl (g 0, (528 : Int32).toNatClampNeg, .inl t5_0)) : Option (Nat × va_E))) (t6_0 : (Nat → Int32)) (hT6 : ws[126]? = (some (q 126, .inl (g 0, (264 : Int32).toNatClampNeg, .inl t6_0)) : Option (Nat × va_E))) (t7_0 : (Nat → Int32)) (hT7 : ws[127]? = (some (q 127, .inl (g 0, (264 : Int32).toNatClampNeg, .inl t7_0)) : Option (Nat × va_E))) (t8_0 : (Nat → Int32)) (hT8 : ws[128]? = (some (q 128, .inl (g 0, (264 : Int32).toNatClampNeg, .inl t8_0)) : Option (Nat × va_E))) (t9_0 : (Nat → Int32)) (hT9 : ws[129]? = (some (q 129, .inl (g 0, (264 : Int32).toNatClampNeg, .inl t9_0)) : Option (Nat × va_E))) (t10_0 : (Nat → Int32)) (hT10 : ws[130]? = (some (q 130, .inl (g 0, (264 : Int32).toNatClampNeg, .inl t10_0)) : Option (Nat × va_E))) (t11_0 : (Nat → Int32)) (hT11 : ws[131]? = (some (q 131, .inl (g 0, (264 : Int32).toNatClampNeg, .inl t11_0)) : Option (Nat × va_E))) (t12_0 : (Nat → Int32)) (hT12 : ws[132]? = (some (q 132, .inl (g 0, (264 : Int32).toNatClampNeg, .inl t12_0)) : Option (Nat × va_E))) (hS : True ∧ S_WR_inverse x2 x3 x4 t0_0 t0_1 t0_2 t0_3 t0_4 t0_5 t0_6 t1_0 t2_0 t3_0 t4_0 t5_0 t6_0 t7_0 t8_0 t9_0 t10_0 t11_0 t12_0) : q_mV l y_WR_inverse prog_19_method_34_code 4 4 0 0 D g [.ref (q 119), .int x2, .int x3, .int x4] ws (fun u => q_I (msh g q) q u ∧ q_un ws u [119, 121, 122, 123, 124, 125, 126, 127, 128, 129, 130, 131, 132] ∧ ∃ (u0_0 : Int32) (u0_1 : Int32) (u0_2 : Int32) (u0_3 : Int32) (u0_4 : Int32) (u0_5 : Int32) (u0_6 : Int32) (u1_0 : (Nat → Int32)) (u2_0 : (Nat → Int32)) (u3_0 : (Nat → Int32)) (u4_0 : (Nat → Int32)) (u5_0 : (Nat → Int32)) (u6_0 : (Nat → Int32)) (u7_0 : (Nat → Int32)) (u8_0 : (Nat → Int32)) (u9_0 : (Nat → Int32)) (u10_0 : (Nat → Int32)) (u11_0 : (Nat → Int32)) (u12_0 : (Nat → Int32)), u[119]? = (some (q 119, .inr (13, [.int u0_0, .int u0_1, .ref (q 120), .int u0_2, .ref (q 121), .ref (q 122), .ref (q 123), .int u0_3, .ref (q 124), .ref (q 125), .ref (q 126), .ref (q 127), .ref (q 128), .ref (q 129), .ref (q 130), .ref (q 131), .int u0_4, .int u0_5, .ref (q 132), .ref (q 133), .int u0_6])) : Option (Nat × va_E)) ∧ u[121]? = (some (q 121, .inl (g 0, (1408 : Int32).toNatClampNeg, .inl u1_0)) : Option (Nat × va_E)) ∧ u[122]? = (some (q 122, .inl (g 3, 11, .inl u2_0)) : Option (Nat × va_E)) ∧ u[123]? = (some (q 123, .inl (g 0, (264 : Int32).toNatClampNeg, .inl u3_0)) : Option (Nat × va_E)) ∧ u[124]? = (some (q 124, .inl (g 0, (264 : Int32).toNatClampNeg, .inl u4_0)) : Option (Nat × va_E)) ∧ u[125]? = (some (q 125, .inl (g 0, (528 : Int32).toNatClampNeg, .inl u5_0)) : Option (Nat × va_E)) ∧ u[126]? = (some (q 126, .inl (g 0, (264 : Int32).toNatClampNeg, .inl u6_0)) : Option (Nat × va_E)) ∧ u[127]? = (some (q 127, .inl (g 0, (264 : Int32).toNatClampNeg, .inl u7_0)) : Option (Nat × va_E)) ∧ u[128]? = (some (q 128, .inl (g 0, (264 : Int32).toNatClampNeg, .inl u8_0)) : Option (Nat × va_E)) ∧ u[129]? = (some (q 129, .inl (g 0, (264 : Int32).toNatClampNeg, .inl u9_0)) : Option (Nat × va_E)) ∧ u[130]? = (some (q 130, .inl (g 0, (264 : Int32).toNatClampNeg, .inl u10_0)) : Option (Nat × va_E)) ∧ u[131]? = (some (q 131, .inl (g 0, (264 : Int32).toNatClampNeg, .inl u11_0)) : Option (Nat × va_E)) ∧ u[132]? = (some (q 132, .inl (g 0, (264 : Int32).toNatClampNeg, .inl u12_0)) : Option (Nat × va_E)) ∧ (0 ≤ u0_3.toInt) ∧ (u0_3.toInt ≤ 1) ∧ (0 ≤ u0_4.toInt) ∧ (u0_4.toInt ≤ 1) ∧ (0 ≤ u0_5.toInt) ∧ (u0_5.toInt ≤ 1) ∧ (t0_1.toInt ≤ u0_1.toInt) ∧ (u0_1.toInt ≤ t0_1.toInt) ∧ (t0_2.toInt ≤ u0_2.toInt) ∧ (u0_2.toInt ≤ t0_2.toInt) ∧ (t0_6.toInt ≤ u0_6.toInt) ∧ (u0_6.toInt ≤ t0_6.toInt) ∧ (u0_0, u0_1, u0_2, u0_3, u0_4, u0_5, u0_6, u1_0, u2_0, u3_0, u4_0, u5_0, u6_0, u7_0, u8_0, u9_0, u10_0, u11_0, u12_0) = (F_WR_inverse x2 x3 x4 t0_0 t0_1 t0_2 t0_3 t0_4 t0_5 t0_6 t1_0 t2_0 t3_0 t4_0 t5_0 t6_0 t7_0 t8_0 t9_0 t10_0 t11_0 t12_0)) := by
  intro sz
  refine q_into (by decide) (Nat.le_of_ble_eq_true rfl) ?_
  intro p e s m below meth c ls hsz C0 V hl
  have hx := C0.1
  have hb := C0.2.1
  obtain ⟨btt0_2, hZ9⟩ := n_w119 hI hT0
  obtain ⟨btt0_3, hZ9⟩ := hZ9
  obtain ⟨btt0_4, hZ9⟩ := hZ9
  obtain ⟨btt0_5, btt0_6⟩ := hZ9
  replace btt0_2 : q_F (0 ≤ t0_2.toInt ∧ t0_2.toInt ≤ 4100) := btt0_2
  replace btt0_3 : q_F (0 ≤ t0_3.toInt ∧ t0_3.toInt ≤ 1) := btt0_3
  replace btt0_4 : q_F (0 ≤ t0_4.toInt ∧ t0_4.toInt ≤ 1) := btt0_4
  replace btt0_5 : q_F (0 ≤ t0_5.toInt ∧ t0_5.toInt ≤ 1) := btt0_5
  replace btt0_6 : q_F (0 ≤ t0_6.toInt ∧ t0_6.toInt ≤ 2100) := btt0_6
  have hF : q_un ws ws [119, 121, 122, 123, 124, 125, 126, 127, 128, 129, 130, 131, 132] := q_u0
  have hl : lv_has ls 4 [(0, .ref (q 119)), (1, .int x2), (2, .int x3), (3, .int x4)] := hl
  refine lv_aload_n hx hb d_19_34_0 rfl (lv_at hl 0 rfl) ?_
  refine lv_iload_n hx hb d_19_34_1 rfl (lv_at hl 1 rfl) ?_
  refine q_goi V (q_runS (As := [.int x2]) (rest := [.ref (q 119)]) (d := 1) (mc := 0) (ms := 0) C0 V rfl LS_WR_91 (X_WR_no l D g q ws  x2 hI   _) rfl hl.1 rfl (Nat.le_of_ble_eq_true rfl) ⟨by decide, by decide⟩ ⟨Nat.le_of_ble_eq_true rfl, Nat.le_of_ble_eq_true rfl⟩ d_19_34_2) (fun a52 u50 H locs hp51 V => ?_)
  obtain ⟨rfl, b53, b54, hE55⟩ := hp51
  have e56 : a52 = (F_WR_no x2) := hE55
  clear b53
  clear b54
  refine q_join (X := Int32) (fun z H locs ls _ => q_F (0 ≤ z.toInt) ∧ q_F (z.toInt ≤ 2) ∧ q_Wd D g (va_A ws sz) s ws H locs ∧ lv_has ls 4 [(0, .ref (q 119)), (1, .int x2), (2, .int x3), (3, .int x4)] ∧ F_WR_inverse_J39 x2 x3 x4 t0_0 t0_1 t0_2 t0_3 t0_4 t0_5 t0_6 t1_0 t2_0 t3_0 t4_0 t5_0 t6_0 t7_0 t8_0 t9_0 t10_0 t11_0 t12_0 z = (F_WR_inverse x2 x3 x4 t0_0 t0_1 t0_2 t0_3 t0_4 t0_5 t0_6 t1_0 t2_0 t3_0 t4_0 t5_0 t6_0 t7_0 t8_0 t9_0 t10_0 t11_0 t12_0) ∧ True ∧ S_WR_inverse_J39 x2 x3 x4 t0_0 t0_1 t0_2 t0_3 t0_4 t0_5 t0_6 t1_0 t2_0 t3_0 t4_0 t5_0 t6_0 t7_0 t8_0 t9_0 t10_0 t11_0 t12_0 z) (fun z => [.int z, .ref (q 119)]) 39 0 0 ?_ ?_
  ·
    rintro lx57 H locs ls _ hZ9
    replace hZ9 := hZ9.2.2
    obtain ⟨V, hZ9⟩ := hZ9
    obtain ⟨hl, hZ9⟩ := hZ9
    obtain ⟨hR74, hS75⟩ := hZ9
    replace hl : lv_has ls 4 [(0, .ref (q 119)), (1, .int x2), (2, .int x3), (3, .int x4)] := hl
    refine q_put (ci := 13) (j := 0) (v := .int lx57) (ty := .int) C0 V i_WR o_WR n_WR rfl rfl hT0 (by decide) w_1921 rfl rfl rfl rfl (Nat.le_of_ble_eq_true rfl) d_19_34_39 (fun H locs w79 hu80 hT0 V => ?_)
    replace hT0 : w79[119]? = (some (q 119, .inr (13, [.int lx57, .int t0_1, .ref (q 120), .int t0_2, .ref (q 121), .ref (q 122), .ref (q 123), .int t0_3, .ref (q 124), .ref (q 125), .ref (q 126), .ref (q 127), .ref (q 128), .ref (q 129), .ref (q 130), .ref (q 131), .int t0_4, .int t0_5, .ref (q 132), .ref (q 133), .int t0_6])) : Option (Nat × va_E)) := hT0
    replace hI := n_p119 hI hu80 hT0 (by first | with_reducible exact q_fe btt0_2 | exact ⟨(by have t1 : 0 ≤ t0_2.toInt ∧ t0_2.toInt ≤ 4100 := btt0_2; omega), (by have t1 : 0 ≤ t0_2.toInt ∧ t0_2.toInt ≤ 4100 := btt0_2; omega)⟩) (by first | with_reducible exact q_fe btt0_3 | exact ⟨(by have t1 : 0 ≤ t0_3.toInt ∧ t0_3.toInt ≤ 1 := btt0_3; omega), (by have t1 : 0 ≤ t0_3.toInt ∧ t0_3.toInt ≤ 1 := btt0_3; omega)⟩) (by first | with_reducible exact q_fe btt0_4 | exact ⟨(by have t1 : 0 ≤ t0_4.toInt ∧ t0_4.toInt ≤ 1 := btt0_4; omega), (by have t1 : 0 ≤ t0_4.toInt ∧ t0_4.toInt ≤ 1 := btt0_4; omega)⟩) (by first | with_reducible exact q_fe btt0_5 | exact ⟨(by have t1 : 0 ≤ t0_5.toInt ∧ t0_5.toInt ≤ 1 := btt0_5; omega), (by have t1 : 0 ≤ t0_5.toInt ∧ t0_5.toInt ≤ 1 := btt0_5; omega)⟩) (by first | with_reducible exact q_fe btt0_6 | exact ⟨(by have t1 : 0 ≤ t0_6.toInt ∧ t0_6.toInt ≤ 2100 := btt0_6; omega), (by have t1 : 0 ≤ t0_6.toInt ∧ t0_6.toInt ≤ 2100 := btt0_6; omega)⟩)
    replace hT1 := (hu80 _ (by decide)).trans hT1
    replace hT2 := (hu80 _ (by decide)).trans hT2
    replace hT3 := (hu80 _ (by decide)).trans hT3
    replace hT4 := (hu80 _ (by decide)).trans hT4
    replace hT5 := (hu80 _ (by decide)).trans hT5
    replace hT6 := (hu80 _ (by decide)).trans hT6
    replace hT7 := (hu80 _ (by decide)).trans hT7
    replace hT8 := (hu80 _ (by decide)).trans hT8
    replace hT9 := (hu80 _ (by decide)).trans hT9
    replace hT10 := (hu80 _ (by decide)).trans hT10
    replace hT11 := (hu80 _ (by decide)).trans hT11
    replace hT12 := (hu80 _ (by decide)).trans hT12
    replace hF := q_us hF hu80 (by simp)
    refine lv_aload_n hx hb d_19_34_42 rfl (lv_at hl 0 rfl) ?_
    refine q_get (ci := 13) (j := 0) (v := .int lx57) C0 V i_WR rfl rfl hT0 (by decide) w_1921 rfl d_19_34_43 ?_
    refine lv_if_le (tgt := 50) hx hb d_19_34_46 (by decide) (fun c81 => ?_) (fun c81 => ?_)
    ·
      refine lv_aload_n hx hb d_19_34_50 rfl (lv_at hl 0 rfl) ?_
      refine lv_iload_n hx hb d_19_34_51 rfl (lv_at hl 2 rfl) ?_
      refine lv_aload_n hx hb d_19_34_52 rfl (lv_at hl 0 rfl) ?_
      refine q_get (ci := 13) (j := 18) (v := .ref (q 132)) C0 V i_WR rfl rfl hT0 (by decide) w_1942 rfl d_19_34_53 ?_
      have ob83 : True ∧ S_WR_take x3 (264 : Int32) lx57 t0_1 t0_2 t0_3 t0_4 t0_5 t0_6 t1_0 t12_0 := (by have h := hS75; rw [S_WR_inverse_J39.eq_1] at h; rw [if_pos c81] at h; with_reducible exact h.2.1)
      refine q_gov V (q_runV (As := [.int x3, .ref (q 132)]) (rest := []) (d := 1) (mc := 0) (ms := 0) (ci := 13) C0 V rfl LV_WR_107 (X_WR_take l D g q w79 132 264 (n_r132 g q) x3 (by decide) hI lx57 t0_1 t0_2 t0_3 t0_4 t0_5 t0_6 hT0 t1_0 hT1 t12_0 hT12 ob83 _) rfl rfl hT0 rfl hl.1 rfl (Nat.le_of_ble_eq_true rfl) ⟨by decide, by decide⟩ ⟨Nat.le_of_ble_eq_true rfl, Nat.le_of_ble_eq_true rfl⟩ d_19_34_56) (fun u84 H locs hp85 V => ?_)
      obtain ⟨hI, hu89, f86, hA87, hE88⟩ := hp85
      replace hA87 : u84[132]? = (some (q 132, .inl (g 0, (264 : Int32).toNatClampNeg, .inl f86)) : Option (Nat × va_E)) := hA87
      have e90 : f86 = (F_WR_take x3 (264 : Int32) lx57 t0_1 t0_2 t0_3 t0_4 t0_5 t0_6 t1_0 t12_0) := hE88
      replace hT0 := (hu89 _ (by decide)).trans hT0
      replace hT1 := (hu89 _ (by decide)).trans hT1
      replace hT2 := (hu89 _ (by decide)).trans hT2
      replace hT3 := (hu89 _ (by decide)).trans hT3
      replace hT4 := (hu89 _ (by decide)).trans hT4
      replace hT5 := (hu89 _ (by decide)).trans hT5
      replace hT6 := (hu89 _ (by decide)).trans hT6
      replace hT7 := (hu89 _ (by decide)).trans hT7
      replace hT8 := (hu89 _ (by decide)).trans hT8
      replace hT9 := (hu89 _ (by decide)).trans hT9
      replace hT10 := (hu89 _ (by decide)).trans hT10
      replace hT11 := (hu89 _ (by decide)).trans hT11
      replace hF := q_uc hF hu89 (by simp)
      refine lv_aload_n hx hb d_19_34_59 rfl (lv_at hl 0 rfl) ?_
      refine lv_iload_n hx hb d_19_34_60 rfl (lv_at hl 1 rfl) ?_
      refine lv_aload_n hx hb d_19_34_61 rfl (lv_at hl 0 rfl) ?_
      refine q_get (ci := 13) (j := 12) (v := .ref (q 128)) C0 V i_WR rfl rfl hT0 (by decide) w_1936 rfl d_19_34_62 ?_
      have ob91 : True ∧ S_WR_reduce x2 (264 : Int32) lx57 t0_1 t0_2 t0_3 t0_4 t0_5 t0_6 t1_0 t2_0 t3_0 t6_0 t7_0 f86 t8_0 := (by rw [e90]; have h := hS75; rw [S_WR_inverse_J39.eq_1] at h; rw [if_pos c81] at h; replace h := q_s2 h; with_reducible exact h.2.1)
      refine q_gov V (q_runV (As := [.int x2, .ref (q 128)]) (rest := []) (d := 3) (mc := 0) (ms := 0) (ci := 13) C0 V rfl LV_WR_128 (X_WR_reduce l D g q u84 128 264 (n_r128 g q) x2 (by decide) (by decide) (by decide) (by decide) (by decide) (by decide) hI lx57 t0_1 t0_2 t0_3 t0_4 t0_5 t0_6 hT0 t1_0 hT1 t2_0 hT2 t3_0 hT3 t6_0 hT6 t7_0 hT7 f86 hA87 t8_0 hT8 ob91 _) rfl rfl hT0 rfl hl.1 rfl (Nat.le_of_ble_eq_true rfl) ⟨by decide, by decide⟩ ⟨Nat.le_of_ble_eq_true rfl, Nat.le_of_ble_eq_true rfl⟩ d_19_34_65) (fun u92 H locs hp93 V => ?_)
      obtain ⟨hI, hZ9⟩ := hp93
      obtain ⟨hu103, hZ9⟩ := hZ9
      obtain ⟨f94, hZ9⟩ := hZ9
      obtain ⟨f96, hZ9⟩ := hZ9
      obtain ⟨f98, hZ9⟩ := hZ9
      obtain ⟨f100, hZ9⟩ := hZ9
      obtain ⟨hA95, hZ9⟩ := hZ9
      obtain ⟨hA97, hZ9⟩ := hZ9
      obtain ⟨hA99, hZ9⟩ := hZ9
      obtain ⟨hA101, hE102⟩ := hZ9
      replace hA95 : u92[123]? = (some (q 123, .inl (g 0, (264 : Int32).toNatClampNeg, .inl f94)) : Option (Nat × va_E)) := hA95
      replace hA97 : u92[126]? = (some (q 126, .inl (g 0, (264 : Int32).toNatClampNeg, .inl f96)) : Option (Nat × va_E)) := hA97
      replace hA99 : u92[127]? = (some (q 127, .inl (g 0, (264 : Int32).toNatClampNeg, .inl f98)) : Option (Nat × va_E)) := hA99
      replace hA101 : u92[128]? = (some (q 128, .inl (g 0, (264 : Int32).toNatClampNeg, .inl f100)) : Option (Nat × va_E)) := hA101
      obtain ⟨p104, e105⟩ : ∃ z, z = (F_WR_reduce x2 (264 : Int32) lx57 t0_1 t0_2 t0_3 t0_4 t0_5 t0_6 t1_0 t2_0 t3_0 t6_0 t7_0 f86 t8_0) := ⟨_, rfl⟩
      have e106 : f94 = p104.1 := congrArg (fun z => z.1) (hE102.trans e105.symm)
      have e107 : f96 = p104.2.1 := congrArg (fun z => z.2.1) (hE102.trans e105.symm)
      have e108 : f98 = p104.2.2.1 := congrArg (fun z => z.2.2.1) (hE102.trans e105.symm)
      have e109 : f100 = p104.2.2.2 := congrArg (fun z => z.2.2.2) (hE102.trans e105.symm)
      replace hT0 := (hu103 _ (by decide)).trans hT0
      replace hT1 := (hu103 _ (by decide)).trans hT1
      replace hT2 := (hu103 _ (by decide)).trans hT2
      replace hT4 := (hu103 _ (by decide)).trans hT4
      replace hT5 := (hu103 _ (by decide)).trans hT5
      replace hT9 := (hu103 _ (by decide)).trans hT9
      replace hT10 := (hu103 _ (by decide)).trans hT10
      replace hT11 := (hu103 _ (by decide)).trans hT11
      replace hA87 := (hu103 _ (by decide)).trans hA87
      replace hF := q_uc hF hu103 (by simp)
      have hR110 := (show F_WR_inverse_c65 x2 x3 x4 t0_0 t0_1 t0_2 t0_3 t0_4 t0_5 t0_6 t1_0 t2_0 t3_0 t4_0 t5_0 t6_0 t7_0 t8_0 t9_0 t10_0 t11_0 t12_0 lx57 f86 p104 = (F_WR_inverse x2 x3 x4 t0_0 t0_1 t0_2 t0_3 t0_4 t0_5 t0_6 t1_0 t2_0 t3_0 t4_0 t5_0 t6_0 t7_0 t8_0 t9_0 t10_0 t11_0 t12_0) from Eq.trans (by rw [e105, e90, F_WR_inverse_J39.eq_1, if_pos c81]) hR74)
      have hS111 := (show True ∧ S_WR_inverse_c65 x2 x3 x4 t0_0 t0_1 t0_2 t0_3 t0_4 t0_5 t0_6 t1_0 t2_0 t3_0 t4_0 t5_0 t6_0 t7_0 t8_0 t9_0 t10_0 t11_0 t12_0 lx57 f86 p104 from (by rw [e105, e90]; have h := hS75; rw [S_WR_inverse_J39.eq_1] at h; rw [if_pos c81] at h; replace h := q_s2 h; replace h := q_s2 h; with_reducible exact h))
      refine lv_aload_n hx hb d_19_34_68 rfl (lv_at hl 0 rfl) ?_
      have ob115 : True ∧ S_WR_inverts lx57 t0_1 t0_2 t0_3 t0_4 t0_5 t0_6 f94 t4_0 t5_0 f96 f98 f100 t9_0 t10_0 t11_0 f86 := (by rw [e109, e108, e107, e106]; have h := hS111; rw [S_WR_inverse_c65.eq_1] at h; with_reducible exact h.2.1)
      refine q_goi V (q_runV (As := []) (rest := []) (d := 3) (mc := 0) (ms := 0) (ci := 13) C0 V rfl LV_WR_143 (X_WR_inverts l D g q u92   hI lx57 t0_1 t0_2 t0_3 t0_4 t0_5 t0_6 hT0 f94 hA95 t4_0 hT4 t5_0 hT5 f96 hA97 f98 hA99 f100 hA101 t9_0 hT9 t10_0 hT10 t11_0 hT11 f86 hA87 ob115 _) rfl rfl hT0 rfl hl.1 rfl (Nat.le_of_ble_eq_true rfl) ⟨by decide, by decide⟩ ⟨Nat.le_of_ble_eq_true rfl, Nat.le_of_ble_eq_true rfl⟩ d_19_34_69) (fun a118 u116 H locs hp117 V => ?_)
      obtain ⟨hI, hZ9⟩ := hp117
      obtain ⟨hu162, hZ9⟩ := hZ9
      obtain ⟨y120, hZ9⟩ := hZ9
      obtain ⟨y121, hZ9⟩ := hZ9
      obtain ⟨y122, hZ9⟩ := hZ9
      obtain ⟨y123, hZ9⟩ := hZ9
      obtain ⟨y124, hZ9⟩ := hZ9
      obtain ⟨y125, hZ9⟩ := hZ9
      obtain ⟨y126, hZ9⟩ := hZ9
      obtain ⟨f127, hZ9⟩ := hZ9
      obtain ⟨f129, hZ9⟩ := hZ9
      obtain ⟨f131, hZ9⟩ := hZ9
      obtain ⟨f133, hZ9⟩ := hZ9
      obtain ⟨f135, hZ9⟩ := hZ9
      obtain ⟨f137, hZ9⟩ := hZ9
      obtain ⟨f139, hZ9⟩ := hZ9
      obtain ⟨f141, hZ9⟩ := hZ9
      obtain ⟨f143, hZ9⟩ := hZ9
      obtain ⟨hO119, hZ9⟩ := hZ9
      obtain ⟨hA128, hZ9⟩ := hZ9
      obtain ⟨hA130, hZ9⟩ := hZ9
      obtain ⟨hA132, hZ9⟩ := hZ9
      obtain ⟨hA134, hZ9⟩ := hZ9
      obtain ⟨hA136, hZ9⟩ := hZ9
      obtain ⟨hA138, hZ9⟩ := hZ9
      obtain ⟨hA140, hZ9⟩ := hZ9
      obtain ⟨hA142, hZ9⟩ := hZ9
      obtain ⟨hA144, hZ9⟩ := hZ9
      replace hZ9 := hZ9.2.2
      obtain ⟨b147, hZ9⟩ := hZ9
      obtain ⟨b148, hZ9⟩ := hZ9
      obtain ⟨b149, hZ9⟩ := hZ9
      obtain ⟨b150, hZ9⟩ := hZ9
      obtain ⟨b151, hZ9⟩ := hZ9
      obtain ⟨b152, hZ9⟩ := hZ9
      replace hZ9 := hZ9.2.2
      obtain ⟨b155, hZ9⟩ := hZ9
      obtain ⟨b156, hZ9⟩ := hZ9
      obtain ⟨b157, hZ9⟩ := hZ9
      obtain ⟨b158, hZ9⟩ := hZ9
      obtain ⟨b159, hZ9⟩ := hZ9
      obtain ⟨b160, hE161⟩ := hZ9
      replace hO119 : u116[119]? = (some (q 119, .inr (13, [.int y120, .int y121, .ref (q 120), .int y122, .ref (q 121), .ref (q 122), .ref (q 123), .int y123, .ref (q 124), .ref (q 125), .ref (q 126), .ref (q 127), .ref (q 128), .ref (q 129), .ref (q 130), .ref (q 131), .int y124, .int y125, .ref (q 132), .ref (q 133), .int y126])) : Option (Nat × va_E)) := hO119
      replace hA128 : u116[123]? = (some (q 123, .inl (g 0, (264 : Int32).toNatClampNeg, .inl f127)) : Option (Nat × va_E)) := hA128
      replace hA130 : u116[124]? = (some (q 124, .inl (g 0, (264 : Int32).toNatClampNeg, .inl f129)) : Option (Nat × va_E)) := hA130
      replace hA132 : u116[125]? = (some (q 125, .inl (g 0, (528 : Int32).toNatClampNeg, .inl f131)) : Option (Nat × va_E)) := hA132
      replace hA134 : u116[126]? = (some (q 126, .inl (g 0, (264 : Int32).toNatClampNeg, .inl f133)) : Option (Nat × va_E)) := hA134
      replace hA136 : u116[127]? = (some (q 127, .inl (g 0, (264 : Int32).toNatClampNeg, .inl f135)) : Option (Nat × va_E)) := hA136
      replace hA138 : u116[128]? = (some (q 128, .inl (g 0, (264 : Int32).toNatClampNeg, .inl f137)) : Option (Nat × va_E)) := hA138
      replace hA140 : u116[129]? = (some (q 129, .inl (g 0, (264 : Int32).toNatClampNeg, .inl f139)) : Option (Nat × va_E)) := hA140
      replace hA142 : u116[130]? = (some (q 130, .inl (g 0, (264 : Int32).toNatClampNeg, .inl f141)) : Option (Nat × va_E)) := hA142
      replace hA144 : u116[131]? = (some (q 131, .inl (g 0, (264 : Int32).toNatClampNeg, .inl f143)) : Option (Nat × va_E)) := hA144
      obtain ⟨p163, e164⟩ : ∃ z, z = (F_WR_inverts lx57 t0_1 t0_2 t0_3 t0_4 t0_5 t0_6 f94 t4_0 t5_0 f96 f98 f100 t9_0 t10_0 t11_0 f86) := ⟨_, rfl⟩
      have e165 : a118 = p163.1 := congrArg (fun z => z.1) (hE161.trans e164.symm)
      have e166 : y120 = p163.2.1 := congrArg (fun z => z.2.1) (hE161.trans e164.symm)
      have e167 : y121 = p163.2.2.1 := congrArg (fun z => z.2.2.1) (hE161.trans e164.symm)
      have e168 : y122 = p163.2.2.2.1 := congrArg (fun z => z.2.2.2.1) (hE161.trans e164.symm)
      have e169 : y123 = p163.2.2.2.2.1 := congrArg (fun z => z.2.2.2.2.1) (hE161.trans e164.symm)
      have e170 : y124 = p163.2.2.2.2.2.1 := congrArg (fun z => z.2.2.2.2.2.1) (hE161.trans e164.symm)
      have e171 : y125 = p163.2.2.2.2.2.2.1 := congrArg (fun z => z.2.2.2.2.2.2.1) (hE161.trans e164.symm)
      have e172 : y126 = p163.2.2.2.2.2.2.2.1 := congrArg (fun z => z.2.2.2.2.2.2.2.1) (hE161.trans e164.symm)
      have e173 : f127 = p163.2.2.2.2.2.2.2.2.1 := congrArg (fun z => z.2.2.2.2.2.2.2.2.1) (hE161.trans e164.symm)
      have e174 : f129 = p163.2.2.2.2.2.2.2.2.2.1 := congrArg (fun z => z.2.2.2.2.2.2.2.2.2.1) (hE161.trans e164.symm)
      have e175 : f131 = p163.2.2.2.2.2.2.2.2.2.2.1 := congrArg (fun z => z.2.2.2.2.2.2.2.2.2.2.1) (hE161.trans e164.symm)
      have e176 : f133 = p163.2.2.2.2.2.2.2.2.2.2.2.1 := congrArg (fun z => z.2.2.2.2.2.2.2.2.2.2.2.1) (hE161.trans e164.symm)
      have e177 : f135 = p163.2.2.2.2.2.2.2.2.2.2.2.2.1 := congrArg (fun z => z.2.2.2.2.2.2.2.2.2.2.2.2.1) (hE161.trans e164.symm)
      have e178 : f137 = p163.2.2.2.2.2.2.2.2.2.2.2.2.2.1 := congrArg (fun z => z.2.2.2.2.2.2.2.2.2.2.2.2.2.1) (hE161.trans e164.symm)
      have e179 : f139 = p163.2.2.2.2.2.2.2.2.2.2.2.2.2.2.1 := congrArg (fun z => z.2.2.2.2.2.2.2.2.2.2.2.2.2.2.1) (hE161.trans e164.symm)
      have e180 : f141 = p163.2.2.2.2.2.2.2.2.2.2.2.2.2.2.2.1 := congrArg (fun z => z.2.2.2.2.2.2.2.2.2.2.2.2.2.2.2.1) (hE161.trans e164.symm)
      have e181 : f143 = p163.2.2.2.2.2.2.2.2.2.2.2.2.2.2.2.2 := congrArg (fun z => z.2.2.2.2.2.2.2.2.2.2.2.2.2.2.2.2) (hE161.trans e164.symm)
      replace b147 : q_F (0 ≤ y123.toInt) := b147
      replace b148 : q_F (y123.toInt ≤ 1) := b148
      replace b149 : q_F (0 ≤ y124.toInt) := b149
      replace b150 : q_F (y124.toInt ≤ 1) := b150
      replace b151 : q_F (0 ≤ y125.toInt) := b151
      replace b152 : q_F (y125.toInt ≤ 1) := b152
      replace b155 : q_F (t0_1.toInt ≤ y121.toInt) := b155
      replace b156 : q_F (y121.toInt ≤ t0_1.toInt) := b156
      replace b157 : q_F (t0_2.toInt ≤ y122.toInt) := b157
      replace b158 : q_F (y122.toInt ≤ t0_2.toInt) := b158
      replace b159 : q_F (t0_6.toInt ≤ y126.toInt) := b159
      replace b160 : q_F (y126.toInt ≤ t0_6.toInt) := b160
      replace hT1 := (hu162 _ (by decide)).trans hT1
      replace hT2 := (hu162 _ (by decide)).trans hT2
      replace hA87 := (hu162 _ (by decide)).trans hA87
      replace hF := q_uc hF hu162 (by simp)
      have hR182 := (show F_WR_inverse_c69 x2 x3 x4 t0_0 t0_1 t0_2 t0_3 t0_4 t0_5 t0_6 t1_0 t2_0 t3_0 t4_0 t5_0 t6_0 t7_0 t8_0 t9_0 t10_0 t11_0 t12_0 lx57 f86 p104 p163 = (F_WR_inverse x2 x3 x4 t0_0 t0_1 t0_2 t0_3 t0_4 t0_5 t0_6 t1_0 t2_0 t3_0 t4_0 t5_0 t6_0 t7_0 t8_0 t9_0 t10_0 t11_0 t12_0) from Eq.trans (by rw [e164, e109, e108, e107, e106, F_WR_inverse_c65.eq_1]) hR110)
      have hS183 := (show True ∧ S_WR_inverse_c69 x2 x3 x4 t0_0 t0_1 t0_2 t0_3 t0_4 t0_5 t0_6 t1_0 t2_0 t3_0 t4_0 t5_0 t6_0 t7_0 t8_0 t9_0 t10_0 t11_0 t12_0 lx57 f86 p104 p163 from (by rw [e164, e109, e108, e107, e106]; have h := hS111; rw [S_WR_inverse_c65.eq_1] at h; replace h := q_s2 h; with_reducible exact h))
      refine lv_if_ne (tgt := 81) hx hb d_19_34_72 (by decide) (fun c187 => ?_) (fun c187 => ?_)
      ·
        refine lv_aload_n hx hb d_19_34_81 rfl (lv_at hl 0 rfl) ?_
        refine q_get (ci := 13) (j := 12) (v := .ref (q 128)) C0 V i_WR rfl rfl hO119 (by decide) w_1936 rfl d_19_34_82 ?_
        refine lv_aload_n hx hb d_19_34_85 rfl (lv_at hl 0 rfl) ?_
        refine q_get (ci := 13) (j := 6) (v := .ref (q 123)) C0 V i_WR rfl rfl hO119 (by decide) w_1930 rfl d_19_34_86 ?_
        refine q_gov V (q_runS (As := [.ref (q 128), .ref (q 123)]) (rest := []) (d := 1) (mc := 0) (ms := 0) C0 V rfl LS_WR_67 (X_WR_copy l D g q u116 128 264 (n_r128 g q) 123 264 (n_r123 g q)  (by decide) hI f137 hA138 f127 hA128  _) rfl hl.1 rfl (Nat.le_of_ble_eq_true rfl) ⟨by decide, by decide⟩ ⟨Nat.le_of_ble_eq_true rfl, Nat.le_of_ble_eq_true rfl⟩ d_19_34_89) (fun u189 H locs hp190 V => ?_)
        obtain ⟨hI, hu194, f191, hA192, hE193⟩ := hp190
        replace hA192 : u189[123]? = (some (q 123, .inl (g 0, (264 : Int32).toNatClampNeg, .inl f191)) : Option (Nat × va_E)) := hA192
        have e195 : f191 = (F_WR_copy (264 : Int32) (264 : Int32) f137 f127) := hE193
        replace hO119 := (hu194 _ (by decide)).trans hO119
        replace hT1 := (hu194 _ (by decide)).trans hT1
        replace hT2 := (hu194 _ (by decide)).trans hT2
        replace hA130 := (hu194 _ (by decide)).trans hA130
        replace hA132 := (hu194 _ (by decide)).trans hA132
        replace hA134 := (hu194 _ (by decide)).trans hA134
        replace hA136 := (hu194 _ (by decide)).trans hA136
        replace hA138 := (hu194 _ (by decide)).trans hA138
        replace hA140 := (hu194 _ (by decide)).trans hA140
        replace hA142 := (hu194 _ (by decide)).trans hA142
        replace hA144 := (hu194 _ (by decide)).trans hA144
        replace hA87 := (hu194 _ (by decide)).trans hA87
        replace hF := q_uc hF hu194 (by simp)
        refine lv_aload_n hx hb d_19_34_92 rfl (lv_at hl 0 rfl) ?_
        refine lv_iconst (v := 0) hx hb d_19_34_93 (by decide) ?_
        refine q_put (ci := 13) (j := 7) (v := .int 0) (ty := .boolean) C0 V i_WR o_WR n_WR rfl rfl hO119 (by decide) w_1931 rfl rfl rfl rfl (Nat.le_of_ble_eq_true rfl) d_19_34_94 (fun H locs w196 hu197 hO119 V => ?_)
        replace hO119 : w196[119]? = (some (q 119, .inr (13, [.int y120, .int y121, .ref (q 120), .int y122, .ref (q 121), .ref (q 122), .ref (q 123), .int 0, .ref (q 124), .ref (q 125), .ref (q 126), .ref (q 127), .ref (q 128), .ref (q 129), .ref (q 130), .ref (q 131), .int y124, .int y125, .ref (q 132), .ref (q 133), .int y126])) : Option (Nat × va_E)) := hO119
        replace hI := n_p119 hI hu197 hO119 ⟨(by have t1 : 0 ≤ t0_2.toInt ∧ t0_2.toInt ≤ 4100 := btt0_2; have t2 : t0_2.toInt ≤ y122.toInt := b157; omega), (by have t1 : 0 ≤ t0_2.toInt ∧ t0_2.toInt ≤ 4100 := btt0_2; have t2 : y122.toInt ≤ t0_2.toInt := b158; omega)⟩ ⟨(by have z9 : (0 : Int32).toInt = 0 := rfl; omega), (by have z9 : (0 : Int32).toInt = 0 := rfl; omega)⟩ ⟨(by first | with_reducible exact q_fe b149 | (have t1 : 0 ≤ y124.toInt := b149; omega)), (by first | with_reducible exact q_fe b150 | (have t1 : y124.toInt ≤ 1 := b150; omega))⟩ ⟨(by first | with_reducible exact q_fe b151 | (have t1 : 0 ≤ y125.toInt := b151; omega)), (by first | with_reducible exact q_fe b152 | (have t1 : y125.toInt ≤ 1 := b152; omega))⟩ ⟨(by have t1 : 0 ≤ t0_6.toInt ∧ t0_6.toInt ≤ 2100 := btt0_6; have t2 : t0_6.toInt ≤ y126.toInt := b159; omega), (by have t1 : 0 ≤ t0_6.toInt ∧ t0_6.toInt ≤ 2100 := btt0_6; have t2 : y126.toInt ≤ t0_6.toInt := b160; omega)⟩
        replace hT1 := (hu197 _ (by decide)).trans hT1
        replace hT2 := (hu197 _ (by decide)).trans hT2
        replace hA192 := (hu197 _ (by decide)).trans hA192
        replace hA130 := (hu197 _ (by decide)).trans hA130
        replace hA132 := (hu197 _ (by decide)).trans hA132
        replace hA134 := (hu197 _ (by decide)).trans hA134
        replace hA136 := (hu197 _ (by decide)).trans hA136
        replace hA138 := (hu197 _ (by decide)).trans hA138
        replace hA140 := (hu197 _ (by decide)).trans hA140
        replace hA142 := (hu197 _ (by decide)).trans hA142
        replace hA144 := (hu197 _ (by decide)).trans hA144
        replace hA87 := (hu197 _ (by decide)).trans hA87
        replace hF := q_us hF hu197 (by simp)
        refine lv_aload_n hx hb d_19_34_97 rfl (lv_at hl 0 rfl) ?_
        refine lv_iload_n hx hb d_19_34_98 rfl (lv_at hl 3 rfl) ?_
        have ob198 : True ∧ S_WR_store x4 y120 y121 y122 (0 : Int32) y124 y125 y126 t1_0 t2_0 f191 := (by rw [e195, e178, e173, e172, e171, e170, e168, e167, e166]; have h := hS183; rw [S_WR_inverse_c69.eq_1] at h; have c187x := c187; rw [e165] at c187x; rw [if_neg c187x] at h; with_reducible exact h.2.1)
        refine q_gov V (q_runV (As := [.int x4]) (rest := []) (d := 2) (mc := 0) (ms := 0) (ci := 13) C0 V rfl LV_WR_103 (X_WR_store l D g q w196  x4 hI y120 y121 y122 0 y124 y125 y126 hO119 t1_0 hT1 t2_0 hT2 f191 hA192 ob198 _) rfl rfl hO119 rfl hl.1 rfl (Nat.le_of_ble_eq_true rfl) ⟨by decide, by decide⟩ ⟨Nat.le_of_ble_eq_true rfl, Nat.le_of_ble_eq_true rfl⟩ d_19_34_99) (fun u199 H locs hp200 V => ?_)
        obtain ⟨hI, hZ9⟩ := hp200
        obtain ⟨hu226, hZ9⟩ := hZ9
        obtain ⟨y202, hZ9⟩ := hZ9
        obtain ⟨y203, hZ9⟩ := hZ9
        obtain ⟨y204, hZ9⟩ := hZ9
        obtain ⟨y205, hZ9⟩ := hZ9
        obtain ⟨y206, hZ9⟩ := hZ9
        obtain ⟨y207, hZ9⟩ := hZ9
        obtain ⟨y208, hZ9⟩ := hZ9
        obtain ⟨f209, hZ9⟩ := hZ9
        obtain ⟨f211, hZ9⟩ := hZ9
        obtain ⟨hO201, hZ9⟩ := hZ9
        obtain ⟨hA210, hZ9⟩ := hZ9
        obtain ⟨hA212, hZ9⟩ := hZ9
        obtain ⟨b213, hZ9⟩ := hZ9
        obtain ⟨b214, hZ9⟩ := hZ9
        obtain ⟨b215, hZ9⟩ := hZ9
        obtain ⟨b216, hZ9⟩ := hZ9
        obtain ⟨b217, hZ9⟩ := hZ9
        obtain ⟨b218, hZ9⟩ := hZ9
        obtain ⟨b219, hZ9⟩ := hZ9
        obtain ⟨b220, hZ9⟩ := hZ9
        obtain ⟨b221, hZ9⟩ := hZ9
        obtain ⟨b222, hZ9⟩ := hZ9
        obtain ⟨b223, hZ9⟩ := hZ9
        obtain ⟨b224, hE225⟩ := hZ9
        replace hO201 : u199[119]? = (some (q 119, .inr (13, [.int y202, .int y203, .ref (q 120), .int y204, .ref (q 121), .ref (q 122), .ref (q 123), .int y205, .ref (q 124), .ref (q 125), .ref (q 126), .ref (q 127), .ref (q 128), .ref (q 129), .ref (q 130), .ref (q 131), .int y206, .int y207, .ref (q 132), .ref (q 133), .int y208])) : Option (Nat × va_E)) := hO201
        replace hA210 : u199[121]? = (some (q 121, .inl (g 0, (1408 : Int32).toNatClampNeg, .inl f209)) : Option (Nat × va_E)) := hA210
        replace hA212 : u199[122]? = (some (q 122, .inl (g 3, 11, .inl f211)) : Option (Nat × va_E)) := hA212
        obtain ⟨p227, e228⟩ : ∃ z, z = (F_WR_store x4 y120 y121 y122 (0 : Int32) y124 y125 y126 t1_0 t2_0 f191) := ⟨_, rfl⟩
        have e229 : y202 = p227.1 := congrArg (fun z => z.1) (hE225.trans e228.symm)
        have e230 : y203 = p227.2.1 := congrArg (fun z => z.2.1) (hE225.trans e228.symm)
        have e231 : y204 = p227.2.2.1 := congrArg (fun z => z.2.2.1) (hE225.trans e228.symm)
        have e232 : y205 = p227.2.2.2.1 := congrArg (fun z => z.2.2.2.1) (hE225.trans e228.symm)
        have e233 : y206 = p227.2.2.2.2.1 := congrArg (fun z => z.2.2.2.2.1) (hE225.trans e228.symm)
        have e234 : y207 = p227.2.2.2.2.2.1 := congrArg (fun z => z.2.2.2.2.2.1) (hE225.trans e228.symm)
        have e235 : y208 = p227.2.2.2.2.2.2.1 := congrArg (fun z => z.2.2.2.2.2.2.1) (hE225.trans e228.symm)
        have e236 : f209 = p227.2.2.2.2.2.2.2.1 := congrArg (fun z => z.2.2.2.2.2.2.2.1) (hE225.trans e228.symm)
        have e237 : f211 = p227.2.2.2.2.2.2.2.2 := congrArg (fun z => z.2.2.2.2.2.2.2.2) (hE225.trans e228.symm)
        replace b213 : q_F (y121.toInt ≤ y203.toInt) := b213
        replace b214 : q_F (y203.toInt ≤ y121.toInt) := b214
        replace b215 : q_F (y122.toInt ≤ y204.toInt) := b215
        replace b216 : q_F (y204.toInt ≤ y122.toInt) := b216
        replace b217 : q_F (0 ≤ y205.toInt) := b217
        replace b218 : q_F (y205.toInt ≤ 0) := b218
        replace b219 : q_F (y124.toInt ≤ y206.toInt) := b219
        replace b220 : q_F (y206.toInt ≤ y124.toInt) := b220
        replace b221 : q_F (y125.toInt ≤ y207.toInt) := b221
        replace b222 : q_F (y207.toInt ≤ y125.toInt) := b222
        replace b223 : q_F (y126.toInt ≤ y208.toInt) := b223
        replace b224 : q_F (y208.toInt ≤ y126.toInt) := b224
        replace hA192 := (hu226 _ (by decide)).trans hA192
        replace hA130 := (hu226 _ (by decide)).trans hA130
        replace hA132 := (hu226 _ (by decide)).trans hA132
        replace hA134 := (hu226 _ (by decide)).trans hA134
        replace hA136 := (hu226 _ (by decide)).trans hA136
        replace hA138 := (hu226 _ (by decide)).trans hA138
        replace hA140 := (hu226 _ (by decide)).trans hA140
        replace hA142 := (hu226 _ (by decide)).trans hA142
        replace hA144 := (hu226 _ (by decide)).trans hA144
        replace hA87 := (hu226 _ (by decide)).trans hA87
        replace hF := q_uc hF hu226 (by simp)
        have hR238 := (show F_WR_inverse_c99 x2 x3 x4 t0_0 t0_1 t0_2 t0_3 t0_4 t0_5 t0_6 t1_0 t2_0 t3_0 t4_0 t5_0 t6_0 t7_0 t8_0 t9_0 t10_0 t11_0 t12_0 lx57 f86 p104 p163 f191 f129 f131 f133 f135 f137 f139 f141 f143 p227 = (F_WR_inverse x2 x3 x4 t0_0 t0_1 t0_2 t0_3 t0_4 t0_5 t0_6 t1_0 t2_0 t3_0 t4_0 t5_0 t6_0 t7_0 t8_0 t9_0 t10_0 t11_0 t12_0) from Eq.trans (by have c187x := c187; rw [e165] at c187x; rw [e228, e195, e181, e180, e179, e178, e177, e176, e175, e174, e173, e172, e171, e170, e168, e167, e166, F_WR_inverse_c69.eq_1, if_neg c187x]) hR182)
        have hS239 := (show True ∧ S_WR_inverse_c99 x2 x3 x4 t0_0 t0_1 t0_2 t0_3 t0_4 t0_5 t0_6 t1_0 t2_0 t3_0 t4_0 t5_0 t6_0 t7_0 t8_0 t9_0 t10_0 t11_0 t12_0 lx57 f86 p104 p163 f191 f129 f131 f133 f135 f137 f139 f141 f143 p227 from (by rw [e228, e195, e181, e180, e179, e178, e177, e176, e175, e174, e173, e172, e171, e170, e168, e167, e166]; have h := hS183; rw [S_WR_inverse_c69.eq_1] at h; have c187x := c187; rw [e165] at c187x; rw [if_neg c187x] at h; replace h := q_s2 h; with_reducible exact h))
        exact q_retv C0 V (⟨hI, hF, y202, y203, y204, y205, y206, y207, y208, f209, f211, f191, f129, f131, f133, f135, f137, f139, f141, f143, f86, hO201, hA210, hA212, hA192, hA130, hA132, hA134, hA136, hA138, hA140, hA142, hA144, hA87, (show 0 ≤ y205.toInt from (by first | with_reducible exact q_fe b217 | (have t1 : 0 ≤ y205.toInt := b217; omega))), (show y205.toInt ≤ 1 from (by first | with_reducible exact q_fe b218 | (have t1 : y205.toInt ≤ 0 := b218; omega))), (show 0 ≤ y206.toInt from (by have t1 : 0 ≤ y124.toInt := b149; have t2 : y124.toInt ≤ y206.toInt := b219; omega)), (show y206.toInt ≤ 1 from (by have t1 : y124.toInt ≤ 1 := b150; have t2 : y206.toInt ≤ y124.toInt := b220; omega)), (show 0 ≤ y207.toInt from (by have t1 : 0 ≤ y125.toInt := b151; have t2 : y125.toInt ≤ y207.toInt := b221; omega)), (show y207.toInt ≤ 1 from (by have t1 : y125.toInt ≤ 1 := b152; have t2 : y207.toInt ≤ y125.toInt := b222; omega)), (show t0_1.toInt ≤ y203.toInt from (by have t1 : t0_1.toInt ≤ y121.toInt := b155; have t2 : y121.toInt ≤ y203.toInt := b213; omega)), (show y203.toInt ≤ t0_1.toInt from (by have t1 : y121.toInt ≤ t0_1.toInt := b156; have t2 : y203.toInt ≤ y121.toInt := b214; omega)), (show t0_2.toInt ≤ y204.toInt from (by have t1 : t0_2.toInt ≤ y122.toInt := b157; have t2 : y122.toInt ≤ y204.toInt := b215; omega)), (show y204.toInt ≤ t0_2.toInt from (by have t1 : y122.toInt ≤ t0_2.toInt := b158; have t2 : y204.toInt ≤ y122.toInt := b216; omega)), (show t0_6.toInt ≤ y208.toInt from (by have t1 : t0_6.toInt ≤ y126.toInt := b159; have t2 : y126.toInt ≤ y208.toInt := b223; omega)), (show y208.toInt ≤ t0_6.toInt from (by have t1 : y126.toInt ≤ t0_6.toInt := b160; have t2 : y208.toInt ≤ y126.toInt := b224; omega)), (show (y202, y203, y204, y205, y206, y207, y208, f209, f211, f191, f129, f131, f133, f135, f137, f139, f141, f143, f86) = (F_WR_inverse x2 x3 x4 t0_0 t0_1 t0_2 t0_3 t0_4 t0_5 t0_6 t1_0 t2_0 t3_0 t4_0 t5_0 t6_0 t7_0 t8_0 t9_0 t10_0 t11_0 t12_0) from Eq.trans (by rw [e237, e236, e235, e234, e233, e232, e231, e230, e229, F_WR_inverse_c99.eq_1]) hR238)⟩) d_19_34_102
      ·
        refine lv_aload_n hx hb d_19_34_75 rfl (lv_at hl 0 rfl) ?_
        refine lv_iconst (v := 2) hx hb d_19_34_76 (by decide) ?_
        refine q_put (ci := 13) (j := 0) (v := .int 2) (ty := .int) C0 V i_WR o_WR n_WR rfl rfl hO119 (by decide) w_1921 rfl rfl rfl rfl (Nat.le_of_ble_eq_true rfl) d_19_34_77 (fun H locs w244 hu245 hO119 V => ?_)
        replace hO119 : w244[119]? = (some (q 119, .inr (13, [.int 2, .int y121, .ref (q 120), .int y122, .ref (q 121), .ref (q 122), .ref (q 123), .int y123, .ref (q 124), .ref (q 125), .ref (q 126), .ref (q 127), .ref (q 128), .ref (q 129), .ref (q 130), .ref (q 131), .int y124, .int y125, .ref (q 132), .ref (q 133), .int y126])) : Option (Nat × va_E)) := hO119
        replace hI := n_p119 hI hu245 hO119 ⟨(by have t1 : 0 ≤ t0_2.toInt ∧ t0_2.toInt ≤ 4100 := btt0_2; have t2 : t0_2.toInt ≤ y122.toInt := b157; omega), (by have t1 : 0 ≤ t0_2.toInt ∧ t0_2.toInt ≤ 4100 := btt0_2; have t2 : y122.toInt ≤ t0_2.toInt := b158; omega)⟩ ⟨(by first | with_reducible exact q_fe b147 | (have t1 : 0 ≤ y123.toInt := b147; omega)), (by first | with_reducible exact q_fe b148 | (have t1 : y123.toInt ≤ 1 := b148; omega))⟩ ⟨(by first | with_reducible exact q_fe b149 | (have t1 : 0 ≤ y124.toInt := b149; omega)), (by first | with_reducible exact q_fe b150 | (have t1 : y124.toInt ≤ 1 := b150; omega))⟩ ⟨(by first | with_reducible exact q_fe b151 | (have t1 : 0 ≤ y125.toInt := b151; omega)), (by first | with_reducible exact q_fe b152 | (have t1 : y125.toInt ≤ 1 := b152; omega))⟩ ⟨(by have t1 : 0 ≤ t0_6.toInt ∧ t0_6.toInt ≤ 2100 := btt0_6; have t2 : t0_6.toInt ≤ y126.toInt := b159; omega), (by have t1 : 0 ≤ t0_6.toInt ∧ t0_6.toInt ≤ 2100 := btt0_6; have t2 : y126.toInt ≤ t0_6.toInt := b160; omega)⟩
        replace hT1 := (hu245 _ (by decide)).trans hT1
        replace hT2 := (hu245 _ (by decide)).trans hT2
        replace hA128 := (hu245 _ (by decide)).trans hA128
        replace hA130 := (hu245 _ (by decide)).trans hA130
        replace hA132 := (hu245 _ (by decide)).trans hA132
        replace hA134 := (hu245 _ (by decide)).trans hA134
        replace hA136 := (hu245 _ (by decide)).trans hA136
        replace hA138 := (hu245 _ (by decide)).trans hA138
        replace hA140 := (hu245 _ (by decide)).trans hA140
        replace hA142 := (hu245 _ (by decide)).trans hA142
        replace hA144 := (hu245 _ (by decide)).trans hA144
        replace hA87 := (hu245 _ (by decide)).trans hA87
        replace hF := q_us hF hu245 (by simp)
        exact q_retv C0 V (⟨hI, hF, 2, y121, y122, y123, y124, y125, y126, t1_0, t2_0, f127, f129, f131, f133, f135, f137, f139, f141, f143, f86, hO119, hT1, hT2, hA128, hA130, hA132, hA134, hA136, hA138, hA140, hA142, hA144, hA87, (show 0 ≤ y123.toInt from (by have z22 : (2 : Int32).toInt = 2 := rfl; have t1 : 0 ≤ y123.toInt := b147; omega)), (show y123.toInt ≤ 1 from (by have z22 : (2 : Int32).toInt = 2 := rfl; have t1 : y123.toInt ≤ 1 := b148; omega)), (show 0 ≤ y124.toInt from (by have z22 : (2 : Int32).toInt = 2 := rfl; have t1 : 0 ≤ y124.toInt := b149; omega)), (show y124.toInt ≤ 1 from (by have z22 : (2 : Int32).toInt = 2 := rfl; have t1 : y124.toInt ≤ 1 := b150; omega)), (show 0 ≤ y125.toInt from (by have z22 : (2 : Int32).toInt = 2 := rfl; have t1 : 0 ≤ y125.toInt := b151; omega)), (show y125.toInt ≤ 1 from (by have z22 : (2 : Int32).toInt = 2 := rfl; have t1 : y125.toInt ≤ 1 := b152; omega)), (show t0_1.toInt ≤ y121.toInt from (by have z22 : (2 : Int32).toInt = 2 := rfl; have t1 : t0_1.toInt ≤ y121.toInt := b155; omega)), (show y121.toInt ≤ t0_1.toInt from (by have z22 : (2 : Int32).toInt = 2 := rfl; have t1 : y121.toInt ≤ t0_1.toInt := b156; omega)), (show t0_2.toInt ≤ y122.toInt from (by have z22 : (2 : Int32).toInt = 2 := rfl; have t1 : t0_2.toInt ≤ y122.toInt := b157; omega)), (show y122.toInt ≤ t0_2.toInt from (by have z22 : (2 : Int32).toInt = 2 := rfl; have t1 : y122.toInt ≤ t0_2.toInt := b158; omega)), (show t0_6.toInt ≤ y126.toInt from (by have z22 : (2 : Int32).toInt = 2 := rfl; have t1 : t0_6.toInt ≤ y126.toInt := b159; omega)), (show y126.toInt ≤ t0_6.toInt from (by have z22 : (2 : Int32).toInt = 2 := rfl; have t1 : y126.toInt ≤ t0_6.toInt := b160; omega)), (show ((2 : Int32), y121, y122, y123, y124, y125, y126, t1_0, t2_0, f127, f129, f131, f133, f135, f137, f139, f141, f143, f86) = (F_WR_inverse x2 x3 x4 t0_0 t0_1 t0_2 t0_3 t0_4 t0_5 t0_6 t1_0 t2_0 t3_0 t4_0 t5_0 t6_0 t7_0 t8_0 t9_0 t10_0 t11_0 t12_0) from Eq.trans (by have c187x := c187; rw [e165] at c187x; rw [e181, e180, e179, e178, e177, e176, e175, e174, e173, e172, e171, e170, e169, e168, e167, F_WR_inverse_c69.eq_1, if_pos c187x]) hR182)⟩) d_19_34_80
    ·
      exact q_retv C0 V (⟨hI, hF, lx57, t0_1, t0_2, t0_3, t0_4, t0_5, t0_6, t1_0, t2_0, t3_0, t4_0, t5_0, t6_0, t7_0, t8_0, t9_0, t10_0, t11_0, t12_0, hT0, hT1, hT2, hT3, hT4, hT5, hT6, hT7, hT8, hT9, hT10, hT11, hT12, (show 0 ≤ t0_3.toInt from (by first | with_reducible exact (q_fe btt0_3).2 | with_reducible exact (q_fe btt0_3).1 | (have t1 : 0 ≤ t0_3.toInt ∧ t0_3.toInt ≤ 1 := btt0_3; omega))), (show t0_3.toInt ≤ 1 from (by first | with_reducible exact (q_fe btt0_3).2 | with_reducible exact (q_fe btt0_3).1 | (have t1 : 0 ≤ t0_3.toInt ∧ t0_3.toInt ≤ 1 := btt0_3; omega))), (show 0 ≤ t0_4.toInt from (by first | with_reducible exact (q_fe btt0_4).2 | with_reducible exact (q_fe btt0_4).1 | (have t1 : 0 ≤ t0_4.toInt ∧ t0_4.toInt ≤ 1 := btt0_4; omega))), (show t0_4.toInt ≤ 1 from (by first | with_reducible exact (q_fe btt0_4).2 | with_reducible exact (q_fe btt0_4).1 | (have t1 : 0 ≤ t0_4.toInt ∧ t0_4.toInt ≤ 1 := btt0_4; omega))), (show 0 ≤ t0_5.toInt from (by first | with_reducible exact (q_fe btt0_5).2 | with_reducible exact (q_fe btt0_5).1 | (have t1 : 0 ≤ t0_5.toInt ∧ t0_5.toInt ≤ 1 := btt0_5; omega))), (show t0_5.toInt ≤ 1 from (by first | with_reducible exact (q_fe btt0_5).2 | with_reducible exact (q_fe btt0_5).1 | (have t1 : 0 ≤ t0_5.toInt ∧ t0_5.toInt ≤ 1 := btt0_5; omega))), (show t0_1.toInt ≤ t0_1.toInt from (by omega)), (show t0_1.toInt ≤ t0_1.toInt from (by omega)), (show t0_2.toInt ≤ t0_2.toInt from (by omega)), (show t0_2.toInt ≤ t0_2.toInt from (by omega)), (show t0_6.toInt ≤ t0_6.toInt from (by omega)), (show t0_6.toInt ≤ t0_6.toInt from (by omega)), (show (lx57, t0_1, t0_2, t0_3, t0_4, t0_5, t0_6, t1_0, t2_0, t3_0, t4_0, t5_0, t6_0, t7_0, t8_0, t9_0, t10_0, t11_0, t12_0) = (F_WR_inverse x2 x3 x4 t0_0 t0_1 t0_2 t0_3 t0_4 t0_5 t0_6 t1_0 t2_0 t3_0 t4_0 t5_0 t6_0 t7_0 t8_0 t9_0 t10_0 t11_0 t12_0) from Eq.trans (by rw [F_WR_inverse_J39.eq_1, if_neg c81]) hR74)⟩) d_19_34_49
  ·
    intro J71
    refine q_join (X := Unit) (fun z H locs ls _ => q_Wd D g (va_A ws sz) s ws H locs ∧ lv_has ls 4 [(0, .ref (q 119)), (1, .int x2), (2, .int x3), (3, .int x4)] ∧ F_WR_inverse_J22 x2 x3 x4 t0_0 t0_1 t0_2 t0_3 t0_4 t0_5 t0_6 t1_0 t2_0 t3_0 t4_0 t5_0 t6_0 t7_0 t8_0 t9_0 t10_0 t11_0 t12_0 = (F_WR_inverse x2 x3 x4 t0_0 t0_1 t0_2 t0_3 t0_4 t0_5 t0_6 t1_0 t2_0 t3_0 t4_0 t5_0 t6_0 t7_0 t8_0 t9_0 t10_0 t11_0 t12_0) ∧ True ∧ S_WR_inverse_J22 x2 x3 x4 t0_0 t0_1 t0_2 t0_3 t0_4 t0_5 t0_6 t1_0 t2_0 t3_0 t4_0 t5_0 t6_0 t7_0 t8_0 t9_0 t10_0 t11_0 t12_0) (fun z => [.ref (q 119)]) 22 0 0 ?_ ?_
    ·
      rintro _ H locs ls _ ⟨V, hl, hR261, hS262⟩
      replace hl : lv_has ls 4 [(0, .ref (q 119)), (1, .int x2), (2, .int x3), (3, .int x4)] := hl
      refine lv_iconst (v := 1) hx hb d_19_34_22 (by decide) ?_
      refine lv_goto (tgt := 39) hx hb d_19_34_23 (by decide) ?_
      exact J71 ((1 : Int32)) _ _ _ ws ⟨(show q_F (0 ≤ 1) from (show 0 ≤ 1 from by omega)), (show q_F (1 ≤ 2) from (show 1 ≤ 2 from by omega)), V, q_lw hl (q_lw1 0 rfl (q_lw1 1 rfl (q_lw1 2 rfl (q_lw1 3 rfl q_lw0)))), (show F_WR_inverse_J39 x2 x3 x4 t0_0 t0_1 t0_2 t0_3 t0_4 t0_5 t0_6 t1_0 t2_0 t3_0 t4_0 t5_0 t6_0 t7_0 t8_0 t9_0 t10_0 t11_0 t12_0 1 = (F_WR_inverse x2 x3 x4 t0_0 t0_1 t0_2 t0_3 t0_4 t0_5 t0_6 t1_0 t2_0 t3_0 t4_0 t5_0 t6_0 t7_0 t8_0 t9_0 t10_0 t11_0 t12_0) from Eq.trans (by rw [F_WR_inverse_J22.eq_1]) hR261), (show True ∧ S_WR_inverse_J39 x2 x3 x4 t0_0 t0_1 t0_2 t0_3 t0_4 t0_5 t0_6 t1_0 t2_0 t3_0 t4_0 t5_0 t6_0 t7_0 t8_0 t9_0 t10_0 t11_0 t12_0 1 from (by have h := hS262; rw [S_WR_inverse_J22.eq_1] at h; with_reducible exact h))⟩
    ·
      intro J260
      refine lv_if_ne (tgt := 22) hx hb d_19_34_5 (by decide) (fun c266 => ?_) (fun c266 => ?_)
      ·
        exact J260 (()) _ _ _ ws ⟨V, q_lw hl (q_lw1 0 rfl (q_lw1 1 rfl (q_lw1 2 rfl (q_lw1 3 rfl q_lw0)))), (show F_WR_inverse_J22 x2 x3 x4 t0_0 t0_1 t0_2 t0_3 t0_4 t0_5 t0_6 t1_0 t2_0 t3_0 t4_0 t5_0 t6_0 t7_0 t8_0 t9_0 t10_0 t11_0 t12_0 = (F_WR_inverse x2 x3 x4 t0_0 t0_1 t0_2 t0_3 t0_4 t0_5 t0_6 t1_0 t2_0 t3_0 t4_0 t5_0 t6_0 t7_0 t8_0 t9_0 t10_0 t11_0 t12_0) from (by have c266x := c266; rw [e56] at c266x; rw [F_WR_inverse.eq_1, if_neg c266x])), (show True ∧ S_WR_inverse_J22 x2 x3 x4 t0_0 t0_1 t0_2 t0_3 t0_4 t0_5 t0_6 t1_0 t2_0 t3_0 t4_0 t5_0 t6_0 t7_0 t8_0 t9_0 t10_0 t11_0 t12_0 from (by have h := hS; rw [S_WR_inverse.eq_1] at h; have c266x := c266; rw [e56] at c266x; rw [if_neg c266x] at h; with_reducible exact h))⟩
      ·
        refine lv_iload_n hx hb d_19_34_8 rfl (lv_at hl 2 rfl) ?_
        refine q_goi V (q_runS (As := [.int x3]) (rest := [.ref (q 119)]) (d := 1) (mc := 0) (ms := 0) C0 V rfl LS_WR_91 (X_WR_no l D g q ws  x3 hI   _) rfl hl.1 rfl (Nat.le_of_ble_eq_true rfl) ⟨by decide, by decide⟩ ⟨Nat.le_of_ble_eq_true rfl, Nat.le_of_ble_eq_true rfl⟩ d_19_34_9) (fun a271 u269 H locs hp270 V => ?_)
        obtain ⟨rfl, b272, b273, hE274⟩ := hp270
        have e275 : a271 = (F_WR_no x3) := hE274
        clear b272
        clear b273
        refine lv_if_ne (tgt := 22) hx hb d_19_34_12 (by decide) (fun c276 => ?_) (fun c276 => ?_)
        ·
          exact J260 (()) _ _ _ ws ⟨V, q_lw hl (q_lw1 0 rfl (q_lw1 1 rfl (q_lw1 2 rfl (q_lw1 3 rfl q_lw0)))), (show F_WR_inverse_J22 x2 x3 x4 t0_0 t0_1 t0_2 t0_3 t0_4 t0_5 t0_6 t1_0 t2_0 t3_0 t4_0 t5_0 t6_0 t7_0 t8_0 t9_0 t10_0 t11_0 t12_0 = (F_WR_inverse x2 x3 x4 t0_0 t0_1 t0_2 t0_3 t0_4 t0_5 t0_6 t1_0 t2_0 t3_0 t4_0 t5_0 t6_0 t7_0 t8_0 t9_0 t10_0 t11_0 t12_0) from (by have c266x := c266; rw [e56] at c266x; have c276x := c276; rw [e275] at c276x; rw [F_WR_inverse.eq_1, if_pos c266x, if_neg c276x])), (show True ∧ S_WR_inverse_J22 x2 x3 x4 t0_0 t0_1 t0_2 t0_3 t0_4 t0_5 t0_6 t1_0 t2_0 t3_0 t4_0 t5_0 t6_0 t7_0 t8_0 t9_0 t10_0 t11_0 t12_0 from (by have h := hS; rw [S_WR_inverse.eq_1] at h; have c266x := c266; rw [e56] at c266x; rw [if_pos c266x] at h; have c276x := c276; rw [e275] at c276x; rw [if_neg c276x] at h; with_reducible exact h))⟩
        ·
          refine lv_iload_n hx hb d_19_34_15 rfl (lv_at hl 3 rfl) ?_
          refine q_goi V (q_runS (As := [.int x4]) (rest := [.ref (q 119)]) (d := 1) (mc := 0) (ms := 0) C0 V rfl LS_WR_91 (X_WR_no l D g q ws  x4 hI   _) rfl hl.1 rfl (Nat.le_of_ble_eq_true rfl) ⟨by decide, by decide⟩ ⟨Nat.le_of_ble_eq_true rfl, Nat.le_of_ble_eq_true rfl⟩ d_19_34_16) (fun a281 u279 H locs hp280 V => ?_)
          obtain ⟨rfl, b282, b283, hE284⟩ := hp280
          have e285 : a281 = (F_WR_no x4) := hE284
          clear b282
          clear b283
          refine lv_if_eq (tgt := 26) hx hb d_19_34_19 (by decide) (fun c286 => ?_) (fun c286 => ?_)
          ·
            refine lv_aload_n hx hb d_19_34_26 rfl (lv_at hl 0 rfl) ?_
            refine lv_iload_n hx hb d_19_34_27 rfl (lv_at hl 2 rfl) ?_
            have ob288 : True ∧ S_WR_isAbove0 x3 t0_0 t0_1 t0_2 t0_3 t0_4 t0_5 t0_6 t1_0 t2_0 := (by have h := hS; rw [S_WR_inverse.eq_1] at h; have c266x := c266; rw [e56] at c266x; rw [if_pos c266x] at h; have c276x := c276; rw [e275] at c276x; rw [if_pos c276x] at h; have c286x := c286; rw [e285] at c286x; rw [if_pos c286x] at h; with_reducible exact h.2.1)
            refine q_goi V (q_runV (As := [.int x3]) (rest := [.ref (q 119)]) (d := 2) (mc := 0) (ms := 0) (ci := 13) C0 V rfl LV_WR_125 (X_WR_isAbove0 l D g q ws  x3 hI t0_0 t0_1 t0_2 t0_3 t0_4 t0_5 t0_6 hT0 t1_0 hT1 t2_0 hT2 ob288 _) rfl rfl hT0 rfl hl.1 rfl (Nat.le_of_ble_eq_true rfl) ⟨by decide, by decide⟩ ⟨Nat.le_of_ble_eq_true rfl, Nat.le_of_ble_eq_true rfl⟩ d_19_34_28) (fun a291 u289 H locs hp290 V => ?_)
            obtain ⟨rfl, hZ9⟩ := hp290
            replace hZ9 := hZ9.2.2.2
            obtain ⟨-, hE296⟩ := hZ9
            have e297 : a291 = (F_WR_isAbove0 x3 t0_0 t0_1 t0_2 t0_3 t0_4 t0_5 t0_6 t1_0 t2_0) := hE296
            refine lv_if_ne (tgt := 38) hx hb d_19_34_31 (by decide) (fun c298 => ?_) (fun c298 => ?_)
            ·
              refine lv_iconst (v := 0) hx hb d_19_34_38 (by decide) ?_
              exact J71 ((0 : Int32)) _ _ _ ws ⟨(show q_F (0 ≤ 0) from (show 0 ≤ 0 from by omega)), (show q_F (0 ≤ 2) from (show 0 ≤ 2 from by omega)), V, q_lw hl (q_lw1 0 rfl (q_lw1 1 rfl (q_lw1 2 rfl (q_lw1 3 rfl q_lw0)))), (show F_WR_inverse_J39 x2 x3 x4 t0_0 t0_1 t0_2 t0_3 t0_4 t0_5 t0_6 t1_0 t2_0 t3_0 t4_0 t5_0 t6_0 t7_0 t8_0 t9_0 t10_0 t11_0 t12_0 0 = (F_WR_inverse x2 x3 x4 t0_0 t0_1 t0_2 t0_3 t0_4 t0_5 t0_6 t1_0 t2_0 t3_0 t4_0 t5_0 t6_0 t7_0 t8_0 t9_0 t10_0 t11_0 t12_0) from (by have c266x := c266; rw [e56] at c266x; have c276x := c276; rw [e275] at c276x; have c286x := c286; rw [e285] at c286x; have c298x := c298; rw [e297] at c298x; rw [F_WR_inverse.eq_1, if_pos c266x, if_pos c276x, if_pos c286x, if_neg c298x])), (show True ∧ S_WR_inverse_J39 x2 x3 x4 t0_0 t0_1 t0_2 t0_3 t0_4 t0_5 t0_6 t1_0 t2_0 t3_0 t4_0 t5_0 t6_0 t7_0 t8_0 t9_0 t10_0 t11_0 t12_0 0 from (by have h := hS; rw [S_WR_inverse.eq_1] at h; have c266x := c266; rw [e56] at c266x; rw [if_pos c266x] at h; have c276x := c276; rw [e275] at c276x; rw [if_pos c276x] at h; have c286x := c286; rw [e285] at c286x; rw [if_pos c286x] at h; replace h := q_s2 h; have c298x := c298; rw [e297] at c298x; rw [if_neg c298x] at h; with_reducible exact h))⟩
            ·
              refine lv_iconst (v := 2) hx hb d_19_34_34 (by decide) ?_
              refine lv_goto (tgt := 39) hx hb d_19_34_35 (by decide) ?_
              exact J71 ((2 : Int32)) _ _ _ ws ⟨(show q_F (0 ≤ 2) from (show 0 ≤ 2 from by omega)), (show q_F (2 ≤ 2) from (show 2 ≤ 2 from by omega)), V, q_lw hl (q_lw1 0 rfl (q_lw1 1 rfl (q_lw1 2 rfl (q_lw1 3 rfl q_lw0)))), (show F_WR_inverse_J39 x2 x3 x4 t0_0 t0_1 t0_2 t0_3 t0_4 t0_5 t0_6 t1_0 t2_0 t3_0 t4_0 t5_0 t6_0 t7_0 t8_0 t9_0 t10_0 t11_0 t12_0 2 = (F_WR_inverse x2 x3 x4 t0_0 t0_1 t0_2 t0_3 t0_4 t0_5 t0_6 t1_0 t2_0 t3_0 t4_0 t5_0 t6_0 t7_0 t8_0 t9_0 t10_0 t11_0 t12_0) from (by have c266x := c266; rw [e56] at c266x; have c276x := c276; rw [e275] at c276x; have c286x := c286; rw [e285] at c286x; have c298x := c298; rw [e297] at c298x; rw [F_WR_inverse.eq_1, if_pos c266x, if_pos c276x, if_pos c286x, if_pos c298x])), (show True ∧ S_WR_inverse_J39 x2 x3 x4 t0_0 t0_1 t0_2 t0_3 t0_4 t0_5 t0_6 t1_0 t2_0 t3_0 t4_0 t5_0 t6_0 t7_0 t8_0 t9_0 t10_0 t11_0 t12_0 2 from (by have h := hS; rw [S_WR_inverse.eq_1] at h; have c266x := c266; rw [e56] at c266x; rw [if_pos c266x] at h; have c276x := c276; rw [e275] at c276x; rw [if_pos c276x] at h; have c286x := c286; rw [e285] at c286x; rw [if_pos c286x] at h; replace h := q_s2 h; have c298x := c298; rw [e297] at c298x; rw [if_pos c298x] at h; with_reducible exact h))⟩
          ·
            exact J260 (()) _ _ _ ws ⟨V, q_lw hl (q_lw1 0 rfl (q_lw1 1 rfl (q_lw1 2 rfl (q_lw1 3 rfl q_lw0)))), (show F_WR_inverse_J22 x2 x3 x4 t0_0 t0_1 t0_2 t0_3 t0_4 t0_5 t0_6 t1_0 t2_0 t3_0 t4_0 t5_0 t6_0 t7_0 t8_0 t9_0 t10_0 t11_0 t12_0 = (F_WR_inverse x2 x3 x4 t0_0 t0_1 t0_2 t0_3 t0_4 t0_5 t0_6 t1_0 t2_0 t3_0 t4_0 t5_0 t6_0 t7_0 t8_0 t9_0 t10_0 t11_0 t12_0) from (by have c266x := c266; rw [e56] at c266x; have c276x := c276; rw [e275] at c276x; have c286x := c286; rw [e285] at c286x; rw [F_WR_inverse.eq_1, if_pos c266x, if_pos c276x, if_neg c286x])), (show True ∧ S_WR_inverse_J22 x2 x3 x4 t0_0 t0_1 t0_2 t0_3 t0_4 t0_5 t0_6 t1_0 t2_0 t3_0 t4_0 t5_0 t6_0 t7_0 t8_0 t9_0 t10_0 t11_0 t12_0 from (by have h := hS; rw [S_WR_inverse.eq_1] at h; have c266x := c266; rw [e56] at c266x; rw [if_pos c266x] at h; have c276x := c276; rw [e275] at c276x; rw [if_pos c276x] at h; have c286x := c286; rw [e285] at c286x; rw [if_neg c286x] at h; with_reducible exact h))⟩
theorem d_19_37_0 : decode prog_19_method_37_code 0 = .ok (.aload_n 0, 1) := by decide +kernel
theorem d_19_37_1 : decode prog_19_method_37_code 1 = .ok (.iload_n 1, 1) := by decide +kernel
theorem d_19_37_2 : decode prog_19_method_37_code 2 = .ok (.invokestatic 91, 3) := by decide +kernel
theorem d_19_37_38 : decode prog_19_method_37_code 38 = .ok (.putfield 53, 3) := by decide +kernel
theorem d_19_37_41 : decode prog_19_method_37_code 41 = .ok (.aload_n 0, 1) := by decide +kernel
theorem d_19_37_42 : decode prog_19_method_37_code 42 = .ok (.getfield 53, 3) := by decide +kernel
theorem d_19_37_45 : decode prog_19_method_37_code 45 = .ok (.ifCond .le 4, 3) := by decide +kernel
theorem d_19_37_49 : decode prog_19_method_37_code 49 = .ok (.aload_n 0, 1) := by decide +kernel
theorem d_19_37_50 : decode prog_19_method_37_code 50 = .ok (.iconst 2, 1) := by decide +kernel
theorem d_19_37_51 : decode prog_19_method_37_code 51 = .ok (.putfield 79, 3) := by decide +kernel
theorem d_19_37_54 : decode prog_19_method_37_code 54 = .ok (.aload_n 0, 1) := by decide +kernel
theorem d_19_37_55 : decode prog_19_method_37_code 55 = .ok (.getfield 20, 3) := by decide +kernel
theorem d_19_37_58 : decode prog_19_method_37_code 58 = .ok (.invokestatic 63, 3) := by decide +kernel
theorem d_19_37_61 : decode prog_19_method_37_code 61 = .ok (.iconst 0, 1) := by decide +kernel
theorem d_19_37_62 : decode prog_19_method_37_code 62 = .ok (.istore 5, 2) := by decide +kernel
theorem d_19_37_64 : decode prog_19_method_37_code 64 = .ok (.iload 5, 2) := by decide +kernel
theorem d_19_37_66 : decode prog_19_method_37_code 66 = .ok (.sipush 128, 3) := by decide +kernel
theorem d_19_37_69 : decode prog_19_method_37_code 69 = .ok (.if_icmp .gt 82, 3) := by decide +kernel
theorem d_19_37_151 : decode prog_19_method_37_code 151 = .ok (.aload_n 0, 1) := by decide +kernel
theorem d_19_37_152 : decode prog_19_method_37_code 152 = .ok (.aload_n 0, 1) := by decide +kernel
theorem d_19_37_153 : decode prog_19_method_37_code 153 = .ok (.getfield 20, 3) := by decide +kernel
theorem d_19_37_156 : decode prog_19_method_37_code 156 = .ok (.sipush 128, 3) := by decide +kernel
theorem d_19_37_159 : decode prog_19_method_37_code 159 = .ok (.iaload, 1) := by decide +kernel
theorem d_19_37_160 : decode prog_19_method_37_code 160 = .ok (.ldc 152, 2) := by decide +kernel
set_option maxRecDepth 100000 in
theorem w_2744 : (Cond.constant "NumberHouseModel$WholeRows" (152 : Nat) (32768 : Int32)) ∈ q_tbl := q_of12 104 rfl (by decide +kernel)
theorem d_19_37_170 : decode prog_19_method_37_code 170 = .ok (.putfield 82, 3) := by decide +kernel
theorem d_19_37_173 : decode prog_19_method_37_code 173 = .ok (.aload_n 0, 1) := by decide +kernel
theorem d_19_37_174 : decode prog_19_method_37_code 174 = .ok (.getfield 82, 3) := by decide +kernel
theorem d_19_37_177 : decode prog_19_method_37_code 177 = .ok (.ifCond .eq 61, 3) := by decide +kernel
theorem d_19_37_238 : decode prog_19_method_37_code 238 = .ok (.aload_n 0, 1) := by decide +kernel
theorem d_19_37_239 : decode prog_19_method_37_code 239 = .ok (.iload_n 3, 1) := by decide +kernel
theorem d_19_37_240 : decode prog_19_method_37_code 240 = .ok (.invokevirtual 103, 3) := by decide +kernel
theorem d_19_37_243 : decode prog_19_method_37_code 243 = .ok (.return_, 1) := by decide +kernel
theorem d_19_37_180 : decode prog_19_method_37_code 180 = .ok (.iconst 0, 1) := by decide +kernel
theorem d_19_37_181 : decode prog_19_method_37_code 181 = .ok (.istore 5, 2) := by decide +kernel
theorem d_19_37_183 : decode prog_19_method_37_code 183 = .ok (.iload 5, 2) := by decide +kernel
theorem d_19_37_185 : decode prog_19_method_37_code 185 = .ok (.sipush 128, 3) := by decide +kernel
theorem d_19_37_188 : decode prog_19_method_37_code 188 = .ok (.if_icmp .gt 28, 3) := by decide +kernel
theorem d_19_37_216 : decode prog_19_method_37_code 216 = .ok (.aload_n 0, 1) := by decide +kernel
theorem d_19_37_217 : decode prog_19_method_37_code 217 = .ok (.aload_n 0, 1) := by decide +kernel
theorem d_19_37_218 : decode prog_19_method_37_code 218 = .ok (.getfield 23, 3) := by decide +kernel
theorem d_19_37_221 : decode prog_19_method_37_code 221 = .ok (.invokevirtual 131, 3) := by decide +kernel
theorem d_19_37_224 : decode prog_19_method_37_code 224 = .ok (.aload_n 0, 1) := by decide +kernel
theorem d_19_37_225 : decode prog_19_method_37_code 225 = .ok (.getfield 20, 3) := by decide +kernel
theorem d_19_37_228 : decode prog_19_method_37_code 228 = .ok (.aload_n 0, 1) := by decide +kernel
theorem d_19_37_229 : decode prog_19_method_37_code 229 = .ok (.getfield 23, 3) := by decide +kernel
theorem d_19_37_232 : decode prog_19_method_37_code 232 = .ok (.iconst 1, 1) := by decide +kernel
theorem d_19_37_233 : decode prog_19_method_37_code 233 = .ok (.lconst 1, 1) := by decide +kernel
theorem d_19_37_234 : decode prog_19_method_37_code 234 = .ok (.iconst 0, 1) := by decide +kernel
theorem d_19_37_235 : decode prog_19_method_37_code 235 = .ok (.invokestatic 75, 3) := by decide +kernel
theorem d_19_37_191 : decode prog_19_method_37_code 191 = .ok (.aload_n 0, 1) := by decide +kernel
theorem d_19_37_192 : decode prog_19_method_37_code 192 = .ok (.getfield 20, 3) := by decide +kernel
theorem d_19_37_195 : decode prog_19_method_37_code 195 = .ok (.iload 5, 2) := by decide +kernel
theorem d_19_37_197 : decode prog_19_method_37_code 197 = .ok (.aload_n 0, 1) := by decide +kernel
theorem d_19_37_198 : decode prog_19_method_37_code 198 = .ok (.getfield 20, 3) := by decide +kernel
theorem d_19_37_201 : decode prog_19_method_37_code 201 = .ok (.iload 5, 2) := by decide +kernel
theorem d_19_37_203 : decode prog_19_method_37_code 203 = .ok (.iaload, 1) := by decide +kernel
theorem d_19_37_204 : decode prog_19_method_37_code 204 = .ok (.iconst (-1), 1) := by decide +kernel
theorem d_19_37_205 : decode prog_19_method_37_code 205 = .ok (.ixor, 1) := by decide +kernel
theorem d_19_37_206 : decode prog_19_method_37_code 206 = .ok (.ldc 147, 2) := by decide +kernel
theorem d_19_37_208 : decode prog_19_method_37_code 208 = .ok (.iand, 1) := by decide +kernel
theorem d_19_37_209 : decode prog_19_method_37_code 209 = .ok (.iastore, 1) := by decide +kernel
theorem d_19_37_210 : decode prog_19_method_37_code 210 = .ok (.iinc 5 1, 3) := by decide +kernel
theorem d_19_37_213 : decode prog_19_method_37_code 213 = .ok (.goto (-30), 3) := by decide +kernel
theorem d_19_37_162 : decode prog_19_method_37_code 162 = .ok (.if_icmp .lt 7, 3) := by decide +kernel
theorem d_19_37_169 : decode prog_19_method_37_code 169 = .ok (.iconst 0, 1) := by decide +kernel
theorem d_19_37_165 : decode prog_19_method_37_code 165 = .ok (.iconst 1, 1) := by decide +kernel
theorem d_19_37_166 : decode prog_19_method_37_code 166 = .ok (.goto 4, 3) := by decide +kernel
theorem d_19_37_72 : decode prog_19_method_37_code 72 = .ok (.aload_n 0, 1) := by decide +kernel
theorem d_19_37_73 : decode prog_19_method_37_code 73 = .ok (.iload_n 1, 1) := by decide +kernel
theorem d_19_37_74 : decode prog_19_method_37_code 74 = .ok (.iload 5, 2) := by decide +kernel
theorem d_19_37_76 : decode prog_19_method_37_code 76 = .ok (.invokevirtual 148, 3) := by decide +kernel
theorem d_19_37_79 : decode prog_19_method_37_code 79 = .ok (.istore 6, 2) := by decide +kernel
theorem d_19_37_81 : decode prog_19_method_37_code 81 = .ok (.aload_n 0, 1) := by decide +kernel
theorem d_19_37_82 : decode prog_19_method_37_code 82 = .ok (.iload_n 2, 1) := by decide +kernel
theorem d_19_37_83 : decode prog_19_method_37_code 83 = .ok (.iload 5, 2) := by decide +kernel
theorem d_19_37_85 : decode prog_19_method_37_code 85 = .ok (.invokevirtual 148, 3) := by decide +kernel
theorem d_19_37_88 : decode prog_19_method_37_code 88 = .ok (.istore 7, 2) := by decide +kernel
theorem d_19_37_90 : decode prog_19_method_37_code 90 = .ok (.aload_n 0, 1) := by decide +kernel
theorem d_19_37_91 : decode prog_19_method_37_code 91 = .ok (.getfield 20, 3) := by decide +kernel
theorem d_19_37_94 : decode prog_19_method_37_code 94 = .ok (.iload 5, 2) := by decide +kernel
theorem d_19_37_96 : decode prog_19_method_37_code 96 = .ok (.iload 4, 2) := by decide +kernel
theorem d_19_37_98 : decode prog_19_method_37_code 98 = .ok (.ifCond .ne 11, 3) := by decide +kernel
theorem d_19_37_109 : decode prog_19_method_37_code 109 = .ok (.iload 4, 2) := by decide +kernel
theorem d_19_37_111 : decode prog_19_method_37_code 111 = .ok (.iconst 1, 1) := by decide +kernel
theorem d_19_37_112 : decode prog_19_method_37_code 112 = .ok (.if_icmp .ne 11, 3) := by decide +kernel
theorem d_19_37_123 : decode prog_19_method_37_code 123 = .ok (.iload 4, 2) := by decide +kernel
theorem d_19_37_125 : decode prog_19_method_37_code 125 = .ok (.iconst 2, 1) := by decide +kernel
theorem d_19_37_126 : decode prog_19_method_37_code 126 = .ok (.if_icmp .ne 11, 3) := by decide +kernel
theorem d_19_37_137 : decode prog_19_method_37_code 137 = .ok (.iload 6, 2) := by decide +kernel
theorem d_19_37_139 : decode prog_19_method_37_code 139 = .ok (.iload 7, 2) := by decide +kernel
theorem d_19_37_141 : decode prog_19_method_37_code 141 = .ok (.iconst (-1), 1) := by decide +kernel
theorem d_19_37_142 : decode prog_19_method_37_code 142 = .ok (.ixor, 1) := by decide +kernel
theorem d_19_37_143 : decode prog_19_method_37_code 143 = .ok (.iand, 1) := by decide +kernel
theorem d_19_37_144 : decode prog_19_method_37_code 144 = .ok (.iastore, 1) := by decide +kernel
theorem d_19_37_145 : decode prog_19_method_37_code 145 = .ok (.iinc 5 1, 3) := by decide +kernel
theorem d_19_37_148 : decode prog_19_method_37_code 148 = .ok (.goto (-84), 3) := by decide +kernel
theorem d_19_37_129 : decode prog_19_method_37_code 129 = .ok (.iload 6, 2) := by decide +kernel
theorem d_19_37_131 : decode prog_19_method_37_code 131 = .ok (.iload 7, 2) := by decide +kernel
theorem d_19_37_133 : decode prog_19_method_37_code 133 = .ok (.ixor, 1) := by decide +kernel
theorem d_19_37_134 : decode prog_19_method_37_code 134 = .ok (.goto 10, 3) := by decide +kernel
theorem d_19_37_115 : decode prog_19_method_37_code 115 = .ok (.iload 6, 2) := by decide +kernel
theorem d_19_37_117 : decode prog_19_method_37_code 117 = .ok (.iload 7, 2) := by decide +kernel
theorem d_19_37_119 : decode prog_19_method_37_code 119 = .ok (.ior, 1) := by decide +kernel
theorem d_19_37_120 : decode prog_19_method_37_code 120 = .ok (.goto 24, 3) := by decide +kernel
theorem d_19_37_101 : decode prog_19_method_37_code 101 = .ok (.iload 6, 2) := by decide +kernel
theorem d_19_37_103 : decode prog_19_method_37_code 103 = .ok (.iload 7, 2) := by decide +kernel
theorem d_19_37_105 : decode prog_19_method_37_code 105 = .ok (.iand, 1) := by decide +kernel
theorem d_19_37_106 : decode prog_19_method_37_code 106 = .ok (.goto 38, 3) := by decide +kernel
theorem d_19_37_48 : decode prog_19_method_37_code 48 = .ok (.return_, 1) := by decide +kernel
theorem d_19_37_33 : decode prog_19_method_37_code 33 = .ok (.iconst 1, 1) := by decide +kernel
theorem d_19_37_34 : decode prog_19_method_37_code 34 = .ok (.goto 4, 3) := by decide +kernel
theorem d_19_37_5 : decode prog_19_method_37_code 5 = .ok (.ifCond .ne 28, 3) := by decide +kernel
theorem d_19_37_8 : decode prog_19_method_37_code 8 = .ok (.iload_n 2, 1) := by decide +kernel
theorem d_19_37_9 : decode prog_19_method_37_code 9 = .ok (.invokestatic 91, 3) := by decide +kernel
theorem d_19_37_12 : decode prog_19_method_37_code 12 = .ok (.ifCond .ne 21, 3) := by decide +kernel
theorem d_19_37_15 : decode prog_19_method_37_code 15 = .ok (.iload_n 3, 1) := by decide +kernel
theorem d_19_37_16 : decode prog_19_method_37_code 16 = .ok (.invokestatic 91, 3) := by decide +kernel
theorem d_19_37_19 : decode prog_19_method_37_code 19 = .ok (.ifCond .ne 14, 3) := by decide +kernel
theorem d_19_37_22 : decode prog_19_method_37_code 22 = .ok (.iload 4, 2) := by decide +kernel
theorem d_19_37_24 : decode prog_19_method_37_code 24 = .ok (.ifCond .lt 9, 3) := by decide +kernel
theorem d_19_37_27 : decode prog_19_method_37_code 27 = .ok (.iload 4, 2) := by decide +kernel
theorem d_19_37_29 : decode prog_19_method_37_code 29 = .ok (.iconst 3, 1) := by decide +kernel
theorem d_19_37_30 : decode prog_19_method_37_code 30 = .ok (.if_icmp .le 7, 3) := by decide +kernel
theorem d_19_37_37 : decode prog_19_method_37_code 37 = .ok (.iconst 0, 1) := by decide +kernel
def y_WR_combine : MethodName := ⟨"NumberHouseModel$WholeRows", "combine", "(IIII)V"⟩
def F_WR_combine_c240 (K_F_WR_combine_L64 : Int32 → (Nat → Int32) → (Int32 × Int32 × Int32 × Int32 × Int32 × Int32 × Int32 × (Nat → Int32) × (Nat → Int32) × (Nat → Int32) × (Nat → Int32))) (x2 : Int32) (x3 : Int32) (x4 : Int32) (x5 : Int32) (t0_0 : Int32) (t0_1 : Int32) (t0_2 : Int32) (t0_3 : Int32) (t0_4 : Int32) (t0_5 : Int32) (t0_6 : Int32) (t1_0 : (Nat → Int32)) (t2_0 : (Nat → Int32)) (t3_0 : (Nat → Int32)) (t4_0 : (Nat → Int32)) (lx33 : Int32) (lx61 : Int32) (lx62 : (Nat → Int32)) (lx81 : Int32) (p128 : (Int32 × Int32 × Int32 × Int32 × Int32 × Int32 × Int32 × (Nat → Int32) × (Nat → Int32))) : Int32 × Int32 × Int32 × Int32 × Int32 × Int32 × Int32 × (Nat → Int32) × (Nat → Int32) × (Nat → Int32) × (Nat → Int32) := ((p128.1 : Int32), (p128.2.1 : Int32), (p128.2.2.1 : Int32), (p128.2.2.2.1 : Int32), (p128.2.2.2.2.1 : Int32), (p128.2.2.2.2.2.1 : Int32), (p128.2.2.2.2.2.2.1 : Int32), (p128.2.2.2.2.2.2.2.1 : (Nat → Int32)), (p128.2.2.2.2.2.2.2.2 : (Nat → Int32)), lx62, t4_0)
def F_WR_combine_c240_6 (K_F_WR_combine_L64 : Int32 → (Nat → Int32) → (Int32 × Int32 × Int32 × Int32 × Int32 × Int32 × Int32 × (Nat → Int32) × (Nat → Int32) × (Nat → Int32) × (Nat → Int32))) (K_F_WR_combine_L183 : Int32 → (Nat → Int32) → (Int32 × Int32 × Int32 × Int32 × Int32 × Int32 × Int32 × (Nat → Int32) × (Nat → Int32) × (Nat → Int32) × (Nat → Int32))) (x2 : Int32) (x3 : Int32) (x4 : Int32) (x5 : Int32) (t0_0 : Int32) (t0_1 : Int32) (t0_2 : Int32) (t0_3 : Int32) (t0_4 : Int32) (t0_5 : Int32) (t0_6 : Int32) (t1_0 : (Nat → Int32)) (t2_0 : (Nat → Int32)) (t3_0 : (Nat → Int32)) (t4_0 : (Nat → Int32)) (lx33 : Int32) (lx61 : Int32) (lx62 : (Nat → Int32)) (lx81 : Int32) (lx146 : Int32) (lx147 : (Nat → Int32)) (f175 : (Nat → Int32)) (f167 : (Nat → Int32)) (p209 : (Int32 × Int32 × Int32 × Int32 × Int32 × Int32 × Int32 × (Nat → Int32) × (Nat → Int32))) : Int32 × Int32 × Int32 × Int32 × Int32 × Int32 × Int32 × (Nat → Int32) × (Nat → Int32) × (Nat → Int32) × (Nat → Int32) := ((p209.1 : Int32), (p209.2.1 : Int32), (p209.2.2.1 : Int32), (p209.2.2.2.1 : Int32), (p209.2.2.2.2.1 : Int32), (p209.2.2.2.2.2.1 : Int32), (p209.2.2.2.2.2.2.1 : Int32), (p209.2.2.2.2.2.2.2.1 : (Nat → Int32)), (p209.2.2.2.2.2.2.2.2 : (Nat → Int32)), f175, f167)
def F_WR_combine_L183 (K_F_WR_combine_L64 : Int32 → (Nat → Int32) → (Int32 × Int32 × Int32 × Int32 × Int32 × Int32 × Int32 × (Nat → Int32) × (Nat → Int32) × (Nat → Int32) × (Nat → Int32))) (x2 : Int32) (x3 : Int32) (x4 : Int32) (x5 : Int32) (t0_0 : Int32) (t0_1 : Int32) (t0_2 : Int32) (t0_3 : Int32) (t0_4 : Int32) (t0_5 : Int32) (t0_6 : Int32) (t1_0 : (Nat → Int32)) (t2_0 : (Nat → Int32)) (t3_0 : (Nat → Int32)) (t4_0 : (Nat → Int32)) (lx33 : Int32) (lx61 : Int32) (lx62 : (Nat → Int32)) (lx81 : Int32) : Nat → Int32 → (Nat → Int32) → (Int32 × Int32 × Int32 × Int32 × Int32 × Int32 × Int32 × (Nat → Int32) × (Nat → Int32) × (Nat → Int32) × (Nat → Int32))
  | 0, _, _ => default
  | fm + 1, lx146, lx147 => if (128 : Int32) < lx146 then (F_WR_combine_c240_6 K_F_WR_combine_L64 (F_WR_combine_L183 K_F_WR_combine_L64 x2 x3 x4 x5 t0_0 t0_1 t0_2 t0_3 t0_4 t0_5 t0_6 t1_0 t2_0 t3_0 t4_0 lx33 lx61 lx62 lx81 fm) x2 x3 x4 x5 t0_0 t0_1 t0_2 t0_3 t0_4 t0_5 t0_6 t1_0 t2_0 t3_0 t4_0 lx33 lx61 lx62 lx81 lx146 lx147 ((F_WR_join (264 : Int32) (264 : Int32) (1 : Int32) (1 : Int64) (0 : Int32) lx147 ((F_WR_setOne (264 : Int32) lx33 (2 : Int32) t0_2 lx81 t0_4 t0_5 t0_6 t4_0) : (Nat → Int32))) : (Nat → Int32)) ((F_WR_setOne (264 : Int32) lx33 (2 : Int32) t0_2 lx81 t0_4 t0_5 t0_6 t4_0) : (Nat → Int32)) ((F_WR_store x4 lx33 (2 : Int32) t0_2 lx81 t0_4 t0_5 t0_6 t1_0 t2_0 ((F_WR_join (264 : Int32) (264 : Int32) (1 : Int32) (1 : Int64) (0 : Int32) lx147 ((F_WR_setOne (264 : Int32) lx33 (2 : Int32) t0_2 lx81 t0_4 t0_5 t0_6 t4_0) : (Nat → Int32))) : (Nat → Int32))) : (Int32 × Int32 × Int32 × Int32 × Int32 × Int32 × Int32 × (Nat → Int32) × (Nat → Int32)))) else (F_WR_combine_L183 K_F_WR_combine_L64 x2 x3 x4 x5 t0_0 t0_1 t0_2 t0_3 t0_4 t0_5 t0_6 t1_0 t2_0 t3_0 t4_0 lx33 lx61 lx62 lx81 fm (lx146 + 1 : Int32) (upd lx147 lx146.toNatClampNeg (((lx147 lx146.toNatClampNeg : Int32) ^^^ (-1) : Int32) &&& 65535 : Int32) : (Nat → Int32)))
def F_WR_combine_J170 (K_F_WR_combine_L64 : Int32 → (Nat → Int32) → (Int32 × Int32 × Int32 × Int32 × Int32 × Int32 × Int32 × (Nat → Int32) × (Nat → Int32) × (Nat → Int32) × (Nat → Int32))) (x2 : Int32) (x3 : Int32) (x4 : Int32) (x5 : Int32) (t0_0 : Int32) (t0_1 : Int32) (t0_2 : Int32) (t0_3 : Int32) (t0_4 : Int32) (t0_5 : Int32) (t0_6 : Int32) (t1_0 : (Nat → Int32)) (t2_0 : (Nat → Int32)) (t3_0 : (Nat → Int32)) (t4_0 : (Nat → Int32)) (lx33 : Int32) (lx61 : Int32) (lx62 : (Nat → Int32)) (lx81 : Int32) : Int32 × Int32 × Int32 × Int32 × Int32 × Int32 × Int32 × (Nat → Int32) × (Nat → Int32) × (Nat → Int32) × (Nat → Int32) := if lx81 = (0 : Int32) then (F_WR_combine_c240 K_F_WR_combine_L64 x2 x3 x4 x5 t0_0 t0_1 t0_2 t0_3 t0_4 t0_5 t0_6 t1_0 t2_0 t3_0 t4_0 lx33 lx61 lx62 lx81 ((F_WR_store x4 lx33 (2 : Int32) t0_2 lx81 t0_4 t0_5 t0_6 t1_0 t2_0 lx62) : (Int32 × Int32 × Int32 × Int32 × Int32 × Int32 × Int32 × (Nat → Int32) × (Nat → Int32)))) else (F_WR_combine_L183 K_F_WR_combine_L64 x2 x3 x4 x5 t0_0 t0_1 t0_2 t0_3 t0_4 t0_5 t0_6 t1_0 t2_0 t3_0 t4_0 lx33 lx61 lx62 lx81 ((129 - (0 : Int32).toInt).toNat + 1) 0 lx62)
def F_WR_combine_L64 (x2 : Int32) (x3 : Int32) (x4 : Int32) (x5 : Int32) (t0_0 : Int32) (t0_1 : Int32) (t0_2 : Int32) (t0_3 : Int32) (t0_4 : Int32) (t0_5 : Int32) (t0_6 : Int32) (t1_0 : (Nat → Int32)) (t2_0 : (Nat → Int32)) (t3_0 : (Nat → Int32)) (t4_0 : (Nat → Int32)) (lx33 : Int32) : Nat → Int32 → (Nat → Int32) → (Int32 × Int32 × Int32 × Int32 × Int32 × Int32 × Int32 × (Nat → Int32) × (Nat → Int32) × (Nat → Int32) × (Nat → Int32))
  | 0, _, _ => default
  | fm + 1, lx61, lx62 => if (128 : Int32) < lx61 then (if (lx62 (128 : Int32).toNatClampNeg : Int32) < (32768 : Int32) then (F_WR_combine_J170 (F_WR_combine_L64 x2 x3 x4 x5 t0_0 t0_1 t0_2 t0_3 t0_4 t0_5 t0_6 t1_0 t2_0 t3_0 t4_0 lx33 fm) x2 x3 x4 x5 t0_0 t0_1 t0_2 t0_3 t0_4 t0_5 t0_6 t1_0 t2_0 t3_0 t4_0 lx33 lx61 lx62 0) else (F_WR_combine_J170 (F_WR_combine_L64 x2 x3 x4 x5 t0_0 t0_1 t0_2 t0_3 t0_4 t0_5 t0_6 t1_0 t2_0 t3_0 t4_0 lx33 fm) x2 x3 x4 x5 t0_0 t0_1 t0_2 t0_3 t0_4 t0_5 t0_6 t1_0 t2_0 t3_0 t4_0 lx33 lx61 lx62 1)) else (if x5 = (0 : Int32) then (F_WR_combine_L64 x2 x3 x4 x5 t0_0 t0_1 t0_2 t0_3 t0_4 t0_5 t0_6 t1_0 t2_0 t3_0 t4_0 lx33 fm (lx61 + 1 : Int32) (upd lx62 lx61.toNatClampNeg (((F_WR_limb x2 lx61 lx33 (2 : Int32) t0_2 t0_3 t0_4 t0_5 t0_6 t1_0 t2_0) : Int32) &&& ((F_WR_limb x3 lx61 lx33 (2 : Int32) t0_2 t0_3 t0_4 t0_5 t0_6 t1_0 t2_0) : Int32) : Int32) : (Nat → Int32))) else (if x5 = (1 : Int32) then (F_WR_combine_L64 x2 x3 x4 x5 t0_0 t0_1 t0_2 t0_3 t0_4 t0_5 t0_6 t1_0 t2_0 t3_0 t4_0 lx33 fm (lx61 + 1 : Int32) (upd lx62 lx61.toNatClampNeg (((F_WR_limb x2 lx61 lx33 (2 : Int32) t0_2 t0_3 t0_4 t0_5 t0_6 t1_0 t2_0) : Int32) ||| ((F_WR_limb x3 lx61 lx33 (2 : Int32) t0_2 t0_3 t0_4 t0_5 t0_6 t1_0 t2_0) : Int32) : Int32) : (Nat → Int32))) else (if x5 = (2 : Int32) then (F_WR_combine_L64 x2 x3 x4 x5 t0_0 t0_1 t0_2 t0_3 t0_4 t0_5 t0_6 t1_0 t2_0 t3_0 t4_0 lx33 fm (lx61 + 1 : Int32) (upd lx62 lx61.toNatClampNeg (((F_WR_limb x2 lx61 lx33 (2 : Int32) t0_2 t0_3 t0_4 t0_5 t0_6 t1_0 t2_0) : Int32) ^^^ ((F_WR_limb x3 lx61 lx33 (2 : Int32) t0_2 t0_3 t0_4 t0_5 t0_6 t1_0 t2_0) : Int32) : Int32) : (Nat → Int32))) else (F_WR_combine_L64 x2 x3 x4 x5 t0_0 t0_1 t0_2 t0_3 t0_4 t0_5 t0_6 t1_0 t2_0 t3_0 t4_0 lx33 fm (lx61 + 1 : Int32) (upd lx62 lx61.toNatClampNeg (((F_WR_limb x2 lx61 lx33 (2 : Int32) t0_2 t0_3 t0_4 t0_5 t0_6 t1_0 t2_0) : Int32) &&& (((F_WR_limb x3 lx61 lx33 (2 : Int32) t0_2 t0_3 t0_4 t0_5 t0_6 t1_0 t2_0) : Int32) ^^^ (-1) : Int32) : Int32) : (Nat → Int32))))))
def F_WR_combine_J38 (x2 : Int32) (x3 : Int32) (x4 : Int32) (x5 : Int32) (t0_0 : Int32) (t0_1 : Int32) (t0_2 : Int32) (t0_3 : Int32) (t0_4 : Int32) (t0_5 : Int32) (t0_6 : Int32) (t1_0 : (Nat → Int32)) (t2_0 : (Nat → Int32)) (t3_0 : (Nat → Int32)) (t4_0 : (Nat → Int32)) (lx33 : Int32) : Int32 × Int32 × Int32 × Int32 × Int32 × Int32 × Int32 × (Nat → Int32) × (Nat → Int32) × (Nat → Int32) × (Nat → Int32) := if lx33 ≤ (0 : Int32) then (F_WR_combine_L64 x2 x3 x4 x5 t0_0 t0_1 t0_2 t0_3 t0_4 t0_5 t0_6 t1_0 t2_0 t3_0 t4_0 lx33 ((129 - (0 : Int32).toInt).toNat + 1) 0 ((F_WR_clear (264 : Int32) t3_0) : (Nat → Int32))) else ((lx33, t0_1, t0_2, t0_3, t0_4, t0_5, t0_6, t1_0, t2_0, t3_0, t4_0))
def F_WR_combine_J33 (x2 : Int32) (x3 : Int32) (x4 : Int32) (x5 : Int32) (t0_0 : Int32) (t0_1 : Int32) (t0_2 : Int32) (t0_3 : Int32) (t0_4 : Int32) (t0_5 : Int32) (t0_6 : Int32) (t1_0 : (Nat → Int32)) (t2_0 : (Nat → Int32)) (t3_0 : (Nat → Int32)) (t4_0 : (Nat → Int32)) : Int32 × Int32 × Int32 × Int32 × Int32 × Int32 × Int32 × (Nat → Int32) × (Nat → Int32) × (Nat → Int32) × (Nat → Int32) := F_WR_combine_J38 x2 x3 x4 x5 t0_0 t0_1 t0_2 t0_3 t0_4 t0_5 t0_6 t1_0 t2_0 t3_0 t4_0 1
def F_WR_combine (x2 : Int32) (x3 : Int32) (x4 : Int32) (x5 : Int32) (t0_0 : Int32) (t0_1 : Int32) (t0_2 : Int32) (t0_3 : Int32) (t0_4 : Int32) (t0_5 : Int32) (t0_6 : Int32) (t1_0 : (Nat → Int32)) (t2_0 : (Nat → Int32)) (t3_0 : (Nat → Int32)) (t4_0 : (Nat → Int32)) : Int32 × Int32 × Int32 × Int32 × Int32 × Int32 × Int32 × (Nat → Int32) × (Nat → Int32) × (Nat → Int32) × (Nat → Int32) := if ((F_WR_no x2) : Int32) = (0 : Int32) then (if ((F_WR_no x3) : Int32) = (0 : Int32) then (if ((F_WR_no x4) : Int32) = (0 : Int32) then (if x5 < (0 : Int32) then (F_WR_combine_J33 x2 x3 x4 x5 t0_0 t0_1 t0_2 t0_3 t0_4 t0_5 t0_6 t1_0 t2_0 t3_0 t4_0) else (if x5 ≤ (3 : Int32) then (F_WR_combine_J38 x2 x3 x4 x5 t0_0 t0_1 t0_2 t0_3 t0_4 t0_5 t0_6 t1_0 t2_0 t3_0 t4_0 0) else (F_WR_combine_J33 x2 x3 x4 x5 t0_0 t0_1 t0_2 t0_3 t0_4 t0_5 t0_6 t1_0 t2_0 t3_0 t4_0))) else (F_WR_combine_J33 x2 x3 x4 x5 t0_0 t0_1 t0_2 t0_3 t0_4 t0_5 t0_6 t1_0 t2_0 t3_0 t4_0)) else (F_WR_combine_J33 x2 x3 x4 x5 t0_0 t0_1 t0_2 t0_3 t0_4 t0_5 t0_6 t1_0 t2_0 t3_0 t4_0)) else (F_WR_combine_J33 x2 x3 x4 x5 t0_0 t0_1 t0_2 t0_3 t0_4 t0_5 t0_6 t1_0 t2_0 t3_0 t4_0)
def S_WR_combine_c240 (K_S_WR_combine_L64 : Int32 → (Nat → Int32) → Prop) (x2 : Int32) (x3 : Int32) (x4 : Int32) (x5 : Int32) (t0_0 : Int32) (t0_1 : Int32) (t0_2 : Int32) (t0_3 : Int32) (t0_4 : Int32) (t0_5 : Int32) (t0_6 : Int32) (t1_0 : (Nat → Int32)) (t2_0 : (Nat → Int32)) (t3_0 : (Nat → Int32)) (t4_0 : (Nat → Int32)) (lx33 : Int32) (lx61 : Int32) (lx62 : (Nat → Int32)) (lx81 : Int32) (p128 : (Int32 × Int32 × Int32 × Int32 × Int32 × Int32 × Int32 × (Nat → Int32) × (Nat → Int32))) : Prop := True
def S_WR_combine_c240_6 (K_S_WR_combine_L64 : Int32 → (Nat → Int32) → Prop) (K_S_WR_combine_L183 : Int32 → (Nat → Int32) → Prop) (x2 : Int32) (x3 : Int32) (x4 : Int32) (x5 : Int32) (t0_0 : Int32) (t0_1 : Int32) (t0_2 : Int32) (t0_3 : Int32) (t0_4 : Int32) (t0_5 : Int32) (t0_6 : Int32) (t1_0 : (Nat → Int32)) (t2_0 : (Nat → Int32)) (t3_0 : (Nat → Int32)) (t4_0 : (Nat → Int32)) (lx33 : Int32) (lx61 : Int32) (lx62 : (Nat → Int32)) (lx81 : Int32) (lx146 : Int32) (lx147 : (Nat → Int32)) (f175 : (Nat → Int32)) (f167 : (Nat → Int32)) (p209 : (Int32 × Int32 × Int32 × Int32 × Int32 × Int32 × Int32 × (Nat → Int32) × (Nat → Int32))) : Prop := True
def S_WR_combine_L183 (K_S_WR_combine_L64 : Int32 → (Nat → Int32) → Prop) (x2 : Int32) (x3 : Int32) (x4 : Int32) (x5 : Int32) (t0_0 : Int32) (t0_1 : Int32) (t0_2 : Int32) (t0_3 : Int32) (t0_4 : Int32) (t0_5 : Int32) (t0_6 : Int32) (t1_0 : (Nat → Int32)) (t2_0 : (Nat → Int32)) (t3_0 : (Nat → Int32)) (t4_0 : (Nat → Int32)) (lx33 : Int32) (lx61 : Int32) (lx62 : (Nat → Int32)) (lx81 : Int32) : Nat → Int32 → (Nat → Int32) → Prop
  | 0, _, _ => False
  | fm + 1, lx146, lx147 => if (128 : Int32) < lx146 then ((True ∧ S_WR_setOne (264 : Int32) lx33 (2 : Int32) t0_2 lx81 t0_4 t0_5 t0_6 t4_0) ∧ ((True ∧ S_WR_join (264 : Int32) (264 : Int32) (1 : Int32) (1 : Int64) (0 : Int32) lx147 ((F_WR_setOne (264 : Int32) lx33 (2 : Int32) t0_2 lx81 t0_4 t0_5 t0_6 t4_0) : (Nat → Int32))) ∧ ((True ∧ S_WR_store x4 lx33 (2 : Int32) t0_2 lx81 t0_4 t0_5 t0_6 t1_0 t2_0 ((F_WR_join (264 : Int32) (264 : Int32) (1 : Int32) (1 : Int64) (0 : Int32) lx147 ((F_WR_setOne (264 : Int32) lx33 (2 : Int32) t0_2 lx81 t0_4 t0_5 t0_6 t4_0) : (Nat → Int32))) : (Nat → Int32))) ∧ (S_WR_combine_c240_6 K_S_WR_combine_L64 (S_WR_combine_L183 K_S_WR_combine_L64 x2 x3 x4 x5 t0_0 t0_1 t0_2 t0_3 t0_4 t0_5 t0_6 t1_0 t2_0 t3_0 t4_0 lx33 lx61 lx62 lx81 fm) x2 x3 x4 x5 t0_0 t0_1 t0_2 t0_3 t0_4 t0_5 t0_6 t1_0 t2_0 t3_0 t4_0 lx33 lx61 lx62 lx81 lx146 lx147 ((F_WR_join (264 : Int32) (264 : Int32) (1 : Int32) (1 : Int64) (0 : Int32) lx147 ((F_WR_setOne (264 : Int32) lx33 (2 : Int32) t0_2 lx81 t0_4 t0_5 t0_6 t4_0) : (Nat → Int32))) : (Nat → Int32)) ((F_WR_setOne (264 : Int32) lx33 (2 : Int32) t0_2 lx81 t0_4 t0_5 t0_6 t4_0) : (Nat → Int32)) ((F_WR_store x4 lx33 (2 : Int32) t0_2 lx81 t0_4 t0_5 t0_6 t1_0 t2_0 ((F_WR_join (264 : Int32) (264 : Int32) (1 : Int32) (1 : Int64) (0 : Int32) lx147 ((F_WR_setOne (264 : Int32) lx33 (2 : Int32) t0_2 lx81 t0_4 t0_5 t0_6 t4_0) : (Nat → Int32))) : (Nat → Int32))) : (Int32 × Int32 × Int32 × Int32 × Int32 × Int32 × Int32 × (Nat → Int32) × (Nat → Int32))))))) else (S_WR_combine_L183 K_S_WR_combine_L64 x2 x3 x4 x5 t0_0 t0_1 t0_2 t0_3 t0_4 t0_5 t0_6 t1_0 t2_0 t3_0 t4_0 lx33 lx61 lx62 lx81 fm (lx146 + 1 : Int32) (upd lx147 lx146.toNatClampNeg (((lx147 lx146.toNatClampNeg : Int32) ^^^ (-1) : Int32) &&& 65535 : Int32) : (Nat → Int32)))
def S_WR_combine_J170 (K_S_WR_combine_L64 : Int32 → (Nat → Int32) → Prop) (x2 : Int32) (x3 : Int32) (x4 : Int32) (x5 : Int32) (t0_0 : Int32) (t0_1 : Int32) (t0_2 : Int32) (t0_3 : Int32) (t0_4 : Int32) (t0_5 : Int32) (t0_6 : Int32) (t1_0 : (Nat → Int32)) (t2_0 : (Nat → Int32)) (t3_0 : (Nat → Int32)) (t4_0 : (Nat → Int32)) (lx33 : Int32) (lx61 : Int32) (lx62 : (Nat → Int32)) (lx81 : Int32) : Prop := if lx81 = (0 : Int32) then ((True ∧ S_WR_store x4 lx33 (2 : Int32) t0_2 lx81 t0_4 t0_5 t0_6 t1_0 t2_0 lx62) ∧ (S_WR_combine_c240 K_S_WR_combine_L64 x2 x3 x4 x5 t0_0 t0_1 t0_2 t0_3 t0_4 t0_5 t0_6 t1_0 t2_0 t3_0 t4_0 lx33 lx61 lx62 lx81 ((F_WR_store x4 lx33 (2 : Int32) t0_2 lx81 t0_4 t0_5 t0_6 t1_0 t2_0 lx62) : (Int32 × Int32 × Int32 × Int32 × Int32 × Int32 × Int32 × (Nat → Int32) × (Nat → Int32))))) else (S_WR_combine_L183 K_S_WR_combine_L64 x2 x3 x4 x5 t0_0 t0_1 t0_2 t0_3 t0_4 t0_5 t0_6 t1_0 t2_0 t3_0 t4_0 lx33 lx61 lx62 lx81 ((129 - (0 : Int32).toInt).toNat + 1) 0 lx62)
def S_WR_combine_L64 (x2 : Int32) (x3 : Int32) (x4 : Int32) (x5 : Int32) (t0_0 : Int32) (t0_1 : Int32) (t0_2 : Int32) (t0_3 : Int32) (t0_4 : Int32) (t0_5 : Int32) (t0_6 : Int32) (t1_0 : (Nat → Int32)) (t2_0 : (Nat → Int32)) (t3_0 : (Nat → Int32)) (t4_0 : (Nat → Int32)) (lx33 : Int32) : Nat → Int32 → (Nat → Int32) → Prop
  | 0, _, _ => False
  | fm + 1, lx61, lx62 => if (128 : Int32) < lx61 then (if (lx62 (128 : Int32).toNatClampNeg : Int32) < (32768 : Int32) then (S_WR_combine_J170 (S_WR_combine_L64 x2 x3 x4 x5 t0_0 t0_1 t0_2 t0_3 t0_4 t0_5 t0_6 t1_0 t2_0 t3_0 t4_0 lx33 fm) x2 x3 x4 x5 t0_0 t0_1 t0_2 t0_3 t0_4 t0_5 t0_6 t1_0 t2_0 t3_0 t4_0 lx33 lx61 lx62 0) else (S_WR_combine_J170 (S_WR_combine_L64 x2 x3 x4 x5 t0_0 t0_1 t0_2 t0_3 t0_4 t0_5 t0_6 t1_0 t2_0 t3_0 t4_0 lx33 fm) x2 x3 x4 x5 t0_0 t0_1 t0_2 t0_3 t0_4 t0_5 t0_6 t1_0 t2_0 t3_0 t4_0 lx33 lx61 lx62 1)) else ((True ∧ S_WR_limb x2 lx61 lx33 (2 : Int32) t0_2 t0_3 t0_4 t0_5 t0_6 t1_0 t2_0) ∧ ((True ∧ S_WR_limb x3 lx61 lx33 (2 : Int32) t0_2 t0_3 t0_4 t0_5 t0_6 t1_0 t2_0) ∧ (if x5 = (0 : Int32) then (S_WR_combine_L64 x2 x3 x4 x5 t0_0 t0_1 t0_2 t0_3 t0_4 t0_5 t0_6 t1_0 t2_0 t3_0 t4_0 lx33 fm (lx61 + 1 : Int32) (upd lx62 lx61.toNatClampNeg (((F_WR_limb x2 lx61 lx33 (2 : Int32) t0_2 t0_3 t0_4 t0_5 t0_6 t1_0 t2_0) : Int32) &&& ((F_WR_limb x3 lx61 lx33 (2 : Int32) t0_2 t0_3 t0_4 t0_5 t0_6 t1_0 t2_0) : Int32) : Int32) : (Nat → Int32))) else (if x5 = (1 : Int32) then (S_WR_combine_L64 x2 x3 x4 x5 t0_0 t0_1 t0_2 t0_3 t0_4 t0_5 t0_6 t1_0 t2_0 t3_0 t4_0 lx33 fm (lx61 + 1 : Int32) (upd lx62 lx61.toNatClampNeg (((F_WR_limb x2 lx61 lx33 (2 : Int32) t0_2 t0_3 t0_4 t0_5 t0_6 t1_0 t2_0) : Int32) ||| ((F_WR_limb x3 lx61 lx33 (2 : Int32) t0_2 t0_3 t0_4 t0_5 t0_6 t1_0 t2_0) : Int32) : Int32) : (Nat → Int32))) else (if x5 = (2 : Int32) then (S_WR_combine_L64 x2 x3 x4 x5 t0_0 t0_1 t0_2 t0_3 t0_4 t0_5 t0_6 t1_0 t2_0 t3_0 t4_0 lx33 fm (lx61 + 1 : Int32) (upd lx62 lx61.toNatClampNeg (((F_WR_limb x2 lx61 lx33 (2 : Int32) t0_2 t0_3 t0_4 t0_5 t0_6 t1_0 t2_0) : Int32) ^^^ ((F_WR_limb x3 lx61 lx33 (2 : Int32) t0_2 t0_3 t0_4 t0_5 t0_6 t1_0 t2_0) : Int32) : Int32) : (Nat → Int32))) else (S_WR_combine_L64 x2 x3 x4 x5 t0_0 t0_1 t0_2 t0_3 t0_4 t0_5 t0_6 t1_0 t2_0 t3_0 t4_0 lx33 fm (lx61 + 1 : Int32) (upd lx62 lx61.toNatClampNeg (((F_WR_limb x2 lx61 lx33 (2 : Int32) t0_2 t0_3 t0_4 t0_5 t0_6 t1_0 t2_0) : Int32) &&& (((F_WR_limb x3 lx61 lx33 (2 : Int32) t0_2 t0_3 t0_4 t0_5 t0_6 t1_0 t2_0) : Int32) ^^^ (-1) : Int32) : Int32) : (Nat → Int32))))))))
def S_WR_combine_J38 (x2 : Int32) (x3 : Int32) (x4 : Int32) (x5 : Int32) (t0_0 : Int32) (t0_1 : Int32) (t0_2 : Int32) (t0_3 : Int32) (t0_4 : Int32) (t0_5 : Int32) (t0_6 : Int32) (t1_0 : (Nat → Int32)) (t2_0 : (Nat → Int32)) (t3_0 : (Nat → Int32)) (t4_0 : (Nat → Int32)) (lx33 : Int32) : Prop := if lx33 ≤ (0 : Int32) then (S_WR_combine_L64 x2 x3 x4 x5 t0_0 t0_1 t0_2 t0_3 t0_4 t0_5 t0_6 t1_0 t2_0 t3_0 t4_0 lx33 ((129 - (0 : Int32).toInt).toNat + 1) 0 ((F_WR_clear (264 : Int32) t3_0) : (Nat → Int32))) else (True)
def S_WR_combine_J33 (x2 : Int32) (x3 : Int32) (x4 : Int32) (x5 : Int32) (t0_0 : Int32) (t0_1 : Int32) (t0_2 : Int32) (t0_3 : Int32) (t0_4 : Int32) (t0_5 : Int32) (t0_6 : Int32) (t1_0 : (Nat → Int32)) (t2_0 : (Nat → Int32)) (t3_0 : (Nat → Int32)) (t4_0 : (Nat → Int32)) : Prop := S_WR_combine_J38 x2 x3 x4 x5 t0_0 t0_1 t0_2 t0_3 t0_4 t0_5 t0_6 t1_0 t2_0 t3_0 t4_0 1
def S_WR_combine (x2 : Int32) (x3 : Int32) (x4 : Int32) (x5 : Int32) (t0_0 : Int32) (t0_1 : Int32) (t0_2 : Int32) (t0_3 : Int32) (t0_4 : Int32) (t0_5 : Int32) (t0_6 : Int32) (t1_0 : (Nat → Int32)) (t2_0 : (Nat → Int32)) (t3_0 : (Nat → Int32)) (t4_0 : (Nat → Int32)) : Prop := if ((F_WR_no x2) : Int32) = (0 : Int32) then (if ((F_WR_no x3) : Int32) = (0 : Int32) then (if ((F_WR_no x4) : Int32) = (0 : Int32) then (if x5 < (0 : Int32) then (S_WR_combine_J33 x2 x3 x4 x5 t0_0 t0_1 t0_2 t0_3 t0_4 t0_5 t0_6 t1_0 t2_0 t3_0 t4_0) else (if x5 ≤ (3 : Int32) then (S_WR_combine_J38 x2 x3 x4 x5 t0_0 t0_1 t0_2 t0_3 t0_4 t0_5 t0_6 t1_0 t2_0 t3_0 t4_0 0) else (S_WR_combine_J33 x2 x3 x4 x5 t0_0 t0_1 t0_2 t0_3 t0_4 t0_5 t0_6 t1_0 t2_0 t3_0 t4_0))) else (S_WR_combine_J33 x2 x3 x4 x5 t0_0 t0_1 t0_2 t0_3 t0_4 t0_5 t0_6 t1_0 t2_0 t3_0 t4_0)) else (S_WR_combine_J33 x2 x3 x4 x5 t0_0 t0_1 t0_2 t0_3 t0_4 t0_5 t0_6 t1_0 t2_0 t3_0 t4_0)) else (S_WR_combine_J33 x2 x3 x4 x5 t0_0 t0_1 t0_2 t0_3 t0_4 t0_5 t0_6 t1_0 t2_0 t3_0 t4_0)
set_option maxRecDepth 100000 in
set_option maxHeartbeats 4000000 in
theorem X_WR_combine (l : Launch) (D : va_G) (g : Nat → ClassId) (q : Nat → Nat) (ws : va_W) (x2 : Int32) (x3 : Int32) (x4 : Int32) (x5 : Int32) (hI : q_I (msh g q) q ws) (t0_0 : Int32) (t0_1 : Int32) (t0_2 : Int32) (t0_3 : Int32) (t0_4 : Int32) (t0_5 : Int32) (t0_6 : Int32) (hT0 : ws[119]? = (some (q 119, .inr (13, [.int t0_0, .int t0_1, .ref (q 120), .int t0_2, .ref (q 121), .ref (q 122), .ref (q 123), .int t0_3, .ref (q 124), .ref (q 125), .ref (q 126), .ref (q 127), .ref (q 128), .ref (q 129), .ref (q 130), .ref (q 131), .int t0_4, .int t0_5, .ref (q 132), .ref (q 133), .int t0_6])) : Option (Nat × va_E))) (t1_0 : (Nat → Int32)) (hT1 : ws[121]? = (some (q 121, .inl (g 0, (1408 : Int32).toNatClampNeg, .inl t1_0)) : Option (Nat × va_E))) (t2_0 : (Nat → Int32)) (hT2 : ws[122]? = (some (q 122, .inl (g 3, 11, .inl t2_0)) : Option (Nat × va_E))) (t3_0 : (Nat → Int32)) (hT3 : ws[123]? = (some (q 123, .inl (g 0, (264 : Int32).toNatClampNeg, .inl t3_0)) : Option (Nat × va_E))) (t4_0 : (Nat → Int32)) (hT4 : ws[124]? = (some (q 124, .inl (g 0, (264 : Int32).toNatClampNeg, .inl t4_0)) : Option (Nat × va_E))) (hS : True ∧ S_WR_combine x2 x3 x4 x5 t0_0 t0_1 t0_2 t0_3 t0_4 t0_5 t0_6 t1_0 t2_0 t3_0 t4_0) : q_mV l y_WR_combine prog_19_method_37_code 8 3 0 0 D g [.ref (q 119), .int x2, .int x3, .int x4, .int x5] ws (fun u => q_I (msh g q) q u ∧ q_un ws u [119, 121, 122, 123, 124] ∧ ∃ (u0_0 : Int32) (u0_1 : Int32) (u0_2 : Int32) (u0_3 : Int32) (u0_4 : Int32) (u0_5 : Int32) (u0_6 : Int32) (u1_0 : (Nat → Int32)) (u2_0 : (Nat → Int32)) (u3_0 : (Nat → Int32)) (u4_0 : (Nat → Int32)), u[119]? = (some (q 119, .inr (13, [.int u0_0, .int u0_1, .ref (q 120), .int u0_2, .ref (q 121), .ref (q 122), .ref (q 123), .int u0_3, .ref (q 124), .ref (q 125), .ref (q 126), .ref (q 127), .ref (q 128), .ref (q 129), .ref (q 130), .ref (q 131), .int u0_4, .int u0_5, .ref (q 132), .ref (q 133), .int u0_6])) : Option (Nat × va_E)) ∧ u[121]? = (some (q 121, .inl (g 0, (1408 : Int32).toNatClampNeg, .inl u1_0)) : Option (Nat × va_E)) ∧ u[122]? = (some (q 122, .inl (g 3, 11, .inl u2_0)) : Option (Nat × va_E)) ∧ u[123]? = (some (q 123, .inl (g 0, (264 : Int32).toNatClampNeg, .inl u3_0)) : Option (Nat × va_E)) ∧ u[124]? = (some (q 124, .inl (g 0, (264 : Int32).toNatClampNeg, .inl u4_0)) : Option (Nat × va_E)) ∧ (0 ≤ u0_3.toInt) ∧ (u0_3.toInt ≤ 1) ∧ (t0_2.toInt ≤ u0_2.toInt) ∧ (u0_2.toInt ≤ t0_2.toInt) ∧ (t0_4.toInt ≤ u0_4.toInt) ∧ (u0_4.toInt ≤ t0_4.toInt) ∧ (t0_5.toInt ≤ u0_5.toInt) ∧ (u0_5.toInt ≤ t0_5.toInt) ∧ (t0_6.toInt ≤ u0_6.toInt) ∧ (u0_6.toInt ≤ t0_6.toInt) ∧ (u0_0, u0_1, u0_2, u0_3, u0_4, u0_5, u0_6, u1_0, u2_0, u3_0, u4_0) = (F_WR_combine x2 x3 x4 x5 t0_0 t0_1 t0_2 t0_3 t0_4 t0_5 t0_6 t1_0 t2_0 t3_0 t4_0)) := by
  intro sz
  refine q_into (by decide) (Nat.le_of_ble_eq_true rfl) ?_
  intro p e s m below meth c ls hsz C0 V hl
  have hx := C0.1
  have hb := C0.2.1
  obtain ⟨btt0_2, hZ9⟩ := n_w119 hI hT0
  obtain ⟨btt0_3, hZ9⟩ := hZ9
  obtain ⟨btt0_4, hZ9⟩ := hZ9
  obtain ⟨btt0_5, btt0_6⟩ := hZ9
  replace btt0_2 : q_F (0 ≤ t0_2.toInt ∧ t0_2.toInt ≤ 4100) := btt0_2
  replace btt0_3 : q_F (0 ≤ t0_3.toInt ∧ t0_3.toInt ≤ 1) := btt0_3
  replace btt0_4 : q_F (0 ≤ t0_4.toInt ∧ t0_4.toInt ≤ 1) := btt0_4
  replace btt0_5 : q_F (0 ≤ t0_5.toInt ∧ t0_5.toInt ≤ 1) := btt0_5
  replace btt0_6 : q_F (0 ≤ t0_6.toInt ∧ t0_6.toInt ≤ 2100) := btt0_6
  have hF : q_un ws ws [119, 121, 122, 123, 124] := q_u0
  have hl : lv_has ls 8 [(0, .ref (q 119)), (1, .int x2), (2, .int x3), (3, .int x4), (4, .int x5)] := hl
  refine lv_aload_n hx hb d_19_37_0 rfl (lv_at hl 0 rfl) ?_
  refine lv_iload_n hx hb d_19_37_1 rfl (lv_at hl 1 rfl) ?_
  refine q_goi V (q_runS (As := [.int x2]) (rest := [.ref (q 119)]) (d := 1) (mc := 0) (ms := 0) C0 V rfl LS_WR_91 (X_WR_no l D g q ws  x2 hI   _) rfl hl.1 rfl (Nat.le_of_ble_eq_true rfl) ⟨by decide, by decide⟩ ⟨Nat.le_of_ble_eq_true rfl, Nat.le_of_ble_eq_true rfl⟩ d_19_37_2) (fun a28 u26 H locs hp27 V => ?_)
  obtain ⟨rfl, b29, b30, hE31⟩ := hp27
  have e32 : a28 = (F_WR_no x2) := hE31
  clear b29
  clear b30
  refine q_join (X := Int32) (fun z H locs ls _ => q_F (0 ≤ z.toInt) ∧ q_F (z.toInt ≤ 1) ∧ q_Wd D g (va_A ws sz) s ws H locs ∧ lv_has ls 8 [(0, .ref (q 119)), (1, .int x2), (2, .int x3), (3, .int x4), (4, .int x5)] ∧ F_WR_combine_J38 x2 x3 x4 x5 t0_0 t0_1 t0_2 t0_3 t0_4 t0_5 t0_6 t1_0 t2_0 t3_0 t4_0 z = (F_WR_combine x2 x3 x4 x5 t0_0 t0_1 t0_2 t0_3 t0_4 t0_5 t0_6 t1_0 t2_0 t3_0 t4_0) ∧ True ∧ S_WR_combine_J38 x2 x3 x4 x5 t0_0 t0_1 t0_2 t0_3 t0_4 t0_5 t0_6 t1_0 t2_0 t3_0 t4_0 z) (fun z => [.int z, .ref (q 119)]) 38 0 0 ?_ ?_
  ·
    rintro lx33 H locs ls _ hZ9
    obtain ⟨i40, hZ9⟩ := hZ9
    obtain ⟨i41, hZ9⟩ := hZ9
    obtain ⟨V, hZ9⟩ := hZ9
    obtain ⟨hl, hZ9⟩ := hZ9
    obtain ⟨hR42, hS43⟩ := hZ9
    replace i40 : q_F (0 ≤ lx33.toInt) := i40
    replace i41 : q_F (lx33.toInt ≤ 1) := i41
    replace hl : lv_has ls 8 [(0, .ref (q 119)), (1, .int x2), (2, .int x3), (3, .int x4), (4, .int x5)] := hl
    refine q_put (ci := 13) (j := 0) (v := .int lx33) (ty := .int) C0 V i_WR o_WR n_WR rfl rfl hT0 (by decide) w_1921 rfl rfl rfl rfl (Nat.le_of_ble_eq_true rfl) d_19_37_38 (fun H locs w47 hu48 hT0 V => ?_)
    replace hT0 : w47[119]? = (some (q 119, .inr (13, [.int lx33, .int t0_1, .ref (q 120), .int t0_2, .ref (q 121), .ref (q 122), .ref (q 123), .int t0_3, .ref (q 124), .ref (q 125), .ref (q 126), .ref (q 127), .ref (q 128), .ref (q 129), .ref (q 130), .ref (q 131), .int t0_4, .int t0_5, .ref (q 132), .ref (q 133), .int t0_6])) : Option (Nat × va_E)) := hT0
    replace hI := n_p119 hI hu48 hT0 (by first | with_reducible exact q_fe btt0_2 | exact ⟨(by have t1 : 0 ≤ t0_2.toInt ∧ t0_2.toInt ≤ 4100 := btt0_2; omega), (by have t1 : 0 ≤ t0_2.toInt ∧ t0_2.toInt ≤ 4100 := btt0_2; omega)⟩) (by first | with_reducible exact q_fe btt0_3 | exact ⟨(by have t1 : 0 ≤ t0_3.toInt ∧ t0_3.toInt ≤ 1 := btt0_3; omega), (by have t1 : 0 ≤ t0_3.toInt ∧ t0_3.toInt ≤ 1 := btt0_3; omega)⟩) (by first | with_reducible exact q_fe btt0_4 | exact ⟨(by have t1 : 0 ≤ t0_4.toInt ∧ t0_4.toInt ≤ 1 := btt0_4; omega), (by have t1 : 0 ≤ t0_4.toInt ∧ t0_4.toInt ≤ 1 := btt0_4; omega)⟩) (by first | with_reducible exact q_fe btt0_5 | exact ⟨(by have t1 : 0 ≤ t0_5.toInt ∧ t0_5.toInt ≤ 1 := btt0_5; omega), (by have t1 : 0 ≤ t0_5.toInt ∧ t0_5.toInt ≤ 1 := btt0_5; omega)⟩) (by first | with_reducible exact q_fe btt0_6 | exact ⟨(by have t1 : 0 ≤ t0_6.toInt ∧ t0_6.toInt ≤ 2100 := btt0_6; omega), (by have t1 : 0 ≤ t0_6.toInt ∧ t0_6.toInt ≤ 2100 := btt0_6; omega)⟩)
    replace hT1 := (hu48 _ (by decide)).trans hT1
    replace hT2 := (hu48 _ (by decide)).trans hT2
    replace hT3 := (hu48 _ (by decide)).trans hT3
    replace hT4 := (hu48 _ (by decide)).trans hT4
    replace hF := q_us hF hu48 (by simp)
    refine lv_aload_n hx hb d_19_37_41 rfl (lv_at hl 0 rfl) ?_
    refine q_get (ci := 13) (j := 0) (v := .int lx33) C0 V i_WR rfl rfl hT0 (by decide) w_1921 rfl d_19_37_42 ?_
    refine lv_if_le (tgt := 49) hx hb d_19_37_45 (by decide) (fun c49 => ?_) (fun c49 => ?_)
    ·
      have b50 : q_F (lx33.toInt ≤ 0) := (q_leI c49)
      refine lv_aload_n hx hb d_19_37_49 rfl (lv_at hl 0 rfl) ?_
      refine lv_iconst (v := 2) hx hb d_19_37_50 (by decide) ?_
      refine q_put (ci := 13) (j := 1) (v := .int 2) (ty := .int) C0 V i_WR o_WR n_WR rfl rfl hT0 (by decide) w_1923 rfl rfl rfl rfl (Nat.le_of_ble_eq_true rfl) d_19_37_51 (fun H locs w51 hu52 hT0 V => ?_)
      replace hT0 : w51[119]? = (some (q 119, .inr (13, [.int lx33, .int 2, .ref (q 120), .int t0_2, .ref (q 121), .ref (q 122), .ref (q 123), .int t0_3, .ref (q 124), .ref (q 125), .ref (q 126), .ref (q 127), .ref (q 128), .ref (q 129), .ref (q 130), .ref (q 131), .int t0_4, .int t0_5, .ref (q 132), .ref (q 133), .int t0_6])) : Option (Nat × va_E)) := hT0
      replace hI := n_p119 hI hu52 hT0 (by first | with_reducible exact q_fe btt0_2 | exact ⟨(by have t1 : 0 ≤ t0_2.toInt ∧ t0_2.toInt ≤ 4100 := btt0_2; omega), (by have t1 : 0 ≤ t0_2.toInt ∧ t0_2.toInt ≤ 4100 := btt0_2; omega)⟩) (by first | with_reducible exact q_fe btt0_3 | exact ⟨(by have t1 : 0 ≤ t0_3.toInt ∧ t0_3.toInt ≤ 1 := btt0_3; omega), (by have t1 : 0 ≤ t0_3.toInt ∧ t0_3.toInt ≤ 1 := btt0_3; omega)⟩) (by first | with_reducible exact q_fe btt0_4 | exact ⟨(by have t1 : 0 ≤ t0_4.toInt ∧ t0_4.toInt ≤ 1 := btt0_4; omega), (by have t1 : 0 ≤ t0_4.toInt ∧ t0_4.toInt ≤ 1 := btt0_4; omega)⟩) (by first | with_reducible exact q_fe btt0_5 | exact ⟨(by have t1 : 0 ≤ t0_5.toInt ∧ t0_5.toInt ≤ 1 := btt0_5; omega), (by have t1 : 0 ≤ t0_5.toInt ∧ t0_5.toInt ≤ 1 := btt0_5; omega)⟩) (by first | with_reducible exact q_fe btt0_6 | exact ⟨(by have t1 : 0 ≤ t0_6.toInt ∧ t0_6.toInt ≤ 2100 := btt0_6; omega), (by have t1 : 0 ≤ t0_6.toInt ∧ t0_6.toInt ≤ 2100 := btt0_6; omega)⟩)
      replace hT1 := (hu52 _ (by decide)).trans hT1
      replace hT2 := (hu52 _ (by decide)).trans hT2
      replace hT3 := (hu52 _ (by decide)).trans hT3
      replace hT4 := (hu52 _ (by decide)).trans hT4
      replace hF := q_us hF hu52 (by simp)
      refine lv_aload_n hx hb d_19_37_54 rfl (lv_at hl 0 rfl) ?_
      refine q_get (ci := 13) (j := 6) (v := .ref (q 123)) C0 V i_WR rfl rfl hT0 (by decide) w_1930 rfl d_19_37_55 ?_
      refine q_gov V (q_runS (As := [.ref (q 123)]) (rest := []) (d := 1) (mc := 0) (ms := 0) C0 V rfl LS_WR_63 (X_WR_clear l D g q w51 123 264 (n_r123 g q)  hI t3_0 hT3  _) rfl hl.1 rfl (Nat.le_of_ble_eq_true rfl) ⟨by decide, by decide⟩ ⟨Nat.le_of_ble_eq_true rfl, Nat.le_of_ble_eq_true rfl⟩ d_19_37_58) (fun u53 H locs hp54 V => ?_)
      obtain ⟨hI, hu58, f55, hA56, hE57⟩ := hp54
      replace hA56 : u53[123]? = (some (q 123, .inl (g 0, (264 : Int32).toNatClampNeg, .inl f55)) : Option (Nat × va_E)) := hA56
      have e59 : f55 = (F_WR_clear (264 : Int32) t3_0) := hE57
      replace hT0 := (hu58 _ (by decide)).trans hT0
      replace hT1 := (hu58 _ (by decide)).trans hT1
      replace hT2 := (hu58 _ (by decide)).trans hT2
      replace hT4 := (hu58 _ (by decide)).trans hT4
      replace hF := q_uc hF hu58 (by simp)
      refine lv_iconst (v := 0) hx hb d_19_37_61 (by decide) ?_
      refine lv_istore (lv' := [(5, .int 0), (0, .ref (q 119)), (1, .int x2), (2, .int x3), (3, .int x4), (4, .int x5)]) hx hb d_19_37_62 hl (by decide) rfl (fun ls hl => ?_)
      refine q_loop (X := Int32 × (Nat → Int32)) (fun z H locs ls w66 => q_F (z.1.toInt ≤ 129) ∧ q_F (lx33.toInt ≤ z.1.toInt) ∧ q_Wd D g (va_A ws sz) s w66 H locs ∧ lv_has ls 8 [(5, .int z.1), (0, .ref (q 119)), (1, .int x2), (2, .int x3), (3, .int x4), (4, .int x5)] ∧ q_I (msh g q) q w66 ∧ q_un ws w66 [119, 121, 122, 123, 124] ∧ w66[119]? = (some (q 119, .inr (13, [.int lx33, .int 2, .ref (q 120), .int t0_2, .ref (q 121), .ref (q 122), .ref (q 123), .int t0_3, .ref (q 124), .ref (q 125), .ref (q 126), .ref (q 127), .ref (q 128), .ref (q 129), .ref (q 130), .ref (q 131), .int t0_4, .int t0_5, .ref (q 132), .ref (q 133), .int t0_6])) : Option (Nat × va_E)) ∧ w66[121]? = (some (q 121, .inl (g 0, (1408 : Int32).toNatClampNeg, .inl t1_0)) : Option (Nat × va_E)) ∧ w66[122]? = (some (q 122, .inl (g 3, 11, .inl t2_0)) : Option (Nat × va_E)) ∧ w66[123]? = (some (q 123, .inl (g 0, (264 : Int32).toNatClampNeg, .inl z.2)) : Option (Nat × va_E)) ∧ w66[124]? = (some (q 124, .inl (g 0, (264 : Int32).toNatClampNeg, .inl t4_0)) : Option (Nat × va_E)) ∧ (∃ n, (129 - z.1.toInt).toNat < n ∧ F_WR_combine_L64 x2 x3 x4 x5 t0_0 t0_1 t0_2 t0_3 t0_4 t0_5 t0_6 t1_0 t2_0 t3_0 t4_0 lx33 n z.1 z.2 = (F_WR_combine x2 x3 x4 x5 t0_0 t0_1 t0_2 t0_3 t0_4 t0_5 t0_6 t1_0 t2_0 t3_0 t4_0) ∧ True ∧ S_WR_combine_L64 x2 x3 x4 x5 t0_0 t0_1 t0_2 t0_3 t0_4 t0_5 t0_6 t1_0 t2_0 t3_0 t4_0 lx33 n z.1 z.2)) (fun z => (129 - z.1.toInt).toNat) ?_ ((0 : Int32), (f55 : (Nat → Int32))) _ _ _ u53 ⟨(show q_F (0 ≤ 129) from (show 0 ≤ 129 from by omega)), (show q_F (lx33.toInt ≤ 0) from (show lx33.toInt ≤ 0 from by have t1 : lx33.toInt ≤ 0 := b50; omega)), V, q_lw hl (q_lw1 0 rfl (q_lw1 1 rfl (q_lw1 2 rfl (q_lw1 3 rfl (q_lw1 4 rfl (q_lw1 5 rfl q_lw0)))))), hI, hF, hT0, hT1, hT2, hA56, hT4, ⟨((129 - (0 : Int32).toInt).toNat + 1), Nat.lt_succ_self _, (show F_WR_combine_L64 x2 x3 x4 x5 t0_0 t0_1 t0_2 t0_3 t0_4 t0_5 t0_6 t1_0 t2_0 t3_0 t4_0 lx33 ((129 - (0 : Int32).toInt).toNat + 1) 0 f55 = (F_WR_combine x2 x3 x4 x5 t0_0 t0_1 t0_2 t0_3 t0_4 t0_5 t0_6 t1_0 t2_0 t3_0 t4_0) from Eq.trans (by rw [e59, F_WR_combine_J38.eq_1, if_pos c49]) hR42), (show True ∧ S_WR_combine_L64 x2 x3 x4 x5 t0_0 t0_1 t0_2 t0_3 t0_4 t0_5 t0_6 t1_0 t2_0 t3_0 t4_0 lx33 ((129 - (0 : Int32).toInt).toNat + 1) 0 f55 from (by rw [e59]; have h := hS43; rw [S_WR_combine_J38.eq_1] at h; rw [if_pos c49] at h; with_reducible exact h))⟩⟩
      rintro ⟨lx61, lx62⟩ H locs ls w66 ⟨i63, i64, V, hl, hI, hF, hO67, hO68, hO69, hO70, hO71, ⟨fu74, hf75, hR72, hS73⟩⟩ ih65
      obtain ⟨fm76, rfl⟩ : ∃ m, fu74 = m + 1 := ⟨fu74 - 1, by omega⟩
      replace i63 : q_F (lx61.toInt ≤ 129) := i63
      replace i64 : q_F (lx33.toInt ≤ lx61.toInt) := i64
      replace hl : lv_has ls 8 [(5, .int lx61), (0, .ref (q 119)), (1, .int x2), (2, .int x3), (3, .int x4), (4, .int x5)] := hl
      replace hO67 : w66[119]? = (some (q 119, .inr (13, [.int lx33, .int 2, .ref (q 120), .int t0_2, .ref (q 121), .ref (q 122), .ref (q 123), .int t0_3, .ref (q 124), .ref (q 125), .ref (q 126), .ref (q 127), .ref (q 128), .ref (q 129), .ref (q 130), .ref (q 131), .int t0_4, .int t0_5, .ref (q 132), .ref (q 133), .int t0_6])) : Option (Nat × va_E)) := hO67
      replace hO68 : w66[121]? = (some (q 121, .inl (g 0, (1408 : Int32).toNatClampNeg, .inl t1_0)) : Option (Nat × va_E)) := hO68
      replace hO69 : w66[122]? = (some (q 122, .inl (g 3, 11, .inl t2_0)) : Option (Nat × va_E)) := hO69
      replace hO70 : w66[123]? = (some (q 123, .inl (g 0, (264 : Int32).toNatClampNeg, .inl lx62)) : Option (Nat × va_E)) := hO70
      replace hO71 : w66[124]? = (some (q 124, .inl (g 0, (264 : Int32).toNatClampNeg, .inl t4_0)) : Option (Nat × va_E)) := hO71
      refine lv_iload hx hb d_19_37_64 (lv_at hl 0 rfl) ?_
      refine lv_sipush (v := 128) hx hb d_19_37_66 (by decide) ?_
      refine lv_icmp_gt (tgt := 151) hx hb d_19_37_69 (by decide) (fun c77 => ?_) (fun c77 => ?_)
      ·
        refine lv_aload_n hx hb d_19_37_151 rfl (lv_at hl 1 rfl) ?_
        refine lv_aload_n hx hb d_19_37_152 rfl (lv_at hl 1 rfl) ?_
        refine q_get (ci := 13) (j := 6) (v := .ref (q 123)) C0 V i_WR rfl rfl hO67 (by decide) w_1930 rfl d_19_37_153 ?_
        refine lv_sipush (v := 128) hx hb d_19_37_156 (by decide) ?_
        refine q_iald C0 V hO70 (q_ix (x := 128) (by decide) (by omega) (by have e9 : (((264 : Int32).toNatClampNeg : Nat) : Int) = 264 := (by decide); omega)) d_19_37_159 ?_
        obtain ⟨a79, e80⟩ := q_nm (lx62 (128 : Int32).toNatClampNeg : Int32)
        refine q_ti (v := a79) e80 ?_
        refine q_ldc C0 rfl w_2744 d_19_37_160 ?_
        refine q_join (X := Int32) (fun z H locs ls _ => q_F (lx33.toInt ≤ z.toInt) ∧ q_F (z.toInt ≤ lx33.toInt + 1) ∧ q_Wd D g (va_A ws sz) s w66 H locs ∧ lv_has ls 8 [(0, .ref (q 119)), (3, .int x4)] ∧ F_WR_combine_J170 (F_WR_combine_L64 x2 x3 x4 x5 t0_0 t0_1 t0_2 t0_3 t0_4 t0_5 t0_6 t1_0 t2_0 t3_0 t4_0 lx33 fm76) x2 x3 x4 x5 t0_0 t0_1 t0_2 t0_3 t0_4 t0_5 t0_6 t1_0 t2_0 t3_0 t4_0 lx33 lx61 lx62 z = (F_WR_combine x2 x3 x4 x5 t0_0 t0_1 t0_2 t0_3 t0_4 t0_5 t0_6 t1_0 t2_0 t3_0 t4_0) ∧ True ∧ S_WR_combine_J170 (S_WR_combine_L64 x2 x3 x4 x5 t0_0 t0_1 t0_2 t0_3 t0_4 t0_5 t0_6 t1_0 t2_0 t3_0 t4_0 lx33 fm76) x2 x3 x4 x5 t0_0 t0_1 t0_2 t0_3 t0_4 t0_5 t0_6 t1_0 t2_0 t3_0 t4_0 lx33 lx61 lx62 z) (fun z => [.int z, .ref (q 119)]) 170 0 0 ?_ ?_
        ·
          rintro lx81 H locs ls _ hZ9
          obtain ⟨i88, hZ9⟩ := hZ9
          obtain ⟨i89, hZ9⟩ := hZ9
          obtain ⟨V, hZ9⟩ := hZ9
          obtain ⟨hl, hZ9⟩ := hZ9
          obtain ⟨hR90, hS91⟩ := hZ9
          replace i88 : q_F (lx33.toInt ≤ lx81.toInt) := i88
          replace i89 : q_F (lx81.toInt ≤ lx33.toInt + 1) := i89
          replace hl : lv_has ls 8 [(0, .ref (q 119)), (3, .int x4)] := hl
          refine q_put (ci := 13) (j := 7) (v := .int lx81) (ty := .boolean) C0 V i_WR o_WR n_WR rfl rfl hO67 (by decide) w_1931 rfl rfl (q_nz01 (q_Ile (x := 0) (y := lx81.toInt) (by decide) rfl (by have t1 : 0 ≤ lx33.toInt := i40; have t2 : lx33.toInt ≤ lx81.toInt := i88; omega)) (q_Ile (x := lx81.toInt) (y := 1) rfl (by decide) (by have t1 : lx33.toInt ≤ 0 := b50; have t2 : lx81.toInt ≤ lx33.toInt + 1 := i89; omega))) (q_fz01 (q_Ile (x := 0) (y := lx81.toInt) (by decide) rfl (by have t1 : 0 ≤ lx33.toInt := i40; have t2 : lx33.toInt ≤ lx81.toInt := i88; omega)) (q_Ile (x := lx81.toInt) (y := 1) rfl (by decide) (by have t1 : lx33.toInt ≤ 0 := b50; have t2 : lx81.toInt ≤ lx33.toInt + 1 := i89; omega))) (Nat.le_of_ble_eq_true rfl) d_19_37_170 (fun H locs w95 hu96 hO67 V => ?_)
          replace hO67 : w95[119]? = (some (q 119, .inr (13, [.int lx33, .int 2, .ref (q 120), .int t0_2, .ref (q 121), .ref (q 122), .ref (q 123), .int lx81, .ref (q 124), .ref (q 125), .ref (q 126), .ref (q 127), .ref (q 128), .ref (q 129), .ref (q 130), .ref (q 131), .int t0_4, .int t0_5, .ref (q 132), .ref (q 133), .int t0_6])) : Option (Nat × va_E)) := hO67
          replace hI := n_p119 hI hu96 hO67 (by first | with_reducible exact q_fe btt0_2 | exact ⟨(by have t1 : 0 ≤ t0_2.toInt ∧ t0_2.toInt ≤ 4100 := btt0_2; omega), (by have t1 : 0 ≤ t0_2.toInt ∧ t0_2.toInt ≤ 4100 := btt0_2; omega)⟩) ⟨(by have t1 : 0 ≤ lx33.toInt := i40; have t2 : lx33.toInt ≤ lx81.toInt := i88; omega), (by have t1 : lx33.toInt ≤ 0 := b50; have t2 : lx81.toInt ≤ lx33.toInt + 1 := i89; omega)⟩ (by first | with_reducible exact q_fe btt0_4 | exact ⟨(by have t1 : 0 ≤ t0_4.toInt ∧ t0_4.toInt ≤ 1 := btt0_4; omega), (by have t1 : 0 ≤ t0_4.toInt ∧ t0_4.toInt ≤ 1 := btt0_4; omega)⟩) (by first | with_reducible exact q_fe btt0_5 | exact ⟨(by have t1 : 0 ≤ t0_5.toInt ∧ t0_5.toInt ≤ 1 := btt0_5; omega), (by have t1 : 0 ≤ t0_5.toInt ∧ t0_5.toInt ≤ 1 := btt0_5; omega)⟩) (by first | with_reducible exact q_fe btt0_6 | exact ⟨(by have t1 : 0 ≤ t0_6.toInt ∧ t0_6.toInt ≤ 2100 := btt0_6; omega), (by have t1 : 0 ≤ t0_6.toInt ∧ t0_6.toInt ≤ 2100 := btt0_6; omega)⟩)
          replace hO68 := (hu96 _ (by decide)).trans hO68
          replace hO69 := (hu96 _ (by decide)).trans hO69
          replace hO70 := (hu96 _ (by decide)).trans hO70
          replace hO71 := (hu96 _ (by decide)).trans hO71
          replace hF := q_us hF hu96 (by simp)
          refine lv_aload_n hx hb d_19_37_173 rfl (lv_at hl 0 rfl) ?_
          refine q_get (ci := 13) (j := 7) (v := .int lx81) C0 V i_WR rfl rfl hO67 (by decide) w_1931 rfl d_19_37_174 ?_
          refine lv_if_eq (tgt := 238) hx hb d_19_37_177 (by decide) (fun c97 => ?_) (fun c97 => ?_)
          ·
            have b98 : q_F (lx81.toInt = 0) := (q_eqI c97)
            refine lv_aload_n hx hb d_19_37_238 rfl (lv_at hl 0 rfl) ?_
            refine lv_iload_n hx hb d_19_37_239 rfl (lv_at hl 1 rfl) ?_
            have ob99 : True ∧ S_WR_store x4 lx33 (2 : Int32) t0_2 lx81 t0_4 t0_5 t0_6 t1_0 t2_0 lx62 := (by have h := hS91; rw [S_WR_combine_J170.eq_1] at h; rw [if_pos c97] at h; with_reducible exact h.2.1)
            refine q_gov V (q_runV (As := [.int x4]) (rest := []) (d := 2) (mc := 0) (ms := 0) (ci := 13) C0 V rfl LV_WR_103 (X_WR_store l D g q w95  x4 hI lx33 2 t0_2 lx81 t0_4 t0_5 t0_6 hO67 t1_0 hO68 t2_0 hO69 lx62 hO70 ob99 _) rfl rfl hO67 rfl hl.1 rfl (Nat.le_of_ble_eq_true rfl) ⟨by decide, by decide⟩ ⟨Nat.le_of_ble_eq_true rfl, Nat.le_of_ble_eq_true rfl⟩ d_19_37_240) (fun u100 H locs hp101 V => ?_)
            obtain ⟨hI, hZ9⟩ := hp101
            obtain ⟨hu127, hZ9⟩ := hZ9
            obtain ⟨y103, hZ9⟩ := hZ9
            obtain ⟨y104, hZ9⟩ := hZ9
            obtain ⟨y105, hZ9⟩ := hZ9
            obtain ⟨y106, hZ9⟩ := hZ9
            obtain ⟨y107, hZ9⟩ := hZ9
            obtain ⟨y108, hZ9⟩ := hZ9
            obtain ⟨y109, hZ9⟩ := hZ9
            obtain ⟨f110, hZ9⟩ := hZ9
            obtain ⟨f112, hZ9⟩ := hZ9
            obtain ⟨hO102, hZ9⟩ := hZ9
            obtain ⟨hA111, hZ9⟩ := hZ9
            obtain ⟨hA113, hZ9⟩ := hZ9
            replace hZ9 := hZ9.2.2
            obtain ⟨b116, hZ9⟩ := hZ9
            obtain ⟨b117, hZ9⟩ := hZ9
            obtain ⟨b118, hZ9⟩ := hZ9
            obtain ⟨b119, hZ9⟩ := hZ9
            obtain ⟨b120, hZ9⟩ := hZ9
            obtain ⟨b121, hZ9⟩ := hZ9
            obtain ⟨b122, hZ9⟩ := hZ9
            obtain ⟨b123, hZ9⟩ := hZ9
            obtain ⟨b124, hZ9⟩ := hZ9
            obtain ⟨b125, hE126⟩ := hZ9
            replace hO102 : u100[119]? = (some (q 119, .inr (13, [.int y103, .int y104, .ref (q 120), .int y105, .ref (q 121), .ref (q 122), .ref (q 123), .int y106, .ref (q 124), .ref (q 125), .ref (q 126), .ref (q 127), .ref (q 128), .ref (q 129), .ref (q 130), .ref (q 131), .int y107, .int y108, .ref (q 132), .ref (q 133), .int y109])) : Option (Nat × va_E)) := hO102
            replace hA111 : u100[121]? = (some (q 121, .inl (g 0, (1408 : Int32).toNatClampNeg, .inl f110)) : Option (Nat × va_E)) := hA111
            replace hA113 : u100[122]? = (some (q 122, .inl (g 3, 11, .inl f112)) : Option (Nat × va_E)) := hA113
            obtain ⟨p128, e129⟩ : ∃ z, z = (F_WR_store x4 lx33 (2 : Int32) t0_2 lx81 t0_4 t0_5 t0_6 t1_0 t2_0 lx62) := ⟨_, rfl⟩
            have e130 : y103 = p128.1 := congrArg (fun z => z.1) (hE126.trans e129.symm)
            have e131 : y104 = p128.2.1 := congrArg (fun z => z.2.1) (hE126.trans e129.symm)
            have e132 : y105 = p128.2.2.1 := congrArg (fun z => z.2.2.1) (hE126.trans e129.symm)
            have e133 : y106 = p128.2.2.2.1 := congrArg (fun z => z.2.2.2.1) (hE126.trans e129.symm)
            have e134 : y107 = p128.2.2.2.2.1 := congrArg (fun z => z.2.2.2.2.1) (hE126.trans e129.symm)
            have e135 : y108 = p128.2.2.2.2.2.1 := congrArg (fun z => z.2.2.2.2.2.1) (hE126.trans e129.symm)
            have e136 : y109 = p128.2.2.2.2.2.2.1 := congrArg (fun z => z.2.2.2.2.2.2.1) (hE126.trans e129.symm)
            have e137 : f110 = p128.2.2.2.2.2.2.2.1 := congrArg (fun z => z.2.2.2.2.2.2.2.1) (hE126.trans e129.symm)
            have e138 : f112 = p128.2.2.2.2.2.2.2.2 := congrArg (fun z => z.2.2.2.2.2.2.2.2) (hE126.trans e129.symm)
            replace b116 : q_F (t0_2.toInt ≤ y105.toInt) := b116
            replace b117 : q_F (y105.toInt ≤ t0_2.toInt) := b117
            replace b118 : q_F (lx81.toInt ≤ y106.toInt) := b118
            replace b119 : q_F (y106.toInt ≤ lx81.toInt) := b119
            replace b120 : q_F (t0_4.toInt ≤ y107.toInt) := b120
            replace b121 : q_F (y107.toInt ≤ t0_4.toInt) := b121
            replace b122 : q_F (t0_5.toInt ≤ y108.toInt) := b122
            replace b123 : q_F (y108.toInt ≤ t0_5.toInt) := b123
            replace b124 : q_F (t0_6.toInt ≤ y109.toInt) := b124
            replace b125 : q_F (y109.toInt ≤ t0_6.toInt) := b125
            replace hO70 := (hu127 _ (by decide)).trans hO70
            replace hO71 := (hu127 _ (by decide)).trans hO71
            replace hF := q_uc hF hu127 (by simp)
            have hR139 := (show F_WR_combine_c240 (F_WR_combine_L64 x2 x3 x4 x5 t0_0 t0_1 t0_2 t0_3 t0_4 t0_5 t0_6 t1_0 t2_0 t3_0 t4_0 lx33 fm76) x2 x3 x4 x5 t0_0 t0_1 t0_2 t0_3 t0_4 t0_5 t0_6 t1_0 t2_0 t3_0 t4_0 lx33 lx61 lx62 lx81 p128 = (F_WR_combine x2 x3 x4 x5 t0_0 t0_1 t0_2 t0_3 t0_4 t0_5 t0_6 t1_0 t2_0 t3_0 t4_0) from Eq.trans (by rw [e129, F_WR_combine_J170.eq_1, if_pos c97]) hR90)
            have hS140 := (show True ∧ S_WR_combine_c240 (S_WR_combine_L64 x2 x3 x4 x5 t0_0 t0_1 t0_2 t0_3 t0_4 t0_5 t0_6 t1_0 t2_0 t3_0 t4_0 lx33 fm76) x2 x3 x4 x5 t0_0 t0_1 t0_2 t0_3 t0_4 t0_5 t0_6 t1_0 t2_0 t3_0 t4_0 lx33 lx61 lx62 lx81 p128 from (by rw [e129]; have h := hS91; rw [S_WR_combine_J170.eq_1] at h; rw [if_pos c97] at h; replace h := q_s2 h; with_reducible exact h))
            exact q_retv C0 V (⟨hI, hF, y103, y104, y105, y106, y107, y108, y109, f110, f112, lx62, t4_0, hO102, hA111, hA113, hO70, hO71, (show 0 ≤ y106.toInt from (by have t1 : lx81.toInt = 0 := b98; have t2 : lx81.toInt ≤ y106.toInt := b118; omega)), (show y106.toInt ≤ 1 from (by have t1 : lx81.toInt = 0 := b98; have t2 : y106.toInt ≤ lx81.toInt := b119; omega)), (show t0_2.toInt ≤ y105.toInt from (by first | with_reducible exact q_fe b116 | (have t1 : t0_2.toInt ≤ y105.toInt := b116; omega))), (show y105.toInt ≤ t0_2.toInt from (by first | with_reducible exact q_fe b117 | (have t1 : y105.toInt ≤ t0_2.toInt := b117; omega))), (show t0_4.toInt ≤ y107.toInt from (by first | with_reducible exact q_fe b120 | (have t1 : t0_4.toInt ≤ y107.toInt := b120; omega))), (show y107.toInt ≤ t0_4.toInt from (by first | with_reducible exact q_fe b121 | (have t1 : y107.toInt ≤ t0_4.toInt := b121; omega))), (show t0_5.toInt ≤ y108.toInt from (by first | with_reducible exact q_fe b122 | (have t1 : t0_5.toInt ≤ y108.toInt := b122; omega))), (show y108.toInt ≤ t0_5.toInt from (by first | with_reducible exact q_fe b123 | (have t1 : y108.toInt ≤ t0_5.toInt := b123; omega))), (show t0_6.toInt ≤ y109.toInt from (by first | with_reducible exact q_fe b124 | (have t1 : t0_6.toInt ≤ y109.toInt := b124; omega))), (show y109.toInt ≤ t0_6.toInt from (by first | with_reducible exact q_fe b125 | (have t1 : y109.toInt ≤ t0_6.toInt := b125; omega))), (show (y103, y104, y105, y106, y107, y108, y109, f110, f112, lx62, t4_0) = (F_WR_combine x2 x3 x4 x5 t0_0 t0_1 t0_2 t0_3 t0_4 t0_5 t0_6 t1_0 t2_0 t3_0 t4_0) from Eq.trans (by rw [e138, e137, e136, e135, e134, e133, e132, e131, e130, F_WR_combine_c240.eq_1]) hR139)⟩) d_19_37_243
          ·
            have b144 : q_F (lx81.toInt ≠ 0) := (q_neI c97)
            refine lv_iconst (v := 0) hx hb d_19_37_180 (by decide) ?_
            refine lv_istore (lv' := [(5, .int 0), (0, .ref (q 119)), (3, .int x4)]) hx hb d_19_37_181 hl (by decide) rfl (fun ls hl => ?_)
            refine q_loop (X := Int32 × (Nat → Int32)) (fun z H locs ls w151 => q_F (z.1.toInt ≤ 129) ∧ q_F (lx81.toInt ≤ z.1.toInt + 1) ∧ q_Wd D g (va_A ws sz) s w151 H locs ∧ lv_has ls 8 [(5, .int z.1), (0, .ref (q 119)), (3, .int x4)] ∧ q_I (msh g q) q w151 ∧ q_un ws w151 [119, 121, 122, 123, 124] ∧ w151[119]? = (some (q 119, .inr (13, [.int lx33, .int 2, .ref (q 120), .int t0_2, .ref (q 121), .ref (q 122), .ref (q 123), .int lx81, .ref (q 124), .ref (q 125), .ref (q 126), .ref (q 127), .ref (q 128), .ref (q 129), .ref (q 130), .ref (q 131), .int t0_4, .int t0_5, .ref (q 132), .ref (q 133), .int t0_6])) : Option (Nat × va_E)) ∧ w151[121]? = (some (q 121, .inl (g 0, (1408 : Int32).toNatClampNeg, .inl t1_0)) : Option (Nat × va_E)) ∧ w151[122]? = (some (q 122, .inl (g 3, 11, .inl t2_0)) : Option (Nat × va_E)) ∧ w151[123]? = (some (q 123, .inl (g 0, (264 : Int32).toNatClampNeg, .inl z.2)) : Option (Nat × va_E)) ∧ w151[124]? = (some (q 124, .inl (g 0, (264 : Int32).toNatClampNeg, .inl t4_0)) : Option (Nat × va_E)) ∧ (∃ n, (129 - z.1.toInt).toNat < n ∧ F_WR_combine_L183 (F_WR_combine_L64 x2 x3 x4 x5 t0_0 t0_1 t0_2 t0_3 t0_4 t0_5 t0_6 t1_0 t2_0 t3_0 t4_0 lx33 fm76) x2 x3 x4 x5 t0_0 t0_1 t0_2 t0_3 t0_4 t0_5 t0_6 t1_0 t2_0 t3_0 t4_0 lx33 lx61 lx62 lx81 n z.1 z.2 = (F_WR_combine x2 x3 x4 x5 t0_0 t0_1 t0_2 t0_3 t0_4 t0_5 t0_6 t1_0 t2_0 t3_0 t4_0) ∧ True ∧ S_WR_combine_L183 (S_WR_combine_L64 x2 x3 x4 x5 t0_0 t0_1 t0_2 t0_3 t0_4 t0_5 t0_6 t1_0 t2_0 t3_0 t4_0 lx33 fm76) x2 x3 x4 x5 t0_0 t0_1 t0_2 t0_3 t0_4 t0_5 t0_6 t1_0 t2_0 t3_0 t4_0 lx33 lx61 lx62 lx81 n z.1 z.2)) (fun z => (129 - z.1.toInt).toNat) ?_ ((0 : Int32), (lx62 : (Nat → Int32))) _ _ _ w95 ⟨(show q_F (0 ≤ 129) from (show 0 ≤ 129 from by omega)), (show q_F (lx81.toInt ≤ 0 + 1) from (show lx81.toInt ≤ 0 + 1 from by have t1 : lx33.toInt ≤ 0 := b50; have t2 : lx81.toInt ≤ lx33.toInt + 1 := i89; omega)), V, q_lw hl (q_lw1 0 rfl (q_lw1 1 rfl (q_lw1 2 rfl q_lw0))), hI, hF, hO67, hO68, hO69, hO70, hO71, ⟨((129 - (0 : Int32).toInt).toNat + 1), Nat.lt_succ_self _, (show F_WR_combine_L183 (F_WR_combine_L64 x2 x3 x4 x5 t0_0 t0_1 t0_2 t0_3 t0_4 t0_5 t0_6 t1_0 t2_0 t3_0 t4_0 lx33 fm76) x2 x3 x4 x5 t0_0 t0_1 t0_2 t0_3 t0_4 t0_5 t0_6 t1_0 t2_0 t3_0 t4_0 lx33 lx61 lx62 lx81 ((129 - (0 : Int32).toInt).toNat + 1) 0 lx62 = (F_WR_combine x2 x3 x4 x5 t0_0 t0_1 t0_2 t0_3 t0_4 t0_5 t0_6 t1_0 t2_0 t3_0 t4_0) from Eq.trans (by rw [F_WR_combine_J170.eq_1, if_neg c97]) hR90), (show True ∧ S_WR_combine_L183 (S_WR_combine_L64 x2 x3 x4 x5 t0_0 t0_1 t0_2 t0_3 t0_4 t0_5 t0_6 t1_0 t2_0 t3_0 t4_0 lx33 fm76) x2 x3 x4 x5 t0_0 t0_1 t0_2 t0_3 t0_4 t0_5 t0_6 t1_0 t2_0 t3_0 t4_0 lx33 lx61 lx62 lx81 ((129 - (0 : Int32).toInt).toNat + 1) 0 lx62 from (by have h := hS91; rw [S_WR_combine_J170.eq_1] at h; rw [if_neg c97] at h; with_reducible exact h))⟩⟩
            rintro ⟨lx146, lx147⟩ H locs ls w151 ⟨i148, i149, V, hl, hI, hF, hO152, hO153, hO154, hO155, hO156, ⟨fu159, hf160, hR157, hS158⟩⟩ ih150
            obtain ⟨fm161, rfl⟩ : ∃ m, fu159 = m + 1 := ⟨fu159 - 1, by omega⟩
            replace i148 : q_F (lx146.toInt ≤ 129) := i148
            replace i149 : q_F (lx81.toInt ≤ lx146.toInt + 1) := i149
            replace hl : lv_has ls 8 [(5, .int lx146), (0, .ref (q 119)), (3, .int x4)] := hl
            replace hO152 : w151[119]? = (some (q 119, .inr (13, [.int lx33, .int 2, .ref (q 120), .int t0_2, .ref (q 121), .ref (q 122), .ref (q 123), .int lx81, .ref (q 124), .ref (q 125), .ref (q 126), .ref (q 127), .ref (q 128), .ref (q 129), .ref (q 130), .ref (q 131), .int t0_4, .int t0_5, .ref (q 132), .ref (q 133), .int t0_6])) : Option (Nat × va_E)) := hO152
            replace hO153 : w151[121]? = (some (q 121, .inl (g 0, (1408 : Int32).toNatClampNeg, .inl t1_0)) : Option (Nat × va_E)) := hO153
            replace hO154 : w151[122]? = (some (q 122, .inl (g 3, 11, .inl t2_0)) : Option (Nat × va_E)) := hO154
            replace hO155 : w151[123]? = (some (q 123, .inl (g 0, (264 : Int32).toNatClampNeg, .inl lx147)) : Option (Nat × va_E)) := hO155
            replace hO156 : w151[124]? = (some (q 124, .inl (g 0, (264 : Int32).toNatClampNeg, .inl t4_0)) : Option (Nat × va_E)) := hO156
            refine lv_iload hx hb d_19_37_183 (lv_at hl 0 rfl) ?_
            refine lv_sipush (v := 128) hx hb d_19_37_185 (by decide) ?_
            refine lv_icmp_gt (tgt := 216) hx hb d_19_37_188 (by decide) (fun c162 => ?_) (fun c162 => ?_)
            ·
              refine lv_aload_n hx hb d_19_37_216 rfl (lv_at hl 1 rfl) ?_
              refine lv_aload_n hx hb d_19_37_217 rfl (lv_at hl 1 rfl) ?_
              refine q_get (ci := 13) (j := 8) (v := .ref (q 124)) C0 V i_WR rfl rfl hO152 (by decide) w_1932 rfl d_19_37_218 ?_
              have ob164 : True ∧ S_WR_setOne (264 : Int32) lx33 (2 : Int32) t0_2 lx81 t0_4 t0_5 t0_6 t4_0 := (by have h := hS158; rw [S_WR_combine_L183.eq_2] at h; rw [if_pos c162] at h; with_reducible exact h.2.1)
              refine q_gov V (q_runV (As := [.ref (q 124)]) (rest := []) (d := 2) (mc := 0) (ms := 0) (ci := 13) C0 V rfl LV_WR_131 (X_WR_setOne l D g q w151 124 264 (n_r124 g q)  hI lx33 2 t0_2 lx81 t0_4 t0_5 t0_6 hO152 t4_0 hO156 ob164 _) rfl rfl hO152 rfl hl.1 rfl (Nat.le_of_ble_eq_true rfl) ⟨by decide, by decide⟩ ⟨Nat.le_of_ble_eq_true rfl, Nat.le_of_ble_eq_true rfl⟩ d_19_37_221) (fun u165 H locs hp166 V => ?_)
              obtain ⟨hI, hu170, f167, hA168, hE169⟩ := hp166
              replace hA168 : u165[124]? = (some (q 124, .inl (g 0, (264 : Int32).toNatClampNeg, .inl f167)) : Option (Nat × va_E)) := hA168
              have e171 : f167 = (F_WR_setOne (264 : Int32) lx33 (2 : Int32) t0_2 lx81 t0_4 t0_5 t0_6 t4_0) := hE169
              replace hO152 := (hu170 _ (by decide)).trans hO152
              replace hO153 := (hu170 _ (by decide)).trans hO153
              replace hO154 := (hu170 _ (by decide)).trans hO154
              replace hO155 := (hu170 _ (by decide)).trans hO155
              replace hF := q_uc hF hu170 (by simp)
              refine lv_aload_n hx hb d_19_37_224 rfl (lv_at hl 1 rfl) ?_
              refine q_get (ci := 13) (j := 6) (v := .ref (q 123)) C0 V i_WR rfl rfl hO152 (by decide) w_1930 rfl d_19_37_225 ?_
              refine lv_aload_n hx hb d_19_37_228 rfl (lv_at hl 1 rfl) ?_
              refine q_get (ci := 13) (j := 8) (v := .ref (q 124)) C0 V i_WR rfl rfl hO152 (by decide) w_1932 rfl d_19_37_229 ?_
              refine lv_iconst (v := 1) hx hb d_19_37_232 (by decide) ?_
              refine lv_lconst (v := 1) hx hb d_19_37_233 (by decide) ?_
              refine lv_iconst (v := 0) hx hb d_19_37_234 (by decide) ?_
              have ob172 : True ∧ S_WR_join (264 : Int32) (264 : Int32) (1 : Int32) (1 : Int64) (0 : Int32) lx147 f167 := (by rw [e171]; have h := hS158; rw [S_WR_combine_L183.eq_2] at h; rw [if_pos c162] at h; replace h := q_s2 h; with_reducible exact h.2.1)
              refine q_gov V (q_runS (As := [.ref (q 123), .ref (q 124), .int 1, .long 1, .int 0]) (rest := []) (d := 1) (mc := 0) (ms := 0) C0 V rfl LS_WR_75 (X_WR_join l D g q u165 123 264 (n_r123 g q) 124 264 (n_r124 g q) 1 1 0 (by decide) hI lx147 hO155 f167 hA168 ⟨(by have y0 : (264 : Int32).toInt = 264 := rfl; have y1 : (264 : Int32).toInt = 264 := rfl; have y2 : (1 : Int32).toInt = 1 := rfl; have y3 : (1 : Int64).toInt = 1 := rfl; have y4 : (0 : Int32).toInt = 0 := rfl; omega), (by have y0 : (264 : Int32).toInt = 264 := rfl; have y1 : (264 : Int32).toInt = 264 := rfl; have y2 : (1 : Int32).toInt = 1 := rfl; have y3 : (1 : Int64).toInt = 1 := rfl; have y4 : (0 : Int32).toInt = 0 := rfl; omega)⟩ ob172 _) rfl hl.1 rfl (Nat.le_of_ble_eq_true rfl) ⟨by decide, by decide⟩ ⟨Nat.le_of_ble_eq_true rfl, Nat.le_of_ble_eq_true rfl⟩ d_19_37_235) (fun u173 H locs hp174 V => ?_)
              obtain ⟨hI, hu178, f175, hA176, hE177⟩ := hp174
              replace hA176 : u173[123]? = (some (q 123, .inl (g 0, (264 : Int32).toNatClampNeg, .inl f175)) : Option (Nat × va_E)) := hA176
              have e179 : f175 = (F_WR_join (264 : Int32) (264 : Int32) (1 : Int32) (1 : Int64) (0 : Int32) lx147 f167) := hE177
              replace hO152 := (hu178 _ (by decide)).trans hO152
              replace hO153 := (hu178 _ (by decide)).trans hO153
              replace hO154 := (hu178 _ (by decide)).trans hO154
              replace hA168 := (hu178 _ (by decide)).trans hA168
              replace hF := q_uc hF hu178 (by simp)
              refine lv_aload_n hx hb d_19_37_238 rfl (lv_at hl 1 rfl) ?_
              refine lv_iload_n hx hb d_19_37_239 rfl (lv_at hl 2 rfl) ?_
              have ob180 : True ∧ S_WR_store x4 lx33 (2 : Int32) t0_2 lx81 t0_4 t0_5 t0_6 t1_0 t2_0 f175 := (by rw [e179, e171]; have h := hS158; rw [S_WR_combine_L183.eq_2] at h; rw [if_pos c162] at h; replace h := q_s2 h; replace h := q_s2 h; with_reducible exact h.2.1)
              refine q_gov V (q_runV (As := [.int x4]) (rest := []) (d := 2) (mc := 0) (ms := 0) (ci := 13) C0 V rfl LV_WR_103 (X_WR_store l D g q u173  x4 hI lx33 2 t0_2 lx81 t0_4 t0_5 t0_6 hO152 t1_0 hO153 t2_0 hO154 f175 hA176 ob180 _) rfl rfl hO152 rfl hl.1 rfl (Nat.le_of_ble_eq_true rfl) ⟨by decide, by decide⟩ ⟨Nat.le_of_ble_eq_true rfl, Nat.le_of_ble_eq_true rfl⟩ d_19_37_240) (fun u181 H locs hp182 V => ?_)
              obtain ⟨hI, hZ9⟩ := hp182
              obtain ⟨hu208, hZ9⟩ := hZ9
              obtain ⟨y184, hZ9⟩ := hZ9
              obtain ⟨y185, hZ9⟩ := hZ9
              obtain ⟨y186, hZ9⟩ := hZ9
              obtain ⟨y187, hZ9⟩ := hZ9
              obtain ⟨y188, hZ9⟩ := hZ9
              obtain ⟨y189, hZ9⟩ := hZ9
              obtain ⟨y190, hZ9⟩ := hZ9
              obtain ⟨f191, hZ9⟩ := hZ9
              obtain ⟨f193, hZ9⟩ := hZ9
              obtain ⟨hO183, hZ9⟩ := hZ9
              obtain ⟨hA192, hZ9⟩ := hZ9
              obtain ⟨hA194, hZ9⟩ := hZ9
              replace hZ9 := hZ9.2.2
              obtain ⟨b197, hZ9⟩ := hZ9
              obtain ⟨b198, hZ9⟩ := hZ9
              obtain ⟨b199, hZ9⟩ := hZ9
              obtain ⟨b200, hZ9⟩ := hZ9
              obtain ⟨b201, hZ9⟩ := hZ9
              obtain ⟨b202, hZ9⟩ := hZ9
              obtain ⟨b203, hZ9⟩ := hZ9
              obtain ⟨b204, hZ9⟩ := hZ9
              obtain ⟨b205, hZ9⟩ := hZ9
              obtain ⟨b206, hE207⟩ := hZ9
              replace hO183 : u181[119]? = (some (q 119, .inr (13, [.int y184, .int y185, .ref (q 120), .int y186, .ref (q 121), .ref (q 122), .ref (q 123), .int y187, .ref (q 124), .ref (q 125), .ref (q 126), .ref (q 127), .ref (q 128), .ref (q 129), .ref (q 130), .ref (q 131), .int y188, .int y189, .ref (q 132), .ref (q 133), .int y190])) : Option (Nat × va_E)) := hO183
              replace hA192 : u181[121]? = (some (q 121, .inl (g 0, (1408 : Int32).toNatClampNeg, .inl f191)) : Option (Nat × va_E)) := hA192
              replace hA194 : u181[122]? = (some (q 122, .inl (g 3, 11, .inl f193)) : Option (Nat × va_E)) := hA194
              obtain ⟨p209, e210⟩ : ∃ z, z = (F_WR_store x4 lx33 (2 : Int32) t0_2 lx81 t0_4 t0_5 t0_6 t1_0 t2_0 f175) := ⟨_, rfl⟩
              have e211 : y184 = p209.1 := congrArg (fun z => z.1) (hE207.trans e210.symm)
              have e212 : y185 = p209.2.1 := congrArg (fun z => z.2.1) (hE207.trans e210.symm)
              have e213 : y186 = p209.2.2.1 := congrArg (fun z => z.2.2.1) (hE207.trans e210.symm)
              have e214 : y187 = p209.2.2.2.1 := congrArg (fun z => z.2.2.2.1) (hE207.trans e210.symm)
              have e215 : y188 = p209.2.2.2.2.1 := congrArg (fun z => z.2.2.2.2.1) (hE207.trans e210.symm)
              have e216 : y189 = p209.2.2.2.2.2.1 := congrArg (fun z => z.2.2.2.2.2.1) (hE207.trans e210.symm)
              have e217 : y190 = p209.2.2.2.2.2.2.1 := congrArg (fun z => z.2.2.2.2.2.2.1) (hE207.trans e210.symm)
              have e218 : f191 = p209.2.2.2.2.2.2.2.1 := congrArg (fun z => z.2.2.2.2.2.2.2.1) (hE207.trans e210.symm)
              have e219 : f193 = p209.2.2.2.2.2.2.2.2 := congrArg (fun z => z.2.2.2.2.2.2.2.2) (hE207.trans e210.symm)
              replace b197 : q_F (t0_2.toInt ≤ y186.toInt) := b197
              replace b198 : q_F (y186.toInt ≤ t0_2.toInt) := b198
              replace b199 : q_F (lx81.toInt ≤ y187.toInt) := b199
              replace b200 : q_F (y187.toInt ≤ lx81.toInt) := b200
              replace b201 : q_F (t0_4.toInt ≤ y188.toInt) := b201
              replace b202 : q_F (y188.toInt ≤ t0_4.toInt) := b202
              replace b203 : q_F (t0_5.toInt ≤ y189.toInt) := b203
              replace b204 : q_F (y189.toInt ≤ t0_5.toInt) := b204
              replace b205 : q_F (t0_6.toInt ≤ y190.toInt) := b205
              replace b206 : q_F (y190.toInt ≤ t0_6.toInt) := b206
              replace hA176 := (hu208 _ (by decide)).trans hA176
              replace hA168 := (hu208 _ (by decide)).trans hA168
              replace hF := q_uc hF hu208 (by simp)
              have hR220 := (show F_WR_combine_c240_6 (F_WR_combine_L64 x2 x3 x4 x5 t0_0 t0_1 t0_2 t0_3 t0_4 t0_5 t0_6 t1_0 t2_0 t3_0 t4_0 lx33 fm76) (F_WR_combine_L183 (F_WR_combine_L64 x2 x3 x4 x5 t0_0 t0_1 t0_2 t0_3 t0_4 t0_5 t0_6 t1_0 t2_0 t3_0 t4_0 lx33 fm76) x2 x3 x4 x5 t0_0 t0_1 t0_2 t0_3 t0_4 t0_5 t0_6 t1_0 t2_0 t3_0 t4_0 lx33 lx61 lx62 lx81 fm161) x2 x3 x4 x5 t0_0 t0_1 t0_2 t0_3 t0_4 t0_5 t0_6 t1_0 t2_0 t3_0 t4_0 lx33 lx61 lx62 lx81 lx146 lx147 f175 f167 p209 = (F_WR_combine x2 x3 x4 x5 t0_0 t0_1 t0_2 t0_3 t0_4 t0_5 t0_6 t1_0 t2_0 t3_0 t4_0) from Eq.trans (by rw [e210, e179, e171, F_WR_combine_L183.eq_2, if_pos c162]) hR157)
              have hS221 := (show True ∧ S_WR_combine_c240_6 (S_WR_combine_L64 x2 x3 x4 x5 t0_0 t0_1 t0_2 t0_3 t0_4 t0_5 t0_6 t1_0 t2_0 t3_0 t4_0 lx33 fm76) (S_WR_combine_L183 (S_WR_combine_L64 x2 x3 x4 x5 t0_0 t0_1 t0_2 t0_3 t0_4 t0_5 t0_6 t1_0 t2_0 t3_0 t4_0 lx33 fm76) x2 x3 x4 x5 t0_0 t0_1 t0_2 t0_3 t0_4 t0_5 t0_6 t1_0 t2_0 t3_0 t4_0 lx33 lx61 lx62 lx81 fm161) x2 x3 x4 x5 t0_0 t0_1 t0_2 t0_3 t0_4 t0_5 t0_6 t1_0 t2_0 t3_0 t4_0 lx33 lx61 lx62 lx81 lx146 lx147 f175 f167 p209 from (by rw [e210, e179, e171]; have h := hS158; rw [S_WR_combine_L183.eq_2] at h; rw [if_pos c162] at h; replace h := q_s2 h; replace h := q_s2 h; replace h := q_s2 h; with_reducible exact h))
              exact q_retv C0 V (⟨hI, hF, y184, y185, y186, y187, y188, y189, y190, f191, f193, f175, f167, hO183, hA192, hA194, hA176, hA168, (show 0 ≤ y187.toInt from (by have t1 : 0 ≤ lx33.toInt := i40; have t2 : lx33.toInt ≤ lx81.toInt := i88; have t3 : lx81.toInt ≤ y187.toInt := b199; omega)), (show y187.toInt ≤ 1 from (by have t1 : lx33.toInt ≤ 0 := b50; have t2 : lx81.toInt ≤ lx33.toInt + 1 := i89; have t3 : y187.toInt ≤ lx81.toInt := b200; omega)), (show t0_2.toInt ≤ y186.toInt from (by first | with_reducible exact q_fe b197 | (have t1 : t0_2.toInt ≤ y186.toInt := b197; omega))), (show y186.toInt ≤ t0_2.toInt from (by first | with_reducible exact q_fe b198 | (have t1 : y186.toInt ≤ t0_2.toInt := b198; omega))), (show t0_4.toInt ≤ y188.toInt from (by first | with_reducible exact q_fe b201 | (have t1 : t0_4.toInt ≤ y188.toInt := b201; omega))), (show y188.toInt ≤ t0_4.toInt from (by first | with_reducible exact q_fe b202 | (have t1 : y188.toInt ≤ t0_4.toInt := b202; omega))), (show t0_5.toInt ≤ y189.toInt from (by first | with_reducible exact q_fe b203 | (have t1 : t0_5.toInt ≤ y189.toInt := b203; omega))), (show y189.toInt ≤ t0_5.toInt from (by first | with_reducible exact q_fe b204 | (have t1 : y189.toInt ≤ t0_5.toInt := b204; omega))), (show t0_6.toInt ≤ y190.toInt from (by first | with_reducible exact q_fe b205 | (have t1 : t0_6.toInt ≤ y190.toInt := b205; omega))), (show y190.toInt ≤ t0_6.toInt from (by first | with_reducible exact q_fe b206 | (have t1 : y190.toInt ≤ t0_6.toInt := b206; omega))), (show (y184, y185, y186, y187, y188, y189, y190, f191, f193, f175, f167) = (F_WR_combine x2 x3 x4 x5 t0_0 t0_1 t0_2 t0_3 t0_4 t0_5 t0_6 t1_0 t2_0 t3_0 t4_0) from Eq.trans (by rw [e219, e218, e217, e216, e215, e214, e213, e212, e211, F_WR_combine_c240_6.eq_1]) hR220)⟩) d_19_37_243
            ·
              have b225 : q_F (lx146.toInt ≤ 128) := (q_nltI c162)
              refine lv_aload_n hx hb d_19_37_191 rfl (lv_at hl 1 rfl) ?_
              refine q_get (ci := 13) (j := 6) (v := .ref (q 123)) C0 V i_WR rfl rfl hO152 (by decide) w_1930 rfl d_19_37_192 ?_
              refine lv_iload hx hb d_19_37_195 (lv_at hl 0 rfl) ?_
              refine lv_aload_n hx hb d_19_37_197 rfl (lv_at hl 1 rfl) ?_
              refine q_get (ci := 13) (j := 6) (v := .ref (q 123)) C0 V i_WR rfl rfl hO152 (by decide) w_1930 rfl d_19_37_198 ?_
              refine lv_iload hx hb d_19_37_201 (lv_at hl 0 rfl) ?_
              refine q_iald C0 V hO155 (q_ix (x := lx146.toInt) rfl (by have t1 : 0 ≤ lx33.toInt := i40; have t2 : lx33.toInt ≤ lx81.toInt := i88; have t3 : lx81.toInt ≠ 0 := b144; have t4 : lx81.toInt ≤ lx146.toInt + 1 := i149; omega) (by have t1 : 0 ≤ lx33.toInt := i40; have t2 : lx33.toInt ≤ lx81.toInt := i88; have t3 : lx81.toInt ≠ 0 := b144; have t4 : lx81.toInt ≤ lx146.toInt + 1 := i149; have t5 : lx146.toInt ≤ 129 := i148; have e9 : (((264 : Int32).toNatClampNeg : Nat) : Int) = 264 := (by decide); omega)) d_19_37_203 ?_
              obtain ⟨a226, e227⟩ := q_nm (lx147 lx146.toNatClampNeg : Int32)
              refine q_ti (v := a226) e227 ?_
              refine lv_iconst (v := (-1)) hx hb d_19_37_204 (by decide) ?_
              refine lv_ixor hx hb d_19_37_205 ?_
              obtain ⟨a228, e229⟩ := q_nm (a226 ^^^ (-1) : Int32)
              refine q_ti (v := a228) e229 ?_
              refine q_ldc C0 rfl w_2559 d_19_37_206 ?_
              refine lv_iand hx hb d_19_37_208 ?_
              obtain ⟨a230, e231⟩ := q_nm (a228 &&& 65535 : Int32)
              refine q_ti (v := a230) e231 ?_
              refine q_iast C0 V hO155 (q_ix (x := lx146.toInt) rfl (by have t1 : 0 ≤ lx33.toInt := i40; have t2 : lx33.toInt ≤ lx81.toInt := i88; have t3 : lx81.toInt ≠ 0 := b144; have t4 : lx81.toInt ≤ lx146.toInt + 1 := i149; omega) (by have t1 : 0 ≤ lx33.toInt := i40; have t2 : lx33.toInt ≤ lx81.toInt := i88; have t3 : lx81.toInt ≠ 0 := b144; have t4 : lx81.toInt ≤ lx146.toInt + 1 := i149; have t5 : lx146.toInt ≤ 129 := i148; have e9 : (((264 : Int32).toNatClampNeg : Nat) : Int) = 264 := (by decide); omega)) d_19_37_209 (fun H locs w233 hu234 hO155 V => ?_)
              replace hI := n_ai' hI (n_r123 g q).1 hu234 hO155 (q_updB (fun _ => s_bnd) s_bnd)
              replace hO152 := (hu234 _ (by decide)).trans hO152
              replace hO153 := (hu234 _ (by decide)).trans hO153
              replace hO154 := (hu234 _ (by decide)).trans hO154
              replace hO156 := (hu234 _ (by decide)).trans hO156
              replace hF := q_us hF hu234 (by simp)
              obtain ⟨f235, e236⟩ := q_nm (upd lx147 lx146.toNatClampNeg a230 : (Nat → Int32))
              rw [e236] at hO155
              obtain ⟨a237, e238⟩ := q_nm (lx146 + 1 : Int32)
              have b239 : q_F (a237.toInt = lx146.toInt + 1) := (by rw [← e238]; exact q_addI (y := 1) rfl (by decide) (by have _ := q_lo32 (x := lx146); have _ := q_hi32 (x := lx146); have t1 : lx146.toInt ≤ 129 := i148; omega) (by have _ := q_lo32 (x := lx146); have _ := q_hi32 (x := lx146); have t1 : lx146.toInt ≤ 129 := i148; omega))
              refine lv_iinc (v := a237) (lv' := [(5, .int a237), (0, .ref (q 119)), (3, .int x4)]) hx hb d_19_37_210 hl (k := 0) rfl (e238) (by decide) rfl (fun ls hl => ?_)
              refine lv_goto (tgt := 183) hx hb d_19_37_213 (by decide) ?_
              exact ih150 ((a237 : Int32), (f235 : (Nat → Int32))) _ _ _ _ (show (129 - a237.toInt).toNat < (129 - lx146.toInt).toNat from by have t1 : a237.toInt = lx146.toInt + 1 := b239; have t2 : lx146.toInt ≤ 129 := i148; have t3 : lx146.toInt ≤ 128 := b225; omega) ⟨(show q_F (a237.toInt ≤ 129) from (show a237.toInt ≤ 129 from by have t1 : lx146.toInt ≤ 128 := b225; have t2 : a237.toInt = lx146.toInt + 1 := b239; omega)), (show q_F (lx81.toInt ≤ a237.toInt + 1) from (show lx81.toInt ≤ a237.toInt + 1 from by have t1 : lx81.toInt ≤ lx146.toInt + 1 := i149; have t2 : a237.toInt = lx146.toInt + 1 := b239; omega)), V, q_lw hl (q_lw1 0 rfl (q_lw1 1 rfl (q_lw1 2 rfl q_lw0))), hI, hF, hO152, hO153, hO154, hO155, hO156, ⟨fm161, Nat.lt_of_lt_of_le (show (129 - a237.toInt).toNat < (129 - lx146.toInt).toNat from by have t1 : a237.toInt = lx146.toInt + 1 := b239; have t2 : lx146.toInt ≤ 129 := i148; have t3 : lx146.toInt ≤ 128 := b225; omega) (Nat.le_of_lt_succ hf160), (show F_WR_combine_L183 (F_WR_combine_L64 x2 x3 x4 x5 t0_0 t0_1 t0_2 t0_3 t0_4 t0_5 t0_6 t1_0 t2_0 t3_0 t4_0 lx33 fm76) x2 x3 x4 x5 t0_0 t0_1 t0_2 t0_3 t0_4 t0_5 t0_6 t1_0 t2_0 t3_0 t4_0 lx33 lx61 lx62 lx81 fm161 a237 f235 = (F_WR_combine x2 x3 x4 x5 t0_0 t0_1 t0_2 t0_3 t0_4 t0_5 t0_6 t1_0 t2_0 t3_0 t4_0) from Eq.trans (by rw [← e238, ← e236, ← e231, ← e229, ← e227, F_WR_combine_L183.eq_2, if_neg c162]) hR157), (show True ∧ S_WR_combine_L183 (S_WR_combine_L64 x2 x3 x4 x5 t0_0 t0_1 t0_2 t0_3 t0_4 t0_5 t0_6 t1_0 t2_0 t3_0 t4_0 lx33 fm76) x2 x3 x4 x5 t0_0 t0_1 t0_2 t0_3 t0_4 t0_5 t0_6 t1_0 t2_0 t3_0 t4_0 lx33 lx61 lx62 lx81 fm161 a237 f235 from (by rw [← e238, ← e236, ← e231, ← e229, ← e227]; have h := hS158; rw [S_WR_combine_L183.eq_2] at h; rw [if_neg c162] at h; with_reducible exact h))⟩⟩
        ·
          intro J87
          refine lv_icmp_lt (tgt := 169) hx hb d_19_37_162 (by decide) (fun c240 => ?_) (fun c240 => ?_)
          ·
            refine lv_iconst (v := 0) hx hb d_19_37_169 (by decide) ?_
            exact J87 ((0 : Int32)) _ _ _ w66 ⟨(show q_F (lx33.toInt ≤ 0) from (show lx33.toInt ≤ 0 from by have t1 : lx33.toInt ≤ 0 := b50; omega)), (show q_F (0 ≤ lx33.toInt + 1) from (show 0 ≤ lx33.toInt + 1 from by have t1 : 0 ≤ lx33.toInt := i40; omega)), V, q_lw hl (q_lw1 1 rfl (q_lw1 4 rfl q_lw0)), (show F_WR_combine_J170 (F_WR_combine_L64 x2 x3 x4 x5 t0_0 t0_1 t0_2 t0_3 t0_4 t0_5 t0_6 t1_0 t2_0 t3_0 t4_0 lx33 fm76) x2 x3 x4 x5 t0_0 t0_1 t0_2 t0_3 t0_4 t0_5 t0_6 t1_0 t2_0 t3_0 t4_0 lx33 lx61 lx62 0 = (F_WR_combine x2 x3 x4 x5 t0_0 t0_1 t0_2 t0_3 t0_4 t0_5 t0_6 t1_0 t2_0 t3_0 t4_0) from Eq.trans (by have c240x := c240; rw [← e80] at c240x; rw [F_WR_combine_L64.eq_2, if_pos c77, if_pos c240x]) hR72), (show True ∧ S_WR_combine_J170 (S_WR_combine_L64 x2 x3 x4 x5 t0_0 t0_1 t0_2 t0_3 t0_4 t0_5 t0_6 t1_0 t2_0 t3_0 t4_0 lx33 fm76) x2 x3 x4 x5 t0_0 t0_1 t0_2 t0_3 t0_4 t0_5 t0_6 t1_0 t2_0 t3_0 t4_0 lx33 lx61 lx62 0 from (by have h := hS73; rw [S_WR_combine_L64.eq_2] at h; rw [if_pos c77] at h; have c240x := c240; rw [← e80] at c240x; rw [if_pos c240x] at h; with_reducible exact h))⟩
          ·
            refine lv_iconst (v := 1) hx hb d_19_37_165 (by decide) ?_
            refine lv_goto (tgt := 170) hx hb d_19_37_166 (by decide) ?_
            exact J87 ((1 : Int32)) _ _ _ w66 ⟨(show q_F (lx33.toInt ≤ 1) from (show lx33.toInt ≤ 1 from by have t1 : lx33.toInt ≤ 1 := i41; omega)), (show q_F (1 ≤ lx33.toInt + 1) from (show 1 ≤ lx33.toInt + 1 from by have t1 : 0 ≤ lx33.toInt := i40; omega)), V, q_lw hl (q_lw1 1 rfl (q_lw1 4 rfl q_lw0)), (show F_WR_combine_J170 (F_WR_combine_L64 x2 x3 x4 x5 t0_0 t0_1 t0_2 t0_3 t0_4 t0_5 t0_6 t1_0 t2_0 t3_0 t4_0 lx33 fm76) x2 x3 x4 x5 t0_0 t0_1 t0_2 t0_3 t0_4 t0_5 t0_6 t1_0 t2_0 t3_0 t4_0 lx33 lx61 lx62 1 = (F_WR_combine x2 x3 x4 x5 t0_0 t0_1 t0_2 t0_3 t0_4 t0_5 t0_6 t1_0 t2_0 t3_0 t4_0) from Eq.trans (by have c240x := c240; rw [← e80] at c240x; rw [F_WR_combine_L64.eq_2, if_pos c77, if_neg c240x]) hR72), (show True ∧ S_WR_combine_J170 (S_WR_combine_L64 x2 x3 x4 x5 t0_0 t0_1 t0_2 t0_3 t0_4 t0_5 t0_6 t1_0 t2_0 t3_0 t4_0 lx33 fm76) x2 x3 x4 x5 t0_0 t0_1 t0_2 t0_3 t0_4 t0_5 t0_6 t1_0 t2_0 t3_0 t4_0 lx33 lx61 lx62 1 from (by have h := hS73; rw [S_WR_combine_L64.eq_2] at h; rw [if_pos c77] at h; have c240x := c240; rw [← e80] at c240x; rw [if_neg c240x] at h; with_reducible exact h))⟩
      ·
        have b243 : q_F (lx61.toInt ≤ 128) := (q_nltI c77)
        refine lv_aload_n hx hb d_19_37_72 rfl (lv_at hl 1 rfl) ?_
        refine lv_iload_n hx hb d_19_37_73 rfl (lv_at hl 2 rfl) ?_
        refine lv_iload hx hb d_19_37_74 (lv_at hl 0 rfl) ?_
        have ob244 : True ∧ S_WR_limb x2 lx61 lx33 (2 : Int32) t0_2 t0_3 t0_4 t0_5 t0_6 t1_0 t2_0 := (by have h := hS73; rw [S_WR_combine_L64.eq_2] at h; rw [if_neg c77] at h; with_reducible exact h.2.1)
        refine q_goi V (q_runV (As := [.int x2, .int lx61]) (rest := []) (d := 1) (mc := 0) (ms := 0) (ci := 13) C0 V rfl LV_WR_148 (X_WR_limb l D g q w66  x2 lx61 hI lx33 2 t0_2 t0_3 t0_4 t0_5 t0_6 hO67 t1_0 hO68 t2_0 hO69 ob244 _) rfl rfl hO67 rfl hl.1 rfl (Nat.le_of_ble_eq_true rfl) ⟨by decide, by decide⟩ ⟨Nat.le_of_ble_eq_true rfl, Nat.le_of_ble_eq_true rfl⟩ d_19_37_76) (fun a247 u245 H locs hp246 V => ?_)
        obtain ⟨rfl, hE248⟩ := hp246
        have e249 : a247 = (F_WR_limb x2 lx61 lx33 (2 : Int32) t0_2 t0_3 t0_4 t0_5 t0_6 t1_0 t2_0) := hE248
        refine lv_istore (lv' := [(6, .int a247), (5, .int lx61), (0, .ref (q 119)), (1, .int x2), (2, .int x3), (3, .int x4), (4, .int x5)]) hx hb d_19_37_79 hl (by decide) rfl (fun ls hl => ?_)
        refine lv_aload_n hx hb d_19_37_81 rfl (lv_at hl 2 rfl) ?_
        refine lv_iload_n hx hb d_19_37_82 rfl (lv_at hl 4 rfl) ?_
        refine lv_iload hx hb d_19_37_83 (lv_at hl 1 rfl) ?_
        have ob250 : True ∧ S_WR_limb x3 lx61 lx33 (2 : Int32) t0_2 t0_3 t0_4 t0_5 t0_6 t1_0 t2_0 := (by have h := hS73; rw [S_WR_combine_L64.eq_2] at h; rw [if_neg c77] at h; replace h := q_s2 h; with_reducible exact h.2.1)
        refine q_goi V (q_runV (As := [.int x3, .int lx61]) (rest := []) (d := 1) (mc := 0) (ms := 0) (ci := 13) C0 V rfl LV_WR_148 (X_WR_limb l D g q w66  x3 lx61 hI lx33 2 t0_2 t0_3 t0_4 t0_5 t0_6 hO67 t1_0 hO68 t2_0 hO69 ob250 _) rfl rfl hO67 rfl hl.1 rfl (Nat.le_of_ble_eq_true rfl) ⟨by decide, by decide⟩ ⟨Nat.le_of_ble_eq_true rfl, Nat.le_of_ble_eq_true rfl⟩ d_19_37_85) (fun a253 u251 H locs hp252 V => ?_)
        obtain ⟨rfl, hE254⟩ := hp252
        have e255 : a253 = (F_WR_limb x3 lx61 lx33 (2 : Int32) t0_2 t0_3 t0_4 t0_5 t0_6 t1_0 t2_0) := hE254
        refine lv_istore (lv' := [(7, .int a253), (6, .int a247), (5, .int lx61), (0, .ref (q 119)), (1, .int x2), (2, .int x3), (3, .int x4), (4, .int x5)]) hx hb d_19_37_88 hl (by decide) rfl (fun ls hl => ?_)
        refine lv_aload_n hx hb d_19_37_90 rfl (lv_at hl 3 rfl) ?_
        refine q_get (ci := 13) (j := 6) (v := .ref (q 123)) C0 V i_WR rfl rfl hO67 (by decide) w_1930 rfl d_19_37_91 ?_
        refine lv_iload hx hb d_19_37_94 (lv_at hl 2 rfl) ?_
        refine lv_iload hx hb d_19_37_96 (lv_at hl 7 rfl) ?_
        refine lv_if_ne (tgt := 109) hx hb d_19_37_98 (by decide) (fun c256 => ?_) (fun c256 => ?_)
        ·
          refine lv_iload hx hb d_19_37_109 (lv_at hl 7 rfl) ?_
          refine lv_iconst (v := 1) hx hb d_19_37_111 (by decide) ?_
          refine lv_icmp_ne (tgt := 123) hx hb d_19_37_112 (by decide) (fun c258 => ?_) (fun c258 => ?_)
          ·
            refine lv_iload hx hb d_19_37_123 (lv_at hl 7 rfl) ?_
            refine lv_iconst (v := 2) hx hb d_19_37_125 (by decide) ?_
            refine lv_icmp_ne (tgt := 137) hx hb d_19_37_126 (by decide) (fun c260 => ?_) (fun c260 => ?_)
            ·
              refine lv_iload hx hb d_19_37_137 (lv_at hl 1 rfl) ?_
              refine lv_iload hx hb d_19_37_139 (lv_at hl 0 rfl) ?_
              refine lv_iconst (v := (-1)) hx hb d_19_37_141 (by decide) ?_
              refine lv_ixor hx hb d_19_37_142 ?_
              obtain ⟨a262, e263⟩ := q_nm (a253 ^^^ (-1) : Int32)
              refine q_ti (v := a262) e263 ?_
              refine lv_iand hx hb d_19_37_143 ?_
              obtain ⟨a264, e265⟩ := q_nm (a247 &&& a262 : Int32)
              refine q_ti (v := a264) e265 ?_
              refine q_iast C0 V hO70 (q_ix (x := lx61.toInt) rfl (by have t1 : 0 ≤ lx33.toInt := i40; have t2 : lx33.toInt ≤ lx61.toInt := i64; omega) (by have t1 : 0 ≤ lx33.toInt := i40; have t2 : lx33.toInt ≤ lx61.toInt := i64; have t3 : lx61.toInt ≤ 129 := i63; have e9 : (((264 : Int32).toNatClampNeg : Nat) : Int) = 264 := (by decide); omega)) d_19_37_144 (fun H locs w266 hu267 hO70 V => ?_)
              replace hI := n_ai' hI (n_r123 g q).1 hu267 hO70 (q_updB (fun _ => s_bnd) s_bnd)
              replace hO67 := (hu267 _ (by decide)).trans hO67
              replace hO68 := (hu267 _ (by decide)).trans hO68
              replace hO69 := (hu267 _ (by decide)).trans hO69
              replace hO71 := (hu267 _ (by decide)).trans hO71
              replace hF := q_us hF hu267 (by simp)
              obtain ⟨f268, e269⟩ := q_nm (upd lx62 lx61.toNatClampNeg a264 : (Nat → Int32))
              rw [e269] at hO70
              obtain ⟨a270, e271⟩ := q_nm (lx61 + 1 : Int32)
              have b272 : q_F (a270.toInt = lx61.toInt + 1) := (by rw [← e271]; exact q_addI (y := 1) rfl (by decide) (by have t1 : lx33.toInt ≤ lx61.toInt := i64; have _ := q_lo32 (x := lx33); have _ := q_hi32 (x := lx33); have t2 : lx61.toInt ≤ 129 := i63; omega) (by have t1 : lx33.toInt ≤ lx61.toInt := i64; have _ := q_lo32 (x := lx33); have _ := q_hi32 (x := lx33); have t2 : lx61.toInt ≤ 129 := i63; omega))
              refine lv_iinc (v := a270) (lv' := [(5, .int a270), (7, .int a253), (6, .int a247), (0, .ref (q 119)), (1, .int x2), (2, .int x3), (3, .int x4), (4, .int x5)]) hx hb d_19_37_145 hl (k := 2) rfl (e271) (by decide) rfl (fun ls hl => ?_)
              refine lv_goto (tgt := 64) hx hb d_19_37_148 (by decide) ?_
              exact ih65 ((a270 : Int32), (f268 : (Nat → Int32))) _ _ _ _ (show (129 - a270.toInt).toNat < (129 - lx61.toInt).toNat from by have t1 : a270.toInt = lx61.toInt + 1 := b272; have t2 : lx61.toInt ≤ 129 := i63; have t3 : lx61.toInt ≤ 128 := b243; omega) ⟨(show q_F (a270.toInt ≤ 129) from (show a270.toInt ≤ 129 from by have t1 : lx61.toInt ≤ 128 := b243; have t2 : a270.toInt = lx61.toInt + 1 := b272; omega)), (show q_F (lx33.toInt ≤ a270.toInt) from (show lx33.toInt ≤ a270.toInt from by have t1 : lx33.toInt ≤ lx61.toInt := i64; have t2 : a270.toInt = lx61.toInt + 1 := b272; omega)), V, q_lw hl (q_lw1 0 rfl (q_lw1 3 rfl (q_lw1 4 rfl (q_lw1 5 rfl (q_lw1 6 rfl (q_lw1 7 rfl q_lw0)))))), hI, hF, hO67, hO68, hO69, hO70, hO71, ⟨fm76, Nat.lt_of_lt_of_le (show (129 - a270.toInt).toNat < (129 - lx61.toInt).toNat from by have t1 : a270.toInt = lx61.toInt + 1 := b272; have t2 : lx61.toInt ≤ 129 := i63; have t3 : lx61.toInt ≤ 128 := b243; omega) (Nat.le_of_lt_succ hf75), (show F_WR_combine_L64 x2 x3 x4 x5 t0_0 t0_1 t0_2 t0_3 t0_4 t0_5 t0_6 t1_0 t2_0 t3_0 t4_0 lx33 fm76 a270 f268 = (F_WR_combine x2 x3 x4 x5 t0_0 t0_1 t0_2 t0_3 t0_4 t0_5 t0_6 t1_0 t2_0 t3_0 t4_0) from Eq.trans (by rw [← e271, ← e269, ← e265, ← e263, e255, e249, F_WR_combine_L64.eq_2, if_neg c77, if_neg c256, if_neg c258, if_neg c260]) hR72), (show True ∧ S_WR_combine_L64 x2 x3 x4 x5 t0_0 t0_1 t0_2 t0_3 t0_4 t0_5 t0_6 t1_0 t2_0 t3_0 t4_0 lx33 fm76 a270 f268 from (by rw [← e271, ← e269, ← e265, ← e263, e255, e249]; have h := hS73; rw [S_WR_combine_L64.eq_2] at h; rw [if_neg c77] at h; replace h := q_s2 h; replace h := q_s2 h; rw [if_neg c256] at h; rw [if_neg c258] at h; rw [if_neg c260] at h; with_reducible exact h))⟩⟩
            ·
              refine lv_iload hx hb d_19_37_129 (lv_at hl 1 rfl) ?_
              refine lv_iload hx hb d_19_37_131 (lv_at hl 0 rfl) ?_
              refine lv_ixor hx hb d_19_37_133 ?_
              obtain ⟨a274, e275⟩ := q_nm (a247 ^^^ a253 : Int32)
              refine q_ti (v := a274) e275 ?_
              refine lv_goto (tgt := 144) hx hb d_19_37_134 (by decide) ?_
              refine q_iast C0 V hO70 (q_ix (x := lx61.toInt) rfl (by have t1 : 0 ≤ lx33.toInt := i40; have t2 : lx33.toInt ≤ lx61.toInt := i64; omega) (by have t1 : 0 ≤ lx33.toInt := i40; have t2 : lx33.toInt ≤ lx61.toInt := i64; have t3 : lx61.toInt ≤ 129 := i63; have e9 : (((264 : Int32).toNatClampNeg : Nat) : Int) = 264 := (by decide); omega)) d_19_37_144 (fun H locs w276 hu277 hO70 V => ?_)
              replace hI := n_ai' hI (n_r123 g q).1 hu277 hO70 (q_updB (fun _ => s_bnd) s_bnd)
              replace hO67 := (hu277 _ (by decide)).trans hO67
              replace hO68 := (hu277 _ (by decide)).trans hO68
              replace hO69 := (hu277 _ (by decide)).trans hO69
              replace hO71 := (hu277 _ (by decide)).trans hO71
              replace hF := q_us hF hu277 (by simp)
              obtain ⟨f278, e279⟩ := q_nm (upd lx62 lx61.toNatClampNeg a274 : (Nat → Int32))
              rw [e279] at hO70
              obtain ⟨a280, e281⟩ := q_nm (lx61 + 1 : Int32)
              have b282 : q_F (a280.toInt = lx61.toInt + 1) := (by rw [← e281]; exact q_addI (y := 1) rfl (by decide) (by have t1 : lx33.toInt ≤ lx61.toInt := i64; have _ := q_lo32 (x := lx33); have _ := q_hi32 (x := lx33); have t2 : lx61.toInt ≤ 129 := i63; omega) (by have t1 : lx33.toInt ≤ lx61.toInt := i64; have _ := q_lo32 (x := lx33); have _ := q_hi32 (x := lx33); have t2 : lx61.toInt ≤ 129 := i63; omega))
              refine lv_iinc (v := a280) (lv' := [(5, .int a280), (7, .int a253), (6, .int a247), (0, .ref (q 119)), (1, .int x2), (2, .int x3), (3, .int x4), (4, .int x5)]) hx hb d_19_37_145 hl (k := 2) rfl (e281) (by decide) rfl (fun ls hl => ?_)
              refine lv_goto (tgt := 64) hx hb d_19_37_148 (by decide) ?_
              exact ih65 ((a280 : Int32), (f278 : (Nat → Int32))) _ _ _ _ (show (129 - a280.toInt).toNat < (129 - lx61.toInt).toNat from by have t1 : a280.toInt = lx61.toInt + 1 := b282; have t2 : lx61.toInt ≤ 129 := i63; have t3 : lx61.toInt ≤ 128 := b243; omega) ⟨(show q_F (a280.toInt ≤ 129) from (show a280.toInt ≤ 129 from by have t1 : lx61.toInt ≤ 128 := b243; have t2 : a280.toInt = lx61.toInt + 1 := b282; omega)), (show q_F (lx33.toInt ≤ a280.toInt) from (show lx33.toInt ≤ a280.toInt from by have t1 : lx33.toInt ≤ lx61.toInt := i64; have t2 : a280.toInt = lx61.toInt + 1 := b282; omega)), V, q_lw hl (q_lw1 0 rfl (q_lw1 3 rfl (q_lw1 4 rfl (q_lw1 5 rfl (q_lw1 6 rfl (q_lw1 7 rfl q_lw0)))))), hI, hF, hO67, hO68, hO69, hO70, hO71, ⟨fm76, Nat.lt_of_lt_of_le (show (129 - a280.toInt).toNat < (129 - lx61.toInt).toNat from by have t1 : a280.toInt = lx61.toInt + 1 := b282; have t2 : lx61.toInt ≤ 129 := i63; have t3 : lx61.toInt ≤ 128 := b243; omega) (Nat.le_of_lt_succ hf75), (show F_WR_combine_L64 x2 x3 x4 x5 t0_0 t0_1 t0_2 t0_3 t0_4 t0_5 t0_6 t1_0 t2_0 t3_0 t4_0 lx33 fm76 a280 f278 = (F_WR_combine x2 x3 x4 x5 t0_0 t0_1 t0_2 t0_3 t0_4 t0_5 t0_6 t1_0 t2_0 t3_0 t4_0) from Eq.trans (by rw [← e281, ← e279, ← e275, e255, e249, F_WR_combine_L64.eq_2, if_neg c77, if_neg c256, if_neg c258, if_pos c260]) hR72), (show True ∧ S_WR_combine_L64 x2 x3 x4 x5 t0_0 t0_1 t0_2 t0_3 t0_4 t0_5 t0_6 t1_0 t2_0 t3_0 t4_0 lx33 fm76 a280 f278 from (by rw [← e281, ← e279, ← e275, e255, e249]; have h := hS73; rw [S_WR_combine_L64.eq_2] at h; rw [if_neg c77] at h; replace h := q_s2 h; replace h := q_s2 h; rw [if_neg c256] at h; rw [if_neg c258] at h; rw [if_pos c260] at h; with_reducible exact h))⟩⟩
          ·
            refine lv_iload hx hb d_19_37_115 (lv_at hl 1 rfl) ?_
            refine lv_iload hx hb d_19_37_117 (lv_at hl 0 rfl) ?_
            refine lv_ior hx hb d_19_37_119 ?_
            obtain ⟨a284, e285⟩ := q_nm (a247 ||| a253 : Int32)
            refine q_ti (v := a284) e285 ?_
            refine lv_goto (tgt := 144) hx hb d_19_37_120 (by decide) ?_
            refine q_iast C0 V hO70 (q_ix (x := lx61.toInt) rfl (by have t1 : 0 ≤ lx33.toInt := i40; have t2 : lx33.toInt ≤ lx61.toInt := i64; omega) (by have t1 : 0 ≤ lx33.toInt := i40; have t2 : lx33.toInt ≤ lx61.toInt := i64; have t3 : lx61.toInt ≤ 129 := i63; have e9 : (((264 : Int32).toNatClampNeg : Nat) : Int) = 264 := (by decide); omega)) d_19_37_144 (fun H locs w286 hu287 hO70 V => ?_)
            replace hI := n_ai' hI (n_r123 g q).1 hu287 hO70 (q_updB (fun _ => s_bnd) s_bnd)
            replace hO67 := (hu287 _ (by decide)).trans hO67
            replace hO68 := (hu287 _ (by decide)).trans hO68
            replace hO69 := (hu287 _ (by decide)).trans hO69
            replace hO71 := (hu287 _ (by decide)).trans hO71
            replace hF := q_us hF hu287 (by simp)
            obtain ⟨f288, e289⟩ := q_nm (upd lx62 lx61.toNatClampNeg a284 : (Nat → Int32))
            rw [e289] at hO70
            obtain ⟨a290, e291⟩ := q_nm (lx61 + 1 : Int32)
            have b292 : q_F (a290.toInt = lx61.toInt + 1) := (by rw [← e291]; exact q_addI (y := 1) rfl (by decide) (by have t1 : lx33.toInt ≤ lx61.toInt := i64; have _ := q_lo32 (x := lx33); have _ := q_hi32 (x := lx33); have t2 : lx61.toInt ≤ 129 := i63; omega) (by have t1 : lx33.toInt ≤ lx61.toInt := i64; have _ := q_lo32 (x := lx33); have _ := q_hi32 (x := lx33); have t2 : lx61.toInt ≤ 129 := i63; omega))
            refine lv_iinc (v := a290) (lv' := [(5, .int a290), (7, .int a253), (6, .int a247), (0, .ref (q 119)), (1, .int x2), (2, .int x3), (3, .int x4), (4, .int x5)]) hx hb d_19_37_145 hl (k := 2) rfl (e291) (by decide) rfl (fun ls hl => ?_)
            refine lv_goto (tgt := 64) hx hb d_19_37_148 (by decide) ?_
            exact ih65 ((a290 : Int32), (f288 : (Nat → Int32))) _ _ _ _ (show (129 - a290.toInt).toNat < (129 - lx61.toInt).toNat from by have t1 : a290.toInt = lx61.toInt + 1 := b292; have t2 : lx61.toInt ≤ 129 := i63; have t3 : lx61.toInt ≤ 128 := b243; omega) ⟨(show q_F (a290.toInt ≤ 129) from (show a290.toInt ≤ 129 from by have t1 : lx61.toInt ≤ 128 := b243; have t2 : a290.toInt = lx61.toInt + 1 := b292; omega)), (show q_F (lx33.toInt ≤ a290.toInt) from (show lx33.toInt ≤ a290.toInt from by have t1 : lx33.toInt ≤ lx61.toInt := i64; have t2 : a290.toInt = lx61.toInt + 1 := b292; omega)), V, q_lw hl (q_lw1 0 rfl (q_lw1 3 rfl (q_lw1 4 rfl (q_lw1 5 rfl (q_lw1 6 rfl (q_lw1 7 rfl q_lw0)))))), hI, hF, hO67, hO68, hO69, hO70, hO71, ⟨fm76, Nat.lt_of_lt_of_le (show (129 - a290.toInt).toNat < (129 - lx61.toInt).toNat from by have t1 : a290.toInt = lx61.toInt + 1 := b292; have t2 : lx61.toInt ≤ 129 := i63; have t3 : lx61.toInt ≤ 128 := b243; omega) (Nat.le_of_lt_succ hf75), (show F_WR_combine_L64 x2 x3 x4 x5 t0_0 t0_1 t0_2 t0_3 t0_4 t0_5 t0_6 t1_0 t2_0 t3_0 t4_0 lx33 fm76 a290 f288 = (F_WR_combine x2 x3 x4 x5 t0_0 t0_1 t0_2 t0_3 t0_4 t0_5 t0_6 t1_0 t2_0 t3_0 t4_0) from Eq.trans (by rw [← e291, ← e289, ← e285, e255, e249, F_WR_combine_L64.eq_2, if_neg c77, if_neg c256, if_pos c258]) hR72), (show True ∧ S_WR_combine_L64 x2 x3 x4 x5 t0_0 t0_1 t0_2 t0_3 t0_4 t0_5 t0_6 t1_0 t2_0 t3_0 t4_0 lx33 fm76 a290 f288 from (by rw [← e291, ← e289, ← e285, e255, e249]; have h := hS73; rw [S_WR_combine_L64.eq_2] at h; rw [if_neg c77] at h; replace h := q_s2 h; replace h := q_s2 h; rw [if_neg c256] at h; rw [if_pos c258] at h; with_reducible exact h))⟩⟩
        ·
          refine lv_iload hx hb d_19_37_101 (lv_at hl 1 rfl) ?_
          refine lv_iload hx hb d_19_37_103 (lv_at hl 0 rfl) ?_
          refine lv_iand hx hb d_19_37_105 ?_
          obtain ⟨a294, e295⟩ := q_nm (a247 &&& a253 : Int32)
          refine q_ti (v := a294) e295 ?_
          refine lv_goto (tgt := 144) hx hb d_19_37_106 (by decide) ?_
          refine q_iast C0 V hO70 (q_ix (x := lx61.toInt) rfl (by have t1 : 0 ≤ lx33.toInt := i40; have t2 : lx33.toInt ≤ lx61.toInt := i64; omega) (by have t1 : 0 ≤ lx33.toInt := i40; have t2 : lx33.toInt ≤ lx61.toInt := i64; have t3 : lx61.toInt ≤ 129 := i63; have e9 : (((264 : Int32).toNatClampNeg : Nat) : Int) = 264 := (by decide); omega)) d_19_37_144 (fun H locs w296 hu297 hO70 V => ?_)
          replace hI := n_ai' hI (n_r123 g q).1 hu297 hO70 (q_updB (fun _ => s_bnd) s_bnd)
          replace hO67 := (hu297 _ (by decide)).trans hO67
          replace hO68 := (hu297 _ (by decide)).trans hO68
          replace hO69 := (hu297 _ (by decide)).trans hO69
          replace hO71 := (hu297 _ (by decide)).trans hO71
          replace hF := q_us hF hu297 (by simp)
          obtain ⟨f298, e299⟩ := q_nm (upd lx62 lx61.toNatClampNeg a294 : (Nat → Int32))
          rw [e299] at hO70
          obtain ⟨a300, e301⟩ := q_nm (lx61 + 1 : Int32)
          have b302 : q_F (a300.toInt = lx61.toInt + 1) := (by rw [← e301]; exact q_addI (y := 1) rfl (by decide) (by have t1 : lx33.toInt ≤ lx61.toInt := i64; have _ := q_lo32 (x := lx33); have _ := q_hi32 (x := lx33); have t2 : lx61.toInt ≤ 129 := i63; omega) (by have t1 : lx33.toInt ≤ lx61.toInt := i64; have _ := q_lo32 (x := lx33); have _ := q_hi32 (x := lx33); have t2 : lx61.toInt ≤ 129 := i63; omega))
          refine lv_iinc (v := a300) (lv' := [(5, .int a300), (7, .int a253), (6, .int a247), (0, .ref (q 119)), (1, .int x2), (2, .int x3), (3, .int x4), (4, .int x5)]) hx hb d_19_37_145 hl (k := 2) rfl (e301) (by decide) rfl (fun ls hl => ?_)
          refine lv_goto (tgt := 64) hx hb d_19_37_148 (by decide) ?_
          exact ih65 ((a300 : Int32), (f298 : (Nat → Int32))) _ _ _ _ (show (129 - a300.toInt).toNat < (129 - lx61.toInt).toNat from by have t1 : a300.toInt = lx61.toInt + 1 := b302; have t2 : lx61.toInt ≤ 129 := i63; have t3 : lx61.toInt ≤ 128 := b243; omega) ⟨(show q_F (a300.toInt ≤ 129) from (show a300.toInt ≤ 129 from by have t1 : lx61.toInt ≤ 128 := b243; have t2 : a300.toInt = lx61.toInt + 1 := b302; omega)), (show q_F (lx33.toInt ≤ a300.toInt) from (show lx33.toInt ≤ a300.toInt from by have t1 : lx33.toInt ≤ lx61.toInt := i64; have t2 : a300.toInt = lx61.toInt + 1 := b302; omega)), V, q_lw hl (q_lw1 0 rfl (q_lw1 3 rfl (q_lw1 4 rfl (q_lw1 5 rfl (q_lw1 6 rfl (q_lw1 7 rfl q_lw0)))))), hI, hF, hO67, hO68, hO69, hO70, hO71, ⟨fm76, Nat.lt_of_lt_of_le (show (129 - a300.toInt).toNat < (129 - lx61.toInt).toNat from by have t1 : a300.toInt = lx61.toInt + 1 := b302; have t2 : lx61.toInt ≤ 129 := i63; have t3 : lx61.toInt ≤ 128 := b243; omega) (Nat.le_of_lt_succ hf75), (show F_WR_combine_L64 x2 x3 x4 x5 t0_0 t0_1 t0_2 t0_3 t0_4 t0_5 t0_6 t1_0 t2_0 t3_0 t4_0 lx33 fm76 a300 f298 = (F_WR_combine x2 x3 x4 x5 t0_0 t0_1 t0_2 t0_3 t0_4 t0_5 t0_6 t1_0 t2_0 t3_0 t4_0) from Eq.trans (by rw [← e301, ← e299, ← e295, e255, e249, F_WR_combine_L64.eq_2, if_neg c77, if_pos c256]) hR72), (show True ∧ S_WR_combine_L64 x2 x3 x4 x5 t0_0 t0_1 t0_2 t0_3 t0_4 t0_5 t0_6 t1_0 t2_0 t3_0 t4_0 lx33 fm76 a300 f298 from (by rw [← e301, ← e299, ← e295, e255, e249]; have h := hS73; rw [S_WR_combine_L64.eq_2] at h; rw [if_neg c77] at h; replace h := q_s2 h; replace h := q_s2 h; rw [if_pos c256] at h; with_reducible exact h))⟩⟩
    ·
      exact q_retv C0 V (⟨hI, hF, lx33, t0_1, t0_2, t0_3, t0_4, t0_5, t0_6, t1_0, t2_0, t3_0, t4_0, hT0, hT1, hT2, hT3, hT4, (show 0 ≤ t0_3.toInt from (by first | with_reducible exact (q_fe btt0_3).2 | with_reducible exact (q_fe btt0_3).1 | (have t1 : 0 ≤ t0_3.toInt ∧ t0_3.toInt ≤ 1 := btt0_3; omega))), (show t0_3.toInt ≤ 1 from (by first | with_reducible exact (q_fe btt0_3).2 | with_reducible exact (q_fe btt0_3).1 | (have t1 : 0 ≤ t0_3.toInt ∧ t0_3.toInt ≤ 1 := btt0_3; omega))), (show t0_2.toInt ≤ t0_2.toInt from (by omega)), (show t0_2.toInt ≤ t0_2.toInt from (by omega)), (show t0_4.toInt ≤ t0_4.toInt from (by omega)), (show t0_4.toInt ≤ t0_4.toInt from (by omega)), (show t0_5.toInt ≤ t0_5.toInt from (by omega)), (show t0_5.toInt ≤ t0_5.toInt from (by omega)), (show t0_6.toInt ≤ t0_6.toInt from (by omega)), (show t0_6.toInt ≤ t0_6.toInt from (by omega)), (show (lx33, t0_1, t0_2, t0_3, t0_4, t0_5, t0_6, t1_0, t2_0, t3_0, t4_0) = (F_WR_combine x2 x3 x4 x5 t0_0 t0_1 t0_2 t0_3 t0_4 t0_5 t0_6 t1_0 t2_0 t3_0 t4_0) from Eq.trans (by rw [F_WR_combine_J38.eq_1, if_neg c49]) hR42)⟩) d_19_37_48
  ·
    intro J39
    refine q_join (X := Unit) (fun z H locs ls _ => q_Wd D g (va_A ws sz) s ws H locs ∧ lv_has ls 8 [(0, .ref (q 119)), (1, .int x2), (2, .int x3), (3, .int x4), (4, .int x5)] ∧ F_WR_combine_J33 x2 x3 x4 x5 t0_0 t0_1 t0_2 t0_3 t0_4 t0_5 t0_6 t1_0 t2_0 t3_0 t4_0 = (F_WR_combine x2 x3 x4 x5 t0_0 t0_1 t0_2 t0_3 t0_4 t0_5 t0_6 t1_0 t2_0 t3_0 t4_0) ∧ True ∧ S_WR_combine_J33 x2 x3 x4 x5 t0_0 t0_1 t0_2 t0_3 t0_4 t0_5 t0_6 t1_0 t2_0 t3_0 t4_0) (fun z => [.ref (q 119)]) 33 0 0 ?_ ?_
    ·
      rintro _ H locs ls _ ⟨V, hl, hR310, hS311⟩
      replace hl : lv_has ls 8 [(0, .ref (q 119)), (1, .int x2), (2, .int x3), (3, .int x4), (4, .int x5)] := hl
      refine lv_iconst (v := 1) hx hb d_19_37_33 (by decide) ?_
      refine lv_goto (tgt := 38) hx hb d_19_37_34 (by decide) ?_
      exact J39 ((1 : Int32)) _ _ _ ws ⟨(show q_F (0 ≤ 1) from (show 0 ≤ 1 from by omega)), (show q_F (1 ≤ 1) from (show 1 ≤ 1 from by omega)), V, q_lw hl (q_lw1 0 rfl (q_lw1 1 rfl (q_lw1 2 rfl (q_lw1 3 rfl (q_lw1 4 rfl q_lw0))))), (show F_WR_combine_J38 x2 x3 x4 x5 t0_0 t0_1 t0_2 t0_3 t0_4 t0_5 t0_6 t1_0 t2_0 t3_0 t4_0 1 = (F_WR_combine x2 x3 x4 x5 t0_0 t0_1 t0_2 t0_3 t0_4 t0_5 t0_6 t1_0 t2_0 t3_0 t4_0) from Eq.trans (by rw [F_WR_combine_J33.eq_1]) hR310), (show True ∧ S_WR_combine_J38 x2 x3 x4 x5 t0_0 t0_1 t0_2 t0_3 t0_4 t0_5 t0_6 t1_0 t2_0 t3_0 t4_0 1 from (by have h := hS311; rw [S_WR_combine_J33.eq_1] at h; with_reducible exact h))⟩
    ·
      intro J309
      refine lv_if_ne (tgt := 33) hx hb d_19_37_5 (by decide) (fun c315 => ?_) (fun c315 => ?_)
      ·
        exact J309 (()) _ _ _ ws ⟨V, q_lw hl (q_lw1 0 rfl (q_lw1 1 rfl (q_lw1 2 rfl (q_lw1 3 rfl (q_lw1 4 rfl q_lw0))))), (show F_WR_combine_J33 x2 x3 x4 x5 t0_0 t0_1 t0_2 t0_3 t0_4 t0_5 t0_6 t1_0 t2_0 t3_0 t4_0 = (F_WR_combine x2 x3 x4 x5 t0_0 t0_1 t0_2 t0_3 t0_4 t0_5 t0_6 t1_0 t2_0 t3_0 t4_0) from (by have c315x := c315; rw [e32] at c315x; rw [F_WR_combine.eq_1, if_neg c315x])), (show True ∧ S_WR_combine_J33 x2 x3 x4 x5 t0_0 t0_1 t0_2 t0_3 t0_4 t0_5 t0_6 t1_0 t2_0 t3_0 t4_0 from (by have h := hS; rw [S_WR_combine.eq_1] at h; have c315x := c315; rw [e32] at c315x; rw [if_neg c315x] at h; with_reducible exact h))⟩
      ·
        refine lv_iload_n hx hb d_19_37_8 rfl (lv_at hl 2 rfl) ?_
        refine q_goi V (q_runS (As := [.int x3]) (rest := [.ref (q 119)]) (d := 1) (mc := 0) (ms := 0) C0 V rfl LS_WR_91 (X_WR_no l D g q ws  x3 hI   _) rfl hl.1 rfl (Nat.le_of_ble_eq_true rfl) ⟨by decide, by decide⟩ ⟨Nat.le_of_ble_eq_true rfl, Nat.le_of_ble_eq_true rfl⟩ d_19_37_9) (fun a320 u318 H locs hp319 V => ?_)
        obtain ⟨rfl, b321, b322, hE323⟩ := hp319
        have e324 : a320 = (F_WR_no x3) := hE323
        clear b321
        clear b322
        refine lv_if_ne (tgt := 33) hx hb d_19_37_12 (by decide) (fun c325 => ?_) (fun c325 => ?_)
        ·
          exact J309 (()) _ _ _ ws ⟨V, q_lw hl (q_lw1 0 rfl (q_lw1 1 rfl (q_lw1 2 rfl (q_lw1 3 rfl (q_lw1 4 rfl q_lw0))))), (show F_WR_combine_J33 x2 x3 x4 x5 t0_0 t0_1 t0_2 t0_3 t0_4 t0_5 t0_6 t1_0 t2_0 t3_0 t4_0 = (F_WR_combine x2 x3 x4 x5 t0_0 t0_1 t0_2 t0_3 t0_4 t0_5 t0_6 t1_0 t2_0 t3_0 t4_0) from (by have c315x := c315; rw [e32] at c315x; have c325x := c325; rw [e324] at c325x; rw [F_WR_combine.eq_1, if_pos c315x, if_neg c325x])), (show True ∧ S_WR_combine_J33 x2 x3 x4 x5 t0_0 t0_1 t0_2 t0_3 t0_4 t0_5 t0_6 t1_0 t2_0 t3_0 t4_0 from (by have h := hS; rw [S_WR_combine.eq_1] at h; have c315x := c315; rw [e32] at c315x; rw [if_pos c315x] at h; have c325x := c325; rw [e324] at c325x; rw [if_neg c325x] at h; with_reducible exact h))⟩
        ·
          refine lv_iload_n hx hb d_19_37_15 rfl (lv_at hl 3 rfl) ?_
          refine q_goi V (q_runS (As := [.int x4]) (rest := [.ref (q 119)]) (d := 1) (mc := 0) (ms := 0) C0 V rfl LS_WR_91 (X_WR_no l D g q ws  x4 hI   _) rfl hl.1 rfl (Nat.le_of_ble_eq_true rfl) ⟨by decide, by decide⟩ ⟨Nat.le_of_ble_eq_true rfl, Nat.le_of_ble_eq_true rfl⟩ d_19_37_16) (fun a330 u328 H locs hp329 V => ?_)
          obtain ⟨rfl, b331, b332, hE333⟩ := hp329
          have e334 : a330 = (F_WR_no x4) := hE333
          clear b331
          clear b332
          refine lv_if_ne (tgt := 33) hx hb d_19_37_19 (by decide) (fun c335 => ?_) (fun c335 => ?_)
          ·
            exact J309 (()) _ _ _ ws ⟨V, q_lw hl (q_lw1 0 rfl (q_lw1 1 rfl (q_lw1 2 rfl (q_lw1 3 rfl (q_lw1 4 rfl q_lw0))))), (show F_WR_combine_J33 x2 x3 x4 x5 t0_0 t0_1 t0_2 t0_3 t0_4 t0_5 t0_6 t1_0 t2_0 t3_0 t4_0 = (F_WR_combine x2 x3 x4 x5 t0_0 t0_1 t0_2 t0_3 t0_4 t0_5 t0_6 t1_0 t2_0 t3_0 t4_0) from (by have c315x := c315; rw [e32] at c315x; have c325x := c325; rw [e324] at c325x; have c335x := c335; rw [e334] at c335x; rw [F_WR_combine.eq_1, if_pos c315x, if_pos c325x, if_neg c335x])), (show True ∧ S_WR_combine_J33 x2 x3 x4 x5 t0_0 t0_1 t0_2 t0_3 t0_4 t0_5 t0_6 t1_0 t2_0 t3_0 t4_0 from (by have h := hS; rw [S_WR_combine.eq_1] at h; have c315x := c315; rw [e32] at c315x; rw [if_pos c315x] at h; have c325x := c325; rw [e324] at c325x; rw [if_pos c325x] at h; have c335x := c335; rw [e334] at c335x; rw [if_neg c335x] at h; with_reducible exact h))⟩
          ·
            refine lv_iload hx hb d_19_37_22 (lv_at hl 4 rfl) ?_
            refine lv_if_lt (tgt := 33) hx hb d_19_37_24 (by decide) (fun c338 => ?_) (fun c338 => ?_)
            ·
              exact J309 (()) _ _ _ ws ⟨V, q_lw hl (q_lw1 0 rfl (q_lw1 1 rfl (q_lw1 2 rfl (q_lw1 3 rfl (q_lw1 4 rfl q_lw0))))), (show F_WR_combine_J33 x2 x3 x4 x5 t0_0 t0_1 t0_2 t0_3 t0_4 t0_5 t0_6 t1_0 t2_0 t3_0 t4_0 = (F_WR_combine x2 x3 x4 x5 t0_0 t0_1 t0_2 t0_3 t0_4 t0_5 t0_6 t1_0 t2_0 t3_0 t4_0) from (by have c315x := c315; rw [e32] at c315x; have c325x := c325; rw [e324] at c325x; have c335x := c335; rw [e334] at c335x; rw [F_WR_combine.eq_1, if_pos c315x, if_pos c325x, if_pos c335x, if_pos c338])), (show True ∧ S_WR_combine_J33 x2 x3 x4 x5 t0_0 t0_1 t0_2 t0_3 t0_4 t0_5 t0_6 t1_0 t2_0 t3_0 t4_0 from (by have h := hS; rw [S_WR_combine.eq_1] at h; have c315x := c315; rw [e32] at c315x; rw [if_pos c315x] at h; have c325x := c325; rw [e324] at c325x; rw [if_pos c325x] at h; have c335x := c335; rw [e334] at c335x; rw [if_pos c335x] at h; rw [if_pos c338] at h; with_reducible exact h))⟩
            ·
              refine lv_iload hx hb d_19_37_27 (lv_at hl 4 rfl) ?_
              refine lv_iconst (v := 3) hx hb d_19_37_29 (by decide) ?_
              refine lv_icmp_le (tgt := 37) hx hb d_19_37_30 (by decide) (fun c341 => ?_) (fun c341 => ?_)
              ·
                refine lv_iconst (v := 0) hx hb d_19_37_37 (by decide) ?_
                exact J39 ((0 : Int32)) _ _ _ ws ⟨(show q_F (0 ≤ 0) from (show 0 ≤ 0 from by omega)), (show q_F (0 ≤ 1) from (show 0 ≤ 1 from by omega)), V, q_lw hl (q_lw1 0 rfl (q_lw1 1 rfl (q_lw1 2 rfl (q_lw1 3 rfl (q_lw1 4 rfl q_lw0))))), (show F_WR_combine_J38 x2 x3 x4 x5 t0_0 t0_1 t0_2 t0_3 t0_4 t0_5 t0_6 t1_0 t2_0 t3_0 t4_0 0 = (F_WR_combine x2 x3 x4 x5 t0_0 t0_1 t0_2 t0_3 t0_4 t0_5 t0_6 t1_0 t2_0 t3_0 t4_0) from (by have c315x := c315; rw [e32] at c315x; have c325x := c325; rw [e324] at c325x; have c335x := c335; rw [e334] at c335x; rw [F_WR_combine.eq_1, if_pos c315x, if_pos c325x, if_pos c335x, if_neg c338, if_pos c341])), (show True ∧ S_WR_combine_J38 x2 x3 x4 x5 t0_0 t0_1 t0_2 t0_3 t0_4 t0_5 t0_6 t1_0 t2_0 t3_0 t4_0 0 from (by have h := hS; rw [S_WR_combine.eq_1] at h; have c315x := c315; rw [e32] at c315x; rw [if_pos c315x] at h; have c325x := c325; rw [e324] at c325x; rw [if_pos c325x] at h; have c335x := c335; rw [e334] at c335x; rw [if_pos c335x] at h; rw [if_neg c338] at h; rw [if_pos c341] at h; with_reducible exact h))⟩
              ·
                exact J309 (()) _ _ _ ws ⟨V, q_lw hl (q_lw1 0 rfl (q_lw1 1 rfl (q_lw1 2 rfl (q_lw1 3 rfl (q_lw1 4 rfl q_lw0))))), (show F_WR_combine_J33 x2 x3 x4 x5 t0_0 t0_1 t0_2 t0_3 t0_4 t0_5 t0_6 t1_0 t2_0 t3_0 t4_0 = (F_WR_combine x2 x3 x4 x5 t0_0 t0_1 t0_2 t0_3 t0_4 t0_5 t0_6 t1_0 t2_0 t3_0 t4_0) from (by have c315x := c315; rw [e32] at c315x; have c325x := c325; rw [e324] at c325x; have c335x := c335; rw [e334] at c335x; rw [F_WR_combine.eq_1, if_pos c315x, if_pos c325x, if_pos c335x, if_neg c338, if_neg c341])), (show True ∧ S_WR_combine_J33 x2 x3 x4 x5 t0_0 t0_1 t0_2 t0_3 t0_4 t0_5 t0_6 t1_0 t2_0 t3_0 t4_0 from (by have h := hS; rw [S_WR_combine.eq_1] at h; have c315x := c315; rw [e32] at c315x; rw [if_pos c315x] at h; have c325x := c325; rw [e324] at c325x; rw [if_pos c325x] at h; have c335x := c335; rw [e334] at c335x; rw [if_pos c335x] at h; rw [if_neg c338] at h; rw [if_neg c341] at h; with_reducible exact h))⟩

