theorem d_14_38_0 : decode prog_14_method_38_code 0 = .ok (.aload_n 0, 1) := by decide +kernel
theorem d_14_38_1 : decode prog_14_method_38_code 1 = .ok (.aload_n 0, 1) := by decide +kernel
theorem d_14_38_2 : decode prog_14_method_38_code 2 = .ok (.getfield 62, 3) := by decide +kernel
theorem d_14_38_5 : decode prog_14_method_38_code 5 = .ok (.sipush 256, 3) := by decide +kernel
theorem d_14_38_16 : decode prog_14_method_38_code 16 = .ok (.putfield 58, 3) := by decide +kernel
theorem d_14_38_19 : decode prog_14_method_38_code 19 = .ok (.aload_n 0, 1) := by decide +kernel
theorem d_14_38_20 : decode prog_14_method_38_code 20 = .ok (.getfield 58, 3) := by decide +kernel
theorem d_14_38_23 : decode prog_14_method_38_code 23 = .ok (.ifCond .le 5, 3) := by decide +kernel
theorem d_14_38_28 : decode prog_14_method_38_code 28 = .ok (.aload_n 0, 1) := by decide +kernel
theorem d_14_38_29 : decode prog_14_method_38_code 29 = .ok (.getfield 47, 3) := by decide +kernel
theorem d_14_38_32 : decode prog_14_method_38_code 32 = .ok (.aload_n 0, 1) := by decide +kernel
theorem d_14_38_33 : decode prog_14_method_38_code 33 = .ok (.getfield 7, 3) := by decide +kernel
theorem d_14_38_36 : decode prog_14_method_38_code 36 = .ok (.aload_n 0, 1) := by decide +kernel
theorem d_14_38_37 : decode prog_14_method_38_code 37 = .ok (.getfield 62, 3) := by decide +kernel
theorem d_14_38_40 : decode prog_14_method_38_code 40 = .ok (.aload_n 0, 1) := by decide +kernel
theorem d_14_38_41 : decode prog_14_method_38_code 41 = .ok (.getfield 47, 3) := by decide +kernel
theorem d_14_38_44 : decode prog_14_method_38_code 44 = .ok (.getfield 325, 3) := by decide +kernel
theorem d_14_38_47 : decode prog_14_method_38_code 47 = .ok (.invokestatic 90, 3) := by decide +kernel
theorem d_14_38_50 : decode prog_14_method_38_code 50 = .ok (.putfield 328, 3) := by decide +kernel
theorem d_14_38_53 : decode prog_14_method_38_code 53 = .ok (.aload_n 0, 1) := by decide +kernel
theorem d_14_38_54 : decode prog_14_method_38_code 54 = .ok (.getfield 47, 3) := by decide +kernel
theorem d_14_38_57 : decode prog_14_method_38_code 57 = .ok (.invokevirtual 334, 3) := by decide +kernel
set_option maxRecDepth 100000 in
theorem w_3115 : (Cond.code ({ cls := "NumberHouseModel$DirectiveRows", name := "print", desc := "()I" } : MethodName) prog_16_method_41_code (2 : Nat) (some .int)) ∈ q_tbl := q_of13 235 rfl (by decide +kernel)
set_option maxRecDepth 100000 in
theorem w_3112 : (Cond.methodLink "NumberHouseModel" (334 : Nat) ({ cls := "NumberHouseModel$DirectiveRows", name := "print", desc := "()I" } : MethodName)) ∈ q_tbl := q_of13 232 rfl (by decide +kernel)
set_option maxRecDepth 100000 in
theorem w_3113 : (Cond.instanceMethod ({ cls := "NumberHouseModel$DirectiveRows", name := "print", desc := "()I" } : MethodName)) ∈ q_tbl := q_of13 233 rfl (by decide +kernel)
set_option maxRecDepth 100000 in
theorem w_3114 : (Cond.selects "NumberHouseModel$DirectiveRows" ({ cls := "NumberHouseModel$DirectiveRows", name := "print", desc := "()I" } : MethodName) ({ cls := "NumberHouseModel$DirectiveRows", name := "print", desc := "()I" } : MethodName)) ∈ q_tbl := q_of13 234 rfl (by decide +kernel)
theorem LV_NM_334 : q_LV "NumberHouseModel" 334 y_VR_print prog_16_method_41_code 2 (some .int) 0 := ⟨w_3115, w_19, w_3112, w_3113, w_3114, ⟨by decide, by decide, by decide +kernel⟩⟩
theorem d_14_38_60 : decode prog_14_method_38_code 60 = .ok (.istore_n 1, 1) := by decide +kernel
theorem d_14_38_61 : decode prog_14_method_38_code 61 = .ok (.aload_n 0, 1) := by decide +kernel
theorem d_14_38_62 : decode prog_14_method_38_code 62 = .ok (.getfield 47, 3) := by decide +kernel
theorem d_14_38_65 : decode prog_14_method_38_code 65 = .ok (.iconst 0, 1) := by decide +kernel
theorem d_14_38_66 : decode prog_14_method_38_code 66 = .ok (.putfield 328, 3) := by decide +kernel
theorem d_14_38_69 : decode prog_14_method_38_code 69 = .ok (.iload_n 1, 1) := by decide +kernel
theorem d_14_38_70 : decode prog_14_method_38_code 70 = .ok (.ifCond .ge 28, 3) := by decide +kernel
theorem d_14_38_98 : decode prog_14_method_38_code 98 = .ok (.aload_n 0, 1) := by decide +kernel
theorem d_14_38_99 : decode prog_14_method_38_code 99 = .ok (.iconst 0, 1) := by decide +kernel
theorem d_14_38_100 : decode prog_14_method_38_code 100 = .ok (.putfield 62, 3) := by decide +kernel
theorem d_14_38_103 : decode prog_14_method_38_code 103 = .ok (.aload_n 0, 1) := by decide +kernel
theorem d_14_38_104 : decode prog_14_method_38_code 104 = .ok (.aload_n 0, 1) := by decide +kernel
theorem d_14_38_105 : decode prog_14_method_38_code 105 = .ok (.getfield 47, 3) := by decide +kernel
theorem d_14_38_108 : decode prog_14_method_38_code 108 = .ok (.getfield 342, 3) := by decide +kernel
set_option maxRecDepth 100000 in
theorem wo_2210 : (Cond.fieldLinkNest "NumberHouseModel" (342 : Nat) "NumberHouseModel$DirectiveRows" "paper" "[I" "NumberHouseModel") ∈ q_odd := q_oo10 50 rfl (by decide +kernel)
theorem d_14_38_111 : decode prog_14_method_38_code 111 = .ok (.iload_n 1, 1) := by decide +kernel
theorem d_14_38_112 : decode prog_14_method_38_code 112 = .ok (.invokevirtual 269, 3) := by decide +kernel
theorem d_14_38_115 : decode prog_14_method_38_code 115 = .ok (.ireturn, 1) := by decide +kernel
theorem d_14_38_73 : decode prog_14_method_38_code 73 = .ok (.aload_n 0, 1) := by decide +kernel
theorem d_14_38_74 : decode prog_14_method_38_code 74 = .ok (.iconst 0, 1) := by decide +kernel
theorem d_14_38_75 : decode prog_14_method_38_code 75 = .ok (.putfield 67, 3) := by decide +kernel
theorem d_14_38_78 : decode prog_14_method_38_code 78 = .ok (.sipush (-1000), 3) := by decide +kernel
theorem d_14_38_81 : decode prog_14_method_38_code 81 = .ok (.aload_n 0, 1) := by decide +kernel
theorem d_14_38_82 : decode prog_14_method_38_code 82 = .ok (.getfield 47, 3) := by decide +kernel
theorem d_14_38_85 : decode prog_14_method_38_code 85 = .ok (.getfield 336, 3) := by decide +kernel
set_option maxRecDepth 100000 in
theorem wo_2214 : (Cond.fieldLinkNest "NumberHouseModel" (336 : Nat) "NumberHouseModel$DirectiveRows" "fault" "I" "NumberHouseModel") ∈ q_odd := q_oo10 54 rfl (by decide +kernel)
theorem d_14_38_88 : decode prog_14_method_38_code 88 = .ok (.imul, 1) := by decide +kernel
theorem d_14_38_89 : decode prog_14_method_38_code 89 = .ok (.aload_n 0, 1) := by decide +kernel
theorem d_14_38_90 : decode prog_14_method_38_code 90 = .ok (.getfield 47, 3) := by decide +kernel
theorem d_14_38_93 : decode prog_14_method_38_code 93 = .ok (.getfield 339, 3) := by decide +kernel
set_option maxRecDepth 100000 in
theorem wo_2217 : (Cond.fieldLinkNest "NumberHouseModel" (339 : Nat) "NumberHouseModel$DirectiveRows" "place" "I" "NumberHouseModel") ∈ q_odd := q_oo10 57 rfl (by decide +kernel)
theorem d_14_38_96 : decode prog_14_method_38_code 96 = .ok (.isub, 1) := by decide +kernel
theorem d_14_38_97 : decode prog_14_method_38_code 97 = .ok (.ireturn, 1) := by decide +kernel
theorem d_14_38_26 : decode prog_14_method_38_code 26 = .ok (.iconst 0, 1) := by decide +kernel
theorem d_14_38_27 : decode prog_14_method_38_code 27 = .ok (.ireturn, 1) := by decide +kernel
theorem d_14_38_8 : decode prog_14_method_38_code 8 = .ok (.if_icmp .le 7, 3) := by decide +kernel
theorem d_14_38_15 : decode prog_14_method_38_code 15 = .ok (.iconst 0, 1) := by decide +kernel
theorem d_14_38_11 : decode prog_14_method_38_code 11 = .ok (.iconst 1, 1) := by decide +kernel
theorem d_14_38_12 : decode prog_14_method_38_code 12 = .ok (.goto 4, 3) := by decide +kernel
def y_NM_format : MethodName := ⟨"NumberHouseModel", "format", "()I"⟩
def F_NM_format_c112 (t0_0 : Int32) (t0_1 : Int32) (t0_2 : Int32) (t1_0 : Int32) (t1_1 : Int32) (t1_2 : Int32) (t1_3 : Int32) (t1_4 : Int32) (t1_5 : Int32) (t1_6 : Int32) (t1_7 : Int32) (t1_8 : Int32) (t1_9 : Int32) (t1_10 : Int32) (t1_11 : Int32) (t1_12 : Int32) (t1_13 : Int32) (t1_14 : Int32) (t1_15 : Int32) (t1_16 : Int32) (t1_17 : Int32) (t1_18 : Int32) (t1_19 : Int32) (t1_20 : Int32) (t1_21 : Int32) (t2_0 : (Nat → Int32)) (t3_0 : (Nat → Int32)) (t4_0 : (Nat → Int32)) (t5_0 : (Nat → Int64)) (t6_0 : (Nat → Int32)) (t7_0 : (Nat → Int32)) (t8_0 : (Nat → Int32)) (t9_0 : (Nat → Int32)) (t10_0 : (Nat → Int32)) (t11_0 : (Nat → Int32)) (t12_0 : (Nat → Int32)) (lx67 : Int32) (p107 : (Int32 × (Nat → Int32))) (a98 : Int32) (f99 : (Nat → Int32)) (p168 : (Int32 × Int32 × Int32 × Int32 × Int32 × Int32 × Int32 × Int32 × Int32 × Int32 × Int32 × Int32 × Int32 × Int32 × Int32 × Int32 × Int32 × Int32 × Int32 × Int32 × Int32 × (Nat → Int32) × (Nat → Int32) × (Nat → Int32) × (Nat → Int32))) (a121 : Int32) (y123 : Int32) (y124 : Int32) (y125 : Int32) (y126 : Int32) (y127 : Int32) (y128 : Int32) (y129 : Int32) (y130 : Int32) (y131 : Int32) (y132 : Int32) (y133 : Int32) (y134 : Int32) (y135 : Int32) (y136 : Int32) (y137 : Int32) (y138 : Int32) (y139 : Int32) (y140 : Int32) (y141 : Int32) (y142 : Int32) (f143 : (Nat → Int32)) (f145 : (Nat → Int32)) (f147 : (Nat → Int32)) (f149 : (Nat → Int32)) (p223 : (Int32 × Int32 × (Nat → Int32))) : Int32 × Int32 × Int32 × Int32 × Int32 × Int32 × Int32 × Int32 × Int32 × Int32 × Int32 × Int32 × Int32 × Int32 × Int32 × Int32 × Int32 × Int32 × Int32 × Int32 × Int32 × Int32 × Int32 × Int32 × Int32 × (Nat → Int32) × (Nat → Int32) × (Nat → Int32) × (Nat → Int32) × (Nat → Int32) × (Nat → Int32) := ((p223.1 : Int32), lx67, (0 : Int32), (p223.2.1 : Int32), y123, (0 : Int32), y124, y125, y126, y127, y128, y129, y130, y131, y132, y133, y134, y135, y136, y137, y138, y139, y140, y141, y142, f99, f143, f145, f147, f149, (p223.2.2 : (Nat → Int32)))
def F_NM_format_c57 (t0_0 : Int32) (t0_1 : Int32) (t0_2 : Int32) (t1_0 : Int32) (t1_1 : Int32) (t1_2 : Int32) (t1_3 : Int32) (t1_4 : Int32) (t1_5 : Int32) (t1_6 : Int32) (t1_7 : Int32) (t1_8 : Int32) (t1_9 : Int32) (t1_10 : Int32) (t1_11 : Int32) (t1_12 : Int32) (t1_13 : Int32) (t1_14 : Int32) (t1_15 : Int32) (t1_16 : Int32) (t1_17 : Int32) (t1_18 : Int32) (t1_19 : Int32) (t1_20 : Int32) (t1_21 : Int32) (t2_0 : (Nat → Int32)) (t3_0 : (Nat → Int32)) (t4_0 : (Nat → Int32)) (t5_0 : (Nat → Int64)) (t6_0 : (Nat → Int32)) (t7_0 : (Nat → Int32)) (t8_0 : (Nat → Int32)) (t9_0 : (Nat → Int32)) (t10_0 : (Nat → Int32)) (t11_0 : (Nat → Int32)) (t12_0 : (Nat → Int32)) (lx67 : Int32) (p107 : (Int32 × (Nat → Int32))) (a98 : Int32) (f99 : (Nat → Int32)) (p168 : (Int32 × Int32 × Int32 × Int32 × Int32 × Int32 × Int32 × Int32 × Int32 × Int32 × Int32 × Int32 × Int32 × Int32 × Int32 × Int32 × Int32 × Int32 × Int32 × Int32 × Int32 × (Nat → Int32) × (Nat → Int32) × (Nat → Int32) × (Nat → Int32))) : Int32 × Int32 × Int32 × Int32 × Int32 × Int32 × Int32 × Int32 × Int32 × Int32 × Int32 × Int32 × Int32 × Int32 × Int32 × Int32 × Int32 × Int32 × Int32 × Int32 × Int32 × Int32 × Int32 × Int32 × Int32 × (Nat → Int32) × (Nat → Int32) × (Nat → Int32) × (Nat → Int32) × (Nat → Int32) × (Nat → Int32) := if (0 : Int32) ≤ (p168.1 : Int32) then (F_NM_format_c112 t0_0 t0_1 t0_2 t1_0 t1_1 t1_2 t1_3 t1_4 t1_5 t1_6 t1_7 t1_8 t1_9 t1_10 t1_11 t1_12 t1_13 t1_14 t1_15 t1_16 t1_17 t1_18 t1_19 t1_20 t1_21 t2_0 t3_0 t4_0 t5_0 t6_0 t7_0 t8_0 t9_0 t10_0 t11_0 t12_0 lx67 p107 a98 f99 p168 (p168.1 : Int32) (p168.2.1 : Int32) (p168.2.2.1 : Int32) (p168.2.2.2.1 : Int32) (p168.2.2.2.2.1 : Int32) (p168.2.2.2.2.2.1 : Int32) (p168.2.2.2.2.2.2.1 : Int32) (p168.2.2.2.2.2.2.2.1 : Int32) (p168.2.2.2.2.2.2.2.2.1 : Int32) (p168.2.2.2.2.2.2.2.2.2.1 : Int32) (p168.2.2.2.2.2.2.2.2.2.2.1 : Int32) (p168.2.2.2.2.2.2.2.2.2.2.2.1 : Int32) (p168.2.2.2.2.2.2.2.2.2.2.2.2.1 : Int32) (p168.2.2.2.2.2.2.2.2.2.2.2.2.2.1 : Int32) (p168.2.2.2.2.2.2.2.2.2.2.2.2.2.2.1 : Int32) (p168.2.2.2.2.2.2.2.2.2.2.2.2.2.2.2.1 : Int32) (p168.2.2.2.2.2.2.2.2.2.2.2.2.2.2.2.2.1 : Int32) (p168.2.2.2.2.2.2.2.2.2.2.2.2.2.2.2.2.2.1 : Int32) (p168.2.2.2.2.2.2.2.2.2.2.2.2.2.2.2.2.2.2.1 : Int32) (p168.2.2.2.2.2.2.2.2.2.2.2.2.2.2.2.2.2.2.2.1 : Int32) (p168.2.2.2.2.2.2.2.2.2.2.2.2.2.2.2.2.2.2.2.2.1 : Int32) (p168.2.2.2.2.2.2.2.2.2.2.2.2.2.2.2.2.2.2.2.2.2.1 : (Nat → Int32)) (p168.2.2.2.2.2.2.2.2.2.2.2.2.2.2.2.2.2.2.2.2.2.2.1 : (Nat → Int32)) (p168.2.2.2.2.2.2.2.2.2.2.2.2.2.2.2.2.2.2.2.2.2.2.2.1 : (Nat → Int32)) (p168.2.2.2.2.2.2.2.2.2.2.2.2.2.2.2.2.2.2.2.2.2.2.2.2 : (Nat → Int32)) ((F_NM_show (4096 : Int32) (p168.1 : Int32) lx67 (0 : Int32) t0_2 t12_0 (p168.2.2.2.2.2.2.2.2.2.2.2.2.2.2.2.2.2.2.2.2.2.1 : (Nat → Int32))) : (Int32 × Int32 × (Nat → Int32)))) else (((((-1000) * (p168.2.2.2.2.1 : Int32) : Int32) - (p168.2.2.2.2.2.1 : Int32) : Int32), lx67, t0_1, (0 : Int32), (p168.2.1 : Int32), (0 : Int32), (p168.2.2.1 : Int32), (p168.2.2.2.1 : Int32), (p168.2.2.2.2.1 : Int32), (p168.2.2.2.2.2.1 : Int32), (p168.2.2.2.2.2.2.1 : Int32), (p168.2.2.2.2.2.2.2.1 : Int32), (p168.2.2.2.2.2.2.2.2.1 : Int32), (p168.2.2.2.2.2.2.2.2.2.1 : Int32), (p168.2.2.2.2.2.2.2.2.2.2.1 : Int32), (p168.2.2.2.2.2.2.2.2.2.2.2.1 : Int32), (p168.2.2.2.2.2.2.2.2.2.2.2.2.1 : Int32), (p168.2.2.2.2.2.2.2.2.2.2.2.2.2.1 : Int32), (p168.2.2.2.2.2.2.2.2.2.2.2.2.2.2.1 : Int32), (p168.2.2.2.2.2.2.2.2.2.2.2.2.2.2.2.1 : Int32), (p168.2.2.2.2.2.2.2.2.2.2.2.2.2.2.2.2.1 : Int32), (p168.2.2.2.2.2.2.2.2.2.2.2.2.2.2.2.2.2.1 : Int32), (p168.2.2.2.2.2.2.2.2.2.2.2.2.2.2.2.2.2.2.1 : Int32), (p168.2.2.2.2.2.2.2.2.2.2.2.2.2.2.2.2.2.2.2.1 : Int32), (p168.2.2.2.2.2.2.2.2.2.2.2.2.2.2.2.2.2.2.2.2.1 : Int32), f99, (p168.2.2.2.2.2.2.2.2.2.2.2.2.2.2.2.2.2.2.2.2.2.1 : (Nat → Int32)), (p168.2.2.2.2.2.2.2.2.2.2.2.2.2.2.2.2.2.2.2.2.2.2.1 : (Nat → Int32)), (p168.2.2.2.2.2.2.2.2.2.2.2.2.2.2.2.2.2.2.2.2.2.2.2.1 : (Nat → Int32)), (p168.2.2.2.2.2.2.2.2.2.2.2.2.2.2.2.2.2.2.2.2.2.2.2.2 : (Nat → Int32)), t12_0))
def F_NM_format_c47 (t0_0 : Int32) (t0_1 : Int32) (t0_2 : Int32) (t1_0 : Int32) (t1_1 : Int32) (t1_2 : Int32) (t1_3 : Int32) (t1_4 : Int32) (t1_5 : Int32) (t1_6 : Int32) (t1_7 : Int32) (t1_8 : Int32) (t1_9 : Int32) (t1_10 : Int32) (t1_11 : Int32) (t1_12 : Int32) (t1_13 : Int32) (t1_14 : Int32) (t1_15 : Int32) (t1_16 : Int32) (t1_17 : Int32) (t1_18 : Int32) (t1_19 : Int32) (t1_20 : Int32) (t1_21 : Int32) (t2_0 : (Nat → Int32)) (t3_0 : (Nat → Int32)) (t4_0 : (Nat → Int32)) (t5_0 : (Nat → Int64)) (t6_0 : (Nat → Int32)) (t7_0 : (Nat → Int32)) (t8_0 : (Nat → Int32)) (t9_0 : (Nat → Int32)) (t10_0 : (Nat → Int32)) (t11_0 : (Nat → Int32)) (t12_0 : (Nat → Int32)) (lx67 : Int32) (p107 : (Int32 × (Nat → Int32))) : Int32 × Int32 × Int32 × Int32 × Int32 × Int32 × Int32 × Int32 × Int32 × Int32 × Int32 × Int32 × Int32 × Int32 × Int32 × Int32 × Int32 × Int32 × Int32 × Int32 × Int32 × Int32 × Int32 × Int32 × Int32 × (Nat → Int32) × (Nat → Int32) × (Nat → Int32) × (Nat → Int32) × (Nat → Int32) × (Nat → Int32) := F_NM_format_c57 t0_0 t0_1 t0_2 t1_0 t1_1 t1_2 t1_3 t1_4 t1_5 t1_6 t1_7 t1_8 t1_9 t1_10 t1_11 t1_12 t1_13 t1_14 t1_15 t1_16 t1_17 t1_18 t1_19 t1_20 t1_21 t2_0 t3_0 t4_0 t5_0 t6_0 t7_0 t8_0 t9_0 t10_0 t11_0 t12_0 lx67 p107 (p107.1 : Int32) (p107.2 : (Nat → Int32)) ((F_VR_print t1_0 (p107.1 : Int32) t1_2 t1_3 t1_4 t1_5 t1_6 t1_7 t1_8 t1_9 t1_10 t1_11 t1_12 t1_13 t1_14 t1_15 t1_16 t1_17 t1_18 t1_19 t1_20 t1_21 (p107.2 : (Nat → Int32)) t3_0 t4_0 t5_0 t6_0 t7_0 t8_0 t9_0 t10_0) : (Int32 × Int32 × Int32 × Int32 × Int32 × Int32 × Int32 × Int32 × Int32 × Int32 × Int32 × Int32 × Int32 × Int32 × Int32 × Int32 × Int32 × Int32 × Int32 × Int32 × Int32 × (Nat → Int32) × (Nat → Int32) × (Nat → Int32) × (Nat → Int32)))
def F_NM_format_J16 (t0_0 : Int32) (t0_1 : Int32) (t0_2 : Int32) (t1_0 : Int32) (t1_1 : Int32) (t1_2 : Int32) (t1_3 : Int32) (t1_4 : Int32) (t1_5 : Int32) (t1_6 : Int32) (t1_7 : Int32) (t1_8 : Int32) (t1_9 : Int32) (t1_10 : Int32) (t1_11 : Int32) (t1_12 : Int32) (t1_13 : Int32) (t1_14 : Int32) (t1_15 : Int32) (t1_16 : Int32) (t1_17 : Int32) (t1_18 : Int32) (t1_19 : Int32) (t1_20 : Int32) (t1_21 : Int32) (t2_0 : (Nat → Int32)) (t3_0 : (Nat → Int32)) (t4_0 : (Nat → Int32)) (t5_0 : (Nat → Int64)) (t6_0 : (Nat → Int32)) (t7_0 : (Nat → Int32)) (t8_0 : (Nat → Int32)) (t9_0 : (Nat → Int32)) (t10_0 : (Nat → Int32)) (t11_0 : (Nat → Int32)) (t12_0 : (Nat → Int32)) (lx67 : Int32) : Int32 × Int32 × Int32 × Int32 × Int32 × Int32 × Int32 × Int32 × Int32 × Int32 × Int32 × Int32 × Int32 × Int32 × Int32 × Int32 × Int32 × Int32 × Int32 × Int32 × Int32 × Int32 × Int32 × Int32 × Int32 × (Nat → Int32) × (Nat → Int32) × (Nat → Int32) × (Nat → Int32) × (Nat → Int32) × (Nat → Int32) := if lx67 ≤ (0 : Int32) then (F_NM_format_c47 t0_0 t0_1 t0_2 t1_0 t1_1 t1_2 t1_3 t1_4 t1_5 t1_6 t1_7 t1_8 t1_9 t1_10 t1_11 t1_12 t1_13 t1_14 t1_15 t1_16 t1_17 t1_18 t1_19 t1_20 t1_21 t2_0 t3_0 t4_0 t5_0 t6_0 t7_0 t8_0 t9_0 t10_0 t11_0 t12_0 lx67 ((F_NM_load (4100 : Int32) t0_1 (256 : Int32) t11_0 t2_0) : (Int32 × (Nat → Int32)))) else (((0 : Int32), lx67, t0_1, t0_2, t1_0, t1_1, t1_3, t1_4, t1_5, t1_6, t1_7, t1_8, t1_9, t1_10, t1_11, t1_12, t1_13, t1_14, t1_15, t1_16, t1_17, t1_18, t1_19, t1_20, t1_21, t2_0, t7_0, t8_0, t9_0, t10_0, t12_0))
def F_NM_format (t0_0 : Int32) (t0_1 : Int32) (t0_2 : Int32) (t1_0 : Int32) (t1_1 : Int32) (t1_2 : Int32) (t1_3 : Int32) (t1_4 : Int32) (t1_5 : Int32) (t1_6 : Int32) (t1_7 : Int32) (t1_8 : Int32) (t1_9 : Int32) (t1_10 : Int32) (t1_11 : Int32) (t1_12 : Int32) (t1_13 : Int32) (t1_14 : Int32) (t1_15 : Int32) (t1_16 : Int32) (t1_17 : Int32) (t1_18 : Int32) (t1_19 : Int32) (t1_20 : Int32) (t1_21 : Int32) (t2_0 : (Nat → Int32)) (t3_0 : (Nat → Int32)) (t4_0 : (Nat → Int32)) (t5_0 : (Nat → Int64)) (t6_0 : (Nat → Int32)) (t7_0 : (Nat → Int32)) (t8_0 : (Nat → Int32)) (t9_0 : (Nat → Int32)) (t10_0 : (Nat → Int32)) (t11_0 : (Nat → Int32)) (t12_0 : (Nat → Int32)) : Int32 × Int32 × Int32 × Int32 × Int32 × Int32 × Int32 × Int32 × Int32 × Int32 × Int32 × Int32 × Int32 × Int32 × Int32 × Int32 × Int32 × Int32 × Int32 × Int32 × Int32 × Int32 × Int32 × Int32 × Int32 × (Nat → Int32) × (Nat → Int32) × (Nat → Int32) × (Nat → Int32) × (Nat → Int32) × (Nat → Int32) := if t0_1 ≤ (256 : Int32) then (F_NM_format_J16 t0_0 t0_1 t0_2 t1_0 t1_1 t1_2 t1_3 t1_4 t1_5 t1_6 t1_7 t1_8 t1_9 t1_10 t1_11 t1_12 t1_13 t1_14 t1_15 t1_16 t1_17 t1_18 t1_19 t1_20 t1_21 t2_0 t3_0 t4_0 t5_0 t6_0 t7_0 t8_0 t9_0 t10_0 t11_0 t12_0 0) else (F_NM_format_J16 t0_0 t0_1 t0_2 t1_0 t1_1 t1_2 t1_3 t1_4 t1_5 t1_6 t1_7 t1_8 t1_9 t1_10 t1_11 t1_12 t1_13 t1_14 t1_15 t1_16 t1_17 t1_18 t1_19 t1_20 t1_21 t2_0 t3_0 t4_0 t5_0 t6_0 t7_0 t8_0 t9_0 t10_0 t11_0 t12_0 1)
def S_NM_format_c112 (t0_0 : Int32) (t0_1 : Int32) (t0_2 : Int32) (t1_0 : Int32) (t1_1 : Int32) (t1_2 : Int32) (t1_3 : Int32) (t1_4 : Int32) (t1_5 : Int32) (t1_6 : Int32) (t1_7 : Int32) (t1_8 : Int32) (t1_9 : Int32) (t1_10 : Int32) (t1_11 : Int32) (t1_12 : Int32) (t1_13 : Int32) (t1_14 : Int32) (t1_15 : Int32) (t1_16 : Int32) (t1_17 : Int32) (t1_18 : Int32) (t1_19 : Int32) (t1_20 : Int32) (t1_21 : Int32) (t2_0 : (Nat → Int32)) (t3_0 : (Nat → Int32)) (t4_0 : (Nat → Int32)) (t5_0 : (Nat → Int64)) (t6_0 : (Nat → Int32)) (t7_0 : (Nat → Int32)) (t8_0 : (Nat → Int32)) (t9_0 : (Nat → Int32)) (t10_0 : (Nat → Int32)) (t11_0 : (Nat → Int32)) (t12_0 : (Nat → Int32)) (lx67 : Int32) (p107 : (Int32 × (Nat → Int32))) (a98 : Int32) (f99 : (Nat → Int32)) (p168 : (Int32 × Int32 × Int32 × Int32 × Int32 × Int32 × Int32 × Int32 × Int32 × Int32 × Int32 × Int32 × Int32 × Int32 × Int32 × Int32 × Int32 × Int32 × Int32 × Int32 × Int32 × (Nat → Int32) × (Nat → Int32) × (Nat → Int32) × (Nat → Int32))) (a121 : Int32) (y123 : Int32) (y124 : Int32) (y125 : Int32) (y126 : Int32) (y127 : Int32) (y128 : Int32) (y129 : Int32) (y130 : Int32) (y131 : Int32) (y132 : Int32) (y133 : Int32) (y134 : Int32) (y135 : Int32) (y136 : Int32) (y137 : Int32) (y138 : Int32) (y139 : Int32) (y140 : Int32) (y141 : Int32) (y142 : Int32) (f143 : (Nat → Int32)) (f145 : (Nat → Int32)) (f147 : (Nat → Int32)) (f149 : (Nat → Int32)) (p223 : (Int32 × Int32 × (Nat → Int32))) : Prop := True
def S_NM_format_c57 (t0_0 : Int32) (t0_1 : Int32) (t0_2 : Int32) (t1_0 : Int32) (t1_1 : Int32) (t1_2 : Int32) (t1_3 : Int32) (t1_4 : Int32) (t1_5 : Int32) (t1_6 : Int32) (t1_7 : Int32) (t1_8 : Int32) (t1_9 : Int32) (t1_10 : Int32) (t1_11 : Int32) (t1_12 : Int32) (t1_13 : Int32) (t1_14 : Int32) (t1_15 : Int32) (t1_16 : Int32) (t1_17 : Int32) (t1_18 : Int32) (t1_19 : Int32) (t1_20 : Int32) (t1_21 : Int32) (t2_0 : (Nat → Int32)) (t3_0 : (Nat → Int32)) (t4_0 : (Nat → Int32)) (t5_0 : (Nat → Int64)) (t6_0 : (Nat → Int32)) (t7_0 : (Nat → Int32)) (t8_0 : (Nat → Int32)) (t9_0 : (Nat → Int32)) (t10_0 : (Nat → Int32)) (t11_0 : (Nat → Int32)) (t12_0 : (Nat → Int32)) (lx67 : Int32) (p107 : (Int32 × (Nat → Int32))) (a98 : Int32) (f99 : (Nat → Int32)) (p168 : (Int32 × Int32 × Int32 × Int32 × Int32 × Int32 × Int32 × Int32 × Int32 × Int32 × Int32 × Int32 × Int32 × Int32 × Int32 × Int32 × Int32 × Int32 × Int32 × Int32 × Int32 × (Nat → Int32) × (Nat → Int32) × (Nat → Int32) × (Nat → Int32))) : Prop := if (0 : Int32) ≤ (p168.1 : Int32) then ((True ∧ S_NM_show (4096 : Int32) (p168.1 : Int32) lx67 (0 : Int32) t0_2 t12_0 (p168.2.2.2.2.2.2.2.2.2.2.2.2.2.2.2.2.2.2.2.2.2.1 : (Nat → Int32))) ∧ (S_NM_format_c112 t0_0 t0_1 t0_2 t1_0 t1_1 t1_2 t1_3 t1_4 t1_5 t1_6 t1_7 t1_8 t1_9 t1_10 t1_11 t1_12 t1_13 t1_14 t1_15 t1_16 t1_17 t1_18 t1_19 t1_20 t1_21 t2_0 t3_0 t4_0 t5_0 t6_0 t7_0 t8_0 t9_0 t10_0 t11_0 t12_0 lx67 p107 a98 f99 p168 (p168.1 : Int32) (p168.2.1 : Int32) (p168.2.2.1 : Int32) (p168.2.2.2.1 : Int32) (p168.2.2.2.2.1 : Int32) (p168.2.2.2.2.2.1 : Int32) (p168.2.2.2.2.2.2.1 : Int32) (p168.2.2.2.2.2.2.2.1 : Int32) (p168.2.2.2.2.2.2.2.2.1 : Int32) (p168.2.2.2.2.2.2.2.2.2.1 : Int32) (p168.2.2.2.2.2.2.2.2.2.2.1 : Int32) (p168.2.2.2.2.2.2.2.2.2.2.2.1 : Int32) (p168.2.2.2.2.2.2.2.2.2.2.2.2.1 : Int32) (p168.2.2.2.2.2.2.2.2.2.2.2.2.2.1 : Int32) (p168.2.2.2.2.2.2.2.2.2.2.2.2.2.2.1 : Int32) (p168.2.2.2.2.2.2.2.2.2.2.2.2.2.2.2.1 : Int32) (p168.2.2.2.2.2.2.2.2.2.2.2.2.2.2.2.2.1 : Int32) (p168.2.2.2.2.2.2.2.2.2.2.2.2.2.2.2.2.2.1 : Int32) (p168.2.2.2.2.2.2.2.2.2.2.2.2.2.2.2.2.2.2.1 : Int32) (p168.2.2.2.2.2.2.2.2.2.2.2.2.2.2.2.2.2.2.2.1 : Int32) (p168.2.2.2.2.2.2.2.2.2.2.2.2.2.2.2.2.2.2.2.2.1 : Int32) (p168.2.2.2.2.2.2.2.2.2.2.2.2.2.2.2.2.2.2.2.2.2.1 : (Nat → Int32)) (p168.2.2.2.2.2.2.2.2.2.2.2.2.2.2.2.2.2.2.2.2.2.2.1 : (Nat → Int32)) (p168.2.2.2.2.2.2.2.2.2.2.2.2.2.2.2.2.2.2.2.2.2.2.2.1 : (Nat → Int32)) (p168.2.2.2.2.2.2.2.2.2.2.2.2.2.2.2.2.2.2.2.2.2.2.2.2 : (Nat → Int32)) ((F_NM_show (4096 : Int32) (p168.1 : Int32) lx67 (0 : Int32) t0_2 t12_0 (p168.2.2.2.2.2.2.2.2.2.2.2.2.2.2.2.2.2.2.2.2.2.1 : (Nat → Int32))) : (Int32 × Int32 × (Nat → Int32))))) else (True)
def S_NM_format_c47 (t0_0 : Int32) (t0_1 : Int32) (t0_2 : Int32) (t1_0 : Int32) (t1_1 : Int32) (t1_2 : Int32) (t1_3 : Int32) (t1_4 : Int32) (t1_5 : Int32) (t1_6 : Int32) (t1_7 : Int32) (t1_8 : Int32) (t1_9 : Int32) (t1_10 : Int32) (t1_11 : Int32) (t1_12 : Int32) (t1_13 : Int32) (t1_14 : Int32) (t1_15 : Int32) (t1_16 : Int32) (t1_17 : Int32) (t1_18 : Int32) (t1_19 : Int32) (t1_20 : Int32) (t1_21 : Int32) (t2_0 : (Nat → Int32)) (t3_0 : (Nat → Int32)) (t4_0 : (Nat → Int32)) (t5_0 : (Nat → Int64)) (t6_0 : (Nat → Int32)) (t7_0 : (Nat → Int32)) (t8_0 : (Nat → Int32)) (t9_0 : (Nat → Int32)) (t10_0 : (Nat → Int32)) (t11_0 : (Nat → Int32)) (t12_0 : (Nat → Int32)) (lx67 : Int32) (p107 : (Int32 × (Nat → Int32))) : Prop := (True ∧ S_VR_print t1_0 (p107.1 : Int32) t1_2 t1_3 t1_4 t1_5 t1_6 t1_7 t1_8 t1_9 t1_10 t1_11 t1_12 t1_13 t1_14 t1_15 t1_16 t1_17 t1_18 t1_19 t1_20 t1_21 (p107.2 : (Nat → Int32)) t3_0 t4_0 t5_0 t6_0 t7_0 t8_0 t9_0 t10_0) ∧ (S_NM_format_c57 t0_0 t0_1 t0_2 t1_0 t1_1 t1_2 t1_3 t1_4 t1_5 t1_6 t1_7 t1_8 t1_9 t1_10 t1_11 t1_12 t1_13 t1_14 t1_15 t1_16 t1_17 t1_18 t1_19 t1_20 t1_21 t2_0 t3_0 t4_0 t5_0 t6_0 t7_0 t8_0 t9_0 t10_0 t11_0 t12_0 lx67 p107 (p107.1 : Int32) (p107.2 : (Nat → Int32)) ((F_VR_print t1_0 (p107.1 : Int32) t1_2 t1_3 t1_4 t1_5 t1_6 t1_7 t1_8 t1_9 t1_10 t1_11 t1_12 t1_13 t1_14 t1_15 t1_16 t1_17 t1_18 t1_19 t1_20 t1_21 (p107.2 : (Nat → Int32)) t3_0 t4_0 t5_0 t6_0 t7_0 t8_0 t9_0 t10_0) : (Int32 × Int32 × Int32 × Int32 × Int32 × Int32 × Int32 × Int32 × Int32 × Int32 × Int32 × Int32 × Int32 × Int32 × Int32 × Int32 × Int32 × Int32 × Int32 × Int32 × Int32 × (Nat → Int32) × (Nat → Int32) × (Nat → Int32) × (Nat → Int32))))
def S_NM_format_J16 (t0_0 : Int32) (t0_1 : Int32) (t0_2 : Int32) (t1_0 : Int32) (t1_1 : Int32) (t1_2 : Int32) (t1_3 : Int32) (t1_4 : Int32) (t1_5 : Int32) (t1_6 : Int32) (t1_7 : Int32) (t1_8 : Int32) (t1_9 : Int32) (t1_10 : Int32) (t1_11 : Int32) (t1_12 : Int32) (t1_13 : Int32) (t1_14 : Int32) (t1_15 : Int32) (t1_16 : Int32) (t1_17 : Int32) (t1_18 : Int32) (t1_19 : Int32) (t1_20 : Int32) (t1_21 : Int32) (t2_0 : (Nat → Int32)) (t3_0 : (Nat → Int32)) (t4_0 : (Nat → Int32)) (t5_0 : (Nat → Int64)) (t6_0 : (Nat → Int32)) (t7_0 : (Nat → Int32)) (t8_0 : (Nat → Int32)) (t9_0 : (Nat → Int32)) (t10_0 : (Nat → Int32)) (t11_0 : (Nat → Int32)) (t12_0 : (Nat → Int32)) (lx67 : Int32) : Prop := if lx67 ≤ (0 : Int32) then ((True ∧ S_NM_load (4100 : Int32) t0_1 (256 : Int32) t11_0 t2_0) ∧ (S_NM_format_c47 t0_0 t0_1 t0_2 t1_0 t1_1 t1_2 t1_3 t1_4 t1_5 t1_6 t1_7 t1_8 t1_9 t1_10 t1_11 t1_12 t1_13 t1_14 t1_15 t1_16 t1_17 t1_18 t1_19 t1_20 t1_21 t2_0 t3_0 t4_0 t5_0 t6_0 t7_0 t8_0 t9_0 t10_0 t11_0 t12_0 lx67 ((F_NM_load (4100 : Int32) t0_1 (256 : Int32) t11_0 t2_0) : (Int32 × (Nat → Int32))))) else (True)
def S_NM_format (t0_0 : Int32) (t0_1 : Int32) (t0_2 : Int32) (t1_0 : Int32) (t1_1 : Int32) (t1_2 : Int32) (t1_3 : Int32) (t1_4 : Int32) (t1_5 : Int32) (t1_6 : Int32) (t1_7 : Int32) (t1_8 : Int32) (t1_9 : Int32) (t1_10 : Int32) (t1_11 : Int32) (t1_12 : Int32) (t1_13 : Int32) (t1_14 : Int32) (t1_15 : Int32) (t1_16 : Int32) (t1_17 : Int32) (t1_18 : Int32) (t1_19 : Int32) (t1_20 : Int32) (t1_21 : Int32) (t2_0 : (Nat → Int32)) (t3_0 : (Nat → Int32)) (t4_0 : (Nat → Int32)) (t5_0 : (Nat → Int64)) (t6_0 : (Nat → Int32)) (t7_0 : (Nat → Int32)) (t8_0 : (Nat → Int32)) (t9_0 : (Nat → Int32)) (t10_0 : (Nat → Int32)) (t11_0 : (Nat → Int32)) (t12_0 : (Nat → Int32)) : Prop := if t0_1 ≤ (256 : Int32) then (S_NM_format_J16 t0_0 t0_1 t0_2 t1_0 t1_1 t1_2 t1_3 t1_4 t1_5 t1_6 t1_7 t1_8 t1_9 t1_10 t1_11 t1_12 t1_13 t1_14 t1_15 t1_16 t1_17 t1_18 t1_19 t1_20 t1_21 t2_0 t3_0 t4_0 t5_0 t6_0 t7_0 t8_0 t9_0 t10_0 t11_0 t12_0 0) else (S_NM_format_J16 t0_0 t0_1 t0_2 t1_0 t1_1 t1_2 t1_3 t1_4 t1_5 t1_6 t1_7 t1_8 t1_9 t1_10 t1_11 t1_12 t1_13 t1_14 t1_15 t1_16 t1_17 t1_18 t1_19 t1_20 t1_21 t2_0 t3_0 t4_0 t5_0 t6_0 t7_0 t8_0 t9_0 t10_0 t11_0 t12_0 1)
set_option maxRecDepth 100000 in
set_option maxHeartbeats 4000000 in
theorem X_NM_format (l : Launch) (D : va_G) (g : Nat → ClassId) (q : Nat → Nat) (ws : va_W) (hI : q_I (msh g q) q ws) (t0_0 : Int32) (t0_1 : Int32) (t0_2 : Int32) (hT0 : ws[116]? = (some (q 116, .inr (12, [.int t0_0, .ref (q 117), .int t0_1, .ref (q 118), .int t0_2, .ref (q 119), .ref (q 134), .ref (q 145), .ref (q 153), .ref (q 157), .ref (q 167), .ref (q 168)])) : Option (Nat × va_E))) (t1_0 : Int32) (t1_1 : Int32) (t1_2 : Int32) (t1_3 : Int32) (t1_4 : Int32) (t1_5 : Int32) (t1_6 : Int32) (t1_7 : Int32) (t1_8 : Int32) (t1_9 : Int32) (t1_10 : Int32) (t1_11 : Int32) (t1_12 : Int32) (t1_13 : Int32) (t1_14 : Int32) (t1_15 : Int32) (t1_16 : Int32) (t1_17 : Int32) (t1_18 : Int32) (t1_19 : Int32) (t1_20 : Int32) (t1_21 : Int32) (hT1 : ws[157]? = (some (q 157, .inr (17, [.int t1_0, .ref (q 158), .int t1_1, .int t1_2, .ref (q 159), .ref (q 160), .ref (q 161), .ref (q 162), .ref (q 163), .int t1_3, .ref (q 164), .int t1_4, .int t1_5, .int t1_6, .int t1_7, .int t1_8, .int t1_9, .int t1_10, .int t1_11, .int t1_12, .int t1_13, .int t1_14, .int t1_15, .int t1_16, .ref (q 165), .int t1_17, .int t1_18, .int t1_19, .ref (q 166), .int t1_20, .int t1_21])) : Option (Nat × va_E))) (t2_0 : (Nat → Int32)) (hT2 : ws[158]? = (some (q 158, .inl (g 0, (256 : Int32).toNatClampNeg, .inl t2_0)) : Option (Nat × va_E))) (t3_0 : (Nat → Int32)) (hT3 : ws[159]? = (some (q 159, .inl (g 0, (9 : Int32).toNatClampNeg, .inl t3_0)) : Option (Nat × va_E))) (t4_0 : (Nat → Int32)) (hT4 : ws[160]? = (some (q 160, .inl (g 0, (9 : Int32).toNatClampNeg, .inl t4_0)) : Option (Nat × va_E))) (t5_0 : (Nat → Int64)) (hT5 : ws[161]? = (some (q 161, .inl (g 1, 9, .inr (.inl t5_0))) : Option (Nat × va_E))) (t6_0 : (Nat → Int32)) (hT6 : ws[162]? = (some (q 162, .inl (g 0, (576 : Int32).toNatClampNeg, .inl t6_0)) : Option (Nat × va_E))) (t7_0 : (Nat → Int32)) (hT7 : ws[163]? = (some (q 163, .inl (g 0, (4096 : Int32).toNatClampNeg, .inl t7_0)) : Option (Nat × va_E))) (t8_0 : (Nat → Int32)) (hT8 : ws[164]? = (some (q 164, .inl (g 0, (4096 : Int32).toNatClampNeg, .inl t8_0)) : Option (Nat × va_E))) (t9_0 : (Nat → Int32)) (hT9 : ws[165]? = (some (q 165, .inl (g 0, (20200 : Int32).toNatClampNeg, .inl t9_0)) : Option (Nat × va_E))) (t10_0 : (Nat → Int32)) (hT10 : ws[166]? = (some (q 166, .inl (g 0, (64 : Int32).toNatClampNeg, .inl t10_0)) : Option (Nat × va_E))) (t11_0 : (Nat → Int32)) (hT11 : ws[117]? = (some (q 117, .inl (g 0, (4100 : Int32).toNatClampNeg, .inl t11_0)) : Option (Nat × va_E))) (t12_0 : (Nat → Int32)) (hT12 : ws[118]? = (some (q 118, .inl (g 0, (12200 : Int32).toNatClampNeg, .inl t12_0)) : Option (Nat × va_E))) (hS : True ∧ S_NM_format t0_0 t0_1 t0_2 t1_0 t1_1 t1_2 t1_3 t1_4 t1_5 t1_6 t1_7 t1_8 t1_9 t1_10 t1_11 t1_12 t1_13 t1_14 t1_15 t1_16 t1_17 t1_18 t1_19 t1_20 t1_21 t2_0 t3_0 t4_0 t5_0 t6_0 t7_0 t8_0 t9_0 t10_0 t11_0 t12_0) : q_mI l y_NM_format prog_14_method_38_code 2 (.int) 10 0 0 D g [.ref (q 116)] ws (fun r u => q_I (msh g q) q u ∧ q_un ws u [116, 118, 157, 158, 163, 164, 165, 166] ∧ ∃ (u0_0 : Int32) (u0_1 : Int32) (u0_2 : Int32) (u1_0 : Int32) (u1_1 : Int32) (u1_3 : Int32) (u1_4 : Int32) (u1_5 : Int32) (u1_6 : Int32) (u1_7 : Int32) (u1_8 : Int32) (u1_9 : Int32) (u1_10 : Int32) (u1_11 : Int32) (u1_12 : Int32) (u1_13 : Int32) (u1_14 : Int32) (u1_15 : Int32) (u1_16 : Int32) (u1_17 : Int32) (u1_18 : Int32) (u1_19 : Int32) (u1_20 : Int32) (u1_21 : Int32) (u2_0 : (Nat → Int32)) (u7_0 : (Nat → Int32)) (u8_0 : (Nat → Int32)) (u9_0 : (Nat → Int32)) (u10_0 : (Nat → Int32)) (u12_0 : (Nat → Int32)), u[116]? = (some (q 116, .inr (12, [.int u0_0, .ref (q 117), .int u0_1, .ref (q 118), .int u0_2, .ref (q 119), .ref (q 134), .ref (q 145), .ref (q 153), .ref (q 157), .ref (q 167), .ref (q 168)])) : Option (Nat × va_E)) ∧ u[157]? = (some (q 157, .inr (17, [.int u1_0, .ref (q 158), .int u1_1, .int t1_2, .ref (q 159), .ref (q 160), .ref (q 161), .ref (q 162), .ref (q 163), .int u1_3, .ref (q 164), .int u1_4, .int u1_5, .int u1_6, .int u1_7, .int u1_8, .int u1_9, .int u1_10, .int u1_11, .int u1_12, .int u1_13, .int u1_14, .int u1_15, .int u1_16, .ref (q 165), .int u1_17, .int u1_18, .int u1_19, .ref (q 166), .int u1_20, .int u1_21])) : Option (Nat × va_E)) ∧ u[158]? = (some (q 158, .inl (g 0, (256 : Int32).toNatClampNeg, .inl u2_0)) : Option (Nat × va_E)) ∧ u[163]? = (some (q 163, .inl (g 0, (4096 : Int32).toNatClampNeg, .inl u7_0)) : Option (Nat × va_E)) ∧ u[164]? = (some (q 164, .inl (g 0, (4096 : Int32).toNatClampNeg, .inl u8_0)) : Option (Nat × va_E)) ∧ u[165]? = (some (q 165, .inl (g 0, (20200 : Int32).toNatClampNeg, .inl u9_0)) : Option (Nat × va_E)) ∧ u[166]? = (some (q 166, .inl (g 0, (64 : Int32).toNatClampNeg, .inl u10_0)) : Option (Nat × va_E)) ∧ u[118]? = (some (q 118, .inl (g 0, (12200 : Int32).toNatClampNeg, .inl u12_0)) : Option (Nat × va_E)) ∧ (0 ≤ u0_0.toInt) ∧ (u0_0.toInt ≤ 1) ∧ (0 ≤ u0_2.toInt) ∧ (0 ≤ u1_1.toInt) ∧ (0 ≤ u1_3.toInt) ∧ (u1_3.toInt ≤ 4096) ∧ (0 ≤ u1_10.toInt) ∧ (u1_10.toInt ≤ 1) ∧ (0 ≤ u1_19.toInt) ∧ (u1_19.toInt ≤ 1) ∧ (t0_1.toInt ≤ u0_0.toInt + 4099) ∧ (t0_1.toInt ≤ u0_1.toInt + 256) ∧ (u0_1.toInt ≤ t0_1.toInt) ∧ (u0_2.toInt ≤ t0_2.toInt + 4096) ∧ (u1_1.toInt ≤ t1_1.toInt) ∧ (u0_0.toInt ≤ u0_1.toInt) ∧ (u0_2.toInt ≤ u0_0.toInt + 12199) ∧ (u1_1.toInt ≤ u0_0.toInt + 255) ∧ (r, u0_0, u0_1, u0_2, u1_0, u1_1, u1_3, u1_4, u1_5, u1_6, u1_7, u1_8, u1_9, u1_10, u1_11, u1_12, u1_13, u1_14, u1_15, u1_16, u1_17, u1_18, u1_19, u1_20, u1_21, u2_0, u7_0, u8_0, u9_0, u10_0, u12_0) = (F_NM_format t0_0 t0_1 t0_2 t1_0 t1_1 t1_2 t1_3 t1_4 t1_5 t1_6 t1_7 t1_8 t1_9 t1_10 t1_11 t1_12 t1_13 t1_14 t1_15 t1_16 t1_17 t1_18 t1_19 t1_20 t1_21 t2_0 t3_0 t4_0 t5_0 t6_0 t7_0 t8_0 t9_0 t10_0 t11_0 t12_0)) := by
  intro sz
  refine q_into (by decide) (Nat.le_of_ble_eq_true rfl) ?_
  intro p e s m below meth c ls hsz C0 V hl
  have hx := C0.1
  have hb := C0.2.1
  obtain ⟨btt0_1, btt0_2⟩ := n_w116 hI hT0
  replace btt0_1 : q_F (0 ≤ t0_1.toInt ∧ t0_1.toInt ≤ 4100) := btt0_1
  replace btt0_2 : q_F (0 ≤ t0_2.toInt ∧ t0_2.toInt ≤ 12200) := btt0_2
  obtain ⟨btt1_1, hZ9⟩ := n_w157 hI hT1
  obtain ⟨btt1_2, hZ9⟩ := hZ9
  obtain ⟨btt1_3, hZ9⟩ := hZ9
  obtain ⟨btt1_10, btt1_19⟩ := hZ9
  replace btt1_1 : q_F (0 ≤ t1_1.toInt ∧ t1_1.toInt ≤ 256) := btt1_1
  replace btt1_2 : q_F (0 ≤ t1_2.toInt ∧ t1_2.toInt ≤ 9) := btt1_2
  replace btt1_3 : q_F (0 ≤ t1_3.toInt ∧ t1_3.toInt ≤ 4096) := btt1_3
  replace btt1_10 : q_F (0 ≤ t1_10.toInt ∧ t1_10.toInt ≤ 1) := btt1_10
  replace btt1_19 : q_F (0 ≤ t1_19.toInt ∧ t1_19.toInt ≤ 1) := btt1_19
  have hF : q_un ws ws [116, 118, 157, 158, 163, 164, 165, 166] := q_u0
  have hl : lv_has ls 2 [(0, .ref (q 116))] := hl
  refine lv_aload_n hx hb d_14_38_0 rfl (lv_at hl 0 rfl) ?_
  refine lv_aload_n hx hb d_14_38_1 rfl (lv_at hl 0 rfl) ?_
  refine q_get (ci := 12) (j := 2) (v := .int t0_1) C0 V i_NM rfl rfl hT0 (by decide) w_2300 rfl d_14_38_2 ?_
  refine lv_sipush (v := 256) hx hb d_14_38_5 (by decide) ?_
  refine q_join (X := Int32) (fun z H locs ls _ => q_F (0 ≤ z.toInt) ∧ q_F (z.toInt ≤ 1) ∧ q_F (t0_1.toInt ≤ z.toInt + 4099) ∧ q_F (z.toInt ≤ t0_1.toInt) ∧ q_Wd D g (va_A ws sz) s ws H locs ∧ lv_has ls 2 [(0, .ref (q 116))] ∧ F_NM_format_J16 t0_0 t0_1 t0_2 t1_0 t1_1 t1_2 t1_3 t1_4 t1_5 t1_6 t1_7 t1_8 t1_9 t1_10 t1_11 t1_12 t1_13 t1_14 t1_15 t1_16 t1_17 t1_18 t1_19 t1_20 t1_21 t2_0 t3_0 t4_0 t5_0 t6_0 t7_0 t8_0 t9_0 t10_0 t11_0 t12_0 z = (F_NM_format t0_0 t0_1 t0_2 t1_0 t1_1 t1_2 t1_3 t1_4 t1_5 t1_6 t1_7 t1_8 t1_9 t1_10 t1_11 t1_12 t1_13 t1_14 t1_15 t1_16 t1_17 t1_18 t1_19 t1_20 t1_21 t2_0 t3_0 t4_0 t5_0 t6_0 t7_0 t8_0 t9_0 t10_0 t11_0 t12_0) ∧ True ∧ S_NM_format_J16 t0_0 t0_1 t0_2 t1_0 t1_1 t1_2 t1_3 t1_4 t1_5 t1_6 t1_7 t1_8 t1_9 t1_10 t1_11 t1_12 t1_13 t1_14 t1_15 t1_16 t1_17 t1_18 t1_19 t1_20 t1_21 t2_0 t3_0 t4_0 t5_0 t6_0 t7_0 t8_0 t9_0 t10_0 t11_0 t12_0 z) (fun z => [.int z, .ref (q 116)]) 16 0 0 ?_ ?_
  ·
    rintro lx67 H locs ls _ hZ9
    obtain ⟨i82, hZ9⟩ := hZ9
    obtain ⟨i83, hZ9⟩ := hZ9
    obtain ⟨i84, hZ9⟩ := hZ9
    obtain ⟨i85, hZ9⟩ := hZ9
    obtain ⟨V, hZ9⟩ := hZ9
    obtain ⟨hl, hZ9⟩ := hZ9
    obtain ⟨hR86, hS87⟩ := hZ9
    replace i82 : q_F (0 ≤ lx67.toInt) := i82
    replace i83 : q_F (lx67.toInt ≤ 1) := i83
    replace i84 : q_F (t0_1.toInt ≤ lx67.toInt + 4099) := i84
    replace i85 : q_F (lx67.toInt ≤ t0_1.toInt) := i85
    replace hl : lv_has ls 2 [(0, .ref (q 116))] := hl
    refine q_put (ci := 12) (j := 0) (v := .int lx67) (ty := .int) C0 V i_NM o_NM n_NM rfl rfl hT0 (by decide) w_2298 rfl rfl rfl rfl (Nat.le_of_ble_eq_true rfl) d_14_38_16 (fun H locs w91 hu92 hT0 V => ?_)
    replace hT0 : w91[116]? = (some (q 116, .inr (12, [.int lx67, .ref (q 117), .int t0_1, .ref (q 118), .int t0_2, .ref (q 119), .ref (q 134), .ref (q 145), .ref (q 153), .ref (q 157), .ref (q 167), .ref (q 168)])) : Option (Nat × va_E)) := hT0
    replace hI := n_p116 hI hu92 hT0 (by first | with_reducible exact q_fe btt0_1 | exact ⟨(by have t1 : 0 ≤ t0_1.toInt ∧ t0_1.toInt ≤ 4100 := btt0_1; omega), (by have t1 : 0 ≤ t0_1.toInt ∧ t0_1.toInt ≤ 4100 := btt0_1; omega)⟩) (by first | with_reducible exact q_fe btt0_2 | exact ⟨(by have t1 : 0 ≤ t0_2.toInt ∧ t0_2.toInt ≤ 12200 := btt0_2; omega), (by have t1 : 0 ≤ t0_2.toInt ∧ t0_2.toInt ≤ 12200 := btt0_2; omega)⟩)
    replace hT1 := (hu92 _ (by decide)).trans hT1
    replace hT2 := (hu92 _ (by decide)).trans hT2
    replace hT3 := (hu92 _ (by decide)).trans hT3
    replace hT4 := (hu92 _ (by decide)).trans hT4
    replace hT5 := (hu92 _ (by decide)).trans hT5
    replace hT6 := (hu92 _ (by decide)).trans hT6
    replace hT7 := (hu92 _ (by decide)).trans hT7
    replace hT8 := (hu92 _ (by decide)).trans hT8
    replace hT9 := (hu92 _ (by decide)).trans hT9
    replace hT10 := (hu92 _ (by decide)).trans hT10
    replace hT11 := (hu92 _ (by decide)).trans hT11
    replace hT12 := (hu92 _ (by decide)).trans hT12
    replace hF := q_us hF hu92 (by simp)
    refine lv_aload_n hx hb d_14_38_19 rfl (lv_at hl 0 rfl) ?_
    refine q_get (ci := 12) (j := 0) (v := .int lx67) C0 V i_NM rfl rfl hT0 (by decide) w_2298 rfl d_14_38_20 ?_
    refine lv_if_le (tgt := 28) hx hb d_14_38_23 (by decide) (fun c93 => ?_) (fun c93 => ?_)
    ·
      have b94 : q_F (lx67.toInt ≤ 0) := (q_leI c93)
      refine lv_aload_n hx hb d_14_38_28 rfl (lv_at hl 0 rfl) ?_
      refine q_get (ci := 12) (j := 9) (v := .ref (q 157)) C0 V i_NM rfl rfl hT0 (by decide) w_2307 rfl d_14_38_29 ?_
      refine lv_aload_n hx hb d_14_38_32 rfl (lv_at hl 0 rfl) ?_
      refine q_get (ci := 12) (j := 1) (v := .ref (q 117)) C0 V i_NM rfl rfl hT0 (by decide) w_2299 rfl d_14_38_33 ?_
      refine lv_aload_n hx hb d_14_38_36 rfl (lv_at hl 0 rfl) ?_
      refine q_get (ci := 12) (j := 2) (v := .int t0_1) C0 V i_NM rfl rfl hT0 (by decide) w_2300 rfl d_14_38_37 ?_
      refine lv_aload_n hx hb d_14_38_40 rfl (lv_at hl 0 rfl) ?_
      refine q_get (ci := 12) (j := 9) (v := .ref (q 157)) C0 V i_NM rfl rfl hT0 (by decide) w_2307 rfl d_14_38_41 ?_
      refine q_getN (ci := 17) (j := 1) (v := .ref (q 158)) C0 V i_VR rfl rfl hT1 (by decide) wo_2200 rfl d_14_38_44 ?_
      have ob95 : True ∧ S_NM_load (4100 : Int32) t0_1 (256 : Int32) t11_0 t2_0 := (by have h := hS87; rw [S_NM_format_J16.eq_1] at h; rw [if_pos c93] at h; with_reducible exact h.2.1)
      refine q_goi V (q_runS (As := [.ref (q 117), .int t0_1, .ref (q 158)]) (rest := [.ref (q 157)]) (d := 1) (mc := 0) (ms := 0) C0 V rfl LS_NM_90 (X_NM_load l D g q w91 117 4100 (n_r117 g q) 158 256 (n_r158 g q) t0_1 (by decide) hI t11_0 hT11 t2_0 hT2 ob95 _) rfl hl.1 rfl (Nat.le_of_ble_eq_true rfl) ⟨by decide, by decide⟩ ⟨Nat.le_of_ble_eq_true rfl, Nat.le_of_ble_eq_true rfl⟩ d_14_38_47) (fun a98 u96 H locs hp97 V => ?_)
      obtain ⟨hI, hZ9⟩ := hp97
      obtain ⟨hu106, hZ9⟩ := hZ9
      obtain ⟨f99, hZ9⟩ := hZ9
      obtain ⟨hA100, hZ9⟩ := hZ9
      obtain ⟨b101, hZ9⟩ := hZ9
      replace hZ9 := hZ9.2.2
      obtain ⟨b104, hE105⟩ := hZ9
      replace hA100 : u96[158]? = (some (q 158, .inl (g 0, (256 : Int32).toNatClampNeg, .inl f99)) : Option (Nat × va_E)) := hA100
      obtain ⟨p107, e108⟩ : ∃ z, z = (F_NM_load (4100 : Int32) t0_1 (256 : Int32) t11_0 t2_0) := ⟨_, rfl⟩
      have e109 : a98 = p107.1 := congrArg (fun z => z.1) (hE105.trans e108.symm)
      have e110 : f99 = p107.2 := congrArg (fun z => z.2) (hE105.trans e108.symm)
      replace b101 : q_F (t0_1.toInt ≤ a98.toInt) := b101
      replace b104 : q_F (a98.toInt ≤ 256) := b104
      replace hT0 := (hu106 _ (by decide)).trans hT0
      replace hT1 := (hu106 _ (by decide)).trans hT1
      replace hT3 := (hu106 _ (by decide)).trans hT3
      replace hT4 := (hu106 _ (by decide)).trans hT4
      replace hT5 := (hu106 _ (by decide)).trans hT5
      replace hT6 := (hu106 _ (by decide)).trans hT6
      replace hT7 := (hu106 _ (by decide)).trans hT7
      replace hT8 := (hu106 _ (by decide)).trans hT8
      replace hT9 := (hu106 _ (by decide)).trans hT9
      replace hT10 := (hu106 _ (by decide)).trans hT10
      replace hT12 := (hu106 _ (by decide)).trans hT12
      replace hF := q_uc hF hu106 (by simp)
      have hR111 := (show F_NM_format_c47 t0_0 t0_1 t0_2 t1_0 t1_1 t1_2 t1_3 t1_4 t1_5 t1_6 t1_7 t1_8 t1_9 t1_10 t1_11 t1_12 t1_13 t1_14 t1_15 t1_16 t1_17 t1_18 t1_19 t1_20 t1_21 t2_0 t3_0 t4_0 t5_0 t6_0 t7_0 t8_0 t9_0 t10_0 t11_0 t12_0 lx67 p107 = (F_NM_format t0_0 t0_1 t0_2 t1_0 t1_1 t1_2 t1_3 t1_4 t1_5 t1_6 t1_7 t1_8 t1_9 t1_10 t1_11 t1_12 t1_13 t1_14 t1_15 t1_16 t1_17 t1_18 t1_19 t1_20 t1_21 t2_0 t3_0 t4_0 t5_0 t6_0 t7_0 t8_0 t9_0 t10_0 t11_0 t12_0) from Eq.trans (by rw [e108, F_NM_format_J16.eq_1, if_pos c93]) hR86)
      have hS112 := (show True ∧ S_NM_format_c47 t0_0 t0_1 t0_2 t1_0 t1_1 t1_2 t1_3 t1_4 t1_5 t1_6 t1_7 t1_8 t1_9 t1_10 t1_11 t1_12 t1_13 t1_14 t1_15 t1_16 t1_17 t1_18 t1_19 t1_20 t1_21 t2_0 t3_0 t4_0 t5_0 t6_0 t7_0 t8_0 t9_0 t10_0 t11_0 t12_0 lx67 p107 from (by rw [e108]; have h := hS87; rw [S_NM_format_J16.eq_1] at h; rw [if_pos c93] at h; replace h := q_s2 h; with_reducible exact h))
      refine q_putN (ci := 17) (j := 2) (v := .int a98) (ty := .int) C0 V i_VR o_VR n_VR rfl rfl hT1 (by decide) wo_2202 rfl rfl rfl rfl (Nat.le_of_ble_eq_true rfl) d_14_38_50 (fun H locs w116 hu117 hT1 V => ?_)
      replace hT1 : w116[157]? = (some (q 157, .inr (17, [.int t1_0, .ref (q 158), .int a98, .int t1_2, .ref (q 159), .ref (q 160), .ref (q 161), .ref (q 162), .ref (q 163), .int t1_3, .ref (q 164), .int t1_4, .int t1_5, .int t1_6, .int t1_7, .int t1_8, .int t1_9, .int t1_10, .int t1_11, .int t1_12, .int t1_13, .int t1_14, .int t1_15, .int t1_16, .ref (q 165), .int t1_17, .int t1_18, .int t1_19, .ref (q 166), .int t1_20, .int t1_21])) : Option (Nat × va_E)) := hT1
      replace hI := n_p157 hI hu117 hT1 ⟨(by have t1 : 0 ≤ t0_1.toInt ∧ t0_1.toInt ≤ 4100 := btt0_1; have t2 : t0_1.toInt ≤ a98.toInt := b101; omega), (by first | with_reducible exact q_fe b104 | (have t1 : a98.toInt ≤ 256 := b104; omega))⟩ (by first | with_reducible exact q_fe btt1_2 | exact ⟨(by have t1 : 0 ≤ t1_2.toInt ∧ t1_2.toInt ≤ 9 := btt1_2; omega), (by have t1 : 0 ≤ t1_2.toInt ∧ t1_2.toInt ≤ 9 := btt1_2; omega)⟩) (by first | with_reducible exact q_fe btt1_3 | exact ⟨(by have t1 : 0 ≤ t1_3.toInt ∧ t1_3.toInt ≤ 4096 := btt1_3; omega), (by have t1 : 0 ≤ t1_3.toInt ∧ t1_3.toInt ≤ 4096 := btt1_3; omega)⟩) (by first | with_reducible exact q_fe btt1_10 | exact ⟨(by have t1 : 0 ≤ t1_10.toInt ∧ t1_10.toInt ≤ 1 := btt1_10; omega), (by have t1 : 0 ≤ t1_10.toInt ∧ t1_10.toInt ≤ 1 := btt1_10; omega)⟩) (by first | with_reducible exact q_fe btt1_19 | exact ⟨(by have t1 : 0 ≤ t1_19.toInt ∧ t1_19.toInt ≤ 1 := btt1_19; omega), (by have t1 : 0 ≤ t1_19.toInt ∧ t1_19.toInt ≤ 1 := btt1_19; omega)⟩)
      replace hT0 := (hu117 _ (by decide)).trans hT0
      replace hA100 := (hu117 _ (by decide)).trans hA100
      replace hT3 := (hu117 _ (by decide)).trans hT3
      replace hT4 := (hu117 _ (by decide)).trans hT4
      replace hT5 := (hu117 _ (by decide)).trans hT5
      replace hT6 := (hu117 _ (by decide)).trans hT6
      replace hT7 := (hu117 _ (by decide)).trans hT7
      replace hT8 := (hu117 _ (by decide)).trans hT8
      replace hT9 := (hu117 _ (by decide)).trans hT9
      replace hT10 := (hu117 _ (by decide)).trans hT10
      replace hT12 := (hu117 _ (by decide)).trans hT12
      replace hF := q_us hF hu117 (by simp)
      refine lv_aload_n hx hb d_14_38_53 rfl (lv_at hl 0 rfl) ?_
      refine q_get (ci := 12) (j := 9) (v := .ref (q 157)) C0 V i_NM rfl rfl hT0 (by decide) w_2307 rfl d_14_38_54 ?_
      have ob118 : True ∧ S_VR_print t1_0 a98 t1_2 t1_3 t1_4 t1_5 t1_6 t1_7 t1_8 t1_9 t1_10 t1_11 t1_12 t1_13 t1_14 t1_15 t1_16 t1_17 t1_18 t1_19 t1_20 t1_21 f99 t3_0 t4_0 t5_0 t6_0 t7_0 t8_0 t9_0 t10_0 := (by rw [e110, e109]; have h := hS112; rw [S_NM_format_c47.eq_1] at h; with_reducible exact h.2.1)
      refine q_goi V (q_runV (As := []) (rest := []) (d := 9) (mc := 0) (ms := 0) (ci := 17) C0 V rfl LV_NM_334 (X_VR_print l D g q w116   hI t1_0 a98 t1_2 t1_3 t1_4 t1_5 t1_6 t1_7 t1_8 t1_9 t1_10 t1_11 t1_12 t1_13 t1_14 t1_15 t1_16 t1_17 t1_18 t1_19 t1_20 t1_21 hT1 f99 hA100 t3_0 hT3 t4_0 hT4 t5_0 hT5 t6_0 hT6 t7_0 hT7 t8_0 hT8 t9_0 hT9 t10_0 hT10 ob118 _) rfl rfl hT1 rfl hl.1 rfl (Nat.le_of_ble_eq_true rfl) ⟨by decide, by decide⟩ ⟨Nat.le_of_ble_eq_true rfl, Nat.le_of_ble_eq_true rfl⟩ d_14_38_57) (fun a121 u119 H locs hp120 V => ?_)
      obtain ⟨hI, hZ9⟩ := hp120
      obtain ⟨hu167, hZ9⟩ := hZ9
      obtain ⟨y123, hZ9⟩ := hZ9
      obtain ⟨y124, hZ9⟩ := hZ9
      obtain ⟨y125, hZ9⟩ := hZ9
      obtain ⟨y126, hZ9⟩ := hZ9
      obtain ⟨y127, hZ9⟩ := hZ9
      obtain ⟨y128, hZ9⟩ := hZ9
      obtain ⟨y129, hZ9⟩ := hZ9
      obtain ⟨y130, hZ9⟩ := hZ9
      obtain ⟨y131, hZ9⟩ := hZ9
      obtain ⟨y132, hZ9⟩ := hZ9
      obtain ⟨y133, hZ9⟩ := hZ9
      obtain ⟨y134, hZ9⟩ := hZ9
      obtain ⟨y135, hZ9⟩ := hZ9
      obtain ⟨y136, hZ9⟩ := hZ9
      obtain ⟨y137, hZ9⟩ := hZ9
      obtain ⟨y138, hZ9⟩ := hZ9
      obtain ⟨y139, hZ9⟩ := hZ9
      obtain ⟨y140, hZ9⟩ := hZ9
      obtain ⟨y141, hZ9⟩ := hZ9
      obtain ⟨y142, hZ9⟩ := hZ9
      obtain ⟨f143, hZ9⟩ := hZ9
      obtain ⟨f145, hZ9⟩ := hZ9
      obtain ⟨f147, hZ9⟩ := hZ9
      obtain ⟨f149, hZ9⟩ := hZ9
      obtain ⟨hO122, hZ9⟩ := hZ9
      obtain ⟨hA144, hZ9⟩ := hZ9
      obtain ⟨hA146, hZ9⟩ := hZ9
      obtain ⟨hA148, hZ9⟩ := hZ9
      obtain ⟨hA150, hZ9⟩ := hZ9
      obtain ⟨b151, hZ9⟩ := hZ9
      obtain ⟨b152, hZ9⟩ := hZ9
      replace hZ9 := hZ9.2.2.2
      obtain ⟨b156, hZ9⟩ := hZ9
      obtain ⟨b157, hZ9⟩ := hZ9
      replace hZ9 := hZ9.2.2
      obtain ⟨b160, hZ9⟩ := hZ9
      obtain ⟨b161, hZ9⟩ := hZ9
      obtain ⟨b162, hZ9⟩ := hZ9
      obtain ⟨b163, hZ9⟩ := hZ9
      replace hZ9 := hZ9.2
      obtain ⟨-, hE166⟩ := hZ9
      replace hO122 : u119[157]? = (some (q 157, .inr (17, [.int y123, .ref (q 158), .int a98, .int t1_2, .ref (q 159), .ref (q 160), .ref (q 161), .ref (q 162), .ref (q 163), .int y124, .ref (q 164), .int y125, .int y126, .int y127, .int y128, .int y129, .int y130, .int y131, .int y132, .int y133, .int y134, .int y135, .int y136, .int y137, .ref (q 165), .int y138, .int y139, .int y140, .ref (q 166), .int y141, .int y142])) : Option (Nat × va_E)) := hO122
      replace hA144 : u119[163]? = (some (q 163, .inl (g 0, (4096 : Int32).toNatClampNeg, .inl f143)) : Option (Nat × va_E)) := hA144
      replace hA146 : u119[164]? = (some (q 164, .inl (g 0, (4096 : Int32).toNatClampNeg, .inl f145)) : Option (Nat × va_E)) := hA146
      replace hA148 : u119[165]? = (some (q 165, .inl (g 0, (20200 : Int32).toNatClampNeg, .inl f147)) : Option (Nat × va_E)) := hA148
      replace hA150 : u119[166]? = (some (q 166, .inl (g 0, (64 : Int32).toNatClampNeg, .inl f149)) : Option (Nat × va_E)) := hA150
      obtain ⟨p168, e169⟩ : ∃ z, z = (F_VR_print t1_0 a98 t1_2 t1_3 t1_4 t1_5 t1_6 t1_7 t1_8 t1_9 t1_10 t1_11 t1_12 t1_13 t1_14 t1_15 t1_16 t1_17 t1_18 t1_19 t1_20 t1_21 f99 t3_0 t4_0 t5_0 t6_0 t7_0 t8_0 t9_0 t10_0) := ⟨_, rfl⟩
      have e170 : a121 = p168.1 := congrArg (fun z => z.1) (hE166.trans e169.symm)
      have e171 : y123 = p168.2.1 := congrArg (fun z => z.2.1) (hE166.trans e169.symm)
      have e172 : y124 = p168.2.2.1 := congrArg (fun z => z.2.2.1) (hE166.trans e169.symm)
      have e173 : y125 = p168.2.2.2.1 := congrArg (fun z => z.2.2.2.1) (hE166.trans e169.symm)
      have e174 : y126 = p168.2.2.2.2.1 := congrArg (fun z => z.2.2.2.2.1) (hE166.trans e169.symm)
      have e175 : y127 = p168.2.2.2.2.2.1 := congrArg (fun z => z.2.2.2.2.2.1) (hE166.trans e169.symm)
      have e176 : y128 = p168.2.2.2.2.2.2.1 := congrArg (fun z => z.2.2.2.2.2.2.1) (hE166.trans e169.symm)
      have e177 : y129 = p168.2.2.2.2.2.2.2.1 := congrArg (fun z => z.2.2.2.2.2.2.2.1) (hE166.trans e169.symm)
      have e178 : y130 = p168.2.2.2.2.2.2.2.2.1 := congrArg (fun z => z.2.2.2.2.2.2.2.2.1) (hE166.trans e169.symm)
      have e179 : y131 = p168.2.2.2.2.2.2.2.2.2.1 := congrArg (fun z => z.2.2.2.2.2.2.2.2.2.1) (hE166.trans e169.symm)
      have e180 : y132 = p168.2.2.2.2.2.2.2.2.2.2.1 := congrArg (fun z => z.2.2.2.2.2.2.2.2.2.2.1) (hE166.trans e169.symm)
      have e181 : y133 = p168.2.2.2.2.2.2.2.2.2.2.2.1 := congrArg (fun z => z.2.2.2.2.2.2.2.2.2.2.2.1) (hE166.trans e169.symm)
      have e182 : y134 = p168.2.2.2.2.2.2.2.2.2.2.2.2.1 := congrArg (fun z => z.2.2.2.2.2.2.2.2.2.2.2.2.1) (hE166.trans e169.symm)
      have e183 : y135 = p168.2.2.2.2.2.2.2.2.2.2.2.2.2.1 := congrArg (fun z => z.2.2.2.2.2.2.2.2.2.2.2.2.2.1) (hE166.trans e169.symm)
      have e184 : y136 = p168.2.2.2.2.2.2.2.2.2.2.2.2.2.2.1 := congrArg (fun z => z.2.2.2.2.2.2.2.2.2.2.2.2.2.2.1) (hE166.trans e169.symm)
      have e185 : y137 = p168.2.2.2.2.2.2.2.2.2.2.2.2.2.2.2.1 := congrArg (fun z => z.2.2.2.2.2.2.2.2.2.2.2.2.2.2.2.1) (hE166.trans e169.symm)
      have e186 : y138 = p168.2.2.2.2.2.2.2.2.2.2.2.2.2.2.2.2.1 := congrArg (fun z => z.2.2.2.2.2.2.2.2.2.2.2.2.2.2.2.2.1) (hE166.trans e169.symm)
      have e187 : y139 = p168.2.2.2.2.2.2.2.2.2.2.2.2.2.2.2.2.2.1 := congrArg (fun z => z.2.2.2.2.2.2.2.2.2.2.2.2.2.2.2.2.2.1) (hE166.trans e169.symm)
      have e188 : y140 = p168.2.2.2.2.2.2.2.2.2.2.2.2.2.2.2.2.2.2.1 := congrArg (fun z => z.2.2.2.2.2.2.2.2.2.2.2.2.2.2.2.2.2.2.1) (hE166.trans e169.symm)
      have e189 : y141 = p168.2.2.2.2.2.2.2.2.2.2.2.2.2.2.2.2.2.2.2.1 := congrArg (fun z => z.2.2.2.2.2.2.2.2.2.2.2.2.2.2.2.2.2.2.2.1) (hE166.trans e169.symm)
      have e190 : y142 = p168.2.2.2.2.2.2.2.2.2.2.2.2.2.2.2.2.2.2.2.2.1 := congrArg (fun z => z.2.2.2.2.2.2.2.2.2.2.2.2.2.2.2.2.2.2.2.2.1) (hE166.trans e169.symm)
      have e191 : f143 = p168.2.2.2.2.2.2.2.2.2.2.2.2.2.2.2.2.2.2.2.2.2.1 := congrArg (fun z => z.2.2.2.2.2.2.2.2.2.2.2.2.2.2.2.2.2.2.2.2.2.1) (hE166.trans e169.symm)
      have e192 : f145 = p168.2.2.2.2.2.2.2.2.2.2.2.2.2.2.2.2.2.2.2.2.2.2.1 := congrArg (fun z => z.2.2.2.2.2.2.2.2.2.2.2.2.2.2.2.2.2.2.2.2.2.2.1) (hE166.trans e169.symm)
      have e193 : f147 = p168.2.2.2.2.2.2.2.2.2.2.2.2.2.2.2.2.2.2.2.2.2.2.2.1 := congrArg (fun z => z.2.2.2.2.2.2.2.2.2.2.2.2.2.2.2.2.2.2.2.2.2.2.2.1) (hE166.trans e169.symm)
      have e194 : f149 = p168.2.2.2.2.2.2.2.2.2.2.2.2.2.2.2.2.2.2.2.2.2.2.2.2 := congrArg (fun z => z.2.2.2.2.2.2.2.2.2.2.2.2.2.2.2.2.2.2.2.2.2.2.2.2) (hE166.trans e169.symm)
      replace b151 : q_F (0 ≤ y123.toInt) := b151
      replace b152 : q_F (y123.toInt ≤ 0) := b152
      replace b156 : q_F (y124.toInt ≤ y123.toInt + 4096) := b156
      replace b157 : q_F (y123.toInt ≤ y124.toInt) := b157
      replace b160 : q_F (y131.toInt ≤ y123.toInt + 1) := b160
      replace b161 : q_F (y123.toInt ≤ y131.toInt) := b161
      replace b162 : q_F (y140.toInt ≤ y123.toInt + 1) := b162
      replace b163 : q_F (y123.toInt ≤ y140.toInt) := b163
      replace hT0 := (hu167 _ (by decide)).trans hT0
      replace hA100 := (hu167 _ (by decide)).trans hA100
      replace hT12 := (hu167 _ (by decide)).trans hT12
      replace hF := q_uc hF hu167 (by simp)
      have hR195 := (show F_NM_format_c57 t0_0 t0_1 t0_2 t1_0 t1_1 t1_2 t1_3 t1_4 t1_5 t1_6 t1_7 t1_8 t1_9 t1_10 t1_11 t1_12 t1_13 t1_14 t1_15 t1_16 t1_17 t1_18 t1_19 t1_20 t1_21 t2_0 t3_0 t4_0 t5_0 t6_0 t7_0 t8_0 t9_0 t10_0 t11_0 t12_0 lx67 p107 a98 f99 p168 = (F_NM_format t0_0 t0_1 t0_2 t1_0 t1_1 t1_2 t1_3 t1_4 t1_5 t1_6 t1_7 t1_8 t1_9 t1_10 t1_11 t1_12 t1_13 t1_14 t1_15 t1_16 t1_17 t1_18 t1_19 t1_20 t1_21 t2_0 t3_0 t4_0 t5_0 t6_0 t7_0 t8_0 t9_0 t10_0 t11_0 t12_0) from Eq.trans (by rw [e169, e110, e109, F_NM_format_c47.eq_1]) hR111)
      have hS196 := (show True ∧ S_NM_format_c57 t0_0 t0_1 t0_2 t1_0 t1_1 t1_2 t1_3 t1_4 t1_5 t1_6 t1_7 t1_8 t1_9 t1_10 t1_11 t1_12 t1_13 t1_14 t1_15 t1_16 t1_17 t1_18 t1_19 t1_20 t1_21 t2_0 t3_0 t4_0 t5_0 t6_0 t7_0 t8_0 t9_0 t10_0 t11_0 t12_0 lx67 p107 a98 f99 p168 from (by rw [e169, e110, e109]; have h := hS112; rw [S_NM_format_c47.eq_1] at h; replace h := q_s2 h; with_reducible exact h))
      refine lv_istore_n (lv' := [(1, .int a121), (0, .ref (q 116))]) hx hb d_14_38_60 rfl hl (by decide) rfl (fun ls hl => ?_)
      refine lv_aload_n hx hb d_14_38_61 rfl (lv_at hl 1 rfl) ?_
      refine q_get (ci := 12) (j := 9) (v := .ref (q 157)) C0 V i_NM rfl rfl hT0 (by decide) w_2307 rfl d_14_38_62 ?_
      refine lv_iconst (v := 0) hx hb d_14_38_65 (by decide) ?_
      refine q_putN (ci := 17) (j := 2) (v := .int 0) (ty := .int) C0 V i_VR o_VR n_VR rfl rfl hO122 (by decide) wo_2202 rfl rfl rfl rfl (Nat.le_of_ble_eq_true rfl) d_14_38_66 (fun H locs w200 hu201 hO122 V => ?_)
      replace hO122 : w200[157]? = (some (q 157, .inr (17, [.int y123, .ref (q 158), .int 0, .int t1_2, .ref (q 159), .ref (q 160), .ref (q 161), .ref (q 162), .ref (q 163), .int y124, .ref (q 164), .int y125, .int y126, .int y127, .int y128, .int y129, .int y130, .int y131, .int y132, .int y133, .int y134, .int y135, .int y136, .int y137, .ref (q 165), .int y138, .int y139, .int y140, .ref (q 166), .int y141, .int y142])) : Option (Nat × va_E)) := hO122
      replace hI := n_p157 hI hu201 hO122 ⟨(by have z9 : (0 : Int32).toInt = 0 := rfl; omega), (by have z9 : (0 : Int32).toInt = 0 := rfl; omega)⟩ (by first | with_reducible exact q_fe btt1_2 | exact ⟨(by have t1 : 0 ≤ t1_2.toInt ∧ t1_2.toInt ≤ 9 := btt1_2; omega), (by have t1 : 0 ≤ t1_2.toInt ∧ t1_2.toInt ≤ 9 := btt1_2; omega)⟩) ⟨(by have t1 : 0 ≤ y123.toInt := b151; have t2 : y123.toInt ≤ y124.toInt := b157; omega), (by have t1 : y123.toInt ≤ 0 := b152; have t2 : y124.toInt ≤ y123.toInt + 4096 := b156; omega)⟩ ⟨(by have t1 : 0 ≤ y123.toInt := b151; have t2 : y123.toInt ≤ y131.toInt := b161; omega), (by have t1 : y123.toInt ≤ 0 := b152; have t2 : y131.toInt ≤ y123.toInt + 1 := b160; omega)⟩ ⟨(by have t1 : 0 ≤ y123.toInt := b151; have t2 : y123.toInt ≤ y140.toInt := b163; omega), (by have t1 : y123.toInt ≤ 0 := b152; have t2 : y140.toInt ≤ y123.toInt + 1 := b162; omega)⟩
      replace hT0 := (hu201 _ (by decide)).trans hT0
      replace hA100 := (hu201 _ (by decide)).trans hA100
      replace hA144 := (hu201 _ (by decide)).trans hA144
      replace hA146 := (hu201 _ (by decide)).trans hA146
      replace hA148 := (hu201 _ (by decide)).trans hA148
      replace hA150 := (hu201 _ (by decide)).trans hA150
      replace hT12 := (hu201 _ (by decide)).trans hT12
      replace hF := q_us hF hu201 (by simp)
      refine lv_iload_n hx hb d_14_38_69 rfl (lv_at hl 0 rfl) ?_
      refine lv_if_ge (tgt := 98) hx hb d_14_38_70 (by decide) (fun c202 => ?_) (fun c202 => ?_)
      ·
        refine lv_aload_n hx hb d_14_38_98 rfl (lv_at hl 1 rfl) ?_
        refine lv_iconst (v := 0) hx hb d_14_38_99 (by decide) ?_
        refine q_put (ci := 12) (j := 2) (v := .int 0) (ty := .int) C0 V i_NM o_NM n_NM rfl rfl hT0 (by decide) w_2300 rfl rfl rfl rfl (Nat.le_of_ble_eq_true rfl) d_14_38_100 (fun H locs w204 hu205 hT0 V => ?_)
        replace hT0 : w204[116]? = (some (q 116, .inr (12, [.int lx67, .ref (q 117), .int 0, .ref (q 118), .int t0_2, .ref (q 119), .ref (q 134), .ref (q 145), .ref (q 153), .ref (q 157), .ref (q 167), .ref (q 168)])) : Option (Nat × va_E)) := hT0
        replace hI := n_p116 hI hu205 hT0 ⟨(by have z9 : (0 : Int32).toInt = 0 := rfl; omega), (by have z9 : (0 : Int32).toInt = 0 := rfl; omega)⟩ (by first | with_reducible exact q_fe btt0_2 | exact ⟨(by have t1 : 0 ≤ t0_2.toInt ∧ t0_2.toInt ≤ 12200 := btt0_2; omega), (by have t1 : 0 ≤ t0_2.toInt ∧ t0_2.toInt ≤ 12200 := btt0_2; omega)⟩)
        replace hO122 := (hu205 _ (by decide)).trans hO122
        replace hA100 := (hu205 _ (by decide)).trans hA100
        replace hA144 := (hu205 _ (by decide)).trans hA144
        replace hA146 := (hu205 _ (by decide)).trans hA146
        replace hA148 := (hu205 _ (by decide)).trans hA148
        replace hA150 := (hu205 _ (by decide)).trans hA150
        replace hT12 := (hu205 _ (by decide)).trans hT12
        replace hF := q_us hF hu205 (by simp)
        refine lv_aload_n hx hb d_14_38_103 rfl (lv_at hl 1 rfl) ?_
        refine lv_aload_n hx hb d_14_38_104 rfl (lv_at hl 1 rfl) ?_
        refine q_get (ci := 12) (j := 9) (v := .ref (q 157)) C0 V i_NM rfl rfl hT0 (by decide) w_2307 rfl d_14_38_105 ?_
        refine q_getN (ci := 17) (j := 8) (v := .ref (q 163)) C0 V i_VR rfl rfl hO122 (by decide) wo_2210 rfl d_14_38_108 ?_
        refine lv_iload_n hx hb d_14_38_111 rfl (lv_at hl 0 rfl) ?_
        have ob206 : True ∧ S_NM_show (4096 : Int32) a121 lx67 (0 : Int32) t0_2 t12_0 f143 := (by rw [e191, e170]; have h := hS196; rw [S_NM_format_c57.eq_1] at h; have c202x := c202; rw [e170] at c202x; rw [if_pos c202x] at h; with_reducible exact h.2.1)
        refine q_goi V (q_runV (As := [.ref (q 163), .int a121]) (rest := []) (d := 1) (mc := 0) (ms := 0) (ci := 12) C0 V rfl LV_NM_269 (X_NM_show l D g q w204 163 4096 (n_r163 g q) a121 (by decide) hI lx67 0 t0_2 hT0 t12_0 hT12 f143 hA144 ob206 _) rfl rfl hT0 rfl hl.1 rfl (Nat.le_of_ble_eq_true rfl) ⟨by decide, by decide⟩ ⟨Nat.le_of_ble_eq_true rfl, Nat.le_of_ble_eq_true rfl⟩ d_14_38_112) (fun a209 u207 H locs hp208 V => ?_)
        obtain ⟨hI, hZ9⟩ := hp208
        obtain ⟨hu222, hZ9⟩ := hZ9
        obtain ⟨y211, hZ9⟩ := hZ9
        obtain ⟨f212, hZ9⟩ := hZ9
        obtain ⟨hO210, hZ9⟩ := hZ9
        obtain ⟨hA213, hZ9⟩ := hZ9
        obtain ⟨b214, hZ9⟩ := hZ9
        replace hZ9 := hZ9.2.2.2
        obtain ⟨b218, hZ9⟩ := hZ9
        replace hZ9 := hZ9.2
        obtain ⟨-, hE221⟩ := hZ9
        replace hO210 : u207[116]? = (some (q 116, .inr (12, [.int lx67, .ref (q 117), .int 0, .ref (q 118), .int y211, .ref (q 119), .ref (q 134), .ref (q 145), .ref (q 153), .ref (q 157), .ref (q 167), .ref (q 168)])) : Option (Nat × va_E)) := hO210
        replace hA213 : u207[118]? = (some (q 118, .inl (g 0, (12200 : Int32).toNatClampNeg, .inl f212)) : Option (Nat × va_E)) := hA213
        obtain ⟨p223, e224⟩ : ∃ z, z = (F_NM_show (4096 : Int32) a121 lx67 (0 : Int32) t0_2 t12_0 f143) := ⟨_, rfl⟩
        have e225 : a209 = p223.1 := congrArg (fun z => z.1) (hE221.trans e224.symm)
        have e226 : y211 = p223.2.1 := congrArg (fun z => z.2.1) (hE221.trans e224.symm)
        have e227 : f212 = p223.2.2 := congrArg (fun z => z.2.2) (hE221.trans e224.symm)
        replace b214 : q_F (0 ≤ y211.toInt) := b214
        replace b218 : q_F (y211.toInt ≤ 4096) := b218
        replace hO122 := (hu222 _ (by decide)).trans hO122
        replace hA100 := (hu222 _ (by decide)).trans hA100
        replace hA144 := (hu222 _ (by decide)).trans hA144
        replace hA146 := (hu222 _ (by decide)).trans hA146
        replace hA148 := (hu222 _ (by decide)).trans hA148
        replace hA150 := (hu222 _ (by decide)).trans hA150
        replace hF := q_uc hF hu222 (by simp)
        have hR228 := (show F_NM_format_c112 t0_0 t0_1 t0_2 t1_0 t1_1 t1_2 t1_3 t1_4 t1_5 t1_6 t1_7 t1_8 t1_9 t1_10 t1_11 t1_12 t1_13 t1_14 t1_15 t1_16 t1_17 t1_18 t1_19 t1_20 t1_21 t2_0 t3_0 t4_0 t5_0 t6_0 t7_0 t8_0 t9_0 t10_0 t11_0 t12_0 lx67 p107 a98 f99 p168 a121 y123 y124 y125 y126 y127 y128 y129 y130 y131 y132 y133 y134 y135 y136 y137 y138 y139 y140 y141 y142 f143 f145 f147 f149 p223 = (F_NM_format t0_0 t0_1 t0_2 t1_0 t1_1 t1_2 t1_3 t1_4 t1_5 t1_6 t1_7 t1_8 t1_9 t1_10 t1_11 t1_12 t1_13 t1_14 t1_15 t1_16 t1_17 t1_18 t1_19 t1_20 t1_21 t2_0 t3_0 t4_0 t5_0 t6_0 t7_0 t8_0 t9_0 t10_0 t11_0 t12_0) from Eq.trans (by have c202x := c202; rw [e170] at c202x; rw [e224, e194, e193, e192, e191, e190, e189, e188, e187, e186, e185, e184, e183, e182, e181, e180, e179, e178, e177, e176, e175, e174, e173, e172, e171, e170, F_NM_format_c57.eq_1, if_pos c202x]) hR195)
        have hS229 := (show True ∧ S_NM_format_c112 t0_0 t0_1 t0_2 t1_0 t1_1 t1_2 t1_3 t1_4 t1_5 t1_6 t1_7 t1_8 t1_9 t1_10 t1_11 t1_12 t1_13 t1_14 t1_15 t1_16 t1_17 t1_18 t1_19 t1_20 t1_21 t2_0 t3_0 t4_0 t5_0 t6_0 t7_0 t8_0 t9_0 t10_0 t11_0 t12_0 lx67 p107 a98 f99 p168 a121 y123 y124 y125 y126 y127 y128 y129 y130 y131 y132 y133 y134 y135 y136 y137 y138 y139 y140 y141 y142 f143 f145 f147 f149 p223 from (by rw [e224, e194, e193, e192, e191, e190, e189, e188, e187, e186, e185, e184, e183, e182, e181, e180, e179, e178, e177, e176, e175, e174, e173, e172, e171, e170]; have h := hS196; rw [S_NM_format_c57.eq_1] at h; have c202x := c202; rw [e170] at c202x; rw [if_pos c202x] at h; replace h := q_s2 h; with_reducible exact h))
        exact q_reti C0 V (⟨hI, hF, lx67, 0, y211, y123, 0, y124, y125, y126, y127, y128, y129, y130, y131, y132, y133, y134, y135, y136, y137, y138, y139, y140, y141, y142, f99, f143, f145, f147, f149, f212, hO210, hO122, hA100, hA144, hA146, hA148, hA150, hA213, (show 0 ≤ lx67.toInt from (by have z38 : (0 : Int32).toInt = 0 := rfl; have z41 : (0 : Int32).toInt = 0 := rfl; have t1 : 0 ≤ lx67.toInt := i82; omega)), (show lx67.toInt ≤ 1 from (by have z38 : (0 : Int32).toInt = 0 := rfl; have z41 : (0 : Int32).toInt = 0 := rfl; have t1 : lx67.toInt ≤ 1 := i83; omega)), (show 0 ≤ y211.toInt from (by have z38 : (0 : Int32).toInt = 0 := rfl; have z41 : (0 : Int32).toInt = 0 := rfl; have t1 : 0 ≤ y211.toInt := b214; omega)), (show 0 ≤ (0 : Int32).toInt from (by have z38 : (0 : Int32).toInt = 0 := rfl; have z41 : (0 : Int32).toInt = 0 := rfl; omega)), (show 0 ≤ y124.toInt from (by have z38 : (0 : Int32).toInt = 0 := rfl; have z41 : (0 : Int32).toInt = 0 := rfl; have t1 : 0 ≤ y123.toInt := b151; have t2 : y123.toInt ≤ y124.toInt := b157; omega)), (show y124.toInt ≤ 4096 from (by have z38 : (0 : Int32).toInt = 0 := rfl; have z41 : (0 : Int32).toInt = 0 := rfl; have t1 : y123.toInt ≤ 0 := b152; have t2 : y124.toInt ≤ y123.toInt + 4096 := b156; omega)), (show 0 ≤ y131.toInt from (by have z38 : (0 : Int32).toInt = 0 := rfl; have z41 : (0 : Int32).toInt = 0 := rfl; have t1 : 0 ≤ y123.toInt := b151; have t2 : y123.toInt ≤ y131.toInt := b161; omega)), (show y131.toInt ≤ 1 from (by have z38 : (0 : Int32).toInt = 0 := rfl; have z41 : (0 : Int32).toInt = 0 := rfl; have t1 : y123.toInt ≤ 0 := b152; have t2 : y131.toInt ≤ y123.toInt + 1 := b160; omega)), (show 0 ≤ y140.toInt from (by have z38 : (0 : Int32).toInt = 0 := rfl; have z41 : (0 : Int32).toInt = 0 := rfl; have t1 : 0 ≤ y123.toInt := b151; have t2 : y123.toInt ≤ y140.toInt := b163; omega)), (show y140.toInt ≤ 1 from (by have z38 : (0 : Int32).toInt = 0 := rfl; have z41 : (0 : Int32).toInt = 0 := rfl; have t1 : y123.toInt ≤ 0 := b152; have t2 : y140.toInt ≤ y123.toInt + 1 := b162; omega)), (show t0_1.toInt ≤ lx67.toInt + 4099 from (by have z38 : (0 : Int32).toInt = 0 := rfl; have z41 : (0 : Int32).toInt = 0 := rfl; have t1 : t0_1.toInt ≤ lx67.toInt + 4099 := i84; omega)), (show t0_1.toInt ≤ (0 : Int32).toInt + 256 from (by have z38 : (0 : Int32).toInt = 0 := rfl; have z41 : (0 : Int32).toInt = 0 := rfl; have t1 : t0_1.toInt ≤ a98.toInt := b101; have t2 : a98.toInt ≤ 256 := b104; omega)), (show (0 : Int32).toInt ≤ t0_1.toInt from (by have z38 : (0 : Int32).toInt = 0 := rfl; have z41 : (0 : Int32).toInt = 0 := rfl; have t1 : 0 ≤ t0_1.toInt ∧ t0_1.toInt ≤ 4100 := btt0_1; omega)), (show y211.toInt ≤ t0_2.toInt + 4096 from (by have z38 : (0 : Int32).toInt = 0 := rfl; have z41 : (0 : Int32).toInt = 0 := rfl; have t1 : 0 ≤ t0_2.toInt ∧ t0_2.toInt ≤ 12200 := btt0_2; have t2 : y211.toInt ≤ 4096 := b218; omega)), (show (0 : Int32).toInt ≤ t1_1.toInt from (by have z38 : (0 : Int32).toInt = 0 := rfl; have z41 : (0 : Int32).toInt = 0 := rfl; have t1 : 0 ≤ t1_1.toInt ∧ t1_1.toInt ≤ 256 := btt1_1; omega)), (show lx67.toInt ≤ (0 : Int32).toInt from (by have z38 : (0 : Int32).toInt = 0 := rfl; have z41 : (0 : Int32).toInt = 0 := rfl; have t1 : lx67.toInt ≤ 0 := b94; omega)), (show y211.toInt ≤ lx67.toInt + 12199 from (by have z38 : (0 : Int32).toInt = 0 := rfl; have z41 : (0 : Int32).toInt = 0 := rfl; have t1 : 0 ≤ lx67.toInt := i82; have t2 : y211.toInt ≤ 4096 := b218; omega)), (show (0 : Int32).toInt ≤ lx67.toInt + 255 from (by have z38 : (0 : Int32).toInt = 0 := rfl; have z41 : (0 : Int32).toInt = 0 := rfl; have t1 : 0 ≤ lx67.toInt := i82; omega)), (show (a209, lx67, (0 : Int32), y211, y123, (0 : Int32), y124, y125, y126, y127, y128, y129, y130, y131, y132, y133, y134, y135, y136, y137, y138, y139, y140, y141, y142, f99, f143, f145, f147, f149, f212) = (F_NM_format t0_0 t0_1 t0_2 t1_0 t1_1 t1_2 t1_3 t1_4 t1_5 t1_6 t1_7 t1_8 t1_9 t1_10 t1_11 t1_12 t1_13 t1_14 t1_15 t1_16 t1_17 t1_18 t1_19 t1_20 t1_21 t2_0 t3_0 t4_0 t5_0 t6_0 t7_0 t8_0 t9_0 t10_0 t11_0 t12_0) from Eq.trans (by rw [e227, e226, e225, F_NM_format_c112.eq_1]) hR228)⟩) d_14_38_115
      ·
        refine lv_aload_n hx hb d_14_38_73 rfl (lv_at hl 1 rfl) ?_
        refine lv_iconst (v := 0) hx hb d_14_38_74 (by decide) ?_
        refine q_put (ci := 12) (j := 4) (v := .int 0) (ty := .int) C0 V i_NM o_NM n_NM rfl rfl hT0 (by decide) w_2302 rfl rfl rfl rfl (Nat.le_of_ble_eq_true rfl) d_14_38_75 (fun H locs w234 hu235 hT0 V => ?_)
        replace hT0 : w234[116]? = (some (q 116, .inr (12, [.int lx67, .ref (q 117), .int t0_1, .ref (q 118), .int 0, .ref (q 119), .ref (q 134), .ref (q 145), .ref (q 153), .ref (q 157), .ref (q 167), .ref (q 168)])) : Option (Nat × va_E)) := hT0
        replace hI := n_p116 hI hu235 hT0 (by first | with_reducible exact q_fe btt0_1 | exact ⟨(by have t1 : 0 ≤ t0_1.toInt ∧ t0_1.toInt ≤ 4100 := btt0_1; omega), (by have t1 : 0 ≤ t0_1.toInt ∧ t0_1.toInt ≤ 4100 := btt0_1; omega)⟩) ⟨(by have z9 : (0 : Int32).toInt = 0 := rfl; omega), (by have z9 : (0 : Int32).toInt = 0 := rfl; omega)⟩
        replace hO122 := (hu235 _ (by decide)).trans hO122
        replace hA100 := (hu235 _ (by decide)).trans hA100
        replace hA144 := (hu235 _ (by decide)).trans hA144
        replace hA146 := (hu235 _ (by decide)).trans hA146
        replace hA148 := (hu235 _ (by decide)).trans hA148
        replace hA150 := (hu235 _ (by decide)).trans hA150
        replace hT12 := (hu235 _ (by decide)).trans hT12
        replace hF := q_us hF hu235 (by simp)
        refine lv_sipush (v := (-1000)) hx hb d_14_38_78 (by decide) ?_
        refine lv_aload_n hx hb d_14_38_81 rfl (lv_at hl 1 rfl) ?_
        refine q_get (ci := 12) (j := 9) (v := .ref (q 157)) C0 V i_NM rfl rfl hT0 (by decide) w_2307 rfl d_14_38_82 ?_
        refine q_getN (ci := 17) (j := 12) (v := .int y126) C0 V i_VR rfl rfl hO122 (by decide) wo_2214 rfl d_14_38_85 ?_
        refine lv_imul hx hb d_14_38_88 ?_
        obtain ⟨a236, e237⟩ := q_nm ((-1000) * y126 : Int32)
        refine q_ti (v := a236) e237 ?_
        refine lv_aload_n hx hb d_14_38_89 rfl (lv_at hl 1 rfl) ?_
        refine q_get (ci := 12) (j := 9) (v := .ref (q 157)) C0 V i_NM rfl rfl hT0 (by decide) w_2307 rfl d_14_38_90 ?_
        refine q_getN (ci := 17) (j := 13) (v := .int y127) C0 V i_VR rfl rfl hO122 (by decide) wo_2217 rfl d_14_38_93 ?_
        refine lv_isub hx hb d_14_38_96 ?_
        obtain ⟨a239, e240⟩ := q_nm (a236 - y127 : Int32)
        refine q_ti (v := a239) e240 ?_
        exact q_reti C0 V (⟨hI, hF, lx67, t0_1, 0, y123, 0, y124, y125, y126, y127, y128, y129, y130, y131, y132, y133, y134, y135, y136, y137, y138, y139, y140, y141, y142, f99, f143, f145, f147, f149, t12_0, hT0, hO122, hA100, hA144, hA146, hA148, hA150, hT12, (show 0 ≤ lx67.toInt from (by have z39 : (0 : Int32).toInt = 0 := rfl; have z41 : (0 : Int32).toInt = 0 := rfl; have t1 : 0 ≤ lx67.toInt := i82; omega)), (show lx67.toInt ≤ 1 from (by have z39 : (0 : Int32).toInt = 0 := rfl; have z41 : (0 : Int32).toInt = 0 := rfl; have t1 : lx67.toInt ≤ 1 := i83; omega)), (show 0 ≤ (0 : Int32).toInt from (by have z39 : (0 : Int32).toInt = 0 := rfl; have z41 : (0 : Int32).toInt = 0 := rfl; omega)), (show 0 ≤ (0 : Int32).toInt from (by have z39 : (0 : Int32).toInt = 0 := rfl; have z41 : (0 : Int32).toInt = 0 := rfl; omega)), (show 0 ≤ y124.toInt from (by have z39 : (0 : Int32).toInt = 0 := rfl; have z41 : (0 : Int32).toInt = 0 := rfl; have t1 : 0 ≤ y123.toInt := b151; have t2 : y123.toInt ≤ y124.toInt := b157; omega)), (show y124.toInt ≤ 4096 from (by have z39 : (0 : Int32).toInt = 0 := rfl; have z41 : (0 : Int32).toInt = 0 := rfl; have t1 : y123.toInt ≤ 0 := b152; have t2 : y124.toInt ≤ y123.toInt + 4096 := b156; omega)), (show 0 ≤ y131.toInt from (by have z39 : (0 : Int32).toInt = 0 := rfl; have z41 : (0 : Int32).toInt = 0 := rfl; have t1 : 0 ≤ y123.toInt := b151; have t2 : y123.toInt ≤ y131.toInt := b161; omega)), (show y131.toInt ≤ 1 from (by have z39 : (0 : Int32).toInt = 0 := rfl; have z41 : (0 : Int32).toInt = 0 := rfl; have t1 : y123.toInt ≤ 0 := b152; have t2 : y131.toInt ≤ y123.toInt + 1 := b160; omega)), (show 0 ≤ y140.toInt from (by have z39 : (0 : Int32).toInt = 0 := rfl; have z41 : (0 : Int32).toInt = 0 := rfl; have t1 : 0 ≤ y123.toInt := b151; have t2 : y123.toInt ≤ y140.toInt := b163; omega)), (show y140.toInt ≤ 1 from (by have z39 : (0 : Int32).toInt = 0 := rfl; have z41 : (0 : Int32).toInt = 0 := rfl; have t1 : y123.toInt ≤ 0 := b152; have t2 : y140.toInt ≤ y123.toInt + 1 := b162; omega)), (show t0_1.toInt ≤ lx67.toInt + 4099 from (by have z39 : (0 : Int32).toInt = 0 := rfl; have z41 : (0 : Int32).toInt = 0 := rfl; have t1 : t0_1.toInt ≤ lx67.toInt + 4099 := i84; omega)), (show t0_1.toInt ≤ t0_1.toInt + 256 from (by have z39 : (0 : Int32).toInt = 0 := rfl; have z41 : (0 : Int32).toInt = 0 := rfl; omega)), (show t0_1.toInt ≤ t0_1.toInt from (by have z39 : (0 : Int32).toInt = 0 := rfl; have z41 : (0 : Int32).toInt = 0 := rfl; omega)), (show (0 : Int32).toInt ≤ t0_2.toInt + 4096 from (by have z39 : (0 : Int32).toInt = 0 := rfl; have z41 : (0 : Int32).toInt = 0 := rfl; have t1 : 0 ≤ t0_2.toInt ∧ t0_2.toInt ≤ 12200 := btt0_2; omega)), (show (0 : Int32).toInt ≤ t1_1.toInt from (by have z39 : (0 : Int32).toInt = 0 := rfl; have z41 : (0 : Int32).toInt = 0 := rfl; have t1 : 0 ≤ t1_1.toInt ∧ t1_1.toInt ≤ 256 := btt1_1; omega)), (show lx67.toInt ≤ t0_1.toInt from (by have z39 : (0 : Int32).toInt = 0 := rfl; have z41 : (0 : Int32).toInt = 0 := rfl; have t1 : lx67.toInt ≤ t0_1.toInt := i85; omega)), (show (0 : Int32).toInt ≤ lx67.toInt + 12199 from (by have z39 : (0 : Int32).toInt = 0 := rfl; have z41 : (0 : Int32).toInt = 0 := rfl; have t1 : 0 ≤ lx67.toInt := i82; omega)), (show (0 : Int32).toInt ≤ lx67.toInt + 255 from (by have z39 : (0 : Int32).toInt = 0 := rfl; have z41 : (0 : Int32).toInt = 0 := rfl; have t1 : 0 ≤ lx67.toInt := i82; omega)), (show (a239, lx67, t0_1, (0 : Int32), y123, (0 : Int32), y124, y125, y126, y127, y128, y129, y130, y131, y132, y133, y134, y135, y136, y137, y138, y139, y140, y141, y142, f99, f143, f145, f147, f149, t12_0) = (F_NM_format t0_0 t0_1 t0_2 t1_0 t1_1 t1_2 t1_3 t1_4 t1_5 t1_6 t1_7 t1_8 t1_9 t1_10 t1_11 t1_12 t1_13 t1_14 t1_15 t1_16 t1_17 t1_18 t1_19 t1_20 t1_21 t2_0 t3_0 t4_0 t5_0 t6_0 t7_0 t8_0 t9_0 t10_0 t11_0 t12_0) from Eq.trans (by have c202x := c202; rw [e170] at c202x; rw [← e240, ← e237, e194, e193, e192, e191, e190, e189, e188, e187, e186, e185, e184, e183, e182, e181, e180, e179, e178, e177, e176, e175, e174, e173, e172, e171, F_NM_format_c57.eq_1, if_neg c202x]) hR195)⟩) d_14_38_97
    ·
      have b241 : q_F (0 < lx67.toInt) := (q_nleI c93)
      refine lv_iconst (v := 0) hx hb d_14_38_26 (by decide) ?_
      exact q_reti C0 V (⟨hI, hF, lx67, t0_1, t0_2, t1_0, t1_1, t1_3, t1_4, t1_5, t1_6, t1_7, t1_8, t1_9, t1_10, t1_11, t1_12, t1_13, t1_14, t1_15, t1_16, t1_17, t1_18, t1_19, t1_20, t1_21, t2_0, t7_0, t8_0, t9_0, t10_0, t12_0, hT0, hT1, hT2, hT7, hT8, hT9, hT10, hT12, (show 0 ≤ lx67.toInt from (by have z36 : (0 : Int32).toInt = 0 := rfl; have t1 : 0 ≤ lx67.toInt := i82; omega)), (show lx67.toInt ≤ 1 from (by have z36 : (0 : Int32).toInt = 0 := rfl; have t1 : lx67.toInt ≤ 1 := i83; omega)), (show 0 ≤ t0_2.toInt from (by have z36 : (0 : Int32).toInt = 0 := rfl; have t1 : 0 ≤ t0_2.toInt ∧ t0_2.toInt ≤ 12200 := btt0_2; omega)), (show 0 ≤ t1_1.toInt from (by have z36 : (0 : Int32).toInt = 0 := rfl; have t1 : 0 ≤ t1_1.toInt ∧ t1_1.toInt ≤ 256 := btt1_1; omega)), (show 0 ≤ t1_3.toInt from (by have z36 : (0 : Int32).toInt = 0 := rfl; have t1 : 0 ≤ t1_3.toInt ∧ t1_3.toInt ≤ 4096 := btt1_3; omega)), (show t1_3.toInt ≤ 4096 from (by have z36 : (0 : Int32).toInt = 0 := rfl; have t1 : 0 ≤ t1_3.toInt ∧ t1_3.toInt ≤ 4096 := btt1_3; omega)), (show 0 ≤ t1_10.toInt from (by have z36 : (0 : Int32).toInt = 0 := rfl; have t1 : 0 ≤ t1_10.toInt ∧ t1_10.toInt ≤ 1 := btt1_10; omega)), (show t1_10.toInt ≤ 1 from (by have z36 : (0 : Int32).toInt = 0 := rfl; have t1 : 0 ≤ t1_10.toInt ∧ t1_10.toInt ≤ 1 := btt1_10; omega)), (show 0 ≤ t1_19.toInt from (by have z36 : (0 : Int32).toInt = 0 := rfl; have t1 : 0 ≤ t1_19.toInt ∧ t1_19.toInt ≤ 1 := btt1_19; omega)), (show t1_19.toInt ≤ 1 from (by have z36 : (0 : Int32).toInt = 0 := rfl; have t1 : 0 ≤ t1_19.toInt ∧ t1_19.toInt ≤ 1 := btt1_19; omega)), (show t0_1.toInt ≤ lx67.toInt + 4099 from (by have z36 : (0 : Int32).toInt = 0 := rfl; have t1 : t0_1.toInt ≤ lx67.toInt + 4099 := i84; omega)), (show t0_1.toInt ≤ t0_1.toInt + 256 from (by have z36 : (0 : Int32).toInt = 0 := rfl; omega)), (show t0_1.toInt ≤ t0_1.toInt from (by have z36 : (0 : Int32).toInt = 0 := rfl; omega)), (show t0_2.toInt ≤ t0_2.toInt + 4096 from (by have z36 : (0 : Int32).toInt = 0 := rfl; omega)), (show t1_1.toInt ≤ t1_1.toInt from (by have z36 : (0 : Int32).toInt = 0 := rfl; omega)), (show lx67.toInt ≤ t0_1.toInt from (by have z36 : (0 : Int32).toInt = 0 := rfl; have t1 : lx67.toInt ≤ t0_1.toInt := i85; omega)), (show t0_2.toInt ≤ lx67.toInt + 12199 from (by have z36 : (0 : Int32).toInt = 0 := rfl; have t1 : 0 ≤ t0_2.toInt ∧ t0_2.toInt ≤ 12200 := btt0_2; have t2 : 0 < lx67.toInt := b241; omega)), (show t1_1.toInt ≤ lx67.toInt + 255 from (by have z36 : (0 : Int32).toInt = 0 := rfl; have t1 : 0 ≤ t1_1.toInt ∧ t1_1.toInt ≤ 256 := btt1_1; have t2 : 0 < lx67.toInt := b241; omega)), (show ((0 : Int32), lx67, t0_1, t0_2, t1_0, t1_1, t1_3, t1_4, t1_5, t1_6, t1_7, t1_8, t1_9, t1_10, t1_11, t1_12, t1_13, t1_14, t1_15, t1_16, t1_17, t1_18, t1_19, t1_20, t1_21, t2_0, t7_0, t8_0, t9_0, t10_0, t12_0) = (F_NM_format t0_0 t0_1 t0_2 t1_0 t1_1 t1_2 t1_3 t1_4 t1_5 t1_6 t1_7 t1_8 t1_9 t1_10 t1_11 t1_12 t1_13 t1_14 t1_15 t1_16 t1_17 t1_18 t1_19 t1_20 t1_21 t2_0 t3_0 t4_0 t5_0 t6_0 t7_0 t8_0 t9_0 t10_0 t11_0 t12_0) from Eq.trans (by rw [F_NM_format_J16.eq_1, if_neg c93]) hR86)⟩) d_14_38_27
  ·
    intro J81
    refine lv_icmp_le (tgt := 15) hx hb d_14_38_8 (by decide) (fun c242 => ?_) (fun c242 => ?_)
    ·
      have b243 : q_F (t0_1.toInt ≤ 256) := (q_leI c242)
      refine lv_iconst (v := 0) hx hb d_14_38_15 (by decide) ?_
      exact J81 ((0 : Int32)) _ _ _ ws ⟨(show q_F (0 ≤ 0) from (show 0 ≤ 0 from by omega)), (show q_F (0 ≤ 1) from (show 0 ≤ 1 from by omega)), (show q_F (t0_1.toInt ≤ 0 + 4099) from (show t0_1.toInt ≤ 0 + 4099 from by have t1 : t0_1.toInt ≤ 256 := b243; omega)), (show q_F (0 ≤ t0_1.toInt) from (show 0 ≤ t0_1.toInt from by have t1 : 0 ≤ t0_1.toInt ∧ t0_1.toInt ≤ 4100 := btt0_1; omega)), V, q_lw hl (q_lw1 0 rfl q_lw0), (show F_NM_format_J16 t0_0 t0_1 t0_2 t1_0 t1_1 t1_2 t1_3 t1_4 t1_5 t1_6 t1_7 t1_8 t1_9 t1_10 t1_11 t1_12 t1_13 t1_14 t1_15 t1_16 t1_17 t1_18 t1_19 t1_20 t1_21 t2_0 t3_0 t4_0 t5_0 t6_0 t7_0 t8_0 t9_0 t10_0 t11_0 t12_0 0 = (F_NM_format t0_0 t0_1 t0_2 t1_0 t1_1 t1_2 t1_3 t1_4 t1_5 t1_6 t1_7 t1_8 t1_9 t1_10 t1_11 t1_12 t1_13 t1_14 t1_15 t1_16 t1_17 t1_18 t1_19 t1_20 t1_21 t2_0 t3_0 t4_0 t5_0 t6_0 t7_0 t8_0 t9_0 t10_0 t11_0 t12_0) from (by rw [F_NM_format.eq_1, if_pos c242])), (show True ∧ S_NM_format_J16 t0_0 t0_1 t0_2 t1_0 t1_1 t1_2 t1_3 t1_4 t1_5 t1_6 t1_7 t1_8 t1_9 t1_10 t1_11 t1_12 t1_13 t1_14 t1_15 t1_16 t1_17 t1_18 t1_19 t1_20 t1_21 t2_0 t3_0 t4_0 t5_0 t6_0 t7_0 t8_0 t9_0 t10_0 t11_0 t12_0 0 from (by have h := hS; rw [S_NM_format.eq_1] at h; rw [if_pos c242] at h; with_reducible exact h))⟩
    ·
      have b244 : q_F (256 < t0_1.toInt) := (q_nleI c242)
      refine lv_iconst (v := 1) hx hb d_14_38_11 (by decide) ?_
      refine lv_goto (tgt := 16) hx hb d_14_38_12 (by decide) ?_
      exact J81 ((1 : Int32)) _ _ _ ws ⟨(show q_F (0 ≤ 1) from (show 0 ≤ 1 from by omega)), (show q_F (1 ≤ 1) from (show 1 ≤ 1 from by omega)), (show q_F (t0_1.toInt ≤ 1 + 4099) from (show t0_1.toInt ≤ 1 + 4099 from by have t1 : 0 ≤ t0_1.toInt ∧ t0_1.toInt ≤ 4100 := btt0_1; omega)), (show q_F (1 ≤ t0_1.toInt) from (show 1 ≤ t0_1.toInt from by have t1 : 256 < t0_1.toInt := b244; omega)), V, q_lw hl (q_lw1 0 rfl q_lw0), (show F_NM_format_J16 t0_0 t0_1 t0_2 t1_0 t1_1 t1_2 t1_3 t1_4 t1_5 t1_6 t1_7 t1_8 t1_9 t1_10 t1_11 t1_12 t1_13 t1_14 t1_15 t1_16 t1_17 t1_18 t1_19 t1_20 t1_21 t2_0 t3_0 t4_0 t5_0 t6_0 t7_0 t8_0 t9_0 t10_0 t11_0 t12_0 1 = (F_NM_format t0_0 t0_1 t0_2 t1_0 t1_1 t1_2 t1_3 t1_4 t1_5 t1_6 t1_7 t1_8 t1_9 t1_10 t1_11 t1_12 t1_13 t1_14 t1_15 t1_16 t1_17 t1_18 t1_19 t1_20 t1_21 t2_0 t3_0 t4_0 t5_0 t6_0 t7_0 t8_0 t9_0 t10_0 t11_0 t12_0) from (by rw [F_NM_format.eq_1, if_neg c242])), (show True ∧ S_NM_format_J16 t0_0 t0_1 t0_2 t1_0 t1_1 t1_2 t1_3 t1_4 t1_5 t1_6 t1_7 t1_8 t1_9 t1_10 t1_11 t1_12 t1_13 t1_14 t1_15 t1_16 t1_17 t1_18 t1_19 t1_20 t1_21 t2_0 t3_0 t4_0 t5_0 t6_0 t7_0 t8_0 t9_0 t10_0 t11_0 t12_0 1 from (by have h := hS; rw [S_NM_format.eq_1] at h; rw [if_neg c242] at h; with_reducible exact h))⟩

/-! NumberHouseModel: what its methods owe -/
def nmB (f : Nat → Int64) : Prop := ∀ i, 10 ≤ i → i < 20 → 0 ≤ (f i).toInt ∧ (f i).toInt < 4294967296
theorem nm_no1 {r : Int32} (h : F_NM_no_IZ r = 0) : 0 ≤ r.toInt ∧ r.toInt ≤ 9 := by
  unfold F_NM_no_IZ at h
  by_cases a : r < 0
  · rw [if_pos a] at h; exact absurd h (by decide)
  · rw [if_neg a] at h
    by_cases b : r ≤ 9
    · exact ⟨q_nltI a, q_leI b⟩
    · rw [if_neg b] at h; exact absurd h (by decide)
theorem nm_and {y : Int64} {m : Int64} (hm : 0 ≤ m.toInt) : 0 ≤ (y &&& m).toInt ∧ (y &&& m).toInt ≤ m.toInt := by
  obtain ⟨h1, h2, h3⟩ := s_nnL hm
  have e : (y &&& m).toBitVec.toNat = y.toBitVec.toNat &&& m.toBitVec.toNat := by rw [Int64.toBitVec_and, BitVec.toNat_and]
  have l : y.toBitVec.toNat &&& m.toBitVec.toNat ≤ m.toBitVec.toNat := Nat.and_le_right
  have r := s_ofL (x := y &&& m) e (by omega)
  rw [r]; omega
theorem vm_fe {x2 : Int32} {x3 : Int64} {t0_0 : Int32} {t0_1 : Int32} {t0_2 : Int32} {t1_0 : (Nat → Int32)} {lx10 : Int32} (h01 : 0 ≤ t0_1.toInt) (h02 : t0_1.toInt + x2.toInt ≤ 4100)  : ∀ (n : Nat) (lx30 : Int32) (lx31 : Int32) (lx32 : (Nat → Int32)), (0 ≤ lx30.toInt ∧ lx30.toInt ≤ x2.toInt) → (lx31.toInt = t0_1.toInt + lx30.toInt) → (4100 - lx30.toInt < (n : Int)) → (S_NM_feed_L46 x2 x3 t0_0 t0_1 t0_2 t1_0 lx10 n lx30 lx31 lx32) := by
  intro n
  induction n with
  | zero => intro lx30 lx31 lx32 hA0 hs hm; exact absurd (show False by omega) id
  | succ n ih =>
    intro lx30 lx31 lx32 hA0 hs hm
    have e0 : (0 : Int32).toInt = 0 := rfl
    have e1 : (1 : Int32).toInt = 1 := rfl
    have eL0 : (0 : Int64).toInt = 0 := rfl
    have em : (-1 : Int32).toInt = -1 := rfl
    rw [S_NM_feed_L46.eq_2]
    by_cases g1 : x2 ≤ lx30
    ·
      rw [if_pos g1]
      have g1i : x2.toInt ≤ lx30.toInt := q_leI g1
      exact trivial
    ·
      rw [if_neg g1]
      have g1i : lx30.toInt < x2.toInt := q_nleI g1
      refine And.intro (by first | omega | decide) ?_
      obtain ⟨a2, e3⟩ := q_nm (lx30 + 1 : Int32)
      rw [e3]
      have a2i : a2.toInt = lx30.toInt + 1 := by rw [← e3]; exact q_addI (x := lx30.toInt) (y := 1) rfl (by decide) (by omega) (by omega)
      obtain ⟨a4, e5⟩ := q_nm (lx31 + 1 : Int32)
      rw [e5]
      have a4i : a4.toInt = lx31.toInt + 1 := by rw [← e5]; exact q_addI (x := lx31.toInt) (y := 1) rfl (by decide) (by omega) (by omega)
      exact ih _ _ _ ⟨by omega, by omega⟩ (by omega) (by omega)
theorem T_NM_feedJ {x2 : Int32} {x3 : Int64} {t0_0 : Int32} {t0_1 : Int32} {t0_2 : Int32} {t1_0 : (Nat → Int32)} {lx10 : Int32} (h01 : 0 ≤ t0_1.toInt ∧ t0_1.toInt ≤ 4100) (hx : lx10.toInt ≤ 0 → 1 ≤ x2.toInt ∧ x2.toInt ≤ 8)  : (S_NM_feed_J17 x2 x3 t0_0 t0_1 t0_2 t1_0 lx10) := by
  have e0 : (0 : Int32).toInt = 0 := rfl
  have e1 : (1 : Int32).toInt = 1 := rfl
  have eL0 : (0 : Int64).toInt = 0 := rfl
  have em : (-1 : Int32).toInt = -1 := rfl
  unfold S_NM_feed_J17
  by_cases g1 : lx10 ≤ (0 : Int32)
  ·
    rw [if_pos g1]
    have hx2 := hx (q_leI g1)
    obtain ⟨a2, e3⟩ := q_nm (t0_1 + x2 : Int32)
    rw [e3]
    have a2i : a2.toInt = t0_1.toInt + x2.toInt := by rw [← e3]; exact q_addI (x := t0_1.toInt) (y := x2.toInt) rfl rfl (by omega) (by omega)
    by_cases g4 : a2 ≤ (4100 : Int32)
    ·
      rw [if_pos g4]
      have g4i : a2.toInt ≤ 4100 := q_leI g4
      exact vm_fe h01.1 (by omega) _ _ _ _ ⟨by decide, by omega⟩ (by omega) (by omega)
    ·
      rw [if_neg g4]
      have g4i : 4100 < a2.toInt := q_nleI g4
      exact trivial
  ·
    rw [if_neg g1]
    exact trivial
theorem T_NM_feed {x2 : Int32} {x3 : Int64} {t0_0 : Int32} {t0_1 : Int32} {t0_2 : Int32} {t1_0 : (Nat → Int32)} (h01 : 0 ≤ t0_1.toInt ∧ t0_1.toInt ≤ 4100)  : (S_NM_feed x2 x3 t0_0 t0_1 t0_2 t1_0) := by
  have e0 : (0 : Int32).toInt = 0 := rfl
  have e1 : (1 : Int32).toInt = 1 := rfl
  have eL0 : (0 : Int64).toInt = 0 := rfl
  have em : (-1 : Int32).toInt = -1 := rfl
  unfold S_NM_feed
  by_cases g1 : x2 < (1 : Int32)
  ·
    rw [if_pos g1]
    have g1i : x2.toInt < 1 := q_ltI g1
    unfold S_NM_feed_J12
    exact T_NM_feedJ h01 (fun z => absurd z (by decide))
  ·
    rw [if_neg g1]
    have g1i : 1 ≤ x2.toInt := q_nltI g1
    by_cases g2 : x2 ≤ (8 : Int32)
    ·
      rw [if_pos g2]
      have g2i : x2.toInt ≤ 8 := q_leI g2
      exact T_NM_feedJ h01 (fun _ => ⟨by omega, by omega⟩)
    ·
      rw [if_neg g2]
      have g2i : 8 < x2.toInt := q_nleI g2
      unfold S_NM_feed_J12
      exact T_NM_feedJ h01 (fun z => absurd z (by decide))
def Q_NM_load (x2 : Int32) (f : Nat → Int32) (p : Int32 × (Nat → Int32)) : Prop := p.1 = x2 ∧ ∀ i : Nat, (i : Int) < x2.toInt → p.2 i = f i
theorem nm_cp {k : Int32} {f r : Nat → Int32} (hk : 0 ≤ k.toInt) (h : ∀ i : Nat, (i : Int) < k.toInt → r i = f i) : ∀ i : Nat, (i : Int) < k.toInt + 1 → upd r k.toNatClampNeg (f k.toNatClampNeg) i = f i := fun i hi => by
  have e := q_clI (i := k) rfl hk
  by_cases c : i = k.toNatClampNeg
  · subst c; exact v_eq
  · rw [v_ne c]; exact h i (by omega)
theorem vm_ld {N1 : Int32} {x2 : Int32} {N3 : Int32} {t0_0 : (Nat → Int32)} {t1_0 : (Nat → Int32)} (hN1 : x2.toInt ≤ N1.toInt) (hN3 : x2.toInt ≤ N3.toInt) (hN : N1.toInt ≤ 20200)  : ∀ (n : Nat) (lx8 : Int32) (lx9 : (Nat → Int32)), (0 ≤ lx8.toInt ∧ (lx8.toInt ≤ x2.toInt ∨ lx8.toInt = 0)) → (20200 - lx8.toInt < (n : Int)) → (∀ i : Nat, (i : Int) < lx8.toInt → lx9 i = t0_0 i) → (S_NM_load_L2 N1 x2 N3 t0_0 t1_0 n lx8 lx9) ∧ Q_NM_load x2 t0_0 (F_NM_load_L2 N1 x2 N3 t0_0 t1_0 n lx8 lx9) := by
  intro n
  induction n with
  | zero => intro lx8 lx9 hA0 hm hq; exact absurd (show False by omega) id
  | succ n ih =>
    intro lx8 lx9 hA0 hm hq
    have e0 : (0 : Int32).toInt = 0 := rfl
    have e1 : (1 : Int32).toInt = 1 := rfl
    have eL0 : (0 : Int64).toInt = 0 := rfl
    have em : (-1 : Int32).toInt = -1 := rfl
    rw [S_NM_load_L2.eq_2, F_NM_load_L2.eq_2]
    by_cases g1 : x2 ≤ lx8
    ·
      rw [if_pos g1, if_pos g1]
      have g1i : x2.toInt ≤ lx8.toInt := q_leI g1
      refine ⟨trivial, ?_⟩
      exact ⟨rfl, fun i hi => hq i (by omega)⟩
    ·
      rw [if_neg g1, if_neg g1]
      have g1i : lx8.toInt < x2.toInt := q_nleI g1
      refine v_cons (by first | omega | decide) ?_
      refine v_cons (by first | omega | decide) ?_
      obtain ⟨a2, e3⟩ := q_nm (lx8 + 1 : Int32)
      rw [e3]
      have a2i : a2.toInt = lx8.toInt + 1 := by rw [← e3]; exact q_addI (x := lx8.toInt) (y := 1) rfl (by decide) (by omega) (by omega)
      exact ih _ _ ⟨by omega, by omega⟩ (by omega) (fun i hi => nm_cp hA0.1 hq i (by omega))
theorem T_NM_load {N1 : Int32} {x2 : Int32} {N3 : Int32} {t0_0 : (Nat → Int32)} {t1_0 : (Nat → Int32)} (hN1 : x2.toInt ≤ N1.toInt) (hN3 : x2.toInt ≤ N3.toInt) (hN : N1.toInt ≤ 20200)  : (S_NM_load N1 x2 N3 t0_0 t1_0) ∧ Q_NM_load x2 t0_0 (F_NM_load N1 x2 N3 t0_0 t1_0) := by
  have e0 : (0 : Int32).toInt = 0 := rfl
  have e1 : (1 : Int32).toInt = 1 := rfl
  have eL0 : (0 : Int64).toInt = 0 := rfl
  have em : (-1 : Int32).toInt = -1 := rfl
  unfold S_NM_load F_NM_load
  exact vm_ld hN1 hN3 hN _ _ _ ⟨by decide, Or.inr rfl⟩ (by decide) (fun i hi => absurd hi (by omega))
theorem vm_sh {N2 : Int32} {x3 : Int32} {t0_0 : Int32} {t0_1 : Int32} {t0_2 : Int32} {t1_0 : (Nat → Int32)} {t2_0 : (Nat → Int32)} (hx3 : 0 ≤ x3.toInt ∧ x3.toInt ≤ N2.toInt) (hx4 : x3.toInt ≤ 12200)  : ∀ (n : Nat) (lx14 : Int32) (lx15 : (Nat → Int32)), (0 ≤ lx14.toInt ∧ lx14.toInt ≤ x3.toInt) → (12200 - lx14.toInt < (n : Int)) → (S_NM_show_L2 N2 x3 t0_0 t0_1 t0_2 t1_0 t2_0 n lx14 lx15) := by
  intro n
  induction n with
  | zero => intro lx14 lx15 hA0 hm; exact absurd (show False by omega) id
  | succ n ih =>
    intro lx14 lx15 hA0 hm
    have e0 : (0 : Int32).toInt = 0 := rfl
    have e1 : (1 : Int32).toInt = 1 := rfl
    have eL0 : (0 : Int64).toInt = 0 := rfl
    have em : (-1 : Int32).toInt = -1 := rfl
    rw [S_NM_show_L2.eq_2]
    by_cases g1 : x3 ≤ lx14
    ·
      rw [if_pos g1]
      have g1i : x3.toInt ≤ lx14.toInt := q_leI g1
      refine And.intro (by first | omega | decide) ?_
      exact trivial
    ·
      rw [if_neg g1]
      have g1i : lx14.toInt < x3.toInt := q_nleI g1
      refine And.intro (by first | omega | decide) ?_
      refine And.intro (by first | omega | decide) ?_
      obtain ⟨a2, e3⟩ := q_nm (lx14 + 1 : Int32)
      rw [e3]
      have a2i : a2.toInt = lx14.toInt + 1 := by rw [← e3]; exact q_addI (x := lx14.toInt) (y := 1) rfl (by decide) (by omega) (by omega)
      exact ih _ _ ⟨by omega, by omega⟩ (by omega)
theorem T_NM_show {N2 : Int32} {x3 : Int32} {t0_0 : Int32} {t0_1 : Int32} {t0_2 : Int32} {t1_0 : (Nat → Int32)} {t2_0 : (Nat → Int32)} (hx3 : 0 ≤ x3.toInt ∧ x3.toInt ≤ N2.toInt) (hx4 : x3.toInt ≤ 12200)  : (S_NM_show N2 x3 t0_0 t0_1 t0_2 t1_0 t2_0) := by
  have e0 : (0 : Int32).toInt = 0 := rfl
  have e1 : (1 : Int32).toInt = 1 := rfl
  have eL0 : (0 : Int64).toInt = 0 := rfl
  have em : (-1 : Int32).toInt = -1 := rfl
  unfold S_NM_show
  exact vm_sh hx3 hx4 _ _ _ ⟨by decide, by omega⟩ (by decide)
theorem nm_no2 {k r : Int32} (h : F_NM_no_IIZ k r = 0) : (0 ≤ k.toInt ∧ k.toInt ≤ 3) ∧ 0 ≤ r.toInt ∧ r.toInt ≤ 9 := by
  unfold F_NM_no_IIZ at h
  by_cases a : k < 0
  · rw [if_pos a] at h; exact absurd h (by decide)
  · rw [if_neg a] at h
    by_cases b : 3 < k
    · rw [if_pos b] at h; exact absurd h (by decide)
    · rw [if_neg b] at h
      by_cases c : F_NM_no_IZ r = 0
      · exact ⟨⟨q_nltI a, q_nltI b⟩, nm_no1 c⟩
      · rw [if_neg c] at h; exact absurd h (by decide)
theorem nmB.put {f : Nat → Int64} {k : Nat} {x : Int64} (h : nmB f) (hx : 10 ≤ k → 0 ≤ x.toInt ∧ x.toInt < 4294967296) : nmB (vp_updL f k x) := fun i h1 h2 => by
  show 0 ≤ (if i = k then x else f i : Int64).toInt ∧ (if i = k then x else f i : Int64).toInt < 4294967296
  by_cases c : i = k
  · rw [if_pos c]; exact hx (by omega)
  · rw [if_neg c]; exact h i h1 h2
theorem T_NM_bitsOf {x2 : Int32} {x3 : Int32} {t0_0 : Int32} {t0_1 : Int32} {t0_2 : Int32} {t1_0 : (Nat → Int64)} (hx3 : 0 ≤ x3.toInt ∧ x3.toInt ≤ 9)  : (S_NM_bitsOf x2 x3 t0_0 t0_1 t0_2 t1_0) := by
  have e0 : (0 : Int32).toInt = 0 := rfl
  have e1 : (1 : Int32).toInt = 1 := rfl
  have eL0 : (0 : Int64).toInt = 0 := rfl
  have em : (-1 : Int32).toInt = -1 := rfl
  have e10 : (10 + x3 : Int32).toInt = 10 + x3.toInt := q_addI (x := 10) (by decide) rfl (by omega) (by omega)
  have ec := q_clI (i := x3) rfl hx3.1
  unfold S_NM_bitsOf
  by_cases g1 : x2 = (3 : Int32)
  ·
    rw [if_pos g1]
    obtain ⟨a2, e3⟩ := q_nm (10 + x3 : Int32)
    rw [e3]
    have a2i : a2.toInt = 10 + x3.toInt := by rw [← e3]; exact q_addI (x := 10) (y := x3.toInt) (by decide) rfl (by omega) (by omega)
    refine And.intro (by first | omega | decide) ?_
    refine And.intro (by first | omega | decide) ?_
    exact trivial
  ·
    rw [if_neg g1]
    refine And.intro (by first | omega | decide) ?_
    refine And.intro (by first | omega | decide) ?_
    exact trivial
theorem T_NM_setBits {x2 : Int32} {x3 : Int32} {x4 : Int64} {t0_0 : Int32} {t0_1 : Int32} {t0_2 : Int32} {t1_0 : (Nat → Int64)} (hx3 : 0 ≤ x3.toInt ∧ x3.toInt ≤ 9) (hB : nmB t1_0) (hv : x2 = 3 → 0 ≤ x4.toInt ∧ x4.toInt < 4294967296)  : (S_NM_setBits x2 x3 x4 t0_0 t0_1 t0_2 t1_0) ∧ nmB (F_NM_setBits x2 x3 x4 t0_0 t0_1 t0_2 t1_0) := by
  have e0 : (0 : Int32).toInt = 0 := rfl
  have e1 : (1 : Int32).toInt = 1 := rfl
  have eL0 : (0 : Int64).toInt = 0 := rfl
  have em : (-1 : Int32).toInt = -1 := rfl
  have e10 : (10 + x3 : Int32).toInt = 10 + x3.toInt := q_addI (x := 10) (by decide) rfl (by omega) (by omega)
  have ec := q_clI (i := x3) rfl hx3.1
  unfold S_NM_setBits F_NM_setBits
  by_cases g1 : x2 = (3 : Int32)
  ·
    rw [if_pos g1, if_pos g1]
    have hv3 := hv g1
    obtain ⟨a2, e3⟩ := q_nm (10 + x3 : Int32)
    rw [e3]
    have a2i : a2.toInt = 10 + x3.toInt := by rw [← e3]; exact q_addI (x := 10) (y := x3.toInt) (by decide) rfl (by omega) (by omega)
    refine v_cons (by first | omega | decide) ?_
    refine v_cons (by first | omega | decide) ?_
    refine ⟨trivial, ?_⟩
    exact hB.put (fun z => hv3)
  ·
    rw [if_neg g1, if_neg g1]
    refine v_cons (by first | omega | decide) ?_
    refine v_cons (by first | omega | decide) ?_
    refine ⟨trivial, ?_⟩
    exact hB.put (fun z => absurd z (by omega))

/-! NumberHouseModel: read, put, told, compare -/
theorem nm_and32 {y : Int64} : 0 ≤ (y &&& 4294967295 : Int64).toInt ∧ (y &&& 4294967295 : Int64).toInt < 4294967296 := by
  have h := nm_and (y := y) (m := 4294967295) (by decide)
  have e : (4294967295 : Int64).toInt = 4294967295 := by decide
  omega
def Q_NM_read (p : Int32 × Int32 × Int32 × Int32 × Int32 × Int32 × Int32 × Int32 × Int32 × Int32 × (Nat → Int32) × (Nat → Int32) × (Nat → Int32) × (Nat → Int32) × Int32 × Int32 × Int32 × Int64 × Int32 × Int32 × Int32 × Int32 × Int32 × Int32 × Int32 × (Nat → Int32) × (Nat → Int32) × (Nat → Int32) × (Nat → Int32) × (Nat → Int32) × (Nat → Int32) × Int32 × Int32 × Int32 × Int32 × Int32 × Int32 × Int32 × Int64 × Int32 × Int32 × Int64 × Int64 × Int32 × Int32 × (Nat → Int32) × (Nat → Int32) × (Nat → Int32) × (Nat → Int64)) : Prop := wR p.2.2.2.2.2.2.2.2.2.2.2.1 p.2.2.2.2.2.2.2.2.2.2.2.2.1 ∧ gR p.2.2.2.2.2.2.2.2.2.2.2.2.2.2.2.2.2.2.2.2.2.2.2.2.2.2.1 p.2.2.2.2.2.2.2.2.2.2.2.2.2.2.2.2.2.2.2.2.2.2.2.2.2.2.2.1 p.2.2.2.2.2.2.2.2.2.2.2.2.2.2.2.2.2.2.2.2.2.2.2.2.2.2.2.2.1 p.2.2.2.2.2.2.2.2.2.2.2.2.2.2.2.2.2.2.2.2.2.2.2.2.2.2.2.2.2.1 ∧ nmB p.2.2.2.2.2.2.2.2.2.2.2.2.2.2.2.2.2.2.2.2.2.2.2.2.2.2.2.2.2.2.2.2.2.2.2.2.2.2.2.2.2.2.2.2.2.2.2.2
theorem nm_readA {c0 : Int32} {c1 : Int32} {c2 : Int32} {c3 : Int32} {c4 : Int32} {c5 : Int32} {c6 : Int32} {c7 : Int32} {c8 : Int32} {c9 : Int32} {c10 : (Nat → Int32)} {c11 : (Nat → Int32)} {c12 : (Nat → Int32)} {c13 : (Nat → Int32)} {c14 : Int32} {c15 : Int32} {c16 : Int32} {c17 : Int64} {c18 : Int32} {c19 : Int32} {c20 : Int32} {c21 : Int32} {c22 : Int32} {c23 : Int32} {c24 : Int32} {c25 : (Nat → Int32)} {c26 : (Nat → Int32)} {c27 : (Nat → Int32)} {c28 : (Nat → Int32)} {c29 : (Nat → Int32)} {c30 : (Nat → Int32)} {c31 : Int32} {c32 : Int32} {c33 : Int32} {c34 : Int32} {c35 : Int32} {c36 : Int32} {c37 : Int32} {c38 : Int64} {c39 : Int32} {c40 : Int32} {c41 : Int64} {c42 : Int64} {c43 : Int32} {c44 : Int32} {c45 : (Nat → Int32)} {c46 : (Nat → Int32)} {c47 : (Nat → Int32)} {c48 : (Nat → Int64)} (h0 : wR c11 c12) (h1 : gR c26 c27 c28 c29) (h2 : nmB c48) : Q_NM_read (c0, c1, c2, c3, c4, c5, c6, c7, c8, c9, c10, c11, c12, c13, c14, c15, c16, c17, c18, c19, c20, c21, c22, c23, c24, c25, c26, c27, c28, c29, c30, c31, c32, c33, c34, c35, c36, c37, c38, c39, c40, c41, c42, c43, c44, c45, c46, c47, c48) := ⟨h0, h1, h2⟩
theorem T_NM_readJ {x2 : Int32} {x3 : Int32} {x4 : Int32} {t0_0 : Int32} {t0_1 : Int32} {t0_2 : Int32} {t1_0 : Int32} {t1_1 : Int32} {t1_2 : Int32} {t1_3 : Int32} {t1_4 : Int32} {t1_5 : Int32} {t1_6 : Int32} {t2_0 : (Nat → Int32)} {t3_0 : (Nat → Int32)} {t4_0 : (Nat → Int32)} {t5_0 : (Nat → Int32)} {t6_0 : Int32} {t6_1 : Int32} {t6_2 : Int32} {t6_3 : Int64} {t6_4 : Int32} {t6_5 : Int32} {t6_6 : Int32} {t6_7 : Int32} {t6_8 : Int32} {t6_9 : Int32} {t6_10 : Int32} {t7_0 : (Nat → Int32)} {t8_0 : (Nat → Int32)} {t9_0 : (Nat → Int32)} {t10_0 : (Nat → Int32)} {t11_0 : (Nat → Int32)} {t12_0 : (Nat → Int32)} {t13_0 : Int32} {t13_1 : Int32} {t13_2 : Int32} {t13_3 : Int32} {t13_4 : Int32} {t13_5 : Int32} {t13_6 : Int32} {t13_7 : Int64} {t13_8 : Int32} {t13_9 : Int32} {t13_10 : Int64} {t13_11 : Int64} {t13_12 : Int32} {t13_13 : Int32} {t14_0 : (Nat → Int32)} {t15_0 : (Nat → Int32)} {t16_0 : (Nat → Int32)} {t17_0 : (Nat → Int32)} {t18_0 : (Nat → Int64)} {lx105 : Int32} {lx133 : Int32} (h01 : 0 ≤ t0_1.toInt ∧ t0_1.toInt ≤ 4100) (hW : wR t3_0 t4_0) (hD : gR t8_0 t9_0 t10_0 t11_0) (hB : nmB t18_0) (hx : lx105 = 0 → 0 ≤ x3.toInt ∧ x3.toInt ≤ 9)  : (S_NM_read_J50 x2 x3 x4 t0_0 t0_1 t0_2 t1_0 t1_1 t1_2 t1_3 t1_4 t1_5 t1_6 t2_0 t3_0 t4_0 t5_0 t6_0 t6_1 t6_2 t6_3 t6_4 t6_5 t6_6 t6_7 t6_8 t6_9 t6_10 t7_0 t8_0 t9_0 t10_0 t11_0 t12_0 t13_0 t13_1 t13_2 t13_3 t13_4 t13_5 t13_6 t13_7 t13_8 t13_9 t13_10 t13_11 t13_12 t13_13 t14_0 t15_0 t16_0 t17_0 t18_0 lx105 lx133) ∧ Q_NM_read (F_NM_read_J50 x2 x3 x4 t0_0 t0_1 t0_2 t1_0 t1_1 t1_2 t1_3 t1_4 t1_5 t1_6 t2_0 t3_0 t4_0 t5_0 t6_0 t6_1 t6_2 t6_3 t6_4 t6_5 t6_6 t6_7 t6_8 t6_9 t6_10 t7_0 t8_0 t9_0 t10_0 t11_0 t12_0 t13_0 t13_1 t13_2 t13_3 t13_4 t13_5 t13_6 t13_7 t13_8 t13_9 t13_10 t13_11 t13_12 t13_13 t14_0 t15_0 t16_0 t17_0 t18_0 lx105 lx133) := by
  have e0 : (0 : Int32).toInt = 0 := rfl
  have e1 : (1 : Int32).toInt = 1 := rfl
  have eL0 : (0 : Int64).toInt = 0 := rfl
  have em : (-1 : Int32).toInt = -1 := rfl
  have e4100 : (4100 : Int32).toInt = 4100 := rfl
  unfold S_NM_read_J50 F_NM_read_J50
  by_cases g1 : lx105 = (0 : Int32)
  ·
    rw [if_pos g1, if_pos g1]
    have hx3 := hx g1
    by_cases g2 : x2 = (0 : Int32)
    ·
      rw [if_pos g2, if_pos g2]
      have h3 := T_NM_load (N1 := (4100 : Int32)) (x2 := t0_1) (N3 := (4100 : Int32)) (t0_0 := t17_0) (t1_0 := t2_0) (by first | omega | decide) (by first | omega | decide) (by first | omega | decide)
      with_reducible refine v_owe h3.1 ?_
      replace h3 := h3.2
      generalize F_NM_load (4100 : Int32) t0_1 (4100 : Int32) t17_0 t2_0 = p574 at *
      have qL := h3
      have eL := congrArg Int32.toInt h3.1
      unfold S_NM_read_c86 F_NM_read_c86
      have h4 := T_WR_read (x2 := x3) (x3 := x4) (t0_0 := t1_0) (t0_1 := t1_1) (t0_2 := (p574.1 : Int32)) (t0_3 := t1_3) (t0_4 := t1_4) (t0_5 := t1_5) (t0_6 := t1_6) (t1_0 := (p574.2 : (Nat → Int32))) (t2_0 := t3_0) (t3_0 := t4_0) (t4_0 := t5_0) (by with_reducible assumption) ⟨by omega, by omega⟩
      with_reducible refine v_owe h4.1 ?_
      replace h4 := h4.2
      generalize F_WR_read x3 x4 t1_0 t1_1 (p574.1 : Int32) t1_3 t1_4 t1_5 t1_6 (p574.2 : (Nat → Int32)) t3_0 t4_0 t5_0 = p616 at *
      unfold Q_WR_read at h4
      unfold S_NM_read_c98 F_NM_read_c98
      by_cases g5 : (p616.1 : Int32) = (3 : Int32)
      ·
        rw [if_pos g5, if_pos g5]
        unfold S_NM_read_J260_13 F_NM_read_J260_13
        by_cases g6 : (p616.1 : Int32) = (0 : Int32)
        ·
          rw [if_pos g6, if_pos g6]
          refine ⟨trivial, ?_⟩
          exact nm_readA (by with_reducible assumption) (by with_reducible assumption) (by with_reducible assumption)
        ·
          rw [if_neg g6, if_neg g6]
          refine ⟨trivial, ?_⟩
          exact nm_readA (by with_reducible assumption) (by with_reducible assumption) (by with_reducible assumption)
      ·
        rw [if_neg g5, if_neg g5]
        unfold S_NM_read_J260_13 F_NM_read_J260_13
        by_cases g7 : (p616.1 : Int32) = (0 : Int32)
        ·
          rw [if_pos g7, if_pos g7]
          refine ⟨trivial, ?_⟩
          exact nm_readA (by with_reducible assumption) (by with_reducible assumption) (by with_reducible assumption)
        ·
          rw [if_neg g7, if_neg g7]
          refine ⟨trivial, ?_⟩
          exact nm_readA (by with_reducible assumption) (by with_reducible assumption) (by with_reducible assumption)
    ·
      rw [if_neg g2, if_neg g2]
      by_cases g8 : x2 = (1 : Int32)
      ·
        rw [if_pos g8, if_pos g8]
        have h9 := T_NM_load (N1 := (4100 : Int32)) (x2 := t0_1) (N3 := (4100 : Int32)) (t0_0 := t17_0) (t1_0 := t7_0) (by first | omega | decide) (by first | omega | decide) (by first | omega | decide)
        with_reducible refine v_owe h9.1 ?_
        replace h9 := h9.2
        generalize F_NM_load (4100 : Int32) t0_1 (4100 : Int32) t17_0 t7_0 = p444 at *
        have qL := h9
        have eL := congrArg Int32.toInt h9.1
        unfold S_NM_read_c137 F_NM_read_c137
        have h10 := T_DR_read (x2 := x3) (t0_0 := t6_0) (t0_1 := (p444.1 : Int32)) (t0_2 := t6_2) (t0_3 := t6_3) (t0_4 := t6_4) (t0_5 := t6_5) (t0_6 := t6_6) (t0_7 := t6_7) (t0_8 := t6_8) (t0_9 := t6_9) (t0_10 := t6_10) (t1_0 := (p444.2 : (Nat → Int32))) (t2_0 := t8_0) (t3_0 := t9_0) (t4_0 := t10_0) (t5_0 := t11_0) (t6_0 := t12_0) (by with_reducible assumption) ⟨by omega, by omega⟩
        with_reducible refine v_owe h10.1 ?_
        replace h10 := h10.2
        generalize F_DR_read x3 t6_0 (p444.1 : Int32) t6_2 t6_3 t6_4 t6_5 t6_6 t6_7 t6_8 t6_9 t6_10 (p444.2 : (Nat → Int32)) t8_0 t9_0 t10_0 t11_0 t12_0 = p496 at *
        unfold Q_DR_read at h10
        unfold S_NM_read_c148 F_NM_read_c148
        by_cases g11 : (p496.1 : Int32) = (3 : Int32)
        ·
          rw [if_pos g11, if_pos g11]
          unfold S_NM_read_J260 F_NM_read_J260
          by_cases g12 : (p496.1 : Int32) = (0 : Int32)
          ·
            rw [if_pos g12, if_pos g12]
            refine ⟨trivial, ?_⟩
            exact nm_readA (by with_reducible assumption) (by with_reducible assumption) (by with_reducible assumption)
          ·
            rw [if_neg g12, if_neg g12]
            refine ⟨trivial, ?_⟩
            exact nm_readA (by with_reducible assumption) (by with_reducible assumption) (by with_reducible assumption)
        ·
          rw [if_neg g11, if_neg g11]
          unfold S_NM_read_J260 F_NM_read_J260
          by_cases g13 : (p496.1 : Int32) = (0 : Int32)
          ·
            rw [if_pos g13, if_pos g13]
            refine ⟨trivial, ?_⟩
            exact nm_readA (by with_reducible assumption) (by with_reducible assumption) (by with_reducible assumption)
          ·
            rw [if_neg g13, if_neg g13]
            refine ⟨trivial, ?_⟩
            exact nm_readA (by with_reducible assumption) (by with_reducible assumption) (by with_reducible assumption)
      ·
        rw [if_neg g8, if_neg g8]
        have h14 := T_NM_load (N1 := (4100 : Int32)) (x2 := t0_1) (N3 := (4100 : Int32)) (t0_0 := t17_0) (t1_0 := t14_0) (by first | omega | decide) (by first | omega | decide) (by first | omega | decide)
        with_reducible refine v_owe h14.1 ?_
        replace h14 := h14.2
        generalize F_NM_load (4100 : Int32) t0_1 (4100 : Int32) t17_0 t14_0 = p181 at *
        have qL := h14
        have eL := congrArg Int32.toInt h14.1
        unfold S_NM_read_c182 F_NM_read_c182
        by_cases g15 : x2 = (2 : Int32)
        ·
          rw [if_pos g15, if_pos g15]
          have g2 := g15
          have h16 := T_TR_bits (t0_0 := t13_0) (t0_1 := (p181.1 : Int32)) (t0_2 := t13_2) (t0_3 := t13_3) (t0_4 := t13_4) (t0_5 := t13_5) (t0_6 := t13_6) (t0_7 := t13_7) (t0_8 := t13_8) (t0_9 := t13_9) (t0_10 := t13_10) (t0_11 := t13_11) (t0_12 := t13_12) (t0_13 := t13_13) (t1_0 := (p181.2 : (Nat → Int32))) (t2_0 := t15_0) (t3_0 := t16_0) trivial ⟨by omega, by omega⟩
          with_reducible refine v_owe h16 ?_
          generalize F_TR_bits t13_0 (p181.1 : Int32) t13_2 t13_3 t13_4 t13_5 t13_6 t13_7 t13_8 t13_9 t13_10 t13_11 t13_12 t13_13 (p181.2 : (Nat → Int32)) t15_0 t16_0 = p351 at *
          unfold S_NM_read_c197 F_NM_read_c197
          by_cases g17 : (p351.2.1 : Int32) = (1 : Int32)
          ·
            rw [if_pos g17, if_pos g17]
            unfold S_NM_read_J233_7 F_NM_read_J233_7
            have g18 : ¬ ((2 : Int32) = (0 : Int32)) := (by decide)
            rw [if_neg g18, if_neg g18]
            refine ⟨trivial, ?_⟩
            exact nm_readA (by with_reducible assumption) (by with_reducible assumption) (by with_reducible assumption)
          ·
            rw [if_neg g17, if_neg g17]
            unfold S_NM_read_J233_7 F_NM_read_J233_7
            have g19 : ((0 : Int32) = (0 : Int32)) := (by decide)
            rw [if_pos g19, if_pos g19]
            have h20 := T_NM_setBits (x2 := x2) (x3 := x3) (x4 := (p351.1 : Int64)) (t0_0 := lx133) (t0_1 := t0_1) (t0_2 := t0_2) (t1_0 := t18_0) hx3 hB (fun z => absurd (g2.symm.trans z) (by decide))
            have h20B := h20.2
            with_reducible refine v_owe h20.1 ?_
            refine ⟨trivial, ?_⟩
            exact nm_readA (by with_reducible assumption) (by with_reducible assumption) (by with_reducible assumption)
        ·
          rw [if_neg g15, if_neg g15]
          have h21 := T_TR_floatBits (t0_0 := t13_0) (t0_1 := (p181.1 : Int32)) (t0_2 := t13_2) (t0_3 := t13_3) (t0_4 := t13_4) (t0_5 := t13_5) (t0_6 := t13_6) (t0_7 := t13_7) (t0_8 := t13_8) (t0_9 := t13_9) (t0_10 := t13_10) (t0_11 := t13_11) (t0_12 := t13_12) (t0_13 := t13_13) (t1_0 := (p181.2 : (Nat → Int32))) (t2_0 := t15_0) (t3_0 := t16_0) trivial ⟨by omega, by omega⟩
          with_reducible refine v_owe h21 ?_
          generalize F_TR_floatBits t13_0 (p181.1 : Int32) t13_2 t13_3 t13_4 t13_5 t13_6 t13_7 t13_8 t13_9 t13_10 t13_11 t13_12 t13_13 (p181.2 : (Nat → Int32)) t15_0 t16_0 = p229 at *
          unfold S_NM_read_c207 F_NM_read_c207
          by_cases g22 : (p229.2.1 : Int32) = (1 : Int32)
          ·
            rw [if_pos g22, if_pos g22]
            unfold S_NM_read_J233 F_NM_read_J233
            have g23 : ¬ ((2 : Int32) = (0 : Int32)) := (by decide)
            rw [if_neg g23, if_neg g23]
            refine ⟨trivial, ?_⟩
            exact nm_readA (by with_reducible assumption) (by with_reducible assumption) (by with_reducible assumption)
          ·
            rw [if_neg g22, if_neg g22]
            unfold S_NM_read_J233 F_NM_read_J233
            have g24 : ((0 : Int32) = (0 : Int32)) := (by decide)
            rw [if_pos g24, if_pos g24]
            have h25 := T_NM_setBits (x2 := x2) (x3 := x3) (x4 := (((p229.1 : Int32).toInt64 : Int64) &&& 4294967295 : Int64)) (t0_0 := lx133) (t0_1 := t0_1) (t0_2 := t0_2) (t1_0 := t18_0) hx3 hB (fun _ => nm_and32)
            have h25B := h25.2
            with_reducible refine v_owe h25.1 ?_
            refine ⟨trivial, ?_⟩
            exact nm_readA (by with_reducible assumption) (by with_reducible assumption) (by with_reducible assumption)
  ·
    rw [if_neg g1, if_neg g1]
    refine ⟨trivial, ?_⟩
    exact nm_readA (by with_reducible assumption) (by with_reducible assumption) (by with_reducible assumption)
theorem T_NM_read {x2 : Int32} {x3 : Int32} {x4 : Int32} {t0_0 : Int32} {t0_1 : Int32} {t0_2 : Int32} {t1_0 : Int32} {t1_1 : Int32} {t1_2 : Int32} {t1_3 : Int32} {t1_4 : Int32} {t1_5 : Int32} {t1_6 : Int32} {t2_0 : (Nat → Int32)} {t3_0 : (Nat → Int32)} {t4_0 : (Nat → Int32)} {t5_0 : (Nat → Int32)} {t6_0 : Int32} {t6_1 : Int32} {t6_2 : Int32} {t6_3 : Int64} {t6_4 : Int32} {t6_5 : Int32} {t6_6 : Int32} {t6_7 : Int32} {t6_8 : Int32} {t6_9 : Int32} {t6_10 : Int32} {t7_0 : (Nat → Int32)} {t8_0 : (Nat → Int32)} {t9_0 : (Nat → Int32)} {t10_0 : (Nat → Int32)} {t11_0 : (Nat → Int32)} {t12_0 : (Nat → Int32)} {t13_0 : Int32} {t13_1 : Int32} {t13_2 : Int32} {t13_3 : Int32} {t13_4 : Int32} {t13_5 : Int32} {t13_6 : Int32} {t13_7 : Int64} {t13_8 : Int32} {t13_9 : Int32} {t13_10 : Int64} {t13_11 : Int64} {t13_12 : Int32} {t13_13 : Int32} {t14_0 : (Nat → Int32)} {t15_0 : (Nat → Int32)} {t16_0 : (Nat → Int32)} {t17_0 : (Nat → Int32)} {t18_0 : (Nat → Int64)} (h01 : 0 ≤ t0_1.toInt ∧ t0_1.toInt ≤ 4100) (hW : wR t3_0 t4_0) (hD : gR t8_0 t9_0 t10_0 t11_0) (hB : nmB t18_0)  : (S_NM_read x2 x3 x4 t0_0 t0_1 t0_2 t1_0 t1_1 t1_2 t1_3 t1_4 t1_5 t1_6 t2_0 t3_0 t4_0 t5_0 t6_0 t6_1 t6_2 t6_3 t6_4 t6_5 t6_6 t6_7 t6_8 t6_9 t6_10 t7_0 t8_0 t9_0 t10_0 t11_0 t12_0 t13_0 t13_1 t13_2 t13_3 t13_4 t13_5 t13_6 t13_7 t13_8 t13_9 t13_10 t13_11 t13_12 t13_13 t14_0 t15_0 t16_0 t17_0 t18_0) ∧ Q_NM_read (F_NM_read x2 x3 x4 t0_0 t0_1 t0_2 t1_0 t1_1 t1_2 t1_3 t1_4 t1_5 t1_6 t2_0 t3_0 t4_0 t5_0 t6_0 t6_1 t6_2 t6_3 t6_4 t6_5 t6_6 t6_7 t6_8 t6_9 t6_10 t7_0 t8_0 t9_0 t10_0 t11_0 t12_0 t13_0 t13_1 t13_2 t13_3 t13_4 t13_5 t13_6 t13_7 t13_8 t13_9 t13_10 t13_11 t13_12 t13_13 t14_0 t15_0 t16_0 t17_0 t18_0) := by
  have e0 : (0 : Int32).toInt = 0 := rfl
  have e1 : (1 : Int32).toInt = 1 := rfl
  have eL0 : (0 : Int64).toInt = 0 := rfl
  have em : (-1 : Int32).toInt = -1 := rfl
  unfold S_NM_read F_NM_read
  by_cases g1 : ((F_NM_no_IIZ x2 x3) : Int32) = (0 : Int32)
  ·
    rw [if_pos g1, if_pos g1]
    have hno := (nm_no2 g1).2
    by_cases g2 : x2 = (0 : Int32)
    ·
      rw [if_pos g2, if_pos g2]
      by_cases g3 : x4 < (2 : Int32)
      ·
        rw [if_pos g3, if_pos g3]
        unfold S_NM_read_J32 F_NM_read_J32
        unfold S_NM_read_J37 F_NM_read_J37
        have g4 : ¬ ((1 : Int32) = (0 : Int32)) := (by decide)
        rw [if_neg g4, if_neg g4]
        exact T_NM_readJ h01 hW hD hB (fun z => by first | exact hno | exact absurd z (by decide))
      ·
        rw [if_neg g3, if_neg g3]
        by_cases g5 : x4 ≤ (36 : Int32)
        ·
          rw [if_pos g5, if_pos g5]
          unfold S_NM_read_J36 F_NM_read_J36
          unfold S_NM_read_J37 F_NM_read_J37
          have g6 : ((0 : Int32) = (0 : Int32)) := (by decide)
          rw [if_pos g6, if_pos g6]
          exact T_NM_readJ h01 hW hD hB (fun z => by first | exact hno | exact absurd z (by decide))
        ·
          rw [if_neg g5, if_neg g5]
          unfold S_NM_read_J32 F_NM_read_J32
          unfold S_NM_read_J37 F_NM_read_J37
          have g7 : ¬ ((1 : Int32) = (0 : Int32)) := (by decide)
          rw [if_neg g7, if_neg g7]
          exact T_NM_readJ h01 hW hD hB (fun z => by first | exact hno | exact absurd z (by decide))
    ·
      rw [if_neg g2, if_neg g2]
      by_cases g8 : x4 = (10 : Int32)
      ·
        rw [if_pos g8, if_pos g8]
        unfold S_NM_read_J36 F_NM_read_J36
        unfold S_NM_read_J37 F_NM_read_J37
        have g9 : ((0 : Int32) = (0 : Int32)) := (by decide)
        rw [if_pos g9, if_pos g9]
        exact T_NM_readJ h01 hW hD hB (fun z => by first | exact hno | exact absurd z (by decide))
      ·
        rw [if_neg g8, if_neg g8]
        unfold S_NM_read_J32 F_NM_read_J32
        unfold S_NM_read_J37 F_NM_read_J37
        have g10 : ¬ ((1 : Int32) = (0 : Int32)) := (by decide)
        rw [if_neg g10, if_neg g10]
        exact T_NM_readJ h01 hW hD hB (fun z => by first | exact hno | exact absurd z (by decide))
  ·
    rw [if_neg g1, if_neg g1]
    unfold S_NM_read_J32 F_NM_read_J32
    unfold S_NM_read_J37 F_NM_read_J37
    have g11 : ¬ ((1 : Int32) = (0 : Int32)) := (by decide)
    rw [if_neg g11, if_neg g11]
    exact T_NM_readJ h01 hW hD hB (fun z => by first | exact hno | exact absurd z (by decide))
def Q_NM_put (p : Int32 × Int32 × Int32 × Int32 × Int32 × Int32 × Int32 × Int32 × (Nat → Int32) × (Nat → Int32) × (Nat → Int32) × Int32 × Int32 × Int32 × Int64 × Int32 × Int32 × Int32 × Int32 × Int32 × Int32 × Int32 × (Nat → Int32) × (Nat → Int32) × (Nat → Int32) × (Nat → Int32) × (Nat → Int32) × (Nat → Int64)) : Prop := wR p.2.2.2.2.2.2.2.2.1 p.2.2.2.2.2.2.2.2.2.1 ∧ gR p.2.2.2.2.2.2.2.2.2.2.2.2.2.2.2.2.2.2.2.2.2.2.1 p.2.2.2.2.2.2.2.2.2.2.2.2.2.2.2.2.2.2.2.2.2.2.2.1 p.2.2.2.2.2.2.2.2.2.2.2.2.2.2.2.2.2.2.2.2.2.2.2.2.1 p.2.2.2.2.2.2.2.2.2.2.2.2.2.2.2.2.2.2.2.2.2.2.2.2.2.1 ∧ nmB p.2.2.2.2.2.2.2.2.2.2.2.2.2.2.2.2.2.2.2.2.2.2.2.2.2.2.2
theorem nm_putA {c0 : Int32} {c1 : Int32} {c2 : Int32} {c3 : Int32} {c4 : Int32} {c5 : Int32} {c6 : Int32} {c7 : Int32} {c8 : (Nat → Int32)} {c9 : (Nat → Int32)} {c10 : (Nat → Int32)} {c11 : Int32} {c12 : Int32} {c13 : Int32} {c14 : Int64} {c15 : Int32} {c16 : Int32} {c17 : Int32} {c18 : Int32} {c19 : Int32} {c20 : Int32} {c21 : Int32} {c22 : (Nat → Int32)} {c23 : (Nat → Int32)} {c24 : (Nat → Int32)} {c25 : (Nat → Int32)} {c26 : (Nat → Int32)} {c27 : (Nat → Int64)} (h0 : wR c8 c9) (h1 : gR c22 c23 c24 c25) (h2 : nmB c27) : Q_NM_put (c0, c1, c2, c3, c4, c5, c6, c7, c8, c9, c10, c11, c12, c13, c14, c15, c16, c17, c18, c19, c20, c21, c22, c23, c24, c25, c26, c27) := ⟨h0, h1, h2⟩
theorem T_NM_putJ {x2 : Int32} {x3 : Int32} {x4 : Int64} {t0_0 : Int32} {t0_1 : Int32} {t0_2 : Int32} {t1_0 : Int32} {t1_1 : Int32} {t1_2 : Int32} {t1_3 : Int32} {t1_4 : Int32} {t1_5 : Int32} {t1_6 : Int32} {t2_0 : (Nat → Int32)} {t3_0 : (Nat → Int32)} {t4_0 : (Nat → Int32)} {t5_0 : Int32} {t5_1 : Int32} {t5_2 : Int32} {t5_3 : Int64} {t5_4 : Int32} {t5_5 : Int32} {t5_6 : Int32} {t5_7 : Int32} {t5_8 : Int32} {t5_9 : Int32} {t5_10 : Int32} {t6_0 : (Nat → Int32)} {t7_0 : (Nat → Int32)} {t8_0 : (Nat → Int32)} {t9_0 : (Nat → Int32)} {t10_0 : (Nat → Int32)} {t11_0 : (Nat → Int64)} {lx69 : Int32} (hW : wR t2_0 t3_0) (hD : gR t6_0 t7_0 t8_0 t9_0) (hB : nmB t11_0) (hx : lx69.toInt ≤ 0 → 0 ≤ x3.toInt ∧ x3.toInt ≤ 9) (hv : lx69.toInt ≤ 0 → x2 = 3 → 0 ≤ x4.toInt ∧ x4.toInt < 4294967296)  : (S_NM_put_J28 x2 x3 x4 t0_0 t0_1 t0_2 t1_0 t1_1 t1_2 t1_3 t1_4 t1_5 t1_6 t2_0 t3_0 t4_0 t5_0 t5_1 t5_2 t5_3 t5_4 t5_5 t5_6 t5_7 t5_8 t5_9 t5_10 t6_0 t7_0 t8_0 t9_0 t10_0 t11_0 lx69) ∧ Q_NM_put (F_NM_put_J28 x2 x3 x4 t0_0 t0_1 t0_2 t1_0 t1_1 t1_2 t1_3 t1_4 t1_5 t1_6 t2_0 t3_0 t4_0 t5_0 t5_1 t5_2 t5_3 t5_4 t5_5 t5_6 t5_7 t5_8 t5_9 t5_10 t6_0 t7_0 t8_0 t9_0 t10_0 t11_0 lx69) := by
  have e0 : (0 : Int32).toInt = 0 := rfl
  have e1 : (1 : Int32).toInt = 1 := rfl
  have eL0 : (0 : Int64).toInt = 0 := rfl
  have em : (-1 : Int32).toInt = -1 := rfl
  unfold S_NM_put_J28 F_NM_put_J28
  by_cases g1 : lx69 ≤ (0 : Int32)
  ·
    rw [if_pos g1, if_pos g1]
    have hx3 := hx (q_leI g1)
    have hv4 := hv (q_leI g1)
    by_cases g2 : x2 = (0 : Int32)
    ·
      rw [if_pos g2, if_pos g2]
      have h3 := T_WR_put (x2 := x3) (x3 := x4) (t0_0 := t1_0) (t0_1 := t1_1) (t0_2 := t1_2) (t0_3 := t1_3) (t0_4 := t1_4) (t0_5 := t1_5) (t0_6 := t1_6) (t1_0 := t2_0) (t2_0 := t3_0) (t3_0 := t4_0) (by with_reducible assumption)
      with_reducible refine v_owe h3.1 ?_
      replace h3 := h3.2
      generalize F_WR_put x3 x4 t1_0 t1_1 t1_2 t1_3 t1_4 t1_5 t1_6 t2_0 t3_0 t4_0 = p203 at *
      unfold Q_WR_put at h3
      unfold S_NM_put_c49 F_NM_put_c49
      refine ⟨trivial, ?_⟩
      exact nm_putA (by with_reducible assumption) (by with_reducible assumption) (by with_reducible assumption)
    ·
      rw [if_neg g2, if_neg g2]
      by_cases g4 : x2 = (1 : Int32)
      ·
        rw [if_pos g4, if_pos g4]
        have h5 := T_DR_put (x2 := x3) (x3 := x4) (x4 := (0 : Int32)) (t0_0 := t5_0) (t0_1 := t5_1) (t0_2 := t5_2) (t0_3 := t5_3) (t0_4 := t5_4) (t0_5 := t5_5) (t0_6 := t5_6) (t0_7 := t5_7) (t0_8 := t5_8) (t0_9 := t5_9) (t0_10 := t5_10) (t1_0 := t6_0) (t2_0 := t7_0) (t3_0 := t8_0) (t4_0 := t9_0) (t5_0 := t10_0) (by with_reducible assumption)
        with_reducible refine v_owe h5.1 ?_
        replace h5 := h5.2
        generalize F_DR_put x3 x4 (0 : Int32) t5_0 t5_1 t5_2 t5_3 t5_4 t5_5 t5_6 t5_7 t5_8 t5_9 t5_10 t6_0 t7_0 t8_0 t9_0 t10_0 = p148 at *
        unfold Q_DR_put at h5
        unfold S_NM_put_c67 F_NM_put_c67
        refine ⟨trivial, ?_⟩
        exact nm_putA (by with_reducible assumption) (by with_reducible assumption) (by with_reducible assumption)
      ·
        rw [if_neg g4, if_neg g4]
        have h6 := T_NM_setBits (x2 := x2) (x3 := x3) (x4 := x4) (t0_0 := lx69) (t0_1 := t0_1) (t0_2 := t0_2) (t1_0 := t11_0) hx3 hB hv4
        have h6B := h6.2
        with_reducible refine v_owe h6.1 ?_
        refine ⟨trivial, ?_⟩
        exact nm_putA (by with_reducible assumption) (by with_reducible assumption) (by with_reducible assumption)
  ·
    rw [if_neg g1, if_neg g1]
    refine ⟨trivial, ?_⟩
    exact nm_putA (by with_reducible assumption) (by with_reducible assumption) (by with_reducible assumption)
theorem nm_ush {x : Int64} (h : lg_cmp ((x.toUInt64 >>> ((32 : Int32).toInt64.toUInt64 &&& Int64.toUInt64 63)).toInt64) 0 = 0) : 0 ≤ x.toInt ∧ x.toInt < 4294967296 := by
  have h1 : ((x.toUInt64 >>> ((32 : Int32).toInt64.toUInt64 &&& Int64.toUInt64 63)).toInt64).toBitVec.toNat = x.toBitVec.toNat / 4294967296 := by
    show (x.toUInt64 >>> ((32 : Int32).toInt64.toUInt64 &&& Int64.toUInt64 63)).toBitVec.toNat = _
    rw [UInt64.toBitVec_shiftRight, BitVec.ushiftRight_eq', BitVec.toNat_ushiftRight, show (((32 : Int32).toInt64.toUInt64 &&& Int64.toUInt64 63).toBitVec % 64).toNat = 32 by decide, Nat.shiftRight_eq_div_pow]
    rfl
  have h2 := x.toBitVec.isLt
  have h3 := s_ofL h1 (by omega)
  have h4 := fl_lz h
  have h5 := s_ofL (x := x) rfl (by omega)
  omega
theorem T_NM_put {x2 : Int32} {x3 : Int32} {x4 : Int64} {t0_0 : Int32} {t0_1 : Int32} {t0_2 : Int32} {t1_0 : Int32} {t1_1 : Int32} {t1_2 : Int32} {t1_3 : Int32} {t1_4 : Int32} {t1_5 : Int32} {t1_6 : Int32} {t2_0 : (Nat → Int32)} {t3_0 : (Nat → Int32)} {t4_0 : (Nat → Int32)} {t5_0 : Int32} {t5_1 : Int32} {t5_2 : Int32} {t5_3 : Int64} {t5_4 : Int32} {t5_5 : Int32} {t5_6 : Int32} {t5_7 : Int32} {t5_8 : Int32} {t5_9 : Int32} {t5_10 : Int32} {t6_0 : (Nat → Int32)} {t7_0 : (Nat → Int32)} {t8_0 : (Nat → Int32)} {t9_0 : (Nat → Int32)} {t10_0 : (Nat → Int32)} {t11_0 : (Nat → Int64)} (hW : wR t2_0 t3_0) (hD : gR t6_0 t7_0 t8_0 t9_0) (hB : nmB t11_0)  : (S_NM_put x2 x3 x4 t0_0 t0_1 t0_2 t1_0 t1_1 t1_2 t1_3 t1_4 t1_5 t1_6 t2_0 t3_0 t4_0 t5_0 t5_1 t5_2 t5_3 t5_4 t5_5 t5_6 t5_7 t5_8 t5_9 t5_10 t6_0 t7_0 t8_0 t9_0 t10_0 t11_0) ∧ Q_NM_put (F_NM_put x2 x3 x4 t0_0 t0_1 t0_2 t1_0 t1_1 t1_2 t1_3 t1_4 t1_5 t1_6 t2_0 t3_0 t4_0 t5_0 t5_1 t5_2 t5_3 t5_4 t5_5 t5_6 t5_7 t5_8 t5_9 t5_10 t6_0 t7_0 t8_0 t9_0 t10_0 t11_0) := by
  have e0 : (0 : Int32).toInt = 0 := rfl
  have e1 : (1 : Int32).toInt = 1 := rfl
  have eL0 : (0 : Int64).toInt = 0 := rfl
  have em : (-1 : Int32).toInt = -1 := rfl
  unfold S_NM_put F_NM_put
  by_cases g1 : ((F_NM_no_IIZ x2 x3) : Int32) = (0 : Int32)
  ·
    rw [if_pos g1, if_pos g1]
    have hno := (nm_no2 g1).2
    by_cases g2 : x2 = (3 : Int32)
    ·
      rw [if_pos g2, if_pos g2]
      by_cases g3 : (lg_cmp ((x4.toUInt64 >>> ((32 : Int32).toInt64.toUInt64 &&& Int64.toUInt64 63)).toInt64 : Int64) 0 : Int32) = (0 : Int32)
      ·
        rw [if_pos g3, if_pos g3]
        have gl := g3
        unfold S_NM_put_J27 F_NM_put_J27
        exact T_NM_putJ hW hD hB (fun _ => hno) (fun _ _ => nm_ush gl)
      ·
        rw [if_neg g3, if_neg g3]
        unfold S_NM_put_J23 F_NM_put_J23
        exact T_NM_putJ hW hD hB (fun z => absurd z (by decide)) (fun z => absurd z (by decide))
    ·
      rw [if_neg g2, if_neg g2]
      unfold S_NM_put_J27 F_NM_put_J27
      exact T_NM_putJ hW hD hB (fun _ => hno) (fun _ z => absurd z g2)
  ·
    rw [if_neg g1, if_neg g1]
    unfold S_NM_put_J23 F_NM_put_J23
    exact T_NM_putJ hW hD hB (fun z => absurd z (by decide)) (fun z => absurd z (by decide))
theorem T_NM_toldJ {x2 : Int32} {x3 : Int32} {x4 : Int32} {t0_0 : Int32} {t0_1 : Int32} {t0_2 : Int32} {t1_0 : Int32} {t1_1 : Int32} {t1_2 : Int32} {t1_3 : Int32} {t1_4 : Int32} {t1_5 : Int32} {t1_6 : Int32} {t2_0 : (Nat → Int32)} {t3_0 : (Nat → Int32)} {t4_0 : Int32} {t4_1 : Int32} {t4_2 : Int32} {t4_3 : Int64} {t4_4 : Int32} {t4_5 : Int32} {t4_6 : Int32} {t4_7 : Int32} {t4_8 : Int32} {t4_9 : Int32} {t4_10 : Int32} {t5_0 : (Nat → Int32)} {t6_0 : (Nat → Int32)} {t7_0 : (Nat → Int32)} {t8_0 : (Nat → Int32)} {t9_0 : Int32} {t9_1 : Int32} {t9_2 : Int32} {t9_3 : Int32} {t9_4 : Int64} {t9_5 : Int32} {t9_6 : Int32} {t9_7 : Int64} {t9_8 : Int32} {t9_9 : Int64} {t9_10 : Int32} {t10_0 : (Nat → Int32)} {t11_0 : (Nat → Int32)} {t12_0 : (Nat → Int32)} {t13_0 : (Nat → Int32)} {t14_0 : (Nat → Int32)} {t15_0 : (Nat → Int32)} {t16_0 : (Nat → Int64)} {lx94 : Int32} (hW : wR t2_0 t3_0) (hD : gR t5_0 t6_0 t7_0 t8_0) (hB : nmB t16_0) (hx : lx94.toInt ≤ 0 → 0 ≤ x3.toInt ∧ x3.toInt ≤ 9)  : (S_NM_told_J18 x2 x3 x4 t0_0 t0_1 t0_2 t1_0 t1_1 t1_2 t1_3 t1_4 t1_5 t1_6 t2_0 t3_0 t4_0 t4_1 t4_2 t4_3 t4_4 t4_5 t4_6 t4_7 t4_8 t4_9 t4_10 t5_0 t6_0 t7_0 t8_0 t9_0 t9_1 t9_2 t9_3 t9_4 t9_5 t9_6 t9_7 t9_8 t9_9 t9_10 t10_0 t11_0 t12_0 t13_0 t14_0 t15_0 t16_0 lx94) := by
  have e0 : (0 : Int32).toInt = 0 := rfl
  have e1 : (1 : Int32).toInt = 1 := rfl
  have eL0 : (0 : Int64).toInt = 0 := rfl
  have em : (-1 : Int32).toInt = -1 := rfl
  unfold S_NM_told_J18
  by_cases g1 : lx94 ≤ (0 : Int32)
  ·
    rw [if_pos g1]
    have hx3 := hx (q_leI g1)
    by_cases g2 : x2 = (0 : Int32)
    ·
      rw [if_pos g2]
      have h3 := T_WR_told (x2 := x3) (x3 := x4) (t0_0 := t1_0) (t0_1 := t1_1) (t0_2 := t1_2) (t0_3 := t1_3) (t0_4 := t1_4) (t0_5 := t1_5) (t0_6 := t1_6) (t1_0 := t2_0) (t2_0 := t3_0) (by with_reducible assumption)
      with_reducible refine v_oweS h3 ?_
      generalize F_WR_told x3 x4 t1_0 t1_1 t1_2 t1_3 t1_4 t1_5 t1_6 t2_0 t3_0 = p612 at *
      unfold S_NM_told_c40
      exact trivial
    ·
      rw [if_neg g2]
      by_cases g4 : x2 = (1 : Int32)
      ·
        rw [if_pos g4]
        have h5 := T_DR_told (x2 := x3) (x3 := x4) (t0_0 := t4_0) (t0_1 := t4_1) (t0_2 := t4_2) (t0_3 := t4_3) (t0_4 := t4_4) (t0_5 := t4_5) (t0_6 := t4_6) (t0_7 := t4_7) (t0_8 := t4_8) (t0_9 := t4_9) (t0_10 := t4_10) (t1_0 := t5_0) (t2_0 := t6_0) (t3_0 := t7_0) (t4_0 := t8_0) (by with_reducible assumption)
        with_reducible refine v_oweS h5 ?_
        generalize F_DR_told x3 x4 t4_0 t4_1 t4_2 t4_3 t4_4 t4_5 t4_6 t4_7 t4_8 t4_9 t4_10 t5_0 t6_0 t7_0 t8_0 = p551 at *
        unfold S_NM_told_c70
        by_cases g6 : (p551.2.1 : Int32) ≤ (0 : Int32)
        ·
          rw [if_pos g6]
          exact trivial
        ·
          rw [if_neg g6]
          exact trivial
      ·
        rw [if_neg g4]
        have h7 := T_NM_bitsOf (x2 := x2) (x3 := x3) (t0_0 := lx94) (t0_1 := t0_1) (t0_2 := t0_2) (t1_0 := t16_0) (by first | with_reducible exact hx3 | with_reducible exact hx4)
        with_reducible refine v_oweS h7 ?_
        by_cases g8 : x4 ≤ (2 : Int32)
        ·
          rw [if_pos g8]
          by_cases g9 : x4 ≤ (0 : Int32)
          ·
            rw [if_pos g9]
            unfold S_NM_told_J133
            unfold S_NM_told_J134
            have g10 : ((0 : Int32) ≤ (0 : Int32)) := (by decide)
            rw [if_pos g10]
            by_cases g11 : x4 = (0 : Int32)
            ·
              rw [if_pos g11]
              exact trivial
            ·
              rw [if_neg g11]
              by_cases g12 : x4 = (1 : Int32)
              ·
                rw [if_pos g12]
                by_cases g13 : x2 = (3 : Int32)
                ·
                  rw [if_pos g13]
                  have h14 := T_FR_digits (x2 := ((F_NM_bitsOf x2 x3 lx94 t0_1 t0_2 t16_0) : Int64)) (x3 := (1 : Int32)) (t0_0 := t9_0) (t0_1 := t9_1) (t0_2 := t9_2) (t0_3 := t9_3) (t0_4 := t9_4) (t0_5 := t9_5) (t0_6 := t9_6) (t0_7 := t9_7) (t0_8 := t9_8) (t0_9 := t9_9) (t0_10 := t9_10) (t1_0 := t10_0) (t2_0 := t11_0) (t3_0 := t12_0) (t4_0 := t13_0) (t5_0 := t14_0) (t6_0 := t15_0) 
                  with_reducible refine v_oweS h14.1 ?_
                  replace h14 := h14.2
                  generalize F_FR_digits ((F_NM_bitsOf x2 x3 lx94 t0_1 t0_2 t16_0) : Int64) (1 : Int32) t9_0 t9_1 t9_2 t9_3 t9_4 t9_5 t9_6 t9_7 t9_8 t9_9 t9_10 t10_0 t11_0 t12_0 t13_0 t14_0 t15_0 = p444 at *
                  unfold Q_FR_digits at h14
                  unfold S_NM_told_c178_6
                  exact trivial
                ·
                  rw [if_neg g13]
                  have h15 := T_FR_digits (x2 := ((F_NM_bitsOf x2 x3 lx94 t0_1 t0_2 t16_0) : Int64)) (x3 := (0 : Int32)) (t0_0 := t9_0) (t0_1 := t9_1) (t0_2 := t9_2) (t0_3 := t9_3) (t0_4 := t9_4) (t0_5 := t9_5) (t0_6 := t9_6) (t0_7 := t9_7) (t0_8 := t9_8) (t0_9 := t9_9) (t0_10 := t9_10) (t1_0 := t10_0) (t2_0 := t11_0) (t3_0 := t12_0) (t4_0 := t13_0) (t5_0 := t14_0) (t6_0 := t15_0) 
                  with_reducible refine v_oweS h15.1 ?_
                  replace h15 := h15.2
                  generalize F_FR_digits ((F_NM_bitsOf x2 x3 lx94 t0_1 t0_2 t16_0) : Int64) (0 : Int32) t9_0 t9_1 t9_2 t9_3 t9_4 t9_5 t9_6 t9_7 t9_8 t9_9 t9_10 t10_0 t11_0 t12_0 t13_0 t14_0 t15_0 = p371 at *
                  unfold Q_FR_digits at h15
                  unfold S_NM_told_c178
                  exact trivial
              ·
                rw [if_neg g12]
                by_cases g16 : x2 = (3 : Int32)
                ·
                  rw [if_pos g16]
                  have h17 := T_FR_power (x2 := ((F_NM_bitsOf x2 x3 lx94 t0_1 t0_2 t16_0) : Int64)) (x3 := (1 : Int32)) (t0_0 := t9_0) (t0_1 := t9_1) (t0_2 := t9_2) (t0_3 := t9_3) (t0_4 := t9_4) (t0_5 := t9_5) (t0_6 := t9_6) (t0_7 := t9_7) (t0_8 := t9_8) (t0_9 := t9_9) (t0_10 := t9_10) (t1_0 := t10_0) (t2_0 := t11_0) (t3_0 := t12_0) (t4_0 := t13_0) (t5_0 := t14_0) (t6_0 := t15_0) 
                  with_reducible refine v_oweS h17.1 ?_
                  replace h17 := h17.2
                  generalize F_FR_power ((F_NM_bitsOf x2 x3 lx94 t0_1 t0_2 t16_0) : Int64) (1 : Int32) t9_0 t9_1 t9_2 t9_3 t9_4 t9_5 t9_6 t9_7 t9_8 t9_9 t9_10 t10_0 t11_0 t12_0 t13_0 t14_0 t15_0 = p293 at *
                  unfold Q_FR_power at h17
                  unfold S_NM_told_c200_4
                  exact trivial
                ·
                  rw [if_neg g16]
                  have h18 := T_FR_power (x2 := ((F_NM_bitsOf x2 x3 lx94 t0_1 t0_2 t16_0) : Int64)) (x3 := (0 : Int32)) (t0_0 := t9_0) (t0_1 := t9_1) (t0_2 := t9_2) (t0_3 := t9_3) (t0_4 := t9_4) (t0_5 := t9_5) (t0_6 := t9_6) (t0_7 := t9_7) (t0_8 := t9_8) (t0_9 := t9_9) (t0_10 := t9_10) (t1_0 := t10_0) (t2_0 := t11_0) (t3_0 := t12_0) (t4_0 := t13_0) (t5_0 := t14_0) (t6_0 := t15_0) 
                  with_reducible refine v_oweS h18.1 ?_
                  replace h18 := h18.2
                  generalize F_FR_power ((F_NM_bitsOf x2 x3 lx94 t0_1 t0_2 t16_0) : Int64) (0 : Int32) t9_0 t9_1 t9_2 t9_3 t9_4 t9_5 t9_6 t9_7 t9_8 t9_9 t9_10 t10_0 t11_0 t12_0 t13_0 t14_0 t15_0 = p217 at *
                  unfold Q_FR_power at h18
                  unfold S_NM_told_c200
                  exact trivial
          ·
            rw [if_neg g9]
            by_cases g19 : ((F_NM_isFinite x2 ((F_NM_bitsOf x2 x3 lx94 t0_1 t0_2 t16_0) : Int64)) : Int32) = (0 : Int32)
            ·
              rw [if_pos g19]
              unfold S_NM_told_J134
              have g20 : ¬ ((2 : Int32) ≤ (0 : Int32)) := (by decide)
              rw [if_neg g20]
              exact trivial
            ·
              rw [if_neg g19]
              unfold S_NM_told_J133
              unfold S_NM_told_J134
              have g21 : ((0 : Int32) ≤ (0 : Int32)) := (by decide)
              rw [if_pos g21]
              by_cases g22 : x4 = (0 : Int32)
              ·
                rw [if_pos g22]
                exact trivial
              ·
                rw [if_neg g22]
                by_cases g23 : x4 = (1 : Int32)
                ·
                  rw [if_pos g23]
                  by_cases g24 : x2 = (3 : Int32)
                  ·
                    rw [if_pos g24]
                    have h25 := T_FR_digits (x2 := ((F_NM_bitsOf x2 x3 lx94 t0_1 t0_2 t16_0) : Int64)) (x3 := (1 : Int32)) (t0_0 := t9_0) (t0_1 := t9_1) (t0_2 := t9_2) (t0_3 := t9_3) (t0_4 := t9_4) (t0_5 := t9_5) (t0_6 := t9_6) (t0_7 := t9_7) (t0_8 := t9_8) (t0_9 := t9_9) (t0_10 := t9_10) (t1_0 := t10_0) (t2_0 := t11_0) (t3_0 := t12_0) (t4_0 := t13_0) (t5_0 := t14_0) (t6_0 := t15_0) 
                    with_reducible refine v_oweS h25.1 ?_
                    replace h25 := h25.2
                    generalize F_FR_digits ((F_NM_bitsOf x2 x3 lx94 t0_1 t0_2 t16_0) : Int64) (1 : Int32) t9_0 t9_1 t9_2 t9_3 t9_4 t9_5 t9_6 t9_7 t9_8 t9_9 t9_10 t10_0 t11_0 t12_0 t13_0 t14_0 t15_0 = p444 at *
                    unfold Q_FR_digits at h25
                    unfold S_NM_told_c178_6
                    exact trivial
                  ·
                    rw [if_neg g24]
                    have h26 := T_FR_digits (x2 := ((F_NM_bitsOf x2 x3 lx94 t0_1 t0_2 t16_0) : Int64)) (x3 := (0 : Int32)) (t0_0 := t9_0) (t0_1 := t9_1) (t0_2 := t9_2) (t0_3 := t9_3) (t0_4 := t9_4) (t0_5 := t9_5) (t0_6 := t9_6) (t0_7 := t9_7) (t0_8 := t9_8) (t0_9 := t9_9) (t0_10 := t9_10) (t1_0 := t10_0) (t2_0 := t11_0) (t3_0 := t12_0) (t4_0 := t13_0) (t5_0 := t14_0) (t6_0 := t15_0) 
                    with_reducible refine v_oweS h26.1 ?_
                    replace h26 := h26.2
                    generalize F_FR_digits ((F_NM_bitsOf x2 x3 lx94 t0_1 t0_2 t16_0) : Int64) (0 : Int32) t9_0 t9_1 t9_2 t9_3 t9_4 t9_5 t9_6 t9_7 t9_8 t9_9 t9_10 t10_0 t11_0 t12_0 t13_0 t14_0 t15_0 = p371 at *
                    unfold Q_FR_digits at h26
                    unfold S_NM_told_c178
                    exact trivial
                ·
                  rw [if_neg g23]
                  by_cases g27 : x2 = (3 : Int32)
                  ·
                    rw [if_pos g27]
                    have h28 := T_FR_power (x2 := ((F_NM_bitsOf x2 x3 lx94 t0_1 t0_2 t16_0) : Int64)) (x3 := (1 : Int32)) (t0_0 := t9_0) (t0_1 := t9_1) (t0_2 := t9_2) (t0_3 := t9_3) (t0_4 := t9_4) (t0_5 := t9_5) (t0_6 := t9_6) (t0_7 := t9_7) (t0_8 := t9_8) (t0_9 := t9_9) (t0_10 := t9_10) (t1_0 := t10_0) (t2_0 := t11_0) (t3_0 := t12_0) (t4_0 := t13_0) (t5_0 := t14_0) (t6_0 := t15_0) 
                    with_reducible refine v_oweS h28.1 ?_
                    replace h28 := h28.2
                    generalize F_FR_power ((F_NM_bitsOf x2 x3 lx94 t0_1 t0_2 t16_0) : Int64) (1 : Int32) t9_0 t9_1 t9_2 t9_3 t9_4 t9_5 t9_6 t9_7 t9_8 t9_9 t9_10 t10_0 t11_0 t12_0 t13_0 t14_0 t15_0 = p293 at *
                    unfold Q_FR_power at h28
                    unfold S_NM_told_c200_4
                    exact trivial
                  ·
                    rw [if_neg g27]
                    have h29 := T_FR_power (x2 := ((F_NM_bitsOf x2 x3 lx94 t0_1 t0_2 t16_0) : Int64)) (x3 := (0 : Int32)) (t0_0 := t9_0) (t0_1 := t9_1) (t0_2 := t9_2) (t0_3 := t9_3) (t0_4 := t9_4) (t0_5 := t9_5) (t0_6 := t9_6) (t0_7 := t9_7) (t0_8 := t9_8) (t0_9 := t9_9) (t0_10 := t9_10) (t1_0 := t10_0) (t2_0 := t11_0) (t3_0 := t12_0) (t4_0 := t13_0) (t5_0 := t14_0) (t6_0 := t15_0) 
                    with_reducible refine v_oweS h29.1 ?_
                    replace h29 := h29.2
                    generalize F_FR_power ((F_NM_bitsOf x2 x3 lx94 t0_1 t0_2 t16_0) : Int64) (0 : Int32) t9_0 t9_1 t9_2 t9_3 t9_4 t9_5 t9_6 t9_7 t9_8 t9_9 t9_10 t10_0 t11_0 t12_0 t13_0 t14_0 t15_0 = p217 at *
                    unfold Q_FR_power at h29
                    unfold S_NM_told_c200
                    exact trivial
        ·
          rw [if_neg g8]
          unfold S_NM_told_J134
          have g30 : ¬ ((1 : Int32) ≤ (0 : Int32)) := (by decide)
          rw [if_neg g30]
          exact trivial
  ·
    rw [if_neg g1]
    exact trivial
theorem T_NM_told {x2 : Int32} {x3 : Int32} {x4 : Int32} {t0_0 : Int32} {t0_1 : Int32} {t0_2 : Int32} {t1_0 : Int32} {t1_1 : Int32} {t1_2 : Int32} {t1_3 : Int32} {t1_4 : Int32} {t1_5 : Int32} {t1_6 : Int32} {t2_0 : (Nat → Int32)} {t3_0 : (Nat → Int32)} {t4_0 : Int32} {t4_1 : Int32} {t4_2 : Int32} {t4_3 : Int64} {t4_4 : Int32} {t4_5 : Int32} {t4_6 : Int32} {t4_7 : Int32} {t4_8 : Int32} {t4_9 : Int32} {t4_10 : Int32} {t5_0 : (Nat → Int32)} {t6_0 : (Nat → Int32)} {t7_0 : (Nat → Int32)} {t8_0 : (Nat → Int32)} {t9_0 : Int32} {t9_1 : Int32} {t9_2 : Int32} {t9_3 : Int32} {t9_4 : Int64} {t9_5 : Int32} {t9_6 : Int32} {t9_7 : Int64} {t9_8 : Int32} {t9_9 : Int64} {t9_10 : Int32} {t10_0 : (Nat → Int32)} {t11_0 : (Nat → Int32)} {t12_0 : (Nat → Int32)} {t13_0 : (Nat → Int32)} {t14_0 : (Nat → Int32)} {t15_0 : (Nat → Int32)} {t16_0 : (Nat → Int64)} (hW : wR t2_0 t3_0) (hD : gR t5_0 t6_0 t7_0 t8_0) (hB : nmB t16_0)  : (S_NM_told x2 x3 x4 t0_0 t0_1 t0_2 t1_0 t1_1 t1_2 t1_3 t1_4 t1_5 t1_6 t2_0 t3_0 t4_0 t4_1 t4_2 t4_3 t4_4 t4_5 t4_6 t4_7 t4_8 t4_9 t4_10 t5_0 t6_0 t7_0 t8_0 t9_0 t9_1 t9_2 t9_3 t9_4 t9_5 t9_6 t9_7 t9_8 t9_9 t9_10 t10_0 t11_0 t12_0 t13_0 t14_0 t15_0 t16_0) := by
  have e0 : (0 : Int32).toInt = 0 := rfl
  have e1 : (1 : Int32).toInt = 1 := rfl
  have eL0 : (0 : Int64).toInt = 0 := rfl
  have em : (-1 : Int32).toInt = -1 := rfl
  unfold S_NM_told
  by_cases g1 : ((F_NM_no_IIZ x2 x3) : Int32) = (0 : Int32)
  ·
    rw [if_pos g1]
    have hno := (nm_no2 g1).2
    by_cases g2 : (0 : Int32) ≤ x4
    ·
      rw [if_pos g2]
      exact T_NM_toldJ hW hD hB (fun _ => hno)
    ·
      rw [if_neg g2]
      unfold S_NM_told_J13
      exact T_NM_toldJ hW hD hB (fun z => absurd z (by decide))
  ·
    rw [if_neg g1]
    unfold S_NM_told_J13
    exact T_NM_toldJ hW hD hB (fun z => absurd z (by decide))
theorem T_NM_compareJ {x2 : Int32} {x3 : Int32} {x4 : Int32} {t0_0 : Int32} {t0_1 : Int32} {t0_2 : Int32} {t1_0 : Int32} {t1_1 : Int32} {t1_2 : Int32} {t1_3 : Int32} {t1_4 : Int32} {t1_5 : Int32} {t1_6 : Int32} {t2_0 : (Nat → Int32)} {t3_0 : (Nat → Int32)} {t4_0 : (Nat → Int32)} {t5_0 : (Nat → Int32)} {t6_0 : Int32} {t6_1 : Int32} {t6_2 : Int32} {t6_3 : Int64} {t6_4 : Int32} {t6_5 : Int32} {t6_6 : Int32} {t6_7 : Int32} {t6_8 : Int32} {t6_9 : Int32} {t6_10 : Int32} {t7_0 : (Nat → Int32)} {t8_0 : (Nat → Int32)} {t9_0 : (Nat → Int32)} {t10_0 : (Nat → Int32)} {t11_0 : (Nat → Int64)} {lx69 : Int32} (hW : wR t2_0 t3_0) (hD : gR t7_0 t8_0 t9_0 t10_0) (hB : nmB t11_0) (hx : lx69.toInt ≤ 0 → (0 ≤ x3.toInt ∧ x3.toInt ≤ 9) ∧ 0 ≤ x4.toInt ∧ x4.toInt ≤ 9)  : (S_NM_compare_J21 x2 x3 x4 t0_0 t0_1 t0_2 t1_0 t1_1 t1_2 t1_3 t1_4 t1_5 t1_6 t2_0 t3_0 t4_0 t5_0 t6_0 t6_1 t6_2 t6_3 t6_4 t6_5 t6_6 t6_7 t6_8 t6_9 t6_10 t7_0 t8_0 t9_0 t10_0 t11_0 lx69) := by
  have e0 : (0 : Int32).toInt = 0 := rfl
  have e1 : (1 : Int32).toInt = 1 := rfl
  have eL0 : (0 : Int64).toInt = 0 := rfl
  have em : (-1 : Int32).toInt = -1 := rfl
  unfold S_NM_compare_J21
  by_cases g1 : lx69 ≤ (0 : Int32)
  ·
    rw [if_pos g1]
    have hx3 := (hx (q_leI g1)).1
    have hx4 := (hx (q_leI g1)).2
    by_cases g2 : (2 : Int32) ≤ x2
    ·
      rw [if_pos g2]
      have h3 := T_NM_bitsOf (x2 := x2) (x3 := x3) (t0_0 := lx69) (t0_1 := t0_1) (t0_2 := t0_2) (t1_0 := t11_0) (by first | with_reducible exact hx3 | with_reducible exact hx4)
      with_reducible refine v_oweS h3 ?_
      have h4 := T_NM_bitsOf (x2 := x2) (x3 := x4) (t0_0 := lx69) (t0_1 := t0_1) (t0_2 := t0_2) (t1_0 := t11_0) (by first | with_reducible exact hx3 | with_reducible exact hx4)
      with_reducible refine v_oweS h4 ?_
      by_cases g5 : ((F_NM_isNumber x2 ((F_NM_bitsOf x2 x3 lx69 t0_1 t0_2 t11_0) : Int64)) : Int32) = (0 : Int32)
      ·
        rw [if_pos g5]
        unfold S_NM_compare_J99
        unfold S_NM_compare_J104
        have g6 : ¬ ((2 : Int32) ≤ (0 : Int32)) := (by decide)
        rw [if_neg g6]
        exact trivial
      ·
        rw [if_neg g5]
        by_cases g7 : ((F_NM_isNumber x2 ((F_NM_bitsOf x2 x4 lx69 t0_1 t0_2 t11_0) : Int64)) : Int32) = (0 : Int32)
        ·
          rw [if_pos g7]
          unfold S_NM_compare_J99
          unfold S_NM_compare_J104
          have g8 : ¬ ((2 : Int32) ≤ (0 : Int32)) := (by decide)
          rw [if_neg g8]
          exact trivial
        ·
          rw [if_neg g7]
          unfold S_NM_compare_J104
          have g9 : ((0 : Int32) ≤ (0 : Int32)) := (by decide)
          rw [if_pos g9]
          by_cases g10 : (0 : Int32) ≤ (lg_cmp ((F_NM_placeOf x2 ((F_NM_bitsOf x2 x3 lx69 t0_1 t0_2 t11_0) : Int64)) : Int64) ((F_NM_placeOf x2 ((F_NM_bitsOf x2 x4 lx69 t0_1 t0_2 t11_0) : Int64)) : Int64) : Int32)
          ·
            rw [if_pos g10]
            by_cases g11 : (lg_cmp ((F_NM_placeOf x2 ((F_NM_bitsOf x2 x3 lx69 t0_1 t0_2 t11_0) : Int64)) : Int64) ((F_NM_placeOf x2 ((F_NM_bitsOf x2 x4 lx69 t0_1 t0_2 t11_0) : Int64)) : Int64) : Int32) ≤ (0 : Int32)
            ·
              rw [if_pos g11]
              exact trivial
            ·
              rw [if_neg g11]
              exact trivial
          ·
            rw [if_neg g10]
            exact trivial
    ·
      rw [if_neg g2]
      by_cases g12 : x2 = (0 : Int32)
      ·
        rw [if_pos g12]
        have h13 := T_WR_compare (x2 := x3) (x3 := x4) (t0_0 := t1_0) (t0_1 := t1_1) (t0_2 := t1_2) (t0_3 := t1_3) (t0_4 := t1_4) (t0_5 := t1_5) (t0_6 := t1_6) (t1_0 := t2_0) (t2_0 := t3_0) (t3_0 := t4_0) (t4_0 := t5_0) (by with_reducible assumption)
        with_reducible refine v_oweS h13 ?_
        generalize F_WR_compare x3 x4 t1_0 t1_1 t1_2 t1_3 t1_4 t1_5 t1_6 t2_0 t3_0 t4_0 t5_0 = p291 at *
        unfold S_NM_compare_c48
        exact trivial
      ·
        rw [if_neg g12]
        have h14 := T_DR_compare (x2 := x3) (x3 := x4) (t0_0 := t6_0) (t0_1 := t6_1) (t0_2 := t6_2) (t0_3 := t6_3) (t0_4 := t6_4) (t0_5 := t6_5) (t0_6 := t6_6) (t0_7 := t6_7) (t0_8 := t6_8) (t0_9 := t6_9) (t0_10 := t6_10) (t1_0 := t7_0) (t2_0 := t8_0) (t3_0 := t9_0) (t4_0 := t10_0) (by with_reducible assumption)
        with_reducible refine v_oweS h14 ?_
        generalize F_DR_compare x3 x4 t6_0 t6_1 t6_2 t6_3 t6_4 t6_5 t6_6 t6_7 t6_8 t6_9 t6_10 t7_0 t8_0 t9_0 t10_0 = p237 at *
        unfold S_NM_compare_c60
        exact trivial
  ·
    rw [if_neg g1]
    exact trivial
theorem T_NM_compare {x2 : Int32} {x3 : Int32} {x4 : Int32} {t0_0 : Int32} {t0_1 : Int32} {t0_2 : Int32} {t1_0 : Int32} {t1_1 : Int32} {t1_2 : Int32} {t1_3 : Int32} {t1_4 : Int32} {t1_5 : Int32} {t1_6 : Int32} {t2_0 : (Nat → Int32)} {t3_0 : (Nat → Int32)} {t4_0 : (Nat → Int32)} {t5_0 : (Nat → Int32)} {t6_0 : Int32} {t6_1 : Int32} {t6_2 : Int32} {t6_3 : Int64} {t6_4 : Int32} {t6_5 : Int32} {t6_6 : Int32} {t6_7 : Int32} {t6_8 : Int32} {t6_9 : Int32} {t6_10 : Int32} {t7_0 : (Nat → Int32)} {t8_0 : (Nat → Int32)} {t9_0 : (Nat → Int32)} {t10_0 : (Nat → Int32)} {t11_0 : (Nat → Int64)} (hW : wR t2_0 t3_0) (hD : gR t7_0 t8_0 t9_0 t10_0) (hB : nmB t11_0)  : (S_NM_compare x2 x3 x4 t0_0 t0_1 t0_2 t1_0 t1_1 t1_2 t1_3 t1_4 t1_5 t1_6 t2_0 t3_0 t4_0 t5_0 t6_0 t6_1 t6_2 t6_3 t6_4 t6_5 t6_6 t6_7 t6_8 t6_9 t6_10 t7_0 t8_0 t9_0 t10_0 t11_0) := by
  have e0 : (0 : Int32).toInt = 0 := rfl
  have e1 : (1 : Int32).toInt = 1 := rfl
  have eL0 : (0 : Int64).toInt = 0 := rfl
  have em : (-1 : Int32).toInt = -1 := rfl
  unfold S_NM_compare
  by_cases g1 : ((F_NM_no_IIZ x2 x3) : Int32) = (0 : Int32)
  ·
    rw [if_pos g1]
    have hno := (nm_no2 g1).2
    by_cases g2 : ((F_NM_no_IZ x4) : Int32) = (0 : Int32)
    ·
      rw [if_pos g2]
      have hno4 := nm_no1 g2
      exact T_NM_compareJ hW hD hB (fun _ => ⟨hno, hno4⟩)
    ·
      rw [if_neg g2]
      unfold S_NM_compare_J16
      exact T_NM_compareJ hW hD hB (fun z => absurd z (by decide))
  ·
    rw [if_neg g1]
    unfold S_NM_compare_J16
    exact T_NM_compareJ hW hD hB (fun z => absurd z (by decide))
theorem nm_pa {x k p : Int32} (hp : 0 ≤ p.toInt ∧ p.toInt ≤ 12200) (hk : 0 ≤ k.toInt ∧ k.toInt ≤ 8) (h1 : ¬ lg_cmp (x.toInt64 + k.toInt64) 0 < 0) (h2 : ¬ 0 ≤ lg_cmp (x.toInt64 + k.toInt64) p.toInt64) : 0 ≤ ((x.toInt64 + k.toInt64 : Int64).toInt32).toInt ∧ ((x.toInt64 + k.toInt64 : Int64).toInt32).toInt ≤ 12199 := by
  have a := g_lc2 h1
  have b := g_lc6 h2
  have e : p.toInt64.toInt = p.toInt := q_i2l rfl
  have z : (0 : Int64).toInt = 0 := rfl
  have c : ((x.toInt64 + k.toInt64 : Int64).toInt32).toInt = (x.toInt64 + k.toInt64 : Int64).toInt := by
    rw [Int64.toInt_toInt32]; exact Int.bmod_eq_of_le (by omega) (by omega)
  omega
theorem vm_pa {x2 : Int32} {t0_0 : Int32} {t0_1 : Int32} {t0_2 : Int32} {t1_0 : (Nat → Int32)} (h02 : 0 ≤ t0_2.toInt ∧ t0_2.toInt ≤ 12200)  : ∀ (n : Nat) (lx14 : Int32) (lx15 : Int64), (0 ≤ lx14.toInt ∧ lx14.toInt ≤ 8) → (8 - lx14.toInt < (n : Int)) → (S_NM_paperAt_L10 x2 t0_0 t0_1 t0_2 t1_0 n lx14 lx15) := by
  intro n
  induction n with
  | zero => intro lx14 lx15 hA0 hm; exact absurd (show False by omega) id
  | succ n ih =>
    intro lx14 lx15 hA0 hm
    have e0 : (0 : Int32).toInt = 0 := rfl
    have e1 : (1 : Int32).toInt = 1 := rfl
    have eL0 : (0 : Int64).toInt = 0 := rfl
    have em : (-1 : Int32).toInt = -1 := rfl
    rw [S_NM_paperAt_L10.eq_2]
    by_cases g1 : (8 : Int32) ≤ lx14
    ·
      rw [if_pos g1]
      have g1i : 8 ≤ lx14.toInt := q_leI g1
      exact trivial
    ·
      rw [if_neg g1]
      have g1i : lx14.toInt < 8 := q_nleI g1
      by_cases g2 : (lg_cmp ((x2.toInt64 : Int64) + (lx14.toInt64 : Int64) : Int64) 0 : Int32) < (0 : Int32)
      ·
        rw [if_pos g2]
        obtain ⟨a3, e4⟩ := q_nm (lx14 + 1 : Int32)
        rw [e4]
        have a3i : a3.toInt = lx14.toInt + 1 := by rw [← e4]; exact q_addI (x := lx14.toInt) (y := 1) rfl (by decide) (by omega) (by omega)
        exact ih _ _ ⟨by omega, by omega⟩ (by omega)
      ·
        rw [if_neg g2]
        have gA := g2
        by_cases g5 : (0 : Int32) ≤ (lg_cmp ((x2.toInt64 : Int64) + (lx14.toInt64 : Int64) : Int64) (t0_2.toInt64 : Int64) : Int32)
        ·
          rw [if_pos g5]
          obtain ⟨a6, e7⟩ := q_nm (lx14 + 1 : Int32)
          rw [e7]
          have a6i : a6.toInt = lx14.toInt + 1 := by rw [← e7]; exact q_addI (x := lx14.toInt) (y := 1) rfl (by decide) (by omega) (by omega)
          exact ih _ _ ⟨by omega, by omega⟩ (by omega)
        ·
          rw [if_neg g5]
          have gB := g5
          refine And.intro (by first | exact (nm_pa h02 ⟨by omega, by omega⟩ gA gB).1 | exact (nm_pa h02 ⟨by omega, by omega⟩ gA gB).2) ?_
          obtain ⟨a8, e9⟩ := q_nm (lx14 + 1 : Int32)
          rw [e9]
          have a8i : a8.toInt = lx14.toInt + 1 := by rw [← e9]; exact q_addI (x := lx14.toInt) (y := 1) rfl (by decide) (by omega) (by omega)
          exact ih _ _ ⟨by omega, by omega⟩ (by omega)
theorem T_NM_paperAt {x2 : Int32} {t0_0 : Int32} {t0_1 : Int32} {t0_2 : Int32} {t1_0 : (Nat → Int32)} (h02 : 0 ≤ t0_2.toInt ∧ t0_2.toInt ≤ 12200)  : (S_NM_paperAt x2 t0_0 t0_1 t0_2 t1_0) := by
  have e0 : (0 : Int32).toInt = 0 := rfl
  have e1 : (1 : Int32).toInt = 1 := rfl
  have eL0 : (0 : Int64).toInt = 0 := rfl
  have em : (-1 : Int32).toInt = -1 := rfl
  unfold S_NM_paperAt
  exact vm_pa h02 _ _ _ (by decide) (by decide)

/-! NumberHouseModel: whole .. shape, print, figures, argument, format -/
def Q_NM_whole (p : Int32 × Int32 × Int32 × Int32 × Int32 × Int32 × Int32 × Int32 × (Nat → Int32) × (Nat → Int32) × (Nat → Int32) × (Nat → Int32) × (Nat → Int32) × (Nat → Int32) × (Nat → Int32) × (Nat → Int32) × (Nat → Int32) × (Nat → Int32) × (Nat → Int32) × (Nat → Int32)) : Prop := wR p.2.2.2.2.2.2.2.2.1 p.2.2.2.2.2.2.2.2.2.1
theorem nm_wholeA {c0 : Int32} {c1 : Int32} {c2 : Int32} {c3 : Int32} {c4 : Int32} {c5 : Int32} {c6 : Int32} {c7 : Int32} {c8 : (Nat → Int32)} {c9 : (Nat → Int32)} {c10 : (Nat → Int32)} {c11 : (Nat → Int32)} {c12 : (Nat → Int32)} {c13 : (Nat → Int32)} {c14 : (Nat → Int32)} {c15 : (Nat → Int32)} {c16 : (Nat → Int32)} {c17 : (Nat → Int32)} {c18 : (Nat → Int32)} {c19 : (Nat → Int32)} (h0 : wR c8 c9) : Q_NM_whole (c0, c1, c2, c3, c4, c5, c6, c7, c8, c9, c10, c11, c12, c13, c14, c15, c16, c17, c18, c19) := h0
theorem T_NM_whole {x2 : Int32} {x3 : Int32} {x4 : Int32} {x5 : Int32} {t0_0 : Int32} {t0_1 : Int32} {t0_2 : Int32} {t1_0 : Int32} {t1_1 : Int32} {t1_2 : Int32} {t1_3 : Int32} {t1_4 : Int32} {t1_5 : Int32} {t1_6 : Int32} {t2_0 : (Nat → Int32)} {t3_0 : (Nat → Int32)} {t4_0 : (Nat → Int32)} {t5_0 : (Nat → Int32)} {t6_0 : (Nat → Int32)} {t7_0 : (Nat → Int32)} {t8_0 : (Nat → Int32)} {t9_0 : (Nat → Int32)} {t10_0 : (Nat → Int32)} {t11_0 : (Nat → Int32)} {t12_0 : (Nat → Int32)} {t13_0 : (Nat → Int32)} (hW : wR t2_0 t3_0)  : (S_NM_whole x2 x3 x4 x5 t0_0 t0_1 t0_2 t1_0 t1_1 t1_2 t1_3 t1_4 t1_5 t1_6 t2_0 t3_0 t4_0 t5_0 t6_0 t7_0 t8_0 t9_0 t10_0 t11_0 t12_0 t13_0) ∧ Q_NM_whole (F_NM_whole x2 x3 x4 x5 t0_0 t0_1 t0_2 t1_0 t1_1 t1_2 t1_3 t1_4 t1_5 t1_6 t2_0 t3_0 t4_0 t5_0 t6_0 t7_0 t8_0 t9_0 t10_0 t11_0 t12_0 t13_0) := by
  have e0 : (0 : Int32).toInt = 0 := rfl
  have e1 : (1 : Int32).toInt = 1 := rfl
  have eL0 : (0 : Int64).toInt = 0 := rfl
  have em : (-1 : Int32).toInt = -1 := rfl
  unfold S_NM_whole F_NM_whole
  by_cases g1 : x2 < (0 : Int32)
  ·
    rw [if_pos g1, if_pos g1]
    unfold S_NM_whole_J33 F_NM_whole_J33
    unfold S_NM_whole_J38 F_NM_whole_J38
    have g2 : ¬ ((1 : Int32) ≤ (0 : Int32)) := (by decide)
    rw [if_neg g2, if_neg g2]
    refine ⟨trivial, ?_⟩
    exact nm_wholeA (by with_reducible assumption)
  ·
    rw [if_neg g1, if_neg g1]
    by_cases g3 : (11 : Int32) < x2
    ·
      rw [if_pos g3, if_pos g3]
      unfold S_NM_whole_J33 F_NM_whole_J33
      unfold S_NM_whole_J38 F_NM_whole_J38
      have g4 : ¬ ((1 : Int32) ≤ (0 : Int32)) := (by decide)
      rw [if_neg g4, if_neg g4]
      refine ⟨trivial, ?_⟩
      exact nm_wholeA (by with_reducible assumption)
    ·
      rw [if_neg g3, if_neg g3]
      by_cases g5 : ((F_NM_no_IZ x3) : Int32) = (0 : Int32)
      ·
        rw [if_pos g5, if_pos g5]
        by_cases g6 : ((F_NM_no_IZ x4) : Int32) = (0 : Int32)
        ·
          rw [if_pos g6, if_pos g6]
          by_cases g7 : ((F_NM_no_IZ x5) : Int32) = (0 : Int32)
          ·
            rw [if_pos g7, if_pos g7]
            unfold S_NM_whole_J38 F_NM_whole_J38
            have g8 : ((0 : Int32) ≤ (0 : Int32)) := (by decide)
            rw [if_pos g8, if_pos g8]
            by_cases g9 : x2 = (0 : Int32)
            ·
              rw [if_pos g9, if_pos g9]
              have h10 := T_WR_add (x2 := x3) (x3 := x4) (x4 := x5) (x5 := (0 : Int32)) (t0_0 := t1_0) (t0_1 := t1_1) (t0_2 := t1_2) (t0_3 := t1_3) (t0_4 := t1_4) (t0_5 := t1_5) (t0_6 := t1_6) (t1_0 := t2_0) (t2_0 := t3_0) (t3_0 := t4_0) (t4_0 := t9_0) (t5_0 := t10_0) (by with_reducible assumption)
              with_reducible refine v_owe h10.1 ?_
              replace h10 := h10.2
              generalize F_WR_add x3 x4 x5 (0 : Int32) t1_0 t1_1 t1_2 t1_3 t1_4 t1_5 t1_6 t2_0 t3_0 t4_0 t9_0 t10_0 = p119 at *
              unfold Q_WR_add at h10
              unfold S_NM_whole_c114 F_NM_whole_c114
              refine ⟨trivial, ?_⟩
              exact nm_wholeA (by with_reducible assumption)
            ·
              rw [if_neg g9, if_neg g9]
              by_cases g11 : x2 = (1 : Int32)
              ·
                rw [if_pos g11, if_pos g11]
                have h12 := T_WR_add (x2 := x3) (x3 := x4) (x4 := x5) (x5 := (1 : Int32)) (t0_0 := t1_0) (t0_1 := t1_1) (t0_2 := t1_2) (t0_3 := t1_3) (t0_4 := t1_4) (t0_5 := t1_5) (t0_6 := t1_6) (t1_0 := t2_0) (t2_0 := t3_0) (t3_0 := t4_0) (t4_0 := t9_0) (t5_0 := t10_0) (by with_reducible assumption)
                with_reducible refine v_owe h12.1 ?_
                replace h12 := h12.2
                generalize F_WR_add x3 x4 x5 (1 : Int32) t1_0 t1_1 t1_2 t1_3 t1_4 t1_5 t1_6 t2_0 t3_0 t4_0 t9_0 t10_0 = p177 at *
                unfold Q_WR_add at h12
                unfold S_NM_whole_c114_3 F_NM_whole_c114_3
                refine ⟨trivial, ?_⟩
                exact nm_wholeA (by with_reducible assumption)
              ·
                rw [if_neg g11, if_neg g11]
                by_cases g13 : x2 = (2 : Int32)
                ·
                  rw [if_pos g13, if_pos g13]
                  have h14 := T_WR_multiply (x2 := x3) (x3 := x4) (x4 := x5) (t0_0 := t1_0) (t0_1 := t1_1) (t0_2 := t1_2) (t0_3 := t1_3) (t0_4 := t1_4) (t0_5 := t1_5) (t0_6 := t1_6) (t1_0 := t2_0) (t2_0 := t3_0) (t3_0 := t4_0) (t4_0 := t6_0) (t5_0 := t9_0) (t6_0 := t10_0) (by with_reducible assumption)
                  with_reducible refine v_owe h14.1 ?_
                  replace h14 := h14.2
                  generalize F_WR_multiply x3 x4 x5 t1_0 t1_1 t1_2 t1_3 t1_4 t1_5 t1_6 t2_0 t3_0 t4_0 t6_0 t9_0 t10_0 = p236 at *
                  unfold Q_WR_multiply at h14
                  unfold S_NM_whole_c128 F_NM_whole_c128
                  refine ⟨trivial, ?_⟩
                  exact nm_wholeA (by with_reducible assumption)
                ·
                  rw [if_neg g13, if_neg g13]
                  by_cases g15 : x2 = (3 : Int32)
                  ·
                    rw [if_pos g15, if_pos g15]
                    have h16 := T_WR_divide (x2 := x3) (x3 := x4) (x4 := x5) (x5 := (10 : Int32)) (t0_0 := t1_0) (t0_1 := t1_1) (t0_2 := t1_2) (t0_3 := t1_3) (t0_4 := t1_4) (t0_5 := t1_5) (t0_6 := t1_6) (t1_0 := t2_0) (t2_0 := t3_0) (t3_0 := t4_0) (t4_0 := t7_0) (t5_0 := t8_0) (t6_0 := t9_0) (t7_0 := t10_0) (by with_reducible assumption)
                    with_reducible refine v_owe h16.1 ?_
                    replace h16 := h16.2
                    generalize F_WR_divide x3 x4 x5 (10 : Int32) t1_0 t1_1 t1_2 t1_3 t1_4 t1_5 t1_6 t2_0 t3_0 t4_0 t7_0 t8_0 t9_0 t10_0 = p300 at *
                    unfold Q_WR_divide at h16
                    unfold S_NM_whole_c144 F_NM_whole_c144
                    refine ⟨trivial, ?_⟩
                    exact nm_wholeA (by with_reducible assumption)
                  ·
                    rw [if_neg g15, if_neg g15]
                    by_cases g17 : x2 = (4 : Int32)
                    ·
                      rw [if_pos g17, if_pos g17]
                      have h18 := T_WR_divide (x2 := x3) (x3 := x4) (x4 := (10 : Int32)) (x5 := x5) (t0_0 := t1_0) (t0_1 := t1_1) (t0_2 := t1_2) (t0_3 := t1_3) (t0_4 := t1_4) (t0_5 := t1_5) (t0_6 := t1_6) (t1_0 := t2_0) (t2_0 := t3_0) (t3_0 := t4_0) (t4_0 := t7_0) (t5_0 := t8_0) (t6_0 := t9_0) (t7_0 := t10_0) (by with_reducible assumption)
                      with_reducible refine v_owe h18.1 ?_
                      replace h18 := h18.2
                      generalize F_WR_divide x3 x4 (10 : Int32) x5 t1_0 t1_1 t1_2 t1_3 t1_4 t1_5 t1_6 t2_0 t3_0 t4_0 t7_0 t8_0 t9_0 t10_0 = p365 at *
                      unfold Q_WR_divide at h18
                      unfold S_NM_whole_c160 F_NM_whole_c160
                      refine ⟨trivial, ?_⟩
                      exact nm_wholeA (by with_reducible assumption)
                    ·
                      rw [if_neg g17, if_neg g17]
                      by_cases g19 : x2 = (5 : Int32)
                      ·
                        rw [if_pos g19, if_pos g19]
                        have h20 := T_WR_modulo (x2 := x3) (x3 := x4) (x4 := x5) (t0_0 := t1_0) (t0_1 := t1_1) (t0_2 := t1_2) (t0_3 := t1_3) (t0_4 := t1_4) (t0_5 := t1_5) (t0_6 := t1_6) (t1_0 := t2_0) (t2_0 := t3_0) (t3_0 := t4_0) (t4_0 := t7_0) (t5_0 := t8_0) (t6_0 := t9_0) (t7_0 := t13_0) (by with_reducible assumption)
                        with_reducible refine v_owe h20.1 ?_
                        replace h20 := h20.2
                        generalize F_WR_modulo x3 x4 x5 t1_0 t1_1 t1_2 t1_3 t1_4 t1_5 t1_6 t2_0 t3_0 t4_0 t7_0 t8_0 t9_0 t13_0 = p430 at *
                        unfold Q_WR_modulo at h20
                        unfold S_NM_whole_c174 F_NM_whole_c174
                        refine ⟨trivial, ?_⟩
                        exact nm_wholeA (by with_reducible assumption)
                      ·
                        rw [if_neg g19, if_neg g19]
                        by_cases g21 : x2 = (6 : Int32)
                        ·
                          rw [if_pos g21, if_pos g21]
                          have h22 := T_WR_common (x2 := x3) (x3 := x4) (x4 := x5) (t0_0 := t1_0) (t0_1 := t1_1) (t0_2 := t1_2) (t0_3 := t1_3) (t0_4 := t1_4) (t0_5 := t1_5) (t0_6 := t1_6) (t1_0 := t2_0) (t2_0 := t3_0) (t3_0 := t4_0) (t4_0 := t7_0) (t5_0 := t8_0) (t6_0 := t9_0) (t7_0 := t10_0) (by with_reducible assumption)
                          with_reducible refine v_owe h22.1 ?_
                          replace h22 := h22.2
                          generalize F_WR_common x3 x4 x5 t1_0 t1_1 t1_2 t1_3 t1_4 t1_5 t1_6 t2_0 t3_0 t4_0 t7_0 t8_0 t9_0 t10_0 = p495 at *
                          unfold Q_WR_common at h22
                          unfold S_NM_whole_c188 F_NM_whole_c188
                          refine ⟨trivial, ?_⟩
                          exact nm_wholeA (by with_reducible assumption)
                        ·
                          rw [if_neg g21, if_neg g21]
                          by_cases g23 : x2 = (7 : Int32)
                          ·
                            rw [if_pos g23, if_pos g23]
                            have h24 := T_WR_inverse (x2 := x3) (x3 := x4) (x4 := x5) (t0_0 := t1_0) (t0_1 := t1_1) (t0_2 := t1_2) (t0_3 := t1_3) (t0_4 := t1_4) (t0_5 := t1_5) (t0_6 := t1_6) (t1_0 := t2_0) (t2_0 := t3_0) (t3_0 := t4_0) (t4_0 := t5_0) (t5_0 := t6_0) (t6_0 := t7_0) (t7_0 := t8_0) (t8_0 := t9_0) (t9_0 := t10_0) (t10_0 := t11_0) (t11_0 := t12_0) (t12_0 := t13_0) (by with_reducible assumption)
                            with_reducible refine v_owe h24.1 ?_
                            replace h24 := h24.2
                            generalize F_WR_inverse x3 x4 x5 t1_0 t1_1 t1_2 t1_3 t1_4 t1_5 t1_6 t2_0 t3_0 t4_0 t5_0 t6_0 t7_0 t8_0 t9_0 t10_0 t11_0 t12_0 t13_0 = p570 at *
                            unfold Q_WR_inverse at h24
                            unfold S_NM_whole_c202 F_NM_whole_c202
                            refine ⟨trivial, ?_⟩
                            exact nm_wholeA (by with_reducible assumption)
                          ·
                            rw [if_neg g23, if_neg g23]
                            have h25 := T_WR_combine (x2 := x3) (x3 := x4) (x4 := x5) (x5 := (x2 - 8 : Int32)) (t0_0 := t1_0) (t0_1 := t1_1) (t0_2 := t1_2) (t0_3 := t1_3) (t0_4 := t1_4) (t0_5 := t1_5) (t0_6 := t1_6) (t1_0 := t2_0) (t2_0 := t3_0) (t3_0 := t4_0) (t4_0 := t5_0) (by with_reducible assumption)
                            with_reducible refine v_owe h25.1 ?_
                            replace h25 := h25.2
                            generalize F_WR_combine x3 x4 x5 (x2 - 8 : Int32) t1_0 t1_1 t1_2 t1_3 t1_4 t1_5 t1_6 t2_0 t3_0 t4_0 t5_0 = p632 at *
                            unfold Q_WR_combine at h25
                            unfold S_NM_whole_c220 F_NM_whole_c220
                            refine ⟨trivial, ?_⟩
                            exact nm_wholeA (by with_reducible assumption)
          ·
            rw [if_neg g7, if_neg g7]
            unfold S_NM_whole_J33 F_NM_whole_J33
            unfold S_NM_whole_J38 F_NM_whole_J38
            have g26 : ¬ ((1 : Int32) ≤ (0 : Int32)) := (by decide)
            rw [if_neg g26, if_neg g26]
            refine ⟨trivial, ?_⟩
            exact nm_wholeA (by with_reducible assumption)
        ·
          rw [if_neg g6, if_neg g6]
          unfold S_NM_whole_J33 F_NM_whole_J33
          unfold S_NM_whole_J38 F_NM_whole_J38
          have g27 : ¬ ((1 : Int32) ≤ (0 : Int32)) := (by decide)
          rw [if_neg g27, if_neg g27]
          refine ⟨trivial, ?_⟩
          exact nm_wholeA (by with_reducible assumption)
      ·
        rw [if_neg g5, if_neg g5]
        unfold S_NM_whole_J33 F_NM_whole_J33
        unfold S_NM_whole_J38 F_NM_whole_J38
        have g28 : ¬ ((1 : Int32) ≤ (0 : Int32)) := (by decide)
        rw [if_neg g28, if_neg g28]
        refine ⟨trivial, ?_⟩
        exact nm_wholeA (by with_reducible assumption)
def Q_NM_wholeBy (p : Int32 × Int32 × Int32 × Int32 × Int32 × Int32 × Int32 × Int32 × (Nat → Int32) × (Nat → Int32) × (Nat → Int32) × (Nat → Int32) × (Nat → Int32) × (Nat → Int32)) : Prop := wR p.2.2.2.2.2.2.2.2.1 p.2.2.2.2.2.2.2.2.2.1
theorem nm_wholeByA {c0 : Int32} {c1 : Int32} {c2 : Int32} {c3 : Int32} {c4 : Int32} {c5 : Int32} {c6 : Int32} {c7 : Int32} {c8 : (Nat → Int32)} {c9 : (Nat → Int32)} {c10 : (Nat → Int32)} {c11 : (Nat → Int32)} {c12 : (Nat → Int32)} {c13 : (Nat → Int32)} (h0 : wR c8 c9) : Q_NM_wholeBy (c0, c1, c2, c3, c4, c5, c6, c7, c8, c9, c10, c11, c12, c13) := h0
theorem T_NM_wholeBy {x2 : Int32} {x3 : Int32} {x4 : Int32} {x5 : Int32} {t0_0 : Int32} {t0_1 : Int32} {t0_2 : Int32} {t1_0 : Int32} {t1_1 : Int32} {t1_2 : Int32} {t1_3 : Int32} {t1_4 : Int32} {t1_5 : Int32} {t1_6 : Int32} {t2_0 : (Nat → Int32)} {t3_0 : (Nat → Int32)} {t4_0 : (Nat → Int32)} {t5_0 : (Nat → Int32)} {t6_0 : (Nat → Int32)} {t7_0 : (Nat → Int32)} (hW : wR t2_0 t3_0)  : (S_NM_wholeBy x2 x3 x4 x5 t0_0 t0_1 t0_2 t1_0 t1_1 t1_2 t1_3 t1_4 t1_5 t1_6 t2_0 t3_0 t4_0 t5_0 t6_0 t7_0) ∧ Q_NM_wholeBy (F_NM_wholeBy x2 x3 x4 x5 t0_0 t0_1 t0_2 t1_0 t1_1 t1_2 t1_3 t1_4 t1_5 t1_6 t2_0 t3_0 t4_0 t5_0 t6_0 t7_0) := by
  have e0 : (0 : Int32).toInt = 0 := rfl
  have e1 : (1 : Int32).toInt = 1 := rfl
  have eL0 : (0 : Int64).toInt = 0 := rfl
  have em : (-1 : Int32).toInt = -1 := rfl
  unfold S_NM_wholeBy F_NM_wholeBy
  by_cases g1 : x2 < (0 : Int32)
  ·
    rw [if_pos g1, if_pos g1]
    unfold S_NM_wholeBy_J25 F_NM_wholeBy_J25
    unfold S_NM_wholeBy_J30 F_NM_wholeBy_J30
    have g2 : ¬ ((1 : Int32) ≤ (0 : Int32)) := (by decide)
    rw [if_neg g2, if_neg g2]
    refine ⟨trivial, ?_⟩
    exact nm_wholeByA (by with_reducible assumption)
  ·
    rw [if_neg g1, if_neg g1]
    by_cases g3 : (2 : Int32) < x2
    ·
      rw [if_pos g3, if_pos g3]
      unfold S_NM_wholeBy_J25 F_NM_wholeBy_J25
      unfold S_NM_wholeBy_J30 F_NM_wholeBy_J30
      have g4 : ¬ ((1 : Int32) ≤ (0 : Int32)) := (by decide)
      rw [if_neg g4, if_neg g4]
      refine ⟨trivial, ?_⟩
      exact nm_wholeByA (by with_reducible assumption)
    ·
      rw [if_neg g3, if_neg g3]
      by_cases g5 : ((F_NM_no_IZ x3) : Int32) = (0 : Int32)
      ·
        rw [if_pos g5, if_pos g5]
        by_cases g6 : ((F_NM_no_IZ x5) : Int32) = (0 : Int32)
        ·
          rw [if_pos g6, if_pos g6]
          unfold S_NM_wholeBy_J30 F_NM_wholeBy_J30
          have g7 : ((0 : Int32) ≤ (0 : Int32)) := (by decide)
          rw [if_pos g7, if_pos g7]
          by_cases g8 : x2 = (0 : Int32)
          ·
            rw [if_pos g8, if_pos g8]
            have h9 := T_WR_power (x2 := x3) (x3 := x4) (x4 := x5) (t0_0 := t1_0) (t0_1 := t1_1) (t0_2 := t1_2) (t0_3 := t1_3) (t0_4 := t1_4) (t0_5 := t1_5) (t0_6 := t1_6) (t1_0 := t2_0) (t2_0 := t3_0) (t3_0 := t4_0) (t4_0 := t6_0) (t5_0 := t7_0) (by with_reducible assumption)
            with_reducible refine v_owe h9.1 ?_
            replace h9 := h9.2
            generalize F_WR_power x3 x4 x5 t1_0 t1_1 t1_2 t1_3 t1_4 t1_5 t1_6 t2_0 t3_0 t4_0 t6_0 t7_0 = p209 at *
            unfold Q_WR_power at h9
            unfold S_NM_wholeBy_c53 F_NM_wholeBy_c53
            refine ⟨trivial, ?_⟩
            exact nm_wholeByA (by with_reducible assumption)
          ·
            rw [if_neg g8, if_neg g8]
            by_cases g10 : x2 = (1 : Int32)
            ·
              rw [if_pos g10, if_pos g10]
              have h11 := T_WR_root (x2 := x3) (x3 := x4) (x4 := x5) (t0_0 := t1_0) (t0_1 := t1_1) (t0_2 := t1_2) (t0_3 := t1_3) (t0_4 := t1_4) (t0_5 := t1_5) (t0_6 := t1_6) (t1_0 := t2_0) (t2_0 := t3_0) (t3_0 := t4_0) (t4_0 := t5_0) (t5_0 := t6_0) (t6_0 := t7_0) (by with_reducible assumption)
              with_reducible refine v_owe h11.1 ?_
              replace h11 := h11.2
              generalize F_WR_root x3 x4 x5 t1_0 t1_1 t1_2 t1_3 t1_4 t1_5 t1_6 t2_0 t3_0 t4_0 t5_0 t6_0 t7_0 = p153 at *
              unfold Q_WR_root at h11
              unfold S_NM_wholeBy_c72 F_NM_wholeBy_c72
              refine ⟨trivial, ?_⟩
              exact nm_wholeByA (by with_reducible assumption)
            ·
              rw [if_neg g10, if_neg g10]
              have h12 := T_WR_shift (x2 := x3) (x3 := x4) (x4 := x5) (t0_0 := t1_0) (t0_1 := t1_1) (t0_2 := t1_2) (t0_3 := t1_3) (t0_4 := t1_4) (t0_5 := t1_5) (t0_6 := t1_6) (t1_0 := t2_0) (t2_0 := t3_0) (t3_0 := t4_0) (t4_0 := t5_0) (t5_0 := t7_0) (by with_reducible assumption)
              with_reducible refine v_owe h12.1 ?_
              replace h12 := h12.2
              generalize F_WR_shift x3 x4 x5 t1_0 t1_1 t1_2 t1_3 t1_4 t1_5 t1_6 t2_0 t3_0 t4_0 t5_0 t7_0 = p96 at *
              unfold Q_WR_shift at h12
              unfold S_NM_wholeBy_c86 F_NM_wholeBy_c86
              refine ⟨trivial, ?_⟩
              exact nm_wholeByA (by with_reducible assumption)
        ·
          rw [if_neg g6, if_neg g6]
          unfold S_NM_wholeBy_J25 F_NM_wholeBy_J25
          unfold S_NM_wholeBy_J30 F_NM_wholeBy_J30
          have g13 : ¬ ((1 : Int32) ≤ (0 : Int32)) := (by decide)
          rw [if_neg g13, if_neg g13]
          refine ⟨trivial, ?_⟩
          exact nm_wholeByA (by with_reducible assumption)
      ·
        rw [if_neg g5, if_neg g5]
        unfold S_NM_wholeBy_J25 F_NM_wholeBy_J25
        unfold S_NM_wholeBy_J30 F_NM_wholeBy_J30
        have g14 : ¬ ((1 : Int32) ≤ (0 : Int32)) := (by decide)
        rw [if_neg g14, if_neg g14]
        refine ⟨trivial, ?_⟩
        exact nm_wholeByA (by with_reducible assumption)
def Q_NM_powerModulo (p : Int32 × Int32 × Int32 × Int32 × Int32 × Int32 × Int32 × Int32 × (Nat → Int32) × (Nat → Int32) × (Nat → Int32) × (Nat → Int32) × (Nat → Int32) × (Nat → Int32) × (Nat → Int32) × (Nat → Int32) × (Nat → Int32) × (Nat → Int32) × (Nat → Int32) × (Nat → Int32)) : Prop := wR p.2.2.2.2.2.2.2.2.1 p.2.2.2.2.2.2.2.2.2.1
theorem nm_powerModuloA {c0 : Int32} {c1 : Int32} {c2 : Int32} {c3 : Int32} {c4 : Int32} {c5 : Int32} {c6 : Int32} {c7 : Int32} {c8 : (Nat → Int32)} {c9 : (Nat → Int32)} {c10 : (Nat → Int32)} {c11 : (Nat → Int32)} {c12 : (Nat → Int32)} {c13 : (Nat → Int32)} {c14 : (Nat → Int32)} {c15 : (Nat → Int32)} {c16 : (Nat → Int32)} {c17 : (Nat → Int32)} {c18 : (Nat → Int32)} {c19 : (Nat → Int32)} (h0 : wR c8 c9) : Q_NM_powerModulo (c0, c1, c2, c3, c4, c5, c6, c7, c8, c9, c10, c11, c12, c13, c14, c15, c16, c17, c18, c19) := h0
theorem T_NM_powerModulo {x2 : Int32} {x3 : Int32} {x4 : Int32} {x5 : Int32} {t0_0 : Int32} {t0_1 : Int32} {t0_2 : Int32} {t1_0 : Int32} {t1_1 : Int32} {t1_2 : Int32} {t1_3 : Int32} {t1_4 : Int32} {t1_5 : Int32} {t1_6 : Int32} {t2_0 : (Nat → Int32)} {t3_0 : (Nat → Int32)} {t4_0 : (Nat → Int32)} {t5_0 : (Nat → Int32)} {t6_0 : (Nat → Int32)} {t7_0 : (Nat → Int32)} {t8_0 : (Nat → Int32)} {t9_0 : (Nat → Int32)} {t10_0 : (Nat → Int32)} {t11_0 : (Nat → Int32)} {t12_0 : (Nat → Int32)} {t13_0 : (Nat → Int32)} (hW : wR t2_0 t3_0)  : (S_NM_powerModulo x2 x3 x4 x5 t0_0 t0_1 t0_2 t1_0 t1_1 t1_2 t1_3 t1_4 t1_5 t1_6 t2_0 t3_0 t4_0 t5_0 t6_0 t7_0 t8_0 t9_0 t10_0 t11_0 t12_0 t13_0) ∧ Q_NM_powerModulo (F_NM_powerModulo x2 x3 x4 x5 t0_0 t0_1 t0_2 t1_0 t1_1 t1_2 t1_3 t1_4 t1_5 t1_6 t2_0 t3_0 t4_0 t5_0 t6_0 t7_0 t8_0 t9_0 t10_0 t11_0 t12_0 t13_0) := by
  have e0 : (0 : Int32).toInt = 0 := rfl
  have e1 : (1 : Int32).toInt = 1 := rfl
  have eL0 : (0 : Int64).toInt = 0 := rfl
  have em : (-1 : Int32).toInt = -1 := rfl
  unfold S_NM_powerModulo F_NM_powerModulo
  by_cases g1 : ((F_NM_no_IZ x2) : Int32) = (0 : Int32)
  ·
    rw [if_pos g1, if_pos g1]
    by_cases g2 : ((F_NM_no_IZ x3) : Int32) = (0 : Int32)
    ·
      rw [if_pos g2, if_pos g2]
      by_cases g3 : ((F_NM_no_IZ x4) : Int32) = (0 : Int32)
      ·
        rw [if_pos g3, if_pos g3]
        by_cases g4 : ((F_NM_no_IZ x5) : Int32) = (0 : Int32)
        ·
          rw [if_pos g4, if_pos g4]
          unfold S_NM_powerModulo_J35 F_NM_powerModulo_J35
          have g5 : ((0 : Int32) = (0 : Int32)) := (by decide)
          rw [if_pos g5, if_pos g5]
          have h6 := T_WR_powerModulo (x2 := x2) (x3 := x3) (x4 := x4) (x5 := x5) (t0_0 := t1_0) (t0_1 := t1_1) (t0_2 := t1_2) (t0_3 := t1_3) (t0_4 := t1_4) (t0_5 := t1_5) (t0_6 := t1_6) (t1_0 := t2_0) (t2_0 := t3_0) (t3_0 := t4_0) (t4_0 := t5_0) (t5_0 := t6_0) (t6_0 := t7_0) (t7_0 := t8_0) (t8_0 := t9_0) (t9_0 := t10_0) (t10_0 := t11_0) (t11_0 := t12_0) (t12_0 := t13_0) (by with_reducible assumption)
          with_reducible refine v_owe h6.1 ?_
          replace h6 := h6.2
          generalize F_WR_powerModulo x2 x3 x4 x5 t1_0 t1_1 t1_2 t1_3 t1_4 t1_5 t1_6 t2_0 t3_0 t4_0 t5_0 t6_0 t7_0 t8_0 t9_0 t10_0 t11_0 t12_0 t13_0 = p140 at *
          unfold Q_WR_powerModulo at h6
          unfold S_NM_powerModulo_c54 F_NM_powerModulo_c54
          refine ⟨trivial, ?_⟩
          exact nm_powerModuloA (by with_reducible assumption)
        ·
          rw [if_neg g4, if_neg g4]
          unfold S_NM_powerModulo_J30 F_NM_powerModulo_J30
          unfold S_NM_powerModulo_J35 F_NM_powerModulo_J35
          have g7 : ¬ ((1 : Int32) = (0 : Int32)) := (by decide)
          rw [if_neg g7, if_neg g7]
          refine ⟨trivial, ?_⟩
          exact nm_powerModuloA (by with_reducible assumption)
      ·
        rw [if_neg g3, if_neg g3]
        unfold S_NM_powerModulo_J30 F_NM_powerModulo_J30
        unfold S_NM_powerModulo_J35 F_NM_powerModulo_J35
        have g8 : ¬ ((1 : Int32) = (0 : Int32)) := (by decide)
        rw [if_neg g8, if_neg g8]
        refine ⟨trivial, ?_⟩
        exact nm_powerModuloA (by with_reducible assumption)
    ·
      rw [if_neg g2, if_neg g2]
      unfold S_NM_powerModulo_J30 F_NM_powerModulo_J30
      unfold S_NM_powerModulo_J35 F_NM_powerModulo_J35
      have g9 : ¬ ((1 : Int32) = (0 : Int32)) := (by decide)
      rw [if_neg g9, if_neg g9]
      refine ⟨trivial, ?_⟩
      exact nm_powerModuloA (by with_reducible assumption)
  ·
    rw [if_neg g1, if_neg g1]
    unfold S_NM_powerModulo_J30 F_NM_powerModulo_J30
    unfold S_NM_powerModulo_J35 F_NM_powerModulo_J35
    have g10 : ¬ ((1 : Int32) = (0 : Int32)) := (by decide)
    rw [if_neg g10, if_neg g10]
    refine ⟨trivial, ?_⟩
    exact nm_powerModuloA (by with_reducible assumption)
def Q_NM_decimal (p : Int32 × Int32 × Int32 × Int32 × Int64 × Int32 × Int32 × Int32 × Int32 × Int32 × Int32 × Int32 × (Nat → Int32) × (Nat → Int32) × (Nat → Int32) × (Nat → Int32) × (Nat → Int32) × (Nat → Int32) × (Nat → Int32) × (Nat → Int32)) : Prop := gR p.2.2.2.2.2.2.2.2.2.2.2.2.1 p.2.2.2.2.2.2.2.2.2.2.2.2.2.1 p.2.2.2.2.2.2.2.2.2.2.2.2.2.2.1 p.2.2.2.2.2.2.2.2.2.2.2.2.2.2.2.1
theorem nm_decimalA {c0 : Int32} {c1 : Int32} {c2 : Int32} {c3 : Int32} {c4 : Int64} {c5 : Int32} {c6 : Int32} {c7 : Int32} {c8 : Int32} {c9 : Int32} {c10 : Int32} {c11 : Int32} {c12 : (Nat → Int32)} {c13 : (Nat → Int32)} {c14 : (Nat → Int32)} {c15 : (Nat → Int32)} {c16 : (Nat → Int32)} {c17 : (Nat → Int32)} {c18 : (Nat → Int32)} {c19 : (Nat → Int32)} (h0 : gR c12 c13 c14 c15) : Q_NM_decimal (c0, c1, c2, c3, c4, c5, c6, c7, c8, c9, c10, c11, c12, c13, c14, c15, c16, c17, c18, c19) := h0
theorem T_NM_decimal {x2 : Int32} {x3 : Int32} {x4 : Int32} {x5 : Int32} {t0_0 : Int32} {t0_1 : Int32} {t0_2 : Int32} {t1_0 : Int32} {t1_1 : Int32} {t1_2 : Int32} {t1_3 : Int64} {t1_4 : Int32} {t1_5 : Int32} {t1_6 : Int32} {t1_7 : Int32} {t1_8 : Int32} {t1_9 : Int32} {t1_10 : Int32} {t2_0 : (Nat → Int32)} {t3_0 : (Nat → Int32)} {t4_0 : (Nat → Int32)} {t5_0 : (Nat → Int32)} {t6_0 : (Nat → Int32)} {t7_0 : (Nat → Int32)} {t8_0 : (Nat → Int32)} {t9_0 : (Nat → Int32)} (hD : gR t2_0 t3_0 t4_0 t5_0)  : (S_NM_decimal x2 x3 x4 x5 t0_0 t0_1 t0_2 t1_0 t1_1 t1_2 t1_3 t1_4 t1_5 t1_6 t1_7 t1_8 t1_9 t1_10 t2_0 t3_0 t4_0 t5_0 t6_0 t7_0 t8_0 t9_0) ∧ Q_NM_decimal (F_NM_decimal x2 x3 x4 x5 t0_0 t0_1 t0_2 t1_0 t1_1 t1_2 t1_3 t1_4 t1_5 t1_6 t1_7 t1_8 t1_9 t1_10 t2_0 t3_0 t4_0 t5_0 t6_0 t7_0 t8_0 t9_0) := by
  have e0 : (0 : Int32).toInt = 0 := rfl
  have e1 : (1 : Int32).toInt = 1 := rfl
  have eL0 : (0 : Int64).toInt = 0 := rfl
  have em : (-1 : Int32).toInt = -1 := rfl
  unfold S_NM_decimal F_NM_decimal
  by_cases g1 : x2 < (0 : Int32)
  ·
    rw [if_pos g1, if_pos g1]
    unfold S_NM_decimal_J32 F_NM_decimal_J32
    unfold S_NM_decimal_J37 F_NM_decimal_J37
    have g2 : ¬ ((1 : Int32) ≤ (0 : Int32)) := (by decide)
    rw [if_neg g2, if_neg g2]
    refine ⟨trivial, ?_⟩
    exact nm_decimalA (by with_reducible assumption)
  ·
    rw [if_neg g1, if_neg g1]
    by_cases g3 : (3 : Int32) < x2
    ·
      rw [if_pos g3, if_pos g3]
      unfold S_NM_decimal_J32 F_NM_decimal_J32
      unfold S_NM_decimal_J37 F_NM_decimal_J37
      have g4 : ¬ ((1 : Int32) ≤ (0 : Int32)) := (by decide)
      rw [if_neg g4, if_neg g4]
      refine ⟨trivial, ?_⟩
      exact nm_decimalA (by with_reducible assumption)
    ·
      rw [if_neg g3, if_neg g3]
      by_cases g5 : ((F_NM_no_IZ x3) : Int32) = (0 : Int32)
      ·
        rw [if_pos g5, if_pos g5]
        by_cases g6 : ((F_NM_no_IZ x4) : Int32) = (0 : Int32)
        ·
          rw [if_pos g6, if_pos g6]
          by_cases g7 : ((F_NM_no_IZ x5) : Int32) = (0 : Int32)
          ·
            rw [if_pos g7, if_pos g7]
            unfold S_NM_decimal_J37 F_NM_decimal_J37
            have g8 : ((0 : Int32) ≤ (0 : Int32)) := (by decide)
            rw [if_pos g8, if_pos g8]
            by_cases g9 : (2 : Int32) ≤ x2
            ·
              rw [if_pos g9, if_pos g9]
              by_cases g10 : x2 = (2 : Int32)
              ·
                rw [if_pos g10, if_pos g10]
                have h11 := T_DR_multiply (x2 := x3) (x3 := x4) (x4 := x5) (t0_0 := t1_0) (t0_1 := t1_1) (t0_2 := t1_2) (t0_3 := t1_3) (t0_4 := t1_4) (t0_5 := t1_5) (t0_6 := t1_6) (t0_7 := t1_7) (t0_8 := t1_8) (t0_9 := t1_9) (t0_10 := t1_10) (t1_0 := t2_0) (t2_0 := t3_0) (t3_0 := t4_0) (t4_0 := t5_0) (t5_0 := t6_0) (t6_0 := t7_0) (by with_reducible assumption)
                with_reducible refine v_owe h11.1 ?_
                replace h11 := h11.2
                generalize F_DR_multiply x3 x4 x5 t1_0 t1_1 t1_2 t1_3 t1_4 t1_5 t1_6 t1_7 t1_8 t1_9 t1_10 t2_0 t3_0 t4_0 t5_0 t6_0 t7_0 = p188 at *
                unfold Q_DR_multiply at h11
                unfold S_NM_decimal_c90 F_NM_decimal_c90
                refine ⟨trivial, ?_⟩
                exact nm_decimalA (by with_reducible assumption)
              ·
                rw [if_neg g10, if_neg g10]
                have h12 := T_DR_remainder (x2 := x3) (x3 := x4) (x4 := x5) (t0_0 := t1_0) (t0_1 := t1_1) (t0_2 := t1_2) (t0_3 := t1_3) (t0_4 := t1_4) (t0_5 := t1_5) (t0_6 := t1_6) (t0_7 := t1_7) (t0_8 := t1_8) (t0_9 := t1_9) (t0_10 := t1_10) (t1_0 := t2_0) (t2_0 := t3_0) (t3_0 := t4_0) (t4_0 := t5_0) (t5_0 := t6_0) (t6_0 := t8_0) (t7_0 := t9_0) (by with_reducible assumption)
                with_reducible refine v_owe h12.1 ?_
                replace h12 := h12.2
                generalize F_DR_remainder x3 x4 x5 t1_0 t1_1 t1_2 t1_3 t1_4 t1_5 t1_6 t1_7 t1_8 t1_9 t1_10 t2_0 t3_0 t4_0 t5_0 t6_0 t8_0 t9_0 = p117 at *
                unfold Q_DR_remainder at h12
                unfold S_NM_decimal_c104 F_NM_decimal_c104
                refine ⟨trivial, ?_⟩
                exact nm_decimalA (by with_reducible assumption)
            ·
              rw [if_neg g9, if_neg g9]
              by_cases g13 : x2 = (1 : Int32)
              ·
                rw [if_pos g13, if_pos g13]
                have h14 := T_DR_add (x2 := x3) (x3 := x4) (x4 := x5) (x5 := (1 : Int32)) (t0_0 := t1_0) (t0_1 := t1_1) (t0_2 := t1_2) (t0_3 := t1_3) (t0_4 := t1_4) (t0_5 := t1_5) (t0_6 := t1_6) (t0_7 := t1_7) (t0_8 := t1_8) (t0_9 := t1_9) (t0_10 := t1_10) (t1_0 := t2_0) (t2_0 := t3_0) (t3_0 := t4_0) (t4_0 := t5_0) (t5_0 := t6_0) (by with_reducible assumption)
                with_reducible refine v_owe h14.1 ?_
                replace h14 := h14.2
                generalize F_DR_add x3 x4 x5 (1 : Int32) t1_0 t1_1 t1_2 t1_3 t1_4 t1_5 t1_6 t1_7 t1_8 t1_9 t1_10 t2_0 t3_0 t4_0 t5_0 t6_0 = p325 at *
                unfold Q_DR_add at h14
                unfold S_NM_decimal_c71_5 F_NM_decimal_c71_5
                refine ⟨trivial, ?_⟩
                exact nm_decimalA (by with_reducible assumption)
              ·
                rw [if_neg g13, if_neg g13]
                have h15 := T_DR_add (x2 := x3) (x3 := x4) (x4 := x5) (x5 := (0 : Int32)) (t0_0 := t1_0) (t0_1 := t1_1) (t0_2 := t1_2) (t0_3 := t1_3) (t0_4 := t1_4) (t0_5 := t1_5) (t0_6 := t1_6) (t0_7 := t1_7) (t0_8 := t1_8) (t0_9 := t1_9) (t0_10 := t1_10) (t1_0 := t2_0) (t2_0 := t3_0) (t3_0 := t4_0) (t4_0 := t5_0) (t5_0 := t6_0) (by with_reducible assumption)
                with_reducible refine v_owe h15.1 ?_
                replace h15 := h15.2
                generalize F_DR_add x3 x4 x5 (0 : Int32) t1_0 t1_1 t1_2 t1_3 t1_4 t1_5 t1_6 t1_7 t1_8 t1_9 t1_10 t2_0 t3_0 t4_0 t5_0 t6_0 = p258 at *
                unfold Q_DR_add at h15
                unfold S_NM_decimal_c71 F_NM_decimal_c71
                refine ⟨trivial, ?_⟩
                exact nm_decimalA (by with_reducible assumption)
          ·
            rw [if_neg g7, if_neg g7]
            unfold S_NM_decimal_J32 F_NM_decimal_J32
            unfold S_NM_decimal_J37 F_NM_decimal_J37
            have g16 : ¬ ((1 : Int32) ≤ (0 : Int32)) := (by decide)
            rw [if_neg g16, if_neg g16]
            refine ⟨trivial, ?_⟩
            exact nm_decimalA (by with_reducible assumption)
        ·
          rw [if_neg g6, if_neg g6]
          unfold S_NM_decimal_J32 F_NM_decimal_J32
          unfold S_NM_decimal_J37 F_NM_decimal_J37
          have g17 : ¬ ((1 : Int32) ≤ (0 : Int32)) := (by decide)
          rw [if_neg g17, if_neg g17]
          refine ⟨trivial, ?_⟩
          exact nm_decimalA (by with_reducible assumption)
      ·
        rw [if_neg g5, if_neg g5]
        unfold S_NM_decimal_J32 F_NM_decimal_J32
        unfold S_NM_decimal_J37 F_NM_decimal_J37
        have g18 : ¬ ((1 : Int32) ≤ (0 : Int32)) := (by decide)
        rw [if_neg g18, if_neg g18]
        refine ⟨trivial, ?_⟩
        exact nm_decimalA (by with_reducible assumption)
def Q_NM_decimalBy (p : Int32 × Int32 × Int32 × Int32 × Int64 × Int32 × Int32 × Int32 × Int32 × Int32 × Int32 × Int32 × (Nat → Int32) × (Nat → Int32) × (Nat → Int32) × (Nat → Int32) × (Nat → Int32) × (Nat → Int32)) : Prop := gR p.2.2.2.2.2.2.2.2.2.2.2.2.1 p.2.2.2.2.2.2.2.2.2.2.2.2.2.1 p.2.2.2.2.2.2.2.2.2.2.2.2.2.2.1 p.2.2.2.2.2.2.2.2.2.2.2.2.2.2.2.1
theorem nm_decimalByA {c0 : Int32} {c1 : Int32} {c2 : Int32} {c3 : Int32} {c4 : Int64} {c5 : Int32} {c6 : Int32} {c7 : Int32} {c8 : Int32} {c9 : Int32} {c10 : Int32} {c11 : Int32} {c12 : (Nat → Int32)} {c13 : (Nat → Int32)} {c14 : (Nat → Int32)} {c15 : (Nat → Int32)} {c16 : (Nat → Int32)} {c17 : (Nat → Int32)} (h0 : gR c12 c13 c14 c15) : Q_NM_decimalBy (c0, c1, c2, c3, c4, c5, c6, c7, c8, c9, c10, c11, c12, c13, c14, c15, c16, c17) := h0
theorem T_NM_decimalBy {x2 : Int32} {x3 : Int32} {x4 : Int32} {x5 : Int32} {t0_0 : Int32} {t0_1 : Int32} {t0_2 : Int32} {t1_0 : Int32} {t1_1 : Int32} {t1_2 : Int32} {t1_3 : Int64} {t1_4 : Int32} {t1_5 : Int32} {t1_6 : Int32} {t1_7 : Int32} {t1_8 : Int32} {t1_9 : Int32} {t1_10 : Int32} {t2_0 : (Nat → Int32)} {t3_0 : (Nat → Int32)} {t4_0 : (Nat → Int32)} {t5_0 : (Nat → Int32)} {t6_0 : (Nat → Int32)} {t7_0 : (Nat → Int32)} (hD : gR t2_0 t3_0 t4_0 t5_0)  : (S_NM_decimalBy x2 x3 x4 x5 t0_0 t0_1 t0_2 t1_0 t1_1 t1_2 t1_3 t1_4 t1_5 t1_6 t1_7 t1_8 t1_9 t1_10 t2_0 t3_0 t4_0 t5_0 t6_0 t7_0) ∧ Q_NM_decimalBy (F_NM_decimalBy x2 x3 x4 x5 t0_0 t0_1 t0_2 t1_0 t1_1 t1_2 t1_3 t1_4 t1_5 t1_6 t1_7 t1_8 t1_9 t1_10 t2_0 t3_0 t4_0 t5_0 t6_0 t7_0) := by
  have e0 : (0 : Int32).toInt = 0 := rfl
  have e1 : (1 : Int32).toInt = 1 := rfl
  have eL0 : (0 : Int64).toInt = 0 := rfl
  have em : (-1 : Int32).toInt = -1 := rfl
  unfold S_NM_decimalBy F_NM_decimalBy
  by_cases g1 : x2 < (0 : Int32)
  ·
    rw [if_pos g1, if_pos g1]
    unfold S_NM_decimalBy_J25 F_NM_decimalBy_J25
    unfold S_NM_decimalBy_J30 F_NM_decimalBy_J30
    have g2 : ¬ ((1 : Int32) ≤ (0 : Int32)) := (by decide)
    rw [if_neg g2, if_neg g2]
    refine ⟨trivial, ?_⟩
    exact nm_decimalByA (by with_reducible assumption)
  ·
    rw [if_neg g1, if_neg g1]
    by_cases g3 : (2 : Int32) < x2
    ·
      rw [if_pos g3, if_pos g3]
      unfold S_NM_decimalBy_J25 F_NM_decimalBy_J25
      unfold S_NM_decimalBy_J30 F_NM_decimalBy_J30
      have g4 : ¬ ((1 : Int32) ≤ (0 : Int32)) := (by decide)
      rw [if_neg g4, if_neg g4]
      refine ⟨trivial, ?_⟩
      exact nm_decimalByA (by with_reducible assumption)
    ·
      rw [if_neg g3, if_neg g3]
      by_cases g5 : ((F_NM_no_IZ x3) : Int32) = (0 : Int32)
      ·
        rw [if_pos g5, if_pos g5]
        by_cases g6 : ((F_NM_no_IZ x5) : Int32) = (0 : Int32)
        ·
          rw [if_pos g6, if_pos g6]
          unfold S_NM_decimalBy_J30 F_NM_decimalBy_J30
          have g7 : ((0 : Int32) ≤ (0 : Int32)) := (by decide)
          rw [if_pos g7, if_pos g7]
          by_cases g8 : x2 = (0 : Int32)
          ·
            rw [if_pos g8, if_pos g8]
            have h9 := T_DR_power (x2 := x3) (x3 := x4) (x4 := x5) (t0_0 := t1_0) (t0_1 := t1_1) (t0_2 := t1_2) (t0_3 := t1_3) (t0_4 := t1_4) (t0_5 := t1_5) (t0_6 := t1_6) (t0_7 := t1_7) (t0_8 := t1_8) (t0_9 := t1_9) (t0_10 := t1_10) (t1_0 := t2_0) (t2_0 := t3_0) (t3_0 := t4_0) (t4_0 := t5_0) (t5_0 := t6_0) (t6_0 := t7_0) (by with_reducible assumption)
            with_reducible refine v_owe h9.1 ?_
            replace h9 := h9.2
            generalize F_DR_power x3 x4 x5 t1_0 t1_1 t1_2 t1_3 t1_4 t1_5 t1_6 t1_7 t1_8 t1_9 t1_10 t2_0 t3_0 t4_0 t5_0 t6_0 t7_0 = p243 at *
            unfold Q_DR_power at h9
            unfold S_NM_decimalBy_c53 F_NM_decimalBy_c53
            refine ⟨trivial, ?_⟩
            exact nm_decimalByA (by with_reducible assumption)
          ·
            rw [if_neg g8, if_neg g8]
            by_cases g10 : x2 = (1 : Int32)
            ·
              rw [if_pos g10, if_pos g10]
              have h11 := T_DR_shift (x2 := x3) (x3 := x5) (x4 := x4) (t0_0 := t1_0) (t0_1 := t1_1) (t0_2 := t1_2) (t0_3 := t1_3) (t0_4 := t1_4) (t0_5 := t1_5) (t0_6 := t1_6) (t0_7 := t1_7) (t0_8 := t1_8) (t0_9 := t1_9) (t0_10 := t1_10) (t1_0 := t2_0) (t2_0 := t3_0) (t3_0 := t4_0) (t4_0 := t5_0) (t5_0 := t6_0) (by with_reducible assumption)
              with_reducible refine v_owe h11.1 ?_
              replace h11 := h11.2
              generalize F_DR_shift x3 x5 x4 t1_0 t1_1 t1_2 t1_3 t1_4 t1_5 t1_6 t1_7 t1_8 t1_9 t1_10 t2_0 t3_0 t4_0 t5_0 t6_0 = p174 at *
              unfold Q_DR_shift at h11
              unfold S_NM_decimalBy_c72 F_NM_decimalBy_c72
              refine ⟨trivial, ?_⟩
              exact nm_decimalByA (by with_reducible assumption)
            ·
              rw [if_neg g10, if_neg g10]
              have h12 := T_DR_strip (x2 := x3) (x3 := x5) (t0_0 := t1_0) (t0_1 := t1_1) (t0_2 := t1_2) (t0_3 := t1_3) (t0_4 := t1_4) (t0_5 := t1_5) (t0_6 := t1_6) (t0_7 := t1_7) (t0_8 := t1_8) (t0_9 := t1_9) (t0_10 := t1_10) (t1_0 := t2_0) (t2_0 := t3_0) (t3_0 := t4_0) (t4_0 := t5_0) (t5_0 := t6_0) (by with_reducible assumption)
              with_reducible refine v_owe h12.1 ?_
              replace h12 := h12.2
              generalize F_DR_strip x3 x5 t1_0 t1_1 t1_2 t1_3 t1_4 t1_5 t1_6 t1_7 t1_8 t1_9 t1_10 t2_0 t3_0 t4_0 t5_0 t6_0 = p107 at *
              unfold Q_DR_strip at h12
              unfold S_NM_decimalBy_c85 F_NM_decimalBy_c85
              refine ⟨trivial, ?_⟩
              exact nm_decimalByA (by with_reducible assumption)
        ·
          rw [if_neg g6, if_neg g6]
          unfold S_NM_decimalBy_J25 F_NM_decimalBy_J25
          unfold S_NM_decimalBy_J30 F_NM_decimalBy_J30
          have g13 : ¬ ((1 : Int32) ≤ (0 : Int32)) := (by decide)
          rw [if_neg g13, if_neg g13]
          refine ⟨trivial, ?_⟩
          exact nm_decimalByA (by with_reducible assumption)
      ·
        rw [if_neg g5, if_neg g5]
        unfold S_NM_decimalBy_J25 F_NM_decimalBy_J25
        unfold S_NM_decimalBy_J30 F_NM_decimalBy_J30
        have g14 : ¬ ((1 : Int32) ≤ (0 : Int32)) := (by decide)
        rw [if_neg g14, if_neg g14]
        refine ⟨trivial, ?_⟩
        exact nm_decimalByA (by with_reducible assumption)
def Q_NM_divide (p : Int32 × Int32 × Int32 × Int32 × Int64 × Int32 × Int32 × Int32 × Int32 × Int32 × Int32 × Int32 × (Nat → Int32) × (Nat → Int32) × (Nat → Int32) × (Nat → Int32) × (Nat → Int32) × (Nat → Int32) × (Nat → Int32)) : Prop := gR p.2.2.2.2.2.2.2.2.2.2.2.2.1 p.2.2.2.2.2.2.2.2.2.2.2.2.2.1 p.2.2.2.2.2.2.2.2.2.2.2.2.2.2.1 p.2.2.2.2.2.2.2.2.2.2.2.2.2.2.2.1
theorem nm_divideA {c0 : Int32} {c1 : Int32} {c2 : Int32} {c3 : Int32} {c4 : Int64} {c5 : Int32} {c6 : Int32} {c7 : Int32} {c8 : Int32} {c9 : Int32} {c10 : Int32} {c11 : Int32} {c12 : (Nat → Int32)} {c13 : (Nat → Int32)} {c14 : (Nat → Int32)} {c15 : (Nat → Int32)} {c16 : (Nat → Int32)} {c17 : (Nat → Int32)} {c18 : (Nat → Int32)} (h0 : gR c12 c13 c14 c15) : Q_NM_divide (c0, c1, c2, c3, c4, c5, c6, c7, c8, c9, c10, c11, c12, c13, c14, c15, c16, c17, c18) := h0
theorem T_NM_divide {x2 : Int32} {x3 : Int32} {x4 : Int32} {x5 : Int32} {x6 : Int32} {t0_0 : Int32} {t0_1 : Int32} {t0_2 : Int32} {t1_0 : Int32} {t1_1 : Int32} {t1_2 : Int32} {t1_3 : Int64} {t1_4 : Int32} {t1_5 : Int32} {t1_6 : Int32} {t1_7 : Int32} {t1_8 : Int32} {t1_9 : Int32} {t1_10 : Int32} {t2_0 : (Nat → Int32)} {t3_0 : (Nat → Int32)} {t4_0 : (Nat → Int32)} {t5_0 : (Nat → Int32)} {t6_0 : (Nat → Int32)} {t7_0 : (Nat → Int32)} {t8_0 : (Nat → Int32)} (hD : gR t2_0 t3_0 t4_0 t5_0)  : (S_NM_divide x2 x3 x4 x5 x6 t0_0 t0_1 t0_2 t1_0 t1_1 t1_2 t1_3 t1_4 t1_5 t1_6 t1_7 t1_8 t1_9 t1_10 t2_0 t3_0 t4_0 t5_0 t6_0 t7_0 t8_0) ∧ Q_NM_divide (F_NM_divide x2 x3 x4 x5 x6 t0_0 t0_1 t0_2 t1_0 t1_1 t1_2 t1_3 t1_4 t1_5 t1_6 t1_7 t1_8 t1_9 t1_10 t2_0 t3_0 t4_0 t5_0 t6_0 t7_0 t8_0) := by
  have e0 : (0 : Int32).toInt = 0 := rfl
  have e1 : (1 : Int32).toInt = 1 := rfl
  have eL0 : (0 : Int64).toInt = 0 := rfl
  have em : (-1 : Int32).toInt = -1 := rfl
  unfold S_NM_divide F_NM_divide
  have h1 := T_DR_divide (x2 := x2) (x3 := x3) (x4 := x4) (x5 := x5) (x6 := x6) (t0_0 := t1_0) (t0_1 := t1_1) (t0_2 := t1_2) (t0_3 := t1_3) (t0_4 := t1_4) (t0_5 := t1_5) (t0_6 := t1_6) (t0_7 := t1_7) (t0_8 := t1_8) (t0_9 := t1_9) (t0_10 := t1_10) (t1_0 := t2_0) (t2_0 := t3_0) (t3_0 := t4_0) (t4_0 := t5_0) (t5_0 := t6_0) (t6_0 := t7_0) (t7_0 := t8_0) (by with_reducible assumption)
  with_reducible refine v_owe h1.1 ?_
  replace h1 := h1.2
  generalize F_DR_divide x2 x3 x4 x5 x6 t1_0 t1_1 t1_2 t1_3 t1_4 t1_5 t1_6 t1_7 t1_8 t1_9 t1_10 t2_0 t3_0 t4_0 t5_0 t6_0 t7_0 t8_0 = p85 at *
  unfold Q_DR_divide at h1
  unfold S_NM_divide_c11 F_NM_divide_c11
  refine ⟨trivial, ?_⟩
  exact nm_divideA (by with_reducible assumption)
def Q_NM_quotient (p : Int32 × Int32 × Int32 × Int32 × Int64 × Int32 × Int32 × Int32 × Int32 × Int32 × Int32 × Int32 × (Nat → Int32) × (Nat → Int32) × (Nat → Int32) × (Nat → Int32) × (Nat → Int32) × (Nat → Int32) × (Nat → Int32)) : Prop := gR p.2.2.2.2.2.2.2.2.2.2.2.2.1 p.2.2.2.2.2.2.2.2.2.2.2.2.2.1 p.2.2.2.2.2.2.2.2.2.2.2.2.2.2.1 p.2.2.2.2.2.2.2.2.2.2.2.2.2.2.2.1
theorem nm_quotientA {c0 : Int32} {c1 : Int32} {c2 : Int32} {c3 : Int32} {c4 : Int64} {c5 : Int32} {c6 : Int32} {c7 : Int32} {c8 : Int32} {c9 : Int32} {c10 : Int32} {c11 : Int32} {c12 : (Nat → Int32)} {c13 : (Nat → Int32)} {c14 : (Nat → Int32)} {c15 : (Nat → Int32)} {c16 : (Nat → Int32)} {c17 : (Nat → Int32)} {c18 : (Nat → Int32)} (h0 : gR c12 c13 c14 c15) : Q_NM_quotient (c0, c1, c2, c3, c4, c5, c6, c7, c8, c9, c10, c11, c12, c13, c14, c15, c16, c17, c18) := h0
theorem T_NM_quotient {x2 : Int32} {x3 : Int32} {x4 : Int32} {x5 : Int32} {x6 : Int32} {t0_0 : Int32} {t0_1 : Int32} {t0_2 : Int32} {t1_0 : Int32} {t1_1 : Int32} {t1_2 : Int32} {t1_3 : Int64} {t1_4 : Int32} {t1_5 : Int32} {t1_6 : Int32} {t1_7 : Int32} {t1_8 : Int32} {t1_9 : Int32} {t1_10 : Int32} {t2_0 : (Nat → Int32)} {t3_0 : (Nat → Int32)} {t4_0 : (Nat → Int32)} {t5_0 : (Nat → Int32)} {t6_0 : (Nat → Int32)} {t7_0 : (Nat → Int32)} {t8_0 : (Nat → Int32)} (hD : gR t2_0 t3_0 t4_0 t5_0)  : (S_NM_quotient x2 x3 x4 x5 x6 t0_0 t0_1 t0_2 t1_0 t1_1 t1_2 t1_3 t1_4 t1_5 t1_6 t1_7 t1_8 t1_9 t1_10 t2_0 t3_0 t4_0 t5_0 t6_0 t7_0 t8_0) ∧ Q_NM_quotient (F_NM_quotient x2 x3 x4 x5 x6 t0_0 t0_1 t0_2 t1_0 t1_1 t1_2 t1_3 t1_4 t1_5 t1_6 t1_7 t1_8 t1_9 t1_10 t2_0 t3_0 t4_0 t5_0 t6_0 t7_0 t8_0) := by
  have e0 : (0 : Int32).toInt = 0 := rfl
  have e1 : (1 : Int32).toInt = 1 := rfl
  have eL0 : (0 : Int64).toInt = 0 := rfl
  have em : (-1 : Int32).toInt = -1 := rfl
  unfold S_NM_quotient F_NM_quotient
  have h1 := T_DR_quotient (x2 := x2) (x3 := x3) (x4 := x4) (x5 := x5) (x6 := x6) (t0_0 := t1_0) (t0_1 := t1_1) (t0_2 := t1_2) (t0_3 := t1_3) (t0_4 := t1_4) (t0_5 := t1_5) (t0_6 := t1_6) (t0_7 := t1_7) (t0_8 := t1_8) (t0_9 := t1_9) (t0_10 := t1_10) (t1_0 := t2_0) (t2_0 := t3_0) (t3_0 := t4_0) (t4_0 := t5_0) (t5_0 := t6_0) (t6_0 := t7_0) (t7_0 := t8_0) (by with_reducible assumption)
  with_reducible refine v_owe h1.1 ?_
  replace h1 := h1.2
  generalize F_DR_quotient x2 x3 x4 x5 x6 t1_0 t1_1 t1_2 t1_3 t1_4 t1_5 t1_6 t1_7 t1_8 t1_9 t1_10 t2_0 t3_0 t4_0 t5_0 t6_0 t7_0 t8_0 = p86 at *
  unfold Q_DR_quotient at h1
  unfold S_NM_quotient_c11 F_NM_quotient_c11
  refine ⟨trivial, ?_⟩
  exact nm_quotientA (by with_reducible assumption)
def Q_NM_shape (p : Int32 × Int32 × Int32 × Int32 × Int64 × Int32 × Int32 × Int32 × Int32 × Int32 × Int32 × Int32 × (Nat → Int32) × (Nat → Int32) × (Nat → Int32) × (Nat → Int32) × (Nat → Int32) × (Nat → Int32) × (Nat → Int32) × (Nat → Int32)) : Prop := gR p.2.2.2.2.2.2.2.2.2.2.2.2.1 p.2.2.2.2.2.2.2.2.2.2.2.2.2.1 p.2.2.2.2.2.2.2.2.2.2.2.2.2.2.1 p.2.2.2.2.2.2.2.2.2.2.2.2.2.2.2.1
theorem nm_shapeA {c0 : Int32} {c1 : Int32} {c2 : Int32} {c3 : Int32} {c4 : Int64} {c5 : Int32} {c6 : Int32} {c7 : Int32} {c8 : Int32} {c9 : Int32} {c10 : Int32} {c11 : Int32} {c12 : (Nat → Int32)} {c13 : (Nat → Int32)} {c14 : (Nat → Int32)} {c15 : (Nat → Int32)} {c16 : (Nat → Int32)} {c17 : (Nat → Int32)} {c18 : (Nat → Int32)} {c19 : (Nat → Int32)} (h0 : gR c12 c13 c14 c15) : Q_NM_shape (c0, c1, c2, c3, c4, c5, c6, c7, c8, c9, c10, c11, c12, c13, c14, c15, c16, c17, c18, c19) := h0
theorem T_NM_shape {x2 : Int32} {x3 : Int32} {x4 : Int32} {x5 : Int32} {x6 : Int32} {t0_0 : Int32} {t0_1 : Int32} {t0_2 : Int32} {t1_0 : Int32} {t1_1 : Int32} {t1_2 : Int32} {t1_3 : Int64} {t1_4 : Int32} {t1_5 : Int32} {t1_6 : Int32} {t1_7 : Int32} {t1_8 : Int32} {t1_9 : Int32} {t1_10 : Int32} {t2_0 : (Nat → Int32)} {t3_0 : (Nat → Int32)} {t4_0 : (Nat → Int32)} {t5_0 : (Nat → Int32)} {t6_0 : (Nat → Int32)} {t7_0 : (Nat → Int32)} {t8_0 : (Nat → Int32)} {t9_0 : (Nat → Int32)} (hD : gR t2_0 t3_0 t4_0 t5_0) (hT : (0 ≤ t1_1.toInt ∧ t1_1.toInt ≤ 4100) ∧ (0 ≤ t1_4.toInt ∧ t1_4.toInt ≤ 1) ∧ (0 ≤ t1_5.toInt ∧ t1_5.toInt ≤ 1) ∧ (0 ≤ t1_9.toInt ∧ t1_9.toInt ≤ 12200))  : (S_NM_shape x2 x3 x4 x5 x6 t0_0 t0_1 t0_2 t1_0 t1_1 t1_2 t1_3 t1_4 t1_5 t1_6 t1_7 t1_8 t1_9 t1_10 t2_0 t3_0 t4_0 t5_0 t6_0 t7_0 t8_0 t9_0) ∧ Q_NM_shape (F_NM_shape x2 x3 x4 x5 x6 t0_0 t0_1 t0_2 t1_0 t1_1 t1_2 t1_3 t1_4 t1_5 t1_6 t1_7 t1_8 t1_9 t1_10 t2_0 t3_0 t4_0 t5_0 t6_0 t7_0 t8_0 t9_0) := by
  have e0 : (0 : Int32).toInt = 0 := rfl
  have e1 : (1 : Int32).toInt = 1 := rfl
  have eL0 : (0 : Int64).toInt = 0 := rfl
  have em : (-1 : Int32).toInt = -1 := rfl
  unfold S_NM_shape F_NM_shape
  by_cases g1 : x2 < (0 : Int32)
  ·
    rw [if_pos g1, if_pos g1]
    unfold S_NM_shape_J10 F_NM_shape_J10
    unfold S_NM_shape_J15 F_NM_shape_J15
    have g2 : ¬ ((1 : Int32) ≤ (0 : Int32)) := (by decide)
    rw [if_neg g2, if_neg g2]
    refine ⟨trivial, ?_⟩
    exact nm_shapeA (by with_reducible assumption)
  ·
    rw [if_neg g1, if_neg g1]
    by_cases g3 : x2 ≤ (2 : Int32)
    ·
      rw [if_pos g3, if_pos g3]
      unfold S_NM_shape_J15 F_NM_shape_J15
      have g4 : ((0 : Int32) ≤ (0 : Int32)) := (by decide)
      rw [if_pos g4, if_pos g4]
      by_cases g5 : x2 = (0 : Int32)
      ·
        rw [if_pos g5, if_pos g5]
        have h6 := T_DR_toScale (x2 := x3) (x3 := x4) (x4 := x5) (x5 := x6) (t0_0 := t1_0) (t0_1 := t1_1) (t0_2 := t1_2) (t0_3 := t1_3) (t0_4 := t1_4) (t0_5 := t1_5) (t0_6 := t1_6) (t0_7 := t1_7) (t0_8 := t1_8) (t0_9 := t1_9) (t0_10 := t1_10) (t1_0 := t2_0) (t2_0 := t3_0) (t3_0 := t4_0) (t4_0 := t5_0) (t5_0 := t6_0) (by with_reducible assumption)
        with_reducible refine v_owe h6.1 ?_
        replace h6 := h6.2
        generalize F_DR_toScale x3 x4 x5 x6 t1_0 t1_1 t1_2 t1_3 t1_4 t1_5 t1_6 t1_7 t1_8 t1_9 t1_10 t2_0 t3_0 t4_0 t5_0 t6_0 = p252 at *
        unfold Q_DR_toScale at h6
        unfold S_NM_shape_c40 F_NM_shape_c40
        refine ⟨trivial, ?_⟩
        exact nm_shapeA (by with_reducible assumption)
      ·
        rw [if_neg g5, if_neg g5]
        by_cases g7 : x2 = (1 : Int32)
        ·
          rw [if_pos g7, if_pos g7]
          have h8 := T_DR_round (x2 := x3) (x3 := x4) (x4 := x5) (x5 := x6) (t0_0 := t1_0) (t0_1 := t1_1) (t0_2 := t1_2) (t0_3 := t1_3) (t0_4 := t1_4) (t0_5 := t1_5) (t0_6 := t1_6) (t0_7 := t1_7) (t0_8 := t1_8) (t0_9 := t1_9) (t0_10 := t1_10) (t1_0 := t2_0) (t2_0 := t3_0) (t3_0 := t4_0) (t4_0 := t5_0) (t5_0 := t6_0) (by with_reducible assumption)
          with_reducible refine v_owe h8.1 ?_
          replace h8 := h8.2
          generalize F_DR_round x3 x4 x5 x6 t1_0 t1_1 t1_2 t1_3 t1_4 t1_5 t1_6 t1_7 t1_8 t1_9 t1_10 t2_0 t3_0 t4_0 t5_0 t6_0 = p185 at *
          unfold Q_DR_round at h8
          unfold S_NM_shape_c61 F_NM_shape_c61
          refine ⟨trivial, ?_⟩
          exact nm_shapeA (by with_reducible assumption)
        ·
          rw [if_neg g7, if_neg g7]
          have h9 := T_DR_root (x2 := x3) (x3 := x4) (x4 := x5) (x5 := x6) (t0_0 := t1_0) (t0_1 := t1_1) (t0_2 := t1_2) (t0_3 := t1_3) (t0_4 := t1_4) (t0_5 := t1_5) (t0_6 := t1_6) (t0_7 := t1_7) (t0_8 := t1_8) (t0_9 := t1_9) (t0_10 := t1_10) (t1_0 := t2_0) (t2_0 := t3_0) (t3_0 := t4_0) (t4_0 := t5_0) (t5_0 := t6_0) (t6_0 := t7_0) (t7_0 := t8_0) (t8_0 := t9_0) (by with_reducible assumption) hT
          with_reducible refine v_owe h9.1 ?_
          replace h9 := h9.2
          generalize F_DR_root x3 x4 x5 x6 t1_0 t1_1 t1_2 t1_3 t1_4 t1_5 t1_6 t1_7 t1_8 t1_9 t1_10 t2_0 t3_0 t4_0 t5_0 t6_0 t7_0 t8_0 t9_0 = p115 at *
          unfold Q_DR_root at h9
          unfold S_NM_shape_c77 F_NM_shape_c77
          refine ⟨trivial, ?_⟩
          exact nm_shapeA (by with_reducible assumption)
    ·
      rw [if_neg g3, if_neg g3]
      unfold S_NM_shape_J10 F_NM_shape_J10
      unfold S_NM_shape_J15 F_NM_shape_J15
      have g10 : ¬ ((1 : Int32) ≤ (0 : Int32)) := (by decide)
      rw [if_neg g10, if_neg g10]
      refine ⟨trivial, ?_⟩
      exact nm_shapeA (by with_reducible assumption)

/-! NumberHouseModel: print, figures, argument, format -/
theorem T_NM_pr67 {x2 : Int32} {x3 : Int32} {x4 : Int32} {t0_0 : Int32} {t0_1 : Int32} {t0_2 : Int32} {t1_0 : Int32} {t1_1 : Int32} {t1_2 : Int32} {t1_3 : Int32} {t1_4 : Int32} {t1_5 : Int32} {t1_6 : Int32} {t2_0 : (Nat → Int32)} {t3_0 : (Nat → Int32)} {t4_0 : (Nat → Int32)} {t5_0 : (Nat → Int32)} {t6_0 : Int32} {t6_1 : Int32} {t6_2 : Int32} {t6_3 : Int64} {t6_4 : Int32} {t6_5 : Int32} {t6_6 : Int32} {t6_7 : Int32} {t6_8 : Int32} {t6_9 : Int32} {t6_10 : Int32} {t7_0 : (Nat → Int32)} {t8_0 : (Nat → Int32)} {t9_0 : (Nat → Int32)} {t10_0 : (Nat → Int32)} {t11_0 : (Nat → Int32)} {t12_0 : Int32} {t12_1 : Int32} {t12_2 : Int32} {t12_3 : Int32} {t12_4 : Int64} {t12_5 : Int32} {t12_6 : Int32} {t12_7 : Int64} {t12_8 : Int32} {t12_9 : Int64} {t12_10 : Int32} {t13_0 : (Nat → Int32)} {t14_0 : (Nat → Int32)} {t15_0 : (Nat → Int32)} {t16_0 : (Nat → Int32)} {t17_0 : (Nat → Int32)} {t18_0 : (Nat → Int32)} {t19_0 : (Nat → Int32)} {t20_0 : (Nat → Int32)} {t21_0 : (Nat → Int64)} {lx109 : Int32} {lx140 : Int32} (hW : wR t2_0 t3_0) (hD : gR t7_0 t8_0 t9_0 t10_0) (hB : nmB t21_0) (hx : lx140.toInt ≤ 0 → 0 ≤ x3.toInt ∧ x3.toInt ≤ 9)  : (S_NM_print_J67 x2 x3 x4 t0_0 t0_1 t0_2 t1_0 t1_1 t1_2 t1_3 t1_4 t1_5 t1_6 t2_0 t3_0 t4_0 t5_0 t6_0 t6_1 t6_2 t6_3 t6_4 t6_5 t6_6 t6_7 t6_8 t6_9 t6_10 t7_0 t8_0 t9_0 t10_0 t11_0 t12_0 t12_1 t12_2 t12_3 t12_4 t12_5 t12_6 t12_7 t12_8 t12_9 t12_10 t13_0 t14_0 t15_0 t16_0 t17_0 t18_0 t19_0 t20_0 t21_0 lx109 lx140) := by
  have e0 : (0 : Int32).toInt = 0 := rfl
  have e1 : (1 : Int32).toInt = 1 := rfl
  have eL0 : (0 : Int64).toInt = 0 := rfl
  have em : (-1 : Int32).toInt = -1 := rfl
  have n1600 : (1600 : Int32).toInt = 1600 := rfl
  have n2100 : (2100 : Int32).toInt = 2100 := rfl
  have n4096 : (4096 : Int32).toInt = 4096 := rfl
  have n12200 : (12200 : Int32).toInt = 12200 := rfl
  have n4100 : (4100 : Int32).toInt = 4100 := rfl
  have n256 : (256 : Int32).toInt = 256 := rfl
  unfold S_NM_print_J67
  by_cases g1 : lx140 ≤ (0 : Int32)
  ·
    rw [if_pos g1]
    have hx3 := hx (q_leI g1)
    by_cases g2 : x2 = (0 : Int32)
    ·
      rw [if_pos g2]
      have h3 := T_WR_written (x2 := x3) (x3 := x4) (t0_0 := t1_0) (t0_1 := t1_1) (t0_2 := t1_2) (t0_3 := t1_3) (t0_4 := t1_4) (t0_5 := t1_5) (t0_6 := t1_6) (t1_0 := t2_0) (t2_0 := t3_0) (t3_0 := t4_0) (t4_0 := t5_0) (by with_reducible assumption)
      with_reducible refine v_oweS h3.1 ?_
      replace h3 := h3.2
      generalize F_WR_written x3 x4 t1_0 t1_1 t1_2 t1_3 t1_4 t1_5 t1_6 t2_0 t3_0 t4_0 t5_0 = p626 at *
      unfold Q_WR_written at h3
      unfold S_NM_print_c97
      have h4 := T_NM_show (N2 := (2100 : Int32)) (x3 := (p626.1 : Int32)) (t0_0 := lx140) (t0_1 := t0_1) (t0_2 := t0_2) (t1_0 := t20_0) (t2_0 := (p626.2.2.2.2.2.2.2.2.2 : (Nat → Int32))) ⟨by omega, by omega⟩ (by omega)
      with_reducible refine v_oweS h4 ?_
      generalize F_NM_show (2100 : Int32) (p626.1 : Int32) lx140 t0_1 t0_2 t20_0 (p626.2.2.2.2.2.2.2.2.2 : (Nat → Int32)) = p660 at *
      unfold S_NM_print_c100
      exact trivial
    ·
      rw [if_neg g2]
      by_cases g5 : x2 = (1 : Int32)
      ·
        rw [if_pos g5]
        have h6 := T_DR_written (x2 := x3) (x3 := x4) (t0_0 := t6_0) (t0_1 := t6_1) (t0_2 := t6_2) (t0_3 := t6_3) (t0_4 := t6_4) (t0_5 := t6_5) (t0_6 := t6_6) (t0_7 := t6_7) (t0_8 := t6_8) (t0_9 := t6_9) (t0_10 := t6_10) (t1_0 := t7_0) (t2_0 := t8_0) (t3_0 := t9_0) (t4_0 := t10_0) (t5_0 := t11_0) (by with_reducible assumption)
        with_reducible refine v_oweS h6.1 ?_
        replace h6 := h6.2
        generalize F_DR_written x3 x4 t6_0 t6_1 t6_2 t6_3 t6_4 t6_5 t6_6 t6_7 t6_8 t6_9 t6_10 t7_0 t8_0 t9_0 t10_0 t11_0 = p544 at *
        unfold Q_DR_written at h6
        unfold S_NM_print_c123
        have h7 := T_NM_show (N2 := (12200 : Int32)) (x3 := (p544.1 : Int32)) (t0_0 := lx140) (t0_1 := t0_1) (t0_2 := t0_2) (t1_0 := t20_0) (t2_0 := (p544.2.2.2.2.2.2.2.2.2.2.2.2 : (Nat → Int32))) ⟨by omega, by omega⟩ (by omega)
        with_reducible refine v_oweS h7 ?_
        generalize F_NM_show (12200 : Int32) (p544.1 : Int32) lx140 t0_1 t0_2 t20_0 (p544.2.2.2.2.2.2.2.2.2.2.2.2 : (Nat → Int32)) = p581 at *
        unfold S_NM_print_c126
        exact trivial
      ·
        rw [if_neg g5]
        have h8 := T_NM_bitsOf (x2 := x2) (x3 := x3) (t0_0 := lx140) (t0_1 := t0_1) (t0_2 := t0_2) (t1_0 := t21_0) (by first | with_reducible exact hx3 | with_reducible exact hx4)
        with_reducible refine v_oweS h8 ?_
        by_cases g9 : x4 = (0 : Int32)
        ·
          rw [if_pos g9]
          by_cases g10 : x2 = (3 : Int32)
          ·
            rw [if_pos g10]
            have h11 := T_FR_print (x2 := ((F_NM_bitsOf x2 x3 lx140 t0_1 t0_2 t21_0) : Int64)) (x3 := (1 : Int32)) (t0_0 := t12_0) (t0_1 := t12_1) (t0_2 := t12_2) (t0_3 := t12_3) (t0_4 := t12_4) (t0_5 := t12_5) (t0_6 := t12_6) (t0_7 := t12_7) (t0_8 := t12_8) (t0_9 := t12_9) (t0_10 := t12_10) (t1_0 := t13_0) (t2_0 := t14_0) (t3_0 := t15_0) (t4_0 := t16_0) (t5_0 := t17_0) (t6_0 := t18_0) (t7_0 := t19_0) 
            with_reducible refine v_oweS h11.1 ?_
            replace h11 := h11.2
            generalize F_FR_print ((F_NM_bitsOf x2 x3 lx140 t0_1 t0_2 t21_0) : Int64) (1 : Int32) t12_0 t12_1 t12_2 t12_3 t12_4 t12_5 t12_6 t12_7 t12_8 t12_9 t12_10 t13_0 t14_0 t15_0 t16_0 t17_0 t18_0 t19_0 = p449 at *
            unfold Q_FR_print at h11
            unfold S_NM_print_c166_9
            have h12 := T_NM_show (N2 := (1600 : Int32)) (x3 := (p449.1 : Int32)) (t0_0 := lx140) (t0_1 := t0_1) (t0_2 := t0_2) (t1_0 := t20_0) (t2_0 := (p449.2.2.2.2.2.2.2.2.2.2.2.2.2.2.2.2.2.2 : (Nat → Int32))) ⟨by omega, by omega⟩ (by omega)
            with_reducible refine v_oweS h12 ?_
            generalize F_NM_show (1600 : Int32) (p449.1 : Int32) lx140 t0_1 t0_2 t20_0 (p449.2.2.2.2.2.2.2.2.2.2.2.2.2.2.2.2.2.2 : (Nat → Int32)) = p492 at *
            unfold S_NM_print_c191_10
            exact trivial
          ·
            rw [if_neg g10]
            have h13 := T_FR_print (x2 := ((F_NM_bitsOf x2 x3 lx140 t0_1 t0_2 t21_0) : Int64)) (x3 := (0 : Int32)) (t0_0 := t12_0) (t0_1 := t12_1) (t0_2 := t12_2) (t0_3 := t12_3) (t0_4 := t12_4) (t0_5 := t12_5) (t0_6 := t12_6) (t0_7 := t12_7) (t0_8 := t12_8) (t0_9 := t12_9) (t0_10 := t12_10) (t1_0 := t13_0) (t2_0 := t14_0) (t3_0 := t15_0) (t4_0 := t16_0) (t5_0 := t17_0) (t6_0 := t18_0) (t7_0 := t19_0) 
            with_reducible refine v_oweS h13.1 ?_
            replace h13 := h13.2
            generalize F_FR_print ((F_NM_bitsOf x2 x3 lx140 t0_1 t0_2 t21_0) : Int64) (0 : Int32) t12_0 t12_1 t12_2 t12_3 t12_4 t12_5 t12_6 t12_7 t12_8 t12_9 t12_10 t13_0 t14_0 t15_0 t16_0 t17_0 t18_0 t19_0 = p362 at *
            unfold Q_FR_print at h13
            unfold S_NM_print_c166
            have h14 := T_NM_show (N2 := (1600 : Int32)) (x3 := (p362.1 : Int32)) (t0_0 := lx140) (t0_1 := t0_1) (t0_2 := t0_2) (t1_0 := t20_0) (t2_0 := (p362.2.2.2.2.2.2.2.2.2.2.2.2.2.2.2.2.2.2 : (Nat → Int32))) ⟨by omega, by omega⟩ (by omega)
            with_reducible refine v_oweS h14 ?_
            generalize F_NM_show (1600 : Int32) (p362.1 : Int32) lx140 t0_1 t0_2 t20_0 (p362.2.2.2.2.2.2.2.2.2.2.2.2.2.2.2.2.2.2 : (Nat → Int32)) = p405 at *
            unfold S_NM_print_c191_8
            exact trivial
        ·
          rw [if_neg g9]
          by_cases g15 : x2 = (3 : Int32)
          ·
            rw [if_pos g15]
            have h16 := T_FR_hexadecimal (x2 := ((F_NM_bitsOf x2 x3 lx140 t0_1 t0_2 t21_0) : Int64)) (x3 := (1 : Int32)) (t0_0 := t12_0) (t0_1 := t12_1) (t0_2 := t12_2) (t0_3 := t12_3) (t0_4 := t12_4) (t0_5 := t12_5) (t0_6 := t12_6) (t0_7 := t12_7) (t0_8 := t12_8) (t0_9 := t12_9) (t0_10 := t12_10) (t1_0 := t19_0) 
            with_reducible refine v_oweS h16.1 ?_
            replace h16 := h16.2
            generalize F_FR_hexadecimal ((F_NM_bitsOf x2 x3 lx140 t0_1 t0_2 t21_0) : Int64) (1 : Int32) t12_0 t12_1 t12_2 t12_3 t12_4 t12_5 t12_6 t12_7 t12_8 t12_9 t12_10 t19_0 = p279 at *
            unfold Q_FR_hexadecimal at h16
            unfold S_NM_print_c188_5
            have h17 := T_NM_show (N2 := (1600 : Int32)) (x3 := (p279.1 : Int32)) (t0_0 := lx140) (t0_1 := t0_1) (t0_2 := t0_2) (t1_0 := t20_0) (t2_0 := (p279.2.2.2.2.2.2.2.2.2.2.2.2 : (Nat → Int32))) ⟨by omega, by omega⟩ (by omega)
            with_reducible refine v_oweS h17 ?_
            generalize F_NM_show (1600 : Int32) (p279.1 : Int32) lx140 t0_1 t0_2 t20_0 (p279.2.2.2.2.2.2.2.2.2.2.2.2 : (Nat → Int32)) = p316 at *
            unfold S_NM_print_c191_6
            exact trivial
          ·
            rw [if_neg g15]
            have h18 := T_FR_hexadecimal (x2 := ((F_NM_bitsOf x2 x3 lx140 t0_1 t0_2 t21_0) : Int64)) (x3 := (0 : Int32)) (t0_0 := t12_0) (t0_1 := t12_1) (t0_2 := t12_2) (t0_3 := t12_3) (t0_4 := t12_4) (t0_5 := t12_5) (t0_6 := t12_6) (t0_7 := t12_7) (t0_8 := t12_8) (t0_9 := t12_9) (t0_10 := t12_10) (t1_0 := t19_0) 
            with_reducible refine v_oweS h18.1 ?_
            replace h18 := h18.2
            generalize F_FR_hexadecimal ((F_NM_bitsOf x2 x3 lx140 t0_1 t0_2 t21_0) : Int64) (0 : Int32) t12_0 t12_1 t12_2 t12_3 t12_4 t12_5 t12_6 t12_7 t12_8 t12_9 t12_10 t19_0 = p210 at *
            unfold Q_FR_hexadecimal at h18
            unfold S_NM_print_c188
            have h19 := T_NM_show (N2 := (1600 : Int32)) (x3 := (p210.1 : Int32)) (t0_0 := lx140) (t0_1 := t0_1) (t0_2 := t0_2) (t1_0 := t20_0) (t2_0 := (p210.2.2.2.2.2.2.2.2.2.2.2.2 : (Nat → Int32))) ⟨by omega, by omega⟩ (by omega)
            with_reducible refine v_oweS h19 ?_
            generalize F_NM_show (1600 : Int32) (p210.1 : Int32) lx140 t0_1 t0_2 t20_0 (p210.2.2.2.2.2.2.2.2.2.2.2.2 : (Nat → Int32)) = p247 at *
            unfold S_NM_print_c191
            exact trivial
  ·
    rw [if_neg g1]
    exact trivial
theorem T_NM_pr39 {x2 : Int32} {x3 : Int32} {x4 : Int32} {t0_0 : Int32} {t0_1 : Int32} {t0_2 : Int32} {t1_0 : Int32} {t1_1 : Int32} {t1_2 : Int32} {t1_3 : Int32} {t1_4 : Int32} {t1_5 : Int32} {t1_6 : Int32} {t2_0 : (Nat → Int32)} {t3_0 : (Nat → Int32)} {t4_0 : (Nat → Int32)} {t5_0 : (Nat → Int32)} {t6_0 : Int32} {t6_1 : Int32} {t6_2 : Int32} {t6_3 : Int64} {t6_4 : Int32} {t6_5 : Int32} {t6_6 : Int32} {t6_7 : Int32} {t6_8 : Int32} {t6_9 : Int32} {t6_10 : Int32} {t7_0 : (Nat → Int32)} {t8_0 : (Nat → Int32)} {t9_0 : (Nat → Int32)} {t10_0 : (Nat → Int32)} {t11_0 : (Nat → Int32)} {t12_0 : Int32} {t12_1 : Int32} {t12_2 : Int32} {t12_3 : Int32} {t12_4 : Int64} {t12_5 : Int32} {t12_6 : Int32} {t12_7 : Int64} {t12_8 : Int32} {t12_9 : Int64} {t12_10 : Int32} {t13_0 : (Nat → Int32)} {t14_0 : (Nat → Int32)} {t15_0 : (Nat → Int32)} {t16_0 : (Nat → Int32)} {t17_0 : (Nat → Int32)} {t18_0 : (Nat → Int32)} {t19_0 : (Nat → Int32)} {t20_0 : (Nat → Int32)} {t21_0 : (Nat → Int64)} {lx109 : Int32} (hW : wR t2_0 t3_0) (hD : gR t7_0 t8_0 t9_0 t10_0) (hB : nmB t21_0) (hx : lx109 = 0 → 0 ≤ x3.toInt ∧ x3.toInt ≤ 9)  : (S_NM_print_J39 x2 x3 x4 t0_0 t0_1 t0_2 t1_0 t1_1 t1_2 t1_3 t1_4 t1_5 t1_6 t2_0 t3_0 t4_0 t5_0 t6_0 t6_1 t6_2 t6_3 t6_4 t6_5 t6_6 t6_7 t6_8 t6_9 t6_10 t7_0 t8_0 t9_0 t10_0 t11_0 t12_0 t12_1 t12_2 t12_3 t12_4 t12_5 t12_6 t12_7 t12_8 t12_9 t12_10 t13_0 t14_0 t15_0 t16_0 t17_0 t18_0 t19_0 t20_0 t21_0 lx109) := by
  have e0 : (0 : Int32).toInt = 0 := rfl
  have e1 : (1 : Int32).toInt = 1 := rfl
  have eL0 : (0 : Int64).toInt = 0 := rfl
  have em : (-1 : Int32).toInt = -1 := rfl
  unfold S_NM_print_J39
  by_cases g1 : lx109 = (0 : Int32)
  ·
    rw [if_pos g1]
    have hno := hx g1
    by_cases g2 : x2 = (0 : Int32)
    ·
      rw [if_pos g2]
      by_cases g3 : x4 < (2 : Int32)
      ·
        rw [if_pos g3]
        unfold S_NM_print_J62
        exact T_NM_pr67 hW hD hB (fun z => absurd z (by decide))
      ·
        rw [if_neg g3]
        by_cases g4 : x4 ≤ (36 : Int32)
        ·
          rw [if_pos g4]
          unfold S_NM_print_J66
          exact T_NM_pr67 hW hD hB (fun _ => hno)
        ·
          rw [if_neg g4]
          unfold S_NM_print_J62
          exact T_NM_pr67 hW hD hB (fun z => absurd z (by decide))
    ·
      rw [if_neg g2]
      unfold S_NM_print_J66
      exact T_NM_pr67 hW hD hB (fun _ => hno)
  ·
    rw [if_neg g1]
    unfold S_NM_print_J62
    exact T_NM_pr67 hW hD hB (fun z => absurd z (by decide))
theorem T_NM_print {x2 : Int32} {x3 : Int32} {x4 : Int32} {t0_0 : Int32} {t0_1 : Int32} {t0_2 : Int32} {t1_0 : Int32} {t1_1 : Int32} {t1_2 : Int32} {t1_3 : Int32} {t1_4 : Int32} {t1_5 : Int32} {t1_6 : Int32} {t2_0 : (Nat → Int32)} {t3_0 : (Nat → Int32)} {t4_0 : (Nat → Int32)} {t5_0 : (Nat → Int32)} {t6_0 : Int32} {t6_1 : Int32} {t6_2 : Int32} {t6_3 : Int64} {t6_4 : Int32} {t6_5 : Int32} {t6_6 : Int32} {t6_7 : Int32} {t6_8 : Int32} {t6_9 : Int32} {t6_10 : Int32} {t7_0 : (Nat → Int32)} {t8_0 : (Nat → Int32)} {t9_0 : (Nat → Int32)} {t10_0 : (Nat → Int32)} {t11_0 : (Nat → Int32)} {t12_0 : Int32} {t12_1 : Int32} {t12_2 : Int32} {t12_3 : Int32} {t12_4 : Int64} {t12_5 : Int32} {t12_6 : Int32} {t12_7 : Int64} {t12_8 : Int32} {t12_9 : Int64} {t12_10 : Int32} {t13_0 : (Nat → Int32)} {t14_0 : (Nat → Int32)} {t15_0 : (Nat → Int32)} {t16_0 : (Nat → Int32)} {t17_0 : (Nat → Int32)} {t18_0 : (Nat → Int32)} {t19_0 : (Nat → Int32)} {t20_0 : (Nat → Int32)} {t21_0 : (Nat → Int64)} (hW : wR t2_0 t3_0) (hD : gR t7_0 t8_0 t9_0 t10_0) (hB : nmB t21_0)  : (S_NM_print x2 x3 x4 t0_0 t0_1 t0_2 t1_0 t1_1 t1_2 t1_3 t1_4 t1_5 t1_6 t2_0 t3_0 t4_0 t5_0 t6_0 t6_1 t6_2 t6_3 t6_4 t6_5 t6_6 t6_7 t6_8 t6_9 t6_10 t7_0 t8_0 t9_0 t10_0 t11_0 t12_0 t12_1 t12_2 t12_3 t12_4 t12_5 t12_6 t12_7 t12_8 t12_9 t12_10 t13_0 t14_0 t15_0 t16_0 t17_0 t18_0 t19_0 t20_0 t21_0) := by
  have e0 : (0 : Int32).toInt = 0 := rfl
  have e1 : (1 : Int32).toInt = 1 := rfl
  have eL0 : (0 : Int64).toInt = 0 := rfl
  have em : (-1 : Int32).toInt = -1 := rfl
  unfold S_NM_print
  by_cases g1 : ((F_NM_no_IIZ x2 x3) : Int32) = (0 : Int32)
  ·
    rw [if_pos g1]
    have hno := (nm_no2 g1).2
    by_cases g2 : x4 < (0 : Int32)
    ·
      rw [if_pos g2]
      unfold S_NM_print_J34
      exact T_NM_pr39 hW hD hB (fun z => absurd z (by decide))
    ·
      rw [if_neg g2]
      by_cases g3 : ((F_NM_isFloat x2) : Int32) = (0 : Int32)
      ·
        rw [if_pos g3]
        unfold S_NM_print_J24
        by_cases g4 : x2 = (1 : Int32)
        ·
          rw [if_pos g4]
          by_cases g5 : x4 ≤ (2 : Int32)
          ·
            rw [if_pos g5]
            unfold S_NM_print_J38
            exact T_NM_pr39 hW hD hB (fun _ => hno)
          ·
            rw [if_neg g5]
            unfold S_NM_print_J34
            exact T_NM_pr39 hW hD hB (fun z => absurd z (by decide))
        ·
          rw [if_neg g4]
          unfold S_NM_print_J38
          exact T_NM_pr39 hW hD hB (fun _ => hno)
      ·
        rw [if_neg g3]
        by_cases g6 : (1 : Int32) < x4
        ·
          rw [if_pos g6]
          unfold S_NM_print_J34
          exact T_NM_pr39 hW hD hB (fun z => absurd z (by decide))
        ·
          rw [if_neg g6]
          unfold S_NM_print_J24
          by_cases g7 : x2 = (1 : Int32)
          ·
            rw [if_pos g7]
            by_cases g8 : x4 ≤ (2 : Int32)
            ·
              rw [if_pos g8]
              unfold S_NM_print_J38
              exact T_NM_pr39 hW hD hB (fun _ => hno)
            ·
              rw [if_neg g8]
              unfold S_NM_print_J34
              exact T_NM_pr39 hW hD hB (fun z => absurd z (by decide))
          ·
            rw [if_neg g7]
            unfold S_NM_print_J38
            exact T_NM_pr39 hW hD hB (fun _ => hno)
  ·
    rw [if_neg g1]
    unfold S_NM_print_J34
    exact T_NM_pr39 hW hD hB (fun z => absurd z (by decide))
theorem T_NM_fg19 {x2 : Int32} {x3 : Int32} {x4 : Int32} {x5 : Int32} {x6 : Int32} {t0_0 : Int32} {t0_1 : Int32} {t0_2 : Int32} {t1_0 : Int32} {t1_1 : Int32} {t1_2 : Int32} {t1_3 : Int32} {t1_4 : Int64} {t1_5 : Int32} {t1_6 : Int32} {t1_7 : Int64} {t1_8 : Int32} {t1_9 : Int64} {t1_10 : Int32} {t2_0 : (Nat → Int32)} {t3_0 : (Nat → Int32)} {t4_0 : (Nat → Int32)} {t5_0 : (Nat → Int32)} {t6_0 : (Nat → Int32)} {t7_0 : (Nat → Int32)} {t8_0 : (Nat → Int64)} {lx40 : Int32} (hB : nmB t8_0) (hx : lx40.toInt ≤ 0 → 0 ≤ x3.toInt ∧ x3.toInt ≤ 9)  : (S_NM_figures_J19 x2 x3 x4 x5 x6 t0_0 t0_1 t0_2 t1_0 t1_1 t1_2 t1_3 t1_4 t1_5 t1_6 t1_7 t1_8 t1_9 t1_10 t2_0 t3_0 t4_0 t5_0 t6_0 t7_0 t8_0 lx40) := by
  have e0 : (0 : Int32).toInt = 0 := rfl
  have e1 : (1 : Int32).toInt = 1 := rfl
  have eL0 : (0 : Int64).toInt = 0 := rfl
  have em : (-1 : Int32).toInt = -1 := rfl
  have n1600 : (1600 : Int32).toInt = 1600 := rfl
  have n2100 : (2100 : Int32).toInt = 2100 := rfl
  have n4096 : (4096 : Int32).toInt = 4096 := rfl
  have n12200 : (12200 : Int32).toInt = 12200 := rfl
  have n4100 : (4100 : Int32).toInt = 4100 := rfl
  have n256 : (256 : Int32).toInt = 256 := rfl
  unfold S_NM_figures_J19
  by_cases g1 : lx40 ≤ (0 : Int32)
  ·
    rw [if_pos g1]
    have hx3 := hx (q_leI g1)
    have h2 := T_NM_bitsOf (x2 := x2) (x3 := x3) (t0_0 := lx40) (t0_1 := t0_1) (t0_2 := t0_2) (t1_0 := t8_0) (by first | with_reducible exact hx3 | with_reducible exact hx4)
    with_reducible refine v_oweS h2 ?_
    by_cases g3 : x4 = (0 : Int32)
    ·
      rw [if_pos g3]
      by_cases g4 : x2 = (3 : Int32)
      ·
        rw [if_pos g4]
        unfold S_NM_figures_J85
        have h5 := T_FR_fixed (x2 := ((F_NM_bitsOf x2 x3 lx40 t0_1 t0_2 t8_0) : Int64)) (x3 := (1 : Int32)) (x4 := x5) (x5 := x6) (t0_0 := t1_0) (t0_1 := t1_1) (t0_2 := t1_2) (t0_3 := t1_3) (t0_4 := t1_4) (t0_5 := t1_5) (t0_6 := t1_6) (t0_7 := t1_7) (t0_8 := t1_8) (t0_9 := t1_9) (t0_10 := t1_10) (t1_0 := t2_0) (t2_0 := t3_0) (t3_0 := t4_0) (t4_0 := t5_0) (t5_0 := t6_0) 
        with_reducible refine v_oweS h5.1 ?_
        replace h5 := h5.2
        generalize F_FR_fixed ((F_NM_bitsOf x2 x3 lx40 t0_1 t0_2 t8_0) : Int64) (1 : Int32) x5 x6 t1_0 t1_1 t1_2 t1_3 t1_4 t1_5 t1_6 t1_7 t1_8 t1_9 t1_10 t2_0 t3_0 t4_0 t5_0 t6_0 = p123 at *
        unfold Q_FR_fixed at h5
        unfold S_NM_figures_c89
        by_cases g6 : (p123.2.1 : Int32) ≤ (0 : Int32)
        ·
          rw [if_pos g6]
          have h7 := T_NM_show (N2 := (1600 : Int32)) (x3 := (p123.1 : Int32)) (t0_0 := (p123.2.1 : Int32)) (t0_1 := t0_1) (t0_2 := t0_2) (t1_0 := t7_0) (t2_0 := (p123.2.2.2.2.2.2.2.2.2.2.2.2.2.2.2.2 : (Nat → Int32))) ⟨by omega, by omega⟩ (by omega)
          with_reducible refine v_oweS h7 ?_
          generalize F_NM_show (1600 : Int32) (p123.1 : Int32) (p123.2.1 : Int32) t0_1 t0_2 t7_0 (p123.2.2.2.2.2.2.2.2.2.2.2.2.2.2.2.2 : (Nat → Int32)) = p168 at *
          unfold S_NM_figures_c126
          exact trivial
        ·
          rw [if_neg g6]
          exact trivial
      ·
        rw [if_neg g4]
        unfold S_NM_figures_J85
        have h8 := T_FR_fixed (x2 := ((F_NM_bitsOf x2 x3 lx40 t0_1 t0_2 t8_0) : Int64)) (x3 := (0 : Int32)) (x4 := x5) (x5 := x6) (t0_0 := t1_0) (t0_1 := t1_1) (t0_2 := t1_2) (t0_3 := t1_3) (t0_4 := t1_4) (t0_5 := t1_5) (t0_6 := t1_6) (t0_7 := t1_7) (t0_8 := t1_8) (t0_9 := t1_9) (t0_10 := t1_10) (t1_0 := t2_0) (t2_0 := t3_0) (t3_0 := t4_0) (t4_0 := t5_0) (t5_0 := t6_0) 
        with_reducible refine v_oweS h8.1 ?_
        replace h8 := h8.2
        generalize F_FR_fixed ((F_NM_bitsOf x2 x3 lx40 t0_1 t0_2 t8_0) : Int64) (0 : Int32) x5 x6 t1_0 t1_1 t1_2 t1_3 t1_4 t1_5 t1_6 t1_7 t1_8 t1_9 t1_10 t2_0 t3_0 t4_0 t5_0 t6_0 = p123 at *
        unfold Q_FR_fixed at h8
        unfold S_NM_figures_c89
        by_cases g9 : (p123.2.1 : Int32) ≤ (0 : Int32)
        ·
          rw [if_pos g9]
          have h10 := T_NM_show (N2 := (1600 : Int32)) (x3 := (p123.1 : Int32)) (t0_0 := (p123.2.1 : Int32)) (t0_1 := t0_1) (t0_2 := t0_2) (t1_0 := t7_0) (t2_0 := (p123.2.2.2.2.2.2.2.2.2.2.2.2.2.2.2.2 : (Nat → Int32))) ⟨by omega, by omega⟩ (by omega)
          with_reducible refine v_oweS h10 ?_
          generalize F_NM_show (1600 : Int32) (p123.1 : Int32) (p123.2.1 : Int32) t0_1 t0_2 t7_0 (p123.2.2.2.2.2.2.2.2.2.2.2.2.2.2.2.2 : (Nat → Int32)) = p168 at *
          unfold S_NM_figures_c126
          exact trivial
        ·
          rw [if_neg g9]
          exact trivial
    ·
      rw [if_neg g3]
      by_cases g11 : x2 = (3 : Int32)
      ·
        rw [if_pos g11]
        unfold S_NM_figures_J59
        have h12 := T_FR_scientific (x2 := ((F_NM_bitsOf x2 x3 lx40 t0_1 t0_2 t8_0) : Int64)) (x3 := (1 : Int32)) (x4 := x5) (x5 := x6) (t0_0 := t1_0) (t0_1 := t1_1) (t0_2 := t1_2) (t0_3 := t1_3) (t0_4 := t1_4) (t0_5 := t1_5) (t0_6 := t1_6) (t0_7 := t1_7) (t0_8 := t1_8) (t0_9 := t1_9) (t0_10 := t1_10) (t1_0 := t2_0) (t2_0 := t3_0) (t3_0 := t4_0) (t4_0 := t5_0) (t5_0 := t6_0) 
        with_reducible refine v_oweS h12.1 ?_
        replace h12 := h12.2
        generalize F_FR_scientific ((F_NM_bitsOf x2 x3 lx40 t0_1 t0_2 t8_0) : Int64) (1 : Int32) x5 x6 t1_0 t1_1 t1_2 t1_3 t1_4 t1_5 t1_6 t1_7 t1_8 t1_9 t1_10 t2_0 t3_0 t4_0 t5_0 t6_0 = p230 at *
        unfold Q_FR_scientific at h12
        unfold S_NM_figures_c63
        by_cases g13 : (p230.2.1 : Int32) ≤ (0 : Int32)
        ·
          rw [if_pos g13]
          have h14 := T_NM_show (N2 := (1600 : Int32)) (x3 := (p230.1 : Int32)) (t0_0 := (p230.2.1 : Int32)) (t0_1 := t0_1) (t0_2 := t0_2) (t1_0 := t7_0) (t2_0 := (p230.2.2.2.2.2.2.2.2.2.2.2.2.2.2.2.2 : (Nat → Int32))) ⟨by omega, by omega⟩ (by omega)
          with_reducible refine v_oweS h14 ?_
          generalize F_NM_show (1600 : Int32) (p230.1 : Int32) (p230.2.1 : Int32) t0_1 t0_2 t7_0 (p230.2.2.2.2.2.2.2.2.2.2.2.2.2.2.2.2 : (Nat → Int32)) = p275 at *
          unfold S_NM_figures_c126_7
          exact trivial
        ·
          rw [if_neg g13]
          exact trivial
      ·
        rw [if_neg g11]
        unfold S_NM_figures_J59
        have h15 := T_FR_scientific (x2 := ((F_NM_bitsOf x2 x3 lx40 t0_1 t0_2 t8_0) : Int64)) (x3 := (0 : Int32)) (x4 := x5) (x5 := x6) (t0_0 := t1_0) (t0_1 := t1_1) (t0_2 := t1_2) (t0_3 := t1_3) (t0_4 := t1_4) (t0_5 := t1_5) (t0_6 := t1_6) (t0_7 := t1_7) (t0_8 := t1_8) (t0_9 := t1_9) (t0_10 := t1_10) (t1_0 := t2_0) (t2_0 := t3_0) (t3_0 := t4_0) (t4_0 := t5_0) (t5_0 := t6_0) 
        with_reducible refine v_oweS h15.1 ?_
        replace h15 := h15.2
        generalize F_FR_scientific ((F_NM_bitsOf x2 x3 lx40 t0_1 t0_2 t8_0) : Int64) (0 : Int32) x5 x6 t1_0 t1_1 t1_2 t1_3 t1_4 t1_5 t1_6 t1_7 t1_8 t1_9 t1_10 t2_0 t3_0 t4_0 t5_0 t6_0 = p230 at *
        unfold Q_FR_scientific at h15
        unfold S_NM_figures_c63
        by_cases g16 : (p230.2.1 : Int32) ≤ (0 : Int32)
        ·
          rw [if_pos g16]
          have h17 := T_NM_show (N2 := (1600 : Int32)) (x3 := (p230.1 : Int32)) (t0_0 := (p230.2.1 : Int32)) (t0_1 := t0_1) (t0_2 := t0_2) (t1_0 := t7_0) (t2_0 := (p230.2.2.2.2.2.2.2.2.2.2.2.2.2.2.2.2 : (Nat → Int32))) ⟨by omega, by omega⟩ (by omega)
          with_reducible refine v_oweS h17 ?_
          generalize F_NM_show (1600 : Int32) (p230.1 : Int32) (p230.2.1 : Int32) t0_1 t0_2 t7_0 (p230.2.2.2.2.2.2.2.2.2.2.2.2.2.2.2.2 : (Nat → Int32)) = p275 at *
          unfold S_NM_figures_c126_7
          exact trivial
        ·
          rw [if_neg g16]
          exact trivial
  ·
    rw [if_neg g1]
    exact trivial
theorem T_NM_figures {x2 : Int32} {x3 : Int32} {x4 : Int32} {x5 : Int32} {x6 : Int32} {t0_0 : Int32} {t0_1 : Int32} {t0_2 : Int32} {t1_0 : Int32} {t1_1 : Int32} {t1_2 : Int32} {t1_3 : Int32} {t1_4 : Int64} {t1_5 : Int32} {t1_6 : Int32} {t1_7 : Int64} {t1_8 : Int32} {t1_9 : Int64} {t1_10 : Int32} {t2_0 : (Nat → Int32)} {t3_0 : (Nat → Int32)} {t4_0 : (Nat → Int32)} {t5_0 : (Nat → Int32)} {t6_0 : (Nat → Int32)} {t7_0 : (Nat → Int32)} {t8_0 : (Nat → Int64)} (hB : nmB t8_0)  : (S_NM_figures x2 x3 x4 x5 x6 t0_0 t0_1 t0_2 t1_0 t1_1 t1_2 t1_3 t1_4 t1_5 t1_6 t1_7 t1_8 t1_9 t1_10 t2_0 t3_0 t4_0 t5_0 t6_0 t7_0 t8_0) := by
  have e0 : (0 : Int32).toInt = 0 := rfl
  have e1 : (1 : Int32).toInt = 1 := rfl
  have eL0 : (0 : Int64).toInt = 0 := rfl
  have em : (-1 : Int32).toInt = -1 := rfl
  unfold S_NM_figures
  by_cases g1 : x2 < (2 : Int32)
  ·
    rw [if_pos g1]
    unfold S_NM_figures_J14
    exact T_NM_fg19 hB (fun z => absurd z (by decide))
  ·
    rw [if_neg g1]
    by_cases g2 : ((F_NM_no_IIZ x2 x3) : Int32) = (0 : Int32)
    ·
      rw [if_pos g2]
      have hno := (nm_no2 g2).2
      exact T_NM_fg19 hB (fun _ => hno)
    ·
      rw [if_neg g2]
      unfold S_NM_figures_J14
      exact T_NM_fg19 hB (fun z => absurd z (by decide))
theorem nm_1000 {a b : Int32} (ha : 0 ≤ a.toInt ∧ a.toInt ≤ 9) (hb : 0 ≤ b.toInt ∧ b.toInt < 1000) : ((1000 * a) + b : Int32).toInt = 1000 * a.toInt + b.toInt := by
  have e : (1000 * a : Int32).toInt = 1000 * a.toInt := q_mulI (x := 1000) (by decide) rfl (by omega) (by omega)
  exact q_addI e rfl (by omega) (by omega)
theorem vm_lg {x2 : Int32} {t0_0 : Int32} {t0_1 : Int32} {t0_2 : Int32} {t1_0 : Int32} {t1_1 : Int32} {t1_2 : Int32} {t1_3 : Int64} {t1_4 : Int32} {t1_5 : Int32} {t1_6 : Int32} {t1_7 : Int32} {t1_8 : Int32} {t1_9 : Int32} {t1_10 : Int32} {t2_0 : (Nat → Int32)} {t3_0 : (Nat → Int32)} {t4_0 : (Nat → Int32)} {t5_0 : (Nat → Int64)} {lx38 : Int32} (hx2 : 0 ≤ x2.toInt ∧ x2.toInt ≤ 9) (hm9 : 1 ≤ (t3_0 x2.toNatClampNeg).toInt ∧ (t3_0 x2.toNatClampNeg).toInt ≤ 1000)  : ∀ (n : Nat) (lx56 : Int32) (lx57 : Int32) (lx58 : Int64), (0 ≤ lx56.toInt ∧ lx56.toInt ≤ 1000) → (1000 - lx56.toInt < (n : Int)) → (S_NM_isLong_L26 x2 t0_0 t0_1 t0_2 t1_0 t1_1 t1_2 t1_3 t1_4 t1_5 t1_6 t1_7 t1_8 t1_9 t1_10 t2_0 t3_0 t4_0 t5_0 lx38 n lx56 lx57 lx58) := by
  intro n
  induction n with
  | zero => intro lx56 lx57 lx58 hA0 hm; exact absurd (show False by omega) id
  | succ n ih =>
    intro lx56 lx57 lx58 hA0 hm
    have e0 : (0 : Int32).toInt = 0 := rfl
    have e1 : (1 : Int32).toInt = 1 := rfl
    have eL0 : (0 : Int64).toInt = 0 := rfl
    have em : (-1 : Int32).toInt = -1 := rfl
    rw [S_NM_isLong_L26.eq_2]
    by_cases g1 : (t3_0 x2.toNatClampNeg : Int32) ≤ lx56
    ·
      rw [if_pos g1]
      unfold S_NM_isLong_J109
      by_cases g2 : lx57 = (0 : Int32)
      ·
        rw [if_pos g2]
        unfold S_NM_isLong_J138
        unfold S_NM_isLong_J139
        by_cases g3 : (t4_0 x2.toNatClampNeg : Int32) = (0 : Int32)
        ·
          rw [if_pos g3]
          exact trivial
        ·
          rw [if_neg g3]
          exact trivial
      ·
        rw [if_neg g2]
        by_cases g4 : (t4_0 x2.toNatClampNeg : Int32) = (0 : Int32)
        ·
          rw [if_pos g4]
          by_cases g5 : (lg_cmp lx58 (-9223372036854775808) : Int32) = (0 : Int32)
          ·
            rw [if_pos g5]
            unfold S_NM_isLong_J138
            unfold S_NM_isLong_J139
            rw [if_pos g4]
            exact trivial
          ·
            rw [if_neg g5]
            unfold S_NM_isLong_J134
            unfold S_NM_isLong_J139
            rw [if_pos g4]
            exact trivial
        ·
          rw [if_neg g4]
          unfold S_NM_isLong_J134
          unfold S_NM_isLong_J139
          rw [if_neg g4]
          exact trivial
    ·
      rw [if_neg g1]
      have hb : 0 ≤ lx56.toInt ∧ lx56.toInt < 1000 := ⟨hA0.1, by have := q_nleI g1; omega⟩
      by_cases g6 : lx57 = (0 : Int32)
      ·
        rw [if_pos g6]
        unfold S_NM_isLong_J109
        rw [if_pos g6]
        unfold S_NM_isLong_J138
        unfold S_NM_isLong_J139
        by_cases g7 : (t4_0 x2.toNatClampNeg : Int32) = (0 : Int32)
        ·
          rw [if_pos g7]
          exact trivial
        ·
          rw [if_neg g7]
          exact trivial
      ·
        rw [if_neg g6]
        refine And.intro (by rw [nm_1000 hx2 hb]; omega) ?_
        by_cases g8 : (0 : Int32) < (lg_cmp lx58 (-922337203685477580) : Int32)
        ·
          rw [if_pos g8]
          obtain ⟨a9, e10⟩ := q_nm (lx56 + 1 : Int32)
          rw [e10]
          have a9i : a9.toInt = lx56.toInt + 1 := by rw [← e10]; exact q_addI (x := lx56.toInt) (y := 1) rfl (by decide) (by omega) (by omega)
          refine And.intro (by first | omega | decide) ?_
          exact ih _ _ _ ⟨by omega, by omega⟩ (by omega)
        ·
          rw [if_neg g8]
          by_cases g11 : (lg_cmp lx58 (-922337203685477580) : Int32) = (0 : Int32)
          ·
            rw [if_pos g11]
            by_cases g12 : (8 : Int32) < (t2_0 ((1000 * x2 : Int32) + lx56 : Int32).toNatClampNeg : Int32)
            ·
              rw [if_pos g12]
              obtain ⟨a13, e14⟩ := q_nm (lx56 + 1 : Int32)
              rw [e14]
              have a13i : a13.toInt = lx56.toInt + 1 := by rw [← e14]; exact q_addI (x := lx56.toInt) (y := 1) rfl (by decide) (by omega) (by omega)
              refine And.intro (by first | omega | decide) ?_
              exact ih _ _ _ ⟨by omega, by omega⟩ (by omega)
            ·
              rw [if_neg g12]
              obtain ⟨a15, e16⟩ := q_nm (lx56 + 1 : Int32)
              rw [e16]
              have a15i : a15.toInt = lx56.toInt + 1 := by rw [← e16]; exact q_addI (x := lx56.toInt) (y := 1) rfl (by decide) (by omega) (by omega)
              refine And.intro (by first | omega | decide) ?_
              exact ih _ _ _ ⟨by omega, by omega⟩ (by omega)
          ·
            rw [if_neg g11]
            obtain ⟨a17, e18⟩ := q_nm (lx56 + 1 : Int32)
            rw [e18]
            have a17i : a17.toInt = lx56.toInt + 1 := by rw [← e18]; exact q_addI (x := lx56.toInt) (y := 1) rfl (by decide) (by omega) (by omega)
            refine And.intro (by first | omega | decide) ?_
            exact ih _ _ _ ⟨by omega, by omega⟩ (by omega)
theorem T_NM_isLong {x2 : Int32} {t0_0 : Int32} {t0_1 : Int32} {t0_2 : Int32} {t1_0 : Int32} {t1_1 : Int32} {t1_2 : Int32} {t1_3 : Int64} {t1_4 : Int32} {t1_5 : Int32} {t1_6 : Int32} {t1_7 : Int32} {t1_8 : Int32} {t1_9 : Int32} {t1_10 : Int32} {t2_0 : (Nat → Int32)} {t3_0 : (Nat → Int32)} {t4_0 : (Nat → Int32)} {t5_0 : (Nat → Int64)} (hx2 : 0 ≤ x2.toInt ∧ x2.toInt ≤ 9) (hm9 : 1 ≤ (t3_0 x2.toNatClampNeg).toInt ∧ (t3_0 x2.toNatClampNeg).toInt ≤ 1000)  : (S_NM_isLong x2 t0_0 t0_1 t0_2 t1_0 t1_1 t1_2 t1_3 t1_4 t1_5 t1_6 t1_7 t1_8 t1_9 t1_10 t2_0 t3_0 t4_0 t5_0) := by
  have e0 : (0 : Int32).toInt = 0 := rfl
  have e1 : (1 : Int32).toInt = 1 := rfl
  have eL0 : (0 : Int64).toInt = 0 := rfl
  have em : (-1 : Int32).toInt = -1 := rfl
  unfold S_NM_isLong
  refine And.intro (by first | omega | decide) ?_
  refine And.intro (by first | omega | decide) ?_
  by_cases g1 : (19 : Int32) < (t3_0 x2.toNatClampNeg : Int32)
  ·
    rw [if_pos g1]
    unfold S_NM_isLong_J21
    exact vm_lg hx2 hm9 _ _ _ _ (by decide) (by decide)
  ·
    rw [if_neg g1]
    unfold S_NM_isLong_J21
    exact vm_lg hx2 hm9 _ _ _ _ (by decide) (by decide)
theorem nm_mn {k m s c : Nat → Int32} {x : Int32} (h : gR k m s c) (hx : 0 ≤ x.toInt ∧ x.toInt ≤ 9) : 1 ≤ (m x.toNatClampNeg).toInt ∧ (m x.toNatClampNeg).toInt ≤ 1000 := by
  have e := q_clI (i := x) rfl hx.1
  exact (h.2 _ (by omega)).1
def Q_NM_numeral (p : Int32 × Int32 × Int32 × Int32 × Int32 × Int32 × Int32 × Int32 × Int32 × Int32 × Int32 × (Nat → Int32) × (Nat → Int32) × (Nat → Int64) × (Nat → Int64)) : Prop := vrZ p.2.2.2.2.2.2.2.2.2.2.2.2.1
theorem nm_numeralA {c0 : Int32} {c1 : Int32} {c2 : Int32} {c3 : Int32} {c4 : Int32} {c5 : Int32} {c6 : Int32} {c7 : Int32} {c8 : Int32} {c9 : Int32} {c10 : Int32} {c11 : (Nat → Int32)} {c12 : (Nat → Int32)} {c13 : (Nat → Int64)} {c14 : (Nat → Int64)} (h0 : vrZ c12) : Q_NM_numeral (c0, c1, c2, c3, c4, c5, c6, c7, c8, c9, c10, c11, c12, c13, c14) := h0
theorem T_NM_numeral {x2 : Int32} {x3 : Int32} {t0_0 : Int32} {t0_1 : Int32} {t0_2 : Int32} {t1_0 : Int32} {t1_1 : Int32} {t1_2 : Int32} {t1_3 : Int32} {t1_4 : Int32} {t1_5 : Int32} {t1_6 : Int32} {t2_0 : (Nat → Int32)} {t3_0 : (Nat → Int32)} {t4_0 : Int32} {t4_1 : Int32} {t4_2 : Int32} {t4_3 : Int64} {t4_4 : Int32} {t4_5 : Int32} {t4_6 : Int32} {t4_7 : Int32} {t4_8 : Int32} {t4_9 : Int32} {t4_10 : Int32} {t5_0 : (Nat → Int32)} {t6_0 : (Nat → Int32)} {t7_0 : (Nat → Int32)} {t8_0 : (Nat → Int32)} {t9_0 : Int32} {t9_1 : Int32} {t9_2 : Int32} {t9_3 : Int32} {t9_4 : Int32} {t9_5 : Int32} {t9_6 : Int32} {t9_7 : Int32} {t9_8 : Int32} {t9_9 : Int32} {t9_10 : Int32} {t9_11 : Int32} {t9_12 : Int32} {t9_13 : Int32} {t9_14 : Int32} {t9_15 : Int32} {t9_16 : Int32} {t9_17 : Int32} {t9_18 : Int32} {t9_19 : Int32} {t9_20 : Int32} {t9_21 : Int32} {t10_0 : (Nat → Int32)} {t11_0 : (Nat → Int32)} {t12_0 : (Nat → Int64)} {t13_0 : (Nat → Int64)} (hW : wR t2_0 t3_0) (hD : gR t5_0 t6_0 t7_0 t8_0) (hZ : vrZ t11_0) (hx3 : 0 ≤ x3.toInt ∧ x3.toInt ≤ 9) (hv2 : 0 ≤ t9_2.toInt ∧ t9_2.toInt ≤ 9)  : (S_NM_numeral x2 x3 t0_0 t0_1 t0_2 t1_0 t1_1 t1_2 t1_3 t1_4 t1_5 t1_6 t2_0 t3_0 t4_0 t4_1 t4_2 t4_3 t4_4 t4_5 t4_6 t4_7 t4_8 t4_9 t4_10 t5_0 t6_0 t7_0 t8_0 t9_0 t9_1 t9_2 t9_3 t9_4 t9_5 t9_6 t9_7 t9_8 t9_9 t9_10 t9_11 t9_12 t9_13 t9_14 t9_15 t9_16 t9_17 t9_18 t9_19 t9_20 t9_21 t10_0 t11_0 t12_0 t13_0) ∧ Q_NM_numeral (F_NM_numeral x2 x3 t0_0 t0_1 t0_2 t1_0 t1_1 t1_2 t1_3 t1_4 t1_5 t1_6 t2_0 t3_0 t4_0 t4_1 t4_2 t4_3 t4_4 t4_5 t4_6 t4_7 t4_8 t4_9 t4_10 t5_0 t6_0 t7_0 t8_0 t9_0 t9_1 t9_2 t9_3 t9_4 t9_5 t9_6 t9_7 t9_8 t9_9 t9_10 t9_11 t9_12 t9_13 t9_14 t9_15 t9_16 t9_17 t9_18 t9_19 t9_20 t9_21 t10_0 t11_0 t12_0 t13_0) := by
  have e0 : (0 : Int32).toInt = 0 := rfl
  have e1 : (1 : Int32).toInt = 1 := rfl
  have eL0 : (0 : Int64).toInt = 0 := rfl
  have em : (-1 : Int32).toInt = -1 := rfl
  unfold S_NM_numeral F_NM_numeral
  by_cases g1 : x2 = (0 : Int32)
  ·
    rw [if_pos g1, if_pos g1]
    have h2 := T_WR_told (x2 := x3) (x3 := (2 : Int32)) (t0_0 := t1_0) (t0_1 := t1_1) (t0_2 := t1_2) (t0_3 := t1_3) (t0_4 := t1_4) (t0_5 := t1_5) (t0_6 := t1_6) (t1_0 := t2_0) (t2_0 := t3_0) (by with_reducible assumption)
    with_reducible refine v_owe h2 ?_
    generalize F_WR_told x3 (2 : Int32) t1_0 t1_1 t1_2 t1_3 t1_4 t1_5 t1_6 t2_0 t3_0 = p241 at *
    unfold S_NM_numeral_c11 F_NM_numeral_c11
    by_cases g3 : (lg_cmp (p241.1 : Int64) 63 : Int32) ≤ (0 : Int32)
    ·
      rw [if_pos g3, if_pos g3]
      unfold S_NM_numeral_J26 F_NM_numeral_J26
      have g4 : ((0 : Int32) ≤ (0 : Int32)) := (by decide)
      rw [if_pos g4, if_pos g4]
      have h5 := T_WR_told (x2 := x3) (x3 := (0 : Int32)) (t0_0 := (p241.2.1 : Int32)) (t0_1 := (p241.2.2.1 : Int32)) (t0_2 := (p241.2.2.2.1 : Int32)) (t0_3 := (p241.2.2.2.2.1 : Int32)) (t0_4 := (p241.2.2.2.2.2.1 : Int32)) (t0_5 := (p241.2.2.2.2.2.2.1 : Int32)) (t0_6 := (p241.2.2.2.2.2.2.2 : Int32)) (t1_0 := t2_0) (t2_0 := t3_0) (by with_reducible assumption)
      with_reducible refine v_owe h5 ?_
      generalize F_WR_told x3 (0 : Int32) (p241.2.1 : Int32) (p241.2.2.1 : Int32) (p241.2.2.2.1 : Int32) (p241.2.2.2.2.1 : Int32) (p241.2.2.2.2.2.1 : Int32) (p241.2.2.2.2.2.2.1 : Int32) (p241.2.2.2.2.2.2.2 : Int32) t2_0 t3_0 = p314 at *
      unfold S_NM_numeral_c52 F_NM_numeral_c52
      have h6 := T_VR_whole (x2 := (64 : Int32)) (x3 := (p314.1 : Int64)) (t0_0 := t9_0) (t0_1 := t9_1) (t0_2 := t9_2) (t0_3 := t9_3) (t0_4 := t9_4) (t0_5 := t9_5) (t0_6 := t9_6) (t0_7 := t9_7) (t0_8 := t9_8) (t0_9 := t9_9) (t0_10 := t9_10) (t0_11 := t9_11) (t0_12 := t9_12) (t0_13 := t9_13) (t0_14 := t9_14) (t0_15 := t9_15) (t0_16 := t9_16) (t0_17 := t9_17) (t0_18 := t9_18) (t0_19 := t9_19) (t0_20 := t9_20) (t0_21 := t9_21) (t1_0 := t10_0) (t2_0 := t11_0) (t3_0 := t12_0) hv2
      generalize F_VR_whole (64 : Int32) (p314.1 : Int64) t9_0 t9_1 t9_2 t9_3 t9_4 t9_5 t9_6 t9_7 t9_8 t9_9 t9_10 t9_11 t9_12 t9_13 t9_14 t9_15 t9_16 t9_17 t9_18 t9_19 t9_20 t9_21 t10_0 t11_0 t12_0 = p350 at *
      unfold Q_VR_arg at h6
      replace h6 := h6 hZ
      unfold S_NM_numeral_c55 F_NM_numeral_c55
      refine ⟨trivial, ?_⟩
      exact nm_numeralA (by with_reducible assumption)
    ·
      rw [if_neg g3, if_neg g3]
      unfold S_NM_numeral_J26 F_NM_numeral_J26
      have g7 : ¬ ((2 : Int32) ≤ (0 : Int32)) := (by decide)
      rw [if_neg g7, if_neg g7]
      refine ⟨trivial, ?_⟩
      exact nm_numeralA (by with_reducible assumption)
  ·
    rw [if_neg g1, if_neg g1]
    refine v_cons (by first | omega | decide) ?_
    refine v_cons (by first | omega | decide) ?_
    have h8 := T_NM_isLong (x2 := x3) (t0_0 := t0_0) (t0_1 := t0_1) (t0_2 := t0_2) (t1_0 := t4_0) (t1_1 := t4_1) (t1_2 := t4_2) (t1_3 := t4_3) (t1_4 := t4_4) (t1_5 := t4_5) (t1_6 := t4_6) (t1_7 := t4_7) (t1_8 := t4_8) (t1_9 := t4_9) (t1_10 := t4_10) (t2_0 := t5_0) (t3_0 := t6_0) (t4_0 := t7_0) (t5_0 := t13_0) hx3 (nm_mn hD hx3)
    with_reducible refine v_owe h8 ?_
    generalize F_NM_isLong x3 t0_0 t0_1 t0_2 t4_0 t4_1 t4_2 t4_3 t4_4 t4_5 t4_6 t4_7 t4_8 t4_9 t4_10 t5_0 t6_0 t7_0 t13_0 = p110 at *
    unfold S_NM_numeral_c76 F_NM_numeral_c76
    by_cases g9 : (p110.1 : Int32) = (0 : Int32)
    ·
      rw [if_pos g9, if_pos g9]
      unfold S_NM_numeral_J92 F_NM_numeral_J92
      unfold S_NM_numeral_J97 F_NM_numeral_J97
      have g10 : ¬ ((2 : Int32) ≤ (0 : Int32)) := (by decide)
      rw [if_neg g10, if_neg g10]
      refine ⟨trivial, ?_⟩
      exact nm_numeralA (by with_reducible assumption)
    ·
      rw [if_neg g9, if_neg g9]
      by_cases g11 : (t8_0 x3.toNatClampNeg : Int32) < (0 : Int32)
      ·
        rw [if_pos g11, if_pos g11]
        unfold S_NM_numeral_J92 F_NM_numeral_J92
        unfold S_NM_numeral_J97 F_NM_numeral_J97
        have g12 : ¬ ((2 : Int32) ≤ (0 : Int32)) := (by decide)
        rw [if_neg g12, if_neg g12]
        refine ⟨trivial, ?_⟩
        exact nm_numeralA (by with_reducible assumption)
      ·
        rw [if_neg g11, if_neg g11]
        by_cases g13 : (t8_0 x3.toNatClampNeg : Int32) ≤ (40 : Int32)
        ·
          rw [if_pos g13, if_pos g13]
          unfold S_NM_numeral_J97 F_NM_numeral_J97
          have g14 : ((0 : Int32) ≤ (0 : Int32)) := (by decide)
          rw [if_pos g14, if_pos g14]
          have h15 := T_VR_decimal_JII (x2 := ((p110.2 : (Nat → Int64)) (0 : Int32).toNatClampNeg : Int64)) (x3 := (t8_0 x3.toNatClampNeg : Int32)) (t0_0 := t9_0) (t0_1 := t9_1) (t0_2 := t9_2) (t0_3 := t9_3) (t0_4 := t9_4) (t0_5 := t9_5) (t0_6 := t9_6) (t0_7 := t9_7) (t0_8 := t9_8) (t0_9 := t9_9) (t0_10 := t9_10) (t0_11 := t9_11) (t0_12 := t9_12) (t0_13 := t9_13) (t0_14 := t9_14) (t0_15 := t9_15) (t0_16 := t9_16) (t0_17 := t9_17) (t0_18 := t9_18) (t0_19 := t9_19) (t0_20 := t9_20) (t0_21 := t9_21) (t1_0 := t10_0) (t2_0 := t11_0) (t3_0 := t12_0) hv2
          generalize F_VR_decimal_JII ((p110.2 : (Nat → Int64)) (0 : Int32).toNatClampNeg : Int64) (t8_0 x3.toNatClampNeg : Int32) t9_0 t9_1 t9_2 t9_3 t9_4 t9_5 t9_6 t9_7 t9_8 t9_9 t9_10 t9_11 t9_12 t9_13 t9_14 t9_15 t9_16 t9_17 t9_18 t9_19 t9_20 t9_21 t10_0 t11_0 t12_0 = p169 at *
          unfold Q_VR_arg at h15
          replace h15 := h15 hZ
          unfold S_NM_numeral_c122 F_NM_numeral_c122
          refine ⟨trivial, ?_⟩
          exact nm_numeralA (by with_reducible assumption)
        ·
          rw [if_neg g13, if_neg g13]
          unfold S_NM_numeral_J92 F_NM_numeral_J92
          unfold S_NM_numeral_J97 F_NM_numeral_J97
          have g16 : ¬ ((2 : Int32) ≤ (0 : Int32)) := (by decide)
          rw [if_neg g16, if_neg g16]
          refine ⟨trivial, ?_⟩
          exact nm_numeralA (by with_reducible assumption)
def Q_NM_argument (p : Int32 × Int32 × Int32 × Int32 × Int32 × Int32 × Int32 × Int32 × Int32 × Int32 × Int32 × Int32 × Int32 × (Nat → Int32) × (Nat → Int32) × (Nat → Int32) × (Nat → Int64) × (Nat → Int32) × (Nat → Int64)) : Prop := vrZ p.2.2.2.2.2.2.2.2.2.2.2.2.2.2.2.1
theorem nm_argumentA {c0 : Int32} {c1 : Int32} {c2 : Int32} {c3 : Int32} {c4 : Int32} {c5 : Int32} {c6 : Int32} {c7 : Int32} {c8 : Int32} {c9 : Int32} {c10 : Int32} {c11 : Int32} {c12 : Int32} {c13 : (Nat → Int32)} {c14 : (Nat → Int32)} {c15 : (Nat → Int32)} {c16 : (Nat → Int64)} {c17 : (Nat → Int32)} {c18 : (Nat → Int64)} (h0 : vrZ c15) : Q_NM_argument (c0, c1, c2, c3, c4, c5, c6, c7, c8, c9, c10, c11, c12, c13, c14, c15, c16, c17, c18) := h0
theorem T_NM_ar84 {x2 : Int32} {x3 : Int32} {t0_0 : Int32} {t0_1 : Int32} {t0_2 : Int32} {t1_0 : Int32} {t1_1 : Int32} {t1_2 : Int32} {t1_3 : Int32} {t1_4 : Int32} {t1_5 : Int32} {t1_6 : Int32} {t2_0 : (Nat → Int32)} {t3_0 : (Nat → Int32)} {t4_0 : Int32} {t4_1 : Int32} {t4_2 : Int32} {t4_3 : Int64} {t4_4 : Int32} {t4_5 : Int32} {t4_6 : Int32} {t4_7 : Int32} {t4_8 : Int32} {t4_9 : Int32} {t4_10 : Int32} {t5_0 : (Nat → Int32)} {t6_0 : (Nat → Int32)} {t7_0 : (Nat → Int32)} {t8_0 : (Nat → Int32)} {t9_0 : Int32} {t9_1 : Int32} {t9_2 : Int32} {t9_3 : Int32} {t9_4 : Int32} {t9_5 : Int32} {t9_6 : Int32} {t9_7 : Int32} {t9_8 : Int32} {t9_9 : Int32} {t9_10 : Int32} {t9_11 : Int32} {t9_12 : Int32} {t9_13 : Int32} {t9_14 : Int32} {t9_15 : Int32} {t9_16 : Int32} {t9_17 : Int32} {t9_18 : Int32} {t9_19 : Int32} {t9_20 : Int32} {t9_21 : Int32} {t10_0 : (Nat → Int32)} {t11_0 : (Nat → Int32)} {t12_0 : (Nat → Int32)} {t13_0 : (Nat → Int64)} {t14_0 : (Nat → Int32)} {t15_0 : (Nat → Int32)} {t16_0 : (Nat → Int64)} {lx101 : Int32} {lx127 : Int32} (hW : wR t2_0 t3_0) (hD : gR t5_0 t6_0 t7_0 t8_0) (hZ : vrZ t12_0) (h01 : 0 ≤ t0_1.toInt ∧ t0_1.toInt ≤ 4100) (hv2 : 0 ≤ t9_2.toInt ∧ t9_2.toInt ≤ 9) (hx : lx127.toInt ≤ 0 → (x2.toInt ≤ 1 → 0 ≤ x3.toInt ∧ x3.toInt ≤ 9) ∧ (x2 = 7 → t0_1.toInt ≤ 64))  : (S_NM_argument_J84 x2 x3 t0_0 t0_1 t0_2 t1_0 t1_1 t1_2 t1_3 t1_4 t1_5 t1_6 t2_0 t3_0 t4_0 t4_1 t4_2 t4_3 t4_4 t4_5 t4_6 t4_7 t4_8 t4_9 t4_10 t5_0 t6_0 t7_0 t8_0 t9_0 t9_1 t9_2 t9_3 t9_4 t9_5 t9_6 t9_7 t9_8 t9_9 t9_10 t9_11 t9_12 t9_13 t9_14 t9_15 t9_16 t9_17 t9_18 t9_19 t9_20 t9_21 t10_0 t11_0 t12_0 t13_0 t14_0 t15_0 t16_0 lx101 lx127) ∧ Q_NM_argument (F_NM_argument_J84 x2 x3 t0_0 t0_1 t0_2 t1_0 t1_1 t1_2 t1_3 t1_4 t1_5 t1_6 t2_0 t3_0 t4_0 t4_1 t4_2 t4_3 t4_4 t4_5 t4_6 t4_7 t4_8 t4_9 t4_10 t5_0 t6_0 t7_0 t8_0 t9_0 t9_1 t9_2 t9_3 t9_4 t9_5 t9_6 t9_7 t9_8 t9_9 t9_10 t9_11 t9_12 t9_13 t9_14 t9_15 t9_16 t9_17 t9_18 t9_19 t9_20 t9_21 t10_0 t11_0 t12_0 t13_0 t14_0 t15_0 t16_0 lx101 lx127) := by
  have e0 : (0 : Int32).toInt = 0 := rfl
  have e1 : (1 : Int32).toInt = 1 := rfl
  have eL0 : (0 : Int64).toInt = 0 := rfl
  have em : (-1 : Int32).toInt = -1 := rfl
  have n1600 : (1600 : Int32).toInt = 1600 := rfl
  have n2100 : (2100 : Int32).toInt = 2100 := rfl
  have n4096 : (4096 : Int32).toInt = 4096 := rfl
  have n12200 : (12200 : Int32).toInt = 12200 := rfl
  have n4100 : (4100 : Int32).toInt = 4100 := rfl
  have n256 : (256 : Int32).toInt = 256 := rfl
  unfold S_NM_argument_J84 F_NM_argument_J84
  by_cases g1 : lx127 ≤ (0 : Int32)
  ·
    rw [if_pos g1, if_pos g1]
    have hxx := hx (q_leI g1)
    by_cases g2 : x2 = (0 : Int32)
    ·
      rw [if_pos g2, if_pos g2]
      have hx3 := hxx.1 (by rw [q_eqI g2]; decide)
      have h3 := T_NM_numeral (x2 := x2) (x3 := x3) (t0_0 := lx127) (t0_1 := t0_1) (t0_2 := t0_2) (t1_0 := t1_0) (t1_1 := t1_1) (t1_2 := t1_2) (t1_3 := t1_3) (t1_4 := t1_4) (t1_5 := t1_5) (t1_6 := t1_6) (t2_0 := t2_0) (t3_0 := t3_0) (t4_0 := t4_0) (t4_1 := t4_1) (t4_2 := t4_2) (t4_3 := t4_3) (t4_4 := t4_4) (t4_5 := t4_5) (t4_6 := t4_6) (t4_7 := t4_7) (t4_8 := t4_8) (t4_9 := t4_9) (t4_10 := t4_10) (t5_0 := t5_0) (t6_0 := t6_0) (t7_0 := t7_0) (t8_0 := t8_0) (t9_0 := t9_0) (t9_1 := t9_1) (t9_2 := t9_2) (t9_3 := t9_3) (t9_4 := t9_4) (t9_5 := t9_5) (t9_6 := t9_6) (t9_7 := t9_7) (t9_8 := t9_8) (t9_9 := t9_9) (t9_10 := t9_10) (t9_11 := t9_11) (t9_12 := t9_12) (t9_13 := t9_13) (t9_14 := t9_14) (t9_15 := t9_15) (t9_16 := t9_16) (t9_17 := t9_17) (t9_18 := t9_18) (t9_19 := t9_19) (t9_20 := t9_20) (t9_21 := t9_21) (t10_0 := t11_0) (t11_0 := t12_0) (t12_0 := t13_0) (t13_0 := t16_0) hW hD hZ hx3 hv2
      with_reducible refine v_owe h3.1 ?_
      replace h3 := h3.2
      generalize F_NM_numeral x2 x3 lx127 t0_1 t0_2 t1_0 t1_1 t1_2 t1_3 t1_4 t1_5 t1_6 t2_0 t3_0 t4_0 t4_1 t4_2 t4_3 t4_4 t4_5 t4_6 t4_7 t4_8 t4_9 t4_10 t5_0 t6_0 t7_0 t8_0 t9_0 t9_1 t9_2 t9_3 t9_4 t9_5 t9_6 t9_7 t9_8 t9_9 t9_10 t9_11 t9_12 t9_13 t9_14 t9_15 t9_16 t9_17 t9_18 t9_19 t9_20 t9_21 t11_0 t12_0 t13_0 t16_0 = p207 at *
      unfold Q_NM_numeral at h3
      unfold S_NM_argument_c147 F_NM_argument_c147
      refine ⟨trivial, ?_⟩
      exact nm_argumentA (by with_reducible assumption)
    ·
      rw [if_neg g2, if_neg g2]
      by_cases g4 : x2 = (1 : Int32)
      ·
        rw [if_pos g4, if_pos g4]
        have hx3 := hxx.1 (by rw [q_eqI g4]; decide)
        have h5 := T_NM_numeral (x2 := x2) (x3 := x3) (t0_0 := lx127) (t0_1 := t0_1) (t0_2 := t0_2) (t1_0 := t1_0) (t1_1 := t1_1) (t1_2 := t1_2) (t1_3 := t1_3) (t1_4 := t1_4) (t1_5 := t1_5) (t1_6 := t1_6) (t2_0 := t2_0) (t3_0 := t3_0) (t4_0 := t4_0) (t4_1 := t4_1) (t4_2 := t4_2) (t4_3 := t4_3) (t4_4 := t4_4) (t4_5 := t4_5) (t4_6 := t4_6) (t4_7 := t4_7) (t4_8 := t4_8) (t4_9 := t4_9) (t4_10 := t4_10) (t5_0 := t5_0) (t6_0 := t6_0) (t7_0 := t7_0) (t8_0 := t8_0) (t9_0 := t9_0) (t9_1 := t9_1) (t9_2 := t9_2) (t9_3 := t9_3) (t9_4 := t9_4) (t9_5 := t9_5) (t9_6 := t9_6) (t9_7 := t9_7) (t9_8 := t9_8) (t9_9 := t9_9) (t9_10 := t9_10) (t9_11 := t9_11) (t9_12 := t9_12) (t9_13 := t9_13) (t9_14 := t9_14) (t9_15 := t9_15) (t9_16 := t9_16) (t9_17 := t9_17) (t9_18 := t9_18) (t9_19 := t9_19) (t9_20 := t9_20) (t9_21 := t9_21) (t10_0 := t11_0) (t11_0 := t12_0) (t12_0 := t13_0) (t13_0 := t16_0) hW hD hZ hx3 hv2
        with_reducible refine v_owe h5.1 ?_
        replace h5 := h5.2
        generalize F_NM_numeral x2 x3 lx127 t0_1 t0_2 t1_0 t1_1 t1_2 t1_3 t1_4 t1_5 t1_6 t2_0 t3_0 t4_0 t4_1 t4_2 t4_3 t4_4 t4_5 t4_6 t4_7 t4_8 t4_9 t4_10 t5_0 t6_0 t7_0 t8_0 t9_0 t9_1 t9_2 t9_3 t9_4 t9_5 t9_6 t9_7 t9_8 t9_9 t9_10 t9_11 t9_12 t9_13 t9_14 t9_15 t9_16 t9_17 t9_18 t9_19 t9_20 t9_21 t11_0 t12_0 t13_0 t16_0 = p279 at *
        unfold Q_NM_numeral at h5
        unfold S_NM_argument_c147_4 F_NM_argument_c147_4
        refine ⟨trivial, ?_⟩
        exact nm_argumentA (by with_reducible assumption)
      ·
        rw [if_neg g4, if_neg g4]
        by_cases g6 : x2 = (2 : Int32)
        ·
          rw [if_pos g6, if_pos g6]
          refine ⟨trivial, ?_⟩
          exact nm_argumentA (by with_reducible assumption)
        ·
          rw [if_neg g6, if_neg g6]
          by_cases g7 : x2 = (3 : Int32)
          ·
            rw [if_pos g7, if_pos g7]
            refine ⟨trivial, ?_⟩
            exact nm_argumentA (by with_reducible assumption)
          ·
            rw [if_neg g7, if_neg g7]
            by_cases g8 : x2 = (4 : Int32)
            ·
              rw [if_pos g8, if_pos g8]
              have h9 := T_VR_nothing (t0_0 := t9_0) (t0_1 := t9_1) (t0_2 := t9_2) (t0_3 := t9_3) (t0_4 := t9_4) (t0_5 := t9_5) (t0_6 := t9_6) (t0_7 := t9_7) (t0_8 := t9_8) (t0_9 := t9_9) (t0_10 := t9_10) (t0_11 := t9_11) (t0_12 := t9_12) (t0_13 := t9_13) (t0_14 := t9_14) (t0_15 := t9_15) (t0_16 := t9_16) (t0_17 := t9_17) (t0_18 := t9_18) (t0_19 := t9_19) (t0_20 := t9_20) (t0_21 := t9_21) (t1_0 := t11_0) (t2_0 := t12_0) (t3_0 := t13_0) hv2
              generalize F_VR_nothing t9_0 t9_1 t9_2 t9_3 t9_4 t9_5 t9_6 t9_7 t9_8 t9_9 t9_10 t9_11 t9_12 t9_13 t9_14 t9_15 t9_16 t9_17 t9_18 t9_19 t9_20 t9_21 t11_0 t12_0 t13_0 = p336 at *
              unfold Q_VR_arg at h9
              replace h9 := h9 hZ
              unfold S_NM_argument_c155 F_NM_argument_c155
              refine ⟨trivial, ?_⟩
              exact nm_argumentA (by with_reducible assumption)
            ·
              rw [if_neg g8, if_neg g8]
              by_cases g10 : x2 = (5 : Int32)
              ·
                rw [if_pos g10, if_pos g10]
                by_cases g11 : x3 = (0 : Int32)
                ·
                  rw [if_pos g11, if_pos g11]
                  have h12 := T_VR_truth (x2 := (0 : Int32)) (t0_0 := t9_0) (t0_1 := t9_1) (t0_2 := t9_2) (t0_3 := t9_3) (t0_4 := t9_4) (t0_5 := t9_5) (t0_6 := t9_6) (t0_7 := t9_7) (t0_8 := t9_8) (t0_9 := t9_9) (t0_10 := t9_10) (t0_11 := t9_11) (t0_12 := t9_12) (t0_13 := t9_13) (t0_14 := t9_14) (t0_15 := t9_15) (t0_16 := t9_16) (t0_17 := t9_17) (t0_18 := t9_18) (t0_19 := t9_19) (t0_20 := t9_20) (t0_21 := t9_21) (t1_0 := t11_0) (t2_0 := t12_0) (t3_0 := t13_0) hv2
                  generalize F_VR_truth (0 : Int32) t9_0 t9_1 t9_2 t9_3 t9_4 t9_5 t9_6 t9_7 t9_8 t9_9 t9_10 t9_11 t9_12 t9_13 t9_14 t9_15 t9_16 t9_17 t9_18 t9_19 t9_20 t9_21 t11_0 t12_0 t13_0 = p376 at *
                  unfold Q_VR_arg at h12
                  replace h12 := h12 hZ
                  unfold S_NM_argument_c172 F_NM_argument_c172
                  refine ⟨trivial, ?_⟩
                  exact nm_argumentA (by with_reducible assumption)
                ·
                  rw [if_neg g11, if_neg g11]
                  have h13 := T_VR_truth (x2 := (1 : Int32)) (t0_0 := t9_0) (t0_1 := t9_1) (t0_2 := t9_2) (t0_3 := t9_3) (t0_4 := t9_4) (t0_5 := t9_5) (t0_6 := t9_6) (t0_7 := t9_7) (t0_8 := t9_8) (t0_9 := t9_9) (t0_10 := t9_10) (t0_11 := t9_11) (t0_12 := t9_12) (t0_13 := t9_13) (t0_14 := t9_14) (t0_15 := t9_15) (t0_16 := t9_16) (t0_17 := t9_17) (t0_18 := t9_18) (t0_19 := t9_19) (t0_20 := t9_20) (t0_21 := t9_21) (t1_0 := t11_0) (t2_0 := t12_0) (t3_0 := t13_0) hv2
                  generalize F_VR_truth (1 : Int32) t9_0 t9_1 t9_2 t9_3 t9_4 t9_5 t9_6 t9_7 t9_8 t9_9 t9_10 t9_11 t9_12 t9_13 t9_14 t9_15 t9_16 t9_17 t9_18 t9_19 t9_20 t9_21 t11_0 t12_0 t13_0 = p412 at *
                  unfold Q_VR_arg at h13
                  replace h13 := h13 hZ
                  unfold S_NM_argument_c172_7 F_NM_argument_c172_7
                  refine ⟨trivial, ?_⟩
                  exact nm_argumentA (by with_reducible assumption)
              ·
                rw [if_neg g10, if_neg g10]
                by_cases g14 : x2 = (6 : Int32)
                ·
                  rw [if_pos g14, if_pos g14]
                  have h15 := T_VR_symbol (x2 := x3) (t0_0 := t9_0) (t0_1 := t9_1) (t0_2 := t9_2) (t0_3 := t9_3) (t0_4 := t9_4) (t0_5 := t9_5) (t0_6 := t9_6) (t0_7 := t9_7) (t0_8 := t9_8) (t0_9 := t9_9) (t0_10 := t9_10) (t0_11 := t9_11) (t0_12 := t9_12) (t0_13 := t9_13) (t0_14 := t9_14) (t0_15 := t9_15) (t0_16 := t9_16) (t0_17 := t9_17) (t0_18 := t9_18) (t0_19 := t9_19) (t0_20 := t9_20) (t0_21 := t9_21) (t1_0 := t11_0) (t2_0 := t12_0) (t3_0 := t13_0) hv2
                  generalize F_VR_symbol x3 t9_0 t9_1 t9_2 t9_3 t9_4 t9_5 t9_6 t9_7 t9_8 t9_9 t9_10 t9_11 t9_12 t9_13 t9_14 t9_15 t9_16 t9_17 t9_18 t9_19 t9_20 t9_21 t11_0 t12_0 t13_0 = p449 at *
                  unfold Q_VR_arg at h15
                  replace h15 := h15 hZ
                  unfold S_NM_argument_c181 F_NM_argument_c181
                  refine ⟨trivial, ?_⟩
                  exact nm_argumentA (by with_reducible assumption)
                ·
                  rw [if_neg g14, if_neg g14]
                  by_cases g16 : x2 = (7 : Int32)
                  ·
                    rw [if_pos g16, if_pos g16]
                    have h64 := hxx.2 g16
                    have h17 := T_NM_load (N1 := (4100 : Int32)) (x2 := t0_1) (N3 := (256 : Int32)) (t0_0 := t15_0) (t1_0 := t10_0) (by first | omega | decide) (by first | omega | decide) (by first | omega | decide)
                    with_reducible refine v_owe h17.1 ?_
                    replace h17 := h17.2
                    generalize F_NM_load (4100 : Int32) t0_1 (256 : Int32) t15_0 t10_0 = p477 at *
                    have qL := h17
                    have eL := congrArg Int32.toInt h17.1
                    unfold S_NM_argument_c204 F_NM_argument_c204
                    have h18 := T_VR_text (t0_0 := t9_0) (t0_1 := (p477.1 : Int32)) (t0_2 := t9_2) (t0_3 := t9_3) (t0_4 := t9_4) (t0_5 := t9_5) (t0_6 := t9_6) (t0_7 := t9_7) (t0_8 := t9_8) (t0_9 := t9_9) (t0_10 := t9_10) (t0_11 := t9_11) (t0_12 := t9_12) (t0_13 := t9_13) (t0_14 := t9_14) (t0_15 := t9_15) (t0_16 := t9_16) (t0_17 := t9_17) (t0_18 := t9_18) (t0_19 := t9_19) (t0_20 := t9_20) (t0_21 := t9_21) (t1_0 := (p477.2 : (Nat → Int32))) (t2_0 := t11_0) (t3_0 := t12_0) (t4_0 := t13_0) (t5_0 := t14_0) hv2 (by omega)
                    with_reducible refine v_owe h18.1 ?_
                    replace h18 := h18.2
                    generalize F_VR_text t9_0 (p477.1 : Int32) t9_2 t9_3 t9_4 t9_5 t9_6 t9_7 t9_8 t9_9 t9_10 t9_11 t9_12 t9_13 t9_14 t9_15 t9_16 t9_17 t9_18 t9_19 t9_20 t9_21 (p477.2 : (Nat → Int32)) t11_0 t12_0 t13_0 t14_0 = p517 at *
                    unfold Q_VR_txt at h18
                    replace h18 := h18 hZ
                    unfold S_NM_argument_c214 F_NM_argument_c214
                    by_cases g19 : (p517.1 : Int32) ≤ (0 : Int32)
                    ·
                      rw [if_pos g19, if_pos g19]
                      refine ⟨trivial, ?_⟩
                      exact nm_argumentA (by with_reducible assumption)
                    ·
                      rw [if_neg g19, if_neg g19]
                      refine ⟨trivial, ?_⟩
                      exact nm_argumentA (by with_reducible assumption)
                  ·
                    rw [if_neg g16, if_neg g16]
                    refine ⟨trivial, ?_⟩
                    exact nm_argumentA (by with_reducible assumption)
  ·
    rw [if_neg g1, if_neg g1]
    refine ⟨trivial, ?_⟩
    exact nm_argumentA (by with_reducible assumption)
theorem T_NM_ar54 {x2 : Int32} {x3 : Int32} {t0_0 : Int32} {t0_1 : Int32} {t0_2 : Int32} {t1_0 : Int32} {t1_1 : Int32} {t1_2 : Int32} {t1_3 : Int32} {t1_4 : Int32} {t1_5 : Int32} {t1_6 : Int32} {t2_0 : (Nat → Int32)} {t3_0 : (Nat → Int32)} {t4_0 : Int32} {t4_1 : Int32} {t4_2 : Int32} {t4_3 : Int64} {t4_4 : Int32} {t4_5 : Int32} {t4_6 : Int32} {t4_7 : Int32} {t4_8 : Int32} {t4_9 : Int32} {t4_10 : Int32} {t5_0 : (Nat → Int32)} {t6_0 : (Nat → Int32)} {t7_0 : (Nat → Int32)} {t8_0 : (Nat → Int32)} {t9_0 : Int32} {t9_1 : Int32} {t9_2 : Int32} {t9_3 : Int32} {t9_4 : Int32} {t9_5 : Int32} {t9_6 : Int32} {t9_7 : Int32} {t9_8 : Int32} {t9_9 : Int32} {t9_10 : Int32} {t9_11 : Int32} {t9_12 : Int32} {t9_13 : Int32} {t9_14 : Int32} {t9_15 : Int32} {t9_16 : Int32} {t9_17 : Int32} {t9_18 : Int32} {t9_19 : Int32} {t9_20 : Int32} {t9_21 : Int32} {t10_0 : (Nat → Int32)} {t11_0 : (Nat → Int32)} {t12_0 : (Nat → Int32)} {t13_0 : (Nat → Int64)} {t14_0 : (Nat → Int32)} {t15_0 : (Nat → Int32)} {t16_0 : (Nat → Int64)} {lx101 : Int32} (hW : wR t2_0 t3_0) (hD : gR t5_0 t6_0 t7_0 t8_0) (hZ : vrZ t12_0) (h01 : 0 ≤ t0_1.toInt ∧ t0_1.toInt ≤ 4100) (hv2 : 0 ≤ t9_2.toInt ∧ t9_2.toInt ≤ 9) (hx : lx101 = 0 → x2.toInt ≤ 1 → 0 ≤ x3.toInt ∧ x3.toInt ≤ 9)  : (S_NM_argument_J54 x2 x3 t0_0 t0_1 t0_2 t1_0 t1_1 t1_2 t1_3 t1_4 t1_5 t1_6 t2_0 t3_0 t4_0 t4_1 t4_2 t4_3 t4_4 t4_5 t4_6 t4_7 t4_8 t4_9 t4_10 t5_0 t6_0 t7_0 t8_0 t9_0 t9_1 t9_2 t9_3 t9_4 t9_5 t9_6 t9_7 t9_8 t9_9 t9_10 t9_11 t9_12 t9_13 t9_14 t9_15 t9_16 t9_17 t9_18 t9_19 t9_20 t9_21 t10_0 t11_0 t12_0 t13_0 t14_0 t15_0 t16_0 lx101) ∧ Q_NM_argument (F_NM_argument_J54 x2 x3 t0_0 t0_1 t0_2 t1_0 t1_1 t1_2 t1_3 t1_4 t1_5 t1_6 t2_0 t3_0 t4_0 t4_1 t4_2 t4_3 t4_4 t4_5 t4_6 t4_7 t4_8 t4_9 t4_10 t5_0 t6_0 t7_0 t8_0 t9_0 t9_1 t9_2 t9_3 t9_4 t9_5 t9_6 t9_7 t9_8 t9_9 t9_10 t9_11 t9_12 t9_13 t9_14 t9_15 t9_16 t9_17 t9_18 t9_19 t9_20 t9_21 t10_0 t11_0 t12_0 t13_0 t14_0 t15_0 t16_0 lx101) := by
  have e0 : (0 : Int32).toInt = 0 := rfl
  have e1 : (1 : Int32).toInt = 1 := rfl
  have eL0 : (0 : Int64).toInt = 0 := rfl
  have em : (-1 : Int32).toInt = -1 := rfl
  unfold S_NM_argument_J54 F_NM_argument_J54
  by_cases g1 : lx101 = (0 : Int32)
  ·
    rw [if_pos g1, if_pos g1]
    have hy := hx g1
    by_cases g2 : x2 = (7 : Int32)
    ·
      rw [if_pos g2, if_pos g2]
      by_cases g3 : t0_1 ≤ (64 : Int32)
      ·
        rw [if_pos g3, if_pos g3]
        have h64 := q_leI g3
        unfold S_NM_argument_J83 F_NM_argument_J83
        exact T_NM_ar84 hW hD hZ h01 hv2 (fun _ => ⟨hy, fun _ => h64⟩)
      ·
        rw [if_neg g3, if_neg g3]
        exact T_NM_ar84 hW hD hZ h01 hv2 (fun z => absurd z (by decide))
    ·
      rw [if_neg g2, if_neg g2]
      unfold S_NM_argument_J83 F_NM_argument_J83
      exact T_NM_ar84 hW hD hZ h01 hv2 (fun _ => ⟨hy, fun z => absurd z g2⟩)
  ·
    rw [if_neg g1, if_neg g1]
    exact T_NM_ar84 hW hD hZ h01 hv2 (fun z => absurd z (by decide))
theorem T_NM_ar32 {x2 : Int32} {x3 : Int32} {t0_0 : Int32} {t0_1 : Int32} {t0_2 : Int32} {t1_0 : Int32} {t1_1 : Int32} {t1_2 : Int32} {t1_3 : Int32} {t1_4 : Int32} {t1_5 : Int32} {t1_6 : Int32} {t2_0 : (Nat → Int32)} {t3_0 : (Nat → Int32)} {t4_0 : Int32} {t4_1 : Int32} {t4_2 : Int32} {t4_3 : Int64} {t4_4 : Int32} {t4_5 : Int32} {t4_6 : Int32} {t4_7 : Int32} {t4_8 : Int32} {t4_9 : Int32} {t4_10 : Int32} {t5_0 : (Nat → Int32)} {t6_0 : (Nat → Int32)} {t7_0 : (Nat → Int32)} {t8_0 : (Nat → Int32)} {t9_0 : Int32} {t9_1 : Int32} {t9_2 : Int32} {t9_3 : Int32} {t9_4 : Int32} {t9_5 : Int32} {t9_6 : Int32} {t9_7 : Int32} {t9_8 : Int32} {t9_9 : Int32} {t9_10 : Int32} {t9_11 : Int32} {t9_12 : Int32} {t9_13 : Int32} {t9_14 : Int32} {t9_15 : Int32} {t9_16 : Int32} {t9_17 : Int32} {t9_18 : Int32} {t9_19 : Int32} {t9_20 : Int32} {t9_21 : Int32} {t10_0 : (Nat → Int32)} {t11_0 : (Nat → Int32)} {t12_0 : (Nat → Int32)} {t13_0 : (Nat → Int64)} {t14_0 : (Nat → Int32)} {t15_0 : (Nat → Int32)} {t16_0 : (Nat → Int64)} (hW : wR t2_0 t3_0) (hD : gR t5_0 t6_0 t7_0 t8_0) (hZ : vrZ t12_0) (h01 : 0 ≤ t0_1.toInt ∧ t0_1.toInt ≤ 4100) (hv2 : 0 ≤ t9_2.toInt ∧ t9_2.toInt ≤ 9) (hy : x2.toInt ≤ 1 → 0 ≤ x3.toInt ∧ x3.toInt ≤ 9)  : (S_NM_argument_J32 x2 x3 t0_0 t0_1 t0_2 t1_0 t1_1 t1_2 t1_3 t1_4 t1_5 t1_6 t2_0 t3_0 t4_0 t4_1 t4_2 t4_3 t4_4 t4_5 t4_6 t4_7 t4_8 t4_9 t4_10 t5_0 t6_0 t7_0 t8_0 t9_0 t9_1 t9_2 t9_3 t9_4 t9_5 t9_6 t9_7 t9_8 t9_9 t9_10 t9_11 t9_12 t9_13 t9_14 t9_15 t9_16 t9_17 t9_18 t9_19 t9_20 t9_21 t10_0 t11_0 t12_0 t13_0 t14_0 t15_0 t16_0) ∧ Q_NM_argument (F_NM_argument_J32 x2 x3 t0_0 t0_1 t0_2 t1_0 t1_1 t1_2 t1_3 t1_4 t1_5 t1_6 t2_0 t3_0 t4_0 t4_1 t4_2 t4_3 t4_4 t4_5 t4_6 t4_7 t4_8 t4_9 t4_10 t5_0 t6_0 t7_0 t8_0 t9_0 t9_1 t9_2 t9_3 t9_4 t9_5 t9_6 t9_7 t9_8 t9_9 t9_10 t9_11 t9_12 t9_13 t9_14 t9_15 t9_16 t9_17 t9_18 t9_19 t9_20 t9_21 t10_0 t11_0 t12_0 t13_0 t14_0 t15_0 t16_0) := by
  have e0 : (0 : Int32).toInt = 0 := rfl
  have e1 : (1 : Int32).toInt = 1 := rfl
  have eL0 : (0 : Int64).toInt = 0 := rfl
  have em : (-1 : Int32).toInt = -1 := rfl
  unfold S_NM_argument_J32 F_NM_argument_J32
  by_cases g1 : x2 = (6 : Int32)
  ·
    rw [if_pos g1, if_pos g1]
    by_cases g2 : x3 < (0 : Int32)
    ·
      rw [if_pos g2, if_pos g2]
      unfold S_NM_argument_J49 F_NM_argument_J49
      exact T_NM_ar54 hW hD hZ h01 hv2 (fun z => absurd z (by decide))
    ·
      rw [if_neg g2, if_neg g2]
      by_cases g3 : x3 ≤ (255 : Int32)
      ·
        rw [if_pos g3, if_pos g3]
        unfold S_NM_argument_J53 F_NM_argument_J53
        exact T_NM_ar54 hW hD hZ h01 hv2 (fun _ => hy)
      ·
        rw [if_neg g3, if_neg g3]
        unfold S_NM_argument_J49 F_NM_argument_J49
        exact T_NM_ar54 hW hD hZ h01 hv2 (fun z => absurd z (by decide))
  ·
    rw [if_neg g1, if_neg g1]
    unfold S_NM_argument_J53 F_NM_argument_J53
    exact T_NM_ar54 hW hD hZ h01 hv2 (fun _ => hy)
theorem T_NM_argument {x2 : Int32} {x3 : Int32} {t0_0 : Int32} {t0_1 : Int32} {t0_2 : Int32} {t1_0 : Int32} {t1_1 : Int32} {t1_2 : Int32} {t1_3 : Int32} {t1_4 : Int32} {t1_5 : Int32} {t1_6 : Int32} {t2_0 : (Nat → Int32)} {t3_0 : (Nat → Int32)} {t4_0 : Int32} {t4_1 : Int32} {t4_2 : Int32} {t4_3 : Int64} {t4_4 : Int32} {t4_5 : Int32} {t4_6 : Int32} {t4_7 : Int32} {t4_8 : Int32} {t4_9 : Int32} {t4_10 : Int32} {t5_0 : (Nat → Int32)} {t6_0 : (Nat → Int32)} {t7_0 : (Nat → Int32)} {t8_0 : (Nat → Int32)} {t9_0 : Int32} {t9_1 : Int32} {t9_2 : Int32} {t9_3 : Int32} {t9_4 : Int32} {t9_5 : Int32} {t9_6 : Int32} {t9_7 : Int32} {t9_8 : Int32} {t9_9 : Int32} {t9_10 : Int32} {t9_11 : Int32} {t9_12 : Int32} {t9_13 : Int32} {t9_14 : Int32} {t9_15 : Int32} {t9_16 : Int32} {t9_17 : Int32} {t9_18 : Int32} {t9_19 : Int32} {t9_20 : Int32} {t9_21 : Int32} {t10_0 : (Nat → Int32)} {t11_0 : (Nat → Int32)} {t12_0 : (Nat → Int32)} {t13_0 : (Nat → Int64)} {t14_0 : (Nat → Int32)} {t15_0 : (Nat → Int32)} {t16_0 : (Nat → Int64)} (hW : wR t2_0 t3_0) (hD : gR t5_0 t6_0 t7_0 t8_0) (hZ : vrZ t12_0) (h01 : 0 ≤ t0_1.toInt ∧ t0_1.toInt ≤ 4100) (hv2 : 0 ≤ t9_2.toInt ∧ t9_2.toInt ≤ 9)  : (S_NM_argument x2 x3 t0_0 t0_1 t0_2 t1_0 t1_1 t1_2 t1_3 t1_4 t1_5 t1_6 t2_0 t3_0 t4_0 t4_1 t4_2 t4_3 t4_4 t4_5 t4_6 t4_7 t4_8 t4_9 t4_10 t5_0 t6_0 t7_0 t8_0 t9_0 t9_1 t9_2 t9_3 t9_4 t9_5 t9_6 t9_7 t9_8 t9_9 t9_10 t9_11 t9_12 t9_13 t9_14 t9_15 t9_16 t9_17 t9_18 t9_19 t9_20 t9_21 t10_0 t11_0 t12_0 t13_0 t14_0 t15_0 t16_0) ∧ Q_NM_argument (F_NM_argument x2 x3 t0_0 t0_1 t0_2 t1_0 t1_1 t1_2 t1_3 t1_4 t1_5 t1_6 t2_0 t3_0 t4_0 t4_1 t4_2 t4_3 t4_4 t4_5 t4_6 t4_7 t4_8 t4_9 t4_10 t5_0 t6_0 t7_0 t8_0 t9_0 t9_1 t9_2 t9_3 t9_4 t9_5 t9_6 t9_7 t9_8 t9_9 t9_10 t9_11 t9_12 t9_13 t9_14 t9_15 t9_16 t9_17 t9_18 t9_19 t9_20 t9_21 t10_0 t11_0 t12_0 t13_0 t14_0 t15_0 t16_0) := by
  have e0 : (0 : Int32).toInt = 0 := rfl
  have e1 : (1 : Int32).toInt = 1 := rfl
  have eL0 : (0 : Int64).toInt = 0 := rfl
  have em : (-1 : Int32).toInt = -1 := rfl
  unfold S_NM_argument F_NM_argument
  by_cases g1 : x2 < (0 : Int32)
  ·
    rw [if_pos g1, if_pos g1]
    unfold S_NM_argument_J49 F_NM_argument_J49
    exact T_NM_ar54 hW hD hZ h01 hv2 (fun z => absurd z (by decide))
  ·
    rw [if_neg g1, if_neg g1]
    by_cases g2 : (8 : Int32) < x2
    ·
      rw [if_pos g2, if_pos g2]
      unfold S_NM_argument_J49 F_NM_argument_J49
      exact T_NM_ar54 hW hD hZ h01 hv2 (fun z => absurd z (by decide))
    ·
      rw [if_neg g2, if_neg g2]
      by_cases g3 : x2 = (2 : Int32)
      ·
        rw [if_pos g3, if_pos g3]
        unfold S_NM_argument_J49 F_NM_argument_J49
        exact T_NM_ar54 hW hD hZ h01 hv2 (fun z => absurd z (by decide))
      ·
        rw [if_neg g3, if_neg g3]
        by_cases g4 : x2 = (3 : Int32)
        ·
          rw [if_pos g4, if_pos g4]
          unfold S_NM_argument_J49 F_NM_argument_J49
          exact T_NM_ar54 hW hD hZ h01 hv2 (fun z => absurd z (by decide))
        ·
          rw [if_neg g4, if_neg g4]
          by_cases g5 : (2 : Int32) ≤ x2
          ·
            rw [if_pos g5, if_pos g5]
            have g2x := g5
            exact T_NM_ar32 hW hD hZ h01 hv2 (fun z => absurd z (by have := q_leI g2x; have e2 : (2 : Int32).toInt = 2 := rfl; omega))
          ·
            rw [if_neg g5, if_neg g5]
            by_cases g6 : ((F_NM_no_IZ x3) : Int32) = (0 : Int32)
            ·
              rw [if_pos g6, if_pos g6]
              have hno := nm_no1 g6
              exact T_NM_ar32 hW hD hZ h01 hv2 (fun z => hno)
            ·
              rw [if_neg g6, if_neg g6]
              unfold S_NM_argument_J49 F_NM_argument_J49
              exact T_NM_ar54 hW hD hZ h01 hv2 (fun z => absurd z (by decide))
theorem T_NM_fo16 {t0_0 : Int32} {t0_1 : Int32} {t0_2 : Int32} {t1_0 : Int32} {t1_1 : Int32} {t1_2 : Int32} {t1_3 : Int32} {t1_4 : Int32} {t1_5 : Int32} {t1_6 : Int32} {t1_7 : Int32} {t1_8 : Int32} {t1_9 : Int32} {t1_10 : Int32} {t1_11 : Int32} {t1_12 : Int32} {t1_13 : Int32} {t1_14 : Int32} {t1_15 : Int32} {t1_16 : Int32} {t1_17 : Int32} {t1_18 : Int32} {t1_19 : Int32} {t1_20 : Int32} {t1_21 : Int32} {t2_0 : (Nat → Int32)} {t3_0 : (Nat → Int32)} {t4_0 : (Nat → Int32)} {t5_0 : (Nat → Int64)} {t6_0 : (Nat → Int32)} {t7_0 : (Nat → Int32)} {t8_0 : (Nat → Int32)} {t9_0 : (Nat → Int32)} {t10_0 : (Nat → Int32)} {t11_0 : (Nat → Int32)} {t12_0 : (Nat → Int32)} {lx67 : Int32} (hZ : vrZ t4_0) (h01 : 0 ≤ t0_1.toInt ∧ t0_1.toInt ≤ 4100) (hv2 : 0 ≤ t1_2.toInt ∧ t1_2.toInt ≤ 9) (hx : lx67.toInt ≤ 0 → t0_1.toInt ≤ 256)  : (S_NM_format_J16 t0_0 t0_1 t0_2 t1_0 t1_1 t1_2 t1_3 t1_4 t1_5 t1_6 t1_7 t1_8 t1_9 t1_10 t1_11 t1_12 t1_13 t1_14 t1_15 t1_16 t1_17 t1_18 t1_19 t1_20 t1_21 t2_0 t3_0 t4_0 t5_0 t6_0 t7_0 t8_0 t9_0 t10_0 t11_0 t12_0 lx67) := by
  have e0 : (0 : Int32).toInt = 0 := rfl
  have e1 : (1 : Int32).toInt = 1 := rfl
  have eL0 : (0 : Int64).toInt = 0 := rfl
  have em : (-1 : Int32).toInt = -1 := rfl
  have n1600 : (1600 : Int32).toInt = 1600 := rfl
  have n2100 : (2100 : Int32).toInt = 2100 := rfl
  have n4096 : (4096 : Int32).toInt = 4096 := rfl
  have n12200 : (12200 : Int32).toInt = 12200 := rfl
  have n4100 : (4100 : Int32).toInt = 4100 := rfl
  have n256 : (256 : Int32).toInt = 256 := rfl
  unfold S_NM_format_J16
  by_cases g1 : lx67 ≤ (0 : Int32)
  ·
    rw [if_pos g1]
    have hxx := hx (q_leI g1)
    have h2 := T_NM_load (N1 := (4100 : Int32)) (x2 := t0_1) (N3 := (256 : Int32)) (t0_0 := t11_0) (t1_0 := t2_0) (by first | omega | decide) (by first | omega | decide) (by first | omega | decide)
    with_reducible refine v_oweS h2.1 ?_
    replace h2 := h2.2
    generalize F_NM_load (4100 : Int32) t0_1 (256 : Int32) t11_0 t2_0 = p107 at *
    have qL := h2
    have eL := congrArg Int32.toInt h2.1
    unfold S_NM_format_c47
    have h3 := T_VR_print (t0_0 := t1_0) (t0_1 := (p107.1 : Int32)) (t0_2 := t1_2) (t0_3 := t1_3) (t0_4 := t1_4) (t0_5 := t1_5) (t0_6 := t1_6) (t0_7 := t1_7) (t0_8 := t1_8) (t0_9 := t1_9) (t0_10 := t1_10) (t0_11 := t1_11) (t0_12 := t1_12) (t0_13 := t1_13) (t0_14 := t1_14) (t0_15 := t1_15) (t0_16 := t1_16) (t0_17 := t1_17) (t0_18 := t1_18) (t0_19 := t1_19) (t0_20 := t1_20) (t0_21 := t1_21) (t1_0 := (p107.2 : (Nat → Int32))) (t2_0 := t3_0) (t3_0 := t4_0) (t4_0 := t5_0) (t5_0 := t6_0) (t6_0 := t7_0) (t7_0 := t8_0) (t8_0 := t9_0) (t9_0 := t10_0) hZ (by omega) (by omega)
    with_reducible refine v_oweS h3.1 ?_
    replace h3 := h3.2
    generalize F_VR_print t1_0 (p107.1 : Int32) t1_2 t1_3 t1_4 t1_5 t1_6 t1_7 t1_8 t1_9 t1_10 t1_11 t1_12 t1_13 t1_14 t1_15 t1_16 t1_17 t1_18 t1_19 t1_20 t1_21 (p107.2 : (Nat → Int32)) t3_0 t4_0 t5_0 t6_0 t7_0 t8_0 t9_0 t10_0 = p168 at *
    unfold Q_VR_print at h3
    unfold S_NM_format_c57
    by_cases g4 : (0 : Int32) ≤ (p168.1 : Int32)
    ·
      rw [if_pos g4]
      have hp8 := q_leI g4
      have h5 := T_NM_show (N2 := (4096 : Int32)) (x3 := (p168.1 : Int32)) (t0_0 := lx67) (t0_1 := (0 : Int32)) (t0_2 := t0_2) (t1_0 := t12_0) (t2_0 := (p168.2.2.2.2.2.2.2.2.2.2.2.2.2.2.2.2.2.2.2.2.2.1 : (Nat → Int32))) ⟨by omega, by omega⟩ (by omega)
      with_reducible refine v_oweS h5 ?_
      generalize F_NM_show (4096 : Int32) (p168.1 : Int32) lx67 (0 : Int32) t0_2 t12_0 (p168.2.2.2.2.2.2.2.2.2.2.2.2.2.2.2.2.2.2.2.2.2.1 : (Nat → Int32)) = p223 at *
      unfold S_NM_format_c112
      exact trivial
    ·
      rw [if_neg g4]
      exact trivial
  ·
    rw [if_neg g1]
    exact trivial
theorem T_NM_format {t0_0 : Int32} {t0_1 : Int32} {t0_2 : Int32} {t1_0 : Int32} {t1_1 : Int32} {t1_2 : Int32} {t1_3 : Int32} {t1_4 : Int32} {t1_5 : Int32} {t1_6 : Int32} {t1_7 : Int32} {t1_8 : Int32} {t1_9 : Int32} {t1_10 : Int32} {t1_11 : Int32} {t1_12 : Int32} {t1_13 : Int32} {t1_14 : Int32} {t1_15 : Int32} {t1_16 : Int32} {t1_17 : Int32} {t1_18 : Int32} {t1_19 : Int32} {t1_20 : Int32} {t1_21 : Int32} {t2_0 : (Nat → Int32)} {t3_0 : (Nat → Int32)} {t4_0 : (Nat → Int32)} {t5_0 : (Nat → Int64)} {t6_0 : (Nat → Int32)} {t7_0 : (Nat → Int32)} {t8_0 : (Nat → Int32)} {t9_0 : (Nat → Int32)} {t10_0 : (Nat → Int32)} {t11_0 : (Nat → Int32)} {t12_0 : (Nat → Int32)} (hZ : vrZ t4_0) (h01 : 0 ≤ t0_1.toInt ∧ t0_1.toInt ≤ 4100) (hv2 : 0 ≤ t1_2.toInt ∧ t1_2.toInt ≤ 9)  : (S_NM_format t0_0 t0_1 t0_2 t1_0 t1_1 t1_2 t1_3 t1_4 t1_5 t1_6 t1_7 t1_8 t1_9 t1_10 t1_11 t1_12 t1_13 t1_14 t1_15 t1_16 t1_17 t1_18 t1_19 t1_20 t1_21 t2_0 t3_0 t4_0 t5_0 t6_0 t7_0 t8_0 t9_0 t10_0 t11_0 t12_0) := by
  have e0 : (0 : Int32).toInt = 0 := rfl
  have e1 : (1 : Int32).toInt = 1 := rfl
  have eL0 : (0 : Int64).toInt = 0 := rfl
  have em : (-1 : Int32).toInt = -1 := rfl
  have n1600 : (1600 : Int32).toInt = 1600 := rfl
  have n2100 : (2100 : Int32).toInt = 2100 := rfl
  have n4096 : (4096 : Int32).toInt = 4096 := rfl
  have n12200 : (12200 : Int32).toInt = 12200 := rfl
  have n4100 : (4100 : Int32).toInt = 4100 := rfl
  have n256 : (256 : Int32).toInt = 256 := rfl
  unfold S_NM_format
  by_cases g1 : t0_1 ≤ (256 : Int32)
  ·
    rw [if_pos g1]
    have hxx := q_leI g1
    exact T_NM_fo16 hZ h01 hv2 (fun _ => hxx)
  ·
    rw [if_neg g1]
    exact T_NM_fo16 hZ h01 hv2 (fun z => absurd z (by decide))

