theorem d_14_34_0 : decode prog_14_method_34_code 0 = .ok (.aload_n 0, 1) := by decide +kernel
theorem d_14_34_1 : decode prog_14_method_34_code 1 = .ok (.iload_n 1, 1) := by decide +kernel
theorem d_14_34_2 : decode prog_14_method_34_code 2 = .ok (.iconst 2, 1) := by decide +kernel
theorem d_14_34_19 : decode prog_14_method_34_code 19 = .ok (.putfield 58, 3) := by decide +kernel
theorem d_14_34_22 : decode prog_14_method_34_code 22 = .ok (.aload_n 0, 1) := by decide +kernel
theorem d_14_34_23 : decode prog_14_method_34_code 23 = .ok (.getfield 58, 3) := by decide +kernel
theorem d_14_34_26 : decode prog_14_method_34_code 26 = .ok (.ifCond .le 5, 3) := by decide +kernel
theorem d_14_34_31 : decode prog_14_method_34_code 31 = .ok (.aload_n 0, 1) := by decide +kernel
theorem d_14_34_32 : decode prog_14_method_34_code 32 = .ok (.iload_n 1, 1) := by decide +kernel
theorem d_14_34_33 : decode prog_14_method_34_code 33 = .ok (.iload_n 2, 1) := by decide +kernel
theorem d_14_34_34 : decode prog_14_method_34_code 34 = .ok (.invokevirtual 138, 3) := by decide +kernel
theorem d_14_34_37 : decode prog_14_method_34_code 37 = .ok (.lstore 6, 2) := by decide +kernel
theorem d_14_34_39 : decode prog_14_method_34_code 39 = .ok (.iload_n 3, 1) := by decide +kernel
theorem d_14_34_40 : decode prog_14_method_34_code 40 = .ok (.ifCond .eq 29, 3) := by decide +kernel
theorem d_14_34_69 : decode prog_14_method_34_code 69 = .ok (.aload_n 0, 1) := by decide +kernel
theorem d_14_34_70 : decode prog_14_method_34_code 70 = .ok (.getfield 33, 3) := by decide +kernel
theorem d_14_34_73 : decode prog_14_method_34_code 73 = .ok (.lload 6, 2) := by decide +kernel
theorem d_14_34_75 : decode prog_14_method_34_code 75 = .ok (.iload_n 1, 1) := by decide +kernel
theorem d_14_34_76 : decode prog_14_method_34_code 76 = .ok (.iconst 3, 1) := by decide +kernel
theorem d_14_34_85 : decode prog_14_method_34_code 85 = .ok (.iload 4, 2) := by decide +kernel
theorem d_14_34_87 : decode prog_14_method_34_code 87 = .ok (.iload 5, 2) := by decide +kernel
theorem d_14_34_89 : decode prog_14_method_34_code 89 = .ok (.invokevirtual 227, 3) := by decide +kernel
theorem d_14_34_92 : decode prog_14_method_34_code 92 = .ok (.istore 8, 2) := by decide +kernel
theorem d_14_34_94 : decode prog_14_method_34_code 94 = .ok (.aload_n 0, 1) := by decide +kernel
theorem d_14_34_95 : decode prog_14_method_34_code 95 = .ok (.aload_n 0, 1) := by decide +kernel
theorem d_14_34_96 : decode prog_14_method_34_code 96 = .ok (.getfield 33, 3) := by decide +kernel
theorem d_14_34_99 : decode prog_14_method_34_code 99 = .ok (.getfield 282, 3) := by decide +kernel
set_option maxRecDepth 100000 in
theorem wo_2075 : (Cond.fieldLinkNest "NumberHouseModel" (282 : Nat) "NumberHouseModel$FloatRows" "thrown" "I" "NumberHouseModel") ∈ q_odd := q_oo9 155 rfl (by decide +kernel)
theorem d_14_34_102 : decode prog_14_method_34_code 102 = .ok (.putfield 58, 3) := by decide +kernel
theorem d_14_34_105 : decode prog_14_method_34_code 105 = .ok (.aload_n 0, 1) := by decide +kernel
theorem d_14_34_106 : decode prog_14_method_34_code 106 = .ok (.getfield 58, 3) := by decide +kernel
theorem d_14_34_109 : decode prog_14_method_34_code 109 = .ok (.ifCond .le 7, 3) := by decide +kernel
theorem d_14_34_116 : decode prog_14_method_34_code 116 = .ok (.aload_n 0, 1) := by decide +kernel
theorem d_14_34_117 : decode prog_14_method_34_code 117 = .ok (.aload_n 0, 1) := by decide +kernel
theorem d_14_34_118 : decode prog_14_method_34_code 118 = .ok (.getfield 33, 3) := by decide +kernel
theorem d_14_34_121 : decode prog_14_method_34_code 121 = .ok (.getfield 231, 3) := by decide +kernel
theorem d_14_34_124 : decode prog_14_method_34_code 124 = .ok (.iload 8, 2) := by decide +kernel
theorem d_14_34_126 : decode prog_14_method_34_code 126 = .ok (.invokevirtual 269, 3) := by decide +kernel
theorem d_14_34_129 : decode prog_14_method_34_code 129 = .ok (.ireturn, 1) := by decide +kernel
theorem d_14_34_112 : decode prog_14_method_34_code 112 = .ok (.iconst 0, 1) := by decide +kernel
theorem d_14_34_113 : decode prog_14_method_34_code 113 = .ok (.goto 16, 3) := by decide +kernel
theorem d_14_34_77 : decode prog_14_method_34_code 77 = .ok (.if_icmp .ne 7, 3) := by decide +kernel
theorem d_14_34_84 : decode prog_14_method_34_code 84 = .ok (.iconst 0, 1) := by decide +kernel
theorem d_14_34_80 : decode prog_14_method_34_code 80 = .ok (.iconst 1, 1) := by decide +kernel
theorem d_14_34_81 : decode prog_14_method_34_code 81 = .ok (.goto 4, 3) := by decide +kernel
theorem d_14_34_43 : decode prog_14_method_34_code 43 = .ok (.aload_n 0, 1) := by decide +kernel
theorem d_14_34_44 : decode prog_14_method_34_code 44 = .ok (.getfield 33, 3) := by decide +kernel
theorem d_14_34_47 : decode prog_14_method_34_code 47 = .ok (.lload 6, 2) := by decide +kernel
theorem d_14_34_49 : decode prog_14_method_34_code 49 = .ok (.iload_n 1, 1) := by decide +kernel
theorem d_14_34_50 : decode prog_14_method_34_code 50 = .ok (.iconst 3, 1) := by decide +kernel
theorem d_14_34_59 : decode prog_14_method_34_code 59 = .ok (.iload 4, 2) := by decide +kernel
theorem d_14_34_61 : decode prog_14_method_34_code 61 = .ok (.iload 5, 2) := by decide +kernel
theorem d_14_34_63 : decode prog_14_method_34_code 63 = .ok (.invokevirtual 279, 3) := by decide +kernel
set_option maxRecDepth 100000 in
theorem w_3064 : (Cond.code ({ cls := "NumberHouseModel$FloatRows", name := "scientific", desc := "(JZII)I" } : MethodName) prog_17_method_30_code (9 : Nat) (some .int)) ∈ q_tbl := q_of13 184 rfl (by decide +kernel)
set_option maxRecDepth 100000 in
theorem w_3061 : (Cond.methodLink "NumberHouseModel" (279 : Nat) ({ cls := "NumberHouseModel$FloatRows", name := "scientific", desc := "(JZII)I" } : MethodName)) ∈ q_tbl := q_of13 181 rfl (by decide +kernel)
set_option maxRecDepth 100000 in
theorem w_3062 : (Cond.instanceMethod ({ cls := "NumberHouseModel$FloatRows", name := "scientific", desc := "(JZII)I" } : MethodName)) ∈ q_tbl := q_of13 182 rfl (by decide +kernel)
set_option maxRecDepth 100000 in
theorem w_3063 : (Cond.selects "NumberHouseModel$FloatRows" ({ cls := "NumberHouseModel$FloatRows", name := "scientific", desc := "(JZII)I" } : MethodName) ({ cls := "NumberHouseModel$FloatRows", name := "scientific", desc := "(JZII)I" } : MethodName)) ∈ q_tbl := q_of13 183 rfl (by decide +kernel)
theorem LV_NM_279 : q_LV "NumberHouseModel" 279 y_FR_scientific prog_17_method_30_code 9 (some .int) 4 := ⟨w_3064, w_17, w_3061, w_3062, w_3063, ⟨by decide, by decide, by decide +kernel⟩⟩
theorem d_14_34_66 : decode prog_14_method_34_code 66 = .ok (.goto 26, 3) := by decide +kernel
theorem d_14_34_51 : decode prog_14_method_34_code 51 = .ok (.if_icmp .ne 7, 3) := by decide +kernel
theorem d_14_34_58 : decode prog_14_method_34_code 58 = .ok (.iconst 0, 1) := by decide +kernel
theorem d_14_34_54 : decode prog_14_method_34_code 54 = .ok (.iconst 1, 1) := by decide +kernel
theorem d_14_34_55 : decode prog_14_method_34_code 55 = .ok (.goto 4, 3) := by decide +kernel
theorem d_14_34_29 : decode prog_14_method_34_code 29 = .ok (.iconst 0, 1) := by decide +kernel
theorem d_14_34_30 : decode prog_14_method_34_code 30 = .ok (.ireturn, 1) := by decide +kernel
theorem d_14_34_14 : decode prog_14_method_34_code 14 = .ok (.iconst 1, 1) := by decide +kernel
theorem d_14_34_15 : decode prog_14_method_34_code 15 = .ok (.goto 4, 3) := by decide +kernel
theorem d_14_34_3 : decode prog_14_method_34_code 3 = .ok (.if_icmp .lt 11, 3) := by decide +kernel
theorem d_14_34_6 : decode prog_14_method_34_code 6 = .ok (.iload_n 1, 1) := by decide +kernel
theorem d_14_34_7 : decode prog_14_method_34_code 7 = .ok (.iload_n 2, 1) := by decide +kernel
theorem d_14_34_8 : decode prog_14_method_34_code 8 = .ok (.invokestatic 84, 3) := by decide +kernel
theorem d_14_34_11 : decode prog_14_method_34_code 11 = .ok (.ifCond .eq 7, 3) := by decide +kernel
theorem d_14_34_18 : decode prog_14_method_34_code 18 = .ok (.iconst 0, 1) := by decide +kernel
def y_NM_figures : MethodName := ⟨"NumberHouseModel", "figures", "(IIZII)I"⟩
def F_NM_figures_c126 (x2 : Int32) (x3 : Int32) (x4 : Int32) (x5 : Int32) (x6 : Int32) (t0_0 : Int32) (t0_1 : Int32) (t0_2 : Int32) (t1_0 : Int32) (t1_1 : Int32) (t1_2 : Int32) (t1_3 : Int32) (t1_4 : Int64) (t1_5 : Int32) (t1_6 : Int32) (t1_7 : Int64) (t1_8 : Int32) (t1_9 : Int64) (t1_10 : Int32) (t2_0 : (Nat → Int32)) (t3_0 : (Nat → Int32)) (t4_0 : (Nat → Int32)) (t5_0 : (Nat → Int32)) (t6_0 : (Nat → Int32)) (t7_0 : (Nat → Int32)) (t8_0 : (Nat → Int64)) (lx40 : Int32) (j65 : Int64) (lx70 : Int32) (p123 : (Int32 × Int32 × Int32 × Int32 × Int32 × Int64 × Int32 × Int32 × Int64 × Int32 × Int64 × Int32 × (Nat → Int32) × (Nat → Int32) × (Nat → Int32) × (Nat → Int32) × (Nat → Int32))) (a91 : Int32) (y93 : Int32) (y94 : Int32) (y95 : Int32) (y96 : Int32) (y97 : Int64) (y98 : Int32) (y99 : Int32) (y100 : Int64) (y101 : Int32) (y102 : Int64) (y103 : Int32) (f104 : (Nat → Int32)) (f106 : (Nat → Int32)) (f108 : (Nat → Int32)) (f110 : (Nat → Int32)) (f112 : (Nat → Int32)) (p168 : (Int32 × Int32 × (Nat → Int32))) : Int32 × Int32 × Int32 × Int32 × Int32 × Int32 × Int32 × Int64 × Int32 × Int32 × Int64 × Int32 × Int64 × Int32 × (Nat → Int32) × (Nat → Int32) × (Nat → Int32) × (Nat → Int32) × (Nat → Int32) × (Nat → Int32) := ((p168.1 : Int32), y93, (p168.2.1 : Int32), y93, y94, y95, y96, y97, y98, y99, y100, y101, y102, y103, f104, f106, f108, f110, f112, (p168.2.2 : (Nat → Int32)))
def F_NM_figures_c89 (x2 : Int32) (x3 : Int32) (x4 : Int32) (x5 : Int32) (x6 : Int32) (t0_0 : Int32) (t0_1 : Int32) (t0_2 : Int32) (t1_0 : Int32) (t1_1 : Int32) (t1_2 : Int32) (t1_3 : Int32) (t1_4 : Int64) (t1_5 : Int32) (t1_6 : Int32) (t1_7 : Int64) (t1_8 : Int32) (t1_9 : Int64) (t1_10 : Int32) (t2_0 : (Nat → Int32)) (t3_0 : (Nat → Int32)) (t4_0 : (Nat → Int32)) (t5_0 : (Nat → Int32)) (t6_0 : (Nat → Int32)) (t7_0 : (Nat → Int32)) (t8_0 : (Nat → Int64)) (lx40 : Int32) (j65 : Int64) (lx70 : Int32) (p123 : (Int32 × Int32 × Int32 × Int32 × Int32 × Int64 × Int32 × Int32 × Int64 × Int32 × Int64 × Int32 × (Nat → Int32) × (Nat → Int32) × (Nat → Int32) × (Nat → Int32) × (Nat → Int32))) : Int32 × Int32 × Int32 × Int32 × Int32 × Int32 × Int32 × Int64 × Int32 × Int32 × Int64 × Int32 × Int64 × Int32 × (Nat → Int32) × (Nat → Int32) × (Nat → Int32) × (Nat → Int32) × (Nat → Int32) × (Nat → Int32) := if (p123.2.1 : Int32) ≤ (0 : Int32) then (F_NM_figures_c126 x2 x3 x4 x5 x6 t0_0 t0_1 t0_2 t1_0 t1_1 t1_2 t1_3 t1_4 t1_5 t1_6 t1_7 t1_8 t1_9 t1_10 t2_0 t3_0 t4_0 t5_0 t6_0 t7_0 t8_0 lx40 j65 lx70 p123 (p123.1 : Int32) (p123.2.1 : Int32) (p123.2.2.1 : Int32) (p123.2.2.2.1 : Int32) (p123.2.2.2.2.1 : Int32) (p123.2.2.2.2.2.1 : Int64) (p123.2.2.2.2.2.2.1 : Int32) (p123.2.2.2.2.2.2.2.1 : Int32) (p123.2.2.2.2.2.2.2.2.1 : Int64) (p123.2.2.2.2.2.2.2.2.2.1 : Int32) (p123.2.2.2.2.2.2.2.2.2.2.1 : Int64) (p123.2.2.2.2.2.2.2.2.2.2.2.1 : Int32) (p123.2.2.2.2.2.2.2.2.2.2.2.2.1 : (Nat → Int32)) (p123.2.2.2.2.2.2.2.2.2.2.2.2.2.1 : (Nat → Int32)) (p123.2.2.2.2.2.2.2.2.2.2.2.2.2.2.1 : (Nat → Int32)) (p123.2.2.2.2.2.2.2.2.2.2.2.2.2.2.2.1 : (Nat → Int32)) (p123.2.2.2.2.2.2.2.2.2.2.2.2.2.2.2.2 : (Nat → Int32)) ((F_NM_show (1600 : Int32) (p123.1 : Int32) (p123.2.1 : Int32) t0_1 t0_2 t7_0 (p123.2.2.2.2.2.2.2.2.2.2.2.2.2.2.2.2 : (Nat → Int32))) : (Int32 × Int32 × (Nat → Int32)))) else (((0 : Int32), (p123.2.1 : Int32), t0_2, (p123.2.1 : Int32), (p123.2.2.1 : Int32), (p123.2.2.2.1 : Int32), (p123.2.2.2.2.1 : Int32), (p123.2.2.2.2.2.1 : Int64), (p123.2.2.2.2.2.2.1 : Int32), (p123.2.2.2.2.2.2.2.1 : Int32), (p123.2.2.2.2.2.2.2.2.1 : Int64), (p123.2.2.2.2.2.2.2.2.2.1 : Int32), (p123.2.2.2.2.2.2.2.2.2.2.1 : Int64), (p123.2.2.2.2.2.2.2.2.2.2.2.1 : Int32), (p123.2.2.2.2.2.2.2.2.2.2.2.2.1 : (Nat → Int32)), (p123.2.2.2.2.2.2.2.2.2.2.2.2.2.1 : (Nat → Int32)), (p123.2.2.2.2.2.2.2.2.2.2.2.2.2.2.1 : (Nat → Int32)), (p123.2.2.2.2.2.2.2.2.2.2.2.2.2.2.2.1 : (Nat → Int32)), (p123.2.2.2.2.2.2.2.2.2.2.2.2.2.2.2.2 : (Nat → Int32)), t7_0))
def F_NM_figures_J85 (x2 : Int32) (x3 : Int32) (x4 : Int32) (x5 : Int32) (x6 : Int32) (t0_0 : Int32) (t0_1 : Int32) (t0_2 : Int32) (t1_0 : Int32) (t1_1 : Int32) (t1_2 : Int32) (t1_3 : Int32) (t1_4 : Int64) (t1_5 : Int32) (t1_6 : Int32) (t1_7 : Int64) (t1_8 : Int32) (t1_9 : Int64) (t1_10 : Int32) (t2_0 : (Nat → Int32)) (t3_0 : (Nat → Int32)) (t4_0 : (Nat → Int32)) (t5_0 : (Nat → Int32)) (t6_0 : (Nat → Int32)) (t7_0 : (Nat → Int32)) (t8_0 : (Nat → Int64)) (lx40 : Int32) (j65 : Int64) (lx70 : Int32) : Int32 × Int32 × Int32 × Int32 × Int32 × Int32 × Int32 × Int64 × Int32 × Int32 × Int64 × Int32 × Int64 × Int32 × (Nat → Int32) × (Nat → Int32) × (Nat → Int32) × (Nat → Int32) × (Nat → Int32) × (Nat → Int32) := F_NM_figures_c89 x2 x3 x4 x5 x6 t0_0 t0_1 t0_2 t1_0 t1_1 t1_2 t1_3 t1_4 t1_5 t1_6 t1_7 t1_8 t1_9 t1_10 t2_0 t3_0 t4_0 t5_0 t6_0 t7_0 t8_0 lx40 j65 lx70 ((F_FR_fixed j65 lx70 x5 x6 t1_0 t1_1 t1_2 t1_3 t1_4 t1_5 t1_6 t1_7 t1_8 t1_9 t1_10 t2_0 t3_0 t4_0 t5_0 t6_0) : (Int32 × Int32 × Int32 × Int32 × Int32 × Int64 × Int32 × Int32 × Int64 × Int32 × Int64 × Int32 × (Nat → Int32) × (Nat → Int32) × (Nat → Int32) × (Nat → Int32) × (Nat → Int32)))
def F_NM_figures_c126_7 (x2 : Int32) (x3 : Int32) (x4 : Int32) (x5 : Int32) (x6 : Int32) (t0_0 : Int32) (t0_1 : Int32) (t0_2 : Int32) (t1_0 : Int32) (t1_1 : Int32) (t1_2 : Int32) (t1_3 : Int32) (t1_4 : Int64) (t1_5 : Int32) (t1_6 : Int32) (t1_7 : Int64) (t1_8 : Int32) (t1_9 : Int64) (t1_10 : Int32) (t2_0 : (Nat → Int32)) (t3_0 : (Nat → Int32)) (t4_0 : (Nat → Int32)) (t5_0 : (Nat → Int32)) (t6_0 : (Nat → Int32)) (t7_0 : (Nat → Int32)) (t8_0 : (Nat → Int64)) (lx40 : Int32) (j65 : Int64) (lx183 : Int32) (p230 : (Int32 × Int32 × Int32 × Int32 × Int32 × Int64 × Int32 × Int32 × Int64 × Int32 × Int64 × Int32 × (Nat → Int32) × (Nat → Int32) × (Nat → Int32) × (Nat → Int32) × (Nat → Int32))) (a204 : Int32) (y206 : Int32) (y207 : Int32) (y208 : Int32) (y209 : Int32) (y210 : Int64) (y211 : Int32) (y212 : Int32) (y213 : Int64) (y214 : Int32) (y215 : Int64) (y216 : Int32) (f217 : (Nat → Int32)) (f219 : (Nat → Int32)) (f221 : (Nat → Int32)) (f223 : (Nat → Int32)) (f225 : (Nat → Int32)) (p275 : (Int32 × Int32 × (Nat → Int32))) : Int32 × Int32 × Int32 × Int32 × Int32 × Int32 × Int32 × Int64 × Int32 × Int32 × Int64 × Int32 × Int64 × Int32 × (Nat → Int32) × (Nat → Int32) × (Nat → Int32) × (Nat → Int32) × (Nat → Int32) × (Nat → Int32) := ((p275.1 : Int32), y206, (p275.2.1 : Int32), y206, y207, y208, y209, y210, y211, y212, y213, y214, y215, y216, f217, f219, f221, f223, f225, (p275.2.2 : (Nat → Int32)))
def F_NM_figures_c63 (x2 : Int32) (x3 : Int32) (x4 : Int32) (x5 : Int32) (x6 : Int32) (t0_0 : Int32) (t0_1 : Int32) (t0_2 : Int32) (t1_0 : Int32) (t1_1 : Int32) (t1_2 : Int32) (t1_3 : Int32) (t1_4 : Int64) (t1_5 : Int32) (t1_6 : Int32) (t1_7 : Int64) (t1_8 : Int32) (t1_9 : Int64) (t1_10 : Int32) (t2_0 : (Nat → Int32)) (t3_0 : (Nat → Int32)) (t4_0 : (Nat → Int32)) (t5_0 : (Nat → Int32)) (t6_0 : (Nat → Int32)) (t7_0 : (Nat → Int32)) (t8_0 : (Nat → Int64)) (lx40 : Int32) (j65 : Int64) (lx183 : Int32) (p230 : (Int32 × Int32 × Int32 × Int32 × Int32 × Int64 × Int32 × Int32 × Int64 × Int32 × Int64 × Int32 × (Nat → Int32) × (Nat → Int32) × (Nat → Int32) × (Nat → Int32) × (Nat → Int32))) : Int32 × Int32 × Int32 × Int32 × Int32 × Int32 × Int32 × Int64 × Int32 × Int32 × Int64 × Int32 × Int64 × Int32 × (Nat → Int32) × (Nat → Int32) × (Nat → Int32) × (Nat → Int32) × (Nat → Int32) × (Nat → Int32) := if (p230.2.1 : Int32) ≤ (0 : Int32) then (F_NM_figures_c126_7 x2 x3 x4 x5 x6 t0_0 t0_1 t0_2 t1_0 t1_1 t1_2 t1_3 t1_4 t1_5 t1_6 t1_7 t1_8 t1_9 t1_10 t2_0 t3_0 t4_0 t5_0 t6_0 t7_0 t8_0 lx40 j65 lx183 p230 (p230.1 : Int32) (p230.2.1 : Int32) (p230.2.2.1 : Int32) (p230.2.2.2.1 : Int32) (p230.2.2.2.2.1 : Int32) (p230.2.2.2.2.2.1 : Int64) (p230.2.2.2.2.2.2.1 : Int32) (p230.2.2.2.2.2.2.2.1 : Int32) (p230.2.2.2.2.2.2.2.2.1 : Int64) (p230.2.2.2.2.2.2.2.2.2.1 : Int32) (p230.2.2.2.2.2.2.2.2.2.2.1 : Int64) (p230.2.2.2.2.2.2.2.2.2.2.2.1 : Int32) (p230.2.2.2.2.2.2.2.2.2.2.2.2.1 : (Nat → Int32)) (p230.2.2.2.2.2.2.2.2.2.2.2.2.2.1 : (Nat → Int32)) (p230.2.2.2.2.2.2.2.2.2.2.2.2.2.2.1 : (Nat → Int32)) (p230.2.2.2.2.2.2.2.2.2.2.2.2.2.2.2.1 : (Nat → Int32)) (p230.2.2.2.2.2.2.2.2.2.2.2.2.2.2.2.2 : (Nat → Int32)) ((F_NM_show (1600 : Int32) (p230.1 : Int32) (p230.2.1 : Int32) t0_1 t0_2 t7_0 (p230.2.2.2.2.2.2.2.2.2.2.2.2.2.2.2.2 : (Nat → Int32))) : (Int32 × Int32 × (Nat → Int32)))) else (((0 : Int32), (p230.2.1 : Int32), t0_2, (p230.2.1 : Int32), (p230.2.2.1 : Int32), (p230.2.2.2.1 : Int32), (p230.2.2.2.2.1 : Int32), (p230.2.2.2.2.2.1 : Int64), (p230.2.2.2.2.2.2.1 : Int32), (p230.2.2.2.2.2.2.2.1 : Int32), (p230.2.2.2.2.2.2.2.2.1 : Int64), (p230.2.2.2.2.2.2.2.2.2.1 : Int32), (p230.2.2.2.2.2.2.2.2.2.2.1 : Int64), (p230.2.2.2.2.2.2.2.2.2.2.2.1 : Int32), (p230.2.2.2.2.2.2.2.2.2.2.2.2.1 : (Nat → Int32)), (p230.2.2.2.2.2.2.2.2.2.2.2.2.2.1 : (Nat → Int32)), (p230.2.2.2.2.2.2.2.2.2.2.2.2.2.2.1 : (Nat → Int32)), (p230.2.2.2.2.2.2.2.2.2.2.2.2.2.2.2.1 : (Nat → Int32)), (p230.2.2.2.2.2.2.2.2.2.2.2.2.2.2.2.2 : (Nat → Int32)), t7_0))
def F_NM_figures_J59 (x2 : Int32) (x3 : Int32) (x4 : Int32) (x5 : Int32) (x6 : Int32) (t0_0 : Int32) (t0_1 : Int32) (t0_2 : Int32) (t1_0 : Int32) (t1_1 : Int32) (t1_2 : Int32) (t1_3 : Int32) (t1_4 : Int64) (t1_5 : Int32) (t1_6 : Int32) (t1_7 : Int64) (t1_8 : Int32) (t1_9 : Int64) (t1_10 : Int32) (t2_0 : (Nat → Int32)) (t3_0 : (Nat → Int32)) (t4_0 : (Nat → Int32)) (t5_0 : (Nat → Int32)) (t6_0 : (Nat → Int32)) (t7_0 : (Nat → Int32)) (t8_0 : (Nat → Int64)) (lx40 : Int32) (j65 : Int64) (lx183 : Int32) : Int32 × Int32 × Int32 × Int32 × Int32 × Int32 × Int32 × Int64 × Int32 × Int32 × Int64 × Int32 × Int64 × Int32 × (Nat → Int32) × (Nat → Int32) × (Nat → Int32) × (Nat → Int32) × (Nat → Int32) × (Nat → Int32) := F_NM_figures_c63 x2 x3 x4 x5 x6 t0_0 t0_1 t0_2 t1_0 t1_1 t1_2 t1_3 t1_4 t1_5 t1_6 t1_7 t1_8 t1_9 t1_10 t2_0 t3_0 t4_0 t5_0 t6_0 t7_0 t8_0 lx40 j65 lx183 ((F_FR_scientific j65 lx183 x5 x6 t1_0 t1_1 t1_2 t1_3 t1_4 t1_5 t1_6 t1_7 t1_8 t1_9 t1_10 t2_0 t3_0 t4_0 t5_0 t6_0) : (Int32 × Int32 × Int32 × Int32 × Int32 × Int64 × Int32 × Int32 × Int64 × Int32 × Int64 × Int32 × (Nat → Int32) × (Nat → Int32) × (Nat → Int32) × (Nat → Int32) × (Nat → Int32)))
def F_NM_figures_J19 (x2 : Int32) (x3 : Int32) (x4 : Int32) (x5 : Int32) (x6 : Int32) (t0_0 : Int32) (t0_1 : Int32) (t0_2 : Int32) (t1_0 : Int32) (t1_1 : Int32) (t1_2 : Int32) (t1_3 : Int32) (t1_4 : Int64) (t1_5 : Int32) (t1_6 : Int32) (t1_7 : Int64) (t1_8 : Int32) (t1_9 : Int64) (t1_10 : Int32) (t2_0 : (Nat → Int32)) (t3_0 : (Nat → Int32)) (t4_0 : (Nat → Int32)) (t5_0 : (Nat → Int32)) (t6_0 : (Nat → Int32)) (t7_0 : (Nat → Int32)) (t8_0 : (Nat → Int64)) (lx40 : Int32) : Int32 × Int32 × Int32 × Int32 × Int32 × Int32 × Int32 × Int64 × Int32 × Int32 × Int64 × Int32 × Int64 × Int32 × (Nat → Int32) × (Nat → Int32) × (Nat → Int32) × (Nat → Int32) × (Nat → Int32) × (Nat → Int32) := if lx40 ≤ (0 : Int32) then (if x4 = (0 : Int32) then (if x2 = (3 : Int32) then (F_NM_figures_J85 x2 x3 x4 x5 x6 t0_0 t0_1 t0_2 t1_0 t1_1 t1_2 t1_3 t1_4 t1_5 t1_6 t1_7 t1_8 t1_9 t1_10 t2_0 t3_0 t4_0 t5_0 t6_0 t7_0 t8_0 lx40 ((F_NM_bitsOf x2 x3 lx40 t0_1 t0_2 t8_0) : Int64) 1) else (F_NM_figures_J85 x2 x3 x4 x5 x6 t0_0 t0_1 t0_2 t1_0 t1_1 t1_2 t1_3 t1_4 t1_5 t1_6 t1_7 t1_8 t1_9 t1_10 t2_0 t3_0 t4_0 t5_0 t6_0 t7_0 t8_0 lx40 ((F_NM_bitsOf x2 x3 lx40 t0_1 t0_2 t8_0) : Int64) 0)) else (if x2 = (3 : Int32) then (F_NM_figures_J59 x2 x3 x4 x5 x6 t0_0 t0_1 t0_2 t1_0 t1_1 t1_2 t1_3 t1_4 t1_5 t1_6 t1_7 t1_8 t1_9 t1_10 t2_0 t3_0 t4_0 t5_0 t6_0 t7_0 t8_0 lx40 ((F_NM_bitsOf x2 x3 lx40 t0_1 t0_2 t8_0) : Int64) 1) else (F_NM_figures_J59 x2 x3 x4 x5 x6 t0_0 t0_1 t0_2 t1_0 t1_1 t1_2 t1_3 t1_4 t1_5 t1_6 t1_7 t1_8 t1_9 t1_10 t2_0 t3_0 t4_0 t5_0 t6_0 t7_0 t8_0 lx40 ((F_NM_bitsOf x2 x3 lx40 t0_1 t0_2 t8_0) : Int64) 0))) else (((0 : Int32), lx40, t0_2, t1_0, t1_1, t1_2, t1_3, t1_4, t1_5, t1_6, t1_7, t1_8, t1_9, t1_10, t2_0, t3_0, t4_0, t5_0, t6_0, t7_0))
def F_NM_figures_J14 (x2 : Int32) (x3 : Int32) (x4 : Int32) (x5 : Int32) (x6 : Int32) (t0_0 : Int32) (t0_1 : Int32) (t0_2 : Int32) (t1_0 : Int32) (t1_1 : Int32) (t1_2 : Int32) (t1_3 : Int32) (t1_4 : Int64) (t1_5 : Int32) (t1_6 : Int32) (t1_7 : Int64) (t1_8 : Int32) (t1_9 : Int64) (t1_10 : Int32) (t2_0 : (Nat → Int32)) (t3_0 : (Nat → Int32)) (t4_0 : (Nat → Int32)) (t5_0 : (Nat → Int32)) (t6_0 : (Nat → Int32)) (t7_0 : (Nat → Int32)) (t8_0 : (Nat → Int64)) : Int32 × Int32 × Int32 × Int32 × Int32 × Int32 × Int32 × Int64 × Int32 × Int32 × Int64 × Int32 × Int64 × Int32 × (Nat → Int32) × (Nat → Int32) × (Nat → Int32) × (Nat → Int32) × (Nat → Int32) × (Nat → Int32) := F_NM_figures_J19 x2 x3 x4 x5 x6 t0_0 t0_1 t0_2 t1_0 t1_1 t1_2 t1_3 t1_4 t1_5 t1_6 t1_7 t1_8 t1_9 t1_10 t2_0 t3_0 t4_0 t5_0 t6_0 t7_0 t8_0 1
def F_NM_figures (x2 : Int32) (x3 : Int32) (x4 : Int32) (x5 : Int32) (x6 : Int32) (t0_0 : Int32) (t0_1 : Int32) (t0_2 : Int32) (t1_0 : Int32) (t1_1 : Int32) (t1_2 : Int32) (t1_3 : Int32) (t1_4 : Int64) (t1_5 : Int32) (t1_6 : Int32) (t1_7 : Int64) (t1_8 : Int32) (t1_9 : Int64) (t1_10 : Int32) (t2_0 : (Nat → Int32)) (t3_0 : (Nat → Int32)) (t4_0 : (Nat → Int32)) (t5_0 : (Nat → Int32)) (t6_0 : (Nat → Int32)) (t7_0 : (Nat → Int32)) (t8_0 : (Nat → Int64)) : Int32 × Int32 × Int32 × Int32 × Int32 × Int32 × Int32 × Int64 × Int32 × Int32 × Int64 × Int32 × Int64 × Int32 × (Nat → Int32) × (Nat → Int32) × (Nat → Int32) × (Nat → Int32) × (Nat → Int32) × (Nat → Int32) := if x2 < (2 : Int32) then (F_NM_figures_J14 x2 x3 x4 x5 x6 t0_0 t0_1 t0_2 t1_0 t1_1 t1_2 t1_3 t1_4 t1_5 t1_6 t1_7 t1_8 t1_9 t1_10 t2_0 t3_0 t4_0 t5_0 t6_0 t7_0 t8_0) else (if ((F_NM_no_IIZ x2 x3) : Int32) = (0 : Int32) then (F_NM_figures_J19 x2 x3 x4 x5 x6 t0_0 t0_1 t0_2 t1_0 t1_1 t1_2 t1_3 t1_4 t1_5 t1_6 t1_7 t1_8 t1_9 t1_10 t2_0 t3_0 t4_0 t5_0 t6_0 t7_0 t8_0 0) else (F_NM_figures_J14 x2 x3 x4 x5 x6 t0_0 t0_1 t0_2 t1_0 t1_1 t1_2 t1_3 t1_4 t1_5 t1_6 t1_7 t1_8 t1_9 t1_10 t2_0 t3_0 t4_0 t5_0 t6_0 t7_0 t8_0))
def S_NM_figures_c126 (x2 : Int32) (x3 : Int32) (x4 : Int32) (x5 : Int32) (x6 : Int32) (t0_0 : Int32) (t0_1 : Int32) (t0_2 : Int32) (t1_0 : Int32) (t1_1 : Int32) (t1_2 : Int32) (t1_3 : Int32) (t1_4 : Int64) (t1_5 : Int32) (t1_6 : Int32) (t1_7 : Int64) (t1_8 : Int32) (t1_9 : Int64) (t1_10 : Int32) (t2_0 : (Nat → Int32)) (t3_0 : (Nat → Int32)) (t4_0 : (Nat → Int32)) (t5_0 : (Nat → Int32)) (t6_0 : (Nat → Int32)) (t7_0 : (Nat → Int32)) (t8_0 : (Nat → Int64)) (lx40 : Int32) (j65 : Int64) (lx70 : Int32) (p123 : (Int32 × Int32 × Int32 × Int32 × Int32 × Int64 × Int32 × Int32 × Int64 × Int32 × Int64 × Int32 × (Nat → Int32) × (Nat → Int32) × (Nat → Int32) × (Nat → Int32) × (Nat → Int32))) (a91 : Int32) (y93 : Int32) (y94 : Int32) (y95 : Int32) (y96 : Int32) (y97 : Int64) (y98 : Int32) (y99 : Int32) (y100 : Int64) (y101 : Int32) (y102 : Int64) (y103 : Int32) (f104 : (Nat → Int32)) (f106 : (Nat → Int32)) (f108 : (Nat → Int32)) (f110 : (Nat → Int32)) (f112 : (Nat → Int32)) (p168 : (Int32 × Int32 × (Nat → Int32))) : Prop := True
def S_NM_figures_c89 (x2 : Int32) (x3 : Int32) (x4 : Int32) (x5 : Int32) (x6 : Int32) (t0_0 : Int32) (t0_1 : Int32) (t0_2 : Int32) (t1_0 : Int32) (t1_1 : Int32) (t1_2 : Int32) (t1_3 : Int32) (t1_4 : Int64) (t1_5 : Int32) (t1_6 : Int32) (t1_7 : Int64) (t1_8 : Int32) (t1_9 : Int64) (t1_10 : Int32) (t2_0 : (Nat → Int32)) (t3_0 : (Nat → Int32)) (t4_0 : (Nat → Int32)) (t5_0 : (Nat → Int32)) (t6_0 : (Nat → Int32)) (t7_0 : (Nat → Int32)) (t8_0 : (Nat → Int64)) (lx40 : Int32) (j65 : Int64) (lx70 : Int32) (p123 : (Int32 × Int32 × Int32 × Int32 × Int32 × Int64 × Int32 × Int32 × Int64 × Int32 × Int64 × Int32 × (Nat → Int32) × (Nat → Int32) × (Nat → Int32) × (Nat → Int32) × (Nat → Int32))) : Prop := if (p123.2.1 : Int32) ≤ (0 : Int32) then ((True ∧ S_NM_show (1600 : Int32) (p123.1 : Int32) (p123.2.1 : Int32) t0_1 t0_2 t7_0 (p123.2.2.2.2.2.2.2.2.2.2.2.2.2.2.2.2 : (Nat → Int32))) ∧ (S_NM_figures_c126 x2 x3 x4 x5 x6 t0_0 t0_1 t0_2 t1_0 t1_1 t1_2 t1_3 t1_4 t1_5 t1_6 t1_7 t1_8 t1_9 t1_10 t2_0 t3_0 t4_0 t5_0 t6_0 t7_0 t8_0 lx40 j65 lx70 p123 (p123.1 : Int32) (p123.2.1 : Int32) (p123.2.2.1 : Int32) (p123.2.2.2.1 : Int32) (p123.2.2.2.2.1 : Int32) (p123.2.2.2.2.2.1 : Int64) (p123.2.2.2.2.2.2.1 : Int32) (p123.2.2.2.2.2.2.2.1 : Int32) (p123.2.2.2.2.2.2.2.2.1 : Int64) (p123.2.2.2.2.2.2.2.2.2.1 : Int32) (p123.2.2.2.2.2.2.2.2.2.2.1 : Int64) (p123.2.2.2.2.2.2.2.2.2.2.2.1 : Int32) (p123.2.2.2.2.2.2.2.2.2.2.2.2.1 : (Nat → Int32)) (p123.2.2.2.2.2.2.2.2.2.2.2.2.2.1 : (Nat → Int32)) (p123.2.2.2.2.2.2.2.2.2.2.2.2.2.2.1 : (Nat → Int32)) (p123.2.2.2.2.2.2.2.2.2.2.2.2.2.2.2.1 : (Nat → Int32)) (p123.2.2.2.2.2.2.2.2.2.2.2.2.2.2.2.2 : (Nat → Int32)) ((F_NM_show (1600 : Int32) (p123.1 : Int32) (p123.2.1 : Int32) t0_1 t0_2 t7_0 (p123.2.2.2.2.2.2.2.2.2.2.2.2.2.2.2.2 : (Nat → Int32))) : (Int32 × Int32 × (Nat → Int32))))) else (True)
def S_NM_figures_J85 (x2 : Int32) (x3 : Int32) (x4 : Int32) (x5 : Int32) (x6 : Int32) (t0_0 : Int32) (t0_1 : Int32) (t0_2 : Int32) (t1_0 : Int32) (t1_1 : Int32) (t1_2 : Int32) (t1_3 : Int32) (t1_4 : Int64) (t1_5 : Int32) (t1_6 : Int32) (t1_7 : Int64) (t1_8 : Int32) (t1_9 : Int64) (t1_10 : Int32) (t2_0 : (Nat → Int32)) (t3_0 : (Nat → Int32)) (t4_0 : (Nat → Int32)) (t5_0 : (Nat → Int32)) (t6_0 : (Nat → Int32)) (t7_0 : (Nat → Int32)) (t8_0 : (Nat → Int64)) (lx40 : Int32) (j65 : Int64) (lx70 : Int32) : Prop := (True ∧ S_FR_fixed j65 lx70 x5 x6 t1_0 t1_1 t1_2 t1_3 t1_4 t1_5 t1_6 t1_7 t1_8 t1_9 t1_10 t2_0 t3_0 t4_0 t5_0 t6_0) ∧ (S_NM_figures_c89 x2 x3 x4 x5 x6 t0_0 t0_1 t0_2 t1_0 t1_1 t1_2 t1_3 t1_4 t1_5 t1_6 t1_7 t1_8 t1_9 t1_10 t2_0 t3_0 t4_0 t5_0 t6_0 t7_0 t8_0 lx40 j65 lx70 ((F_FR_fixed j65 lx70 x5 x6 t1_0 t1_1 t1_2 t1_3 t1_4 t1_5 t1_6 t1_7 t1_8 t1_9 t1_10 t2_0 t3_0 t4_0 t5_0 t6_0) : (Int32 × Int32 × Int32 × Int32 × Int32 × Int64 × Int32 × Int32 × Int64 × Int32 × Int64 × Int32 × (Nat → Int32) × (Nat → Int32) × (Nat → Int32) × (Nat → Int32) × (Nat → Int32))))
def S_NM_figures_c126_7 (x2 : Int32) (x3 : Int32) (x4 : Int32) (x5 : Int32) (x6 : Int32) (t0_0 : Int32) (t0_1 : Int32) (t0_2 : Int32) (t1_0 : Int32) (t1_1 : Int32) (t1_2 : Int32) (t1_3 : Int32) (t1_4 : Int64) (t1_5 : Int32) (t1_6 : Int32) (t1_7 : Int64) (t1_8 : Int32) (t1_9 : Int64) (t1_10 : Int32) (t2_0 : (Nat → Int32)) (t3_0 : (Nat → Int32)) (t4_0 : (Nat → Int32)) (t5_0 : (Nat → Int32)) (t6_0 : (Nat → Int32)) (t7_0 : (Nat → Int32)) (t8_0 : (Nat → Int64)) (lx40 : Int32) (j65 : Int64) (lx183 : Int32) (p230 : (Int32 × Int32 × Int32 × Int32 × Int32 × Int64 × Int32 × Int32 × Int64 × Int32 × Int64 × Int32 × (Nat → Int32) × (Nat → Int32) × (Nat → Int32) × (Nat → Int32) × (Nat → Int32))) (a204 : Int32) (y206 : Int32) (y207 : Int32) (y208 : Int32) (y209 : Int32) (y210 : Int64) (y211 : Int32) (y212 : Int32) (y213 : Int64) (y214 : Int32) (y215 : Int64) (y216 : Int32) (f217 : (Nat → Int32)) (f219 : (Nat → Int32)) (f221 : (Nat → Int32)) (f223 : (Nat → Int32)) (f225 : (Nat → Int32)) (p275 : (Int32 × Int32 × (Nat → Int32))) : Prop := True
def S_NM_figures_c63 (x2 : Int32) (x3 : Int32) (x4 : Int32) (x5 : Int32) (x6 : Int32) (t0_0 : Int32) (t0_1 : Int32) (t0_2 : Int32) (t1_0 : Int32) (t1_1 : Int32) (t1_2 : Int32) (t1_3 : Int32) (t1_4 : Int64) (t1_5 : Int32) (t1_6 : Int32) (t1_7 : Int64) (t1_8 : Int32) (t1_9 : Int64) (t1_10 : Int32) (t2_0 : (Nat → Int32)) (t3_0 : (Nat → Int32)) (t4_0 : (Nat → Int32)) (t5_0 : (Nat → Int32)) (t6_0 : (Nat → Int32)) (t7_0 : (Nat → Int32)) (t8_0 : (Nat → Int64)) (lx40 : Int32) (j65 : Int64) (lx183 : Int32) (p230 : (Int32 × Int32 × Int32 × Int32 × Int32 × Int64 × Int32 × Int32 × Int64 × Int32 × Int64 × Int32 × (Nat → Int32) × (Nat → Int32) × (Nat → Int32) × (Nat → Int32) × (Nat → Int32))) : Prop := if (p230.2.1 : Int32) ≤ (0 : Int32) then ((True ∧ S_NM_show (1600 : Int32) (p230.1 : Int32) (p230.2.1 : Int32) t0_1 t0_2 t7_0 (p230.2.2.2.2.2.2.2.2.2.2.2.2.2.2.2.2 : (Nat → Int32))) ∧ (S_NM_figures_c126_7 x2 x3 x4 x5 x6 t0_0 t0_1 t0_2 t1_0 t1_1 t1_2 t1_3 t1_4 t1_5 t1_6 t1_7 t1_8 t1_9 t1_10 t2_0 t3_0 t4_0 t5_0 t6_0 t7_0 t8_0 lx40 j65 lx183 p230 (p230.1 : Int32) (p230.2.1 : Int32) (p230.2.2.1 : Int32) (p230.2.2.2.1 : Int32) (p230.2.2.2.2.1 : Int32) (p230.2.2.2.2.2.1 : Int64) (p230.2.2.2.2.2.2.1 : Int32) (p230.2.2.2.2.2.2.2.1 : Int32) (p230.2.2.2.2.2.2.2.2.1 : Int64) (p230.2.2.2.2.2.2.2.2.2.1 : Int32) (p230.2.2.2.2.2.2.2.2.2.2.1 : Int64) (p230.2.2.2.2.2.2.2.2.2.2.2.1 : Int32) (p230.2.2.2.2.2.2.2.2.2.2.2.2.1 : (Nat → Int32)) (p230.2.2.2.2.2.2.2.2.2.2.2.2.2.1 : (Nat → Int32)) (p230.2.2.2.2.2.2.2.2.2.2.2.2.2.2.1 : (Nat → Int32)) (p230.2.2.2.2.2.2.2.2.2.2.2.2.2.2.2.1 : (Nat → Int32)) (p230.2.2.2.2.2.2.2.2.2.2.2.2.2.2.2.2 : (Nat → Int32)) ((F_NM_show (1600 : Int32) (p230.1 : Int32) (p230.2.1 : Int32) t0_1 t0_2 t7_0 (p230.2.2.2.2.2.2.2.2.2.2.2.2.2.2.2.2 : (Nat → Int32))) : (Int32 × Int32 × (Nat → Int32))))) else (True)
def S_NM_figures_J59 (x2 : Int32) (x3 : Int32) (x4 : Int32) (x5 : Int32) (x6 : Int32) (t0_0 : Int32) (t0_1 : Int32) (t0_2 : Int32) (t1_0 : Int32) (t1_1 : Int32) (t1_2 : Int32) (t1_3 : Int32) (t1_4 : Int64) (t1_5 : Int32) (t1_6 : Int32) (t1_7 : Int64) (t1_8 : Int32) (t1_9 : Int64) (t1_10 : Int32) (t2_0 : (Nat → Int32)) (t3_0 : (Nat → Int32)) (t4_0 : (Nat → Int32)) (t5_0 : (Nat → Int32)) (t6_0 : (Nat → Int32)) (t7_0 : (Nat → Int32)) (t8_0 : (Nat → Int64)) (lx40 : Int32) (j65 : Int64) (lx183 : Int32) : Prop := (True ∧ S_FR_scientific j65 lx183 x5 x6 t1_0 t1_1 t1_2 t1_3 t1_4 t1_5 t1_6 t1_7 t1_8 t1_9 t1_10 t2_0 t3_0 t4_0 t5_0 t6_0) ∧ (S_NM_figures_c63 x2 x3 x4 x5 x6 t0_0 t0_1 t0_2 t1_0 t1_1 t1_2 t1_3 t1_4 t1_5 t1_6 t1_7 t1_8 t1_9 t1_10 t2_0 t3_0 t4_0 t5_0 t6_0 t7_0 t8_0 lx40 j65 lx183 ((F_FR_scientific j65 lx183 x5 x6 t1_0 t1_1 t1_2 t1_3 t1_4 t1_5 t1_6 t1_7 t1_8 t1_9 t1_10 t2_0 t3_0 t4_0 t5_0 t6_0) : (Int32 × Int32 × Int32 × Int32 × Int32 × Int64 × Int32 × Int32 × Int64 × Int32 × Int64 × Int32 × (Nat → Int32) × (Nat → Int32) × (Nat → Int32) × (Nat → Int32) × (Nat → Int32))))
def S_NM_figures_J19 (x2 : Int32) (x3 : Int32) (x4 : Int32) (x5 : Int32) (x6 : Int32) (t0_0 : Int32) (t0_1 : Int32) (t0_2 : Int32) (t1_0 : Int32) (t1_1 : Int32) (t1_2 : Int32) (t1_3 : Int32) (t1_4 : Int64) (t1_5 : Int32) (t1_6 : Int32) (t1_7 : Int64) (t1_8 : Int32) (t1_9 : Int64) (t1_10 : Int32) (t2_0 : (Nat → Int32)) (t3_0 : (Nat → Int32)) (t4_0 : (Nat → Int32)) (t5_0 : (Nat → Int32)) (t6_0 : (Nat → Int32)) (t7_0 : (Nat → Int32)) (t8_0 : (Nat → Int64)) (lx40 : Int32) : Prop := if lx40 ≤ (0 : Int32) then ((True ∧ S_NM_bitsOf x2 x3 lx40 t0_1 t0_2 t8_0) ∧ (if x4 = (0 : Int32) then (if x2 = (3 : Int32) then (S_NM_figures_J85 x2 x3 x4 x5 x6 t0_0 t0_1 t0_2 t1_0 t1_1 t1_2 t1_3 t1_4 t1_5 t1_6 t1_7 t1_8 t1_9 t1_10 t2_0 t3_0 t4_0 t5_0 t6_0 t7_0 t8_0 lx40 ((F_NM_bitsOf x2 x3 lx40 t0_1 t0_2 t8_0) : Int64) 1) else (S_NM_figures_J85 x2 x3 x4 x5 x6 t0_0 t0_1 t0_2 t1_0 t1_1 t1_2 t1_3 t1_4 t1_5 t1_6 t1_7 t1_8 t1_9 t1_10 t2_0 t3_0 t4_0 t5_0 t6_0 t7_0 t8_0 lx40 ((F_NM_bitsOf x2 x3 lx40 t0_1 t0_2 t8_0) : Int64) 0)) else (if x2 = (3 : Int32) then (S_NM_figures_J59 x2 x3 x4 x5 x6 t0_0 t0_1 t0_2 t1_0 t1_1 t1_2 t1_3 t1_4 t1_5 t1_6 t1_7 t1_8 t1_9 t1_10 t2_0 t3_0 t4_0 t5_0 t6_0 t7_0 t8_0 lx40 ((F_NM_bitsOf x2 x3 lx40 t0_1 t0_2 t8_0) : Int64) 1) else (S_NM_figures_J59 x2 x3 x4 x5 x6 t0_0 t0_1 t0_2 t1_0 t1_1 t1_2 t1_3 t1_4 t1_5 t1_6 t1_7 t1_8 t1_9 t1_10 t2_0 t3_0 t4_0 t5_0 t6_0 t7_0 t8_0 lx40 ((F_NM_bitsOf x2 x3 lx40 t0_1 t0_2 t8_0) : Int64) 0)))) else (True)
def S_NM_figures_J14 (x2 : Int32) (x3 : Int32) (x4 : Int32) (x5 : Int32) (x6 : Int32) (t0_0 : Int32) (t0_1 : Int32) (t0_2 : Int32) (t1_0 : Int32) (t1_1 : Int32) (t1_2 : Int32) (t1_3 : Int32) (t1_4 : Int64) (t1_5 : Int32) (t1_6 : Int32) (t1_7 : Int64) (t1_8 : Int32) (t1_9 : Int64) (t1_10 : Int32) (t2_0 : (Nat → Int32)) (t3_0 : (Nat → Int32)) (t4_0 : (Nat → Int32)) (t5_0 : (Nat → Int32)) (t6_0 : (Nat → Int32)) (t7_0 : (Nat → Int32)) (t8_0 : (Nat → Int64)) : Prop := S_NM_figures_J19 x2 x3 x4 x5 x6 t0_0 t0_1 t0_2 t1_0 t1_1 t1_2 t1_3 t1_4 t1_5 t1_6 t1_7 t1_8 t1_9 t1_10 t2_0 t3_0 t4_0 t5_0 t6_0 t7_0 t8_0 1
def S_NM_figures (x2 : Int32) (x3 : Int32) (x4 : Int32) (x5 : Int32) (x6 : Int32) (t0_0 : Int32) (t0_1 : Int32) (t0_2 : Int32) (t1_0 : Int32) (t1_1 : Int32) (t1_2 : Int32) (t1_3 : Int32) (t1_4 : Int64) (t1_5 : Int32) (t1_6 : Int32) (t1_7 : Int64) (t1_8 : Int32) (t1_9 : Int64) (t1_10 : Int32) (t2_0 : (Nat → Int32)) (t3_0 : (Nat → Int32)) (t4_0 : (Nat → Int32)) (t5_0 : (Nat → Int32)) (t6_0 : (Nat → Int32)) (t7_0 : (Nat → Int32)) (t8_0 : (Nat → Int64)) : Prop := if x2 < (2 : Int32) then (S_NM_figures_J14 x2 x3 x4 x5 x6 t0_0 t0_1 t0_2 t1_0 t1_1 t1_2 t1_3 t1_4 t1_5 t1_6 t1_7 t1_8 t1_9 t1_10 t2_0 t3_0 t4_0 t5_0 t6_0 t7_0 t8_0) else (if ((F_NM_no_IIZ x2 x3) : Int32) = (0 : Int32) then (S_NM_figures_J19 x2 x3 x4 x5 x6 t0_0 t0_1 t0_2 t1_0 t1_1 t1_2 t1_3 t1_4 t1_5 t1_6 t1_7 t1_8 t1_9 t1_10 t2_0 t3_0 t4_0 t5_0 t6_0 t7_0 t8_0 0) else (S_NM_figures_J14 x2 x3 x4 x5 x6 t0_0 t0_1 t0_2 t1_0 t1_1 t1_2 t1_3 t1_4 t1_5 t1_6 t1_7 t1_8 t1_9 t1_10 t2_0 t3_0 t4_0 t5_0 t6_0 t7_0 t8_0))
set_option maxRecDepth 100000 in
set_option maxHeartbeats 4000000 in
theorem X_NM_figures (l : Launch) (D : va_G) (g : Nat → ClassId) (q : Nat → Nat) (ws : va_W) (x2 : Int32) (x3 : Int32) (x4 : Int32) (x5 : Int32) (x6 : Int32) (hI : q_I (msh g q) q ws) (t0_0 : Int32) (t0_1 : Int32) (t0_2 : Int32) (hT0 : ws[116]? = (some (q 116, .inr (12, [.int t0_0, .ref (q 117), .int t0_1, .ref (q 118), .int t0_2, .ref (q 119), .ref (q 134), .ref (q 145), .ref (q 153), .ref (q 157), .ref (q 167), .ref (q 168)])) : Option (Nat × va_E))) (t1_0 : Int32) (t1_1 : Int32) (t1_2 : Int32) (t1_3 : Int32) (t1_4 : Int64) (t1_5 : Int32) (t1_6 : Int32) (t1_7 : Int64) (t1_8 : Int32) (t1_9 : Int64) (t1_10 : Int32) (hT1 : ws[145]? = (some (q 145, .inr (15, [.int t1_0, .ref (q 146), .ref (q 147), .ref (q 148), .ref (q 149), .ref (q 150), .ref (q 151), .ref (q 152), .int t1_1, .int t1_2, .int t1_3, .long t1_4, .int t1_5, .int t1_6, .long t1_7, .int t1_8, .long t1_9, .int t1_10])) : Option (Nat × va_E))) (t2_0 : (Nat → Int32)) (hT2 : ws[146]? = (some (q 146, .inl (g 0, (156 : Int32).toNatClampNeg, .inl t2_0)) : Option (Nat × va_E))) (t3_0 : (Nat → Int32)) (hT3 : ws[147]? = (some (q 147, .inl (g 0, (156 : Int32).toNatClampNeg, .inl t3_0)) : Option (Nat × va_E))) (t4_0 : (Nat → Int32)) (hT4 : ws[148]? = (some (q 148, .inl (g 0, (1404 : Int32).toNatClampNeg, .inl t4_0)) : Option (Nat × va_E))) (t5_0 : (Nat → Int32)) (hT5 : ws[151]? = (some (q 151, .inl (g 0, (1404 : Int32).toNatClampNeg, .inl t5_0)) : Option (Nat × va_E))) (t6_0 : (Nat → Int32)) (hT6 : ws[152]? = (some (q 152, .inl (g 0, (1600 : Int32).toNatClampNeg, .inl t6_0)) : Option (Nat × va_E))) (t7_0 : (Nat → Int32)) (hT7 : ws[118]? = (some (q 118, .inl (g 0, (12200 : Int32).toNatClampNeg, .inl t7_0)) : Option (Nat × va_E))) (t8_0 : (Nat → Int64)) (hT8 : ws[167]? = (some (q 167, .inl (g 1, 20, .inr (.inl t8_0))) : Option (Nat × va_E))) (hzx4 : 0 ≤ x4.toInt ∧ x4.toInt ≤ 1) (hS : True ∧ S_NM_figures x2 x3 x4 x5 x6 t0_0 t0_1 t0_2 t1_0 t1_1 t1_2 t1_3 t1_4 t1_5 t1_6 t1_7 t1_8 t1_9 t1_10 t2_0 t3_0 t4_0 t5_0 t6_0 t7_0 t8_0) : q_mI l y_NM_figures prog_14_method_34_code 9 (.int) 4 0 0 D g [.ref (q 116), .int x2, .int x3, .int x4, .int x5, .int x6] ws (fun r u => q_I (msh g q) q u ∧ q_un ws u [116, 118, 145, 146, 147, 148, 151, 152] ∧ ∃ (u0_0 : Int32) (u0_2 : Int32) (u1_0 : Int32) (u1_1 : Int32) (u1_2 : Int32) (u1_3 : Int32) (u1_4 : Int64) (u1_5 : Int32) (u1_6 : Int32) (u1_7 : Int64) (u1_8 : Int32) (u1_9 : Int64) (u1_10 : Int32) (u2_0 : (Nat → Int32)) (u3_0 : (Nat → Int32)) (u4_0 : (Nat → Int32)) (u5_0 : (Nat → Int32)) (u6_0 : (Nat → Int32)) (u7_0 : (Nat → Int32)), u[116]? = (some (q 116, .inr (12, [.int u0_0, .ref (q 117), .int t0_1, .ref (q 118), .int u0_2, .ref (q 119), .ref (q 134), .ref (q 145), .ref (q 153), .ref (q 157), .ref (q 167), .ref (q 168)])) : Option (Nat × va_E)) ∧ u[145]? = (some (q 145, .inr (15, [.int u1_0, .ref (q 146), .ref (q 147), .ref (q 148), .ref (q 149), .ref (q 150), .ref (q 151), .ref (q 152), .int u1_1, .int u1_2, .int u1_3, .long u1_4, .int u1_5, .int u1_6, .long u1_7, .int u1_8, .long u1_9, .int u1_10])) : Option (Nat × va_E)) ∧ u[146]? = (some (q 146, .inl (g 0, (156 : Int32).toNatClampNeg, .inl u2_0)) : Option (Nat × va_E)) ∧ u[147]? = (some (q 147, .inl (g 0, (156 : Int32).toNatClampNeg, .inl u3_0)) : Option (Nat × va_E)) ∧ u[148]? = (some (q 148, .inl (g 0, (1404 : Int32).toNatClampNeg, .inl u4_0)) : Option (Nat × va_E)) ∧ u[151]? = (some (q 151, .inl (g 0, (1404 : Int32).toNatClampNeg, .inl u5_0)) : Option (Nat × va_E)) ∧ u[152]? = (some (q 152, .inl (g 0, (1600 : Int32).toNatClampNeg, .inl u6_0)) : Option (Nat × va_E)) ∧ u[118]? = (some (q 118, .inl (g 0, (12200 : Int32).toNatClampNeg, .inl u7_0)) : Option (Nat × va_E)) ∧ (0 ≤ r.toInt) ∧ (r.toInt ≤ 1600) ∧ (u0_2.toInt ≤ 12200) ∧ (u0_2.toInt ≤ t0_2.toInt + 1600) ∧ (r.toInt ≤ u0_2.toInt) ∧ (r, u0_0, u0_2, u1_0, u1_1, u1_2, u1_3, u1_4, u1_5, u1_6, u1_7, u1_8, u1_9, u1_10, u2_0, u3_0, u4_0, u5_0, u6_0, u7_0) = (F_NM_figures x2 x3 x4 x5 x6 t0_0 t0_1 t0_2 t1_0 t1_1 t1_2 t1_3 t1_4 t1_5 t1_6 t1_7 t1_8 t1_9 t1_10 t2_0 t3_0 t4_0 t5_0 t6_0 t7_0 t8_0)) := by
  intro sz
  refine q_into (by decide) (Nat.le_of_ble_eq_true rfl) ?_
  intro p e s m below meth c ls hsz C0 V hl
  have hx := C0.1
  have hb := C0.2.1
  clear hzx4
  obtain ⟨btt0_1, btt0_2⟩ := n_w116 hI hT0
  replace btt0_1 : q_F (0 ≤ t0_1.toInt ∧ t0_1.toInt ≤ 4100) := btt0_1
  replace btt0_2 : q_F (0 ≤ t0_2.toInt ∧ t0_2.toInt ≤ 12200) := btt0_2
  have btt1_2 := n_w145 hI hT1
  clear btt1_2
  have hF : q_un ws ws [116, 118, 145, 146, 147, 148, 151, 152] := q_u0
  have hl : lv_has ls 9 [(0, .ref (q 116)), (1, .int x2), (2, .int x3), (3, .int x4), (4, .int x5), (5, .int x6)] := hl
  refine lv_aload_n hx hb d_14_34_0 rfl (lv_at hl 0 rfl) ?_
  refine lv_iload_n hx hb d_14_34_1 rfl (lv_at hl 1 rfl) ?_
  refine lv_iconst (v := 2) hx hb d_14_34_2 (by decide) ?_
  refine q_join (X := Int32) (fun z H locs ls _ => q_F (0 ≤ z.toInt) ∧ q_F (z.toInt ≤ 1) ∧ q_Wd D g (va_A ws sz) s ws H locs ∧ lv_has ls 9 [(0, .ref (q 116)), (1, .int x2), (2, .int x3), (3, .int x4), (4, .int x5), (5, .int x6)] ∧ F_NM_figures_J19 x2 x3 x4 x5 x6 t0_0 t0_1 t0_2 t1_0 t1_1 t1_2 t1_3 t1_4 t1_5 t1_6 t1_7 t1_8 t1_9 t1_10 t2_0 t3_0 t4_0 t5_0 t6_0 t7_0 t8_0 z = (F_NM_figures x2 x3 x4 x5 x6 t0_0 t0_1 t0_2 t1_0 t1_1 t1_2 t1_3 t1_4 t1_5 t1_6 t1_7 t1_8 t1_9 t1_10 t2_0 t3_0 t4_0 t5_0 t6_0 t7_0 t8_0) ∧ True ∧ S_NM_figures_J19 x2 x3 x4 x5 x6 t0_0 t0_1 t0_2 t1_0 t1_1 t1_2 t1_3 t1_4 t1_5 t1_6 t1_7 t1_8 t1_9 t1_10 t2_0 t3_0 t4_0 t5_0 t6_0 t7_0 t8_0 z) (fun z => [.int z, .ref (q 116)]) 19 0 0 ?_ ?_
  ·
    rintro lx40 H locs ls _ hZ9
    obtain ⟨i51, hZ9⟩ := hZ9
    obtain ⟨i52, hZ9⟩ := hZ9
    obtain ⟨V, hZ9⟩ := hZ9
    obtain ⟨hl, hZ9⟩ := hZ9
    obtain ⟨hR53, hS54⟩ := hZ9
    replace i51 : q_F (0 ≤ lx40.toInt) := i51
    replace i52 : q_F (lx40.toInt ≤ 1) := i52
    replace hl : lv_has ls 9 [(0, .ref (q 116)), (1, .int x2), (2, .int x3), (3, .int x4), (4, .int x5), (5, .int x6)] := hl
    refine q_put (ci := 12) (j := 0) (v := .int lx40) (ty := .int) C0 V i_NM o_NM n_NM rfl rfl hT0 (by decide) w_2298 rfl rfl rfl rfl (Nat.le_of_ble_eq_true rfl) d_14_34_19 (fun H locs w58 hu59 hT0 V => ?_)
    replace hT0 : w58[116]? = (some (q 116, .inr (12, [.int lx40, .ref (q 117), .int t0_1, .ref (q 118), .int t0_2, .ref (q 119), .ref (q 134), .ref (q 145), .ref (q 153), .ref (q 157), .ref (q 167), .ref (q 168)])) : Option (Nat × va_E)) := hT0
    replace hI := n_p116 hI hu59 hT0 (by first | with_reducible exact q_fe btt0_1 | exact ⟨(by have t1 : 0 ≤ t0_1.toInt ∧ t0_1.toInt ≤ 4100 := btt0_1; omega), (by have t1 : 0 ≤ t0_1.toInt ∧ t0_1.toInt ≤ 4100 := btt0_1; omega)⟩) (by first | with_reducible exact q_fe btt0_2 | exact ⟨(by have t1 : 0 ≤ t0_2.toInt ∧ t0_2.toInt ≤ 12200 := btt0_2; omega), (by have t1 : 0 ≤ t0_2.toInt ∧ t0_2.toInt ≤ 12200 := btt0_2; omega)⟩)
    replace hT1 := (hu59 _ (by decide)).trans hT1
    replace hT2 := (hu59 _ (by decide)).trans hT2
    replace hT3 := (hu59 _ (by decide)).trans hT3
    replace hT4 := (hu59 _ (by decide)).trans hT4
    replace hT5 := (hu59 _ (by decide)).trans hT5
    replace hT6 := (hu59 _ (by decide)).trans hT6
    replace hT7 := (hu59 _ (by decide)).trans hT7
    replace hT8 := (hu59 _ (by decide)).trans hT8
    replace hF := q_us hF hu59 (by simp)
    refine lv_aload_n hx hb d_14_34_22 rfl (lv_at hl 0 rfl) ?_
    refine q_get (ci := 12) (j := 0) (v := .int lx40) C0 V i_NM rfl rfl hT0 (by decide) w_2298 rfl d_14_34_23 ?_
    refine lv_if_le (tgt := 31) hx hb d_14_34_26 (by decide) (fun c60 => ?_) (fun c60 => ?_)
    ·
      have b61 : q_F (lx40.toInt ≤ 0) := (q_leI c60)
      refine lv_aload_n hx hb d_14_34_31 rfl (lv_at hl 0 rfl) ?_
      refine lv_iload_n hx hb d_14_34_32 rfl (lv_at hl 1 rfl) ?_
      refine lv_iload_n hx hb d_14_34_33 rfl (lv_at hl 2 rfl) ?_
      have ob62 : True ∧ S_NM_bitsOf x2 x3 lx40 t0_1 t0_2 t8_0 := (by have h := hS54; rw [S_NM_figures_J19.eq_1] at h; rw [if_pos c60] at h; with_reducible exact h.2.1)
      refine q_gol V (q_runV (As := [.int x2, .int x3]) (rest := []) (d := 1) (mc := 0) (ms := 0) (ci := 12) C0 V rfl LV_NM_138 (X_NM_bitsOf l D g q w58  x2 x3 hI lx40 t0_1 t0_2 hT0 t8_0 hT8 ob62 _) rfl rfl hT0 rfl hl.1 rfl (Nat.le_of_ble_eq_true rfl) ⟨by decide, by decide⟩ ⟨Nat.le_of_ble_eq_true rfl, Nat.le_of_ble_eq_true rfl⟩ d_14_34_34) (fun j65 u63 H locs hp64 V => ?_)
      obtain ⟨rfl, hE66⟩ := hp64
      have e67 : j65 = (F_NM_bitsOf x2 x3 lx40 t0_1 t0_2 t8_0) := hE66
      refine lv_lstore (lv' := [(6, .long j65), (0, .ref (q 116)), (1, .int x2), (2, .int x3), (3, .int x4), (4, .int x5), (5, .int x6)]) hx hb d_14_34_37 hl (by decide) rfl (fun ls hl => ?_)
      refine lv_iload_n hx hb d_14_34_39 rfl (lv_at hl 4 rfl) ?_
      refine lv_if_eq (tgt := 69) hx hb d_14_34_40 (by decide) (fun c68 => ?_) (fun c68 => ?_)
      ·
        refine lv_aload_n hx hb d_14_34_69 rfl (lv_at hl 1 rfl) ?_
        refine q_get (ci := 12) (j := 7) (v := .ref (q 145)) C0 V i_NM rfl rfl hT0 (by decide) w_2305 rfl d_14_34_70 ?_
        refine lv_lload hx hb d_14_34_73 (lv_at hl 0 rfl) ?_
        refine lv_iload_n hx hb d_14_34_75 rfl (lv_at hl 2 rfl) ?_
        refine lv_iconst (v := 3) hx hb d_14_34_76 (by decide) ?_
        refine q_join (X := Int32) (fun z H locs ls _ => q_F (lx40.toInt ≤ z.toInt) ∧ q_F (z.toInt ≤ lx40.toInt + 1) ∧ q_Wd D g (va_A ws sz) s w58 H locs ∧ lv_has ls 9 [(0, .ref (q 116)), (4, .int x5), (5, .int x6)] ∧ F_NM_figures_J85 x2 x3 x4 x5 x6 t0_0 t0_1 t0_2 t1_0 t1_1 t1_2 t1_3 t1_4 t1_5 t1_6 t1_7 t1_8 t1_9 t1_10 t2_0 t3_0 t4_0 t5_0 t6_0 t7_0 t8_0 lx40 j65 z = (F_NM_figures x2 x3 x4 x5 x6 t0_0 t0_1 t0_2 t1_0 t1_1 t1_2 t1_3 t1_4 t1_5 t1_6 t1_7 t1_8 t1_9 t1_10 t2_0 t3_0 t4_0 t5_0 t6_0 t7_0 t8_0) ∧ True ∧ S_NM_figures_J85 x2 x3 x4 x5 x6 t0_0 t0_1 t0_2 t1_0 t1_1 t1_2 t1_3 t1_4 t1_5 t1_6 t1_7 t1_8 t1_9 t1_10 t2_0 t3_0 t4_0 t5_0 t6_0 t7_0 t8_0 lx40 j65 z) (fun z => [.int z, .long j65, .ref (q 145)]) 85 0 0 ?_ ?_
        ·
          rintro lx70 H locs ls _ hZ9
          obtain ⟨i81, hZ9⟩ := hZ9
          obtain ⟨i82, hZ9⟩ := hZ9
          obtain ⟨V, hZ9⟩ := hZ9
          obtain ⟨hl, hZ9⟩ := hZ9
          obtain ⟨hR83, hS84⟩ := hZ9
          replace i81 : q_F (lx40.toInt ≤ lx70.toInt) := i81
          replace i82 : q_F (lx70.toInt ≤ lx40.toInt + 1) := i82
          replace hl : lv_has ls 9 [(0, .ref (q 116)), (4, .int x5), (5, .int x6)] := hl
          refine lv_iload hx hb d_14_34_85 (lv_at hl 1 rfl) ?_
          refine lv_iload hx hb d_14_34_87 (lv_at hl 2 rfl) ?_
          have ob88 : True ∧ S_FR_fixed j65 lx70 x5 x6 t1_0 t1_1 t1_2 t1_3 t1_4 t1_5 t1_6 t1_7 t1_8 t1_9 t1_10 t2_0 t3_0 t4_0 t5_0 t6_0 := (by have h := hS84; rw [S_NM_figures_J85.eq_1] at h; with_reducible exact h.2.1)
          refine q_goi V (q_runV (As := [.long j65, .int lx70, .int x5, .int x6]) (rest := []) (d := 3) (mc := 0) (ms := 0) (ci := 15) C0 V rfl LV_NM_227 (X_FR_fixed l D g q w58  j65 lx70 x5 x6 hI t1_0 t1_1 t1_2 t1_3 t1_4 t1_5 t1_6 t1_7 t1_8 t1_9 t1_10 hT1 t2_0 hT2 t3_0 hT3 t4_0 hT4 t5_0 hT5 t6_0 hT6 ⟨(by have t1 : 0 ≤ lx40.toInt := i51; have t2 : lx40.toInt ≤ lx70.toInt := i81; omega), (by have t1 : lx40.toInt ≤ 0 := b61; have t2 : lx70.toInt ≤ lx40.toInt + 1 := i82; omega)⟩ ob88 _) rfl rfl hT1 rfl hl.1 rfl (Nat.le_of_ble_eq_true rfl) ⟨by decide, by decide⟩ ⟨Nat.le_of_ble_eq_true rfl, Nat.le_of_ble_eq_true rfl⟩ d_14_34_89) (fun a91 u89 H locs hp90 V => ?_)
          obtain ⟨hI, hZ9⟩ := hp90
          obtain ⟨hu122, hZ9⟩ := hZ9
          obtain ⟨y93, hZ9⟩ := hZ9
          obtain ⟨y94, hZ9⟩ := hZ9
          obtain ⟨y95, hZ9⟩ := hZ9
          obtain ⟨y96, hZ9⟩ := hZ9
          obtain ⟨y97, hZ9⟩ := hZ9
          obtain ⟨y98, hZ9⟩ := hZ9
          obtain ⟨y99, hZ9⟩ := hZ9
          obtain ⟨y100, hZ9⟩ := hZ9
          obtain ⟨y101, hZ9⟩ := hZ9
          obtain ⟨y102, hZ9⟩ := hZ9
          obtain ⟨y103, hZ9⟩ := hZ9
          obtain ⟨f104, hZ9⟩ := hZ9
          obtain ⟨f106, hZ9⟩ := hZ9
          obtain ⟨f108, hZ9⟩ := hZ9
          obtain ⟨f110, hZ9⟩ := hZ9
          obtain ⟨f112, hZ9⟩ := hZ9
          obtain ⟨hO92, hZ9⟩ := hZ9
          obtain ⟨hA105, hZ9⟩ := hZ9
          obtain ⟨hA107, hZ9⟩ := hZ9
          obtain ⟨hA109, hZ9⟩ := hZ9
          obtain ⟨hA111, hZ9⟩ := hZ9
          obtain ⟨hA113, hZ9⟩ := hZ9
          replace hZ9 := hZ9.2.2.2.2.2.2
          obtain ⟨-, hE121⟩ := hZ9
          replace hO92 : u89[145]? = (some (q 145, .inr (15, [.int y93, .ref (q 146), .ref (q 147), .ref (q 148), .ref (q 149), .ref (q 150), .ref (q 151), .ref (q 152), .int y94, .int y95, .int y96, .long y97, .int y98, .int y99, .long y100, .int y101, .long y102, .int y103])) : Option (Nat × va_E)) := hO92
          replace hA105 : u89[146]? = (some (q 146, .inl (g 0, (156 : Int32).toNatClampNeg, .inl f104)) : Option (Nat × va_E)) := hA105
          replace hA107 : u89[147]? = (some (q 147, .inl (g 0, (156 : Int32).toNatClampNeg, .inl f106)) : Option (Nat × va_E)) := hA107
          replace hA109 : u89[148]? = (some (q 148, .inl (g 0, (1404 : Int32).toNatClampNeg, .inl f108)) : Option (Nat × va_E)) := hA109
          replace hA111 : u89[151]? = (some (q 151, .inl (g 0, (1404 : Int32).toNatClampNeg, .inl f110)) : Option (Nat × va_E)) := hA111
          replace hA113 : u89[152]? = (some (q 152, .inl (g 0, (1600 : Int32).toNatClampNeg, .inl f112)) : Option (Nat × va_E)) := hA113
          obtain ⟨p123, e124⟩ : ∃ z, z = (F_FR_fixed j65 lx70 x5 x6 t1_0 t1_1 t1_2 t1_3 t1_4 t1_5 t1_6 t1_7 t1_8 t1_9 t1_10 t2_0 t3_0 t4_0 t5_0 t6_0) := ⟨_, rfl⟩
          have e125 : a91 = p123.1 := congrArg (fun z => z.1) (hE121.trans e124.symm)
          have e126 : y93 = p123.2.1 := congrArg (fun z => z.2.1) (hE121.trans e124.symm)
          have e127 : y94 = p123.2.2.1 := congrArg (fun z => z.2.2.1) (hE121.trans e124.symm)
          have e128 : y95 = p123.2.2.2.1 := congrArg (fun z => z.2.2.2.1) (hE121.trans e124.symm)
          have e129 : y96 = p123.2.2.2.2.1 := congrArg (fun z => z.2.2.2.2.1) (hE121.trans e124.symm)
          have e130 : y97 = p123.2.2.2.2.2.1 := congrArg (fun z => z.2.2.2.2.2.1) (hE121.trans e124.symm)
          have e131 : y98 = p123.2.2.2.2.2.2.1 := congrArg (fun z => z.2.2.2.2.2.2.1) (hE121.trans e124.symm)
          have e132 : y99 = p123.2.2.2.2.2.2.2.1 := congrArg (fun z => z.2.2.2.2.2.2.2.1) (hE121.trans e124.symm)
          have e133 : y100 = p123.2.2.2.2.2.2.2.2.1 := congrArg (fun z => z.2.2.2.2.2.2.2.2.1) (hE121.trans e124.symm)
          have e134 : y101 = p123.2.2.2.2.2.2.2.2.2.1 := congrArg (fun z => z.2.2.2.2.2.2.2.2.2.1) (hE121.trans e124.symm)
          have e135 : y102 = p123.2.2.2.2.2.2.2.2.2.2.1 := congrArg (fun z => z.2.2.2.2.2.2.2.2.2.2.1) (hE121.trans e124.symm)
          have e136 : y103 = p123.2.2.2.2.2.2.2.2.2.2.2.1 := congrArg (fun z => z.2.2.2.2.2.2.2.2.2.2.2.1) (hE121.trans e124.symm)
          have e137 : f104 = p123.2.2.2.2.2.2.2.2.2.2.2.2.1 := congrArg (fun z => z.2.2.2.2.2.2.2.2.2.2.2.2.1) (hE121.trans e124.symm)
          have e138 : f106 = p123.2.2.2.2.2.2.2.2.2.2.2.2.2.1 := congrArg (fun z => z.2.2.2.2.2.2.2.2.2.2.2.2.2.1) (hE121.trans e124.symm)
          have e139 : f108 = p123.2.2.2.2.2.2.2.2.2.2.2.2.2.2.1 := congrArg (fun z => z.2.2.2.2.2.2.2.2.2.2.2.2.2.2.1) (hE121.trans e124.symm)
          have e140 : f110 = p123.2.2.2.2.2.2.2.2.2.2.2.2.2.2.2.1 := congrArg (fun z => z.2.2.2.2.2.2.2.2.2.2.2.2.2.2.2.1) (hE121.trans e124.symm)
          have e141 : f112 = p123.2.2.2.2.2.2.2.2.2.2.2.2.2.2.2.2 := congrArg (fun z => z.2.2.2.2.2.2.2.2.2.2.2.2.2.2.2.2) (hE121.trans e124.symm)
          replace hT0 := (hu122 _ (by decide)).trans hT0
          replace hT7 := (hu122 _ (by decide)).trans hT7
          replace hF := q_uc hF hu122 (by simp)
          have hR142 := (show F_NM_figures_c89 x2 x3 x4 x5 x6 t0_0 t0_1 t0_2 t1_0 t1_1 t1_2 t1_3 t1_4 t1_5 t1_6 t1_7 t1_8 t1_9 t1_10 t2_0 t3_0 t4_0 t5_0 t6_0 t7_0 t8_0 lx40 j65 lx70 p123 = (F_NM_figures x2 x3 x4 x5 x6 t0_0 t0_1 t0_2 t1_0 t1_1 t1_2 t1_3 t1_4 t1_5 t1_6 t1_7 t1_8 t1_9 t1_10 t2_0 t3_0 t4_0 t5_0 t6_0 t7_0 t8_0) from Eq.trans (by rw [e124, F_NM_figures_J85.eq_1]) hR83)
          have hS143 := (show True ∧ S_NM_figures_c89 x2 x3 x4 x5 x6 t0_0 t0_1 t0_2 t1_0 t1_1 t1_2 t1_3 t1_4 t1_5 t1_6 t1_7 t1_8 t1_9 t1_10 t2_0 t3_0 t4_0 t5_0 t6_0 t7_0 t8_0 lx40 j65 lx70 p123 from (by rw [e124]; have h := hS84; rw [S_NM_figures_J85.eq_1] at h; replace h := q_s2 h; with_reducible exact h))
          refine lv_istore (lv' := [(8, .int a91), (0, .ref (q 116)), (4, .int x5), (5, .int x6)]) hx hb d_14_34_92 hl (by decide) rfl (fun ls hl => ?_)
          refine lv_aload_n hx hb d_14_34_94 rfl (lv_at hl 1 rfl) ?_
          refine lv_aload_n hx hb d_14_34_95 rfl (lv_at hl 1 rfl) ?_
          refine q_get (ci := 12) (j := 7) (v := .ref (q 145)) C0 V i_NM rfl rfl hT0 (by decide) w_2305 rfl d_14_34_96 ?_
          refine q_getN (ci := 15) (j := 0) (v := .int y93) C0 V i_FR rfl rfl hO92 (by decide) wo_2075 rfl d_14_34_99 ?_
          refine q_put (ci := 12) (j := 0) (v := .int y93) (ty := .int) C0 V i_NM o_NM n_NM rfl rfl hT0 (by decide) w_2298 rfl rfl rfl rfl (Nat.le_of_ble_eq_true rfl) d_14_34_102 (fun H locs w147 hu148 hT0 V => ?_)
          replace hT0 : w147[116]? = (some (q 116, .inr (12, [.int y93, .ref (q 117), .int t0_1, .ref (q 118), .int t0_2, .ref (q 119), .ref (q 134), .ref (q 145), .ref (q 153), .ref (q 157), .ref (q 167), .ref (q 168)])) : Option (Nat × va_E)) := hT0
          replace hI := n_p116 hI hu148 hT0 (by first | with_reducible exact q_fe btt0_1 | exact ⟨(by have t1 : 0 ≤ t0_1.toInt ∧ t0_1.toInt ≤ 4100 := btt0_1; omega), (by have t1 : 0 ≤ t0_1.toInt ∧ t0_1.toInt ≤ 4100 := btt0_1; omega)⟩) (by first | with_reducible exact q_fe btt0_2 | exact ⟨(by have t1 : 0 ≤ t0_2.toInt ∧ t0_2.toInt ≤ 12200 := btt0_2; omega), (by have t1 : 0 ≤ t0_2.toInt ∧ t0_2.toInt ≤ 12200 := btt0_2; omega)⟩)
          replace hO92 := (hu148 _ (by decide)).trans hO92
          replace hA105 := (hu148 _ (by decide)).trans hA105
          replace hA107 := (hu148 _ (by decide)).trans hA107
          replace hA109 := (hu148 _ (by decide)).trans hA109
          replace hA111 := (hu148 _ (by decide)).trans hA111
          replace hA113 := (hu148 _ (by decide)).trans hA113
          replace hT7 := (hu148 _ (by decide)).trans hT7
          replace hF := q_us hF hu148 (by simp)
          refine lv_aload_n hx hb d_14_34_105 rfl (lv_at hl 1 rfl) ?_
          refine q_get (ci := 12) (j := 0) (v := .int y93) C0 V i_NM rfl rfl hT0 (by decide) w_2298 rfl d_14_34_106 ?_
          refine lv_if_le (tgt := 116) hx hb d_14_34_109 (by decide) (fun c149 => ?_) (fun c149 => ?_)
          ·
            refine lv_aload_n hx hb d_14_34_116 rfl (lv_at hl 1 rfl) ?_
            refine lv_aload_n hx hb d_14_34_117 rfl (lv_at hl 1 rfl) ?_
            refine q_get (ci := 12) (j := 7) (v := .ref (q 145)) C0 V i_NM rfl rfl hT0 (by decide) w_2305 rfl d_14_34_118 ?_
            refine q_getN (ci := 15) (j := 7) (v := .ref (q 152)) C0 V i_FR rfl rfl hO92 (by decide) wo_2083 rfl d_14_34_121 ?_
            refine lv_iload hx hb d_14_34_124 (lv_at hl 0 rfl) ?_
            have ob151 : True ∧ S_NM_show (1600 : Int32) a91 y93 t0_1 t0_2 t7_0 f112 := (by rw [e141, e126, e125]; have h := hS143; rw [S_NM_figures_c89.eq_1] at h; have c149x := c149; rw [e126] at c149x; rw [if_pos c149x] at h; with_reducible exact h.2.1)
            refine q_goi V (q_runV (As := [.ref (q 152), .int a91]) (rest := []) (d := 1) (mc := 0) (ms := 0) (ci := 12) C0 V rfl LV_NM_269 (X_NM_show l D g q w147 152 1600 (n_r152 g q) a91 (by decide) hI y93 t0_1 t0_2 hT0 t7_0 hT7 f112 hA113 ob151 _) rfl rfl hT0 rfl hl.1 rfl (Nat.le_of_ble_eq_true rfl) ⟨by decide, by decide⟩ ⟨Nat.le_of_ble_eq_true rfl, Nat.le_of_ble_eq_true rfl⟩ d_14_34_126) (fun a154 u152 H locs hp153 V => ?_)
            obtain ⟨hI, hZ9⟩ := hp153
            obtain ⟨hu167, hZ9⟩ := hZ9
            obtain ⟨y156, hZ9⟩ := hZ9
            obtain ⟨f157, hZ9⟩ := hZ9
            obtain ⟨hO155, hZ9⟩ := hZ9
            obtain ⟨hA158, hZ9⟩ := hZ9
            obtain ⟨b159, hZ9⟩ := hZ9
            obtain ⟨b160, hZ9⟩ := hZ9
            replace hZ9 := hZ9.2.2
            obtain ⟨b163, hZ9⟩ := hZ9
            obtain ⟨b164, hZ9⟩ := hZ9
            obtain ⟨b165, hE166⟩ := hZ9
            replace hO155 : u152[116]? = (some (q 116, .inr (12, [.int y93, .ref (q 117), .int t0_1, .ref (q 118), .int y156, .ref (q 119), .ref (q 134), .ref (q 145), .ref (q 153), .ref (q 157), .ref (q 167), .ref (q 168)])) : Option (Nat × va_E)) := hO155
            replace hA158 : u152[118]? = (some (q 118, .inl (g 0, (12200 : Int32).toNatClampNeg, .inl f157)) : Option (Nat × va_E)) := hA158
            obtain ⟨p168, e169⟩ : ∃ z, z = (F_NM_show (1600 : Int32) a91 y93 t0_1 t0_2 t7_0 f112) := ⟨_, rfl⟩
            have e170 : a154 = p168.1 := congrArg (fun z => z.1) (hE166.trans e169.symm)
            have e171 : y156 = p168.2.1 := congrArg (fun z => z.2.1) (hE166.trans e169.symm)
            have e172 : f157 = p168.2.2 := congrArg (fun z => z.2.2) (hE166.trans e169.symm)
            replace b159 : q_F (0 ≤ y156.toInt) := b159
            replace b160 : q_F (y156.toInt ≤ 12200) := b160
            replace b163 : q_F (y156.toInt ≤ 1600) := b163
            replace b164 : q_F (y156.toInt ≤ a154.toInt) := b164
            replace b165 : q_F (a154.toInt ≤ y156.toInt) := b165
            replace hO92 := (hu167 _ (by decide)).trans hO92
            replace hA105 := (hu167 _ (by decide)).trans hA105
            replace hA107 := (hu167 _ (by decide)).trans hA107
            replace hA109 := (hu167 _ (by decide)).trans hA109
            replace hA111 := (hu167 _ (by decide)).trans hA111
            replace hA113 := (hu167 _ (by decide)).trans hA113
            replace hF := q_uc hF hu167 (by simp)
            have hR173 := (show F_NM_figures_c126 x2 x3 x4 x5 x6 t0_0 t0_1 t0_2 t1_0 t1_1 t1_2 t1_3 t1_4 t1_5 t1_6 t1_7 t1_8 t1_9 t1_10 t2_0 t3_0 t4_0 t5_0 t6_0 t7_0 t8_0 lx40 j65 lx70 p123 a91 y93 y94 y95 y96 y97 y98 y99 y100 y101 y102 y103 f104 f106 f108 f110 f112 p168 = (F_NM_figures x2 x3 x4 x5 x6 t0_0 t0_1 t0_2 t1_0 t1_1 t1_2 t1_3 t1_4 t1_5 t1_6 t1_7 t1_8 t1_9 t1_10 t2_0 t3_0 t4_0 t5_0 t6_0 t7_0 t8_0) from Eq.trans (by have c149x := c149; rw [e126] at c149x; rw [e169, e141, e140, e139, e138, e137, e136, e135, e134, e133, e132, e131, e130, e129, e128, e127, e126, e125, F_NM_figures_c89.eq_1, if_pos c149x]) hR142)
            have hS174 := (show True ∧ S_NM_figures_c126 x2 x3 x4 x5 x6 t0_0 t0_1 t0_2 t1_0 t1_1 t1_2 t1_3 t1_4 t1_5 t1_6 t1_7 t1_8 t1_9 t1_10 t2_0 t3_0 t4_0 t5_0 t6_0 t7_0 t8_0 lx40 j65 lx70 p123 a91 y93 y94 y95 y96 y97 y98 y99 y100 y101 y102 y103 f104 f106 f108 f110 f112 p168 from (by rw [e169, e141, e140, e139, e138, e137, e136, e135, e134, e133, e132, e131, e130, e129, e128, e127, e126, e125]; have h := hS143; rw [S_NM_figures_c89.eq_1] at h; have c149x := c149; rw [e126] at c149x; rw [if_pos c149x] at h; replace h := q_s2 h; with_reducible exact h))
            exact q_reti C0 V (⟨hI, hF, y93, y156, y93, y94, y95, y96, y97, y98, y99, y100, y101, y102, y103, f104, f106, f108, f110, f112, f157, hO155, hO92, hA105, hA107, hA109, hA111, hA113, hA158, (show 0 ≤ a154.toInt from (by have t1 : 0 ≤ y156.toInt := b159; have t2 : y156.toInt ≤ a154.toInt := b164; omega)), (show a154.toInt ≤ 1600 from (by have t1 : y156.toInt ≤ 1600 := b163; have t2 : a154.toInt ≤ y156.toInt := b165; omega)), (show y156.toInt ≤ 12200 from (by first | with_reducible exact q_fe b160 | (have t1 : y156.toInt ≤ 12200 := b160; omega))), (show y156.toInt ≤ t0_2.toInt + 1600 from (by have t1 : 0 ≤ t0_2.toInt ∧ t0_2.toInt ≤ 12200 := btt0_2; have t2 : y156.toInt ≤ 1600 := b163; omega)), (show a154.toInt ≤ y156.toInt from (by first | with_reducible exact q_fe b165 | (have t1 : a154.toInt ≤ y156.toInt := b165; omega))), (show (a154, y93, y156, y93, y94, y95, y96, y97, y98, y99, y100, y101, y102, y103, f104, f106, f108, f110, f112, f157) = (F_NM_figures x2 x3 x4 x5 x6 t0_0 t0_1 t0_2 t1_0 t1_1 t1_2 t1_3 t1_4 t1_5 t1_6 t1_7 t1_8 t1_9 t1_10 t2_0 t3_0 t4_0 t5_0 t6_0 t7_0 t8_0) from Eq.trans (by rw [e172, e171, e170, F_NM_figures_c126.eq_1]) hR173)⟩) d_14_34_129
          ·
            refine lv_iconst (v := 0) hx hb d_14_34_112 (by decide) ?_
            refine lv_goto (tgt := 129) hx hb d_14_34_113 (by decide) ?_
            exact q_reti C0 V (⟨hI, hF, y93, t0_2, y93, y94, y95, y96, y97, y98, y99, y100, y101, y102, y103, f104, f106, f108, f110, f112, t7_0, hT0, hO92, hA105, hA107, hA109, hA111, hA113, hT7, (show 0 ≤ (0 : Int32).toInt from (by have z26 : (0 : Int32).toInt = 0 := rfl; omega)), (show (0 : Int32).toInt ≤ 1600 from (by have z26 : (0 : Int32).toInt = 0 := rfl; omega)), (show t0_2.toInt ≤ 12200 from (by have z26 : (0 : Int32).toInt = 0 := rfl; have t1 : 0 ≤ t0_2.toInt ∧ t0_2.toInt ≤ 12200 := btt0_2; omega)), (show t0_2.toInt ≤ t0_2.toInt + 1600 from (by have z26 : (0 : Int32).toInt = 0 := rfl; omega)), (show (0 : Int32).toInt ≤ t0_2.toInt from (by have z26 : (0 : Int32).toInt = 0 := rfl; have t1 : 0 ≤ t0_2.toInt ∧ t0_2.toInt ≤ 12200 := btt0_2; omega)), (show ((0 : Int32), y93, t0_2, y93, y94, y95, y96, y97, y98, y99, y100, y101, y102, y103, f104, f106, f108, f110, f112, t7_0) = (F_NM_figures x2 x3 x4 x5 x6 t0_0 t0_1 t0_2 t1_0 t1_1 t1_2 t1_3 t1_4 t1_5 t1_6 t1_7 t1_8 t1_9 t1_10 t2_0 t3_0 t4_0 t5_0 t6_0 t7_0 t8_0) from Eq.trans (by have c149x := c149; rw [e126] at c149x; rw [e141, e140, e139, e138, e137, e136, e135, e134, e133, e132, e131, e130, e129, e128, e127, e126, F_NM_figures_c89.eq_1, if_neg c149x]) hR142)⟩) d_14_34_129
        ·
          intro J80
          refine lv_icmp_ne (tgt := 84) hx hb d_14_34_77 (by decide) (fun c179 => ?_) (fun c179 => ?_)
          ·
            refine lv_iconst (v := 0) hx hb d_14_34_84 (by decide) ?_
            exact J80 ((0 : Int32)) _ _ _ w58 ⟨(show q_F (lx40.toInt ≤ 0) from (show lx40.toInt ≤ 0 from by have t1 : lx40.toInt ≤ 0 := b61; omega)), (show q_F (0 ≤ lx40.toInt + 1) from (show 0 ≤ lx40.toInt + 1 from by have t1 : 0 ≤ lx40.toInt := i51; omega)), V, q_lw hl (q_lw1 1 rfl (q_lw1 5 rfl (q_lw1 6 rfl q_lw0))), (show F_NM_figures_J85 x2 x3 x4 x5 x6 t0_0 t0_1 t0_2 t1_0 t1_1 t1_2 t1_3 t1_4 t1_5 t1_6 t1_7 t1_8 t1_9 t1_10 t2_0 t3_0 t4_0 t5_0 t6_0 t7_0 t8_0 lx40 j65 0 = (F_NM_figures x2 x3 x4 x5 x6 t0_0 t0_1 t0_2 t1_0 t1_1 t1_2 t1_3 t1_4 t1_5 t1_6 t1_7 t1_8 t1_9 t1_10 t2_0 t3_0 t4_0 t5_0 t6_0 t7_0 t8_0) from Eq.trans (by rw [e67, F_NM_figures_J19.eq_1, if_pos c60, if_pos c68, if_neg c179]) hR53), (show True ∧ S_NM_figures_J85 x2 x3 x4 x5 x6 t0_0 t0_1 t0_2 t1_0 t1_1 t1_2 t1_3 t1_4 t1_5 t1_6 t1_7 t1_8 t1_9 t1_10 t2_0 t3_0 t4_0 t5_0 t6_0 t7_0 t8_0 lx40 j65 0 from (by rw [e67]; have h := hS54; rw [S_NM_figures_J19.eq_1] at h; rw [if_pos c60] at h; replace h := q_s2 h; rw [if_pos c68] at h; rw [if_neg c179] at h; with_reducible exact h))⟩
          ·
            refine lv_iconst (v := 1) hx hb d_14_34_80 (by decide) ?_
            refine lv_goto (tgt := 85) hx hb d_14_34_81 (by decide) ?_
            exact J80 ((1 : Int32)) _ _ _ w58 ⟨(show q_F (lx40.toInt ≤ 1) from (show lx40.toInt ≤ 1 from by have t1 : lx40.toInt ≤ 1 := i52; omega)), (show q_F (1 ≤ lx40.toInt + 1) from (show 1 ≤ lx40.toInt + 1 from by have t1 : 0 ≤ lx40.toInt := i51; omega)), V, q_lw hl (q_lw1 1 rfl (q_lw1 5 rfl (q_lw1 6 rfl q_lw0))), (show F_NM_figures_J85 x2 x3 x4 x5 x6 t0_0 t0_1 t0_2 t1_0 t1_1 t1_2 t1_3 t1_4 t1_5 t1_6 t1_7 t1_8 t1_9 t1_10 t2_0 t3_0 t4_0 t5_0 t6_0 t7_0 t8_0 lx40 j65 1 = (F_NM_figures x2 x3 x4 x5 x6 t0_0 t0_1 t0_2 t1_0 t1_1 t1_2 t1_3 t1_4 t1_5 t1_6 t1_7 t1_8 t1_9 t1_10 t2_0 t3_0 t4_0 t5_0 t6_0 t7_0 t8_0) from Eq.trans (by rw [e67, F_NM_figures_J19.eq_1, if_pos c60, if_pos c68, if_pos c179]) hR53), (show True ∧ S_NM_figures_J85 x2 x3 x4 x5 x6 t0_0 t0_1 t0_2 t1_0 t1_1 t1_2 t1_3 t1_4 t1_5 t1_6 t1_7 t1_8 t1_9 t1_10 t2_0 t3_0 t4_0 t5_0 t6_0 t7_0 t8_0 lx40 j65 1 from (by rw [e67]; have h := hS54; rw [S_NM_figures_J19.eq_1] at h; rw [if_pos c60] at h; replace h := q_s2 h; rw [if_pos c68] at h; rw [if_pos c179] at h; with_reducible exact h))⟩
      ·
        refine lv_aload_n hx hb d_14_34_43 rfl (lv_at hl 1 rfl) ?_
        refine q_get (ci := 12) (j := 7) (v := .ref (q 145)) C0 V i_NM rfl rfl hT0 (by decide) w_2305 rfl d_14_34_44 ?_
        refine lv_lload hx hb d_14_34_47 (lv_at hl 0 rfl) ?_
        refine lv_iload_n hx hb d_14_34_49 rfl (lv_at hl 2 rfl) ?_
        refine lv_iconst (v := 3) hx hb d_14_34_50 (by decide) ?_
        refine q_join (X := Int32) (fun z H locs ls _ => q_F (lx40.toInt ≤ z.toInt) ∧ q_F (z.toInt ≤ lx40.toInt + 1) ∧ q_Wd D g (va_A ws sz) s w58 H locs ∧ lv_has ls 9 [(0, .ref (q 116)), (4, .int x5), (5, .int x6)] ∧ F_NM_figures_J59 x2 x3 x4 x5 x6 t0_0 t0_1 t0_2 t1_0 t1_1 t1_2 t1_3 t1_4 t1_5 t1_6 t1_7 t1_8 t1_9 t1_10 t2_0 t3_0 t4_0 t5_0 t6_0 t7_0 t8_0 lx40 j65 z = (F_NM_figures x2 x3 x4 x5 x6 t0_0 t0_1 t0_2 t1_0 t1_1 t1_2 t1_3 t1_4 t1_5 t1_6 t1_7 t1_8 t1_9 t1_10 t2_0 t3_0 t4_0 t5_0 t6_0 t7_0 t8_0) ∧ True ∧ S_NM_figures_J59 x2 x3 x4 x5 x6 t0_0 t0_1 t0_2 t1_0 t1_1 t1_2 t1_3 t1_4 t1_5 t1_6 t1_7 t1_8 t1_9 t1_10 t2_0 t3_0 t4_0 t5_0 t6_0 t7_0 t8_0 lx40 j65 z) (fun z => [.int z, .long j65, .ref (q 145)]) 59 0 0 ?_ ?_
        ·
          rintro lx183 H locs ls _ hZ9
          obtain ⟨i194, hZ9⟩ := hZ9
          obtain ⟨i195, hZ9⟩ := hZ9
          obtain ⟨V, hZ9⟩ := hZ9
          obtain ⟨hl, hZ9⟩ := hZ9
          obtain ⟨hR196, hS197⟩ := hZ9
          replace i194 : q_F (lx40.toInt ≤ lx183.toInt) := i194
          replace i195 : q_F (lx183.toInt ≤ lx40.toInt + 1) := i195
          replace hl : lv_has ls 9 [(0, .ref (q 116)), (4, .int x5), (5, .int x6)] := hl
          refine lv_iload hx hb d_14_34_59 (lv_at hl 1 rfl) ?_
          refine lv_iload hx hb d_14_34_61 (lv_at hl 2 rfl) ?_
          have ob201 : True ∧ S_FR_scientific j65 lx183 x5 x6 t1_0 t1_1 t1_2 t1_3 t1_4 t1_5 t1_6 t1_7 t1_8 t1_9 t1_10 t2_0 t3_0 t4_0 t5_0 t6_0 := (by have h := hS197; rw [S_NM_figures_J59.eq_1] at h; with_reducible exact h.2.1)
          refine q_goi V (q_runV (As := [.long j65, .int lx183, .int x5, .int x6]) (rest := []) (d := 3) (mc := 0) (ms := 0) (ci := 15) C0 V rfl LV_NM_279 (X_FR_scientific l D g q w58  j65 lx183 x5 x6 hI t1_0 t1_1 t1_2 t1_3 t1_4 t1_5 t1_6 t1_7 t1_8 t1_9 t1_10 hT1 t2_0 hT2 t3_0 hT3 t4_0 hT4 t5_0 hT5 t6_0 hT6 ⟨(by have t1 : 0 ≤ lx40.toInt := i51; have t2 : lx40.toInt ≤ lx183.toInt := i194; omega), (by have t1 : lx40.toInt ≤ 0 := b61; have t2 : lx183.toInt ≤ lx40.toInt + 1 := i195; omega)⟩ ob201 _) rfl rfl hT1 rfl hl.1 rfl (Nat.le_of_ble_eq_true rfl) ⟨by decide, by decide⟩ ⟨Nat.le_of_ble_eq_true rfl, Nat.le_of_ble_eq_true rfl⟩ d_14_34_63) (fun a204 u202 H locs hp203 V => ?_)
          obtain ⟨hI, hZ9⟩ := hp203
          obtain ⟨hu229, hZ9⟩ := hZ9
          obtain ⟨y206, hZ9⟩ := hZ9
          obtain ⟨y207, hZ9⟩ := hZ9
          obtain ⟨y208, hZ9⟩ := hZ9
          obtain ⟨y209, hZ9⟩ := hZ9
          obtain ⟨y210, hZ9⟩ := hZ9
          obtain ⟨y211, hZ9⟩ := hZ9
          obtain ⟨y212, hZ9⟩ := hZ9
          obtain ⟨y213, hZ9⟩ := hZ9
          obtain ⟨y214, hZ9⟩ := hZ9
          obtain ⟨y215, hZ9⟩ := hZ9
          obtain ⟨y216, hZ9⟩ := hZ9
          obtain ⟨f217, hZ9⟩ := hZ9
          obtain ⟨f219, hZ9⟩ := hZ9
          obtain ⟨f221, hZ9⟩ := hZ9
          obtain ⟨f223, hZ9⟩ := hZ9
          obtain ⟨f225, hZ9⟩ := hZ9
          obtain ⟨hO205, hZ9⟩ := hZ9
          obtain ⟨hA218, hZ9⟩ := hZ9
          obtain ⟨hA220, hZ9⟩ := hZ9
          obtain ⟨hA222, hZ9⟩ := hZ9
          obtain ⟨hA224, hZ9⟩ := hZ9
          obtain ⟨hA226, hZ9⟩ := hZ9
          obtain ⟨-, hE228⟩ := hZ9
          replace hO205 : u202[145]? = (some (q 145, .inr (15, [.int y206, .ref (q 146), .ref (q 147), .ref (q 148), .ref (q 149), .ref (q 150), .ref (q 151), .ref (q 152), .int y207, .int y208, .int y209, .long y210, .int y211, .int y212, .long y213, .int y214, .long y215, .int y216])) : Option (Nat × va_E)) := hO205
          replace hA218 : u202[146]? = (some (q 146, .inl (g 0, (156 : Int32).toNatClampNeg, .inl f217)) : Option (Nat × va_E)) := hA218
          replace hA220 : u202[147]? = (some (q 147, .inl (g 0, (156 : Int32).toNatClampNeg, .inl f219)) : Option (Nat × va_E)) := hA220
          replace hA222 : u202[148]? = (some (q 148, .inl (g 0, (1404 : Int32).toNatClampNeg, .inl f221)) : Option (Nat × va_E)) := hA222
          replace hA224 : u202[151]? = (some (q 151, .inl (g 0, (1404 : Int32).toNatClampNeg, .inl f223)) : Option (Nat × va_E)) := hA224
          replace hA226 : u202[152]? = (some (q 152, .inl (g 0, (1600 : Int32).toNatClampNeg, .inl f225)) : Option (Nat × va_E)) := hA226
          obtain ⟨p230, e231⟩ : ∃ z, z = (F_FR_scientific j65 lx183 x5 x6 t1_0 t1_1 t1_2 t1_3 t1_4 t1_5 t1_6 t1_7 t1_8 t1_9 t1_10 t2_0 t3_0 t4_0 t5_0 t6_0) := ⟨_, rfl⟩
          have e232 : a204 = p230.1 := congrArg (fun z => z.1) (hE228.trans e231.symm)
          have e233 : y206 = p230.2.1 := congrArg (fun z => z.2.1) (hE228.trans e231.symm)
          have e234 : y207 = p230.2.2.1 := congrArg (fun z => z.2.2.1) (hE228.trans e231.symm)
          have e235 : y208 = p230.2.2.2.1 := congrArg (fun z => z.2.2.2.1) (hE228.trans e231.symm)
          have e236 : y209 = p230.2.2.2.2.1 := congrArg (fun z => z.2.2.2.2.1) (hE228.trans e231.symm)
          have e237 : y210 = p230.2.2.2.2.2.1 := congrArg (fun z => z.2.2.2.2.2.1) (hE228.trans e231.symm)
          have e238 : y211 = p230.2.2.2.2.2.2.1 := congrArg (fun z => z.2.2.2.2.2.2.1) (hE228.trans e231.symm)
          have e239 : y212 = p230.2.2.2.2.2.2.2.1 := congrArg (fun z => z.2.2.2.2.2.2.2.1) (hE228.trans e231.symm)
          have e240 : y213 = p230.2.2.2.2.2.2.2.2.1 := congrArg (fun z => z.2.2.2.2.2.2.2.2.1) (hE228.trans e231.symm)
          have e241 : y214 = p230.2.2.2.2.2.2.2.2.2.1 := congrArg (fun z => z.2.2.2.2.2.2.2.2.2.1) (hE228.trans e231.symm)
          have e242 : y215 = p230.2.2.2.2.2.2.2.2.2.2.1 := congrArg (fun z => z.2.2.2.2.2.2.2.2.2.2.1) (hE228.trans e231.symm)
          have e243 : y216 = p230.2.2.2.2.2.2.2.2.2.2.2.1 := congrArg (fun z => z.2.2.2.2.2.2.2.2.2.2.2.1) (hE228.trans e231.symm)
          have e244 : f217 = p230.2.2.2.2.2.2.2.2.2.2.2.2.1 := congrArg (fun z => z.2.2.2.2.2.2.2.2.2.2.2.2.1) (hE228.trans e231.symm)
          have e245 : f219 = p230.2.2.2.2.2.2.2.2.2.2.2.2.2.1 := congrArg (fun z => z.2.2.2.2.2.2.2.2.2.2.2.2.2.1) (hE228.trans e231.symm)
          have e246 : f221 = p230.2.2.2.2.2.2.2.2.2.2.2.2.2.2.1 := congrArg (fun z => z.2.2.2.2.2.2.2.2.2.2.2.2.2.2.1) (hE228.trans e231.symm)
          have e247 : f223 = p230.2.2.2.2.2.2.2.2.2.2.2.2.2.2.2.1 := congrArg (fun z => z.2.2.2.2.2.2.2.2.2.2.2.2.2.2.2.1) (hE228.trans e231.symm)
          have e248 : f225 = p230.2.2.2.2.2.2.2.2.2.2.2.2.2.2.2.2 := congrArg (fun z => z.2.2.2.2.2.2.2.2.2.2.2.2.2.2.2.2) (hE228.trans e231.symm)
          replace hT0 := (hu229 _ (by decide)).trans hT0
          replace hT7 := (hu229 _ (by decide)).trans hT7
          replace hF := q_uc hF hu229 (by simp)
          have hR249 := (show F_NM_figures_c63 x2 x3 x4 x5 x6 t0_0 t0_1 t0_2 t1_0 t1_1 t1_2 t1_3 t1_4 t1_5 t1_6 t1_7 t1_8 t1_9 t1_10 t2_0 t3_0 t4_0 t5_0 t6_0 t7_0 t8_0 lx40 j65 lx183 p230 = (F_NM_figures x2 x3 x4 x5 x6 t0_0 t0_1 t0_2 t1_0 t1_1 t1_2 t1_3 t1_4 t1_5 t1_6 t1_7 t1_8 t1_9 t1_10 t2_0 t3_0 t4_0 t5_0 t6_0 t7_0 t8_0) from Eq.trans (by rw [e231, F_NM_figures_J59.eq_1]) hR196)
          have hS250 := (show True ∧ S_NM_figures_c63 x2 x3 x4 x5 x6 t0_0 t0_1 t0_2 t1_0 t1_1 t1_2 t1_3 t1_4 t1_5 t1_6 t1_7 t1_8 t1_9 t1_10 t2_0 t3_0 t4_0 t5_0 t6_0 t7_0 t8_0 lx40 j65 lx183 p230 from (by rw [e231]; have h := hS197; rw [S_NM_figures_J59.eq_1] at h; replace h := q_s2 h; with_reducible exact h))
          refine lv_goto (tgt := 92) hx hb d_14_34_66 (by decide) ?_
          refine lv_istore (lv' := [(8, .int a204), (0, .ref (q 116)), (4, .int x5), (5, .int x6)]) hx hb d_14_34_92 hl (by decide) rfl (fun ls hl => ?_)
          refine lv_aload_n hx hb d_14_34_94 rfl (lv_at hl 1 rfl) ?_
          refine lv_aload_n hx hb d_14_34_95 rfl (lv_at hl 1 rfl) ?_
          refine q_get (ci := 12) (j := 7) (v := .ref (q 145)) C0 V i_NM rfl rfl hT0 (by decide) w_2305 rfl d_14_34_96 ?_
          refine q_getN (ci := 15) (j := 0) (v := .int y206) C0 V i_FR rfl rfl hO205 (by decide) wo_2075 rfl d_14_34_99 ?_
          refine q_put (ci := 12) (j := 0) (v := .int y206) (ty := .int) C0 V i_NM o_NM n_NM rfl rfl hT0 (by decide) w_2298 rfl rfl rfl rfl (Nat.le_of_ble_eq_true rfl) d_14_34_102 (fun H locs w254 hu255 hT0 V => ?_)
          replace hT0 : w254[116]? = (some (q 116, .inr (12, [.int y206, .ref (q 117), .int t0_1, .ref (q 118), .int t0_2, .ref (q 119), .ref (q 134), .ref (q 145), .ref (q 153), .ref (q 157), .ref (q 167), .ref (q 168)])) : Option (Nat × va_E)) := hT0
          replace hI := n_p116 hI hu255 hT0 (by first | with_reducible exact q_fe btt0_1 | exact ⟨(by have t1 : 0 ≤ t0_1.toInt ∧ t0_1.toInt ≤ 4100 := btt0_1; omega), (by have t1 : 0 ≤ t0_1.toInt ∧ t0_1.toInt ≤ 4100 := btt0_1; omega)⟩) (by first | with_reducible exact q_fe btt0_2 | exact ⟨(by have t1 : 0 ≤ t0_2.toInt ∧ t0_2.toInt ≤ 12200 := btt0_2; omega), (by have t1 : 0 ≤ t0_2.toInt ∧ t0_2.toInt ≤ 12200 := btt0_2; omega)⟩)
          replace hO205 := (hu255 _ (by decide)).trans hO205
          replace hA218 := (hu255 _ (by decide)).trans hA218
          replace hA220 := (hu255 _ (by decide)).trans hA220
          replace hA222 := (hu255 _ (by decide)).trans hA222
          replace hA224 := (hu255 _ (by decide)).trans hA224
          replace hA226 := (hu255 _ (by decide)).trans hA226
          replace hT7 := (hu255 _ (by decide)).trans hT7
          replace hF := q_us hF hu255 (by simp)
          refine lv_aload_n hx hb d_14_34_105 rfl (lv_at hl 1 rfl) ?_
          refine q_get (ci := 12) (j := 0) (v := .int y206) C0 V i_NM rfl rfl hT0 (by decide) w_2298 rfl d_14_34_106 ?_
          refine lv_if_le (tgt := 116) hx hb d_14_34_109 (by decide) (fun c256 => ?_) (fun c256 => ?_)
          ·
            refine lv_aload_n hx hb d_14_34_116 rfl (lv_at hl 1 rfl) ?_
            refine lv_aload_n hx hb d_14_34_117 rfl (lv_at hl 1 rfl) ?_
            refine q_get (ci := 12) (j := 7) (v := .ref (q 145)) C0 V i_NM rfl rfl hT0 (by decide) w_2305 rfl d_14_34_118 ?_
            refine q_getN (ci := 15) (j := 7) (v := .ref (q 152)) C0 V i_FR rfl rfl hO205 (by decide) wo_2083 rfl d_14_34_121 ?_
            refine lv_iload hx hb d_14_34_124 (lv_at hl 0 rfl) ?_
            have ob258 : True ∧ S_NM_show (1600 : Int32) a204 y206 t0_1 t0_2 t7_0 f225 := (by rw [e248, e233, e232]; have h := hS250; rw [S_NM_figures_c63.eq_1] at h; have c256x := c256; rw [e233] at c256x; rw [if_pos c256x] at h; with_reducible exact h.2.1)
            refine q_goi V (q_runV (As := [.ref (q 152), .int a204]) (rest := []) (d := 1) (mc := 0) (ms := 0) (ci := 12) C0 V rfl LV_NM_269 (X_NM_show l D g q w254 152 1600 (n_r152 g q) a204 (by decide) hI y206 t0_1 t0_2 hT0 t7_0 hT7 f225 hA226 ob258 _) rfl rfl hT0 rfl hl.1 rfl (Nat.le_of_ble_eq_true rfl) ⟨by decide, by decide⟩ ⟨Nat.le_of_ble_eq_true rfl, Nat.le_of_ble_eq_true rfl⟩ d_14_34_126) (fun a261 u259 H locs hp260 V => ?_)
            obtain ⟨hI, hZ9⟩ := hp260
            obtain ⟨hu274, hZ9⟩ := hZ9
            obtain ⟨y263, hZ9⟩ := hZ9
            obtain ⟨f264, hZ9⟩ := hZ9
            obtain ⟨hO262, hZ9⟩ := hZ9
            obtain ⟨hA265, hZ9⟩ := hZ9
            obtain ⟨b266, hZ9⟩ := hZ9
            obtain ⟨b267, hZ9⟩ := hZ9
            replace hZ9 := hZ9.2.2
            obtain ⟨b270, hZ9⟩ := hZ9
            obtain ⟨b271, hZ9⟩ := hZ9
            obtain ⟨b272, hE273⟩ := hZ9
            replace hO262 : u259[116]? = (some (q 116, .inr (12, [.int y206, .ref (q 117), .int t0_1, .ref (q 118), .int y263, .ref (q 119), .ref (q 134), .ref (q 145), .ref (q 153), .ref (q 157), .ref (q 167), .ref (q 168)])) : Option (Nat × va_E)) := hO262
            replace hA265 : u259[118]? = (some (q 118, .inl (g 0, (12200 : Int32).toNatClampNeg, .inl f264)) : Option (Nat × va_E)) := hA265
            obtain ⟨p275, e276⟩ : ∃ z, z = (F_NM_show (1600 : Int32) a204 y206 t0_1 t0_2 t7_0 f225) := ⟨_, rfl⟩
            have e277 : a261 = p275.1 := congrArg (fun z => z.1) (hE273.trans e276.symm)
            have e278 : y263 = p275.2.1 := congrArg (fun z => z.2.1) (hE273.trans e276.symm)
            have e279 : f264 = p275.2.2 := congrArg (fun z => z.2.2) (hE273.trans e276.symm)
            replace b266 : q_F (0 ≤ y263.toInt) := b266
            replace b267 : q_F (y263.toInt ≤ 12200) := b267
            replace b270 : q_F (y263.toInt ≤ 1600) := b270
            replace b271 : q_F (y263.toInt ≤ a261.toInt) := b271
            replace b272 : q_F (a261.toInt ≤ y263.toInt) := b272
            replace hO205 := (hu274 _ (by decide)).trans hO205
            replace hA218 := (hu274 _ (by decide)).trans hA218
            replace hA220 := (hu274 _ (by decide)).trans hA220
            replace hA222 := (hu274 _ (by decide)).trans hA222
            replace hA224 := (hu274 _ (by decide)).trans hA224
            replace hA226 := (hu274 _ (by decide)).trans hA226
            replace hF := q_uc hF hu274 (by simp)
            have hR280 := (show F_NM_figures_c126_7 x2 x3 x4 x5 x6 t0_0 t0_1 t0_2 t1_0 t1_1 t1_2 t1_3 t1_4 t1_5 t1_6 t1_7 t1_8 t1_9 t1_10 t2_0 t3_0 t4_0 t5_0 t6_0 t7_0 t8_0 lx40 j65 lx183 p230 a204 y206 y207 y208 y209 y210 y211 y212 y213 y214 y215 y216 f217 f219 f221 f223 f225 p275 = (F_NM_figures x2 x3 x4 x5 x6 t0_0 t0_1 t0_2 t1_0 t1_1 t1_2 t1_3 t1_4 t1_5 t1_6 t1_7 t1_8 t1_9 t1_10 t2_0 t3_0 t4_0 t5_0 t6_0 t7_0 t8_0) from Eq.trans (by have c256x := c256; rw [e233] at c256x; rw [e276, e248, e247, e246, e245, e244, e243, e242, e241, e240, e239, e238, e237, e236, e235, e234, e233, e232, F_NM_figures_c63.eq_1, if_pos c256x]) hR249)
            have hS281 := (show True ∧ S_NM_figures_c126_7 x2 x3 x4 x5 x6 t0_0 t0_1 t0_2 t1_0 t1_1 t1_2 t1_3 t1_4 t1_5 t1_6 t1_7 t1_8 t1_9 t1_10 t2_0 t3_0 t4_0 t5_0 t6_0 t7_0 t8_0 lx40 j65 lx183 p230 a204 y206 y207 y208 y209 y210 y211 y212 y213 y214 y215 y216 f217 f219 f221 f223 f225 p275 from (by rw [e276, e248, e247, e246, e245, e244, e243, e242, e241, e240, e239, e238, e237, e236, e235, e234, e233, e232]; have h := hS250; rw [S_NM_figures_c63.eq_1] at h; have c256x := c256; rw [e233] at c256x; rw [if_pos c256x] at h; replace h := q_s2 h; with_reducible exact h))
            exact q_reti C0 V (⟨hI, hF, y206, y263, y206, y207, y208, y209, y210, y211, y212, y213, y214, y215, y216, f217, f219, f221, f223, f225, f264, hO262, hO205, hA218, hA220, hA222, hA224, hA226, hA265, (show 0 ≤ a261.toInt from (by have t1 : 0 ≤ y263.toInt := b266; have t2 : y263.toInt ≤ a261.toInt := b271; omega)), (show a261.toInt ≤ 1600 from (by have t1 : y263.toInt ≤ 1600 := b270; have t2 : a261.toInt ≤ y263.toInt := b272; omega)), (show y263.toInt ≤ 12200 from (by first | with_reducible exact q_fe b267 | (have t1 : y263.toInt ≤ 12200 := b267; omega))), (show y263.toInt ≤ t0_2.toInt + 1600 from (by have t1 : 0 ≤ t0_2.toInt ∧ t0_2.toInt ≤ 12200 := btt0_2; have t2 : y263.toInt ≤ 1600 := b270; omega)), (show a261.toInt ≤ y263.toInt from (by first | with_reducible exact q_fe b272 | (have t1 : a261.toInt ≤ y263.toInt := b272; omega))), (show (a261, y206, y263, y206, y207, y208, y209, y210, y211, y212, y213, y214, y215, y216, f217, f219, f221, f223, f225, f264) = (F_NM_figures x2 x3 x4 x5 x6 t0_0 t0_1 t0_2 t1_0 t1_1 t1_2 t1_3 t1_4 t1_5 t1_6 t1_7 t1_8 t1_9 t1_10 t2_0 t3_0 t4_0 t5_0 t6_0 t7_0 t8_0) from Eq.trans (by rw [e279, e278, e277, F_NM_figures_c126_7.eq_1]) hR280)⟩) d_14_34_129
          ·
            refine lv_iconst (v := 0) hx hb d_14_34_112 (by decide) ?_
            refine lv_goto (tgt := 129) hx hb d_14_34_113 (by decide) ?_
            exact q_reti C0 V (⟨hI, hF, y206, t0_2, y206, y207, y208, y209, y210, y211, y212, y213, y214, y215, y216, f217, f219, f221, f223, f225, t7_0, hT0, hO205, hA218, hA220, hA222, hA224, hA226, hT7, (show 0 ≤ (0 : Int32).toInt from (by have z26 : (0 : Int32).toInt = 0 := rfl; omega)), (show (0 : Int32).toInt ≤ 1600 from (by have z26 : (0 : Int32).toInt = 0 := rfl; omega)), (show t0_2.toInt ≤ 12200 from (by have z26 : (0 : Int32).toInt = 0 := rfl; have t1 : 0 ≤ t0_2.toInt ∧ t0_2.toInt ≤ 12200 := btt0_2; omega)), (show t0_2.toInt ≤ t0_2.toInt + 1600 from (by have z26 : (0 : Int32).toInt = 0 := rfl; omega)), (show (0 : Int32).toInt ≤ t0_2.toInt from (by have z26 : (0 : Int32).toInt = 0 := rfl; have t1 : 0 ≤ t0_2.toInt ∧ t0_2.toInt ≤ 12200 := btt0_2; omega)), (show ((0 : Int32), y206, t0_2, y206, y207, y208, y209, y210, y211, y212, y213, y214, y215, y216, f217, f219, f221, f223, f225, t7_0) = (F_NM_figures x2 x3 x4 x5 x6 t0_0 t0_1 t0_2 t1_0 t1_1 t1_2 t1_3 t1_4 t1_5 t1_6 t1_7 t1_8 t1_9 t1_10 t2_0 t3_0 t4_0 t5_0 t6_0 t7_0 t8_0) from Eq.trans (by have c256x := c256; rw [e233] at c256x; rw [e248, e247, e246, e245, e244, e243, e242, e241, e240, e239, e238, e237, e236, e235, e234, e233, F_NM_figures_c63.eq_1, if_neg c256x]) hR249)⟩) d_14_34_129
        ·
          intro J193
          refine lv_icmp_ne (tgt := 58) hx hb d_14_34_51 (by decide) (fun c286 => ?_) (fun c286 => ?_)
          ·
            refine lv_iconst (v := 0) hx hb d_14_34_58 (by decide) ?_
            exact J193 ((0 : Int32)) _ _ _ w58 ⟨(show q_F (lx40.toInt ≤ 0) from (show lx40.toInt ≤ 0 from by have t1 : lx40.toInt ≤ 0 := b61; omega)), (show q_F (0 ≤ lx40.toInt + 1) from (show 0 ≤ lx40.toInt + 1 from by have t1 : 0 ≤ lx40.toInt := i51; omega)), V, q_lw hl (q_lw1 1 rfl (q_lw1 5 rfl (q_lw1 6 rfl q_lw0))), (show F_NM_figures_J59 x2 x3 x4 x5 x6 t0_0 t0_1 t0_2 t1_0 t1_1 t1_2 t1_3 t1_4 t1_5 t1_6 t1_7 t1_8 t1_9 t1_10 t2_0 t3_0 t4_0 t5_0 t6_0 t7_0 t8_0 lx40 j65 0 = (F_NM_figures x2 x3 x4 x5 x6 t0_0 t0_1 t0_2 t1_0 t1_1 t1_2 t1_3 t1_4 t1_5 t1_6 t1_7 t1_8 t1_9 t1_10 t2_0 t3_0 t4_0 t5_0 t6_0 t7_0 t8_0) from Eq.trans (by rw [e67, F_NM_figures_J19.eq_1, if_pos c60, if_neg c68, if_neg c286]) hR53), (show True ∧ S_NM_figures_J59 x2 x3 x4 x5 x6 t0_0 t0_1 t0_2 t1_0 t1_1 t1_2 t1_3 t1_4 t1_5 t1_6 t1_7 t1_8 t1_9 t1_10 t2_0 t3_0 t4_0 t5_0 t6_0 t7_0 t8_0 lx40 j65 0 from (by rw [e67]; have h := hS54; rw [S_NM_figures_J19.eq_1] at h; rw [if_pos c60] at h; replace h := q_s2 h; rw [if_neg c68] at h; rw [if_neg c286] at h; with_reducible exact h))⟩
          ·
            refine lv_iconst (v := 1) hx hb d_14_34_54 (by decide) ?_
            refine lv_goto (tgt := 59) hx hb d_14_34_55 (by decide) ?_
            exact J193 ((1 : Int32)) _ _ _ w58 ⟨(show q_F (lx40.toInt ≤ 1) from (show lx40.toInt ≤ 1 from by have t1 : lx40.toInt ≤ 1 := i52; omega)), (show q_F (1 ≤ lx40.toInt + 1) from (show 1 ≤ lx40.toInt + 1 from by have t1 : 0 ≤ lx40.toInt := i51; omega)), V, q_lw hl (q_lw1 1 rfl (q_lw1 5 rfl (q_lw1 6 rfl q_lw0))), (show F_NM_figures_J59 x2 x3 x4 x5 x6 t0_0 t0_1 t0_2 t1_0 t1_1 t1_2 t1_3 t1_4 t1_5 t1_6 t1_7 t1_8 t1_9 t1_10 t2_0 t3_0 t4_0 t5_0 t6_0 t7_0 t8_0 lx40 j65 1 = (F_NM_figures x2 x3 x4 x5 x6 t0_0 t0_1 t0_2 t1_0 t1_1 t1_2 t1_3 t1_4 t1_5 t1_6 t1_7 t1_8 t1_9 t1_10 t2_0 t3_0 t4_0 t5_0 t6_0 t7_0 t8_0) from Eq.trans (by rw [e67, F_NM_figures_J19.eq_1, if_pos c60, if_neg c68, if_pos c286]) hR53), (show True ∧ S_NM_figures_J59 x2 x3 x4 x5 x6 t0_0 t0_1 t0_2 t1_0 t1_1 t1_2 t1_3 t1_4 t1_5 t1_6 t1_7 t1_8 t1_9 t1_10 t2_0 t3_0 t4_0 t5_0 t6_0 t7_0 t8_0 lx40 j65 1 from (by rw [e67]; have h := hS54; rw [S_NM_figures_J19.eq_1] at h; rw [if_pos c60] at h; replace h := q_s2 h; rw [if_neg c68] at h; rw [if_pos c286] at h; with_reducible exact h))⟩
    ·
      refine lv_iconst (v := 0) hx hb d_14_34_29 (by decide) ?_
      exact q_reti C0 V (⟨hI, hF, lx40, t0_2, t1_0, t1_1, t1_2, t1_3, t1_4, t1_5, t1_6, t1_7, t1_8, t1_9, t1_10, t2_0, t3_0, t4_0, t5_0, t6_0, t7_0, hT0, hT1, hT2, hT3, hT4, hT5, hT6, hT7, (show 0 ≤ (0 : Int32).toInt from (by have z26 : (0 : Int32).toInt = 0 := rfl; omega)), (show (0 : Int32).toInt ≤ 1600 from (by have z26 : (0 : Int32).toInt = 0 := rfl; omega)), (show t0_2.toInt ≤ 12200 from (by have z26 : (0 : Int32).toInt = 0 := rfl; have t1 : 0 ≤ t0_2.toInt ∧ t0_2.toInt ≤ 12200 := btt0_2; omega)), (show t0_2.toInt ≤ t0_2.toInt + 1600 from (by have z26 : (0 : Int32).toInt = 0 := rfl; omega)), (show (0 : Int32).toInt ≤ t0_2.toInt from (by have z26 : (0 : Int32).toInt = 0 := rfl; have t1 : 0 ≤ t0_2.toInt ∧ t0_2.toInt ≤ 12200 := btt0_2; omega)), (show ((0 : Int32), lx40, t0_2, t1_0, t1_1, t1_2, t1_3, t1_4, t1_5, t1_6, t1_7, t1_8, t1_9, t1_10, t2_0, t3_0, t4_0, t5_0, t6_0, t7_0) = (F_NM_figures x2 x3 x4 x5 x6 t0_0 t0_1 t0_2 t1_0 t1_1 t1_2 t1_3 t1_4 t1_5 t1_6 t1_7 t1_8 t1_9 t1_10 t2_0 t3_0 t4_0 t5_0 t6_0 t7_0 t8_0) from Eq.trans (by rw [F_NM_figures_J19.eq_1, if_neg c60]) hR53)⟩) d_14_34_30
  ·
    intro J50
    refine q_join (X := Unit) (fun z H locs ls _ => q_Wd D g (va_A ws sz) s ws H locs ∧ lv_has ls 9 [(0, .ref (q 116)), (1, .int x2), (2, .int x3), (3, .int x4), (4, .int x5), (5, .int x6)] ∧ F_NM_figures_J14 x2 x3 x4 x5 x6 t0_0 t0_1 t0_2 t1_0 t1_1 t1_2 t1_3 t1_4 t1_5 t1_6 t1_7 t1_8 t1_9 t1_10 t2_0 t3_0 t4_0 t5_0 t6_0 t7_0 t8_0 = (F_NM_figures x2 x3 x4 x5 x6 t0_0 t0_1 t0_2 t1_0 t1_1 t1_2 t1_3 t1_4 t1_5 t1_6 t1_7 t1_8 t1_9 t1_10 t2_0 t3_0 t4_0 t5_0 t6_0 t7_0 t8_0) ∧ True ∧ S_NM_figures_J14 x2 x3 x4 x5 x6 t0_0 t0_1 t0_2 t1_0 t1_1 t1_2 t1_3 t1_4 t1_5 t1_6 t1_7 t1_8 t1_9 t1_10 t2_0 t3_0 t4_0 t5_0 t6_0 t7_0 t8_0) (fun z => [.ref (q 116)]) 14 0 0 ?_ ?_
    ·
      rintro _ H locs ls _ ⟨V, hl, hR300, hS301⟩
      replace hl : lv_has ls 9 [(0, .ref (q 116)), (1, .int x2), (2, .int x3), (3, .int x4), (4, .int x5), (5, .int x6)] := hl
      refine lv_iconst (v := 1) hx hb d_14_34_14 (by decide) ?_
      refine lv_goto (tgt := 19) hx hb d_14_34_15 (by decide) ?_
      exact J50 ((1 : Int32)) _ _ _ ws ⟨(show q_F (0 ≤ 1) from (show 0 ≤ 1 from by omega)), (show q_F (1 ≤ 1) from (show 1 ≤ 1 from by omega)), V, q_lw hl (q_lw1 0 rfl (q_lw1 1 rfl (q_lw1 2 rfl (q_lw1 3 rfl (q_lw1 4 rfl (q_lw1 5 rfl q_lw0)))))), (show F_NM_figures_J19 x2 x3 x4 x5 x6 t0_0 t0_1 t0_2 t1_0 t1_1 t1_2 t1_3 t1_4 t1_5 t1_6 t1_7 t1_8 t1_9 t1_10 t2_0 t3_0 t4_0 t5_0 t6_0 t7_0 t8_0 1 = (F_NM_figures x2 x3 x4 x5 x6 t0_0 t0_1 t0_2 t1_0 t1_1 t1_2 t1_3 t1_4 t1_5 t1_6 t1_7 t1_8 t1_9 t1_10 t2_0 t3_0 t4_0 t5_0 t6_0 t7_0 t8_0) from Eq.trans (by rw [F_NM_figures_J14.eq_1]) hR300), (show True ∧ S_NM_figures_J19 x2 x3 x4 x5 x6 t0_0 t0_1 t0_2 t1_0 t1_1 t1_2 t1_3 t1_4 t1_5 t1_6 t1_7 t1_8 t1_9 t1_10 t2_0 t3_0 t4_0 t5_0 t6_0 t7_0 t8_0 1 from (by have h := hS301; rw [S_NM_figures_J14.eq_1] at h; with_reducible exact h))⟩
    ·
      intro J299
      refine lv_icmp_lt (tgt := 14) hx hb d_14_34_3 (by decide) (fun c305 => ?_) (fun c305 => ?_)
      ·
        exact J299 (()) _ _ _ ws ⟨V, q_lw hl (q_lw1 0 rfl (q_lw1 1 rfl (q_lw1 2 rfl (q_lw1 3 rfl (q_lw1 4 rfl (q_lw1 5 rfl q_lw0)))))), (show F_NM_figures_J14 x2 x3 x4 x5 x6 t0_0 t0_1 t0_2 t1_0 t1_1 t1_2 t1_3 t1_4 t1_5 t1_6 t1_7 t1_8 t1_9 t1_10 t2_0 t3_0 t4_0 t5_0 t6_0 t7_0 t8_0 = (F_NM_figures x2 x3 x4 x5 x6 t0_0 t0_1 t0_2 t1_0 t1_1 t1_2 t1_3 t1_4 t1_5 t1_6 t1_7 t1_8 t1_9 t1_10 t2_0 t3_0 t4_0 t5_0 t6_0 t7_0 t8_0) from (by rw [F_NM_figures.eq_1, if_pos c305])), (show True ∧ S_NM_figures_J14 x2 x3 x4 x5 x6 t0_0 t0_1 t0_2 t1_0 t1_1 t1_2 t1_3 t1_4 t1_5 t1_6 t1_7 t1_8 t1_9 t1_10 t2_0 t3_0 t4_0 t5_0 t6_0 t7_0 t8_0 from (by have h := hS; rw [S_NM_figures.eq_1] at h; rw [if_pos c305] at h; with_reducible exact h))⟩
      ·
        refine lv_iload_n hx hb d_14_34_6 rfl (lv_at hl 1 rfl) ?_
        refine lv_iload_n hx hb d_14_34_7 rfl (lv_at hl 2 rfl) ?_
        refine q_goi V (q_runS (As := [.int x2, .int x3]) (rest := [.ref (q 116)]) (d := 2) (mc := 0) (ms := 0) C0 V rfl LS_NM_84 (X_NM_no_IIZ l D g q ws  x2 x3 hI   _) rfl hl.1 rfl (Nat.le_of_ble_eq_true rfl) ⟨by decide, by decide⟩ ⟨Nat.le_of_ble_eq_true rfl, Nat.le_of_ble_eq_true rfl⟩ d_14_34_8) (fun a310 u308 H locs hp309 V => ?_)
        obtain ⟨rfl, b311, b312, hE313⟩ := hp309
        have e314 : a310 = (F_NM_no_IIZ x2 x3) := hE313
        clear b311
        clear b312
        refine lv_if_eq (tgt := 18) hx hb d_14_34_11 (by decide) (fun c315 => ?_) (fun c315 => ?_)
        ·
          refine lv_iconst (v := 0) hx hb d_14_34_18 (by decide) ?_
          exact J50 ((0 : Int32)) _ _ _ ws ⟨(show q_F (0 ≤ 0) from (show 0 ≤ 0 from by omega)), (show q_F (0 ≤ 1) from (show 0 ≤ 1 from by omega)), V, q_lw hl (q_lw1 0 rfl (q_lw1 1 rfl (q_lw1 2 rfl (q_lw1 3 rfl (q_lw1 4 rfl (q_lw1 5 rfl q_lw0)))))), (show F_NM_figures_J19 x2 x3 x4 x5 x6 t0_0 t0_1 t0_2 t1_0 t1_1 t1_2 t1_3 t1_4 t1_5 t1_6 t1_7 t1_8 t1_9 t1_10 t2_0 t3_0 t4_0 t5_0 t6_0 t7_0 t8_0 0 = (F_NM_figures x2 x3 x4 x5 x6 t0_0 t0_1 t0_2 t1_0 t1_1 t1_2 t1_3 t1_4 t1_5 t1_6 t1_7 t1_8 t1_9 t1_10 t2_0 t3_0 t4_0 t5_0 t6_0 t7_0 t8_0) from (by have c315x := c315; rw [e314] at c315x; rw [F_NM_figures.eq_1, if_neg c305, if_pos c315x])), (show True ∧ S_NM_figures_J19 x2 x3 x4 x5 x6 t0_0 t0_1 t0_2 t1_0 t1_1 t1_2 t1_3 t1_4 t1_5 t1_6 t1_7 t1_8 t1_9 t1_10 t2_0 t3_0 t4_0 t5_0 t6_0 t7_0 t8_0 0 from (by have h := hS; rw [S_NM_figures.eq_1] at h; rw [if_neg c305] at h; have c315x := c315; rw [e314] at c315x; rw [if_pos c315x] at h; with_reducible exact h))⟩
        ·
          exact J299 (()) _ _ _ ws ⟨V, q_lw hl (q_lw1 0 rfl (q_lw1 1 rfl (q_lw1 2 rfl (q_lw1 3 rfl (q_lw1 4 rfl (q_lw1 5 rfl q_lw0)))))), (show F_NM_figures_J14 x2 x3 x4 x5 x6 t0_0 t0_1 t0_2 t1_0 t1_1 t1_2 t1_3 t1_4 t1_5 t1_6 t1_7 t1_8 t1_9 t1_10 t2_0 t3_0 t4_0 t5_0 t6_0 t7_0 t8_0 = (F_NM_figures x2 x3 x4 x5 x6 t0_0 t0_1 t0_2 t1_0 t1_1 t1_2 t1_3 t1_4 t1_5 t1_6 t1_7 t1_8 t1_9 t1_10 t2_0 t3_0 t4_0 t5_0 t6_0 t7_0 t8_0) from (by have c315x := c315; rw [e314] at c315x; rw [F_NM_figures.eq_1, if_neg c305, if_neg c315x])), (show True ∧ S_NM_figures_J14 x2 x3 x4 x5 x6 t0_0 t0_1 t0_2 t1_0 t1_1 t1_2 t1_3 t1_4 t1_5 t1_6 t1_7 t1_8 t1_9 t1_10 t2_0 t3_0 t4_0 t5_0 t6_0 t7_0 t8_0 from (by have h := hS; rw [S_NM_figures.eq_1] at h; rw [if_neg c305] at h; have c315x := c315; rw [e314] at c315x; rw [if_neg c315x] at h; with_reducible exact h))⟩
theorem d_14_35_0 : decode prog_14_method_35_code 0 = .ok (.lconst 0, 1) := by decide +kernel
theorem d_14_35_1 : decode prog_14_method_35_code 1 = .ok (.lstore_n 3, 1) := by decide +kernel
theorem d_14_35_2 : decode prog_14_method_35_code 2 = .ok (.aload_n 0, 1) := by decide +kernel
theorem d_14_35_3 : decode prog_14_method_35_code 3 = .ok (.getfield 26, 3) := by decide +kernel
theorem d_14_35_6 : decode prog_14_method_35_code 6 = .ok (.getfield 283, 3) := by decide +kernel
set_option maxRecDepth 100000 in
theorem wo_2005 : (Cond.fieldLinkNest "NumberHouseModel" (283 : Nat) "NumberHouseModel$DecimalRows" "many" "[I" "NumberHouseModel") ∈ q_odd := q_oo9 85 rfl (by decide +kernel)
theorem d_14_35_9 : decode prog_14_method_35_code 9 = .ok (.iload_n 1, 1) := by decide +kernel
theorem d_14_35_10 : decode prog_14_method_35_code 10 = .ok (.iaload, 1) := by decide +kernel
theorem d_14_35_11 : decode prog_14_method_35_code 11 = .ok (.bipush 19, 2) := by decide +kernel
theorem d_14_35_21 : decode prog_14_method_35_code 21 = .ok (.istore 5, 2) := by decide +kernel
theorem d_14_35_23 : decode prog_14_method_35_code 23 = .ok (.iconst 0, 1) := by decide +kernel
theorem d_14_35_24 : decode prog_14_method_35_code 24 = .ok (.istore 6, 2) := by decide +kernel
theorem d_14_35_26 : decode prog_14_method_35_code 26 = .ok (.iload 6, 2) := by decide +kernel
theorem d_14_35_28 : decode prog_14_method_35_code 28 = .ok (.aload_n 0, 1) := by decide +kernel
theorem d_14_35_29 : decode prog_14_method_35_code 29 = .ok (.getfield 26, 3) := by decide +kernel
theorem d_14_35_32 : decode prog_14_method_35_code 32 = .ok (.getfield 283, 3) := by decide +kernel
theorem d_14_35_35 : decode prog_14_method_35_code 35 = .ok (.iload_n 1, 1) := by decide +kernel
theorem d_14_35_36 : decode prog_14_method_35_code 36 = .ok (.iaload, 1) := by decide +kernel
theorem d_14_35_109 : decode prog_14_method_35_code 109 = .ok (.iload 5, 2) := by decide +kernel
theorem d_14_35_139 : decode prog_14_method_35_code 139 = .ok (.istore 5, 2) := by decide +kernel
theorem d_14_35_141 : decode prog_14_method_35_code 141 = .ok (.aload_n 2, 1) := by decide +kernel
theorem d_14_35_142 : decode prog_14_method_35_code 142 = .ok (.iconst 0, 1) := by decide +kernel
theorem d_14_35_143 : decode prog_14_method_35_code 143 = .ok (.aload_n 0, 1) := by decide +kernel
theorem d_14_35_144 : decode prog_14_method_35_code 144 = .ok (.getfield 26, 3) := by decide +kernel
theorem d_14_35_147 : decode prog_14_method_35_code 147 = .ok (.getfield 293, 3) := by decide +kernel
set_option maxRecDepth 100000 in
theorem wo_2007 : (Cond.fieldLinkNest "NumberHouseModel" (293 : Nat) "NumberHouseModel$DecimalRows" "minus" "[Z" "NumberHouseModel") ∈ q_odd := q_oo9 87 rfl (by decide +kernel)
theorem d_14_35_150 : decode prog_14_method_35_code 150 = .ok (.iload_n 1, 1) := by decide +kernel
theorem d_14_35_151 : decode prog_14_method_35_code 151 = .ok (.baload, 1) := by decide +kernel
theorem d_14_35_152 : decode prog_14_method_35_code 152 = .ok (.ifCond .eq 7, 3) := by decide +kernel
theorem d_14_35_159 : decode prog_14_method_35_code 159 = .ok (.lload_n 3, 1) := by decide +kernel
theorem d_14_35_160 : decode prog_14_method_35_code 160 = .ok (.lneg, 1) := by decide +kernel
theorem d_14_35_161 : decode prog_14_method_35_code 161 = .ok (.lastore, 1) := by decide +kernel
theorem d_14_35_162 : decode prog_14_method_35_code 162 = .ok (.iload 5, 2) := by decide +kernel
theorem d_14_35_164 : decode prog_14_method_35_code 164 = .ok (.ireturn, 1) := by decide +kernel
theorem d_14_35_155 : decode prog_14_method_35_code 155 = .ok (.lload_n 3, 1) := by decide +kernel
theorem d_14_35_156 : decode prog_14_method_35_code 156 = .ok (.goto 5, 3) := by decide +kernel
theorem d_14_35_138 : decode prog_14_method_35_code 138 = .ok (.iconst 0, 1) := by decide +kernel
theorem d_14_35_111 : decode prog_14_method_35_code 111 = .ok (.ifCond .eq 27, 3) := by decide +kernel
theorem d_14_35_114 : decode prog_14_method_35_code 114 = .ok (.aload_n 0, 1) := by decide +kernel
theorem d_14_35_115 : decode prog_14_method_35_code 115 = .ok (.getfield 26, 3) := by decide +kernel
theorem d_14_35_118 : decode prog_14_method_35_code 118 = .ok (.getfield 293, 3) := by decide +kernel
theorem d_14_35_121 : decode prog_14_method_35_code 121 = .ok (.iload_n 1, 1) := by decide +kernel
theorem d_14_35_122 : decode prog_14_method_35_code 122 = .ok (.baload, 1) := by decide +kernel
theorem d_14_35_134 : decode prog_14_method_35_code 134 = .ok (.iconst 1, 1) := by decide +kernel
theorem d_14_35_135 : decode prog_14_method_35_code 135 = .ok (.goto 4, 3) := by decide +kernel
theorem d_14_35_123 : decode prog_14_method_35_code 123 = .ok (.ifCond .ne 11, 3) := by decide +kernel
theorem d_14_35_126 : decode prog_14_method_35_code 126 = .ok (.lload_n 3, 1) := by decide +kernel
theorem d_14_35_127 : decode prog_14_method_35_code 127 = .ok (.ldc2_w 153, 3) := by decide +kernel
theorem d_14_35_130 : decode prog_14_method_35_code 130 = .ok (.lcmp, 1) := by decide +kernel
theorem d_14_35_131 : decode prog_14_method_35_code 131 = .ok (.ifCond .eq 7, 3) := by decide +kernel
theorem d_14_35_37 : decode prog_14_method_35_code 37 = .ok (.if_icmp .ge 72, 3) := by decide +kernel
theorem d_14_35_40 : decode prog_14_method_35_code 40 = .ok (.iload 5, 2) := by decide +kernel
theorem d_14_35_42 : decode prog_14_method_35_code 42 = .ok (.ifCond .eq 67, 3) := by decide +kernel
theorem d_14_35_45 : decode prog_14_method_35_code 45 = .ok (.aload_n 0, 1) := by decide +kernel
theorem d_14_35_46 : decode prog_14_method_35_code 46 = .ok (.getfield 26, 3) := by decide +kernel
theorem d_14_35_49 : decode prog_14_method_35_code 49 = .ok (.getfield 286, 3) := by decide +kernel
set_option maxRecDepth 100000 in
theorem wo_2003 : (Cond.fieldLinkNest "NumberHouseModel" (286 : Nat) "NumberHouseModel$DecimalRows" "kept" "[I" "NumberHouseModel") ∈ q_odd := q_oo9 83 rfl (by decide +kernel)
theorem d_14_35_52 : decode prog_14_method_35_code 52 = .ok (.sipush 1000, 3) := by decide +kernel
theorem d_14_35_55 : decode prog_14_method_35_code 55 = .ok (.iload_n 1, 1) := by decide +kernel
theorem d_14_35_56 : decode prog_14_method_35_code 56 = .ok (.imul, 1) := by decide +kernel
theorem d_14_35_57 : decode prog_14_method_35_code 57 = .ok (.iload 6, 2) := by decide +kernel
theorem d_14_35_59 : decode prog_14_method_35_code 59 = .ok (.iadd, 1) := by decide +kernel
theorem d_14_35_60 : decode prog_14_method_35_code 60 = .ok (.iaload, 1) := by decide +kernel
theorem d_14_35_61 : decode prog_14_method_35_code 61 = .ok (.istore 7, 2) := by decide +kernel
theorem d_14_35_63 : decode prog_14_method_35_code 63 = .ok (.lload_n 3, 1) := by decide +kernel
theorem d_14_35_64 : decode prog_14_method_35_code 64 = .ok (.ldc2_w 289, 3) := by decide +kernel
set_option maxRecDepth 100000 in
theorem w_3086 : (Cond.constantLong "NumberHouseModel" (289 : Nat) (-922337203685477580 : Int64)) ∈ q_tbl := q_of13 206 rfl (by decide +kernel)
theorem d_14_35_67 : decode prog_14_method_35_code 67 = .ok (.lcmp, 1) := by decide +kernel
theorem d_14_35_68 : decode prog_14_method_35_code 68 = .ok (.ifCond .gt 18, 3) := by decide +kernel
theorem d_14_35_86 : decode prog_14_method_35_code 86 = .ok (.iconst 1, 1) := by decide +kernel
theorem d_14_35_87 : decode prog_14_method_35_code 87 = .ok (.goto 4, 3) := by decide +kernel
theorem d_14_35_91 : decode prog_14_method_35_code 91 = .ok (.istore 5, 2) := by decide +kernel
theorem d_14_35_93 : decode prog_14_method_35_code 93 = .ok (.ldc2_w 291, 3) := by decide +kernel
set_option maxRecDepth 100000 in
theorem w_3087 : (Cond.constantLong "NumberHouseModel" (291 : Nat) (10 : Int64)) ∈ q_tbl := q_of13 207 rfl (by decide +kernel)
theorem d_14_35_96 : decode prog_14_method_35_code 96 = .ok (.lload_n 3, 1) := by decide +kernel
theorem d_14_35_97 : decode prog_14_method_35_code 97 = .ok (.lmul, 1) := by decide +kernel
theorem d_14_35_98 : decode prog_14_method_35_code 98 = .ok (.iload 7, 2) := by decide +kernel
theorem d_14_35_100 : decode prog_14_method_35_code 100 = .ok (.i2l, 1) := by decide +kernel
theorem d_14_35_101 : decode prog_14_method_35_code 101 = .ok (.lsub, 1) := by decide +kernel
theorem d_14_35_102 : decode prog_14_method_35_code 102 = .ok (.lstore_n 3, 1) := by decide +kernel
theorem d_14_35_103 : decode prog_14_method_35_code 103 = .ok (.iinc 6 1, 3) := by decide +kernel
theorem d_14_35_106 : decode prog_14_method_35_code 106 = .ok (.goto (-80), 3) := by decide +kernel
theorem d_14_35_71 : decode prog_14_method_35_code 71 = .ok (.lload_n 3, 1) := by decide +kernel
theorem d_14_35_72 : decode prog_14_method_35_code 72 = .ok (.ldc2_w 289, 3) := by decide +kernel
theorem d_14_35_75 : decode prog_14_method_35_code 75 = .ok (.lcmp, 1) := by decide +kernel
theorem d_14_35_76 : decode prog_14_method_35_code 76 = .ok (.ifCond .ne 14, 3) := by decide +kernel
theorem d_14_35_90 : decode prog_14_method_35_code 90 = .ok (.iconst 0, 1) := by decide +kernel
theorem d_14_35_79 : decode prog_14_method_35_code 79 = .ok (.iload 7, 2) := by decide +kernel
theorem d_14_35_81 : decode prog_14_method_35_code 81 = .ok (.bipush 8, 2) := by decide +kernel
theorem d_14_35_83 : decode prog_14_method_35_code 83 = .ok (.if_icmp .gt 7, 3) := by decide +kernel
theorem d_14_35_13 : decode prog_14_method_35_code 13 = .ok (.if_icmp .gt 7, 3) := by decide +kernel
theorem d_14_35_20 : decode prog_14_method_35_code 20 = .ok (.iconst 0, 1) := by decide +kernel
theorem d_14_35_16 : decode prog_14_method_35_code 16 = .ok (.iconst 1, 1) := by decide +kernel
theorem d_14_35_17 : decode prog_14_method_35_code 17 = .ok (.goto 4, 3) := by decide +kernel
def y_NM_isLong : MethodName := ⟨"NumberHouseModel", "isLong", "(I[J)Z"⟩
def F_NM_isLong_J139 (K_F_NM_isLong_L26 : Int32 → Int32 → Int64 → (Int32 × (Nat → Int64))) (x2 : Int32) (t0_0 : Int32) (t0_1 : Int32) (t0_2 : Int32) (t1_0 : Int32) (t1_1 : Int32) (t1_2 : Int32) (t1_3 : Int64) (t1_4 : Int32) (t1_5 : Int32) (t1_6 : Int32) (t1_7 : Int32) (t1_8 : Int32) (t1_9 : Int32) (t1_10 : Int32) (t2_0 : (Nat → Int32)) (t3_0 : (Nat → Int32)) (t4_0 : (Nat → Int32)) (t5_0 : (Nat → Int64)) (lx38 : Int32) (lx56 : Int32) (lx57 : Int32) (lx58 : Int64) (lx83 : Int32) : Int32 × (Nat → Int64) := if (t4_0 x2.toNatClampNeg : Int32) = (0 : Int32) then ((lx83, (vp_updL t5_0 (0 : Int32).toNatClampNeg (-lx58 : Int64) : (Nat → Int64)))) else ((lx83, (vp_updL t5_0 (0 : Int32).toNatClampNeg lx58 : (Nat → Int64))))
def F_NM_isLong_J138 (K_F_NM_isLong_L26 : Int32 → Int32 → Int64 → (Int32 × (Nat → Int64))) (x2 : Int32) (t0_0 : Int32) (t0_1 : Int32) (t0_2 : Int32) (t1_0 : Int32) (t1_1 : Int32) (t1_2 : Int32) (t1_3 : Int64) (t1_4 : Int32) (t1_5 : Int32) (t1_6 : Int32) (t1_7 : Int32) (t1_8 : Int32) (t1_9 : Int32) (t1_10 : Int32) (t2_0 : (Nat → Int32)) (t3_0 : (Nat → Int32)) (t4_0 : (Nat → Int32)) (t5_0 : (Nat → Int64)) (lx38 : Int32) (lx56 : Int32) (lx57 : Int32) (lx58 : Int64) : Int32 × (Nat → Int64) := F_NM_isLong_J139 K_F_NM_isLong_L26 x2 t0_0 t0_1 t0_2 t1_0 t1_1 t1_2 t1_3 t1_4 t1_5 t1_6 t1_7 t1_8 t1_9 t1_10 t2_0 t3_0 t4_0 t5_0 lx38 lx56 lx57 lx58 0
def F_NM_isLong_J134 (K_F_NM_isLong_L26 : Int32 → Int32 → Int64 → (Int32 × (Nat → Int64))) (x2 : Int32) (t0_0 : Int32) (t0_1 : Int32) (t0_2 : Int32) (t1_0 : Int32) (t1_1 : Int32) (t1_2 : Int32) (t1_3 : Int64) (t1_4 : Int32) (t1_5 : Int32) (t1_6 : Int32) (t1_7 : Int32) (t1_8 : Int32) (t1_9 : Int32) (t1_10 : Int32) (t2_0 : (Nat → Int32)) (t3_0 : (Nat → Int32)) (t4_0 : (Nat → Int32)) (t5_0 : (Nat → Int64)) (lx38 : Int32) (lx56 : Int32) (lx57 : Int32) (lx58 : Int64) : Int32 × (Nat → Int64) := F_NM_isLong_J139 K_F_NM_isLong_L26 x2 t0_0 t0_1 t0_2 t1_0 t1_1 t1_2 t1_3 t1_4 t1_5 t1_6 t1_7 t1_8 t1_9 t1_10 t2_0 t3_0 t4_0 t5_0 lx38 lx56 lx57 lx58 1
def F_NM_isLong_J109 (K_F_NM_isLong_L26 : Int32 → Int32 → Int64 → (Int32 × (Nat → Int64))) (x2 : Int32) (t0_0 : Int32) (t0_1 : Int32) (t0_2 : Int32) (t1_0 : Int32) (t1_1 : Int32) (t1_2 : Int32) (t1_3 : Int64) (t1_4 : Int32) (t1_5 : Int32) (t1_6 : Int32) (t1_7 : Int32) (t1_8 : Int32) (t1_9 : Int32) (t1_10 : Int32) (t2_0 : (Nat → Int32)) (t3_0 : (Nat → Int32)) (t4_0 : (Nat → Int32)) (t5_0 : (Nat → Int64)) (lx38 : Int32) (lx56 : Int32) (lx57 : Int32) (lx58 : Int64) : Int32 × (Nat → Int64) := if lx57 = (0 : Int32) then (F_NM_isLong_J138 K_F_NM_isLong_L26 x2 t0_0 t0_1 t0_2 t1_0 t1_1 t1_2 t1_3 t1_4 t1_5 t1_6 t1_7 t1_8 t1_9 t1_10 t2_0 t3_0 t4_0 t5_0 lx38 lx56 lx57 lx58) else (if (t4_0 x2.toNatClampNeg : Int32) = (0 : Int32) then (if (lg_cmp lx58 (-9223372036854775808) : Int32) = (0 : Int32) then (F_NM_isLong_J138 K_F_NM_isLong_L26 x2 t0_0 t0_1 t0_2 t1_0 t1_1 t1_2 t1_3 t1_4 t1_5 t1_6 t1_7 t1_8 t1_9 t1_10 t2_0 t3_0 t4_0 t5_0 lx38 lx56 lx57 lx58) else (F_NM_isLong_J134 K_F_NM_isLong_L26 x2 t0_0 t0_1 t0_2 t1_0 t1_1 t1_2 t1_3 t1_4 t1_5 t1_6 t1_7 t1_8 t1_9 t1_10 t2_0 t3_0 t4_0 t5_0 lx38 lx56 lx57 lx58)) else (F_NM_isLong_J134 K_F_NM_isLong_L26 x2 t0_0 t0_1 t0_2 t1_0 t1_1 t1_2 t1_3 t1_4 t1_5 t1_6 t1_7 t1_8 t1_9 t1_10 t2_0 t3_0 t4_0 t5_0 lx38 lx56 lx57 lx58))
def F_NM_isLong_L26 (x2 : Int32) (t0_0 : Int32) (t0_1 : Int32) (t0_2 : Int32) (t1_0 : Int32) (t1_1 : Int32) (t1_2 : Int32) (t1_3 : Int64) (t1_4 : Int32) (t1_5 : Int32) (t1_6 : Int32) (t1_7 : Int32) (t1_8 : Int32) (t1_9 : Int32) (t1_10 : Int32) (t2_0 : (Nat → Int32)) (t3_0 : (Nat → Int32)) (t4_0 : (Nat → Int32)) (t5_0 : (Nat → Int64)) (lx38 : Int32) : Nat → Int32 → Int32 → Int64 → (Int32 × (Nat → Int64))
  | 0, _, _, _ => default
  | fm + 1, lx56, lx57, lx58 => if (t3_0 x2.toNatClampNeg : Int32) ≤ lx56 then (F_NM_isLong_J109 (F_NM_isLong_L26 x2 t0_0 t0_1 t0_2 t1_0 t1_1 t1_2 t1_3 t1_4 t1_5 t1_6 t1_7 t1_8 t1_9 t1_10 t2_0 t3_0 t4_0 t5_0 lx38 fm) x2 t0_0 t0_1 t0_2 t1_0 t1_1 t1_2 t1_3 t1_4 t1_5 t1_6 t1_7 t1_8 t1_9 t1_10 t2_0 t3_0 t4_0 t5_0 lx38 lx56 lx57 lx58) else (if lx57 = (0 : Int32) then (F_NM_isLong_J109 (F_NM_isLong_L26 x2 t0_0 t0_1 t0_2 t1_0 t1_1 t1_2 t1_3 t1_4 t1_5 t1_6 t1_7 t1_8 t1_9 t1_10 t2_0 t3_0 t4_0 t5_0 lx38 fm) x2 t0_0 t0_1 t0_2 t1_0 t1_1 t1_2 t1_3 t1_4 t1_5 t1_6 t1_7 t1_8 t1_9 t1_10 t2_0 t3_0 t4_0 t5_0 lx38 lx56 lx57 lx58) else (if (0 : Int32) < (lg_cmp lx58 (-922337203685477580) : Int32) then (F_NM_isLong_L26 x2 t0_0 t0_1 t0_2 t1_0 t1_1 t1_2 t1_3 t1_4 t1_5 t1_6 t1_7 t1_8 t1_9 t1_10 t2_0 t3_0 t4_0 t5_0 lx38 fm (lx56 + 1 : Int32) 1 ((10 * lx58 : Int64) - ((t2_0 ((1000 * x2 : Int32) + lx56 : Int32).toNatClampNeg : Int32).toInt64 : Int64) : Int64)) else (if (lg_cmp lx58 (-922337203685477580) : Int32) = (0 : Int32) then (if (8 : Int32) < (t2_0 ((1000 * x2 : Int32) + lx56 : Int32).toNatClampNeg : Int32) then (F_NM_isLong_L26 x2 t0_0 t0_1 t0_2 t1_0 t1_1 t1_2 t1_3 t1_4 t1_5 t1_6 t1_7 t1_8 t1_9 t1_10 t2_0 t3_0 t4_0 t5_0 lx38 fm (lx56 + 1 : Int32) 0 ((10 * lx58 : Int64) - ((t2_0 ((1000 * x2 : Int32) + lx56 : Int32).toNatClampNeg : Int32).toInt64 : Int64) : Int64)) else (F_NM_isLong_L26 x2 t0_0 t0_1 t0_2 t1_0 t1_1 t1_2 t1_3 t1_4 t1_5 t1_6 t1_7 t1_8 t1_9 t1_10 t2_0 t3_0 t4_0 t5_0 lx38 fm (lx56 + 1 : Int32) 1 ((10 * lx58 : Int64) - ((t2_0 ((1000 * x2 : Int32) + lx56 : Int32).toNatClampNeg : Int32).toInt64 : Int64) : Int64))) else (F_NM_isLong_L26 x2 t0_0 t0_1 t0_2 t1_0 t1_1 t1_2 t1_3 t1_4 t1_5 t1_6 t1_7 t1_8 t1_9 t1_10 t2_0 t3_0 t4_0 t5_0 lx38 fm (lx56 + 1 : Int32) 0 ((10 * lx58 : Int64) - ((t2_0 ((1000 * x2 : Int32) + lx56 : Int32).toNatClampNeg : Int32).toInt64 : Int64) : Int64)))))
def F_NM_isLong_J21 (x2 : Int32) (t0_0 : Int32) (t0_1 : Int32) (t0_2 : Int32) (t1_0 : Int32) (t1_1 : Int32) (t1_2 : Int32) (t1_3 : Int64) (t1_4 : Int32) (t1_5 : Int32) (t1_6 : Int32) (t1_7 : Int32) (t1_8 : Int32) (t1_9 : Int32) (t1_10 : Int32) (t2_0 : (Nat → Int32)) (t3_0 : (Nat → Int32)) (t4_0 : (Nat → Int32)) (t5_0 : (Nat → Int64)) (lx38 : Int32) : Int32 × (Nat → Int64) := F_NM_isLong_L26 x2 t0_0 t0_1 t0_2 t1_0 t1_1 t1_2 t1_3 t1_4 t1_5 t1_6 t1_7 t1_8 t1_9 t1_10 t2_0 t3_0 t4_0 t5_0 lx38 ((12200 - (0 : Int32).toInt).toNat + 1) 0 lx38 0
def F_NM_isLong (x2 : Int32) (t0_0 : Int32) (t0_1 : Int32) (t0_2 : Int32) (t1_0 : Int32) (t1_1 : Int32) (t1_2 : Int32) (t1_3 : Int64) (t1_4 : Int32) (t1_5 : Int32) (t1_6 : Int32) (t1_7 : Int32) (t1_8 : Int32) (t1_9 : Int32) (t1_10 : Int32) (t2_0 : (Nat → Int32)) (t3_0 : (Nat → Int32)) (t4_0 : (Nat → Int32)) (t5_0 : (Nat → Int64)) : Int32 × (Nat → Int64) := if (19 : Int32) < (t3_0 x2.toNatClampNeg : Int32) then (F_NM_isLong_J21 x2 t0_0 t0_1 t0_2 t1_0 t1_1 t1_2 t1_3 t1_4 t1_5 t1_6 t1_7 t1_8 t1_9 t1_10 t2_0 t3_0 t4_0 t5_0 0) else (F_NM_isLong_J21 x2 t0_0 t0_1 t0_2 t1_0 t1_1 t1_2 t1_3 t1_4 t1_5 t1_6 t1_7 t1_8 t1_9 t1_10 t2_0 t3_0 t4_0 t5_0 1)
def S_NM_isLong_J139 (K_S_NM_isLong_L26 : Int32 → Int32 → Int64 → Prop) (x2 : Int32) (t0_0 : Int32) (t0_1 : Int32) (t0_2 : Int32) (t1_0 : Int32) (t1_1 : Int32) (t1_2 : Int32) (t1_3 : Int64) (t1_4 : Int32) (t1_5 : Int32) (t1_6 : Int32) (t1_7 : Int32) (t1_8 : Int32) (t1_9 : Int32) (t1_10 : Int32) (t2_0 : (Nat → Int32)) (t3_0 : (Nat → Int32)) (t4_0 : (Nat → Int32)) (t5_0 : (Nat → Int64)) (lx38 : Int32) (lx56 : Int32) (lx57 : Int32) (lx58 : Int64) (lx83 : Int32) : Prop := if (t4_0 x2.toNatClampNeg : Int32) = (0 : Int32) then (True) else (True)
def S_NM_isLong_J138 (K_S_NM_isLong_L26 : Int32 → Int32 → Int64 → Prop) (x2 : Int32) (t0_0 : Int32) (t0_1 : Int32) (t0_2 : Int32) (t1_0 : Int32) (t1_1 : Int32) (t1_2 : Int32) (t1_3 : Int64) (t1_4 : Int32) (t1_5 : Int32) (t1_6 : Int32) (t1_7 : Int32) (t1_8 : Int32) (t1_9 : Int32) (t1_10 : Int32) (t2_0 : (Nat → Int32)) (t3_0 : (Nat → Int32)) (t4_0 : (Nat → Int32)) (t5_0 : (Nat → Int64)) (lx38 : Int32) (lx56 : Int32) (lx57 : Int32) (lx58 : Int64) : Prop := S_NM_isLong_J139 K_S_NM_isLong_L26 x2 t0_0 t0_1 t0_2 t1_0 t1_1 t1_2 t1_3 t1_4 t1_5 t1_6 t1_7 t1_8 t1_9 t1_10 t2_0 t3_0 t4_0 t5_0 lx38 lx56 lx57 lx58 0
def S_NM_isLong_J134 (K_S_NM_isLong_L26 : Int32 → Int32 → Int64 → Prop) (x2 : Int32) (t0_0 : Int32) (t0_1 : Int32) (t0_2 : Int32) (t1_0 : Int32) (t1_1 : Int32) (t1_2 : Int32) (t1_3 : Int64) (t1_4 : Int32) (t1_5 : Int32) (t1_6 : Int32) (t1_7 : Int32) (t1_8 : Int32) (t1_9 : Int32) (t1_10 : Int32) (t2_0 : (Nat → Int32)) (t3_0 : (Nat → Int32)) (t4_0 : (Nat → Int32)) (t5_0 : (Nat → Int64)) (lx38 : Int32) (lx56 : Int32) (lx57 : Int32) (lx58 : Int64) : Prop := S_NM_isLong_J139 K_S_NM_isLong_L26 x2 t0_0 t0_1 t0_2 t1_0 t1_1 t1_2 t1_3 t1_4 t1_5 t1_6 t1_7 t1_8 t1_9 t1_10 t2_0 t3_0 t4_0 t5_0 lx38 lx56 lx57 lx58 1
def S_NM_isLong_J109 (K_S_NM_isLong_L26 : Int32 → Int32 → Int64 → Prop) (x2 : Int32) (t0_0 : Int32) (t0_1 : Int32) (t0_2 : Int32) (t1_0 : Int32) (t1_1 : Int32) (t1_2 : Int32) (t1_3 : Int64) (t1_4 : Int32) (t1_5 : Int32) (t1_6 : Int32) (t1_7 : Int32) (t1_8 : Int32) (t1_9 : Int32) (t1_10 : Int32) (t2_0 : (Nat → Int32)) (t3_0 : (Nat → Int32)) (t4_0 : (Nat → Int32)) (t5_0 : (Nat → Int64)) (lx38 : Int32) (lx56 : Int32) (lx57 : Int32) (lx58 : Int64) : Prop := if lx57 = (0 : Int32) then (S_NM_isLong_J138 K_S_NM_isLong_L26 x2 t0_0 t0_1 t0_2 t1_0 t1_1 t1_2 t1_3 t1_4 t1_5 t1_6 t1_7 t1_8 t1_9 t1_10 t2_0 t3_0 t4_0 t5_0 lx38 lx56 lx57 lx58) else (if (t4_0 x2.toNatClampNeg : Int32) = (0 : Int32) then (if (lg_cmp lx58 (-9223372036854775808) : Int32) = (0 : Int32) then (S_NM_isLong_J138 K_S_NM_isLong_L26 x2 t0_0 t0_1 t0_2 t1_0 t1_1 t1_2 t1_3 t1_4 t1_5 t1_6 t1_7 t1_8 t1_9 t1_10 t2_0 t3_0 t4_0 t5_0 lx38 lx56 lx57 lx58) else (S_NM_isLong_J134 K_S_NM_isLong_L26 x2 t0_0 t0_1 t0_2 t1_0 t1_1 t1_2 t1_3 t1_4 t1_5 t1_6 t1_7 t1_8 t1_9 t1_10 t2_0 t3_0 t4_0 t5_0 lx38 lx56 lx57 lx58)) else (S_NM_isLong_J134 K_S_NM_isLong_L26 x2 t0_0 t0_1 t0_2 t1_0 t1_1 t1_2 t1_3 t1_4 t1_5 t1_6 t1_7 t1_8 t1_9 t1_10 t2_0 t3_0 t4_0 t5_0 lx38 lx56 lx57 lx58))
def S_NM_isLong_L26 (x2 : Int32) (t0_0 : Int32) (t0_1 : Int32) (t0_2 : Int32) (t1_0 : Int32) (t1_1 : Int32) (t1_2 : Int32) (t1_3 : Int64) (t1_4 : Int32) (t1_5 : Int32) (t1_6 : Int32) (t1_7 : Int32) (t1_8 : Int32) (t1_9 : Int32) (t1_10 : Int32) (t2_0 : (Nat → Int32)) (t3_0 : (Nat → Int32)) (t4_0 : (Nat → Int32)) (t5_0 : (Nat → Int64)) (lx38 : Int32) : Nat → Int32 → Int32 → Int64 → Prop
  | 0, _, _, _ => False
  | fm + 1, lx56, lx57, lx58 => if (t3_0 x2.toNatClampNeg : Int32) ≤ lx56 then (S_NM_isLong_J109 (S_NM_isLong_L26 x2 t0_0 t0_1 t0_2 t1_0 t1_1 t1_2 t1_3 t1_4 t1_5 t1_6 t1_7 t1_8 t1_9 t1_10 t2_0 t3_0 t4_0 t5_0 lx38 fm) x2 t0_0 t0_1 t0_2 t1_0 t1_1 t1_2 t1_3 t1_4 t1_5 t1_6 t1_7 t1_8 t1_9 t1_10 t2_0 t3_0 t4_0 t5_0 lx38 lx56 lx57 lx58) else (if lx57 = (0 : Int32) then (S_NM_isLong_J109 (S_NM_isLong_L26 x2 t0_0 t0_1 t0_2 t1_0 t1_1 t1_2 t1_3 t1_4 t1_5 t1_6 t1_7 t1_8 t1_9 t1_10 t2_0 t3_0 t4_0 t5_0 lx38 fm) x2 t0_0 t0_1 t0_2 t1_0 t1_1 t1_2 t1_3 t1_4 t1_5 t1_6 t1_7 t1_8 t1_9 t1_10 t2_0 t3_0 t4_0 t5_0 lx38 lx56 lx57 lx58) else ((((1000 * x2 : Int32) + lx56 : Int32).toInt ≤ 9999) ∧ (if (0 : Int32) < (lg_cmp lx58 (-922337203685477580) : Int32) then (((lx56 + 1 : Int32).toInt ≤ 12200) ∧ (S_NM_isLong_L26 x2 t0_0 t0_1 t0_2 t1_0 t1_1 t1_2 t1_3 t1_4 t1_5 t1_6 t1_7 t1_8 t1_9 t1_10 t2_0 t3_0 t4_0 t5_0 lx38 fm (lx56 + 1 : Int32) 1 ((10 * lx58 : Int64) - ((t2_0 ((1000 * x2 : Int32) + lx56 : Int32).toNatClampNeg : Int32).toInt64 : Int64) : Int64))) else (if (lg_cmp lx58 (-922337203685477580) : Int32) = (0 : Int32) then (if (8 : Int32) < (t2_0 ((1000 * x2 : Int32) + lx56 : Int32).toNatClampNeg : Int32) then (((lx56 + 1 : Int32).toInt ≤ 12200) ∧ (S_NM_isLong_L26 x2 t0_0 t0_1 t0_2 t1_0 t1_1 t1_2 t1_3 t1_4 t1_5 t1_6 t1_7 t1_8 t1_9 t1_10 t2_0 t3_0 t4_0 t5_0 lx38 fm (lx56 + 1 : Int32) 0 ((10 * lx58 : Int64) - ((t2_0 ((1000 * x2 : Int32) + lx56 : Int32).toNatClampNeg : Int32).toInt64 : Int64) : Int64))) else (((lx56 + 1 : Int32).toInt ≤ 12200) ∧ (S_NM_isLong_L26 x2 t0_0 t0_1 t0_2 t1_0 t1_1 t1_2 t1_3 t1_4 t1_5 t1_6 t1_7 t1_8 t1_9 t1_10 t2_0 t3_0 t4_0 t5_0 lx38 fm (lx56 + 1 : Int32) 1 ((10 * lx58 : Int64) - ((t2_0 ((1000 * x2 : Int32) + lx56 : Int32).toNatClampNeg : Int32).toInt64 : Int64) : Int64)))) else (((lx56 + 1 : Int32).toInt ≤ 12200) ∧ (S_NM_isLong_L26 x2 t0_0 t0_1 t0_2 t1_0 t1_1 t1_2 t1_3 t1_4 t1_5 t1_6 t1_7 t1_8 t1_9 t1_10 t2_0 t3_0 t4_0 t5_0 lx38 fm (lx56 + 1 : Int32) 0 ((10 * lx58 : Int64) - ((t2_0 ((1000 * x2 : Int32) + lx56 : Int32).toNatClampNeg : Int32).toInt64 : Int64) : Int64)))))))
def S_NM_isLong_J21 (x2 : Int32) (t0_0 : Int32) (t0_1 : Int32) (t0_2 : Int32) (t1_0 : Int32) (t1_1 : Int32) (t1_2 : Int32) (t1_3 : Int64) (t1_4 : Int32) (t1_5 : Int32) (t1_6 : Int32) (t1_7 : Int32) (t1_8 : Int32) (t1_9 : Int32) (t1_10 : Int32) (t2_0 : (Nat → Int32)) (t3_0 : (Nat → Int32)) (t4_0 : (Nat → Int32)) (t5_0 : (Nat → Int64)) (lx38 : Int32) : Prop := S_NM_isLong_L26 x2 t0_0 t0_1 t0_2 t1_0 t1_1 t1_2 t1_3 t1_4 t1_5 t1_6 t1_7 t1_8 t1_9 t1_10 t2_0 t3_0 t4_0 t5_0 lx38 ((12200 - (0 : Int32).toInt).toNat + 1) 0 lx38 0
def S_NM_isLong (x2 : Int32) (t0_0 : Int32) (t0_1 : Int32) (t0_2 : Int32) (t1_0 : Int32) (t1_1 : Int32) (t1_2 : Int32) (t1_3 : Int64) (t1_4 : Int32) (t1_5 : Int32) (t1_6 : Int32) (t1_7 : Int32) (t1_8 : Int32) (t1_9 : Int32) (t1_10 : Int32) (t2_0 : (Nat → Int32)) (t3_0 : (Nat → Int32)) (t4_0 : (Nat → Int32)) (t5_0 : (Nat → Int64)) : Prop := (0 ≤ x2.toInt) ∧ ((x2.toInt ≤ 9) ∧ (if (19 : Int32) < (t3_0 x2.toNatClampNeg : Int32) then (S_NM_isLong_J21 x2 t0_0 t0_1 t0_2 t1_0 t1_1 t1_2 t1_3 t1_4 t1_5 t1_6 t1_7 t1_8 t1_9 t1_10 t2_0 t3_0 t4_0 t5_0 0) else (S_NM_isLong_J21 x2 t0_0 t0_1 t0_2 t1_0 t1_1 t1_2 t1_3 t1_4 t1_5 t1_6 t1_7 t1_8 t1_9 t1_10 t2_0 t3_0 t4_0 t5_0 1)))
set_option maxRecDepth 100000 in
set_option maxHeartbeats 4000000 in
theorem X_NM_isLong (l : Launch) (D : va_G) (g : Nat → ClassId) (q : Nat → Nat) (ws : va_W) (x2 : Int32) (hI : q_I (msh g q) q ws) (t0_0 : Int32) (t0_1 : Int32) (t0_2 : Int32) (hT0 : ws[116]? = (some (q 116, .inr (12, [.int t0_0, .ref (q 117), .int t0_1, .ref (q 118), .int t0_2, .ref (q 119), .ref (q 134), .ref (q 145), .ref (q 153), .ref (q 157), .ref (q 167), .ref (q 168)])) : Option (Nat × va_E))) (t1_0 : Int32) (t1_1 : Int32) (t1_2 : Int32) (t1_3 : Int64) (t1_4 : Int32) (t1_5 : Int32) (t1_6 : Int32) (t1_7 : Int32) (t1_8 : Int32) (t1_9 : Int32) (t1_10 : Int32) (hT1 : ws[134]? = (some (q 134, .inr (14, [.int t1_0, .ref (q 135), .int t1_1, .ref (q 136), .ref (q 137), .ref (q 138), .ref (q 139), .ref (q 140), .int t1_2, .long t1_3, .int t1_4, .int t1_5, .ref (q 141), .int t1_6, .ref (q 142), .int t1_7, .ref (q 143), .int t1_8, .ref (q 144), .int t1_9, .int t1_10])) : Option (Nat × va_E))) (t2_0 : (Nat → Int32)) (hT2 : ws[136]? = (some (q 136, .inl (g 0, (10000 : Int32).toNatClampNeg, .inl t2_0)) : Option (Nat × va_E))) (t3_0 : (Nat → Int32)) (hT3 : ws[137]? = (some (q 137, .inl (g 0, (10 : Int32).toNatClampNeg, .inl t3_0)) : Option (Nat × va_E))) (t4_0 : (Nat → Int32)) (hT4 : ws[138]? = (some (q 138, .inl (g 3, 10, .inl t4_0)) : Option (Nat × va_E))) (t5_0 : (Nat → Int64)) (hT5 : ws[168]? = (some (q 168, .inl (g 1, 1, .inr (.inl t5_0))) : Option (Nat × va_E))) (hS : True ∧ S_NM_isLong x2 t0_0 t0_1 t0_2 t1_0 t1_1 t1_2 t1_3 t1_4 t1_5 t1_6 t1_7 t1_8 t1_9 t1_10 t2_0 t3_0 t4_0 t5_0) : q_mI l y_NM_isLong prog_14_method_35_code 8 (.boolean) 1 0 0 D g [.ref (q 116), .int x2, .ref (q 168)] ws (fun r u => q_I (msh g q) q u ∧ q_un ws u [168] ∧ ∃ (u5_0 : (Nat → Int64)), u[168]? = (some (q 168, .inl (g 1, 1, .inr (.inl u5_0))) : Option (Nat × va_E)) ∧ (0 ≤ r.toInt) ∧ (r.toInt ≤ 1) ∧ (x2.toInt ≤ r.toInt + 9) ∧ (r.toInt ≤ x2.toInt + 1) ∧ (r, u5_0) = (F_NM_isLong x2 t0_0 t0_1 t0_2 t1_0 t1_1 t1_2 t1_3 t1_4 t1_5 t1_6 t1_7 t1_8 t1_9 t1_10 t2_0 t3_0 t4_0 t5_0)) := by
  intro sz
  refine q_into (by decide) (Nat.le_of_ble_eq_true rfl) ?_
  intro p e s m below meth c ls hsz C0 V hl
  have hx := C0.1
  have hb := C0.2.1
  have btt0_2 := (n_w116 hI hT0).2
  clear btt0_2
  have hZ9 := (n_w134 hI hT1).2.2
  obtain ⟨-, btt1_9⟩ := hZ9
  clear btt1_9
  have hF : q_un ws ws [168] := q_u0
  have hl : lv_has ls 8 [(0, .ref (q 116)), (1, .int x2), (2, .ref (q 168))] := hl
  refine lv_lconst (v := 0) hx hb d_14_35_0 (by decide) ?_
  refine lv_lstore_n (lv' := [(3, .long 0), (0, .ref (q 116)), (1, .int x2), (2, .ref (q 168))]) hx hb d_14_35_1 rfl hl (by decide) rfl (fun ls hl => ?_)
  refine lv_aload_n hx hb d_14_35_2 rfl (lv_at hl 1 rfl) ?_
  refine q_get (ci := 12) (j := 6) (v := .ref (q 134)) C0 V i_NM rfl rfl hT0 (by decide) w_2304 rfl d_14_35_3 ?_
  refine q_getN (ci := 14) (j := 4) (v := .ref (q 137)) C0 V i_DR rfl rfl hT1 (by decide) wo_2005 rfl d_14_35_6 ?_
  refine lv_iload_n hx hb d_14_35_9 rfl (lv_at hl 2 rfl) ?_
  have ob34 : q_F (0 ≤ x2.toInt) := (by have h := hS; rw [S_NM_isLong.eq_1] at h; exact h.2.1)
  have ob35 : q_F (x2.toInt ≤ 9) := (by have h := hS; rw [S_NM_isLong.eq_1] at h; replace h := q_s2 h; exact h.2.1)
  refine q_iald C0 V hT3 (q_ix (x := x2.toInt) rfl (by first | with_reducible exact q_fe ob34 | (have t1 : 0 ≤ x2.toInt := ob34; omega)) (by have t1 : 0 ≤ x2.toInt := ob34; have t2 : x2.toInt ≤ 9 := ob35; have e9 : (((10 : Int32).toNatClampNeg : Nat) : Int) = 10 := (by decide); omega)) d_14_35_10 ?_
  obtain ⟨a36, e37⟩ := q_nm (t3_0 x2.toNatClampNeg : Int32)
  refine q_ti (v := a36) e37 ?_
  refine lv_bipush (v := 19) hx hb d_14_35_11 (by decide) ?_
  refine q_join (X := Int32) (fun z H locs ls _ => q_F (0 ≤ z.toInt) ∧ q_F (z.toInt ≤ 1) ∧ q_Wd D g (va_A ws sz) s ws H locs ∧ lv_has ls 8 [(3, .long 0), (0, .ref (q 116)), (1, .int x2), (2, .ref (q 168))] ∧ F_NM_isLong_J21 x2 t0_0 t0_1 t0_2 t1_0 t1_1 t1_2 t1_3 t1_4 t1_5 t1_6 t1_7 t1_8 t1_9 t1_10 t2_0 t3_0 t4_0 t5_0 z = (F_NM_isLong x2 t0_0 t0_1 t0_2 t1_0 t1_1 t1_2 t1_3 t1_4 t1_5 t1_6 t1_7 t1_8 t1_9 t1_10 t2_0 t3_0 t4_0 t5_0) ∧ True ∧ S_NM_isLong_J21 x2 t0_0 t0_1 t0_2 t1_0 t1_1 t1_2 t1_3 t1_4 t1_5 t1_6 t1_7 t1_8 t1_9 t1_10 t2_0 t3_0 t4_0 t5_0 z) (fun z => [.int z]) 21 0 0 ?_ ?_
  ·
    rintro lx38 H locs ls _ hZ9
    obtain ⟨i46, hZ9⟩ := hZ9
    obtain ⟨i47, hZ9⟩ := hZ9
    obtain ⟨V, hZ9⟩ := hZ9
    obtain ⟨hl, hZ9⟩ := hZ9
    obtain ⟨hR48, hS49⟩ := hZ9
    replace i46 : q_F (0 ≤ lx38.toInt) := i46
    replace i47 : q_F (lx38.toInt ≤ 1) := i47
    replace hl : lv_has ls 8 [(3, .long 0), (0, .ref (q 116)), (1, .int x2), (2, .ref (q 168))] := hl
    refine lv_istore (lv' := [(5, .int lx38), (3, .long 0), (0, .ref (q 116)), (1, .int x2), (2, .ref (q 168))]) hx hb d_14_35_21 hl (by decide) rfl (fun ls hl => ?_)
    refine lv_iconst (v := 0) hx hb d_14_35_23 (by decide) ?_
    refine lv_istore (lv' := [(6, .int 0), (5, .int lx38), (3, .long 0), (0, .ref (q 116)), (1, .int x2), (2, .ref (q 168))]) hx hb d_14_35_24 hl (by decide) rfl (fun ls hl => ?_)
    refine q_loop (X := Int32 × Int32 × Int64) (fun z H locs ls _ => q_F (z.1.toInt ≤ 12200) ∧ q_F (0 ≤ z.2.1.toInt) ∧ q_F (z.2.1.toInt ≤ lx38.toInt) ∧ q_F (lx38.toInt ≤ z.1.toInt + z.2.1.toInt) ∧ q_Wd D g (va_A ws sz) s ws H locs ∧ lv_has ls 8 [(6, .int z.1), (5, .int z.2.1), (3, .long z.2.2), (0, .ref (q 116)), (1, .int x2), (2, .ref (q 168))] ∧ (∃ n, (12200 - z.1.toInt).toNat < n ∧ F_NM_isLong_L26 x2 t0_0 t0_1 t0_2 t1_0 t1_1 t1_2 t1_3 t1_4 t1_5 t1_6 t1_7 t1_8 t1_9 t1_10 t2_0 t3_0 t4_0 t5_0 lx38 n z.1 z.2.1 z.2.2 = (F_NM_isLong x2 t0_0 t0_1 t0_2 t1_0 t1_1 t1_2 t1_3 t1_4 t1_5 t1_6 t1_7 t1_8 t1_9 t1_10 t2_0 t3_0 t4_0 t5_0) ∧ True ∧ S_NM_isLong_L26 x2 t0_0 t0_1 t0_2 t1_0 t1_1 t1_2 t1_3 t1_4 t1_5 t1_6 t1_7 t1_8 t1_9 t1_10 t2_0 t3_0 t4_0 t5_0 lx38 n z.1 z.2.1 z.2.2)) (fun z => (12200 - z.1.toInt).toNat) ?_ ((0 : Int32), (lx38 : Int32), (0 : Int64)) _ _ _ ws ⟨(show q_F (0 ≤ 12200) from (show 0 ≤ 12200 from by omega)), (show q_F (0 ≤ lx38.toInt) from (show 0 ≤ lx38.toInt from by have t1 : 0 ≤ lx38.toInt := i46; omega)), (show q_F (lx38.toInt ≤ lx38.toInt) from (show lx38.toInt ≤ lx38.toInt from by omega)), (show q_F (lx38.toInt ≤ 0 + lx38.toInt) from (show lx38.toInt ≤ 0 + lx38.toInt from by omega)), V, q_lw hl (q_lw1 0 rfl (q_lw1 1 rfl (q_lw1 2 rfl (q_lw1 3 rfl (q_lw1 4 rfl (q_lw1 5 rfl q_lw0)))))), ⟨((12200 - (0 : Int32).toInt).toNat + 1), Nat.lt_succ_self _, (show F_NM_isLong_L26 x2 t0_0 t0_1 t0_2 t1_0 t1_1 t1_2 t1_3 t1_4 t1_5 t1_6 t1_7 t1_8 t1_9 t1_10 t2_0 t3_0 t4_0 t5_0 lx38 ((12200 - (0 : Int32).toInt).toNat + 1) 0 lx38 0 = (F_NM_isLong x2 t0_0 t0_1 t0_2 t1_0 t1_1 t1_2 t1_3 t1_4 t1_5 t1_6 t1_7 t1_8 t1_9 t1_10 t2_0 t3_0 t4_0 t5_0) from Eq.trans (by rw [F_NM_isLong_J21.eq_1]) hR48), (show True ∧ S_NM_isLong_L26 x2 t0_0 t0_1 t0_2 t1_0 t1_1 t1_2 t1_3 t1_4 t1_5 t1_6 t1_7 t1_8 t1_9 t1_10 t2_0 t3_0 t4_0 t5_0 lx38 ((12200 - (0 : Int32).toInt).toNat + 1) 0 lx38 0 from (by have h := hS49; rw [S_NM_isLong_J21.eq_1] at h; with_reducible exact h))⟩⟩
    rintro ⟨lx56, lx57, lx58⟩ H locs ls _ ⟨i59, i60, i61, i62, V, hl, ⟨fu66, hf67, hR64, hS65⟩⟩ ih63
    obtain ⟨fm68, rfl⟩ : ∃ m, fu66 = m + 1 := ⟨fu66 - 1, by omega⟩
    replace i59 : q_F (lx56.toInt ≤ 12200) := i59
    replace i60 : q_F (0 ≤ lx57.toInt) := i60
    replace i61 : q_F (lx57.toInt ≤ lx38.toInt) := i61
    replace i62 : q_F (lx38.toInt ≤ lx56.toInt + lx57.toInt) := i62
    replace hl : lv_has ls 8 [(6, .int lx56), (5, .int lx57), (3, .long lx58), (0, .ref (q 116)), (1, .int x2), (2, .ref (q 168))] := hl
    refine lv_iload hx hb d_14_35_26 (lv_at hl 0 rfl) ?_
    refine lv_aload_n hx hb d_14_35_28 rfl (lv_at hl 3 rfl) ?_
    refine q_get (ci := 12) (j := 6) (v := .ref (q 134)) C0 V i_NM rfl rfl hT0 (by decide) w_2304 rfl d_14_35_29 ?_
    refine q_getN (ci := 14) (j := 4) (v := .ref (q 137)) C0 V i_DR rfl rfl hT1 (by decide) wo_2005 rfl d_14_35_32 ?_
    refine lv_iload_n hx hb d_14_35_35 rfl (lv_at hl 4 rfl) ?_
    refine q_iald C0 V hT3 (q_ix (x := x2.toInt) rfl (by first | with_reducible exact q_fe ob34 | (have t1 : 0 ≤ x2.toInt := ob34; omega)) (by have t1 : 0 ≤ x2.toInt := ob34; have t2 : x2.toInt ≤ 9 := ob35; have e9 : (((10 : Int32).toNatClampNeg : Nat) : Int) = 10 := (by decide); omega)) d_14_35_36 ?_
    obtain ⟨a69, e70⟩ := q_nm (t3_0 x2.toNatClampNeg : Int32)
    refine q_ti (v := a69) e70 ?_
    refine q_join (X := Unit) (fun z H locs ls _ => q_Wd D g (va_A ws sz) s ws H locs ∧ lv_has ls 8 [(5, .int lx57), (3, .long lx58), (0, .ref (q 116)), (1, .int x2), (2, .ref (q 168))] ∧ F_NM_isLong_J109 (F_NM_isLong_L26 x2 t0_0 t0_1 t0_2 t1_0 t1_1 t1_2 t1_3 t1_4 t1_5 t1_6 t1_7 t1_8 t1_9 t1_10 t2_0 t3_0 t4_0 t5_0 lx38 fm68) x2 t0_0 t0_1 t0_2 t1_0 t1_1 t1_2 t1_3 t1_4 t1_5 t1_6 t1_7 t1_8 t1_9 t1_10 t2_0 t3_0 t4_0 t5_0 lx38 lx56 lx57 lx58 = (F_NM_isLong x2 t0_0 t0_1 t0_2 t1_0 t1_1 t1_2 t1_3 t1_4 t1_5 t1_6 t1_7 t1_8 t1_9 t1_10 t2_0 t3_0 t4_0 t5_0) ∧ True ∧ S_NM_isLong_J109 (S_NM_isLong_L26 x2 t0_0 t0_1 t0_2 t1_0 t1_1 t1_2 t1_3 t1_4 t1_5 t1_6 t1_7 t1_8 t1_9 t1_10 t2_0 t3_0 t4_0 t5_0 lx38 fm68) x2 t0_0 t0_1 t0_2 t1_0 t1_1 t1_2 t1_3 t1_4 t1_5 t1_6 t1_7 t1_8 t1_9 t1_10 t2_0 t3_0 t4_0 t5_0 lx38 lx56 lx57 lx58) (fun z => []) 109 0 0 ?_ ?_
    ·
      rintro _ H locs ls _ ⟨V, hl, hR78, hS79⟩
      replace hl : lv_has ls 8 [(5, .int lx57), (3, .long lx58), (0, .ref (q 116)), (1, .int x2), (2, .ref (q 168))] := hl
      refine lv_iload hx hb d_14_35_109 (lv_at hl 0 rfl) ?_
      refine q_join (X := Int32) (fun z H locs ls _ => q_F (0 ≤ z.toInt) ∧ q_F (z.toInt ≤ lx57.toInt) ∧ q_Wd D g (va_A ws sz) s ws H locs ∧ lv_has ls 8 [(3, .long lx58), (0, .ref (q 116)), (1, .int x2), (2, .ref (q 168))] ∧ F_NM_isLong_J139 (F_NM_isLong_L26 x2 t0_0 t0_1 t0_2 t1_0 t1_1 t1_2 t1_3 t1_4 t1_5 t1_6 t1_7 t1_8 t1_9 t1_10 t2_0 t3_0 t4_0 t5_0 lx38 fm68) x2 t0_0 t0_1 t0_2 t1_0 t1_1 t1_2 t1_3 t1_4 t1_5 t1_6 t1_7 t1_8 t1_9 t1_10 t2_0 t3_0 t4_0 t5_0 lx38 lx56 lx57 lx58 z = (F_NM_isLong x2 t0_0 t0_1 t0_2 t1_0 t1_1 t1_2 t1_3 t1_4 t1_5 t1_6 t1_7 t1_8 t1_9 t1_10 t2_0 t3_0 t4_0 t5_0) ∧ True ∧ S_NM_isLong_J139 (S_NM_isLong_L26 x2 t0_0 t0_1 t0_2 t1_0 t1_1 t1_2 t1_3 t1_4 t1_5 t1_6 t1_7 t1_8 t1_9 t1_10 t2_0 t3_0 t4_0 t5_0 lx38 fm68) x2 t0_0 t0_1 t0_2 t1_0 t1_1 t1_2 t1_3 t1_4 t1_5 t1_6 t1_7 t1_8 t1_9 t1_10 t2_0 t3_0 t4_0 t5_0 lx38 lx56 lx57 lx58 z) (fun z => [.int z]) 139 0 0 ?_ ?_
      ·
        rintro lx83 H locs ls _ hZ9
        obtain ⟨i91, hZ9⟩ := hZ9
        obtain ⟨i92, hZ9⟩ := hZ9
        obtain ⟨V, hZ9⟩ := hZ9
        obtain ⟨hl, hZ9⟩ := hZ9
        obtain ⟨hR93, hS94⟩ := hZ9
        replace i91 : q_F (0 ≤ lx83.toInt) := i91
        replace i92 : q_F (lx83.toInt ≤ lx57.toInt) := i92
        replace hl : lv_has ls 8 [(3, .long lx58), (0, .ref (q 116)), (1, .int x2), (2, .ref (q 168))] := hl
        refine lv_istore (lv' := [(5, .int lx83), (3, .long lx58), (0, .ref (q 116)), (1, .int x2), (2, .ref (q 168))]) hx hb d_14_35_139 hl (by decide) rfl (fun ls hl => ?_)
        refine lv_aload_n hx hb d_14_35_141 rfl (lv_at hl 4 rfl) ?_
        refine lv_iconst (v := 0) hx hb d_14_35_142 (by decide) ?_
        refine lv_aload_n hx hb d_14_35_143 rfl (lv_at hl 2 rfl) ?_
        refine q_get (ci := 12) (j := 6) (v := .ref (q 134)) C0 V i_NM rfl rfl hT0 (by decide) w_2304 rfl d_14_35_144 ?_
        refine q_getN (ci := 14) (j := 5) (v := .ref (q 138)) C0 V i_DR rfl rfl hT1 (by decide) wo_2007 rfl d_14_35_147 ?_
        refine lv_iload_n hx hb d_14_35_150 rfl (lv_at hl 3 rfl) ?_
        refine q_zald C0 V hT4 (q_ix (x := x2.toInt) rfl (by first | with_reducible exact q_fe ob34 | (have t1 : 0 ≤ x2.toInt := ob34; omega)) (by have t1 : 0 ≤ x2.toInt := ob34; have t2 : x2.toInt ≤ 9 := ob35; omega)) d_14_35_151 ?_
        obtain ⟨a98, e99⟩ := q_nm (t4_0 x2.toNatClampNeg : Int32)
        refine q_ti (v := a98) e99 ?_
        refine lv_if_eq (tgt := 159) hx hb d_14_35_152 (by decide) (fun c100 => ?_) (fun c100 => ?_)
        ·
          refine lv_lload_n hx hb d_14_35_159 rfl (lv_at hl 1 rfl) ?_
          refine lv_lneg hx hb d_14_35_160 ?_
          obtain ⟨j102, e103⟩ := q_nm (-lx58 : Int64)
          refine q_tl (v := j102) e103 ?_
          refine q_last C0 V hT5 (q_ix (x := 0) (by decide) (by omega) (by omega)) d_14_35_161 (fun H locs w104 hu105 hT5 V => ?_)
          replace hI := n_al' hI (n_s168 g q) hu105 hT5
          replace hF := q_us hF hu105 (by simp)
          obtain ⟨f106, e107⟩ := q_nm (vp_updL t5_0 (0 : Int32).toNatClampNeg j102 : (Nat → Int64))
          rw [e107] at hT5
          refine lv_iload hx hb d_14_35_162 (lv_at hl 0 rfl) ?_
          exact q_retz C0 V (q_nz01 (q_Ile (x := 0) (y := lx83.toInt) (by decide) rfl (by first | with_reducible exact q_fe i91 | (have t1 : 0 ≤ lx83.toInt := i91; omega))) (q_Ile (x := lx83.toInt) (y := 1) rfl (by decide) (by have t1 : lx38.toInt ≤ 1 := i47; have t2 : lx57.toInt ≤ lx38.toInt := i61; have t3 : lx83.toInt ≤ lx57.toInt := i92; omega))) (⟨hI, hF, f106, hT5, (show 0 ≤ lx83.toInt from (by first | with_reducible exact q_fe i91 | (have t1 : 0 ≤ lx83.toInt := i91; omega))), (show lx83.toInt ≤ 1 from (by have t1 : lx38.toInt ≤ 1 := i47; have t2 : lx57.toInt ≤ lx38.toInt := i61; have t3 : lx83.toInt ≤ lx57.toInt := i92; omega)), (show x2.toInt ≤ lx83.toInt + 9 from (by have t1 : x2.toInt ≤ 9 := ob35; have t2 : 0 ≤ lx83.toInt := i91; omega)), (show lx83.toInt ≤ x2.toInt + 1 from (by have t1 : 0 ≤ x2.toInt := ob34; have t2 : lx38.toInt ≤ 1 := i47; have t3 : lx57.toInt ≤ lx38.toInt := i61; have t4 : lx83.toInt ≤ lx57.toInt := i92; omega)), (show (lx83, f106) = (F_NM_isLong x2 t0_0 t0_1 t0_2 t1_0 t1_1 t1_2 t1_3 t1_4 t1_5 t1_6 t1_7 t1_8 t1_9 t1_10 t2_0 t3_0 t4_0 t5_0) from Eq.trans (by have c100x := c100; rw [← e99] at c100x; rw [← e107, ← e103, F_NM_isLong_J139.eq_1, if_pos c100x]) hR93)⟩) d_14_35_164
        ·
          refine lv_lload_n hx hb d_14_35_155 rfl (lv_at hl 1 rfl) ?_
          refine lv_goto (tgt := 161) hx hb d_14_35_156 (by decide) ?_
          refine q_last C0 V hT5 (q_ix (x := 0) (by decide) (by omega) (by omega)) d_14_35_161 (fun H locs w109 hu110 hT5 V => ?_)
          replace hI := n_al' hI (n_s168 g q) hu110 hT5
          replace hF := q_us hF hu110 (by simp)
          obtain ⟨f111, e112⟩ := q_nm (vp_updL t5_0 (0 : Int32).toNatClampNeg lx58 : (Nat → Int64))
          rw [e112] at hT5
          refine lv_iload hx hb d_14_35_162 (lv_at hl 0 rfl) ?_
          exact q_retz C0 V (q_nz01 (q_Ile (x := 0) (y := lx83.toInt) (by decide) rfl (by first | with_reducible exact q_fe i91 | (have t1 : 0 ≤ lx83.toInt := i91; omega))) (q_Ile (x := lx83.toInt) (y := 1) rfl (by decide) (by have t1 : lx38.toInt ≤ 1 := i47; have t2 : lx57.toInt ≤ lx38.toInt := i61; have t3 : lx83.toInt ≤ lx57.toInt := i92; omega))) (⟨hI, hF, f111, hT5, (show 0 ≤ lx83.toInt from (by first | with_reducible exact q_fe i91 | (have t1 : 0 ≤ lx83.toInt := i91; omega))), (show lx83.toInt ≤ 1 from (by have t1 : lx38.toInt ≤ 1 := i47; have t2 : lx57.toInt ≤ lx38.toInt := i61; have t3 : lx83.toInt ≤ lx57.toInt := i92; omega)), (show x2.toInt ≤ lx83.toInt + 9 from (by have t1 : x2.toInt ≤ 9 := ob35; have t2 : 0 ≤ lx83.toInt := i91; omega)), (show lx83.toInt ≤ x2.toInt + 1 from (by have t1 : 0 ≤ x2.toInt := ob34; have t2 : lx38.toInt ≤ 1 := i47; have t3 : lx57.toInt ≤ lx38.toInt := i61; have t4 : lx83.toInt ≤ lx57.toInt := i92; omega)), (show (lx83, f111) = (F_NM_isLong x2 t0_0 t0_1 t0_2 t1_0 t1_1 t1_2 t1_3 t1_4 t1_5 t1_6 t1_7 t1_8 t1_9 t1_10 t2_0 t3_0 t4_0 t5_0) from Eq.trans (by have c100x := c100; rw [← e99] at c100x; rw [← e112, F_NM_isLong_J139.eq_1, if_neg c100x]) hR93)⟩) d_14_35_164
      ·
        intro J90
        refine q_join (X := Unit) (fun z H locs ls _ => q_Wd D g (va_A ws sz) s ws H locs ∧ lv_has ls 8 [(3, .long lx58), (0, .ref (q 116)), (1, .int x2), (2, .ref (q 168))] ∧ F_NM_isLong_J138 (F_NM_isLong_L26 x2 t0_0 t0_1 t0_2 t1_0 t1_1 t1_2 t1_3 t1_4 t1_5 t1_6 t1_7 t1_8 t1_9 t1_10 t2_0 t3_0 t4_0 t5_0 lx38 fm68) x2 t0_0 t0_1 t0_2 t1_0 t1_1 t1_2 t1_3 t1_4 t1_5 t1_6 t1_7 t1_8 t1_9 t1_10 t2_0 t3_0 t4_0 t5_0 lx38 lx56 lx57 lx58 = (F_NM_isLong x2 t0_0 t0_1 t0_2 t1_0 t1_1 t1_2 t1_3 t1_4 t1_5 t1_6 t1_7 t1_8 t1_9 t1_10 t2_0 t3_0 t4_0 t5_0) ∧ True ∧ S_NM_isLong_J138 (S_NM_isLong_L26 x2 t0_0 t0_1 t0_2 t1_0 t1_1 t1_2 t1_3 t1_4 t1_5 t1_6 t1_7 t1_8 t1_9 t1_10 t2_0 t3_0 t4_0 t5_0 lx38 fm68) x2 t0_0 t0_1 t0_2 t1_0 t1_1 t1_2 t1_3 t1_4 t1_5 t1_6 t1_7 t1_8 t1_9 t1_10 t2_0 t3_0 t4_0 t5_0 lx38 lx56 lx57 lx58) (fun z => []) 138 0 0 ?_ ?_
        ·
          rintro _ H locs ls _ ⟨V, hl, hR120, hS121⟩
          replace hl : lv_has ls 8 [(3, .long lx58), (0, .ref (q 116)), (1, .int x2), (2, .ref (q 168))] := hl
          refine lv_iconst (v := 0) hx hb d_14_35_138 (by decide) ?_
          exact J90 ((0 : Int32)) _ _ _ ws ⟨(show q_F (0 ≤ 0) from (show 0 ≤ 0 from by omega)), (show q_F (0 ≤ lx57.toInt) from (show 0 ≤ lx57.toInt from by have t1 : 0 ≤ lx57.toInt := i60; omega)), V, q_lw hl (q_lw1 0 rfl (q_lw1 1 rfl (q_lw1 2 rfl (q_lw1 3 rfl q_lw0)))), (show F_NM_isLong_J139 (F_NM_isLong_L26 x2 t0_0 t0_1 t0_2 t1_0 t1_1 t1_2 t1_3 t1_4 t1_5 t1_6 t1_7 t1_8 t1_9 t1_10 t2_0 t3_0 t4_0 t5_0 lx38 fm68) x2 t0_0 t0_1 t0_2 t1_0 t1_1 t1_2 t1_3 t1_4 t1_5 t1_6 t1_7 t1_8 t1_9 t1_10 t2_0 t3_0 t4_0 t5_0 lx38 lx56 lx57 lx58 0 = (F_NM_isLong x2 t0_0 t0_1 t0_2 t1_0 t1_1 t1_2 t1_3 t1_4 t1_5 t1_6 t1_7 t1_8 t1_9 t1_10 t2_0 t3_0 t4_0 t5_0) from Eq.trans (by rw [F_NM_isLong_J138.eq_1]) hR120), (show True ∧ S_NM_isLong_J139 (S_NM_isLong_L26 x2 t0_0 t0_1 t0_2 t1_0 t1_1 t1_2 t1_3 t1_4 t1_5 t1_6 t1_7 t1_8 t1_9 t1_10 t2_0 t3_0 t4_0 t5_0 lx38 fm68) x2 t0_0 t0_1 t0_2 t1_0 t1_1 t1_2 t1_3 t1_4 t1_5 t1_6 t1_7 t1_8 t1_9 t1_10 t2_0 t3_0 t4_0 t5_0 lx38 lx56 lx57 lx58 0 from (by have h := hS121; rw [S_NM_isLong_J138.eq_1] at h; with_reducible exact h))⟩
        ·
          intro J119
          refine lv_if_eq (tgt := 138) hx hb d_14_35_111 (by decide) (fun c125 => ?_) (fun c125 => ?_)
          ·
            exact J119 (()) _ _ _ ws ⟨V, q_lw hl (q_lw1 1 rfl (q_lw1 2 rfl (q_lw1 3 rfl (q_lw1 4 rfl q_lw0)))), (show F_NM_isLong_J138 (F_NM_isLong_L26 x2 t0_0 t0_1 t0_2 t1_0 t1_1 t1_2 t1_3 t1_4 t1_5 t1_6 t1_7 t1_8 t1_9 t1_10 t2_0 t3_0 t4_0 t5_0 lx38 fm68) x2 t0_0 t0_1 t0_2 t1_0 t1_1 t1_2 t1_3 t1_4 t1_5 t1_6 t1_7 t1_8 t1_9 t1_10 t2_0 t3_0 t4_0 t5_0 lx38 lx56 lx57 lx58 = (F_NM_isLong x2 t0_0 t0_1 t0_2 t1_0 t1_1 t1_2 t1_3 t1_4 t1_5 t1_6 t1_7 t1_8 t1_9 t1_10 t2_0 t3_0 t4_0 t5_0) from Eq.trans (by rw [F_NM_isLong_J109.eq_1, if_pos c125]) hR78), (show True ∧ S_NM_isLong_J138 (S_NM_isLong_L26 x2 t0_0 t0_1 t0_2 t1_0 t1_1 t1_2 t1_3 t1_4 t1_5 t1_6 t1_7 t1_8 t1_9 t1_10 t2_0 t3_0 t4_0 t5_0 lx38 fm68) x2 t0_0 t0_1 t0_2 t1_0 t1_1 t1_2 t1_3 t1_4 t1_5 t1_6 t1_7 t1_8 t1_9 t1_10 t2_0 t3_0 t4_0 t5_0 lx38 lx56 lx57 lx58 from (by have h := hS79; rw [S_NM_isLong_J109.eq_1] at h; rw [if_pos c125] at h; with_reducible exact h))⟩
          ·
            have b127 : q_F (lx57.toInt ≠ 0) := (q_neI c125)
            refine lv_aload_n hx hb d_14_35_114 rfl (lv_at hl 2 rfl) ?_
            refine q_get (ci := 12) (j := 6) (v := .ref (q 134)) C0 V i_NM rfl rfl hT0 (by decide) w_2304 rfl d_14_35_115 ?_
            refine q_getN (ci := 14) (j := 5) (v := .ref (q 138)) C0 V i_DR rfl rfl hT1 (by decide) wo_2007 rfl d_14_35_118 ?_
            refine lv_iload_n hx hb d_14_35_121 rfl (lv_at hl 3 rfl) ?_
            refine q_zald C0 V hT4 (q_ix (x := x2.toInt) rfl (by first | with_reducible exact q_fe ob34 | (have t1 : 0 ≤ x2.toInt := ob34; omega)) (by have t1 : 0 ≤ x2.toInt := ob34; have t2 : x2.toInt ≤ 9 := ob35; omega)) d_14_35_122 ?_
            obtain ⟨a128, e129⟩ := q_nm (t4_0 x2.toNatClampNeg : Int32)
            refine q_ti (v := a128) e129 ?_
            refine q_join (X := Unit) (fun z H locs ls _ => q_Wd D g (va_A ws sz) s ws H locs ∧ lv_has ls 8 [(3, .long lx58), (0, .ref (q 116)), (1, .int x2), (2, .ref (q 168))] ∧ F_NM_isLong_J134 (F_NM_isLong_L26 x2 t0_0 t0_1 t0_2 t1_0 t1_1 t1_2 t1_3 t1_4 t1_5 t1_6 t1_7 t1_8 t1_9 t1_10 t2_0 t3_0 t4_0 t5_0 lx38 fm68) x2 t0_0 t0_1 t0_2 t1_0 t1_1 t1_2 t1_3 t1_4 t1_5 t1_6 t1_7 t1_8 t1_9 t1_10 t2_0 t3_0 t4_0 t5_0 lx38 lx56 lx57 lx58 = (F_NM_isLong x2 t0_0 t0_1 t0_2 t1_0 t1_1 t1_2 t1_3 t1_4 t1_5 t1_6 t1_7 t1_8 t1_9 t1_10 t2_0 t3_0 t4_0 t5_0) ∧ True ∧ S_NM_isLong_J134 (S_NM_isLong_L26 x2 t0_0 t0_1 t0_2 t1_0 t1_1 t1_2 t1_3 t1_4 t1_5 t1_6 t1_7 t1_8 t1_9 t1_10 t2_0 t3_0 t4_0 t5_0 lx38 fm68) x2 t0_0 t0_1 t0_2 t1_0 t1_1 t1_2 t1_3 t1_4 t1_5 t1_6 t1_7 t1_8 t1_9 t1_10 t2_0 t3_0 t4_0 t5_0 lx38 lx56 lx57 lx58) (fun z => []) 134 0 0 ?_ ?_
            ·
              rintro _ H locs ls _ ⟨V, hl, hR137, hS138⟩
              replace hl : lv_has ls 8 [(3, .long lx58), (0, .ref (q 116)), (1, .int x2), (2, .ref (q 168))] := hl
              refine lv_iconst (v := 1) hx hb d_14_35_134 (by decide) ?_
              refine lv_goto (tgt := 139) hx hb d_14_35_135 (by decide) ?_
              exact J90 ((1 : Int32)) _ _ _ ws ⟨(show q_F (0 ≤ 1) from (show 0 ≤ 1 from by omega)), (show q_F (1 ≤ lx57.toInt) from (show 1 ≤ lx57.toInt from by have t1 : 0 ≤ lx57.toInt := i60; have t2 : lx57.toInt ≠ 0 := b127; omega)), V, q_lw hl (q_lw1 0 rfl (q_lw1 1 rfl (q_lw1 2 rfl (q_lw1 3 rfl q_lw0)))), (show F_NM_isLong_J139 (F_NM_isLong_L26 x2 t0_0 t0_1 t0_2 t1_0 t1_1 t1_2 t1_3 t1_4 t1_5 t1_6 t1_7 t1_8 t1_9 t1_10 t2_0 t3_0 t4_0 t5_0 lx38 fm68) x2 t0_0 t0_1 t0_2 t1_0 t1_1 t1_2 t1_3 t1_4 t1_5 t1_6 t1_7 t1_8 t1_9 t1_10 t2_0 t3_0 t4_0 t5_0 lx38 lx56 lx57 lx58 1 = (F_NM_isLong x2 t0_0 t0_1 t0_2 t1_0 t1_1 t1_2 t1_3 t1_4 t1_5 t1_6 t1_7 t1_8 t1_9 t1_10 t2_0 t3_0 t4_0 t5_0) from Eq.trans (by rw [F_NM_isLong_J134.eq_1]) hR137), (show True ∧ S_NM_isLong_J139 (S_NM_isLong_L26 x2 t0_0 t0_1 t0_2 t1_0 t1_1 t1_2 t1_3 t1_4 t1_5 t1_6 t1_7 t1_8 t1_9 t1_10 t2_0 t3_0 t4_0 t5_0 lx38 fm68) x2 t0_0 t0_1 t0_2 t1_0 t1_1 t1_2 t1_3 t1_4 t1_5 t1_6 t1_7 t1_8 t1_9 t1_10 t2_0 t3_0 t4_0 t5_0 lx38 lx56 lx57 lx58 1 from (by have h := hS138; rw [S_NM_isLong_J134.eq_1] at h; with_reducible exact h))⟩
            ·
              intro J136
              refine lv_if_ne (tgt := 134) hx hb d_14_35_123 (by decide) (fun c142 => ?_) (fun c142 => ?_)
              ·
                exact J136 (()) _ _ _ ws ⟨V, q_lw hl (q_lw1 1 rfl (q_lw1 2 rfl (q_lw1 3 rfl (q_lw1 4 rfl q_lw0)))), (show F_NM_isLong_J134 (F_NM_isLong_L26 x2 t0_0 t0_1 t0_2 t1_0 t1_1 t1_2 t1_3 t1_4 t1_5 t1_6 t1_7 t1_8 t1_9 t1_10 t2_0 t3_0 t4_0 t5_0 lx38 fm68) x2 t0_0 t0_1 t0_2 t1_0 t1_1 t1_2 t1_3 t1_4 t1_5 t1_6 t1_7 t1_8 t1_9 t1_10 t2_0 t3_0 t4_0 t5_0 lx38 lx56 lx57 lx58 = (F_NM_isLong x2 t0_0 t0_1 t0_2 t1_0 t1_1 t1_2 t1_3 t1_4 t1_5 t1_6 t1_7 t1_8 t1_9 t1_10 t2_0 t3_0 t4_0 t5_0) from Eq.trans (by have c142x := c142; rw [← e129] at c142x; rw [F_NM_isLong_J109.eq_1, if_neg c125, if_neg c142x]) hR78), (show True ∧ S_NM_isLong_J134 (S_NM_isLong_L26 x2 t0_0 t0_1 t0_2 t1_0 t1_1 t1_2 t1_3 t1_4 t1_5 t1_6 t1_7 t1_8 t1_9 t1_10 t2_0 t3_0 t4_0 t5_0 lx38 fm68) x2 t0_0 t0_1 t0_2 t1_0 t1_1 t1_2 t1_3 t1_4 t1_5 t1_6 t1_7 t1_8 t1_9 t1_10 t2_0 t3_0 t4_0 t5_0 lx38 lx56 lx57 lx58 from (by have h := hS79; rw [S_NM_isLong_J109.eq_1] at h; rw [if_neg c125] at h; have c142x := c142; rw [← e129] at c142x; rw [if_neg c142x] at h; with_reducible exact h))⟩
              ·
                refine lv_lload_n hx hb d_14_35_126 rfl (lv_at hl 1 rfl) ?_
                refine q_ldc2 C0 rfl w_2676 d_14_35_127 ?_
                refine W.lcmp hx hb d_14_35_130 ?_
                obtain ⟨a145, e146⟩ := q_nm (lg_cmp lx58 (-9223372036854775808) : Int32)
                refine q_ti (v := a145) e146 ?_
                refine lv_if_eq (tgt := 138) hx hb d_14_35_131 (by decide) (fun c148 => ?_) (fun c148 => ?_)
                ·
                  exact J119 (()) _ _ _ ws ⟨V, q_lw hl (q_lw1 1 rfl (q_lw1 2 rfl (q_lw1 3 rfl (q_lw1 4 rfl q_lw0)))), (show F_NM_isLong_J138 (F_NM_isLong_L26 x2 t0_0 t0_1 t0_2 t1_0 t1_1 t1_2 t1_3 t1_4 t1_5 t1_6 t1_7 t1_8 t1_9 t1_10 t2_0 t3_0 t4_0 t5_0 lx38 fm68) x2 t0_0 t0_1 t0_2 t1_0 t1_1 t1_2 t1_3 t1_4 t1_5 t1_6 t1_7 t1_8 t1_9 t1_10 t2_0 t3_0 t4_0 t5_0 lx38 lx56 lx57 lx58 = (F_NM_isLong x2 t0_0 t0_1 t0_2 t1_0 t1_1 t1_2 t1_3 t1_4 t1_5 t1_6 t1_7 t1_8 t1_9 t1_10 t2_0 t3_0 t4_0 t5_0) from Eq.trans (by have c142x := c142; rw [← e129] at c142x; have c148x := c148; rw [← e146] at c148x; rw [F_NM_isLong_J109.eq_1, if_neg c125, if_pos c142x, if_pos c148x]) hR78), (show True ∧ S_NM_isLong_J138 (S_NM_isLong_L26 x2 t0_0 t0_1 t0_2 t1_0 t1_1 t1_2 t1_3 t1_4 t1_5 t1_6 t1_7 t1_8 t1_9 t1_10 t2_0 t3_0 t4_0 t5_0 lx38 fm68) x2 t0_0 t0_1 t0_2 t1_0 t1_1 t1_2 t1_3 t1_4 t1_5 t1_6 t1_7 t1_8 t1_9 t1_10 t2_0 t3_0 t4_0 t5_0 lx38 lx56 lx57 lx58 from (by have h := hS79; rw [S_NM_isLong_J109.eq_1] at h; rw [if_neg c125] at h; have c142x := c142; rw [← e129] at c142x; rw [if_pos c142x] at h; have c148x := c148; rw [← e146] at c148x; rw [if_pos c148x] at h; with_reducible exact h))⟩
                ·
                  exact J136 (()) _ _ _ ws ⟨V, q_lw hl (q_lw1 1 rfl (q_lw1 2 rfl (q_lw1 3 rfl (q_lw1 4 rfl q_lw0)))), (show F_NM_isLong_J134 (F_NM_isLong_L26 x2 t0_0 t0_1 t0_2 t1_0 t1_1 t1_2 t1_3 t1_4 t1_5 t1_6 t1_7 t1_8 t1_9 t1_10 t2_0 t3_0 t4_0 t5_0 lx38 fm68) x2 t0_0 t0_1 t0_2 t1_0 t1_1 t1_2 t1_3 t1_4 t1_5 t1_6 t1_7 t1_8 t1_9 t1_10 t2_0 t3_0 t4_0 t5_0 lx38 lx56 lx57 lx58 = (F_NM_isLong x2 t0_0 t0_1 t0_2 t1_0 t1_1 t1_2 t1_3 t1_4 t1_5 t1_6 t1_7 t1_8 t1_9 t1_10 t2_0 t3_0 t4_0 t5_0) from Eq.trans (by have c142x := c142; rw [← e129] at c142x; have c148x := c148; rw [← e146] at c148x; rw [F_NM_isLong_J109.eq_1, if_neg c125, if_pos c142x, if_neg c148x]) hR78), (show True ∧ S_NM_isLong_J134 (S_NM_isLong_L26 x2 t0_0 t0_1 t0_2 t1_0 t1_1 t1_2 t1_3 t1_4 t1_5 t1_6 t1_7 t1_8 t1_9 t1_10 t2_0 t3_0 t4_0 t5_0 lx38 fm68) x2 t0_0 t0_1 t0_2 t1_0 t1_1 t1_2 t1_3 t1_4 t1_5 t1_6 t1_7 t1_8 t1_9 t1_10 t2_0 t3_0 t4_0 t5_0 lx38 lx56 lx57 lx58 from (by have h := hS79; rw [S_NM_isLong_J109.eq_1] at h; rw [if_neg c125] at h; have c142x := c142; rw [← e129] at c142x; rw [if_pos c142x] at h; have c148x := c148; rw [← e146] at c148x; rw [if_neg c148x] at h; with_reducible exact h))⟩
    ·
      intro J77
      refine lv_icmp_ge (tgt := 109) hx hb d_14_35_37 (by decide) (fun c151 => ?_) (fun c151 => ?_)
      ·
        exact J77 (()) _ _ _ ws ⟨V, q_lw hl (q_lw1 1 rfl (q_lw1 2 rfl (q_lw1 3 rfl (q_lw1 4 rfl (q_lw1 5 rfl q_lw0))))), (show F_NM_isLong_J109 (F_NM_isLong_L26 x2 t0_0 t0_1 t0_2 t1_0 t1_1 t1_2 t1_3 t1_4 t1_5 t1_6 t1_7 t1_8 t1_9 t1_10 t2_0 t3_0 t4_0 t5_0 lx38 fm68) x2 t0_0 t0_1 t0_2 t1_0 t1_1 t1_2 t1_3 t1_4 t1_5 t1_6 t1_7 t1_8 t1_9 t1_10 t2_0 t3_0 t4_0 t5_0 lx38 lx56 lx57 lx58 = (F_NM_isLong x2 t0_0 t0_1 t0_2 t1_0 t1_1 t1_2 t1_3 t1_4 t1_5 t1_6 t1_7 t1_8 t1_9 t1_10 t2_0 t3_0 t4_0 t5_0) from Eq.trans (by have c151x := c151; rw [← e70] at c151x; rw [F_NM_isLong_L26.eq_2, if_pos c151x]) hR64), (show True ∧ S_NM_isLong_J109 (S_NM_isLong_L26 x2 t0_0 t0_1 t0_2 t1_0 t1_1 t1_2 t1_3 t1_4 t1_5 t1_6 t1_7 t1_8 t1_9 t1_10 t2_0 t3_0 t4_0 t5_0 lx38 fm68) x2 t0_0 t0_1 t0_2 t1_0 t1_1 t1_2 t1_3 t1_4 t1_5 t1_6 t1_7 t1_8 t1_9 t1_10 t2_0 t3_0 t4_0 t5_0 lx38 lx56 lx57 lx58 from (by have h := hS65; rw [S_NM_isLong_L26.eq_2] at h; have c151x := c151; rw [← e70] at c151x; rw [if_pos c151x] at h; with_reducible exact h))⟩
      ·
        refine lv_iload hx hb d_14_35_40 (lv_at hl 1 rfl) ?_
        refine lv_if_eq (tgt := 109) hx hb d_14_35_42 (by decide) (fun c154 => ?_) (fun c154 => ?_)
        ·
          exact J77 (()) _ _ _ ws ⟨V, q_lw hl (q_lw1 1 rfl (q_lw1 2 rfl (q_lw1 3 rfl (q_lw1 4 rfl (q_lw1 5 rfl q_lw0))))), (show F_NM_isLong_J109 (F_NM_isLong_L26 x2 t0_0 t0_1 t0_2 t1_0 t1_1 t1_2 t1_3 t1_4 t1_5 t1_6 t1_7 t1_8 t1_9 t1_10 t2_0 t3_0 t4_0 t5_0 lx38 fm68) x2 t0_0 t0_1 t0_2 t1_0 t1_1 t1_2 t1_3 t1_4 t1_5 t1_6 t1_7 t1_8 t1_9 t1_10 t2_0 t3_0 t4_0 t5_0 lx38 lx56 lx57 lx58 = (F_NM_isLong x2 t0_0 t0_1 t0_2 t1_0 t1_1 t1_2 t1_3 t1_4 t1_5 t1_6 t1_7 t1_8 t1_9 t1_10 t2_0 t3_0 t4_0 t5_0) from Eq.trans (by have c151x := c151; rw [← e70] at c151x; rw [F_NM_isLong_L26.eq_2, if_neg c151x, if_pos c154]) hR64), (show True ∧ S_NM_isLong_J109 (S_NM_isLong_L26 x2 t0_0 t0_1 t0_2 t1_0 t1_1 t1_2 t1_3 t1_4 t1_5 t1_6 t1_7 t1_8 t1_9 t1_10 t2_0 t3_0 t4_0 t5_0 lx38 fm68) x2 t0_0 t0_1 t0_2 t1_0 t1_1 t1_2 t1_3 t1_4 t1_5 t1_6 t1_7 t1_8 t1_9 t1_10 t2_0 t3_0 t4_0 t5_0 lx38 lx56 lx57 lx58 from (by have h := hS65; rw [S_NM_isLong_L26.eq_2] at h; have c151x := c151; rw [← e70] at c151x; rw [if_neg c151x] at h; rw [if_pos c154] at h; with_reducible exact h))⟩
        ·
          have b156 : q_F (lx57.toInt ≠ 0) := (q_neI c154)
          refine lv_aload_n hx hb d_14_35_45 rfl (lv_at hl 3 rfl) ?_
          refine q_get (ci := 12) (j := 6) (v := .ref (q 134)) C0 V i_NM rfl rfl hT0 (by decide) w_2304 rfl d_14_35_46 ?_
          refine q_getN (ci := 14) (j := 3) (v := .ref (q 136)) C0 V i_DR rfl rfl hT1 (by decide) wo_2003 rfl d_14_35_49 ?_
          refine lv_sipush (v := 1000) hx hb d_14_35_52 (by decide) ?_
          refine lv_iload_n hx hb d_14_35_55 rfl (lv_at hl 4 rfl) ?_
          refine lv_imul hx hb d_14_35_56 ?_
          obtain ⟨a157, e158⟩ := q_nm (1000 * x2 : Int32)
          refine q_ti (v := a157) e158 ?_
          have b159 : q_F (a157.toInt = 1000 * x2.toInt) := (by rw [← e158]; show (1000 * x2 : Int32).toInt = 1000 * x2.toInt; exact q_mulI (x := 1000) (y := x2.toInt) (by decide) rfl (by have t1 : 0 ≤ x2.toInt := ob34; have t2 : x2.toInt ≤ 9 := ob35; omega) (by have t1 : 0 ≤ x2.toInt := ob34; have t2 : x2.toInt ≤ 9 := ob35; omega))
          refine lv_iload hx hb d_14_35_57 (lv_at hl 0 rfl) ?_
          refine lv_iadd hx hb d_14_35_59 ?_
          obtain ⟨a160, e161⟩ := q_nm (a157 + lx56 : Int32)
          refine q_ti (v := a160) e161 ?_
          have b162 : q_F (a160.toInt = a157.toInt + lx56.toInt) := (by rw [← e161]; show (a157 + lx56 : Int32).toInt = a157.toInt + lx56.toInt; exact q_addI (x := a157.toInt) (y := lx56.toInt) rfl rfl (by have t1 : 0 ≤ x2.toInt := ob34; have t2 : lx57.toInt ≤ lx38.toInt := i61; have t3 : lx38.toInt ≤ lx56.toInt + lx57.toInt := i62; have t4 : a157.toInt = 1000 * x2.toInt := b159; have t5 : x2.toInt ≤ 9 := ob35; have t6 : lx56.toInt ≤ 12200 := i59; omega) (by have t1 : 0 ≤ x2.toInt := ob34; have t2 : lx57.toInt ≤ lx38.toInt := i61; have t3 : lx38.toInt ≤ lx56.toInt + lx57.toInt := i62; have t4 : a157.toInt = 1000 * x2.toInt := b159; have t5 : x2.toInt ≤ 9 := ob35; have t6 : lx56.toInt ≤ 12200 := i59; omega))
          have ob163 : q_F (a160.toInt ≤ 9999) := (by rw [← e161, ← e158]; have h := hS65; rw [S_NM_isLong_L26.eq_2] at h; have c151x := c151; rw [← e70] at c151x; rw [if_neg c151x] at h; rw [if_neg c154] at h; exact h.2.1)
          refine q_iald C0 V hT2 (q_ix (x := a160.toInt) rfl (by have t1 : 0 ≤ x2.toInt := ob34; have t2 : lx57.toInt ≤ lx38.toInt := i61; have t3 : lx38.toInt ≤ lx56.toInt + lx57.toInt := i62; have t4 : a157.toInt = 1000 * x2.toInt := b159; have t5 : a160.toInt = a157.toInt + lx56.toInt := b162; omega) (by have t1 : 0 ≤ x2.toInt := ob34; have t2 : lx57.toInt ≤ lx38.toInt := i61; have t3 : lx38.toInt ≤ lx56.toInt + lx57.toInt := i62; have t4 : a157.toInt = 1000 * x2.toInt := b159; have t5 : a160.toInt = a157.toInt + lx56.toInt := b162; have t6 : a160.toInt ≤ 9999 := ob163; have e9 : (((10000 : Int32).toNatClampNeg : Nat) : Int) = 10000 := (by decide); omega)) d_14_35_60 ?_
          obtain ⟨a164, e165⟩ := q_nm (t2_0 a160.toNatClampNeg : Int32)
          refine q_ti (v := a164) e165 ?_
          refine lv_istore (lv' := [(7, .int a164), (6, .int lx56), (5, .int lx57), (3, .long lx58), (0, .ref (q 116)), (1, .int x2), (2, .ref (q 168))]) hx hb d_14_35_61 hl (by decide) rfl (fun ls hl => ?_)
          refine lv_lload_n hx hb d_14_35_63 rfl (lv_at hl 3 rfl) ?_
          refine q_ldc2 C0 rfl w_3086 d_14_35_64 ?_
          refine W.lcmp hx hb d_14_35_67 ?_
          obtain ⟨a166, e167⟩ := q_nm (lg_cmp lx58 (-922337203685477580) : Int32)
          refine q_ti (v := a166) e167 ?_
          refine lv_if_gt (tgt := 86) hx hb d_14_35_68 (by decide) (fun c169 => ?_) (fun c169 => ?_)
          ·
            refine lv_iconst (v := 1) hx hb d_14_35_86 (by decide) ?_
            refine lv_goto (tgt := 91) hx hb d_14_35_87 (by decide) ?_
            refine lv_istore (lv' := [(5, .int 1), (7, .int a164), (6, .int lx56), (3, .long lx58), (0, .ref (q 116)), (1, .int x2), (2, .ref (q 168))]) hx hb d_14_35_91 hl (by decide) rfl (fun ls hl => ?_)
            refine q_ldc2 C0 rfl w_3087 d_14_35_93 ?_
            refine lv_lload_n hx hb d_14_35_96 rfl (lv_at hl 3 rfl) ?_
            refine lv_lmul hx hb d_14_35_97 ?_
            obtain ⟨j171, e172⟩ := q_nm (10 * lx58 : Int64)
            refine q_tl (v := j171) e172 ?_
            refine lv_iload hx hb d_14_35_98 (lv_at hl 1 rfl) ?_
            refine lv_i2l hx hb d_14_35_100 rfl ?_
            obtain ⟨j173, e174⟩ := q_nm (a164.toInt64 : Int64)
            refine q_tl (v := j173) e174 ?_
            refine lv_lsub hx hb d_14_35_101 ?_
            obtain ⟨j176, e177⟩ := q_nm (j171 - j173 : Int64)
            refine q_tl (v := j176) e177 ?_
            refine lv_lstore_n (lv' := [(3, .long j176), (5, .int 1), (7, .int a164), (6, .int lx56), (0, .ref (q 116)), (1, .int x2), (2, .ref (q 168))]) hx hb d_14_35_102 rfl hl (by decide) rfl (fun ls hl => ?_)
            obtain ⟨a178, e179⟩ := q_nm (lx56 + 1 : Int32)
            have b180 : q_F (a178.toInt = lx56.toInt + 1) := (by rw [← e179]; exact q_addI (y := 1) rfl (by decide) (by have _ := q_lo32 (x := lx56); have _ := q_hi32 (x := lx56); have t1 : lx56.toInt ≤ 12200 := i59; omega) (by have _ := q_lo32 (x := lx56); have _ := q_hi32 (x := lx56); have t1 : lx56.toInt ≤ 12200 := i59; omega))
            refine lv_iinc (v := a178) (lv' := [(6, .int a178), (3, .long j176), (5, .int 1), (7, .int a164), (0, .ref (q 116)), (1, .int x2), (2, .ref (q 168))]) hx hb d_14_35_103 hl (k := 3) rfl (e179) (by decide) rfl (fun ls hl => ?_)
            refine lv_goto (tgt := 26) hx hb d_14_35_106 (by decide) ?_
            have ob181 : q_F (a178.toInt ≤ 12200) := (by rw [← e179]; have h := hS65; rw [S_NM_isLong_L26.eq_2] at h; have c151x := c151; rw [← e70] at c151x; rw [if_neg c151x] at h; rw [if_neg c154] at h; replace h := q_s2 h; have c169x := c169; rw [← e167] at c169x; rw [if_pos c169x] at h; exact h.2.1)
            exact ih63 ((a178 : Int32), (1 : Int32), (j176 : Int64)) _ _ _ ws (show (12200 - a178.toInt).toNat < (12200 - lx56.toInt).toNat from by have t1 : a178.toInt = lx56.toInt + 1 := b180; have t2 : lx56.toInt ≤ 12200 := i59; have t3 : a178.toInt ≤ 12200 := ob181; omega) ⟨(show q_F (a178.toInt ≤ 12200) from (show a178.toInt ≤ 12200 from by have t1 : a178.toInt ≤ 12200 := ob181; omega)), (show q_F (0 ≤ 1) from (show 0 ≤ 1 from by omega)), (show q_F (1 ≤ lx38.toInt) from (show 1 ≤ lx38.toInt from by have t1 : 0 ≤ lx57.toInt := i60; have t2 : lx57.toInt ≤ lx38.toInt := i61; have t3 : lx57.toInt ≠ 0 := b156; omega)), (show q_F (lx38.toInt ≤ a178.toInt + 1) from (show lx38.toInt ≤ a178.toInt + 1 from by have t1 : lx38.toInt ≤ 1 := i47; have t2 : lx57.toInt ≤ lx38.toInt := i61; have t3 : lx38.toInt ≤ lx56.toInt + lx57.toInt := i62; have t4 : a178.toInt = lx56.toInt + 1 := b180; omega)), V, q_lw hl (q_lw1 0 rfl (q_lw1 2 rfl (q_lw1 1 rfl (q_lw1 4 rfl (q_lw1 5 rfl (q_lw1 6 rfl q_lw0)))))), ⟨fm68, Nat.lt_of_lt_of_le (show (12200 - a178.toInt).toNat < (12200 - lx56.toInt).toNat from by have t1 : a178.toInt = lx56.toInt + 1 := b180; have t2 : lx56.toInt ≤ 12200 := i59; have t3 : a178.toInt ≤ 12200 := ob181; omega) (Nat.le_of_lt_succ hf67), (show F_NM_isLong_L26 x2 t0_0 t0_1 t0_2 t1_0 t1_1 t1_2 t1_3 t1_4 t1_5 t1_6 t1_7 t1_8 t1_9 t1_10 t2_0 t3_0 t4_0 t5_0 lx38 fm68 a178 1 j176 = (F_NM_isLong x2 t0_0 t0_1 t0_2 t1_0 t1_1 t1_2 t1_3 t1_4 t1_5 t1_6 t1_7 t1_8 t1_9 t1_10 t2_0 t3_0 t4_0 t5_0) from Eq.trans (by have c151x := c151; rw [← e70] at c151x; have c169x := c169; rw [← e167] at c169x; rw [← e179, ← e177, ← e174, ← e172, ← e165, ← e161, ← e158, F_NM_isLong_L26.eq_2, if_neg c151x, if_neg c154, if_pos c169x]) hR64), (show True ∧ S_NM_isLong_L26 x2 t0_0 t0_1 t0_2 t1_0 t1_1 t1_2 t1_3 t1_4 t1_5 t1_6 t1_7 t1_8 t1_9 t1_10 t2_0 t3_0 t4_0 t5_0 lx38 fm68 a178 1 j176 from (by rw [← e179, ← e177, ← e174, ← e172, ← e165, ← e161, ← e158]; have h := hS65; rw [S_NM_isLong_L26.eq_2] at h; have c151x := c151; rw [← e70] at c151x; rw [if_neg c151x] at h; rw [if_neg c154] at h; replace h := q_s2 h; have c169x := c169; rw [← e167] at c169x; rw [if_pos c169x] at h; replace h := q_s2 h; with_reducible exact h))⟩⟩
          ·
            refine lv_lload_n hx hb d_14_35_71 rfl (lv_at hl 3 rfl) ?_
            refine q_ldc2 C0 rfl w_3086 d_14_35_72 ?_
            refine W.lcmp hx hb d_14_35_75 ?_
            obtain ⟨a183, e184⟩ := q_nm (lg_cmp lx58 (-922337203685477580) : Int32)
            refine q_ti (v := a183) e184 ?_
            refine lv_if_ne (tgt := 90) hx hb d_14_35_76 (by decide) (fun c186 => ?_) (fun c186 => ?_)
            ·
              refine lv_iconst (v := 0) hx hb d_14_35_90 (by decide) ?_
              refine lv_istore (lv' := [(5, .int 0), (7, .int a164), (6, .int lx56), (3, .long lx58), (0, .ref (q 116)), (1, .int x2), (2, .ref (q 168))]) hx hb d_14_35_91 hl (by decide) rfl (fun ls hl => ?_)
              refine q_ldc2 C0 rfl w_3087 d_14_35_93 ?_
              refine lv_lload_n hx hb d_14_35_96 rfl (lv_at hl 3 rfl) ?_
              refine lv_lmul hx hb d_14_35_97 ?_
              obtain ⟨j188, e189⟩ := q_nm (10 * lx58 : Int64)
              refine q_tl (v := j188) e189 ?_
              refine lv_iload hx hb d_14_35_98 (lv_at hl 1 rfl) ?_
              refine lv_i2l hx hb d_14_35_100 rfl ?_
              obtain ⟨j190, e191⟩ := q_nm (a164.toInt64 : Int64)
              refine q_tl (v := j190) e191 ?_
              refine lv_lsub hx hb d_14_35_101 ?_
              obtain ⟨j193, e194⟩ := q_nm (j188 - j190 : Int64)
              refine q_tl (v := j193) e194 ?_
              refine lv_lstore_n (lv' := [(3, .long j193), (5, .int 0), (7, .int a164), (6, .int lx56), (0, .ref (q 116)), (1, .int x2), (2, .ref (q 168))]) hx hb d_14_35_102 rfl hl (by decide) rfl (fun ls hl => ?_)
              obtain ⟨a195, e196⟩ := q_nm (lx56 + 1 : Int32)
              have b197 : q_F (a195.toInt = lx56.toInt + 1) := (by rw [← e196]; exact q_addI (y := 1) rfl (by decide) (by have _ := q_lo32 (x := lx56); have _ := q_hi32 (x := lx56); have t1 : lx56.toInt ≤ 12200 := i59; omega) (by have _ := q_lo32 (x := lx56); have _ := q_hi32 (x := lx56); have t1 : lx56.toInt ≤ 12200 := i59; omega))
              refine lv_iinc (v := a195) (lv' := [(6, .int a195), (3, .long j193), (5, .int 0), (7, .int a164), (0, .ref (q 116)), (1, .int x2), (2, .ref (q 168))]) hx hb d_14_35_103 hl (k := 3) rfl (e196) (by decide) rfl (fun ls hl => ?_)
              refine lv_goto (tgt := 26) hx hb d_14_35_106 (by decide) ?_
              have ob198 : q_F (a195.toInt ≤ 12200) := (by rw [← e196]; have h := hS65; rw [S_NM_isLong_L26.eq_2] at h; have c151x := c151; rw [← e70] at c151x; rw [if_neg c151x] at h; rw [if_neg c154] at h; replace h := q_s2 h; have c169x := c169; rw [← e167] at c169x; rw [if_neg c169x] at h; have c186x := c186; rw [← e184] at c186x; rw [if_neg c186x] at h; exact h.2.1)
              exact ih63 ((a195 : Int32), (0 : Int32), (j193 : Int64)) _ _ _ ws (show (12200 - a195.toInt).toNat < (12200 - lx56.toInt).toNat from by have t1 : a195.toInt = lx56.toInt + 1 := b197; have t2 : lx56.toInt ≤ 12200 := i59; have t3 : a195.toInt ≤ 12200 := ob198; omega) ⟨(show q_F (a195.toInt ≤ 12200) from (show a195.toInt ≤ 12200 from by have t1 : a195.toInt ≤ 12200 := ob198; omega)), (show q_F (0 ≤ 0) from (show 0 ≤ 0 from by omega)), (show q_F (0 ≤ lx38.toInt) from (show 0 ≤ lx38.toInt from by have t1 : 0 ≤ lx38.toInt := i46; omega)), (show q_F (lx38.toInt ≤ a195.toInt + 0) from (show lx38.toInt ≤ a195.toInt + 0 from by have t1 : lx38.toInt ≤ 1 := i47; have t2 : lx57.toInt ≤ lx38.toInt := i61; have t3 : lx38.toInt ≤ lx56.toInt + lx57.toInt := i62; have t4 : a195.toInt = lx56.toInt + 1 := b197; omega)), V, q_lw hl (q_lw1 0 rfl (q_lw1 2 rfl (q_lw1 1 rfl (q_lw1 4 rfl (q_lw1 5 rfl (q_lw1 6 rfl q_lw0)))))), ⟨fm68, Nat.lt_of_lt_of_le (show (12200 - a195.toInt).toNat < (12200 - lx56.toInt).toNat from by have t1 : a195.toInt = lx56.toInt + 1 := b197; have t2 : lx56.toInt ≤ 12200 := i59; have t3 : a195.toInt ≤ 12200 := ob198; omega) (Nat.le_of_lt_succ hf67), (show F_NM_isLong_L26 x2 t0_0 t0_1 t0_2 t1_0 t1_1 t1_2 t1_3 t1_4 t1_5 t1_6 t1_7 t1_8 t1_9 t1_10 t2_0 t3_0 t4_0 t5_0 lx38 fm68 a195 0 j193 = (F_NM_isLong x2 t0_0 t0_1 t0_2 t1_0 t1_1 t1_2 t1_3 t1_4 t1_5 t1_6 t1_7 t1_8 t1_9 t1_10 t2_0 t3_0 t4_0 t5_0) from Eq.trans (by have c151x := c151; rw [← e70] at c151x; have c169x := c169; rw [← e167] at c169x; have c186x := c186; rw [← e184] at c186x; rw [← e196, ← e194, ← e191, ← e189, ← e165, ← e161, ← e158, F_NM_isLong_L26.eq_2, if_neg c151x, if_neg c154, if_neg c169x, if_neg c186x]) hR64), (show True ∧ S_NM_isLong_L26 x2 t0_0 t0_1 t0_2 t1_0 t1_1 t1_2 t1_3 t1_4 t1_5 t1_6 t1_7 t1_8 t1_9 t1_10 t2_0 t3_0 t4_0 t5_0 lx38 fm68 a195 0 j193 from (by rw [← e196, ← e194, ← e191, ← e189, ← e165, ← e161, ← e158]; have h := hS65; rw [S_NM_isLong_L26.eq_2] at h; have c151x := c151; rw [← e70] at c151x; rw [if_neg c151x] at h; rw [if_neg c154] at h; replace h := q_s2 h; have c169x := c169; rw [← e167] at c169x; rw [if_neg c169x] at h; have c186x := c186; rw [← e184] at c186x; rw [if_neg c186x] at h; replace h := q_s2 h; with_reducible exact h))⟩⟩
            ·
              refine lv_iload hx hb d_14_35_79 (lv_at hl 0 rfl) ?_
              refine lv_bipush (v := 8) hx hb d_14_35_81 (by decide) ?_
              refine lv_icmp_gt (tgt := 90) hx hb d_14_35_83 (by decide) (fun c200 => ?_) (fun c200 => ?_)
              ·
                refine lv_iconst (v := 0) hx hb d_14_35_90 (by decide) ?_
                refine lv_istore (lv' := [(5, .int 0), (7, .int a164), (6, .int lx56), (3, .long lx58), (0, .ref (q 116)), (1, .int x2), (2, .ref (q 168))]) hx hb d_14_35_91 hl (by decide) rfl (fun ls hl => ?_)
                refine q_ldc2 C0 rfl w_3087 d_14_35_93 ?_
                refine lv_lload_n hx hb d_14_35_96 rfl (lv_at hl 3 rfl) ?_
                refine lv_lmul hx hb d_14_35_97 ?_
                obtain ⟨j202, e203⟩ := q_nm (10 * lx58 : Int64)
                refine q_tl (v := j202) e203 ?_
                refine lv_iload hx hb d_14_35_98 (lv_at hl 1 rfl) ?_
                refine lv_i2l hx hb d_14_35_100 rfl ?_
                obtain ⟨j205, e206⟩ := q_nm (a164.toInt64 : Int64)
                refine q_tl (v := j205) e206 ?_
                refine lv_lsub hx hb d_14_35_101 ?_
                obtain ⟨j208, e209⟩ := q_nm (j202 - j205 : Int64)
                refine q_tl (v := j208) e209 ?_
                refine lv_lstore_n (lv' := [(3, .long j208), (5, .int 0), (7, .int a164), (6, .int lx56), (0, .ref (q 116)), (1, .int x2), (2, .ref (q 168))]) hx hb d_14_35_102 rfl hl (by decide) rfl (fun ls hl => ?_)
                obtain ⟨a210, e211⟩ := q_nm (lx56 + 1 : Int32)
                have b212 : q_F (a210.toInt = lx56.toInt + 1) := (by rw [← e211]; exact q_addI (y := 1) rfl (by decide) (by have _ := q_lo32 (x := lx56); have _ := q_hi32 (x := lx56); have t1 : lx56.toInt ≤ 12200 := i59; omega) (by have _ := q_lo32 (x := lx56); have _ := q_hi32 (x := lx56); have t1 : lx56.toInt ≤ 12200 := i59; omega))
                refine lv_iinc (v := a210) (lv' := [(6, .int a210), (3, .long j208), (5, .int 0), (7, .int a164), (0, .ref (q 116)), (1, .int x2), (2, .ref (q 168))]) hx hb d_14_35_103 hl (k := 3) rfl (e211) (by decide) rfl (fun ls hl => ?_)
                refine lv_goto (tgt := 26) hx hb d_14_35_106 (by decide) ?_
                have ob213 : q_F (a210.toInt ≤ 12200) := (by rw [← e211]; have h := hS65; rw [S_NM_isLong_L26.eq_2] at h; have c151x := c151; rw [← e70] at c151x; rw [if_neg c151x] at h; rw [if_neg c154] at h; replace h := q_s2 h; have c169x := c169; rw [← e167] at c169x; rw [if_neg c169x] at h; have c186x := c186; rw [← e184] at c186x; rw [if_pos c186x] at h; have c200x := c200; rw [← e165, ← e161, ← e158] at c200x; rw [if_pos c200x] at h; exact h.2.1)
                exact ih63 ((a210 : Int32), (0 : Int32), (j208 : Int64)) _ _ _ ws (show (12200 - a210.toInt).toNat < (12200 - lx56.toInt).toNat from by have t1 : a210.toInt = lx56.toInt + 1 := b212; have t2 : lx56.toInt ≤ 12200 := i59; have t3 : a210.toInt ≤ 12200 := ob213; omega) ⟨(show q_F (a210.toInt ≤ 12200) from (show a210.toInt ≤ 12200 from by have t1 : a210.toInt ≤ 12200 := ob213; omega)), (show q_F (0 ≤ 0) from (show 0 ≤ 0 from by omega)), (show q_F (0 ≤ lx38.toInt) from (show 0 ≤ lx38.toInt from by have t1 : 0 ≤ lx38.toInt := i46; omega)), (show q_F (lx38.toInt ≤ a210.toInt + 0) from (show lx38.toInt ≤ a210.toInt + 0 from by have t1 : lx38.toInt ≤ 1 := i47; have t2 : lx57.toInt ≤ lx38.toInt := i61; have t3 : lx38.toInt ≤ lx56.toInt + lx57.toInt := i62; have t4 : a210.toInt = lx56.toInt + 1 := b212; omega)), V, q_lw hl (q_lw1 0 rfl (q_lw1 2 rfl (q_lw1 1 rfl (q_lw1 4 rfl (q_lw1 5 rfl (q_lw1 6 rfl q_lw0)))))), ⟨fm68, Nat.lt_of_lt_of_le (show (12200 - a210.toInt).toNat < (12200 - lx56.toInt).toNat from by have t1 : a210.toInt = lx56.toInt + 1 := b212; have t2 : lx56.toInt ≤ 12200 := i59; have t3 : a210.toInt ≤ 12200 := ob213; omega) (Nat.le_of_lt_succ hf67), (show F_NM_isLong_L26 x2 t0_0 t0_1 t0_2 t1_0 t1_1 t1_2 t1_3 t1_4 t1_5 t1_6 t1_7 t1_8 t1_9 t1_10 t2_0 t3_0 t4_0 t5_0 lx38 fm68 a210 0 j208 = (F_NM_isLong x2 t0_0 t0_1 t0_2 t1_0 t1_1 t1_2 t1_3 t1_4 t1_5 t1_6 t1_7 t1_8 t1_9 t1_10 t2_0 t3_0 t4_0 t5_0) from Eq.trans (by have c151x := c151; rw [← e70] at c151x; have c169x := c169; rw [← e167] at c169x; have c186x := c186; rw [← e184] at c186x; have c200x := c200; rw [← e165, ← e161, ← e158] at c200x; rw [← e211, ← e209, ← e206, ← e203, ← e165, ← e161, ← e158, F_NM_isLong_L26.eq_2, if_neg c151x, if_neg c154, if_neg c169x, if_pos c186x, if_pos c200x]) hR64), (show True ∧ S_NM_isLong_L26 x2 t0_0 t0_1 t0_2 t1_0 t1_1 t1_2 t1_3 t1_4 t1_5 t1_6 t1_7 t1_8 t1_9 t1_10 t2_0 t3_0 t4_0 t5_0 lx38 fm68 a210 0 j208 from (by rw [← e211, ← e209, ← e206, ← e203, ← e165, ← e161, ← e158]; have h := hS65; rw [S_NM_isLong_L26.eq_2] at h; have c151x := c151; rw [← e70] at c151x; rw [if_neg c151x] at h; rw [if_neg c154] at h; replace h := q_s2 h; have c169x := c169; rw [← e167] at c169x; rw [if_neg c169x] at h; have c186x := c186; rw [← e184] at c186x; rw [if_pos c186x] at h; have c200x := c200; rw [← e165, ← e161, ← e158] at c200x; rw [if_pos c200x] at h; replace h := q_s2 h; with_reducible exact h))⟩⟩
              ·
                refine lv_iconst (v := 1) hx hb d_14_35_86 (by decide) ?_
                refine lv_goto (tgt := 91) hx hb d_14_35_87 (by decide) ?_
                refine lv_istore (lv' := [(5, .int 1), (7, .int a164), (6, .int lx56), (3, .long lx58), (0, .ref (q 116)), (1, .int x2), (2, .ref (q 168))]) hx hb d_14_35_91 hl (by decide) rfl (fun ls hl => ?_)
                refine q_ldc2 C0 rfl w_3087 d_14_35_93 ?_
                refine lv_lload_n hx hb d_14_35_96 rfl (lv_at hl 3 rfl) ?_
                refine lv_lmul hx hb d_14_35_97 ?_
                obtain ⟨j215, e216⟩ := q_nm (10 * lx58 : Int64)
                refine q_tl (v := j215) e216 ?_
                refine lv_iload hx hb d_14_35_98 (lv_at hl 1 rfl) ?_
                refine lv_i2l hx hb d_14_35_100 rfl ?_
                obtain ⟨j218, e219⟩ := q_nm (a164.toInt64 : Int64)
                refine q_tl (v := j218) e219 ?_
                refine lv_lsub hx hb d_14_35_101 ?_
                obtain ⟨j221, e222⟩ := q_nm (j215 - j218 : Int64)
                refine q_tl (v := j221) e222 ?_
                refine lv_lstore_n (lv' := [(3, .long j221), (5, .int 1), (7, .int a164), (6, .int lx56), (0, .ref (q 116)), (1, .int x2), (2, .ref (q 168))]) hx hb d_14_35_102 rfl hl (by decide) rfl (fun ls hl => ?_)
                obtain ⟨a224, e225⟩ := q_nm (lx56 + 1 : Int32)
                have b226 : q_F (a224.toInt = lx56.toInt + 1) := (by rw [← e225]; exact q_addI (y := 1) rfl (by decide) (by have _ := q_lo32 (x := lx56); have _ := q_hi32 (x := lx56); have t1 : lx56.toInt ≤ 12200 := i59; omega) (by have _ := q_lo32 (x := lx56); have _ := q_hi32 (x := lx56); have t1 : lx56.toInt ≤ 12200 := i59; omega))
                refine lv_iinc (v := a224) (lv' := [(6, .int a224), (3, .long j221), (5, .int 1), (7, .int a164), (0, .ref (q 116)), (1, .int x2), (2, .ref (q 168))]) hx hb d_14_35_103 hl (k := 3) rfl (e225) (by decide) rfl (fun ls hl => ?_)
                refine lv_goto (tgt := 26) hx hb d_14_35_106 (by decide) ?_
                have ob227 : q_F (a224.toInt ≤ 12200) := (by rw [← e225]; have h := hS65; rw [S_NM_isLong_L26.eq_2] at h; have c151x := c151; rw [← e70] at c151x; rw [if_neg c151x] at h; rw [if_neg c154] at h; replace h := q_s2 h; have c169x := c169; rw [← e167] at c169x; rw [if_neg c169x] at h; have c186x := c186; rw [← e184] at c186x; rw [if_pos c186x] at h; have c200x := c200; rw [← e165, ← e161, ← e158] at c200x; rw [if_neg c200x] at h; exact h.2.1)
                exact ih63 ((a224 : Int32), (1 : Int32), (j221 : Int64)) _ _ _ ws (show (12200 - a224.toInt).toNat < (12200 - lx56.toInt).toNat from by have t1 : a224.toInt = lx56.toInt + 1 := b226; have t2 : lx56.toInt ≤ 12200 := i59; have t3 : a224.toInt ≤ 12200 := ob227; omega) ⟨(show q_F (a224.toInt ≤ 12200) from (show a224.toInt ≤ 12200 from by have t1 : a224.toInt ≤ 12200 := ob227; omega)), (show q_F (0 ≤ 1) from (show 0 ≤ 1 from by omega)), (show q_F (1 ≤ lx38.toInt) from (show 1 ≤ lx38.toInt from by have t1 : 0 ≤ lx57.toInt := i60; have t2 : lx57.toInt ≤ lx38.toInt := i61; have t3 : lx57.toInt ≠ 0 := b156; omega)), (show q_F (lx38.toInt ≤ a224.toInt + 1) from (show lx38.toInt ≤ a224.toInt + 1 from by have t1 : lx38.toInt ≤ 1 := i47; have t2 : lx57.toInt ≤ lx38.toInt := i61; have t3 : lx38.toInt ≤ lx56.toInt + lx57.toInt := i62; have t4 : a224.toInt = lx56.toInt + 1 := b226; omega)), V, q_lw hl (q_lw1 0 rfl (q_lw1 2 rfl (q_lw1 1 rfl (q_lw1 4 rfl (q_lw1 5 rfl (q_lw1 6 rfl q_lw0)))))), ⟨fm68, Nat.lt_of_lt_of_le (show (12200 - a224.toInt).toNat < (12200 - lx56.toInt).toNat from by have t1 : a224.toInt = lx56.toInt + 1 := b226; have t2 : lx56.toInt ≤ 12200 := i59; have t3 : a224.toInt ≤ 12200 := ob227; omega) (Nat.le_of_lt_succ hf67), (show F_NM_isLong_L26 x2 t0_0 t0_1 t0_2 t1_0 t1_1 t1_2 t1_3 t1_4 t1_5 t1_6 t1_7 t1_8 t1_9 t1_10 t2_0 t3_0 t4_0 t5_0 lx38 fm68 a224 1 j221 = (F_NM_isLong x2 t0_0 t0_1 t0_2 t1_0 t1_1 t1_2 t1_3 t1_4 t1_5 t1_6 t1_7 t1_8 t1_9 t1_10 t2_0 t3_0 t4_0 t5_0) from Eq.trans (by have c151x := c151; rw [← e70] at c151x; have c169x := c169; rw [← e167] at c169x; have c186x := c186; rw [← e184] at c186x; have c200x := c200; rw [← e165, ← e161, ← e158] at c200x; rw [← e225, ← e222, ← e219, ← e216, ← e165, ← e161, ← e158, F_NM_isLong_L26.eq_2, if_neg c151x, if_neg c154, if_neg c169x, if_pos c186x, if_neg c200x]) hR64), (show True ∧ S_NM_isLong_L26 x2 t0_0 t0_1 t0_2 t1_0 t1_1 t1_2 t1_3 t1_4 t1_5 t1_6 t1_7 t1_8 t1_9 t1_10 t2_0 t3_0 t4_0 t5_0 lx38 fm68 a224 1 j221 from (by rw [← e225, ← e222, ← e219, ← e216, ← e165, ← e161, ← e158]; have h := hS65; rw [S_NM_isLong_L26.eq_2] at h; have c151x := c151; rw [← e70] at c151x; rw [if_neg c151x] at h; rw [if_neg c154] at h; replace h := q_s2 h; have c169x := c169; rw [← e167] at c169x; rw [if_neg c169x] at h; have c186x := c186; rw [← e184] at c186x; rw [if_pos c186x] at h; have c200x := c200; rw [← e165, ← e161, ← e158] at c200x; rw [if_neg c200x] at h; replace h := q_s2 h; with_reducible exact h))⟩⟩
  ·
    intro J45
    refine lv_icmp_gt (tgt := 20) hx hb d_14_35_13 (by decide) (fun c228 => ?_) (fun c228 => ?_)
    ·
      refine lv_iconst (v := 0) hx hb d_14_35_20 (by decide) ?_
      exact J45 ((0 : Int32)) _ _ _ ws ⟨(show q_F (0 ≤ 0) from (show 0 ≤ 0 from by omega)), (show q_F (0 ≤ 1) from (show 0 ≤ 1 from by omega)), V, q_lw hl (q_lw1 0 rfl (q_lw1 1 rfl (q_lw1 2 rfl (q_lw1 3 rfl q_lw0)))), (show F_NM_isLong_J21 x2 t0_0 t0_1 t0_2 t1_0 t1_1 t1_2 t1_3 t1_4 t1_5 t1_6 t1_7 t1_8 t1_9 t1_10 t2_0 t3_0 t4_0 t5_0 0 = (F_NM_isLong x2 t0_0 t0_1 t0_2 t1_0 t1_1 t1_2 t1_3 t1_4 t1_5 t1_6 t1_7 t1_8 t1_9 t1_10 t2_0 t3_0 t4_0 t5_0) from (by have c228x := c228; rw [← e37] at c228x; rw [F_NM_isLong.eq_1, if_pos c228x])), (show True ∧ S_NM_isLong_J21 x2 t0_0 t0_1 t0_2 t1_0 t1_1 t1_2 t1_3 t1_4 t1_5 t1_6 t1_7 t1_8 t1_9 t1_10 t2_0 t3_0 t4_0 t5_0 0 from (by have h := hS; rw [S_NM_isLong.eq_1] at h; replace h := q_s2 h; replace h := q_s2 h; have c228x := c228; rw [← e37] at c228x; rw [if_pos c228x] at h; with_reducible exact h))⟩
    ·
      refine lv_iconst (v := 1) hx hb d_14_35_16 (by decide) ?_
      refine lv_goto (tgt := 21) hx hb d_14_35_17 (by decide) ?_
      exact J45 ((1 : Int32)) _ _ _ ws ⟨(show q_F (0 ≤ 1) from (show 0 ≤ 1 from by omega)), (show q_F (1 ≤ 1) from (show 1 ≤ 1 from by omega)), V, q_lw hl (q_lw1 0 rfl (q_lw1 1 rfl (q_lw1 2 rfl (q_lw1 3 rfl q_lw0)))), (show F_NM_isLong_J21 x2 t0_0 t0_1 t0_2 t1_0 t1_1 t1_2 t1_3 t1_4 t1_5 t1_6 t1_7 t1_8 t1_9 t1_10 t2_0 t3_0 t4_0 t5_0 1 = (F_NM_isLong x2 t0_0 t0_1 t0_2 t1_0 t1_1 t1_2 t1_3 t1_4 t1_5 t1_6 t1_7 t1_8 t1_9 t1_10 t2_0 t3_0 t4_0 t5_0) from (by have c228x := c228; rw [← e37] at c228x; rw [F_NM_isLong.eq_1, if_neg c228x])), (show True ∧ S_NM_isLong_J21 x2 t0_0 t0_1 t0_2 t1_0 t1_1 t1_2 t1_3 t1_4 t1_5 t1_6 t1_7 t1_8 t1_9 t1_10 t2_0 t3_0 t4_0 t5_0 1 from (by have h := hS; rw [S_NM_isLong.eq_1] at h; replace h := q_s2 h; replace h := q_s2 h; have c228x := c228; rw [← e37] at c228x; rw [if_neg c228x] at h; with_reducible exact h))⟩

theorem d_14_36_0 : decode prog_14_method_36_code 0 = .ok (.iload_n 1, 1) := by decide +kernel
theorem d_14_36_1 : decode prog_14_method_36_code 1 = .ok (.ifCond .ne 58, 3) := by decide +kernel
theorem d_14_36_59 : decode prog_14_method_36_code 59 = .ok (.aload_n 0, 1) := by decide +kernel
theorem d_14_36_60 : decode prog_14_method_36_code 60 = .ok (.getfield 26, 3) := by decide +kernel
theorem d_14_36_63 : decode prog_14_method_36_code 63 = .ok (.getfield 232, 3) := by decide +kernel
theorem d_14_36_66 : decode prog_14_method_36_code 66 = .ok (.iload_n 2, 1) := by decide +kernel
theorem d_14_36_67 : decode prog_14_method_36_code 67 = .ok (.iaload, 1) := by decide +kernel
theorem d_14_36_68 : decode prog_14_method_36_code 68 = .ok (.istore_n 3, 1) := by decide +kernel
theorem d_14_36_69 : decode prog_14_method_36_code 69 = .ok (.aload_n 0, 1) := by decide +kernel
theorem d_14_36_70 : decode prog_14_method_36_code 70 = .ok (.aload_n 0, 1) := by decide +kernel
theorem d_14_36_71 : decode prog_14_method_36_code 71 = .ok (.iload_n 2, 1) := by decide +kernel
theorem d_14_36_72 : decode prog_14_method_36_code 72 = .ok (.aload_n 0, 1) := by decide +kernel
theorem d_14_36_73 : decode prog_14_method_36_code 73 = .ok (.getfield 55, 3) := by decide +kernel
theorem d_14_36_76 : decode prog_14_method_36_code 76 = .ok (.invokevirtual 303, 3) := by decide +kernel
set_option maxRecDepth 100000 in
theorem w_3085 : (Cond.code ({ cls := "NumberHouseModel", name := "isLong", desc := "(I[J)Z" } : MethodName) prog_14_method_35_code (8 : Nat) (some .boolean)) ∈ q_tbl := q_of13 205 rfl (by decide +kernel)
set_option maxRecDepth 100000 in
theorem w_3082 : (Cond.methodLink "NumberHouseModel" (303 : Nat) ({ cls := "NumberHouseModel", name := "isLong", desc := "(I[J)Z" } : MethodName)) ∈ q_tbl := q_of13 202 rfl (by decide +kernel)
set_option maxRecDepth 100000 in
theorem w_3084 : (Cond.instanceMethod ({ cls := "NumberHouseModel", name := "isLong", desc := "(I[J)Z" } : MethodName)) ∈ q_tbl := q_of13 204 rfl (by decide +kernel)
theorem ws_150 : Cond.selects "NumberHouseModel" (⟨"NumberHouseModel", "isLong", "(I[J)Z"⟩ : MethodName) (⟨"NumberHouseModel", "isLong", "(I[J)Z"⟩ : MethodName) ∈ q_tbl := q_ofs 150 (by decide +kernel) (by decide +kernel)
theorem LV_NM_303 : q_LV "NumberHouseModel" 303 y_NM_isLong prog_14_method_35_code 8 (some .boolean) 2 := ⟨w_3085, w_14, w_3082, w_3084, ws_150, ⟨by decide, by decide, by decide +kernel⟩⟩
theorem d_14_36_97 : decode prog_14_method_36_code 97 = .ok (.putfield 58, 3) := by decide +kernel
theorem d_14_36_100 : decode prog_14_method_36_code 100 = .ok (.aload_n 0, 1) := by decide +kernel
theorem d_14_36_101 : decode prog_14_method_36_code 101 = .ok (.getfield 58, 3) := by decide +kernel
theorem d_14_36_104 : decode prog_14_method_36_code 104 = .ok (.ifCond .le 7, 3) := by decide +kernel
theorem d_14_36_111 : decode prog_14_method_36_code 111 = .ok (.aload_n 0, 1) := by decide +kernel
theorem d_14_36_112 : decode prog_14_method_36_code 112 = .ok (.getfield 47, 3) := by decide +kernel
theorem d_14_36_115 : decode prog_14_method_36_code 115 = .ok (.aload_n 0, 1) := by decide +kernel
theorem d_14_36_116 : decode prog_14_method_36_code 116 = .ok (.getfield 55, 3) := by decide +kernel
theorem d_14_36_119 : decode prog_14_method_36_code 119 = .ok (.iconst 0, 1) := by decide +kernel
theorem d_14_36_120 : decode prog_14_method_36_code 120 = .ok (.laload, 1) := by decide +kernel
theorem d_14_36_121 : decode prog_14_method_36_code 121 = .ok (.iload_n 3, 1) := by decide +kernel
theorem d_14_36_122 : decode prog_14_method_36_code 122 = .ok (.invokevirtual 307, 3) := by decide +kernel
set_option maxRecDepth 100000 in
theorem w_3091 : (Cond.code ({ cls := "NumberHouseModel$DirectiveRows", name := "decimal", desc := "(JI)I" } : MethodName) prog_16_method_12_code (4 : Nat) (some .int)) ∈ q_tbl := q_of13 211 rfl (by decide +kernel)
set_option maxRecDepth 100000 in
theorem w_3088 : (Cond.methodLink "NumberHouseModel" (307 : Nat) ({ cls := "NumberHouseModel$DirectiveRows", name := "decimal", desc := "(JI)I" } : MethodName)) ∈ q_tbl := q_of13 208 rfl (by decide +kernel)
set_option maxRecDepth 100000 in
theorem w_3089 : (Cond.instanceMethod ({ cls := "NumberHouseModel$DirectiveRows", name := "decimal", desc := "(JI)I" } : MethodName)) ∈ q_tbl := q_of13 209 rfl (by decide +kernel)
set_option maxRecDepth 100000 in
theorem w_3090 : (Cond.selects "NumberHouseModel$DirectiveRows" ({ cls := "NumberHouseModel$DirectiveRows", name := "decimal", desc := "(JI)I" } : MethodName) ({ cls := "NumberHouseModel$DirectiveRows", name := "decimal", desc := "(JI)I" } : MethodName)) ∈ q_tbl := q_of13 210 rfl (by decide +kernel)
theorem LV_NM_307 : q_LV "NumberHouseModel" 307 y_VR_decimal_JII prog_16_method_12_code 4 (some .int) 2 := ⟨w_3091, w_19, w_3088, w_3089, w_3090, ⟨by decide, by decide, by decide +kernel⟩⟩
theorem d_14_36_125 : decode prog_14_method_36_code 125 = .ok (.ireturn, 1) := by decide +kernel
theorem d_14_36_107 : decode prog_14_method_36_code 107 = .ok (.iconst 0, 1) := by decide +kernel
theorem d_14_36_108 : decode prog_14_method_36_code 108 = .ok (.goto 17, 3) := by decide +kernel
theorem d_14_36_92 : decode prog_14_method_36_code 92 = .ok (.iconst 2, 1) := by decide +kernel
theorem d_14_36_93 : decode prog_14_method_36_code 93 = .ok (.goto 4, 3) := by decide +kernel
theorem d_14_36_79 : decode prog_14_method_36_code 79 = .ok (.ifCond .eq 13, 3) := by decide +kernel
theorem d_14_36_82 : decode prog_14_method_36_code 82 = .ok (.iload_n 3, 1) := by decide +kernel
theorem d_14_36_83 : decode prog_14_method_36_code 83 = .ok (.ifCond .lt 9, 3) := by decide +kernel
theorem d_14_36_86 : decode prog_14_method_36_code 86 = .ok (.iload_n 3, 1) := by decide +kernel
theorem d_14_36_87 : decode prog_14_method_36_code 87 = .ok (.bipush 40, 2) := by decide +kernel
theorem d_14_36_89 : decode prog_14_method_36_code 89 = .ok (.if_icmp .le 7, 3) := by decide +kernel
theorem d_14_36_96 : decode prog_14_method_36_code 96 = .ok (.iconst 0, 1) := by decide +kernel
theorem d_14_36_4 : decode prog_14_method_36_code 4 = .ok (.aload_n 0, 1) := by decide +kernel
theorem d_14_36_5 : decode prog_14_method_36_code 5 = .ok (.aload_n 0, 1) := by decide +kernel
theorem d_14_36_6 : decode prog_14_method_36_code 6 = .ok (.getfield 19, 3) := by decide +kernel
theorem d_14_36_9 : decode prog_14_method_36_code 9 = .ok (.iload_n 2, 1) := by decide +kernel
theorem d_14_36_10 : decode prog_14_method_36_code 10 = .ok (.iconst 2, 1) := by decide +kernel
theorem d_14_36_11 : decode prog_14_method_36_code 11 = .ok (.invokevirtual 131, 3) := by decide +kernel
theorem d_14_36_14 : decode prog_14_method_36_code 14 = .ok (.ldc2_w 297, 3) := by decide +kernel
set_option maxRecDepth 100000 in
theorem w_3073 : (Cond.constantLong "NumberHouseModel" (297 : Nat) (63 : Int64)) ∈ q_tbl := q_of13 193 rfl (by decide +kernel)
theorem d_14_36_17 : decode prog_14_method_36_code 17 = .ok (.lcmp, 1) := by decide +kernel
theorem d_14_36_26 : decode prog_14_method_36_code 26 = .ok (.putfield 58, 3) := by decide +kernel
theorem d_14_36_29 : decode prog_14_method_36_code 29 = .ok (.aload_n 0, 1) := by decide +kernel
theorem d_14_36_30 : decode prog_14_method_36_code 30 = .ok (.getfield 58, 3) := by decide +kernel
theorem d_14_36_33 : decode prog_14_method_36_code 33 = .ok (.ifCond .le 7, 3) := by decide +kernel
theorem d_14_36_40 : decode prog_14_method_36_code 40 = .ok (.aload_n 0, 1) := by decide +kernel
theorem d_14_36_41 : decode prog_14_method_36_code 41 = .ok (.getfield 47, 3) := by decide +kernel
theorem d_14_36_44 : decode prog_14_method_36_code 44 = .ok (.bipush 64, 2) := by decide +kernel
theorem d_14_36_46 : decode prog_14_method_36_code 46 = .ok (.aload_n 0, 1) := by decide +kernel
theorem d_14_36_47 : decode prog_14_method_36_code 47 = .ok (.getfield 19, 3) := by decide +kernel
theorem d_14_36_50 : decode prog_14_method_36_code 50 = .ok (.iload_n 2, 1) := by decide +kernel
theorem d_14_36_51 : decode prog_14_method_36_code 51 = .ok (.iconst 0, 1) := by decide +kernel
theorem d_14_36_52 : decode prog_14_method_36_code 52 = .ok (.invokevirtual 131, 3) := by decide +kernel
theorem d_14_36_55 : decode prog_14_method_36_code 55 = .ok (.invokevirtual 299, 3) := by decide +kernel
set_option maxRecDepth 100000 in
theorem w_3077 : (Cond.code ({ cls := "NumberHouseModel$DirectiveRows", name := "whole", desc := "(IJ)I" } : MethodName) prog_16_method_10_code (4 : Nat) (some .int)) ∈ q_tbl := q_of13 197 rfl (by decide +kernel)
set_option maxRecDepth 100000 in
theorem w_3074 : (Cond.methodLink "NumberHouseModel" (299 : Nat) ({ cls := "NumberHouseModel$DirectiveRows", name := "whole", desc := "(IJ)I" } : MethodName)) ∈ q_tbl := q_of13 194 rfl (by decide +kernel)
set_option maxRecDepth 100000 in
theorem w_3075 : (Cond.instanceMethod ({ cls := "NumberHouseModel$DirectiveRows", name := "whole", desc := "(IJ)I" } : MethodName)) ∈ q_tbl := q_of13 195 rfl (by decide +kernel)
set_option maxRecDepth 100000 in
theorem w_3076 : (Cond.selects "NumberHouseModel$DirectiveRows" ({ cls := "NumberHouseModel$DirectiveRows", name := "whole", desc := "(IJ)I" } : MethodName) ({ cls := "NumberHouseModel$DirectiveRows", name := "whole", desc := "(IJ)I" } : MethodName)) ∈ q_tbl := q_of13 196 rfl (by decide +kernel)
theorem LV_NM_299 : q_LV "NumberHouseModel" 299 y_VR_whole prog_16_method_10_code 4 (some .int) 2 := ⟨w_3077, w_19, w_3074, w_3075, w_3076, ⟨by decide, by decide, by decide +kernel⟩⟩
theorem d_14_36_58 : decode prog_14_method_36_code 58 = .ok (.ireturn, 1) := by decide +kernel
theorem d_14_36_36 : decode prog_14_method_36_code 36 = .ok (.iconst 0, 1) := by decide +kernel
theorem d_14_36_37 : decode prog_14_method_36_code 37 = .ok (.goto 21, 3) := by decide +kernel
theorem d_14_36_18 : decode prog_14_method_36_code 18 = .ok (.ifCond .le 7, 3) := by decide +kernel
theorem d_14_36_25 : decode prog_14_method_36_code 25 = .ok (.iconst 0, 1) := by decide +kernel
theorem d_14_36_21 : decode prog_14_method_36_code 21 = .ok (.iconst 2, 1) := by decide +kernel
theorem d_14_36_22 : decode prog_14_method_36_code 22 = .ok (.goto 4, 3) := by decide +kernel
def y_NM_numeral : MethodName := ⟨"NumberHouseModel", "numeral", "(II)I"⟩
def F_NM_numeral_c122 (x2 : Int32) (x3 : Int32) (t0_0 : Int32) (t0_1 : Int32) (t0_2 : Int32) (t1_0 : Int32) (t1_1 : Int32) (t1_2 : Int32) (t1_3 : Int32) (t1_4 : Int32) (t1_5 : Int32) (t1_6 : Int32) (t2_0 : (Nat → Int32)) (t3_0 : (Nat → Int32)) (t4_0 : Int32) (t4_1 : Int32) (t4_2 : Int32) (t4_3 : Int64) (t4_4 : Int32) (t4_5 : Int32) (t4_6 : Int32) (t4_7 : Int32) (t4_8 : Int32) (t4_9 : Int32) (t4_10 : Int32) (t5_0 : (Nat → Int32)) (t6_0 : (Nat → Int32)) (t7_0 : (Nat → Int32)) (t8_0 : (Nat → Int32)) (t9_0 : Int32) (t9_1 : Int32) (t9_2 : Int32) (t9_3 : Int32) (t9_4 : Int32) (t9_5 : Int32) (t9_6 : Int32) (t9_7 : Int32) (t9_8 : Int32) (t9_9 : Int32) (t9_10 : Int32) (t9_11 : Int32) (t9_12 : Int32) (t9_13 : Int32) (t9_14 : Int32) (t9_15 : Int32) (t9_16 : Int32) (t9_17 : Int32) (t9_18 : Int32) (t9_19 : Int32) (t9_20 : Int32) (t9_21 : Int32) (t10_0 : (Nat → Int32)) (t11_0 : (Nat → Int32)) (t12_0 : (Nat → Int64)) (t13_0 : (Nat → Int64)) (a96 : Int32) (p110 : (Int32 × (Nat → Int64))) (f102 : (Nat → Int64)) (lx119 : Int32) (p169 : (Int32 × Int32 × Int32 × (Nat → Int32) × (Nat → Int32) × (Nat → Int64))) : Int32 × Int32 × Int32 × Int32 × Int32 × Int32 × Int32 × Int32 × Int32 × Int32 × Int32 × (Nat → Int32) × (Nat → Int32) × (Nat → Int64) × (Nat → Int64) := ((p169.1 : Int32), lx119, t1_0, t1_1, t1_2, t1_3, t1_4, t1_5, t1_6, (p169.2.1 : Int32), (p169.2.2.1 : Int32), (p169.2.2.2.1 : (Nat → Int32)), (p169.2.2.2.2.1 : (Nat → Int32)), (p169.2.2.2.2.2 : (Nat → Int64)), f102)
def F_NM_numeral_J97 (x2 : Int32) (x3 : Int32) (t0_0 : Int32) (t0_1 : Int32) (t0_2 : Int32) (t1_0 : Int32) (t1_1 : Int32) (t1_2 : Int32) (t1_3 : Int32) (t1_4 : Int32) (t1_5 : Int32) (t1_6 : Int32) (t2_0 : (Nat → Int32)) (t3_0 : (Nat → Int32)) (t4_0 : Int32) (t4_1 : Int32) (t4_2 : Int32) (t4_3 : Int64) (t4_4 : Int32) (t4_5 : Int32) (t4_6 : Int32) (t4_7 : Int32) (t4_8 : Int32) (t4_9 : Int32) (t4_10 : Int32) (t5_0 : (Nat → Int32)) (t6_0 : (Nat → Int32)) (t7_0 : (Nat → Int32)) (t8_0 : (Nat → Int32)) (t9_0 : Int32) (t9_1 : Int32) (t9_2 : Int32) (t9_3 : Int32) (t9_4 : Int32) (t9_5 : Int32) (t9_6 : Int32) (t9_7 : Int32) (t9_8 : Int32) (t9_9 : Int32) (t9_10 : Int32) (t9_11 : Int32) (t9_12 : Int32) (t9_13 : Int32) (t9_14 : Int32) (t9_15 : Int32) (t9_16 : Int32) (t9_17 : Int32) (t9_18 : Int32) (t9_19 : Int32) (t9_20 : Int32) (t9_21 : Int32) (t10_0 : (Nat → Int32)) (t11_0 : (Nat → Int32)) (t12_0 : (Nat → Int64)) (t13_0 : (Nat → Int64)) (a96 : Int32) (p110 : (Int32 × (Nat → Int64))) (f102 : (Nat → Int64)) (lx119 : Int32) : Int32 × Int32 × Int32 × Int32 × Int32 × Int32 × Int32 × Int32 × Int32 × Int32 × Int32 × (Nat → Int32) × (Nat → Int32) × (Nat → Int64) × (Nat → Int64) := if lx119 ≤ (0 : Int32) then (F_NM_numeral_c122 x2 x3 t0_0 t0_1 t0_2 t1_0 t1_1 t1_2 t1_3 t1_4 t1_5 t1_6 t2_0 t3_0 t4_0 t4_1 t4_2 t4_3 t4_4 t4_5 t4_6 t4_7 t4_8 t4_9 t4_10 t5_0 t6_0 t7_0 t8_0 t9_0 t9_1 t9_2 t9_3 t9_4 t9_5 t9_6 t9_7 t9_8 t9_9 t9_10 t9_11 t9_12 t9_13 t9_14 t9_15 t9_16 t9_17 t9_18 t9_19 t9_20 t9_21 t10_0 t11_0 t12_0 t13_0 a96 p110 f102 lx119 ((F_VR_decimal_JII (f102 (0 : Int32).toNatClampNeg : Int64) a96 t9_0 t9_1 t9_2 t9_3 t9_4 t9_5 t9_6 t9_7 t9_8 t9_9 t9_10 t9_11 t9_12 t9_13 t9_14 t9_15 t9_16 t9_17 t9_18 t9_19 t9_20 t9_21 t10_0 t11_0 t12_0) : (Int32 × Int32 × Int32 × (Nat → Int32) × (Nat → Int32) × (Nat → Int64)))) else (((0 : Int32), lx119, t1_0, t1_1, t1_2, t1_3, t1_4, t1_5, t1_6, t9_0, t9_2, t10_0, t11_0, t12_0, f102))
def F_NM_numeral_J92 (x2 : Int32) (x3 : Int32) (t0_0 : Int32) (t0_1 : Int32) (t0_2 : Int32) (t1_0 : Int32) (t1_1 : Int32) (t1_2 : Int32) (t1_3 : Int32) (t1_4 : Int32) (t1_5 : Int32) (t1_6 : Int32) (t2_0 : (Nat → Int32)) (t3_0 : (Nat → Int32)) (t4_0 : Int32) (t4_1 : Int32) (t4_2 : Int32) (t4_3 : Int64) (t4_4 : Int32) (t4_5 : Int32) (t4_6 : Int32) (t4_7 : Int32) (t4_8 : Int32) (t4_9 : Int32) (t4_10 : Int32) (t5_0 : (Nat → Int32)) (t6_0 : (Nat → Int32)) (t7_0 : (Nat → Int32)) (t8_0 : (Nat → Int32)) (t9_0 : Int32) (t9_1 : Int32) (t9_2 : Int32) (t9_3 : Int32) (t9_4 : Int32) (t9_5 : Int32) (t9_6 : Int32) (t9_7 : Int32) (t9_8 : Int32) (t9_9 : Int32) (t9_10 : Int32) (t9_11 : Int32) (t9_12 : Int32) (t9_13 : Int32) (t9_14 : Int32) (t9_15 : Int32) (t9_16 : Int32) (t9_17 : Int32) (t9_18 : Int32) (t9_19 : Int32) (t9_20 : Int32) (t9_21 : Int32) (t10_0 : (Nat → Int32)) (t11_0 : (Nat → Int32)) (t12_0 : (Nat → Int64)) (t13_0 : (Nat → Int64)) (a96 : Int32) (p110 : (Int32 × (Nat → Int64))) (f102 : (Nat → Int64)) : Int32 × Int32 × Int32 × Int32 × Int32 × Int32 × Int32 × Int32 × Int32 × Int32 × Int32 × (Nat → Int32) × (Nat → Int32) × (Nat → Int64) × (Nat → Int64) := F_NM_numeral_J97 x2 x3 t0_0 t0_1 t0_2 t1_0 t1_1 t1_2 t1_3 t1_4 t1_5 t1_6 t2_0 t3_0 t4_0 t4_1 t4_2 t4_3 t4_4 t4_5 t4_6 t4_7 t4_8 t4_9 t4_10 t5_0 t6_0 t7_0 t8_0 t9_0 t9_1 t9_2 t9_3 t9_4 t9_5 t9_6 t9_7 t9_8 t9_9 t9_10 t9_11 t9_12 t9_13 t9_14 t9_15 t9_16 t9_17 t9_18 t9_19 t9_20 t9_21 t10_0 t11_0 t12_0 t13_0 a96 p110 f102 2
def F_NM_numeral_c76 (x2 : Int32) (x3 : Int32) (t0_0 : Int32) (t0_1 : Int32) (t0_2 : Int32) (t1_0 : Int32) (t1_1 : Int32) (t1_2 : Int32) (t1_3 : Int32) (t1_4 : Int32) (t1_5 : Int32) (t1_6 : Int32) (t2_0 : (Nat → Int32)) (t3_0 : (Nat → Int32)) (t4_0 : Int32) (t4_1 : Int32) (t4_2 : Int32) (t4_3 : Int64) (t4_4 : Int32) (t4_5 : Int32) (t4_6 : Int32) (t4_7 : Int32) (t4_8 : Int32) (t4_9 : Int32) (t4_10 : Int32) (t5_0 : (Nat → Int32)) (t6_0 : (Nat → Int32)) (t7_0 : (Nat → Int32)) (t8_0 : (Nat → Int32)) (t9_0 : Int32) (t9_1 : Int32) (t9_2 : Int32) (t9_3 : Int32) (t9_4 : Int32) (t9_5 : Int32) (t9_6 : Int32) (t9_7 : Int32) (t9_8 : Int32) (t9_9 : Int32) (t9_10 : Int32) (t9_11 : Int32) (t9_12 : Int32) (t9_13 : Int32) (t9_14 : Int32) (t9_15 : Int32) (t9_16 : Int32) (t9_17 : Int32) (t9_18 : Int32) (t9_19 : Int32) (t9_20 : Int32) (t9_21 : Int32) (t10_0 : (Nat → Int32)) (t11_0 : (Nat → Int32)) (t12_0 : (Nat → Int64)) (t13_0 : (Nat → Int64)) (a96 : Int32) (p110 : (Int32 × (Nat → Int64))) : Int32 × Int32 × Int32 × Int32 × Int32 × Int32 × Int32 × Int32 × Int32 × Int32 × Int32 × (Nat → Int32) × (Nat → Int32) × (Nat → Int64) × (Nat → Int64) := if (p110.1 : Int32) = (0 : Int32) then (F_NM_numeral_J92 x2 x3 t0_0 t0_1 t0_2 t1_0 t1_1 t1_2 t1_3 t1_4 t1_5 t1_6 t2_0 t3_0 t4_0 t4_1 t4_2 t4_3 t4_4 t4_5 t4_6 t4_7 t4_8 t4_9 t4_10 t5_0 t6_0 t7_0 t8_0 t9_0 t9_1 t9_2 t9_3 t9_4 t9_5 t9_6 t9_7 t9_8 t9_9 t9_10 t9_11 t9_12 t9_13 t9_14 t9_15 t9_16 t9_17 t9_18 t9_19 t9_20 t9_21 t10_0 t11_0 t12_0 t13_0 a96 p110 (p110.2 : (Nat → Int64))) else (if a96 < (0 : Int32) then (F_NM_numeral_J92 x2 x3 t0_0 t0_1 t0_2 t1_0 t1_1 t1_2 t1_3 t1_4 t1_5 t1_6 t2_0 t3_0 t4_0 t4_1 t4_2 t4_3 t4_4 t4_5 t4_6 t4_7 t4_8 t4_9 t4_10 t5_0 t6_0 t7_0 t8_0 t9_0 t9_1 t9_2 t9_3 t9_4 t9_5 t9_6 t9_7 t9_8 t9_9 t9_10 t9_11 t9_12 t9_13 t9_14 t9_15 t9_16 t9_17 t9_18 t9_19 t9_20 t9_21 t10_0 t11_0 t12_0 t13_0 a96 p110 (p110.2 : (Nat → Int64))) else (if a96 ≤ (40 : Int32) then (F_NM_numeral_J97 x2 x3 t0_0 t0_1 t0_2 t1_0 t1_1 t1_2 t1_3 t1_4 t1_5 t1_6 t2_0 t3_0 t4_0 t4_1 t4_2 t4_3 t4_4 t4_5 t4_6 t4_7 t4_8 t4_9 t4_10 t5_0 t6_0 t7_0 t8_0 t9_0 t9_1 t9_2 t9_3 t9_4 t9_5 t9_6 t9_7 t9_8 t9_9 t9_10 t9_11 t9_12 t9_13 t9_14 t9_15 t9_16 t9_17 t9_18 t9_19 t9_20 t9_21 t10_0 t11_0 t12_0 t13_0 a96 p110 (p110.2 : (Nat → Int64)) 0) else (F_NM_numeral_J92 x2 x3 t0_0 t0_1 t0_2 t1_0 t1_1 t1_2 t1_3 t1_4 t1_5 t1_6 t2_0 t3_0 t4_0 t4_1 t4_2 t4_3 t4_4 t4_5 t4_6 t4_7 t4_8 t4_9 t4_10 t5_0 t6_0 t7_0 t8_0 t9_0 t9_1 t9_2 t9_3 t9_4 t9_5 t9_6 t9_7 t9_8 t9_9 t9_10 t9_11 t9_12 t9_13 t9_14 t9_15 t9_16 t9_17 t9_18 t9_19 t9_20 t9_21 t10_0 t11_0 t12_0 t13_0 a96 p110 (p110.2 : (Nat → Int64)))))
def F_NM_numeral_c55 (x2 : Int32) (x3 : Int32) (t0_0 : Int32) (t0_1 : Int32) (t0_2 : Int32) (t1_0 : Int32) (t1_1 : Int32) (t1_2 : Int32) (t1_3 : Int32) (t1_4 : Int32) (t1_5 : Int32) (t1_6 : Int32) (t2_0 : (Nat → Int32)) (t3_0 : (Nat → Int32)) (t4_0 : Int32) (t4_1 : Int32) (t4_2 : Int32) (t4_3 : Int64) (t4_4 : Int32) (t4_5 : Int32) (t4_6 : Int32) (t4_7 : Int32) (t4_8 : Int32) (t4_9 : Int32) (t4_10 : Int32) (t5_0 : (Nat → Int32)) (t6_0 : (Nat → Int32)) (t7_0 : (Nat → Int32)) (t8_0 : (Nat → Int32)) (t9_0 : Int32) (t9_1 : Int32) (t9_2 : Int32) (t9_3 : Int32) (t9_4 : Int32) (t9_5 : Int32) (t9_6 : Int32) (t9_7 : Int32) (t9_8 : Int32) (t9_9 : Int32) (t9_10 : Int32) (t9_11 : Int32) (t9_12 : Int32) (t9_13 : Int32) (t9_14 : Int32) (t9_15 : Int32) (t9_16 : Int32) (t9_17 : Int32) (t9_18 : Int32) (t9_19 : Int32) (t9_20 : Int32) (t9_21 : Int32) (t10_0 : (Nat → Int32)) (t11_0 : (Nat → Int32)) (t12_0 : (Nat → Int64)) (t13_0 : (Nat → Int64)) (p241 : (Int64 × Int32 × Int32 × Int32 × Int32 × Int32 × Int32 × Int32)) (y218 : Int32) (y219 : Int32) (y220 : Int32) (y221 : Int32) (y222 : Int32) (y223 : Int32) (y224 : Int32) (lx259 : Int32) (p314 : (Int64 × Int32 × Int32 × Int32 × Int32 × Int32 × Int32 × Int32)) (y291 : Int32) (y292 : Int32) (y293 : Int32) (y294 : Int32) (y295 : Int32) (y296 : Int32) (y297 : Int32) (p350 : (Int32 × Int32 × Int32 × (Nat → Int32) × (Nat → Int32) × (Nat → Int64))) : Int32 × Int32 × Int32 × Int32 × Int32 × Int32 × Int32 × Int32 × Int32 × Int32 × Int32 × (Nat → Int32) × (Nat → Int32) × (Nat → Int64) × (Nat → Int64) := ((p350.1 : Int32), lx259, y291, y292, y293, y294, y295, y296, y297, (p350.2.1 : Int32), (p350.2.2.1 : Int32), (p350.2.2.2.1 : (Nat → Int32)), (p350.2.2.2.2.1 : (Nat → Int32)), (p350.2.2.2.2.2 : (Nat → Int64)), t13_0)
def F_NM_numeral_c52 (x2 : Int32) (x3 : Int32) (t0_0 : Int32) (t0_1 : Int32) (t0_2 : Int32) (t1_0 : Int32) (t1_1 : Int32) (t1_2 : Int32) (t1_3 : Int32) (t1_4 : Int32) (t1_5 : Int32) (t1_6 : Int32) (t2_0 : (Nat → Int32)) (t3_0 : (Nat → Int32)) (t4_0 : Int32) (t4_1 : Int32) (t4_2 : Int32) (t4_3 : Int64) (t4_4 : Int32) (t4_5 : Int32) (t4_6 : Int32) (t4_7 : Int32) (t4_8 : Int32) (t4_9 : Int32) (t4_10 : Int32) (t5_0 : (Nat → Int32)) (t6_0 : (Nat → Int32)) (t7_0 : (Nat → Int32)) (t8_0 : (Nat → Int32)) (t9_0 : Int32) (t9_1 : Int32) (t9_2 : Int32) (t9_3 : Int32) (t9_4 : Int32) (t9_5 : Int32) (t9_6 : Int32) (t9_7 : Int32) (t9_8 : Int32) (t9_9 : Int32) (t9_10 : Int32) (t9_11 : Int32) (t9_12 : Int32) (t9_13 : Int32) (t9_14 : Int32) (t9_15 : Int32) (t9_16 : Int32) (t9_17 : Int32) (t9_18 : Int32) (t9_19 : Int32) (t9_20 : Int32) (t9_21 : Int32) (t10_0 : (Nat → Int32)) (t11_0 : (Nat → Int32)) (t12_0 : (Nat → Int64)) (t13_0 : (Nat → Int64)) (p241 : (Int64 × Int32 × Int32 × Int32 × Int32 × Int32 × Int32 × Int32)) (y218 : Int32) (y219 : Int32) (y220 : Int32) (y221 : Int32) (y222 : Int32) (y223 : Int32) (y224 : Int32) (lx259 : Int32) (p314 : (Int64 × Int32 × Int32 × Int32 × Int32 × Int32 × Int32 × Int32)) : Int32 × Int32 × Int32 × Int32 × Int32 × Int32 × Int32 × Int32 × Int32 × Int32 × Int32 × (Nat → Int32) × (Nat → Int32) × (Nat → Int64) × (Nat → Int64) := F_NM_numeral_c55 x2 x3 t0_0 t0_1 t0_2 t1_0 t1_1 t1_2 t1_3 t1_4 t1_5 t1_6 t2_0 t3_0 t4_0 t4_1 t4_2 t4_3 t4_4 t4_5 t4_6 t4_7 t4_8 t4_9 t4_10 t5_0 t6_0 t7_0 t8_0 t9_0 t9_1 t9_2 t9_3 t9_4 t9_5 t9_6 t9_7 t9_8 t9_9 t9_10 t9_11 t9_12 t9_13 t9_14 t9_15 t9_16 t9_17 t9_18 t9_19 t9_20 t9_21 t10_0 t11_0 t12_0 t13_0 p241 y218 y219 y220 y221 y222 y223 y224 lx259 p314 (p314.2.1 : Int32) (p314.2.2.1 : Int32) (p314.2.2.2.1 : Int32) (p314.2.2.2.2.1 : Int32) (p314.2.2.2.2.2.1 : Int32) (p314.2.2.2.2.2.2.1 : Int32) (p314.2.2.2.2.2.2.2 : Int32) ((F_VR_whole (64 : Int32) (p314.1 : Int64) t9_0 t9_1 t9_2 t9_3 t9_4 t9_5 t9_6 t9_7 t9_8 t9_9 t9_10 t9_11 t9_12 t9_13 t9_14 t9_15 t9_16 t9_17 t9_18 t9_19 t9_20 t9_21 t10_0 t11_0 t12_0) : (Int32 × Int32 × Int32 × (Nat → Int32) × (Nat → Int32) × (Nat → Int64)))
def F_NM_numeral_J26 (x2 : Int32) (x3 : Int32) (t0_0 : Int32) (t0_1 : Int32) (t0_2 : Int32) (t1_0 : Int32) (t1_1 : Int32) (t1_2 : Int32) (t1_3 : Int32) (t1_4 : Int32) (t1_5 : Int32) (t1_6 : Int32) (t2_0 : (Nat → Int32)) (t3_0 : (Nat → Int32)) (t4_0 : Int32) (t4_1 : Int32) (t4_2 : Int32) (t4_3 : Int64) (t4_4 : Int32) (t4_5 : Int32) (t4_6 : Int32) (t4_7 : Int32) (t4_8 : Int32) (t4_9 : Int32) (t4_10 : Int32) (t5_0 : (Nat → Int32)) (t6_0 : (Nat → Int32)) (t7_0 : (Nat → Int32)) (t8_0 : (Nat → Int32)) (t9_0 : Int32) (t9_1 : Int32) (t9_2 : Int32) (t9_3 : Int32) (t9_4 : Int32) (t9_5 : Int32) (t9_6 : Int32) (t9_7 : Int32) (t9_8 : Int32) (t9_9 : Int32) (t9_10 : Int32) (t9_11 : Int32) (t9_12 : Int32) (t9_13 : Int32) (t9_14 : Int32) (t9_15 : Int32) (t9_16 : Int32) (t9_17 : Int32) (t9_18 : Int32) (t9_19 : Int32) (t9_20 : Int32) (t9_21 : Int32) (t10_0 : (Nat → Int32)) (t11_0 : (Nat → Int32)) (t12_0 : (Nat → Int64)) (t13_0 : (Nat → Int64)) (p241 : (Int64 × Int32 × Int32 × Int32 × Int32 × Int32 × Int32 × Int32)) (y218 : Int32) (y219 : Int32) (y220 : Int32) (y221 : Int32) (y222 : Int32) (y223 : Int32) (y224 : Int32) (lx259 : Int32) : Int32 × Int32 × Int32 × Int32 × Int32 × Int32 × Int32 × Int32 × Int32 × Int32 × Int32 × (Nat → Int32) × (Nat → Int32) × (Nat → Int64) × (Nat → Int64) := if lx259 ≤ (0 : Int32) then (F_NM_numeral_c52 x2 x3 t0_0 t0_1 t0_2 t1_0 t1_1 t1_2 t1_3 t1_4 t1_5 t1_6 t2_0 t3_0 t4_0 t4_1 t4_2 t4_3 t4_4 t4_5 t4_6 t4_7 t4_8 t4_9 t4_10 t5_0 t6_0 t7_0 t8_0 t9_0 t9_1 t9_2 t9_3 t9_4 t9_5 t9_6 t9_7 t9_8 t9_9 t9_10 t9_11 t9_12 t9_13 t9_14 t9_15 t9_16 t9_17 t9_18 t9_19 t9_20 t9_21 t10_0 t11_0 t12_0 t13_0 p241 y218 y219 y220 y221 y222 y223 y224 lx259 ((F_WR_told x3 (0 : Int32) y218 y219 y220 y221 y222 y223 y224 t2_0 t3_0) : (Int64 × Int32 × Int32 × Int32 × Int32 × Int32 × Int32 × Int32))) else (((0 : Int32), lx259, y218, y219, y220, y221, y222, y223, y224, t9_0, t9_2, t10_0, t11_0, t12_0, t13_0))
def F_NM_numeral_c11 (x2 : Int32) (x3 : Int32) (t0_0 : Int32) (t0_1 : Int32) (t0_2 : Int32) (t1_0 : Int32) (t1_1 : Int32) (t1_2 : Int32) (t1_3 : Int32) (t1_4 : Int32) (t1_5 : Int32) (t1_6 : Int32) (t2_0 : (Nat → Int32)) (t3_0 : (Nat → Int32)) (t4_0 : Int32) (t4_1 : Int32) (t4_2 : Int32) (t4_3 : Int64) (t4_4 : Int32) (t4_5 : Int32) (t4_6 : Int32) (t4_7 : Int32) (t4_8 : Int32) (t4_9 : Int32) (t4_10 : Int32) (t5_0 : (Nat → Int32)) (t6_0 : (Nat → Int32)) (t7_0 : (Nat → Int32)) (t8_0 : (Nat → Int32)) (t9_0 : Int32) (t9_1 : Int32) (t9_2 : Int32) (t9_3 : Int32) (t9_4 : Int32) (t9_5 : Int32) (t9_6 : Int32) (t9_7 : Int32) (t9_8 : Int32) (t9_9 : Int32) (t9_10 : Int32) (t9_11 : Int32) (t9_12 : Int32) (t9_13 : Int32) (t9_14 : Int32) (t9_15 : Int32) (t9_16 : Int32) (t9_17 : Int32) (t9_18 : Int32) (t9_19 : Int32) (t9_20 : Int32) (t9_21 : Int32) (t10_0 : (Nat → Int32)) (t11_0 : (Nat → Int32)) (t12_0 : (Nat → Int64)) (t13_0 : (Nat → Int64)) (p241 : (Int64 × Int32 × Int32 × Int32 × Int32 × Int32 × Int32 × Int32)) : Int32 × Int32 × Int32 × Int32 × Int32 × Int32 × Int32 × Int32 × Int32 × Int32 × Int32 × (Nat → Int32) × (Nat → Int32) × (Nat → Int64) × (Nat → Int64) := if (lg_cmp (p241.1 : Int64) 63 : Int32) ≤ (0 : Int32) then (F_NM_numeral_J26 x2 x3 t0_0 t0_1 t0_2 t1_0 t1_1 t1_2 t1_3 t1_4 t1_5 t1_6 t2_0 t3_0 t4_0 t4_1 t4_2 t4_3 t4_4 t4_5 t4_6 t4_7 t4_8 t4_9 t4_10 t5_0 t6_0 t7_0 t8_0 t9_0 t9_1 t9_2 t9_3 t9_4 t9_5 t9_6 t9_7 t9_8 t9_9 t9_10 t9_11 t9_12 t9_13 t9_14 t9_15 t9_16 t9_17 t9_18 t9_19 t9_20 t9_21 t10_0 t11_0 t12_0 t13_0 p241 (p241.2.1 : Int32) (p241.2.2.1 : Int32) (p241.2.2.2.1 : Int32) (p241.2.2.2.2.1 : Int32) (p241.2.2.2.2.2.1 : Int32) (p241.2.2.2.2.2.2.1 : Int32) (p241.2.2.2.2.2.2.2 : Int32) 0) else (F_NM_numeral_J26 x2 x3 t0_0 t0_1 t0_2 t1_0 t1_1 t1_2 t1_3 t1_4 t1_5 t1_6 t2_0 t3_0 t4_0 t4_1 t4_2 t4_3 t4_4 t4_5 t4_6 t4_7 t4_8 t4_9 t4_10 t5_0 t6_0 t7_0 t8_0 t9_0 t9_1 t9_2 t9_3 t9_4 t9_5 t9_6 t9_7 t9_8 t9_9 t9_10 t9_11 t9_12 t9_13 t9_14 t9_15 t9_16 t9_17 t9_18 t9_19 t9_20 t9_21 t10_0 t11_0 t12_0 t13_0 p241 (p241.2.1 : Int32) (p241.2.2.1 : Int32) (p241.2.2.2.1 : Int32) (p241.2.2.2.2.1 : Int32) (p241.2.2.2.2.2.1 : Int32) (p241.2.2.2.2.2.2.1 : Int32) (p241.2.2.2.2.2.2.2 : Int32) 2)
def F_NM_numeral (x2 : Int32) (x3 : Int32) (t0_0 : Int32) (t0_1 : Int32) (t0_2 : Int32) (t1_0 : Int32) (t1_1 : Int32) (t1_2 : Int32) (t1_3 : Int32) (t1_4 : Int32) (t1_5 : Int32) (t1_6 : Int32) (t2_0 : (Nat → Int32)) (t3_0 : (Nat → Int32)) (t4_0 : Int32) (t4_1 : Int32) (t4_2 : Int32) (t4_3 : Int64) (t4_4 : Int32) (t4_5 : Int32) (t4_6 : Int32) (t4_7 : Int32) (t4_8 : Int32) (t4_9 : Int32) (t4_10 : Int32) (t5_0 : (Nat → Int32)) (t6_0 : (Nat → Int32)) (t7_0 : (Nat → Int32)) (t8_0 : (Nat → Int32)) (t9_0 : Int32) (t9_1 : Int32) (t9_2 : Int32) (t9_3 : Int32) (t9_4 : Int32) (t9_5 : Int32) (t9_6 : Int32) (t9_7 : Int32) (t9_8 : Int32) (t9_9 : Int32) (t9_10 : Int32) (t9_11 : Int32) (t9_12 : Int32) (t9_13 : Int32) (t9_14 : Int32) (t9_15 : Int32) (t9_16 : Int32) (t9_17 : Int32) (t9_18 : Int32) (t9_19 : Int32) (t9_20 : Int32) (t9_21 : Int32) (t10_0 : (Nat → Int32)) (t11_0 : (Nat → Int32)) (t12_0 : (Nat → Int64)) (t13_0 : (Nat → Int64)) : Int32 × Int32 × Int32 × Int32 × Int32 × Int32 × Int32 × Int32 × Int32 × Int32 × Int32 × (Nat → Int32) × (Nat → Int32) × (Nat → Int64) × (Nat → Int64) := if x2 = (0 : Int32) then (F_NM_numeral_c11 x2 x3 t0_0 t0_1 t0_2 t1_0 t1_1 t1_2 t1_3 t1_4 t1_5 t1_6 t2_0 t3_0 t4_0 t4_1 t4_2 t4_3 t4_4 t4_5 t4_6 t4_7 t4_8 t4_9 t4_10 t5_0 t6_0 t7_0 t8_0 t9_0 t9_1 t9_2 t9_3 t9_4 t9_5 t9_6 t9_7 t9_8 t9_9 t9_10 t9_11 t9_12 t9_13 t9_14 t9_15 t9_16 t9_17 t9_18 t9_19 t9_20 t9_21 t10_0 t11_0 t12_0 t13_0 ((F_WR_told x3 (2 : Int32) t1_0 t1_1 t1_2 t1_3 t1_4 t1_5 t1_6 t2_0 t3_0) : (Int64 × Int32 × Int32 × Int32 × Int32 × Int32 × Int32 × Int32))) else (F_NM_numeral_c76 x2 x3 t0_0 t0_1 t0_2 t1_0 t1_1 t1_2 t1_3 t1_4 t1_5 t1_6 t2_0 t3_0 t4_0 t4_1 t4_2 t4_3 t4_4 t4_5 t4_6 t4_7 t4_8 t4_9 t4_10 t5_0 t6_0 t7_0 t8_0 t9_0 t9_1 t9_2 t9_3 t9_4 t9_5 t9_6 t9_7 t9_8 t9_9 t9_10 t9_11 t9_12 t9_13 t9_14 t9_15 t9_16 t9_17 t9_18 t9_19 t9_20 t9_21 t10_0 t11_0 t12_0 t13_0 (t8_0 x3.toNatClampNeg : Int32) ((F_NM_isLong x3 t0_0 t0_1 t0_2 t4_0 t4_1 t4_2 t4_3 t4_4 t4_5 t4_6 t4_7 t4_8 t4_9 t4_10 t5_0 t6_0 t7_0 t13_0) : (Int32 × (Nat → Int64))))
def S_NM_numeral_c122 (x2 : Int32) (x3 : Int32) (t0_0 : Int32) (t0_1 : Int32) (t0_2 : Int32) (t1_0 : Int32) (t1_1 : Int32) (t1_2 : Int32) (t1_3 : Int32) (t1_4 : Int32) (t1_5 : Int32) (t1_6 : Int32) (t2_0 : (Nat → Int32)) (t3_0 : (Nat → Int32)) (t4_0 : Int32) (t4_1 : Int32) (t4_2 : Int32) (t4_3 : Int64) (t4_4 : Int32) (t4_5 : Int32) (t4_6 : Int32) (t4_7 : Int32) (t4_8 : Int32) (t4_9 : Int32) (t4_10 : Int32) (t5_0 : (Nat → Int32)) (t6_0 : (Nat → Int32)) (t7_0 : (Nat → Int32)) (t8_0 : (Nat → Int32)) (t9_0 : Int32) (t9_1 : Int32) (t9_2 : Int32) (t9_3 : Int32) (t9_4 : Int32) (t9_5 : Int32) (t9_6 : Int32) (t9_7 : Int32) (t9_8 : Int32) (t9_9 : Int32) (t9_10 : Int32) (t9_11 : Int32) (t9_12 : Int32) (t9_13 : Int32) (t9_14 : Int32) (t9_15 : Int32) (t9_16 : Int32) (t9_17 : Int32) (t9_18 : Int32) (t9_19 : Int32) (t9_20 : Int32) (t9_21 : Int32) (t10_0 : (Nat → Int32)) (t11_0 : (Nat → Int32)) (t12_0 : (Nat → Int64)) (t13_0 : (Nat → Int64)) (a96 : Int32) (p110 : (Int32 × (Nat → Int64))) (f102 : (Nat → Int64)) (lx119 : Int32) (p169 : (Int32 × Int32 × Int32 × (Nat → Int32) × (Nat → Int32) × (Nat → Int64))) : Prop := True
def S_NM_numeral_J97 (x2 : Int32) (x3 : Int32) (t0_0 : Int32) (t0_1 : Int32) (t0_2 : Int32) (t1_0 : Int32) (t1_1 : Int32) (t1_2 : Int32) (t1_3 : Int32) (t1_4 : Int32) (t1_5 : Int32) (t1_6 : Int32) (t2_0 : (Nat → Int32)) (t3_0 : (Nat → Int32)) (t4_0 : Int32) (t4_1 : Int32) (t4_2 : Int32) (t4_3 : Int64) (t4_4 : Int32) (t4_5 : Int32) (t4_6 : Int32) (t4_7 : Int32) (t4_8 : Int32) (t4_9 : Int32) (t4_10 : Int32) (t5_0 : (Nat → Int32)) (t6_0 : (Nat → Int32)) (t7_0 : (Nat → Int32)) (t8_0 : (Nat → Int32)) (t9_0 : Int32) (t9_1 : Int32) (t9_2 : Int32) (t9_3 : Int32) (t9_4 : Int32) (t9_5 : Int32) (t9_6 : Int32) (t9_7 : Int32) (t9_8 : Int32) (t9_9 : Int32) (t9_10 : Int32) (t9_11 : Int32) (t9_12 : Int32) (t9_13 : Int32) (t9_14 : Int32) (t9_15 : Int32) (t9_16 : Int32) (t9_17 : Int32) (t9_18 : Int32) (t9_19 : Int32) (t9_20 : Int32) (t9_21 : Int32) (t10_0 : (Nat → Int32)) (t11_0 : (Nat → Int32)) (t12_0 : (Nat → Int64)) (t13_0 : (Nat → Int64)) (a96 : Int32) (p110 : (Int32 × (Nat → Int64))) (f102 : (Nat → Int64)) (lx119 : Int32) : Prop := if lx119 ≤ (0 : Int32) then (S_NM_numeral_c122 x2 x3 t0_0 t0_1 t0_2 t1_0 t1_1 t1_2 t1_3 t1_4 t1_5 t1_6 t2_0 t3_0 t4_0 t4_1 t4_2 t4_3 t4_4 t4_5 t4_6 t4_7 t4_8 t4_9 t4_10 t5_0 t6_0 t7_0 t8_0 t9_0 t9_1 t9_2 t9_3 t9_4 t9_5 t9_6 t9_7 t9_8 t9_9 t9_10 t9_11 t9_12 t9_13 t9_14 t9_15 t9_16 t9_17 t9_18 t9_19 t9_20 t9_21 t10_0 t11_0 t12_0 t13_0 a96 p110 f102 lx119 ((F_VR_decimal_JII (f102 (0 : Int32).toNatClampNeg : Int64) a96 t9_0 t9_1 t9_2 t9_3 t9_4 t9_5 t9_6 t9_7 t9_8 t9_9 t9_10 t9_11 t9_12 t9_13 t9_14 t9_15 t9_16 t9_17 t9_18 t9_19 t9_20 t9_21 t10_0 t11_0 t12_0) : (Int32 × Int32 × Int32 × (Nat → Int32) × (Nat → Int32) × (Nat → Int64)))) else (True)
def S_NM_numeral_J92 (x2 : Int32) (x3 : Int32) (t0_0 : Int32) (t0_1 : Int32) (t0_2 : Int32) (t1_0 : Int32) (t1_1 : Int32) (t1_2 : Int32) (t1_3 : Int32) (t1_4 : Int32) (t1_5 : Int32) (t1_6 : Int32) (t2_0 : (Nat → Int32)) (t3_0 : (Nat → Int32)) (t4_0 : Int32) (t4_1 : Int32) (t4_2 : Int32) (t4_3 : Int64) (t4_4 : Int32) (t4_5 : Int32) (t4_6 : Int32) (t4_7 : Int32) (t4_8 : Int32) (t4_9 : Int32) (t4_10 : Int32) (t5_0 : (Nat → Int32)) (t6_0 : (Nat → Int32)) (t7_0 : (Nat → Int32)) (t8_0 : (Nat → Int32)) (t9_0 : Int32) (t9_1 : Int32) (t9_2 : Int32) (t9_3 : Int32) (t9_4 : Int32) (t9_5 : Int32) (t9_6 : Int32) (t9_7 : Int32) (t9_8 : Int32) (t9_9 : Int32) (t9_10 : Int32) (t9_11 : Int32) (t9_12 : Int32) (t9_13 : Int32) (t9_14 : Int32) (t9_15 : Int32) (t9_16 : Int32) (t9_17 : Int32) (t9_18 : Int32) (t9_19 : Int32) (t9_20 : Int32) (t9_21 : Int32) (t10_0 : (Nat → Int32)) (t11_0 : (Nat → Int32)) (t12_0 : (Nat → Int64)) (t13_0 : (Nat → Int64)) (a96 : Int32) (p110 : (Int32 × (Nat → Int64))) (f102 : (Nat → Int64)) : Prop := S_NM_numeral_J97 x2 x3 t0_0 t0_1 t0_2 t1_0 t1_1 t1_2 t1_3 t1_4 t1_5 t1_6 t2_0 t3_0 t4_0 t4_1 t4_2 t4_3 t4_4 t4_5 t4_6 t4_7 t4_8 t4_9 t4_10 t5_0 t6_0 t7_0 t8_0 t9_0 t9_1 t9_2 t9_3 t9_4 t9_5 t9_6 t9_7 t9_8 t9_9 t9_10 t9_11 t9_12 t9_13 t9_14 t9_15 t9_16 t9_17 t9_18 t9_19 t9_20 t9_21 t10_0 t11_0 t12_0 t13_0 a96 p110 f102 2
def S_NM_numeral_c76 (x2 : Int32) (x3 : Int32) (t0_0 : Int32) (t0_1 : Int32) (t0_2 : Int32) (t1_0 : Int32) (t1_1 : Int32) (t1_2 : Int32) (t1_3 : Int32) (t1_4 : Int32) (t1_5 : Int32) (t1_6 : Int32) (t2_0 : (Nat → Int32)) (t3_0 : (Nat → Int32)) (t4_0 : Int32) (t4_1 : Int32) (t4_2 : Int32) (t4_3 : Int64) (t4_4 : Int32) (t4_5 : Int32) (t4_6 : Int32) (t4_7 : Int32) (t4_8 : Int32) (t4_9 : Int32) (t4_10 : Int32) (t5_0 : (Nat → Int32)) (t6_0 : (Nat → Int32)) (t7_0 : (Nat → Int32)) (t8_0 : (Nat → Int32)) (t9_0 : Int32) (t9_1 : Int32) (t9_2 : Int32) (t9_3 : Int32) (t9_4 : Int32) (t9_5 : Int32) (t9_6 : Int32) (t9_7 : Int32) (t9_8 : Int32) (t9_9 : Int32) (t9_10 : Int32) (t9_11 : Int32) (t9_12 : Int32) (t9_13 : Int32) (t9_14 : Int32) (t9_15 : Int32) (t9_16 : Int32) (t9_17 : Int32) (t9_18 : Int32) (t9_19 : Int32) (t9_20 : Int32) (t9_21 : Int32) (t10_0 : (Nat → Int32)) (t11_0 : (Nat → Int32)) (t12_0 : (Nat → Int64)) (t13_0 : (Nat → Int64)) (a96 : Int32) (p110 : (Int32 × (Nat → Int64))) : Prop := if (p110.1 : Int32) = (0 : Int32) then (S_NM_numeral_J92 x2 x3 t0_0 t0_1 t0_2 t1_0 t1_1 t1_2 t1_3 t1_4 t1_5 t1_6 t2_0 t3_0 t4_0 t4_1 t4_2 t4_3 t4_4 t4_5 t4_6 t4_7 t4_8 t4_9 t4_10 t5_0 t6_0 t7_0 t8_0 t9_0 t9_1 t9_2 t9_3 t9_4 t9_5 t9_6 t9_7 t9_8 t9_9 t9_10 t9_11 t9_12 t9_13 t9_14 t9_15 t9_16 t9_17 t9_18 t9_19 t9_20 t9_21 t10_0 t11_0 t12_0 t13_0 a96 p110 (p110.2 : (Nat → Int64))) else (if a96 < (0 : Int32) then (S_NM_numeral_J92 x2 x3 t0_0 t0_1 t0_2 t1_0 t1_1 t1_2 t1_3 t1_4 t1_5 t1_6 t2_0 t3_0 t4_0 t4_1 t4_2 t4_3 t4_4 t4_5 t4_6 t4_7 t4_8 t4_9 t4_10 t5_0 t6_0 t7_0 t8_0 t9_0 t9_1 t9_2 t9_3 t9_4 t9_5 t9_6 t9_7 t9_8 t9_9 t9_10 t9_11 t9_12 t9_13 t9_14 t9_15 t9_16 t9_17 t9_18 t9_19 t9_20 t9_21 t10_0 t11_0 t12_0 t13_0 a96 p110 (p110.2 : (Nat → Int64))) else (if a96 ≤ (40 : Int32) then (S_NM_numeral_J97 x2 x3 t0_0 t0_1 t0_2 t1_0 t1_1 t1_2 t1_3 t1_4 t1_5 t1_6 t2_0 t3_0 t4_0 t4_1 t4_2 t4_3 t4_4 t4_5 t4_6 t4_7 t4_8 t4_9 t4_10 t5_0 t6_0 t7_0 t8_0 t9_0 t9_1 t9_2 t9_3 t9_4 t9_5 t9_6 t9_7 t9_8 t9_9 t9_10 t9_11 t9_12 t9_13 t9_14 t9_15 t9_16 t9_17 t9_18 t9_19 t9_20 t9_21 t10_0 t11_0 t12_0 t13_0 a96 p110 (p110.2 : (Nat → Int64)) 0) else (S_NM_numeral_J92 x2 x3 t0_0 t0_1 t0_2 t1_0 t1_1 t1_2 t1_3 t1_4 t1_5 t1_6 t2_0 t3_0 t4_0 t4_1 t4_2 t4_3 t4_4 t4_5 t4_6 t4_7 t4_8 t4_9 t4_10 t5_0 t6_0 t7_0 t8_0 t9_0 t9_1 t9_2 t9_3 t9_4 t9_5 t9_6 t9_7 t9_8 t9_9 t9_10 t9_11 t9_12 t9_13 t9_14 t9_15 t9_16 t9_17 t9_18 t9_19 t9_20 t9_21 t10_0 t11_0 t12_0 t13_0 a96 p110 (p110.2 : (Nat → Int64)))))
def S_NM_numeral_c55 (x2 : Int32) (x3 : Int32) (t0_0 : Int32) (t0_1 : Int32) (t0_2 : Int32) (t1_0 : Int32) (t1_1 : Int32) (t1_2 : Int32) (t1_3 : Int32) (t1_4 : Int32) (t1_5 : Int32) (t1_6 : Int32) (t2_0 : (Nat → Int32)) (t3_0 : (Nat → Int32)) (t4_0 : Int32) (t4_1 : Int32) (t4_2 : Int32) (t4_3 : Int64) (t4_4 : Int32) (t4_5 : Int32) (t4_6 : Int32) (t4_7 : Int32) (t4_8 : Int32) (t4_9 : Int32) (t4_10 : Int32) (t5_0 : (Nat → Int32)) (t6_0 : (Nat → Int32)) (t7_0 : (Nat → Int32)) (t8_0 : (Nat → Int32)) (t9_0 : Int32) (t9_1 : Int32) (t9_2 : Int32) (t9_3 : Int32) (t9_4 : Int32) (t9_5 : Int32) (t9_6 : Int32) (t9_7 : Int32) (t9_8 : Int32) (t9_9 : Int32) (t9_10 : Int32) (t9_11 : Int32) (t9_12 : Int32) (t9_13 : Int32) (t9_14 : Int32) (t9_15 : Int32) (t9_16 : Int32) (t9_17 : Int32) (t9_18 : Int32) (t9_19 : Int32) (t9_20 : Int32) (t9_21 : Int32) (t10_0 : (Nat → Int32)) (t11_0 : (Nat → Int32)) (t12_0 : (Nat → Int64)) (t13_0 : (Nat → Int64)) (p241 : (Int64 × Int32 × Int32 × Int32 × Int32 × Int32 × Int32 × Int32)) (y218 : Int32) (y219 : Int32) (y220 : Int32) (y221 : Int32) (y222 : Int32) (y223 : Int32) (y224 : Int32) (lx259 : Int32) (p314 : (Int64 × Int32 × Int32 × Int32 × Int32 × Int32 × Int32 × Int32)) (y291 : Int32) (y292 : Int32) (y293 : Int32) (y294 : Int32) (y295 : Int32) (y296 : Int32) (y297 : Int32) (p350 : (Int32 × Int32 × Int32 × (Nat → Int32) × (Nat → Int32) × (Nat → Int64))) : Prop := True
def S_NM_numeral_c52 (x2 : Int32) (x3 : Int32) (t0_0 : Int32) (t0_1 : Int32) (t0_2 : Int32) (t1_0 : Int32) (t1_1 : Int32) (t1_2 : Int32) (t1_3 : Int32) (t1_4 : Int32) (t1_5 : Int32) (t1_6 : Int32) (t2_0 : (Nat → Int32)) (t3_0 : (Nat → Int32)) (t4_0 : Int32) (t4_1 : Int32) (t4_2 : Int32) (t4_3 : Int64) (t4_4 : Int32) (t4_5 : Int32) (t4_6 : Int32) (t4_7 : Int32) (t4_8 : Int32) (t4_9 : Int32) (t4_10 : Int32) (t5_0 : (Nat → Int32)) (t6_0 : (Nat → Int32)) (t7_0 : (Nat → Int32)) (t8_0 : (Nat → Int32)) (t9_0 : Int32) (t9_1 : Int32) (t9_2 : Int32) (t9_3 : Int32) (t9_4 : Int32) (t9_5 : Int32) (t9_6 : Int32) (t9_7 : Int32) (t9_8 : Int32) (t9_9 : Int32) (t9_10 : Int32) (t9_11 : Int32) (t9_12 : Int32) (t9_13 : Int32) (t9_14 : Int32) (t9_15 : Int32) (t9_16 : Int32) (t9_17 : Int32) (t9_18 : Int32) (t9_19 : Int32) (t9_20 : Int32) (t9_21 : Int32) (t10_0 : (Nat → Int32)) (t11_0 : (Nat → Int32)) (t12_0 : (Nat → Int64)) (t13_0 : (Nat → Int64)) (p241 : (Int64 × Int32 × Int32 × Int32 × Int32 × Int32 × Int32 × Int32)) (y218 : Int32) (y219 : Int32) (y220 : Int32) (y221 : Int32) (y222 : Int32) (y223 : Int32) (y224 : Int32) (lx259 : Int32) (p314 : (Int64 × Int32 × Int32 × Int32 × Int32 × Int32 × Int32 × Int32)) : Prop := S_NM_numeral_c55 x2 x3 t0_0 t0_1 t0_2 t1_0 t1_1 t1_2 t1_3 t1_4 t1_5 t1_6 t2_0 t3_0 t4_0 t4_1 t4_2 t4_3 t4_4 t4_5 t4_6 t4_7 t4_8 t4_9 t4_10 t5_0 t6_0 t7_0 t8_0 t9_0 t9_1 t9_2 t9_3 t9_4 t9_5 t9_6 t9_7 t9_8 t9_9 t9_10 t9_11 t9_12 t9_13 t9_14 t9_15 t9_16 t9_17 t9_18 t9_19 t9_20 t9_21 t10_0 t11_0 t12_0 t13_0 p241 y218 y219 y220 y221 y222 y223 y224 lx259 p314 (p314.2.1 : Int32) (p314.2.2.1 : Int32) (p314.2.2.2.1 : Int32) (p314.2.2.2.2.1 : Int32) (p314.2.2.2.2.2.1 : Int32) (p314.2.2.2.2.2.2.1 : Int32) (p314.2.2.2.2.2.2.2 : Int32) ((F_VR_whole (64 : Int32) (p314.1 : Int64) t9_0 t9_1 t9_2 t9_3 t9_4 t9_5 t9_6 t9_7 t9_8 t9_9 t9_10 t9_11 t9_12 t9_13 t9_14 t9_15 t9_16 t9_17 t9_18 t9_19 t9_20 t9_21 t10_0 t11_0 t12_0) : (Int32 × Int32 × Int32 × (Nat → Int32) × (Nat → Int32) × (Nat → Int64)))
def S_NM_numeral_J26 (x2 : Int32) (x3 : Int32) (t0_0 : Int32) (t0_1 : Int32) (t0_2 : Int32) (t1_0 : Int32) (t1_1 : Int32) (t1_2 : Int32) (t1_3 : Int32) (t1_4 : Int32) (t1_5 : Int32) (t1_6 : Int32) (t2_0 : (Nat → Int32)) (t3_0 : (Nat → Int32)) (t4_0 : Int32) (t4_1 : Int32) (t4_2 : Int32) (t4_3 : Int64) (t4_4 : Int32) (t4_5 : Int32) (t4_6 : Int32) (t4_7 : Int32) (t4_8 : Int32) (t4_9 : Int32) (t4_10 : Int32) (t5_0 : (Nat → Int32)) (t6_0 : (Nat → Int32)) (t7_0 : (Nat → Int32)) (t8_0 : (Nat → Int32)) (t9_0 : Int32) (t9_1 : Int32) (t9_2 : Int32) (t9_3 : Int32) (t9_4 : Int32) (t9_5 : Int32) (t9_6 : Int32) (t9_7 : Int32) (t9_8 : Int32) (t9_9 : Int32) (t9_10 : Int32) (t9_11 : Int32) (t9_12 : Int32) (t9_13 : Int32) (t9_14 : Int32) (t9_15 : Int32) (t9_16 : Int32) (t9_17 : Int32) (t9_18 : Int32) (t9_19 : Int32) (t9_20 : Int32) (t9_21 : Int32) (t10_0 : (Nat → Int32)) (t11_0 : (Nat → Int32)) (t12_0 : (Nat → Int64)) (t13_0 : (Nat → Int64)) (p241 : (Int64 × Int32 × Int32 × Int32 × Int32 × Int32 × Int32 × Int32)) (y218 : Int32) (y219 : Int32) (y220 : Int32) (y221 : Int32) (y222 : Int32) (y223 : Int32) (y224 : Int32) (lx259 : Int32) : Prop := if lx259 ≤ (0 : Int32) then ((True ∧ S_WR_told x3 (0 : Int32) y218 y219 y220 y221 y222 y223 y224 t2_0 t3_0) ∧ (S_NM_numeral_c52 x2 x3 t0_0 t0_1 t0_2 t1_0 t1_1 t1_2 t1_3 t1_4 t1_5 t1_6 t2_0 t3_0 t4_0 t4_1 t4_2 t4_3 t4_4 t4_5 t4_6 t4_7 t4_8 t4_9 t4_10 t5_0 t6_0 t7_0 t8_0 t9_0 t9_1 t9_2 t9_3 t9_4 t9_5 t9_6 t9_7 t9_8 t9_9 t9_10 t9_11 t9_12 t9_13 t9_14 t9_15 t9_16 t9_17 t9_18 t9_19 t9_20 t9_21 t10_0 t11_0 t12_0 t13_0 p241 y218 y219 y220 y221 y222 y223 y224 lx259 ((F_WR_told x3 (0 : Int32) y218 y219 y220 y221 y222 y223 y224 t2_0 t3_0) : (Int64 × Int32 × Int32 × Int32 × Int32 × Int32 × Int32 × Int32)))) else (True)
def S_NM_numeral_c11 (x2 : Int32) (x3 : Int32) (t0_0 : Int32) (t0_1 : Int32) (t0_2 : Int32) (t1_0 : Int32) (t1_1 : Int32) (t1_2 : Int32) (t1_3 : Int32) (t1_4 : Int32) (t1_5 : Int32) (t1_6 : Int32) (t2_0 : (Nat → Int32)) (t3_0 : (Nat → Int32)) (t4_0 : Int32) (t4_1 : Int32) (t4_2 : Int32) (t4_3 : Int64) (t4_4 : Int32) (t4_5 : Int32) (t4_6 : Int32) (t4_7 : Int32) (t4_8 : Int32) (t4_9 : Int32) (t4_10 : Int32) (t5_0 : (Nat → Int32)) (t6_0 : (Nat → Int32)) (t7_0 : (Nat → Int32)) (t8_0 : (Nat → Int32)) (t9_0 : Int32) (t9_1 : Int32) (t9_2 : Int32) (t9_3 : Int32) (t9_4 : Int32) (t9_5 : Int32) (t9_6 : Int32) (t9_7 : Int32) (t9_8 : Int32) (t9_9 : Int32) (t9_10 : Int32) (t9_11 : Int32) (t9_12 : Int32) (t9_13 : Int32) (t9_14 : Int32) (t9_15 : Int32) (t9_16 : Int32) (t9_17 : Int32) (t9_18 : Int32) (t9_19 : Int32) (t9_20 : Int32) (t9_21 : Int32) (t10_0 : (Nat → Int32)) (t11_0 : (Nat → Int32)) (t12_0 : (Nat → Int64)) (t13_0 : (Nat → Int64)) (p241 : (Int64 × Int32 × Int32 × Int32 × Int32 × Int32 × Int32 × Int32)) : Prop := if (lg_cmp (p241.1 : Int64) 63 : Int32) ≤ (0 : Int32) then (S_NM_numeral_J26 x2 x3 t0_0 t0_1 t0_2 t1_0 t1_1 t1_2 t1_3 t1_4 t1_5 t1_6 t2_0 t3_0 t4_0 t4_1 t4_2 t4_3 t4_4 t4_5 t4_6 t4_7 t4_8 t4_9 t4_10 t5_0 t6_0 t7_0 t8_0 t9_0 t9_1 t9_2 t9_3 t9_4 t9_5 t9_6 t9_7 t9_8 t9_9 t9_10 t9_11 t9_12 t9_13 t9_14 t9_15 t9_16 t9_17 t9_18 t9_19 t9_20 t9_21 t10_0 t11_0 t12_0 t13_0 p241 (p241.2.1 : Int32) (p241.2.2.1 : Int32) (p241.2.2.2.1 : Int32) (p241.2.2.2.2.1 : Int32) (p241.2.2.2.2.2.1 : Int32) (p241.2.2.2.2.2.2.1 : Int32) (p241.2.2.2.2.2.2.2 : Int32) 0) else (S_NM_numeral_J26 x2 x3 t0_0 t0_1 t0_2 t1_0 t1_1 t1_2 t1_3 t1_4 t1_5 t1_6 t2_0 t3_0 t4_0 t4_1 t4_2 t4_3 t4_4 t4_5 t4_6 t4_7 t4_8 t4_9 t4_10 t5_0 t6_0 t7_0 t8_0 t9_0 t9_1 t9_2 t9_3 t9_4 t9_5 t9_6 t9_7 t9_8 t9_9 t9_10 t9_11 t9_12 t9_13 t9_14 t9_15 t9_16 t9_17 t9_18 t9_19 t9_20 t9_21 t10_0 t11_0 t12_0 t13_0 p241 (p241.2.1 : Int32) (p241.2.2.1 : Int32) (p241.2.2.2.1 : Int32) (p241.2.2.2.2.1 : Int32) (p241.2.2.2.2.2.1 : Int32) (p241.2.2.2.2.2.2.1 : Int32) (p241.2.2.2.2.2.2.2 : Int32) 2)
def S_NM_numeral (x2 : Int32) (x3 : Int32) (t0_0 : Int32) (t0_1 : Int32) (t0_2 : Int32) (t1_0 : Int32) (t1_1 : Int32) (t1_2 : Int32) (t1_3 : Int32) (t1_4 : Int32) (t1_5 : Int32) (t1_6 : Int32) (t2_0 : (Nat → Int32)) (t3_0 : (Nat → Int32)) (t4_0 : Int32) (t4_1 : Int32) (t4_2 : Int32) (t4_3 : Int64) (t4_4 : Int32) (t4_5 : Int32) (t4_6 : Int32) (t4_7 : Int32) (t4_8 : Int32) (t4_9 : Int32) (t4_10 : Int32) (t5_0 : (Nat → Int32)) (t6_0 : (Nat → Int32)) (t7_0 : (Nat → Int32)) (t8_0 : (Nat → Int32)) (t9_0 : Int32) (t9_1 : Int32) (t9_2 : Int32) (t9_3 : Int32) (t9_4 : Int32) (t9_5 : Int32) (t9_6 : Int32) (t9_7 : Int32) (t9_8 : Int32) (t9_9 : Int32) (t9_10 : Int32) (t9_11 : Int32) (t9_12 : Int32) (t9_13 : Int32) (t9_14 : Int32) (t9_15 : Int32) (t9_16 : Int32) (t9_17 : Int32) (t9_18 : Int32) (t9_19 : Int32) (t9_20 : Int32) (t9_21 : Int32) (t10_0 : (Nat → Int32)) (t11_0 : (Nat → Int32)) (t12_0 : (Nat → Int64)) (t13_0 : (Nat → Int64)) : Prop := if x2 = (0 : Int32) then ((True ∧ S_WR_told x3 (2 : Int32) t1_0 t1_1 t1_2 t1_3 t1_4 t1_5 t1_6 t2_0 t3_0) ∧ (S_NM_numeral_c11 x2 x3 t0_0 t0_1 t0_2 t1_0 t1_1 t1_2 t1_3 t1_4 t1_5 t1_6 t2_0 t3_0 t4_0 t4_1 t4_2 t4_3 t4_4 t4_5 t4_6 t4_7 t4_8 t4_9 t4_10 t5_0 t6_0 t7_0 t8_0 t9_0 t9_1 t9_2 t9_3 t9_4 t9_5 t9_6 t9_7 t9_8 t9_9 t9_10 t9_11 t9_12 t9_13 t9_14 t9_15 t9_16 t9_17 t9_18 t9_19 t9_20 t9_21 t10_0 t11_0 t12_0 t13_0 ((F_WR_told x3 (2 : Int32) t1_0 t1_1 t1_2 t1_3 t1_4 t1_5 t1_6 t2_0 t3_0) : (Int64 × Int32 × Int32 × Int32 × Int32 × Int32 × Int32 × Int32)))) else ((0 ≤ x3.toInt) ∧ ((x3.toInt ≤ 9) ∧ ((True ∧ S_NM_isLong x3 t0_0 t0_1 t0_2 t4_0 t4_1 t4_2 t4_3 t4_4 t4_5 t4_6 t4_7 t4_8 t4_9 t4_10 t5_0 t6_0 t7_0 t13_0) ∧ (S_NM_numeral_c76 x2 x3 t0_0 t0_1 t0_2 t1_0 t1_1 t1_2 t1_3 t1_4 t1_5 t1_6 t2_0 t3_0 t4_0 t4_1 t4_2 t4_3 t4_4 t4_5 t4_6 t4_7 t4_8 t4_9 t4_10 t5_0 t6_0 t7_0 t8_0 t9_0 t9_1 t9_2 t9_3 t9_4 t9_5 t9_6 t9_7 t9_8 t9_9 t9_10 t9_11 t9_12 t9_13 t9_14 t9_15 t9_16 t9_17 t9_18 t9_19 t9_20 t9_21 t10_0 t11_0 t12_0 t13_0 (t8_0 x3.toNatClampNeg : Int32) ((F_NM_isLong x3 t0_0 t0_1 t0_2 t4_0 t4_1 t4_2 t4_3 t4_4 t4_5 t4_6 t4_7 t4_8 t4_9 t4_10 t5_0 t6_0 t7_0 t13_0) : (Int32 × (Nat → Int64)))))))
set_option maxRecDepth 100000 in
set_option maxHeartbeats 4000000 in
theorem X_NM_numeral (l : Launch) (D : va_G) (g : Nat → ClassId) (q : Nat → Nat) (ws : va_W) (x2 : Int32) (x3 : Int32) (hI : q_I (msh g q) q ws) (t0_0 : Int32) (t0_1 : Int32) (t0_2 : Int32) (hT0 : ws[116]? = (some (q 116, .inr (12, [.int t0_0, .ref (q 117), .int t0_1, .ref (q 118), .int t0_2, .ref (q 119), .ref (q 134), .ref (q 145), .ref (q 153), .ref (q 157), .ref (q 167), .ref (q 168)])) : Option (Nat × va_E))) (t1_0 : Int32) (t1_1 : Int32) (t1_2 : Int32) (t1_3 : Int32) (t1_4 : Int32) (t1_5 : Int32) (t1_6 : Int32) (hT1 : ws[119]? = (some (q 119, .inr (13, [.int t1_0, .int t1_1, .ref (q 120), .int t1_2, .ref (q 121), .ref (q 122), .ref (q 123), .int t1_3, .ref (q 124), .ref (q 125), .ref (q 126), .ref (q 127), .ref (q 128), .ref (q 129), .ref (q 130), .ref (q 131), .int t1_4, .int t1_5, .ref (q 132), .ref (q 133), .int t1_6])) : Option (Nat × va_E))) (t2_0 : (Nat → Int32)) (hT2 : ws[121]? = (some (q 121, .inl (g 0, (1408 : Int32).toNatClampNeg, .inl t2_0)) : Option (Nat × va_E))) (t3_0 : (Nat → Int32)) (hT3 : ws[122]? = (some (q 122, .inl (g 3, 11, .inl t3_0)) : Option (Nat × va_E))) (t4_0 : Int32) (t4_1 : Int32) (t4_2 : Int32) (t4_3 : Int64) (t4_4 : Int32) (t4_5 : Int32) (t4_6 : Int32) (t4_7 : Int32) (t4_8 : Int32) (t4_9 : Int32) (t4_10 : Int32) (hT4 : ws[134]? = (some (q 134, .inr (14, [.int t4_0, .ref (q 135), .int t4_1, .ref (q 136), .ref (q 137), .ref (q 138), .ref (q 139), .ref (q 140), .int t4_2, .long t4_3, .int t4_4, .int t4_5, .ref (q 141), .int t4_6, .ref (q 142), .int t4_7, .ref (q 143), .int t4_8, .ref (q 144), .int t4_9, .int t4_10])) : Option (Nat × va_E))) (t5_0 : (Nat → Int32)) (hT5 : ws[136]? = (some (q 136, .inl (g 0, (10000 : Int32).toNatClampNeg, .inl t5_0)) : Option (Nat × va_E))) (t6_0 : (Nat → Int32)) (hT6 : ws[137]? = (some (q 137, .inl (g 0, (10 : Int32).toNatClampNeg, .inl t6_0)) : Option (Nat × va_E))) (t7_0 : (Nat → Int32)) (hT7 : ws[138]? = (some (q 138, .inl (g 3, 10, .inl t7_0)) : Option (Nat × va_E))) (t8_0 : (Nat → Int32)) (hT8 : ws[139]? = (some (q 139, .inl (g 0, (10 : Int32).toNatClampNeg, .inl t8_0)) : Option (Nat × va_E))) (t9_0 : Int32) (t9_1 : Int32) (t9_2 : Int32) (t9_3 : Int32) (t9_4 : Int32) (t9_5 : Int32) (t9_6 : Int32) (t9_7 : Int32) (t9_8 : Int32) (t9_9 : Int32) (t9_10 : Int32) (t9_11 : Int32) (t9_12 : Int32) (t9_13 : Int32) (t9_14 : Int32) (t9_15 : Int32) (t9_16 : Int32) (t9_17 : Int32) (t9_18 : Int32) (t9_19 : Int32) (t9_20 : Int32) (t9_21 : Int32) (hT9 : ws[157]? = (some (q 157, .inr (17, [.int t9_0, .ref (q 158), .int t9_1, .int t9_2, .ref (q 159), .ref (q 160), .ref (q 161), .ref (q 162), .ref (q 163), .int t9_3, .ref (q 164), .int t9_4, .int t9_5, .int t9_6, .int t9_7, .int t9_8, .int t9_9, .int t9_10, .int t9_11, .int t9_12, .int t9_13, .int t9_14, .int t9_15, .int t9_16, .ref (q 165), .int t9_17, .int t9_18, .int t9_19, .ref (q 166), .int t9_20, .int t9_21])) : Option (Nat × va_E))) (t10_0 : (Nat → Int32)) (hT10 : ws[159]? = (some (q 159, .inl (g 0, (9 : Int32).toNatClampNeg, .inl t10_0)) : Option (Nat × va_E))) (t11_0 : (Nat → Int32)) (hT11 : ws[160]? = (some (q 160, .inl (g 0, (9 : Int32).toNatClampNeg, .inl t11_0)) : Option (Nat × va_E))) (t12_0 : (Nat → Int64)) (hT12 : ws[161]? = (some (q 161, .inl (g 1, 9, .inr (.inl t12_0))) : Option (Nat × va_E))) (t13_0 : (Nat → Int64)) (hT13 : ws[168]? = (some (q 168, .inl (g 1, 1, .inr (.inl t13_0))) : Option (Nat × va_E))) (hS : True ∧ S_NM_numeral x2 x3 t0_0 t0_1 t0_2 t1_0 t1_1 t1_2 t1_3 t1_4 t1_5 t1_6 t2_0 t3_0 t4_0 t4_1 t4_2 t4_3 t4_4 t4_5 t4_6 t4_7 t4_8 t4_9 t4_10 t5_0 t6_0 t7_0 t8_0 t9_0 t9_1 t9_2 t9_3 t9_4 t9_5 t9_6 t9_7 t9_8 t9_9 t9_10 t9_11 t9_12 t9_13 t9_14 t9_15 t9_16 t9_17 t9_18 t9_19 t9_20 t9_21 t10_0 t11_0 t12_0 t13_0) : q_mI l y_NM_numeral prog_14_method_36_code 4 (.int) 3 0 0 D g [.ref (q 116), .int x2, .int x3] ws (fun r u => q_I (msh g q) q u ∧ q_un ws u [116, 119, 157, 159, 160, 161, 168] ∧ ∃ (u0_0 : Int32) (u1_0 : Int32) (u1_1 : Int32) (u1_2 : Int32) (u1_3 : Int32) (u1_4 : Int32) (u1_5 : Int32) (u1_6 : Int32) (u9_0 : Int32) (u9_2 : Int32) (u10_0 : (Nat → Int32)) (u11_0 : (Nat → Int32)) (u12_0 : (Nat → Int64)) (u13_0 : (Nat → Int64)), u[116]? = (some (q 116, .inr (12, [.int u0_0, .ref (q 117), .int t0_1, .ref (q 118), .int t0_2, .ref (q 119), .ref (q 134), .ref (q 145), .ref (q 153), .ref (q 157), .ref (q 167), .ref (q 168)])) : Option (Nat × va_E)) ∧ u[119]? = (some (q 119, .inr (13, [.int u1_0, .int u1_1, .ref (q 120), .int u1_2, .ref (q 121), .ref (q 122), .ref (q 123), .int u1_3, .ref (q 124), .ref (q 125), .ref (q 126), .ref (q 127), .ref (q 128), .ref (q 129), .ref (q 130), .ref (q 131), .int u1_4, .int u1_5, .ref (q 132), .ref (q 133), .int u1_6])) : Option (Nat × va_E)) ∧ u[157]? = (some (q 157, .inr (17, [.int u9_0, .ref (q 158), .int t9_1, .int u9_2, .ref (q 159), .ref (q 160), .ref (q 161), .ref (q 162), .ref (q 163), .int t9_3, .ref (q 164), .int t9_4, .int t9_5, .int t9_6, .int t9_7, .int t9_8, .int t9_9, .int t9_10, .int t9_11, .int t9_12, .int t9_13, .int t9_14, .int t9_15, .int t9_16, .ref (q 165), .int t9_17, .int t9_18, .int t9_19, .ref (q 166), .int t9_20, .int t9_21])) : Option (Nat × va_E)) ∧ u[159]? = (some (q 159, .inl (g 0, (9 : Int32).toNatClampNeg, .inl u10_0)) : Option (Nat × va_E)) ∧ u[160]? = (some (q 160, .inl (g 0, (9 : Int32).toNatClampNeg, .inl u11_0)) : Option (Nat × va_E)) ∧ u[161]? = (some (q 161, .inl (g 1, 9, .inr (.inl u12_0))) : Option (Nat × va_E)) ∧ u[168]? = (some (q 168, .inl (g 1, 1, .inr (.inl u13_0))) : Option (Nat × va_E)) ∧ (0 ≤ r.toInt + 1) ∧ (0 ≤ u0_0.toInt) ∧ (u0_0.toInt ≤ 2) ∧ (u9_2.toInt ≤ 9) ∧ (t1_1.toInt ≤ u1_1.toInt) ∧ (u1_1.toInt ≤ t1_1.toInt) ∧ (t1_2.toInt ≤ u1_2.toInt) ∧ (u1_2.toInt ≤ t1_2.toInt) ∧ (t1_3.toInt ≤ u1_3.toInt) ∧ (u1_3.toInt ≤ t1_3.toInt) ∧ (t1_4.toInt ≤ u1_4.toInt) ∧ (u1_4.toInt ≤ t1_4.toInt) ∧ (t1_5.toInt ≤ u1_5.toInt) ∧ (u1_5.toInt ≤ t1_5.toInt) ∧ (t1_6.toInt ≤ u1_6.toInt) ∧ (u1_6.toInt ≤ t1_6.toInt) ∧ (t9_2.toInt ≤ u9_2.toInt) ∧ (u9_2.toInt ≤ t9_2.toInt + 1) ∧ (u0_0.toInt ≤ r.toInt + 2) ∧ (r.toInt ≤ u9_2.toInt) ∧ (r, u0_0, u1_0, u1_1, u1_2, u1_3, u1_4, u1_5, u1_6, u9_0, u9_2, u10_0, u11_0, u12_0, u13_0) = (F_NM_numeral x2 x3 t0_0 t0_1 t0_2 t1_0 t1_1 t1_2 t1_3 t1_4 t1_5 t1_6 t2_0 t3_0 t4_0 t4_1 t4_2 t4_3 t4_4 t4_5 t4_6 t4_7 t4_8 t4_9 t4_10 t5_0 t6_0 t7_0 t8_0 t9_0 t9_1 t9_2 t9_3 t9_4 t9_5 t9_6 t9_7 t9_8 t9_9 t9_10 t9_11 t9_12 t9_13 t9_14 t9_15 t9_16 t9_17 t9_18 t9_19 t9_20 t9_21 t10_0 t11_0 t12_0 t13_0)) := by
  intro sz
  refine q_into (by decide) (Nat.le_of_ble_eq_true rfl) ?_
  intro p e s m below meth c ls hsz C0 V hl
  have hx := C0.1
  have hb := C0.2.1
  obtain ⟨btt0_1, btt0_2⟩ := n_w116 hI hT0
  replace btt0_1 : q_F (0 ≤ t0_1.toInt ∧ t0_1.toInt ≤ 4100) := btt0_1
  replace btt0_2 : q_F (0 ≤ t0_2.toInt ∧ t0_2.toInt ≤ 12200) := btt0_2
  have hZ9 := (n_w119 hI hT1).2.2.2
  obtain ⟨-, btt1_6⟩ := hZ9
  clear btt1_6
  have hZ9 := (n_w134 hI hT4).2.2
  obtain ⟨-, btt4_9⟩ := hZ9
  clear btt4_9
  have hZ9 := (n_w157 hI hT9).2
  obtain ⟨btt9_2, hZ9⟩ := hZ9
  replace hZ9 := hZ9.2
  obtain ⟨-, btt9_19⟩ := hZ9
  replace btt9_2 : q_F (0 ≤ t9_2.toInt ∧ t9_2.toInt ≤ 9) := btt9_2
  clear btt9_19
  have hF : q_un ws ws [116, 119, 157, 159, 160, 161, 168] := q_u0
  have hl : lv_has ls 4 [(0, .ref (q 116)), (1, .int x2), (2, .int x3)] := hl
  refine lv_iload_n hx hb d_14_36_0 rfl (lv_at hl 1 rfl) ?_
  refine lv_if_ne (tgt := 59) hx hb d_14_36_1 (by decide) (fun c92 => ?_) (fun c92 => ?_)
  ·
    refine lv_aload_n hx hb d_14_36_59 rfl (lv_at hl 0 rfl) ?_
    refine q_get (ci := 12) (j := 6) (v := .ref (q 134)) C0 V i_NM rfl rfl hT0 (by decide) w_2304 rfl d_14_36_60 ?_
    refine q_getN (ci := 14) (j := 6) (v := .ref (q 139)) C0 V i_DR rfl rfl hT4 (by decide) wo_2009 rfl d_14_36_63 ?_
    refine lv_iload_n hx hb d_14_36_66 rfl (lv_at hl 2 rfl) ?_
    have ob94 : q_F (0 ≤ x3.toInt) := (by have h := hS; rw [S_NM_numeral.eq_1] at h; rw [if_neg c92] at h; exact h.2.1)
    have ob95 : q_F (x3.toInt ≤ 9) := (by have h := hS; rw [S_NM_numeral.eq_1] at h; rw [if_neg c92] at h; replace h := q_s2 h; exact h.2.1)
    refine q_iald C0 V hT8 (q_ix (x := x3.toInt) rfl (by first | with_reducible exact q_fe ob94 | (have t1 : 0 ≤ x3.toInt := ob94; omega)) (by have t1 : 0 ≤ x3.toInt := ob94; have t2 : x3.toInt ≤ 9 := ob95; have e9 : (((10 : Int32).toNatClampNeg : Nat) : Int) = 10 := (by decide); omega)) d_14_36_67 ?_
    obtain ⟨a96, e97⟩ := q_nm (t8_0 x3.toNatClampNeg : Int32)
    refine q_ti (v := a96) e97 ?_
    refine lv_istore_n (lv' := [(3, .int a96), (0, .ref (q 116)), (1, .int x2), (2, .int x3)]) hx hb d_14_36_68 rfl hl (by decide) rfl (fun ls hl => ?_)
    refine lv_aload_n hx hb d_14_36_69 rfl (lv_at hl 1 rfl) ?_
    refine lv_aload_n hx hb d_14_36_70 rfl (lv_at hl 1 rfl) ?_
    refine lv_iload_n hx hb d_14_36_71 rfl (lv_at hl 3 rfl) ?_
    refine lv_aload_n hx hb d_14_36_72 rfl (lv_at hl 1 rfl) ?_
    refine q_get (ci := 12) (j := 11) (v := .ref (q 168)) C0 V i_NM rfl rfl hT0 (by decide) w_2309 rfl d_14_36_73 ?_
    have ob98 : True ∧ S_NM_isLong x3 t0_0 t0_1 t0_2 t4_0 t4_1 t4_2 t4_3 t4_4 t4_5 t4_6 t4_7 t4_8 t4_9 t4_10 t5_0 t6_0 t7_0 t13_0 := (by have h := hS; rw [S_NM_numeral.eq_1] at h; rw [if_neg c92] at h; replace h := q_s2 h; replace h := q_s2 h; with_reducible exact h.2.1)
    refine q_goi V (q_runV (As := [.int x3, .ref (q 168)]) (rest := [.ref (q 116)]) (d := 1) (mc := 0) (ms := 0) (ci := 12) C0 V rfl LV_NM_303 (X_NM_isLong l D g q ws  x3 hI t0_0 t0_1 t0_2 hT0 t4_0 t4_1 t4_2 t4_3 t4_4 t4_5 t4_6 t4_7 t4_8 t4_9 t4_10 hT4 t5_0 hT5 t6_0 hT6 t7_0 hT7 t13_0 hT13 ob98 _) rfl rfl hT0 rfl hl.1 rfl (Nat.le_of_ble_eq_true rfl) ⟨by decide, by decide⟩ ⟨Nat.le_of_ble_eq_true rfl, Nat.le_of_ble_eq_true rfl⟩ d_14_36_76) (fun a101 u99 H locs hp100 V => ?_)
    obtain ⟨hI, hZ9⟩ := hp100
    obtain ⟨hu109, hZ9⟩ := hZ9
    obtain ⟨f102, hZ9⟩ := hZ9
    obtain ⟨hA103, hZ9⟩ := hZ9
    replace hZ9 := hZ9.2.2.2
    obtain ⟨-, hE108⟩ := hZ9
    replace hA103 : u99[168]? = (some (q 168, .inl (g 1, 1, .inr (.inl f102))) : Option (Nat × va_E)) := hA103
    obtain ⟨p110, e111⟩ : ∃ z, z = (F_NM_isLong x3 t0_0 t0_1 t0_2 t4_0 t4_1 t4_2 t4_3 t4_4 t4_5 t4_6 t4_7 t4_8 t4_9 t4_10 t5_0 t6_0 t7_0 t13_0) := ⟨_, rfl⟩
    have e112 : a101 = p110.1 := congrArg (fun z => z.1) (hE108.trans e111.symm)
    have e113 : f102 = p110.2 := congrArg (fun z => z.2) (hE108.trans e111.symm)
    replace hT0 := (hu109 _ (by decide)).trans hT0
    replace hT1 := (hu109 _ (by decide)).trans hT1
    replace hT9 := (hu109 _ (by decide)).trans hT9
    replace hT10 := (hu109 _ (by decide)).trans hT10
    replace hT11 := (hu109 _ (by decide)).trans hT11
    replace hT12 := (hu109 _ (by decide)).trans hT12
    replace hF := q_uc hF hu109 (by simp)
    have hR114 := (show F_NM_numeral_c76 x2 x3 t0_0 t0_1 t0_2 t1_0 t1_1 t1_2 t1_3 t1_4 t1_5 t1_6 t2_0 t3_0 t4_0 t4_1 t4_2 t4_3 t4_4 t4_5 t4_6 t4_7 t4_8 t4_9 t4_10 t5_0 t6_0 t7_0 t8_0 t9_0 t9_1 t9_2 t9_3 t9_4 t9_5 t9_6 t9_7 t9_8 t9_9 t9_10 t9_11 t9_12 t9_13 t9_14 t9_15 t9_16 t9_17 t9_18 t9_19 t9_20 t9_21 t10_0 t11_0 t12_0 t13_0 a96 p110 = (F_NM_numeral x2 x3 t0_0 t0_1 t0_2 t1_0 t1_1 t1_2 t1_3 t1_4 t1_5 t1_6 t2_0 t3_0 t4_0 t4_1 t4_2 t4_3 t4_4 t4_5 t4_6 t4_7 t4_8 t4_9 t4_10 t5_0 t6_0 t7_0 t8_0 t9_0 t9_1 t9_2 t9_3 t9_4 t9_5 t9_6 t9_7 t9_8 t9_9 t9_10 t9_11 t9_12 t9_13 t9_14 t9_15 t9_16 t9_17 t9_18 t9_19 t9_20 t9_21 t10_0 t11_0 t12_0 t13_0) from (by rw [e111, ← e97, F_NM_numeral.eq_1, if_neg c92]))
    have hS115 := (show True ∧ S_NM_numeral_c76 x2 x3 t0_0 t0_1 t0_2 t1_0 t1_1 t1_2 t1_3 t1_4 t1_5 t1_6 t2_0 t3_0 t4_0 t4_1 t4_2 t4_3 t4_4 t4_5 t4_6 t4_7 t4_8 t4_9 t4_10 t5_0 t6_0 t7_0 t8_0 t9_0 t9_1 t9_2 t9_3 t9_4 t9_5 t9_6 t9_7 t9_8 t9_9 t9_10 t9_11 t9_12 t9_13 t9_14 t9_15 t9_16 t9_17 t9_18 t9_19 t9_20 t9_21 t10_0 t11_0 t12_0 t13_0 a96 p110 from (by rw [e111, ← e97]; have h := hS; rw [S_NM_numeral.eq_1] at h; rw [if_neg c92] at h; replace h := q_s2 h; replace h := q_s2 h; replace h := q_s2 h; with_reducible exact h))
    refine q_join (X := Int32) (fun z H locs ls _ => q_F (0 ≤ z.toInt) ∧ q_F (z.toInt ≤ 2) ∧ q_Wd D g (va_A ws sz) s u99 H locs ∧ lv_has ls 4 [(3, .int a96), (0, .ref (q 116))] ∧ F_NM_numeral_J97 x2 x3 t0_0 t0_1 t0_2 t1_0 t1_1 t1_2 t1_3 t1_4 t1_5 t1_6 t2_0 t3_0 t4_0 t4_1 t4_2 t4_3 t4_4 t4_5 t4_6 t4_7 t4_8 t4_9 t4_10 t5_0 t6_0 t7_0 t8_0 t9_0 t9_1 t9_2 t9_3 t9_4 t9_5 t9_6 t9_7 t9_8 t9_9 t9_10 t9_11 t9_12 t9_13 t9_14 t9_15 t9_16 t9_17 t9_18 t9_19 t9_20 t9_21 t10_0 t11_0 t12_0 t13_0 a96 p110 f102 z = (F_NM_numeral x2 x3 t0_0 t0_1 t0_2 t1_0 t1_1 t1_2 t1_3 t1_4 t1_5 t1_6 t2_0 t3_0 t4_0 t4_1 t4_2 t4_3 t4_4 t4_5 t4_6 t4_7 t4_8 t4_9 t4_10 t5_0 t6_0 t7_0 t8_0 t9_0 t9_1 t9_2 t9_3 t9_4 t9_5 t9_6 t9_7 t9_8 t9_9 t9_10 t9_11 t9_12 t9_13 t9_14 t9_15 t9_16 t9_17 t9_18 t9_19 t9_20 t9_21 t10_0 t11_0 t12_0 t13_0) ∧ True ∧ S_NM_numeral_J97 x2 x3 t0_0 t0_1 t0_2 t1_0 t1_1 t1_2 t1_3 t1_4 t1_5 t1_6 t2_0 t3_0 t4_0 t4_1 t4_2 t4_3 t4_4 t4_5 t4_6 t4_7 t4_8 t4_9 t4_10 t5_0 t6_0 t7_0 t8_0 t9_0 t9_1 t9_2 t9_3 t9_4 t9_5 t9_6 t9_7 t9_8 t9_9 t9_10 t9_11 t9_12 t9_13 t9_14 t9_15 t9_16 t9_17 t9_18 t9_19 t9_20 t9_21 t10_0 t11_0 t12_0 t13_0 a96 p110 f102 z) (fun z => [.int z, .ref (q 116)]) 97 0 0 ?_ ?_
    ·
      rintro lx119 H locs ls _ hZ9
      obtain ⟨i135, hZ9⟩ := hZ9
      obtain ⟨i136, hZ9⟩ := hZ9
      obtain ⟨V, hZ9⟩ := hZ9
      obtain ⟨hl, hZ9⟩ := hZ9
      obtain ⟨hR137, hS138⟩ := hZ9
      replace i135 : q_F (0 ≤ lx119.toInt) := i135
      replace i136 : q_F (lx119.toInt ≤ 2) := i136
      replace hl : lv_has ls 4 [(3, .int a96), (0, .ref (q 116))] := hl
      refine q_put (ci := 12) (j := 0) (v := .int lx119) (ty := .int) C0 V i_NM o_NM n_NM rfl rfl hT0 (by decide) w_2298 rfl rfl rfl rfl (Nat.le_of_ble_eq_true rfl) d_14_36_97 (fun H locs w142 hu143 hT0 V => ?_)
      replace hT0 : w142[116]? = (some (q 116, .inr (12, [.int lx119, .ref (q 117), .int t0_1, .ref (q 118), .int t0_2, .ref (q 119), .ref (q 134), .ref (q 145), .ref (q 153), .ref (q 157), .ref (q 167), .ref (q 168)])) : Option (Nat × va_E)) := hT0
      replace hI := n_p116 hI hu143 hT0 (by first | with_reducible exact q_fe btt0_1 | exact ⟨(by have t1 : 0 ≤ t0_1.toInt ∧ t0_1.toInt ≤ 4100 := btt0_1; omega), (by have t1 : 0 ≤ t0_1.toInt ∧ t0_1.toInt ≤ 4100 := btt0_1; omega)⟩) (by first | with_reducible exact q_fe btt0_2 | exact ⟨(by have t1 : 0 ≤ t0_2.toInt ∧ t0_2.toInt ≤ 12200 := btt0_2; omega), (by have t1 : 0 ≤ t0_2.toInt ∧ t0_2.toInt ≤ 12200 := btt0_2; omega)⟩)
      replace hT1 := (hu143 _ (by decide)).trans hT1
      replace hT9 := (hu143 _ (by decide)).trans hT9
      replace hT10 := (hu143 _ (by decide)).trans hT10
      replace hT11 := (hu143 _ (by decide)).trans hT11
      replace hT12 := (hu143 _ (by decide)).trans hT12
      replace hA103 := (hu143 _ (by decide)).trans hA103
      replace hF := q_us hF hu143 (by simp)
      refine lv_aload_n hx hb d_14_36_100 rfl (lv_at hl 1 rfl) ?_
      refine q_get (ci := 12) (j := 0) (v := .int lx119) C0 V i_NM rfl rfl hT0 (by decide) w_2298 rfl d_14_36_101 ?_
      refine lv_if_le (tgt := 111) hx hb d_14_36_104 (by decide) (fun c144 => ?_) (fun c144 => ?_)
      ·
        have b145 : q_F (lx119.toInt ≤ 0) := (q_leI c144)
        refine lv_aload_n hx hb d_14_36_111 rfl (lv_at hl 1 rfl) ?_
        refine q_get (ci := 12) (j := 9) (v := .ref (q 157)) C0 V i_NM rfl rfl hT0 (by decide) w_2307 rfl d_14_36_112 ?_
        refine lv_aload_n hx hb d_14_36_115 rfl (lv_at hl 1 rfl) ?_
        refine q_get (ci := 12) (j := 11) (v := .ref (q 168)) C0 V i_NM rfl rfl hT0 (by decide) w_2309 rfl d_14_36_116 ?_
        refine lv_iconst (v := 0) hx hb d_14_36_119 (by decide) ?_
        refine q_lald C0 V hA103 (q_ix (x := 0) (by decide) (by omega) (by omega)) d_14_36_120 ?_
        obtain ⟨j146, e147⟩ := q_nm (f102 (0 : Int32).toNatClampNeg : Int64)
        refine q_tl (v := j146) e147 ?_
        refine lv_iload_n hx hb d_14_36_121 rfl (lv_at hl 0 rfl) ?_
        refine q_goi V (q_runV (As := [.long j146, .int a96]) (rest := []) (d := 2) (mc := 0) (ms := 0) (ci := 17) C0 V rfl LV_NM_307 (X_VR_decimal_JII l D g q w142  j146 a96 hI t9_0 t9_1 t9_2 t9_3 t9_4 t9_5 t9_6 t9_7 t9_8 t9_9 t9_10 t9_11 t9_12 t9_13 t9_14 t9_15 t9_16 t9_17 t9_18 t9_19 t9_20 t9_21 hT9 t10_0 hT10 t11_0 hT11 t12_0 hT12  _) rfl rfl hT9 rfl hl.1 rfl (Nat.le_of_ble_eq_true rfl) ⟨by decide, by decide⟩ ⟨Nat.le_of_ble_eq_true rfl, Nat.le_of_ble_eq_true rfl⟩ d_14_36_122) (fun a150 u148 H locs hp149 V => ?_)
        obtain ⟨hI, hZ9⟩ := hp149
        obtain ⟨hu168, hZ9⟩ := hZ9
        obtain ⟨y152, hZ9⟩ := hZ9
        obtain ⟨y153, hZ9⟩ := hZ9
        obtain ⟨f154, hZ9⟩ := hZ9
        obtain ⟨f156, hZ9⟩ := hZ9
        obtain ⟨f158, hZ9⟩ := hZ9
        obtain ⟨hO151, hZ9⟩ := hZ9
        obtain ⟨hA155, hZ9⟩ := hZ9
        obtain ⟨hA157, hZ9⟩ := hZ9
        obtain ⟨hA159, hZ9⟩ := hZ9
        obtain ⟨b160, hZ9⟩ := hZ9
        replace hZ9 := hZ9.2
        obtain ⟨b162, hZ9⟩ := hZ9
        obtain ⟨b163, hZ9⟩ := hZ9
        obtain ⟨b164, hZ9⟩ := hZ9
        obtain ⟨b165, hZ9⟩ := hZ9
        obtain ⟨b166, hE167⟩ := hZ9
        replace hO151 : u148[157]? = (some (q 157, .inr (17, [.int y152, .ref (q 158), .int t9_1, .int y153, .ref (q 159), .ref (q 160), .ref (q 161), .ref (q 162), .ref (q 163), .int t9_3, .ref (q 164), .int t9_4, .int t9_5, .int t9_6, .int t9_7, .int t9_8, .int t9_9, .int t9_10, .int t9_11, .int t9_12, .int t9_13, .int t9_14, .int t9_15, .int t9_16, .ref (q 165), .int t9_17, .int t9_18, .int t9_19, .ref (q 166), .int t9_20, .int t9_21])) : Option (Nat × va_E)) := hO151
        replace hA155 : u148[159]? = (some (q 159, .inl (g 0, (9 : Int32).toNatClampNeg, .inl f154)) : Option (Nat × va_E)) := hA155
        replace hA157 : u148[160]? = (some (q 160, .inl (g 0, (9 : Int32).toNatClampNeg, .inl f156)) : Option (Nat × va_E)) := hA157
        replace hA159 : u148[161]? = (some (q 161, .inl (g 1, 9, .inr (.inl f158))) : Option (Nat × va_E)) := hA159
        obtain ⟨p169, e170⟩ : ∃ z, z = (F_VR_decimal_JII j146 a96 t9_0 t9_1 t9_2 t9_3 t9_4 t9_5 t9_6 t9_7 t9_8 t9_9 t9_10 t9_11 t9_12 t9_13 t9_14 t9_15 t9_16 t9_17 t9_18 t9_19 t9_20 t9_21 t10_0 t11_0 t12_0) := ⟨_, rfl⟩
        have e171 : a150 = p169.1 := congrArg (fun z => z.1) (hE167.trans e170.symm)
        have e172 : y152 = p169.2.1 := congrArg (fun z => z.2.1) (hE167.trans e170.symm)
        have e173 : y153 = p169.2.2.1 := congrArg (fun z => z.2.2.1) (hE167.trans e170.symm)
        have e174 : f154 = p169.2.2.2.1 := congrArg (fun z => z.2.2.2.1) (hE167.trans e170.symm)
        have e175 : f156 = p169.2.2.2.2.1 := congrArg (fun z => z.2.2.2.2.1) (hE167.trans e170.symm)
        have e176 : f158 = p169.2.2.2.2.2 := congrArg (fun z => z.2.2.2.2.2) (hE167.trans e170.symm)
        replace b160 : q_F (0 ≤ y152.toInt) := b160
        replace b162 : q_F (y153.toInt ≤ 9) := b162
        replace b163 : q_F (t9_2.toInt ≤ y153.toInt) := b163
        replace b164 : q_F (y153.toInt ≤ t9_2.toInt + 1) := b164
        replace b165 : q_F (y152.toInt ≤ a150.toInt + 1) := b165
        replace b166 : q_F (a150.toInt ≤ y153.toInt) := b166
        replace hT0 := (hu168 _ (by decide)).trans hT0
        replace hT1 := (hu168 _ (by decide)).trans hT1
        replace hA103 := (hu168 _ (by decide)).trans hA103
        replace hF := q_uc hF hu168 (by simp)
        have hR177 := (show F_NM_numeral_c122 x2 x3 t0_0 t0_1 t0_2 t1_0 t1_1 t1_2 t1_3 t1_4 t1_5 t1_6 t2_0 t3_0 t4_0 t4_1 t4_2 t4_3 t4_4 t4_5 t4_6 t4_7 t4_8 t4_9 t4_10 t5_0 t6_0 t7_0 t8_0 t9_0 t9_1 t9_2 t9_3 t9_4 t9_5 t9_6 t9_7 t9_8 t9_9 t9_10 t9_11 t9_12 t9_13 t9_14 t9_15 t9_16 t9_17 t9_18 t9_19 t9_20 t9_21 t10_0 t11_0 t12_0 t13_0 a96 p110 f102 lx119 p169 = (F_NM_numeral x2 x3 t0_0 t0_1 t0_2 t1_0 t1_1 t1_2 t1_3 t1_4 t1_5 t1_6 t2_0 t3_0 t4_0 t4_1 t4_2 t4_3 t4_4 t4_5 t4_6 t4_7 t4_8 t4_9 t4_10 t5_0 t6_0 t7_0 t8_0 t9_0 t9_1 t9_2 t9_3 t9_4 t9_5 t9_6 t9_7 t9_8 t9_9 t9_10 t9_11 t9_12 t9_13 t9_14 t9_15 t9_16 t9_17 t9_18 t9_19 t9_20 t9_21 t10_0 t11_0 t12_0 t13_0) from Eq.trans (by rw [e170, ← e147, F_NM_numeral_J97.eq_1, if_pos c144]) hR137)
        have hS178 := (show True ∧ S_NM_numeral_c122 x2 x3 t0_0 t0_1 t0_2 t1_0 t1_1 t1_2 t1_3 t1_4 t1_5 t1_6 t2_0 t3_0 t4_0 t4_1 t4_2 t4_3 t4_4 t4_5 t4_6 t4_7 t4_8 t4_9 t4_10 t5_0 t6_0 t7_0 t8_0 t9_0 t9_1 t9_2 t9_3 t9_4 t9_5 t9_6 t9_7 t9_8 t9_9 t9_10 t9_11 t9_12 t9_13 t9_14 t9_15 t9_16 t9_17 t9_18 t9_19 t9_20 t9_21 t10_0 t11_0 t12_0 t13_0 a96 p110 f102 lx119 p169 from (by rw [e170, ← e147]; have h := hS138; rw [S_NM_numeral_J97.eq_1] at h; rw [if_pos c144] at h; with_reducible exact h))
        exact q_reti C0 V (⟨hI, hF, lx119, t1_0, t1_1, t1_2, t1_3, t1_4, t1_5, t1_6, y152, y153, f154, f156, f158, f102, hT0, hT1, hO151, hA155, hA157, hA159, hA103, (show 0 ≤ a150.toInt + 1 from (by have t1 : 0 ≤ y152.toInt := b160; have t2 : y152.toInt ≤ a150.toInt + 1 := b165; omega)), (show 0 ≤ lx119.toInt from (by first | with_reducible exact q_fe i135 | (have t1 : 0 ≤ lx119.toInt := i135; omega))), (show lx119.toInt ≤ 2 from (by first | with_reducible exact q_fe i136 | (have t1 : lx119.toInt ≤ 2 := i136; omega))), (show y153.toInt ≤ 9 from (by first | with_reducible exact q_fe b162 | (have t1 : y153.toInt ≤ 9 := b162; omega))), (show t1_1.toInt ≤ t1_1.toInt from (by omega)), (show t1_1.toInt ≤ t1_1.toInt from (by omega)), (show t1_2.toInt ≤ t1_2.toInt from (by omega)), (show t1_2.toInt ≤ t1_2.toInt from (by omega)), (show t1_3.toInt ≤ t1_3.toInt from (by omega)), (show t1_3.toInt ≤ t1_3.toInt from (by omega)), (show t1_4.toInt ≤ t1_4.toInt from (by omega)), (show t1_4.toInt ≤ t1_4.toInt from (by omega)), (show t1_5.toInt ≤ t1_5.toInt from (by omega)), (show t1_5.toInt ≤ t1_5.toInt from (by omega)), (show t1_6.toInt ≤ t1_6.toInt from (by omega)), (show t1_6.toInt ≤ t1_6.toInt from (by omega)), (show t9_2.toInt ≤ y153.toInt from (by first | with_reducible exact q_fe b163 | (have t1 : t9_2.toInt ≤ y153.toInt := b163; omega))), (show y153.toInt ≤ t9_2.toInt + 1 from (by first | with_reducible exact q_fe b164 | (have t1 : y153.toInt ≤ t9_2.toInt + 1 := b164; omega))), (show lx119.toInt ≤ a150.toInt + 2 from (by have t1 : lx119.toInt ≤ 0 := b145; have t2 : 0 ≤ y152.toInt := b160; have t3 : y152.toInt ≤ a150.toInt + 1 := b165; omega)), (show a150.toInt ≤ y153.toInt from (by first | with_reducible exact q_fe b166 | (have t1 : a150.toInt ≤ y153.toInt := b166; omega))), (show (a150, lx119, t1_0, t1_1, t1_2, t1_3, t1_4, t1_5, t1_6, y152, y153, f154, f156, f158, f102) = (F_NM_numeral x2 x3 t0_0 t0_1 t0_2 t1_0 t1_1 t1_2 t1_3 t1_4 t1_5 t1_6 t2_0 t3_0 t4_0 t4_1 t4_2 t4_3 t4_4 t4_5 t4_6 t4_7 t4_8 t4_9 t4_10 t5_0 t6_0 t7_0 t8_0 t9_0 t9_1 t9_2 t9_3 t9_4 t9_5 t9_6 t9_7 t9_8 t9_9 t9_10 t9_11 t9_12 t9_13 t9_14 t9_15 t9_16 t9_17 t9_18 t9_19 t9_20 t9_21 t10_0 t11_0 t12_0 t13_0) from Eq.trans (by rw [e176, e175, e174, e173, e172, e171, F_NM_numeral_c122.eq_1]) hR177)⟩) d_14_36_125
      ·
        refine lv_iconst (v := 0) hx hb d_14_36_107 (by decide) ?_
        refine lv_goto (tgt := 125) hx hb d_14_36_108 (by decide) ?_
        exact q_reti C0 V (⟨hI, hF, lx119, t1_0, t1_1, t1_2, t1_3, t1_4, t1_5, t1_6, t9_0, t9_2, t10_0, t11_0, t12_0, f102, hT0, hT1, hT9, hT10, hT11, hT12, hA103, (show 0 ≤ (0 : Int32).toInt + 1 from (by have z55 : (0 : Int32).toInt = 0 := rfl; omega)), (show 0 ≤ lx119.toInt from (by have z55 : (0 : Int32).toInt = 0 := rfl; have t1 : 0 ≤ lx119.toInt := i135; omega)), (show lx119.toInt ≤ 2 from (by have z55 : (0 : Int32).toInt = 0 := rfl; have t1 : lx119.toInt ≤ 2 := i136; omega)), (show t9_2.toInt ≤ 9 from (by have z55 : (0 : Int32).toInt = 0 := rfl; have t1 : 0 ≤ t9_2.toInt ∧ t9_2.toInt ≤ 9 := btt9_2; omega)), (show t1_1.toInt ≤ t1_1.toInt from (by have z55 : (0 : Int32).toInt = 0 := rfl; omega)), (show t1_1.toInt ≤ t1_1.toInt from (by have z55 : (0 : Int32).toInt = 0 := rfl; omega)), (show t1_2.toInt ≤ t1_2.toInt from (by have z55 : (0 : Int32).toInt = 0 := rfl; omega)), (show t1_2.toInt ≤ t1_2.toInt from (by have z55 : (0 : Int32).toInt = 0 := rfl; omega)), (show t1_3.toInt ≤ t1_3.toInt from (by have z55 : (0 : Int32).toInt = 0 := rfl; omega)), (show t1_3.toInt ≤ t1_3.toInt from (by have z55 : (0 : Int32).toInt = 0 := rfl; omega)), (show t1_4.toInt ≤ t1_4.toInt from (by have z55 : (0 : Int32).toInt = 0 := rfl; omega)), (show t1_4.toInt ≤ t1_4.toInt from (by have z55 : (0 : Int32).toInt = 0 := rfl; omega)), (show t1_5.toInt ≤ t1_5.toInt from (by have z55 : (0 : Int32).toInt = 0 := rfl; omega)), (show t1_5.toInt ≤ t1_5.toInt from (by have z55 : (0 : Int32).toInt = 0 := rfl; omega)), (show t1_6.toInt ≤ t1_6.toInt from (by have z55 : (0 : Int32).toInt = 0 := rfl; omega)), (show t1_6.toInt ≤ t1_6.toInt from (by have z55 : (0 : Int32).toInt = 0 := rfl; omega)), (show t9_2.toInt ≤ t9_2.toInt from (by have z55 : (0 : Int32).toInt = 0 := rfl; omega)), (show t9_2.toInt ≤ t9_2.toInt + 1 from (by have z55 : (0 : Int32).toInt = 0 := rfl; omega)), (show lx119.toInt ≤ (0 : Int32).toInt + 2 from (by have z55 : (0 : Int32).toInt = 0 := rfl; have t1 : lx119.toInt ≤ 2 := i136; omega)), (show (0 : Int32).toInt ≤ t9_2.toInt from (by have z55 : (0 : Int32).toInt = 0 := rfl; have t1 : 0 ≤ t9_2.toInt ∧ t9_2.toInt ≤ 9 := btt9_2; omega)), (show ((0 : Int32), lx119, t1_0, t1_1, t1_2, t1_3, t1_4, t1_5, t1_6, t9_0, t9_2, t10_0, t11_0, t12_0, f102) = (F_NM_numeral x2 x3 t0_0 t0_1 t0_2 t1_0 t1_1 t1_2 t1_3 t1_4 t1_5 t1_6 t2_0 t3_0 t4_0 t4_1 t4_2 t4_3 t4_4 t4_5 t4_6 t4_7 t4_8 t4_9 t4_10 t5_0 t6_0 t7_0 t8_0 t9_0 t9_1 t9_2 t9_3 t9_4 t9_5 t9_6 t9_7 t9_8 t9_9 t9_10 t9_11 t9_12 t9_13 t9_14 t9_15 t9_16 t9_17 t9_18 t9_19 t9_20 t9_21 t10_0 t11_0 t12_0 t13_0) from Eq.trans (by rw [F_NM_numeral_J97.eq_1, if_neg c144]) hR137)⟩) d_14_36_125
    ·
      intro J134
      refine q_join (X := Unit) (fun z H locs ls _ => q_Wd D g (va_A ws sz) s u99 H locs ∧ lv_has ls 4 [(3, .int a96), (0, .ref (q 116))] ∧ F_NM_numeral_J92 x2 x3 t0_0 t0_1 t0_2 t1_0 t1_1 t1_2 t1_3 t1_4 t1_5 t1_6 t2_0 t3_0 t4_0 t4_1 t4_2 t4_3 t4_4 t4_5 t4_6 t4_7 t4_8 t4_9 t4_10 t5_0 t6_0 t7_0 t8_0 t9_0 t9_1 t9_2 t9_3 t9_4 t9_5 t9_6 t9_7 t9_8 t9_9 t9_10 t9_11 t9_12 t9_13 t9_14 t9_15 t9_16 t9_17 t9_18 t9_19 t9_20 t9_21 t10_0 t11_0 t12_0 t13_0 a96 p110 f102 = (F_NM_numeral x2 x3 t0_0 t0_1 t0_2 t1_0 t1_1 t1_2 t1_3 t1_4 t1_5 t1_6 t2_0 t3_0 t4_0 t4_1 t4_2 t4_3 t4_4 t4_5 t4_6 t4_7 t4_8 t4_9 t4_10 t5_0 t6_0 t7_0 t8_0 t9_0 t9_1 t9_2 t9_3 t9_4 t9_5 t9_6 t9_7 t9_8 t9_9 t9_10 t9_11 t9_12 t9_13 t9_14 t9_15 t9_16 t9_17 t9_18 t9_19 t9_20 t9_21 t10_0 t11_0 t12_0 t13_0) ∧ True ∧ S_NM_numeral_J92 x2 x3 t0_0 t0_1 t0_2 t1_0 t1_1 t1_2 t1_3 t1_4 t1_5 t1_6 t2_0 t3_0 t4_0 t4_1 t4_2 t4_3 t4_4 t4_5 t4_6 t4_7 t4_8 t4_9 t4_10 t5_0 t6_0 t7_0 t8_0 t9_0 t9_1 t9_2 t9_3 t9_4 t9_5 t9_6 t9_7 t9_8 t9_9 t9_10 t9_11 t9_12 t9_13 t9_14 t9_15 t9_16 t9_17 t9_18 t9_19 t9_20 t9_21 t10_0 t11_0 t12_0 t13_0 a96 p110 f102) (fun z => [.ref (q 116)]) 92 0 0 ?_ ?_
      ·
        rintro _ H locs ls _ ⟨V, hl, hR198, hS199⟩
        replace hl : lv_has ls 4 [(3, .int a96), (0, .ref (q 116))] := hl
        refine lv_iconst (v := 2) hx hb d_14_36_92 (by decide) ?_
        refine lv_goto (tgt := 97) hx hb d_14_36_93 (by decide) ?_
        exact J134 ((2 : Int32)) _ _ _ u99 ⟨(show q_F (0 ≤ 2) from (show 0 ≤ 2 from by omega)), (show q_F (2 ≤ 2) from (show 2 ≤ 2 from by omega)), V, q_lw hl (q_lw1 0 rfl (q_lw1 1 rfl q_lw0)), (show F_NM_numeral_J97 x2 x3 t0_0 t0_1 t0_2 t1_0 t1_1 t1_2 t1_3 t1_4 t1_5 t1_6 t2_0 t3_0 t4_0 t4_1 t4_2 t4_3 t4_4 t4_5 t4_6 t4_7 t4_8 t4_9 t4_10 t5_0 t6_0 t7_0 t8_0 t9_0 t9_1 t9_2 t9_3 t9_4 t9_5 t9_6 t9_7 t9_8 t9_9 t9_10 t9_11 t9_12 t9_13 t9_14 t9_15 t9_16 t9_17 t9_18 t9_19 t9_20 t9_21 t10_0 t11_0 t12_0 t13_0 a96 p110 f102 2 = (F_NM_numeral x2 x3 t0_0 t0_1 t0_2 t1_0 t1_1 t1_2 t1_3 t1_4 t1_5 t1_6 t2_0 t3_0 t4_0 t4_1 t4_2 t4_3 t4_4 t4_5 t4_6 t4_7 t4_8 t4_9 t4_10 t5_0 t6_0 t7_0 t8_0 t9_0 t9_1 t9_2 t9_3 t9_4 t9_5 t9_6 t9_7 t9_8 t9_9 t9_10 t9_11 t9_12 t9_13 t9_14 t9_15 t9_16 t9_17 t9_18 t9_19 t9_20 t9_21 t10_0 t11_0 t12_0 t13_0) from Eq.trans (by rw [F_NM_numeral_J92.eq_1]) hR198), (show True ∧ S_NM_numeral_J97 x2 x3 t0_0 t0_1 t0_2 t1_0 t1_1 t1_2 t1_3 t1_4 t1_5 t1_6 t2_0 t3_0 t4_0 t4_1 t4_2 t4_3 t4_4 t4_5 t4_6 t4_7 t4_8 t4_9 t4_10 t5_0 t6_0 t7_0 t8_0 t9_0 t9_1 t9_2 t9_3 t9_4 t9_5 t9_6 t9_7 t9_8 t9_9 t9_10 t9_11 t9_12 t9_13 t9_14 t9_15 t9_16 t9_17 t9_18 t9_19 t9_20 t9_21 t10_0 t11_0 t12_0 t13_0 a96 p110 f102 2 from (by have h := hS199; rw [S_NM_numeral_J92.eq_1] at h; with_reducible exact h))⟩
      ·
        intro J197
        refine lv_if_eq (tgt := 92) hx hb d_14_36_79 (by decide) (fun c203 => ?_) (fun c203 => ?_)
        ·
          exact J197 (()) _ _ _ u99 ⟨V, q_lw hl (q_lw1 0 rfl (q_lw1 1 rfl q_lw0)), (show F_NM_numeral_J92 x2 x3 t0_0 t0_1 t0_2 t1_0 t1_1 t1_2 t1_3 t1_4 t1_5 t1_6 t2_0 t3_0 t4_0 t4_1 t4_2 t4_3 t4_4 t4_5 t4_6 t4_7 t4_8 t4_9 t4_10 t5_0 t6_0 t7_0 t8_0 t9_0 t9_1 t9_2 t9_3 t9_4 t9_5 t9_6 t9_7 t9_8 t9_9 t9_10 t9_11 t9_12 t9_13 t9_14 t9_15 t9_16 t9_17 t9_18 t9_19 t9_20 t9_21 t10_0 t11_0 t12_0 t13_0 a96 p110 f102 = (F_NM_numeral x2 x3 t0_0 t0_1 t0_2 t1_0 t1_1 t1_2 t1_3 t1_4 t1_5 t1_6 t2_0 t3_0 t4_0 t4_1 t4_2 t4_3 t4_4 t4_5 t4_6 t4_7 t4_8 t4_9 t4_10 t5_0 t6_0 t7_0 t8_0 t9_0 t9_1 t9_2 t9_3 t9_4 t9_5 t9_6 t9_7 t9_8 t9_9 t9_10 t9_11 t9_12 t9_13 t9_14 t9_15 t9_16 t9_17 t9_18 t9_19 t9_20 t9_21 t10_0 t11_0 t12_0 t13_0) from Eq.trans (by have c203x := c203; rw [e112] at c203x; rw [e113, F_NM_numeral_c76.eq_1, if_pos c203x]) hR114), (show True ∧ S_NM_numeral_J92 x2 x3 t0_0 t0_1 t0_2 t1_0 t1_1 t1_2 t1_3 t1_4 t1_5 t1_6 t2_0 t3_0 t4_0 t4_1 t4_2 t4_3 t4_4 t4_5 t4_6 t4_7 t4_8 t4_9 t4_10 t5_0 t6_0 t7_0 t8_0 t9_0 t9_1 t9_2 t9_3 t9_4 t9_5 t9_6 t9_7 t9_8 t9_9 t9_10 t9_11 t9_12 t9_13 t9_14 t9_15 t9_16 t9_17 t9_18 t9_19 t9_20 t9_21 t10_0 t11_0 t12_0 t13_0 a96 p110 f102 from (by rw [e113]; have h := hS115; rw [S_NM_numeral_c76.eq_1] at h; have c203x := c203; rw [e112] at c203x; rw [if_pos c203x] at h; with_reducible exact h))⟩
        ·
          refine lv_iload_n hx hb d_14_36_82 rfl (lv_at hl 0 rfl) ?_
          refine lv_if_lt (tgt := 92) hx hb d_14_36_83 (by decide) (fun c206 => ?_) (fun c206 => ?_)
          ·
            exact J197 (()) _ _ _ u99 ⟨V, q_lw hl (q_lw1 0 rfl (q_lw1 1 rfl q_lw0)), (show F_NM_numeral_J92 x2 x3 t0_0 t0_1 t0_2 t1_0 t1_1 t1_2 t1_3 t1_4 t1_5 t1_6 t2_0 t3_0 t4_0 t4_1 t4_2 t4_3 t4_4 t4_5 t4_6 t4_7 t4_8 t4_9 t4_10 t5_0 t6_0 t7_0 t8_0 t9_0 t9_1 t9_2 t9_3 t9_4 t9_5 t9_6 t9_7 t9_8 t9_9 t9_10 t9_11 t9_12 t9_13 t9_14 t9_15 t9_16 t9_17 t9_18 t9_19 t9_20 t9_21 t10_0 t11_0 t12_0 t13_0 a96 p110 f102 = (F_NM_numeral x2 x3 t0_0 t0_1 t0_2 t1_0 t1_1 t1_2 t1_3 t1_4 t1_5 t1_6 t2_0 t3_0 t4_0 t4_1 t4_2 t4_3 t4_4 t4_5 t4_6 t4_7 t4_8 t4_9 t4_10 t5_0 t6_0 t7_0 t8_0 t9_0 t9_1 t9_2 t9_3 t9_4 t9_5 t9_6 t9_7 t9_8 t9_9 t9_10 t9_11 t9_12 t9_13 t9_14 t9_15 t9_16 t9_17 t9_18 t9_19 t9_20 t9_21 t10_0 t11_0 t12_0 t13_0) from Eq.trans (by have c203x := c203; rw [e112] at c203x; rw [e113, F_NM_numeral_c76.eq_1, if_neg c203x, if_pos c206]) hR114), (show True ∧ S_NM_numeral_J92 x2 x3 t0_0 t0_1 t0_2 t1_0 t1_1 t1_2 t1_3 t1_4 t1_5 t1_6 t2_0 t3_0 t4_0 t4_1 t4_2 t4_3 t4_4 t4_5 t4_6 t4_7 t4_8 t4_9 t4_10 t5_0 t6_0 t7_0 t8_0 t9_0 t9_1 t9_2 t9_3 t9_4 t9_5 t9_6 t9_7 t9_8 t9_9 t9_10 t9_11 t9_12 t9_13 t9_14 t9_15 t9_16 t9_17 t9_18 t9_19 t9_20 t9_21 t10_0 t11_0 t12_0 t13_0 a96 p110 f102 from (by rw [e113]; have h := hS115; rw [S_NM_numeral_c76.eq_1] at h; have c203x := c203; rw [e112] at c203x; rw [if_neg c203x] at h; rw [if_pos c206] at h; with_reducible exact h))⟩
          ·
            refine lv_iload_n hx hb d_14_36_86 rfl (lv_at hl 0 rfl) ?_
            refine lv_bipush (v := 40) hx hb d_14_36_87 (by decide) ?_
            refine lv_icmp_le (tgt := 96) hx hb d_14_36_89 (by decide) (fun c209 => ?_) (fun c209 => ?_)
            ·
              refine lv_iconst (v := 0) hx hb d_14_36_96 (by decide) ?_
              exact J134 ((0 : Int32)) _ _ _ u99 ⟨(show q_F (0 ≤ 0) from (show 0 ≤ 0 from by omega)), (show q_F (0 ≤ 2) from (show 0 ≤ 2 from by omega)), V, q_lw hl (q_lw1 0 rfl (q_lw1 1 rfl q_lw0)), (show F_NM_numeral_J97 x2 x3 t0_0 t0_1 t0_2 t1_0 t1_1 t1_2 t1_3 t1_4 t1_5 t1_6 t2_0 t3_0 t4_0 t4_1 t4_2 t4_3 t4_4 t4_5 t4_6 t4_7 t4_8 t4_9 t4_10 t5_0 t6_0 t7_0 t8_0 t9_0 t9_1 t9_2 t9_3 t9_4 t9_5 t9_6 t9_7 t9_8 t9_9 t9_10 t9_11 t9_12 t9_13 t9_14 t9_15 t9_16 t9_17 t9_18 t9_19 t9_20 t9_21 t10_0 t11_0 t12_0 t13_0 a96 p110 f102 0 = (F_NM_numeral x2 x3 t0_0 t0_1 t0_2 t1_0 t1_1 t1_2 t1_3 t1_4 t1_5 t1_6 t2_0 t3_0 t4_0 t4_1 t4_2 t4_3 t4_4 t4_5 t4_6 t4_7 t4_8 t4_9 t4_10 t5_0 t6_0 t7_0 t8_0 t9_0 t9_1 t9_2 t9_3 t9_4 t9_5 t9_6 t9_7 t9_8 t9_9 t9_10 t9_11 t9_12 t9_13 t9_14 t9_15 t9_16 t9_17 t9_18 t9_19 t9_20 t9_21 t10_0 t11_0 t12_0 t13_0) from Eq.trans (by have c203x := c203; rw [e112] at c203x; rw [e113, F_NM_numeral_c76.eq_1, if_neg c203x, if_neg c206, if_pos c209]) hR114), (show True ∧ S_NM_numeral_J97 x2 x3 t0_0 t0_1 t0_2 t1_0 t1_1 t1_2 t1_3 t1_4 t1_5 t1_6 t2_0 t3_0 t4_0 t4_1 t4_2 t4_3 t4_4 t4_5 t4_6 t4_7 t4_8 t4_9 t4_10 t5_0 t6_0 t7_0 t8_0 t9_0 t9_1 t9_2 t9_3 t9_4 t9_5 t9_6 t9_7 t9_8 t9_9 t9_10 t9_11 t9_12 t9_13 t9_14 t9_15 t9_16 t9_17 t9_18 t9_19 t9_20 t9_21 t10_0 t11_0 t12_0 t13_0 a96 p110 f102 0 from (by rw [e113]; have h := hS115; rw [S_NM_numeral_c76.eq_1] at h; have c203x := c203; rw [e112] at c203x; rw [if_neg c203x] at h; rw [if_neg c206] at h; rw [if_pos c209] at h; with_reducible exact h))⟩
            ·
              exact J197 (()) _ _ _ u99 ⟨V, q_lw hl (q_lw1 0 rfl (q_lw1 1 rfl q_lw0)), (show F_NM_numeral_J92 x2 x3 t0_0 t0_1 t0_2 t1_0 t1_1 t1_2 t1_3 t1_4 t1_5 t1_6 t2_0 t3_0 t4_0 t4_1 t4_2 t4_3 t4_4 t4_5 t4_6 t4_7 t4_8 t4_9 t4_10 t5_0 t6_0 t7_0 t8_0 t9_0 t9_1 t9_2 t9_3 t9_4 t9_5 t9_6 t9_7 t9_8 t9_9 t9_10 t9_11 t9_12 t9_13 t9_14 t9_15 t9_16 t9_17 t9_18 t9_19 t9_20 t9_21 t10_0 t11_0 t12_0 t13_0 a96 p110 f102 = (F_NM_numeral x2 x3 t0_0 t0_1 t0_2 t1_0 t1_1 t1_2 t1_3 t1_4 t1_5 t1_6 t2_0 t3_0 t4_0 t4_1 t4_2 t4_3 t4_4 t4_5 t4_6 t4_7 t4_8 t4_9 t4_10 t5_0 t6_0 t7_0 t8_0 t9_0 t9_1 t9_2 t9_3 t9_4 t9_5 t9_6 t9_7 t9_8 t9_9 t9_10 t9_11 t9_12 t9_13 t9_14 t9_15 t9_16 t9_17 t9_18 t9_19 t9_20 t9_21 t10_0 t11_0 t12_0 t13_0) from Eq.trans (by have c203x := c203; rw [e112] at c203x; rw [e113, F_NM_numeral_c76.eq_1, if_neg c203x, if_neg c206, if_neg c209]) hR114), (show True ∧ S_NM_numeral_J92 x2 x3 t0_0 t0_1 t0_2 t1_0 t1_1 t1_2 t1_3 t1_4 t1_5 t1_6 t2_0 t3_0 t4_0 t4_1 t4_2 t4_3 t4_4 t4_5 t4_6 t4_7 t4_8 t4_9 t4_10 t5_0 t6_0 t7_0 t8_0 t9_0 t9_1 t9_2 t9_3 t9_4 t9_5 t9_6 t9_7 t9_8 t9_9 t9_10 t9_11 t9_12 t9_13 t9_14 t9_15 t9_16 t9_17 t9_18 t9_19 t9_20 t9_21 t10_0 t11_0 t12_0 t13_0 a96 p110 f102 from (by rw [e113]; have h := hS115; rw [S_NM_numeral_c76.eq_1] at h; have c203x := c203; rw [e112] at c203x; rw [if_neg c203x] at h; rw [if_neg c206] at h; rw [if_neg c209] at h; with_reducible exact h))⟩
  ·
    have b212 : q_F (x2.toInt = 0) := (q_eqI c92)
    refine lv_aload_n hx hb d_14_36_4 rfl (lv_at hl 0 rfl) ?_
    refine lv_aload_n hx hb d_14_36_5 rfl (lv_at hl 0 rfl) ?_
    refine q_get (ci := 12) (j := 5) (v := .ref (q 119)) C0 V i_NM rfl rfl hT0 (by decide) w_2303 rfl d_14_36_6 ?_
    refine lv_iload_n hx hb d_14_36_9 rfl (lv_at hl 2 rfl) ?_
    refine lv_iconst (v := 2) hx hb d_14_36_10 (by decide) ?_
    have ob213 : True ∧ S_WR_told x3 (2 : Int32) t1_0 t1_1 t1_2 t1_3 t1_4 t1_5 t1_6 t2_0 t3_0 := (by have h := hS; rw [S_NM_numeral.eq_1] at h; rw [if_pos c92] at h; with_reducible exact h.2.1)
    refine q_gol V (q_runV (As := [.int x3, .int 2]) (rest := [.ref (q 116)]) (d := 2) (mc := 0) (ms := 0) (ci := 13) C0 V rfl LV_NM_131 (X_WR_told l D g q ws  x3 2 hI t1_0 t1_1 t1_2 t1_3 t1_4 t1_5 t1_6 hT1 t2_0 hT2 t3_0 hT3 ob213 _) rfl rfl hT1 rfl hl.1 rfl (Nat.le_of_ble_eq_true rfl) ⟨by decide, by decide⟩ ⟨Nat.le_of_ble_eq_true rfl, Nat.le_of_ble_eq_true rfl⟩ d_14_36_11) (fun j216 u214 H locs hp215 V => ?_)
    obtain ⟨hI, hZ9⟩ := hp215
    obtain ⟨hu240, hZ9⟩ := hZ9
    obtain ⟨y218, hZ9⟩ := hZ9
    obtain ⟨y219, hZ9⟩ := hZ9
    obtain ⟨y220, hZ9⟩ := hZ9
    obtain ⟨y221, hZ9⟩ := hZ9
    obtain ⟨y222, hZ9⟩ := hZ9
    obtain ⟨y223, hZ9⟩ := hZ9
    obtain ⟨y224, hZ9⟩ := hZ9
    obtain ⟨hO217, hZ9⟩ := hZ9
    replace hZ9 := hZ9.2.2
    obtain ⟨b227, hZ9⟩ := hZ9
    obtain ⟨b228, hZ9⟩ := hZ9
    obtain ⟨b229, hZ9⟩ := hZ9
    obtain ⟨b230, hZ9⟩ := hZ9
    obtain ⟨b231, hZ9⟩ := hZ9
    obtain ⟨b232, hZ9⟩ := hZ9
    obtain ⟨b233, hZ9⟩ := hZ9
    obtain ⟨b234, hZ9⟩ := hZ9
    obtain ⟨b235, hZ9⟩ := hZ9
    obtain ⟨b236, hZ9⟩ := hZ9
    obtain ⟨b237, hZ9⟩ := hZ9
    obtain ⟨b238, hE239⟩ := hZ9
    replace hO217 : u214[119]? = (some (q 119, .inr (13, [.int y218, .int y219, .ref (q 120), .int y220, .ref (q 121), .ref (q 122), .ref (q 123), .int y221, .ref (q 124), .ref (q 125), .ref (q 126), .ref (q 127), .ref (q 128), .ref (q 129), .ref (q 130), .ref (q 131), .int y222, .int y223, .ref (q 132), .ref (q 133), .int y224])) : Option (Nat × va_E)) := hO217
    obtain ⟨p241, e242⟩ : ∃ z, z = (F_WR_told x3 (2 : Int32) t1_0 t1_1 t1_2 t1_3 t1_4 t1_5 t1_6 t2_0 t3_0) := ⟨_, rfl⟩
    have e243 : j216 = p241.1 := congrArg (fun z => z.1) (hE239.trans e242.symm)
    have e244 : y218 = p241.2.1 := congrArg (fun z => z.2.1) (hE239.trans e242.symm)
    have e245 : y219 = p241.2.2.1 := congrArg (fun z => z.2.2.1) (hE239.trans e242.symm)
    have e246 : y220 = p241.2.2.2.1 := congrArg (fun z => z.2.2.2.1) (hE239.trans e242.symm)
    have e247 : y221 = p241.2.2.2.2.1 := congrArg (fun z => z.2.2.2.2.1) (hE239.trans e242.symm)
    have e248 : y222 = p241.2.2.2.2.2.1 := congrArg (fun z => z.2.2.2.2.2.1) (hE239.trans e242.symm)
    have e249 : y223 = p241.2.2.2.2.2.2.1 := congrArg (fun z => z.2.2.2.2.2.2.1) (hE239.trans e242.symm)
    have e250 : y224 = p241.2.2.2.2.2.2.2 := congrArg (fun z => z.2.2.2.2.2.2.2) (hE239.trans e242.symm)
    replace b227 : q_F (t1_1.toInt ≤ y219.toInt) := b227
    replace b228 : q_F (y219.toInt ≤ t1_1.toInt) := b228
    replace b229 : q_F (t1_2.toInt ≤ y220.toInt) := b229
    replace b230 : q_F (y220.toInt ≤ t1_2.toInt) := b230
    replace b231 : q_F (t1_3.toInt ≤ y221.toInt) := b231
    replace b232 : q_F (y221.toInt ≤ t1_3.toInt) := b232
    replace b233 : q_F (t1_4.toInt ≤ y222.toInt) := b233
    replace b234 : q_F (y222.toInt ≤ t1_4.toInt) := b234
    replace b235 : q_F (t1_5.toInt ≤ y223.toInt) := b235
    replace b236 : q_F (y223.toInt ≤ t1_5.toInt) := b236
    replace b237 : q_F (t1_6.toInt ≤ y224.toInt) := b237
    replace b238 : q_F (y224.toInt ≤ t1_6.toInt) := b238
    replace hT0 := (hu240 _ (by decide)).trans hT0
    replace hT2 := (hu240 _ (by decide)).trans hT2
    replace hT3 := (hu240 _ (by decide)).trans hT3
    replace hT9 := (hu240 _ (by decide)).trans hT9
    replace hT10 := (hu240 _ (by decide)).trans hT10
    replace hT11 := (hu240 _ (by decide)).trans hT11
    replace hT12 := (hu240 _ (by decide)).trans hT12
    replace hT13 := (hu240 _ (by decide)).trans hT13
    replace hF := q_uc hF hu240 (by simp)
    have hR251 := (show F_NM_numeral_c11 x2 x3 t0_0 t0_1 t0_2 t1_0 t1_1 t1_2 t1_3 t1_4 t1_5 t1_6 t2_0 t3_0 t4_0 t4_1 t4_2 t4_3 t4_4 t4_5 t4_6 t4_7 t4_8 t4_9 t4_10 t5_0 t6_0 t7_0 t8_0 t9_0 t9_1 t9_2 t9_3 t9_4 t9_5 t9_6 t9_7 t9_8 t9_9 t9_10 t9_11 t9_12 t9_13 t9_14 t9_15 t9_16 t9_17 t9_18 t9_19 t9_20 t9_21 t10_0 t11_0 t12_0 t13_0 p241 = (F_NM_numeral x2 x3 t0_0 t0_1 t0_2 t1_0 t1_1 t1_2 t1_3 t1_4 t1_5 t1_6 t2_0 t3_0 t4_0 t4_1 t4_2 t4_3 t4_4 t4_5 t4_6 t4_7 t4_8 t4_9 t4_10 t5_0 t6_0 t7_0 t8_0 t9_0 t9_1 t9_2 t9_3 t9_4 t9_5 t9_6 t9_7 t9_8 t9_9 t9_10 t9_11 t9_12 t9_13 t9_14 t9_15 t9_16 t9_17 t9_18 t9_19 t9_20 t9_21 t10_0 t11_0 t12_0 t13_0) from (by rw [e242, F_NM_numeral.eq_1, if_pos c92]))
    have hS252 := (show True ∧ S_NM_numeral_c11 x2 x3 t0_0 t0_1 t0_2 t1_0 t1_1 t1_2 t1_3 t1_4 t1_5 t1_6 t2_0 t3_0 t4_0 t4_1 t4_2 t4_3 t4_4 t4_5 t4_6 t4_7 t4_8 t4_9 t4_10 t5_0 t6_0 t7_0 t8_0 t9_0 t9_1 t9_2 t9_3 t9_4 t9_5 t9_6 t9_7 t9_8 t9_9 t9_10 t9_11 t9_12 t9_13 t9_14 t9_15 t9_16 t9_17 t9_18 t9_19 t9_20 t9_21 t10_0 t11_0 t12_0 t13_0 p241 from (by rw [e242]; have h := hS; rw [S_NM_numeral.eq_1] at h; rw [if_pos c92] at h; replace h := q_s2 h; with_reducible exact h))
    refine q_ldc2 C0 rfl w_3073 d_14_36_14 ?_
    refine W.lcmp hx hb d_14_36_17 ?_
    obtain ⟨a256, e257⟩ := q_nm (lg_cmp j216 63 : Int32)
    refine q_ti (v := a256) e257 ?_
    refine q_join (X := Int32) (fun z H locs ls _ => q_F (x2.toInt ≤ z.toInt) ∧ q_F (z.toInt ≤ x2.toInt + 2) ∧ q_Wd D g (va_A ws sz) s u214 H locs ∧ lv_has ls 4 [(0, .ref (q 116)), (2, .int x3)] ∧ F_NM_numeral_J26 x2 x3 t0_0 t0_1 t0_2 t1_0 t1_1 t1_2 t1_3 t1_4 t1_5 t1_6 t2_0 t3_0 t4_0 t4_1 t4_2 t4_3 t4_4 t4_5 t4_6 t4_7 t4_8 t4_9 t4_10 t5_0 t6_0 t7_0 t8_0 t9_0 t9_1 t9_2 t9_3 t9_4 t9_5 t9_6 t9_7 t9_8 t9_9 t9_10 t9_11 t9_12 t9_13 t9_14 t9_15 t9_16 t9_17 t9_18 t9_19 t9_20 t9_21 t10_0 t11_0 t12_0 t13_0 p241 y218 y219 y220 y221 y222 y223 y224 z = (F_NM_numeral x2 x3 t0_0 t0_1 t0_2 t1_0 t1_1 t1_2 t1_3 t1_4 t1_5 t1_6 t2_0 t3_0 t4_0 t4_1 t4_2 t4_3 t4_4 t4_5 t4_6 t4_7 t4_8 t4_9 t4_10 t5_0 t6_0 t7_0 t8_0 t9_0 t9_1 t9_2 t9_3 t9_4 t9_5 t9_6 t9_7 t9_8 t9_9 t9_10 t9_11 t9_12 t9_13 t9_14 t9_15 t9_16 t9_17 t9_18 t9_19 t9_20 t9_21 t10_0 t11_0 t12_0 t13_0) ∧ True ∧ S_NM_numeral_J26 x2 x3 t0_0 t0_1 t0_2 t1_0 t1_1 t1_2 t1_3 t1_4 t1_5 t1_6 t2_0 t3_0 t4_0 t4_1 t4_2 t4_3 t4_4 t4_5 t4_6 t4_7 t4_8 t4_9 t4_10 t5_0 t6_0 t7_0 t8_0 t9_0 t9_1 t9_2 t9_3 t9_4 t9_5 t9_6 t9_7 t9_8 t9_9 t9_10 t9_11 t9_12 t9_13 t9_14 t9_15 t9_16 t9_17 t9_18 t9_19 t9_20 t9_21 t10_0 t11_0 t12_0 t13_0 p241 y218 y219 y220 y221 y222 y223 y224 z) (fun z => [.int z, .ref (q 116)]) 26 0 0 ?_ ?_
    ·
      rintro lx259 H locs ls _ hZ9
      obtain ⟨i275, hZ9⟩ := hZ9
      obtain ⟨i276, hZ9⟩ := hZ9
      obtain ⟨V, hZ9⟩ := hZ9
      obtain ⟨hl, hZ9⟩ := hZ9
      obtain ⟨hR277, hS278⟩ := hZ9
      replace i275 : q_F (x2.toInt ≤ lx259.toInt) := i275
      replace i276 : q_F (lx259.toInt ≤ x2.toInt + 2) := i276
      replace hl : lv_has ls 4 [(0, .ref (q 116)), (2, .int x3)] := hl
      refine q_put (ci := 12) (j := 0) (v := .int lx259) (ty := .int) C0 V i_NM o_NM n_NM rfl rfl hT0 (by decide) w_2298 rfl rfl rfl rfl (Nat.le_of_ble_eq_true rfl) d_14_36_26 (fun H locs w282 hu283 hT0 V => ?_)
      replace hT0 : w282[116]? = (some (q 116, .inr (12, [.int lx259, .ref (q 117), .int t0_1, .ref (q 118), .int t0_2, .ref (q 119), .ref (q 134), .ref (q 145), .ref (q 153), .ref (q 157), .ref (q 167), .ref (q 168)])) : Option (Nat × va_E)) := hT0
      replace hI := n_p116 hI hu283 hT0 (by first | with_reducible exact q_fe btt0_1 | exact ⟨(by have t1 : 0 ≤ t0_1.toInt ∧ t0_1.toInt ≤ 4100 := btt0_1; omega), (by have t1 : 0 ≤ t0_1.toInt ∧ t0_1.toInt ≤ 4100 := btt0_1; omega)⟩) (by first | with_reducible exact q_fe btt0_2 | exact ⟨(by have t1 : 0 ≤ t0_2.toInt ∧ t0_2.toInt ≤ 12200 := btt0_2; omega), (by have t1 : 0 ≤ t0_2.toInt ∧ t0_2.toInt ≤ 12200 := btt0_2; omega)⟩)
      replace hO217 := (hu283 _ (by decide)).trans hO217
      replace hT2 := (hu283 _ (by decide)).trans hT2
      replace hT3 := (hu283 _ (by decide)).trans hT3
      replace hT9 := (hu283 _ (by decide)).trans hT9
      replace hT10 := (hu283 _ (by decide)).trans hT10
      replace hT11 := (hu283 _ (by decide)).trans hT11
      replace hT12 := (hu283 _ (by decide)).trans hT12
      replace hT13 := (hu283 _ (by decide)).trans hT13
      replace hF := q_us hF hu283 (by simp)
      refine lv_aload_n hx hb d_14_36_29 rfl (lv_at hl 0 rfl) ?_
      refine q_get (ci := 12) (j := 0) (v := .int lx259) C0 V i_NM rfl rfl hT0 (by decide) w_2298 rfl d_14_36_30 ?_
      refine lv_if_le (tgt := 40) hx hb d_14_36_33 (by decide) (fun c284 => ?_) (fun c284 => ?_)
      ·
        have b285 : q_F (lx259.toInt ≤ 0) := (q_leI c284)
        refine lv_aload_n hx hb d_14_36_40 rfl (lv_at hl 0 rfl) ?_
        refine q_get (ci := 12) (j := 9) (v := .ref (q 157)) C0 V i_NM rfl rfl hT0 (by decide) w_2307 rfl d_14_36_41 ?_
        refine lv_bipush (v := 64) hx hb d_14_36_44 (by decide) ?_
        refine lv_aload_n hx hb d_14_36_46 rfl (lv_at hl 0 rfl) ?_
        refine q_get (ci := 12) (j := 5) (v := .ref (q 119)) C0 V i_NM rfl rfl hT0 (by decide) w_2303 rfl d_14_36_47 ?_
        refine lv_iload_n hx hb d_14_36_50 rfl (lv_at hl 1 rfl) ?_
        refine lv_iconst (v := 0) hx hb d_14_36_51 (by decide) ?_
        have ob286 : True ∧ S_WR_told x3 (0 : Int32) y218 y219 y220 y221 y222 y223 y224 t2_0 t3_0 := (by have h := hS278; rw [S_NM_numeral_J26.eq_1] at h; rw [if_pos c284] at h; with_reducible exact h.2.1)
        refine q_gol V (q_runV (As := [.int x3, .int 0]) (rest := [.int 64, .ref (q 157)]) (d := 2) (mc := 0) (ms := 0) (ci := 13) C0 V rfl LV_NM_131 (X_WR_told l D g q w282  x3 0 hI y218 y219 y220 y221 y222 y223 y224 hO217 t2_0 hT2 t3_0 hT3 ob286 _) rfl rfl hO217 rfl hl.1 rfl (Nat.le_of_ble_eq_true rfl) ⟨by decide, by decide⟩ ⟨Nat.le_of_ble_eq_true rfl, Nat.le_of_ble_eq_true rfl⟩ d_14_36_52) (fun j289 u287 H locs hp288 V => ?_)
        obtain ⟨hI, hZ9⟩ := hp288
        obtain ⟨hu313, hZ9⟩ := hZ9
        obtain ⟨y291, hZ9⟩ := hZ9
        obtain ⟨y292, hZ9⟩ := hZ9
        obtain ⟨y293, hZ9⟩ := hZ9
        obtain ⟨y294, hZ9⟩ := hZ9
        obtain ⟨y295, hZ9⟩ := hZ9
        obtain ⟨y296, hZ9⟩ := hZ9
        obtain ⟨y297, hZ9⟩ := hZ9
        obtain ⟨hO290, hZ9⟩ := hZ9
        replace hZ9 := hZ9.2.2
        obtain ⟨b300, hZ9⟩ := hZ9
        obtain ⟨b301, hZ9⟩ := hZ9
        obtain ⟨b302, hZ9⟩ := hZ9
        obtain ⟨b303, hZ9⟩ := hZ9
        obtain ⟨b304, hZ9⟩ := hZ9
        obtain ⟨b305, hZ9⟩ := hZ9
        obtain ⟨b306, hZ9⟩ := hZ9
        obtain ⟨b307, hZ9⟩ := hZ9
        obtain ⟨b308, hZ9⟩ := hZ9
        obtain ⟨b309, hZ9⟩ := hZ9
        obtain ⟨b310, hZ9⟩ := hZ9
        obtain ⟨b311, hE312⟩ := hZ9
        replace hO290 : u287[119]? = (some (q 119, .inr (13, [.int y291, .int y292, .ref (q 120), .int y293, .ref (q 121), .ref (q 122), .ref (q 123), .int y294, .ref (q 124), .ref (q 125), .ref (q 126), .ref (q 127), .ref (q 128), .ref (q 129), .ref (q 130), .ref (q 131), .int y295, .int y296, .ref (q 132), .ref (q 133), .int y297])) : Option (Nat × va_E)) := hO290
        obtain ⟨p314, e315⟩ : ∃ z, z = (F_WR_told x3 (0 : Int32) y218 y219 y220 y221 y222 y223 y224 t2_0 t3_0) := ⟨_, rfl⟩
        have e316 : j289 = p314.1 := congrArg (fun z => z.1) (hE312.trans e315.symm)
        have e317 : y291 = p314.2.1 := congrArg (fun z => z.2.1) (hE312.trans e315.symm)
        have e318 : y292 = p314.2.2.1 := congrArg (fun z => z.2.2.1) (hE312.trans e315.symm)
        have e319 : y293 = p314.2.2.2.1 := congrArg (fun z => z.2.2.2.1) (hE312.trans e315.symm)
        have e320 : y294 = p314.2.2.2.2.1 := congrArg (fun z => z.2.2.2.2.1) (hE312.trans e315.symm)
        have e321 : y295 = p314.2.2.2.2.2.1 := congrArg (fun z => z.2.2.2.2.2.1) (hE312.trans e315.symm)
        have e322 : y296 = p314.2.2.2.2.2.2.1 := congrArg (fun z => z.2.2.2.2.2.2.1) (hE312.trans e315.symm)
        have e323 : y297 = p314.2.2.2.2.2.2.2 := congrArg (fun z => z.2.2.2.2.2.2.2) (hE312.trans e315.symm)
        replace b300 : q_F (y219.toInt ≤ y292.toInt) := b300
        replace b301 : q_F (y292.toInt ≤ y219.toInt) := b301
        replace b302 : q_F (y220.toInt ≤ y293.toInt) := b302
        replace b303 : q_F (y293.toInt ≤ y220.toInt) := b303
        replace b304 : q_F (y221.toInt ≤ y294.toInt) := b304
        replace b305 : q_F (y294.toInt ≤ y221.toInt) := b305
        replace b306 : q_F (y222.toInt ≤ y295.toInt) := b306
        replace b307 : q_F (y295.toInt ≤ y222.toInt) := b307
        replace b308 : q_F (y223.toInt ≤ y296.toInt) := b308
        replace b309 : q_F (y296.toInt ≤ y223.toInt) := b309
        replace b310 : q_F (y224.toInt ≤ y297.toInt) := b310
        replace b311 : q_F (y297.toInt ≤ y224.toInt) := b311
        replace hT0 := (hu313 _ (by decide)).trans hT0
        replace hT9 := (hu313 _ (by decide)).trans hT9
        replace hT10 := (hu313 _ (by decide)).trans hT10
        replace hT11 := (hu313 _ (by decide)).trans hT11
        replace hT12 := (hu313 _ (by decide)).trans hT12
        replace hT13 := (hu313 _ (by decide)).trans hT13
        replace hF := q_uc hF hu313 (by simp)
        have hR324 := (show F_NM_numeral_c52 x2 x3 t0_0 t0_1 t0_2 t1_0 t1_1 t1_2 t1_3 t1_4 t1_5 t1_6 t2_0 t3_0 t4_0 t4_1 t4_2 t4_3 t4_4 t4_5 t4_6 t4_7 t4_8 t4_9 t4_10 t5_0 t6_0 t7_0 t8_0 t9_0 t9_1 t9_2 t9_3 t9_4 t9_5 t9_6 t9_7 t9_8 t9_9 t9_10 t9_11 t9_12 t9_13 t9_14 t9_15 t9_16 t9_17 t9_18 t9_19 t9_20 t9_21 t10_0 t11_0 t12_0 t13_0 p241 y218 y219 y220 y221 y222 y223 y224 lx259 p314 = (F_NM_numeral x2 x3 t0_0 t0_1 t0_2 t1_0 t1_1 t1_2 t1_3 t1_4 t1_5 t1_6 t2_0 t3_0 t4_0 t4_1 t4_2 t4_3 t4_4 t4_5 t4_6 t4_7 t4_8 t4_9 t4_10 t5_0 t6_0 t7_0 t8_0 t9_0 t9_1 t9_2 t9_3 t9_4 t9_5 t9_6 t9_7 t9_8 t9_9 t9_10 t9_11 t9_12 t9_13 t9_14 t9_15 t9_16 t9_17 t9_18 t9_19 t9_20 t9_21 t10_0 t11_0 t12_0 t13_0) from Eq.trans (by rw [e315, F_NM_numeral_J26.eq_1, if_pos c284]) hR277)
        have hS325 := (show True ∧ S_NM_numeral_c52 x2 x3 t0_0 t0_1 t0_2 t1_0 t1_1 t1_2 t1_3 t1_4 t1_5 t1_6 t2_0 t3_0 t4_0 t4_1 t4_2 t4_3 t4_4 t4_5 t4_6 t4_7 t4_8 t4_9 t4_10 t5_0 t6_0 t7_0 t8_0 t9_0 t9_1 t9_2 t9_3 t9_4 t9_5 t9_6 t9_7 t9_8 t9_9 t9_10 t9_11 t9_12 t9_13 t9_14 t9_15 t9_16 t9_17 t9_18 t9_19 t9_20 t9_21 t10_0 t11_0 t12_0 t13_0 p241 y218 y219 y220 y221 y222 y223 y224 lx259 p314 from (by rw [e315]; have h := hS278; rw [S_NM_numeral_J26.eq_1] at h; rw [if_pos c284] at h; replace h := q_s2 h; with_reducible exact h))
        refine q_goi V (q_runV (As := [.int 64, .long j289]) (rest := []) (d := 2) (mc := 0) (ms := 0) (ci := 17) C0 V rfl LV_NM_299 (X_VR_whole l D g q u287  64 j289 hI t9_0 t9_1 t9_2 t9_3 t9_4 t9_5 t9_6 t9_7 t9_8 t9_9 t9_10 t9_11 t9_12 t9_13 t9_14 t9_15 t9_16 t9_17 t9_18 t9_19 t9_20 t9_21 hT9 t10_0 hT10 t11_0 hT11 t12_0 hT12  _) rfl rfl hT9 rfl hl.1 rfl (Nat.le_of_ble_eq_true rfl) ⟨by decide, by decide⟩ ⟨Nat.le_of_ble_eq_true rfl, Nat.le_of_ble_eq_true rfl⟩ d_14_36_55) (fun a331 u329 H locs hp330 V => ?_)
        obtain ⟨hI, hZ9⟩ := hp330
        obtain ⟨hu349, hZ9⟩ := hZ9
        obtain ⟨y333, hZ9⟩ := hZ9
        obtain ⟨y334, hZ9⟩ := hZ9
        obtain ⟨f335, hZ9⟩ := hZ9
        obtain ⟨f337, hZ9⟩ := hZ9
        obtain ⟨f339, hZ9⟩ := hZ9
        obtain ⟨hO332, hZ9⟩ := hZ9
        obtain ⟨hA336, hZ9⟩ := hZ9
        obtain ⟨hA338, hZ9⟩ := hZ9
        obtain ⟨hA340, hZ9⟩ := hZ9
        obtain ⟨b341, hZ9⟩ := hZ9
        replace hZ9 := hZ9.2
        obtain ⟨b343, hZ9⟩ := hZ9
        obtain ⟨b344, hZ9⟩ := hZ9
        obtain ⟨b345, hZ9⟩ := hZ9
        obtain ⟨b346, hZ9⟩ := hZ9
        obtain ⟨b347, hE348⟩ := hZ9
        replace hO332 : u329[157]? = (some (q 157, .inr (17, [.int y333, .ref (q 158), .int t9_1, .int y334, .ref (q 159), .ref (q 160), .ref (q 161), .ref (q 162), .ref (q 163), .int t9_3, .ref (q 164), .int t9_4, .int t9_5, .int t9_6, .int t9_7, .int t9_8, .int t9_9, .int t9_10, .int t9_11, .int t9_12, .int t9_13, .int t9_14, .int t9_15, .int t9_16, .ref (q 165), .int t9_17, .int t9_18, .int t9_19, .ref (q 166), .int t9_20, .int t9_21])) : Option (Nat × va_E)) := hO332
        replace hA336 : u329[159]? = (some (q 159, .inl (g 0, (9 : Int32).toNatClampNeg, .inl f335)) : Option (Nat × va_E)) := hA336
        replace hA338 : u329[160]? = (some (q 160, .inl (g 0, (9 : Int32).toNatClampNeg, .inl f337)) : Option (Nat × va_E)) := hA338
        replace hA340 : u329[161]? = (some (q 161, .inl (g 1, 9, .inr (.inl f339))) : Option (Nat × va_E)) := hA340
        obtain ⟨p350, e351⟩ : ∃ z, z = (F_VR_whole (64 : Int32) j289 t9_0 t9_1 t9_2 t9_3 t9_4 t9_5 t9_6 t9_7 t9_8 t9_9 t9_10 t9_11 t9_12 t9_13 t9_14 t9_15 t9_16 t9_17 t9_18 t9_19 t9_20 t9_21 t10_0 t11_0 t12_0) := ⟨_, rfl⟩
        have e352 : a331 = p350.1 := congrArg (fun z => z.1) (hE348.trans e351.symm)
        have e353 : y333 = p350.2.1 := congrArg (fun z => z.2.1) (hE348.trans e351.symm)
        have e354 : y334 = p350.2.2.1 := congrArg (fun z => z.2.2.1) (hE348.trans e351.symm)
        have e355 : f335 = p350.2.2.2.1 := congrArg (fun z => z.2.2.2.1) (hE348.trans e351.symm)
        have e356 : f337 = p350.2.2.2.2.1 := congrArg (fun z => z.2.2.2.2.1) (hE348.trans e351.symm)
        have e357 : f339 = p350.2.2.2.2.2 := congrArg (fun z => z.2.2.2.2.2) (hE348.trans e351.symm)
        replace b341 : q_F (0 ≤ y333.toInt) := b341
        replace b343 : q_F (y334.toInt ≤ 9) := b343
        replace b344 : q_F (t9_2.toInt ≤ y334.toInt) := b344
        replace b345 : q_F (y334.toInt ≤ t9_2.toInt + 1) := b345
        replace b346 : q_F (y333.toInt ≤ a331.toInt + 1) := b346
        replace b347 : q_F (a331.toInt ≤ y334.toInt) := b347
        replace hT0 := (hu349 _ (by decide)).trans hT0
        replace hO290 := (hu349 _ (by decide)).trans hO290
        replace hT13 := (hu349 _ (by decide)).trans hT13
        replace hF := q_uc hF hu349 (by simp)
        have hR358 := (show F_NM_numeral_c55 x2 x3 t0_0 t0_1 t0_2 t1_0 t1_1 t1_2 t1_3 t1_4 t1_5 t1_6 t2_0 t3_0 t4_0 t4_1 t4_2 t4_3 t4_4 t4_5 t4_6 t4_7 t4_8 t4_9 t4_10 t5_0 t6_0 t7_0 t8_0 t9_0 t9_1 t9_2 t9_3 t9_4 t9_5 t9_6 t9_7 t9_8 t9_9 t9_10 t9_11 t9_12 t9_13 t9_14 t9_15 t9_16 t9_17 t9_18 t9_19 t9_20 t9_21 t10_0 t11_0 t12_0 t13_0 p241 y218 y219 y220 y221 y222 y223 y224 lx259 p314 y291 y292 y293 y294 y295 y296 y297 p350 = (F_NM_numeral x2 x3 t0_0 t0_1 t0_2 t1_0 t1_1 t1_2 t1_3 t1_4 t1_5 t1_6 t2_0 t3_0 t4_0 t4_1 t4_2 t4_3 t4_4 t4_5 t4_6 t4_7 t4_8 t4_9 t4_10 t5_0 t6_0 t7_0 t8_0 t9_0 t9_1 t9_2 t9_3 t9_4 t9_5 t9_6 t9_7 t9_8 t9_9 t9_10 t9_11 t9_12 t9_13 t9_14 t9_15 t9_16 t9_17 t9_18 t9_19 t9_20 t9_21 t10_0 t11_0 t12_0 t13_0) from Eq.trans (by rw [e351, e323, e322, e321, e320, e319, e318, e317, e316, F_NM_numeral_c52.eq_1]) hR324)
        have hS359 := (show True ∧ S_NM_numeral_c55 x2 x3 t0_0 t0_1 t0_2 t1_0 t1_1 t1_2 t1_3 t1_4 t1_5 t1_6 t2_0 t3_0 t4_0 t4_1 t4_2 t4_3 t4_4 t4_5 t4_6 t4_7 t4_8 t4_9 t4_10 t5_0 t6_0 t7_0 t8_0 t9_0 t9_1 t9_2 t9_3 t9_4 t9_5 t9_6 t9_7 t9_8 t9_9 t9_10 t9_11 t9_12 t9_13 t9_14 t9_15 t9_16 t9_17 t9_18 t9_19 t9_20 t9_21 t10_0 t11_0 t12_0 t13_0 p241 y218 y219 y220 y221 y222 y223 y224 lx259 p314 y291 y292 y293 y294 y295 y296 y297 p350 from (by rw [e351, e323, e322, e321, e320, e319, e318, e317, e316]; have h := hS325; rw [S_NM_numeral_c52.eq_1] at h; with_reducible exact h))
        exact q_reti C0 V (⟨hI, hF, lx259, y291, y292, y293, y294, y295, y296, y297, y333, y334, f335, f337, f339, t13_0, hT0, hO290, hO332, hA336, hA338, hA340, hT13, (show 0 ≤ a331.toInt + 1 from (by have t1 : 0 ≤ y333.toInt := b341; have t2 : y333.toInt ≤ a331.toInt + 1 := b346; omega)), (show 0 ≤ lx259.toInt from (by have t1 : x2.toInt = 0 := b212; have t2 : x2.toInt ≤ lx259.toInt := i275; omega)), (show lx259.toInt ≤ 2 from (by first | with_reducible exact q_fe b285 | (have t1 : lx259.toInt ≤ 0 := b285; omega))), (show y334.toInt ≤ 9 from (by first | with_reducible exact q_fe b343 | (have t1 : y334.toInt ≤ 9 := b343; omega))), (show t1_1.toInt ≤ y292.toInt from (by have t1 : t1_1.toInt ≤ y219.toInt := b227; have t2 : y219.toInt ≤ y292.toInt := b300; omega)), (show y292.toInt ≤ t1_1.toInt from (by have t1 : y219.toInt ≤ t1_1.toInt := b228; have t2 : y292.toInt ≤ y219.toInt := b301; omega)), (show t1_2.toInt ≤ y293.toInt from (by have t1 : t1_2.toInt ≤ y220.toInt := b229; have t2 : y220.toInt ≤ y293.toInt := b302; omega)), (show y293.toInt ≤ t1_2.toInt from (by have t1 : y220.toInt ≤ t1_2.toInt := b230; have t2 : y293.toInt ≤ y220.toInt := b303; omega)), (show t1_3.toInt ≤ y294.toInt from (by have t1 : t1_3.toInt ≤ y221.toInt := b231; have t2 : y221.toInt ≤ y294.toInt := b304; omega)), (show y294.toInt ≤ t1_3.toInt from (by have t1 : y221.toInt ≤ t1_3.toInt := b232; have t2 : y294.toInt ≤ y221.toInt := b305; omega)), (show t1_4.toInt ≤ y295.toInt from (by have t1 : t1_4.toInt ≤ y222.toInt := b233; have t2 : y222.toInt ≤ y295.toInt := b306; omega)), (show y295.toInt ≤ t1_4.toInt from (by have t1 : y222.toInt ≤ t1_4.toInt := b234; have t2 : y295.toInt ≤ y222.toInt := b307; omega)), (show t1_5.toInt ≤ y296.toInt from (by have t1 : t1_5.toInt ≤ y223.toInt := b235; have t2 : y223.toInt ≤ y296.toInt := b308; omega)), (show y296.toInt ≤ t1_5.toInt from (by have t1 : y223.toInt ≤ t1_5.toInt := b236; have t2 : y296.toInt ≤ y223.toInt := b309; omega)), (show t1_6.toInt ≤ y297.toInt from (by have t1 : t1_6.toInt ≤ y224.toInt := b237; have t2 : y224.toInt ≤ y297.toInt := b310; omega)), (show y297.toInt ≤ t1_6.toInt from (by have t1 : y224.toInt ≤ t1_6.toInt := b238; have t2 : y297.toInt ≤ y224.toInt := b311; omega)), (show t9_2.toInt ≤ y334.toInt from (by first | with_reducible exact q_fe b344 | (have t1 : t9_2.toInt ≤ y334.toInt := b344; omega))), (show y334.toInt ≤ t9_2.toInt + 1 from (by first | with_reducible exact q_fe b345 | (have t1 : y334.toInt ≤ t9_2.toInt + 1 := b345; omega))), (show lx259.toInt ≤ a331.toInt + 2 from (by have t1 : lx259.toInt ≤ 0 := b285; have t2 : 0 ≤ y333.toInt := b341; have t3 : y333.toInt ≤ a331.toInt + 1 := b346; omega)), (show a331.toInt ≤ y334.toInt from (by first | with_reducible exact q_fe b347 | (have t1 : a331.toInt ≤ y334.toInt := b347; omega))), (show (a331, lx259, y291, y292, y293, y294, y295, y296, y297, y333, y334, f335, f337, f339, t13_0) = (F_NM_numeral x2 x3 t0_0 t0_1 t0_2 t1_0 t1_1 t1_2 t1_3 t1_4 t1_5 t1_6 t2_0 t3_0 t4_0 t4_1 t4_2 t4_3 t4_4 t4_5 t4_6 t4_7 t4_8 t4_9 t4_10 t5_0 t6_0 t7_0 t8_0 t9_0 t9_1 t9_2 t9_3 t9_4 t9_5 t9_6 t9_7 t9_8 t9_9 t9_10 t9_11 t9_12 t9_13 t9_14 t9_15 t9_16 t9_17 t9_18 t9_19 t9_20 t9_21 t10_0 t11_0 t12_0 t13_0) from Eq.trans (by rw [e357, e356, e355, e354, e353, e352, F_NM_numeral_c55.eq_1]) hR358)⟩) d_14_36_58
      ·
        have b363 : q_F (0 < lx259.toInt) := (q_nleI c284)
        refine lv_iconst (v := 0) hx hb d_14_36_36 (by decide) ?_
        refine lv_goto (tgt := 58) hx hb d_14_36_37 (by decide) ?_
        exact q_reti C0 V (⟨hI, hF, lx259, y218, y219, y220, y221, y222, y223, y224, t9_0, t9_2, t10_0, t11_0, t12_0, t13_0, hT0, hO217, hT9, hT10, hT11, hT12, hT13, (show 0 ≤ (0 : Int32).toInt + 1 from (by have z55 : (0 : Int32).toInt = 0 := rfl; omega)), (show 0 ≤ lx259.toInt from (by have z55 : (0 : Int32).toInt = 0 := rfl; have t1 : 0 < lx259.toInt := b363; omega)), (show lx259.toInt ≤ 2 from (by have z55 : (0 : Int32).toInt = 0 := rfl; have t1 : x2.toInt = 0 := b212; have t2 : lx259.toInt ≤ x2.toInt + 2 := i276; omega)), (show t9_2.toInt ≤ 9 from (by have z55 : (0 : Int32).toInt = 0 := rfl; have t1 : 0 ≤ t9_2.toInt ∧ t9_2.toInt ≤ 9 := btt9_2; omega)), (show t1_1.toInt ≤ y219.toInt from (by have z55 : (0 : Int32).toInt = 0 := rfl; have t1 : t1_1.toInt ≤ y219.toInt := b227; omega)), (show y219.toInt ≤ t1_1.toInt from (by have z55 : (0 : Int32).toInt = 0 := rfl; have t1 : y219.toInt ≤ t1_1.toInt := b228; omega)), (show t1_2.toInt ≤ y220.toInt from (by have z55 : (0 : Int32).toInt = 0 := rfl; have t1 : t1_2.toInt ≤ y220.toInt := b229; omega)), (show y220.toInt ≤ t1_2.toInt from (by have z55 : (0 : Int32).toInt = 0 := rfl; have t1 : y220.toInt ≤ t1_2.toInt := b230; omega)), (show t1_3.toInt ≤ y221.toInt from (by have z55 : (0 : Int32).toInt = 0 := rfl; have t1 : t1_3.toInt ≤ y221.toInt := b231; omega)), (show y221.toInt ≤ t1_3.toInt from (by have z55 : (0 : Int32).toInt = 0 := rfl; have t1 : y221.toInt ≤ t1_3.toInt := b232; omega)), (show t1_4.toInt ≤ y222.toInt from (by have z55 : (0 : Int32).toInt = 0 := rfl; have t1 : t1_4.toInt ≤ y222.toInt := b233; omega)), (show y222.toInt ≤ t1_4.toInt from (by have z55 : (0 : Int32).toInt = 0 := rfl; have t1 : y222.toInt ≤ t1_4.toInt := b234; omega)), (show t1_5.toInt ≤ y223.toInt from (by have z55 : (0 : Int32).toInt = 0 := rfl; have t1 : t1_5.toInt ≤ y223.toInt := b235; omega)), (show y223.toInt ≤ t1_5.toInt from (by have z55 : (0 : Int32).toInt = 0 := rfl; have t1 : y223.toInt ≤ t1_5.toInt := b236; omega)), (show t1_6.toInt ≤ y224.toInt from (by have z55 : (0 : Int32).toInt = 0 := rfl; have t1 : t1_6.toInt ≤ y224.toInt := b237; omega)), (show y224.toInt ≤ t1_6.toInt from (by have z55 : (0 : Int32).toInt = 0 := rfl; have t1 : y224.toInt ≤ t1_6.toInt := b238; omega)), (show t9_2.toInt ≤ t9_2.toInt from (by have z55 : (0 : Int32).toInt = 0 := rfl; omega)), (show t9_2.toInt ≤ t9_2.toInt + 1 from (by have z55 : (0 : Int32).toInt = 0 := rfl; omega)), (show lx259.toInt ≤ (0 : Int32).toInt + 2 from (by have z55 : (0 : Int32).toInt = 0 := rfl; have t1 : x2.toInt = 0 := b212; have t2 : lx259.toInt ≤ x2.toInt + 2 := i276; omega)), (show (0 : Int32).toInt ≤ t9_2.toInt from (by have z55 : (0 : Int32).toInt = 0 := rfl; have t1 : 0 ≤ t9_2.toInt ∧ t9_2.toInt ≤ 9 := btt9_2; omega)), (show ((0 : Int32), lx259, y218, y219, y220, y221, y222, y223, y224, t9_0, t9_2, t10_0, t11_0, t12_0, t13_0) = (F_NM_numeral x2 x3 t0_0 t0_1 t0_2 t1_0 t1_1 t1_2 t1_3 t1_4 t1_5 t1_6 t2_0 t3_0 t4_0 t4_1 t4_2 t4_3 t4_4 t4_5 t4_6 t4_7 t4_8 t4_9 t4_10 t5_0 t6_0 t7_0 t8_0 t9_0 t9_1 t9_2 t9_3 t9_4 t9_5 t9_6 t9_7 t9_8 t9_9 t9_10 t9_11 t9_12 t9_13 t9_14 t9_15 t9_16 t9_17 t9_18 t9_19 t9_20 t9_21 t10_0 t11_0 t12_0 t13_0) from Eq.trans (by rw [F_NM_numeral_J26.eq_1, if_neg c284]) hR277)⟩) d_14_36_58
    ·
      intro J274
      refine lv_if_le (tgt := 25) hx hb d_14_36_18 (by decide) (fun c364 => ?_) (fun c364 => ?_)
      ·
        refine lv_iconst (v := 0) hx hb d_14_36_25 (by decide) ?_
        exact J274 ((0 : Int32)) _ _ _ u214 ⟨(show q_F (x2.toInt ≤ 0) from (show x2.toInt ≤ 0 from by have t1 : x2.toInt = 0 := b212; omega)), (show q_F (0 ≤ x2.toInt + 2) from (show 0 ≤ x2.toInt + 2 from by have t1 : x2.toInt = 0 := b212; omega)), V, q_lw hl (q_lw1 0 rfl (q_lw1 2 rfl q_lw0)), (show F_NM_numeral_J26 x2 x3 t0_0 t0_1 t0_2 t1_0 t1_1 t1_2 t1_3 t1_4 t1_5 t1_6 t2_0 t3_0 t4_0 t4_1 t4_2 t4_3 t4_4 t4_5 t4_6 t4_7 t4_8 t4_9 t4_10 t5_0 t6_0 t7_0 t8_0 t9_0 t9_1 t9_2 t9_3 t9_4 t9_5 t9_6 t9_7 t9_8 t9_9 t9_10 t9_11 t9_12 t9_13 t9_14 t9_15 t9_16 t9_17 t9_18 t9_19 t9_20 t9_21 t10_0 t11_0 t12_0 t13_0 p241 y218 y219 y220 y221 y222 y223 y224 0 = (F_NM_numeral x2 x3 t0_0 t0_1 t0_2 t1_0 t1_1 t1_2 t1_3 t1_4 t1_5 t1_6 t2_0 t3_0 t4_0 t4_1 t4_2 t4_3 t4_4 t4_5 t4_6 t4_7 t4_8 t4_9 t4_10 t5_0 t6_0 t7_0 t8_0 t9_0 t9_1 t9_2 t9_3 t9_4 t9_5 t9_6 t9_7 t9_8 t9_9 t9_10 t9_11 t9_12 t9_13 t9_14 t9_15 t9_16 t9_17 t9_18 t9_19 t9_20 t9_21 t10_0 t11_0 t12_0 t13_0) from Eq.trans (by have c364x := c364; rw [← e257, e243] at c364x; rw [e250, e249, e248, e247, e246, e245, e244, F_NM_numeral_c11.eq_1, if_pos c364x]) hR251), (show True ∧ S_NM_numeral_J26 x2 x3 t0_0 t0_1 t0_2 t1_0 t1_1 t1_2 t1_3 t1_4 t1_5 t1_6 t2_0 t3_0 t4_0 t4_1 t4_2 t4_3 t4_4 t4_5 t4_6 t4_7 t4_8 t4_9 t4_10 t5_0 t6_0 t7_0 t8_0 t9_0 t9_1 t9_2 t9_3 t9_4 t9_5 t9_6 t9_7 t9_8 t9_9 t9_10 t9_11 t9_12 t9_13 t9_14 t9_15 t9_16 t9_17 t9_18 t9_19 t9_20 t9_21 t10_0 t11_0 t12_0 t13_0 p241 y218 y219 y220 y221 y222 y223 y224 0 from (by rw [e250, e249, e248, e247, e246, e245, e244]; have h := hS252; rw [S_NM_numeral_c11.eq_1] at h; have c364x := c364; rw [← e257, e243] at c364x; rw [if_pos c364x] at h; with_reducible exact h))⟩
      ·
        refine lv_iconst (v := 2) hx hb d_14_36_21 (by decide) ?_
        refine lv_goto (tgt := 26) hx hb d_14_36_22 (by decide) ?_
        exact J274 ((2 : Int32)) _ _ _ u214 ⟨(show q_F (x2.toInt ≤ 2) from (show x2.toInt ≤ 2 from by have t1 : x2.toInt = 0 := b212; omega)), (show q_F (2 ≤ x2.toInt + 2) from (show 2 ≤ x2.toInt + 2 from by have t1 : x2.toInt = 0 := b212; omega)), V, q_lw hl (q_lw1 0 rfl (q_lw1 2 rfl q_lw0)), (show F_NM_numeral_J26 x2 x3 t0_0 t0_1 t0_2 t1_0 t1_1 t1_2 t1_3 t1_4 t1_5 t1_6 t2_0 t3_0 t4_0 t4_1 t4_2 t4_3 t4_4 t4_5 t4_6 t4_7 t4_8 t4_9 t4_10 t5_0 t6_0 t7_0 t8_0 t9_0 t9_1 t9_2 t9_3 t9_4 t9_5 t9_6 t9_7 t9_8 t9_9 t9_10 t9_11 t9_12 t9_13 t9_14 t9_15 t9_16 t9_17 t9_18 t9_19 t9_20 t9_21 t10_0 t11_0 t12_0 t13_0 p241 y218 y219 y220 y221 y222 y223 y224 2 = (F_NM_numeral x2 x3 t0_0 t0_1 t0_2 t1_0 t1_1 t1_2 t1_3 t1_4 t1_5 t1_6 t2_0 t3_0 t4_0 t4_1 t4_2 t4_3 t4_4 t4_5 t4_6 t4_7 t4_8 t4_9 t4_10 t5_0 t6_0 t7_0 t8_0 t9_0 t9_1 t9_2 t9_3 t9_4 t9_5 t9_6 t9_7 t9_8 t9_9 t9_10 t9_11 t9_12 t9_13 t9_14 t9_15 t9_16 t9_17 t9_18 t9_19 t9_20 t9_21 t10_0 t11_0 t12_0 t13_0) from Eq.trans (by have c364x := c364; rw [← e257, e243] at c364x; rw [e250, e249, e248, e247, e246, e245, e244, F_NM_numeral_c11.eq_1, if_neg c364x]) hR251), (show True ∧ S_NM_numeral_J26 x2 x3 t0_0 t0_1 t0_2 t1_0 t1_1 t1_2 t1_3 t1_4 t1_5 t1_6 t2_0 t3_0 t4_0 t4_1 t4_2 t4_3 t4_4 t4_5 t4_6 t4_7 t4_8 t4_9 t4_10 t5_0 t6_0 t7_0 t8_0 t9_0 t9_1 t9_2 t9_3 t9_4 t9_5 t9_6 t9_7 t9_8 t9_9 t9_10 t9_11 t9_12 t9_13 t9_14 t9_15 t9_16 t9_17 t9_18 t9_19 t9_20 t9_21 t10_0 t11_0 t12_0 t13_0 p241 y218 y219 y220 y221 y222 y223 y224 2 from (by rw [e250, e249, e248, e247, e246, e245, e244]; have h := hS252; rw [S_NM_numeral_c11.eq_1] at h; have c364x := c364; rw [← e257, e243] at c364x; rw [if_neg c364x] at h; with_reducible exact h))⟩

