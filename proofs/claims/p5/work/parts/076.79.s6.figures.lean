/-! NumberHouse, exactly: s6.figures -/
theorem d_1_18_0 : decode prog_1_method_18_code 0 = .ok (.iload_n 1, 1) := by decide +kernel
theorem d_1_18_1 : decode prog_1_method_18_code 1 = .ok (.iconst 2, 1) := by decide +kernel
theorem d_1_18_33 : decode prog_1_method_18_code 33 = .ok (.invokestatic 104, 3) := by decide +kernel
theorem d_1_18_36 : decode prog_1_method_18_code 36 = .ok (.iload_n 3, 1) := by decide +kernel
theorem d_1_18_80 : decode prog_1_method_18_code 80 = .ok (.invokestatic 104, 3) := by decide +kernel
theorem d_1_18_83 : decode prog_1_method_18_code 83 = .ok (.aload_n 0, 1) := by decide +kernel
theorem d_1_18_84 : decode prog_1_method_18_code 84 = .ok (.iload_n 1, 1) := by decide +kernel
theorem d_1_18_85 : decode prog_1_method_18_code 85 = .ok (.invokevirtual 130, 3) := by decide +kernel
theorem d_1_18_88 : decode prog_1_method_18_code 88 = .ok (.astore 6, 2) := by decide +kernel
theorem d_1_18_90 : decode prog_1_method_18_code 90 = .ok (.aload_n 0, 1) := by decide +kernel
theorem d_1_18_91 : decode prog_1_method_18_code 91 = .ok (.iload_n 1, 1) := by decide +kernel
theorem d_1_18_92 : decode prog_1_method_18_code 92 = .ok (.invokevirtual 157, 3) := by decide +kernel
theorem d_1_18_95 : decode prog_1_method_18_code 95 = .ok (.iload_n 2, 1) := by decide +kernel
theorem d_1_18_96 : decode prog_1_method_18_code 96 = .ok (.laload, 1) := by decide +kernel
theorem d_1_18_97 : decode prog_1_method_18_code 97 = .ok (.lstore 7, 2) := by decide +kernel
theorem d_1_18_99 : decode prog_1_method_18_code 99 = .ok (.aload 6, 2) := by decide +kernel
theorem d_1_18_101 : decode prog_1_method_18_code 101 = .ok (.lload 7, 2) := by decide +kernel
theorem d_1_18_103 : decode prog_1_method_18_code 103 = .ok (.invokevirtual 179, 3) := by decide +kernel
theorem d_1_18_106 : decode prog_1_method_18_code 106 = .ok (.invokestatic 138, 3) := by decide +kernel
theorem d_1_18_109 : decode prog_1_method_18_code 109 = .ok (.aload_n 0, 1) := by decide +kernel
theorem d_1_18_110 : decode prog_1_method_18_code 110 = .ok (.getfield 89, 3) := by decide +kernel
theorem d_1_18_113 : decode prog_1_method_18_code 113 = .ok (.aload 6, 2) := by decide +kernel
theorem d_1_18_115 : decode prog_1_method_18_code 115 = .ok (.lload 7, 2) := by decide +kernel
theorem d_1_18_117 : decode prog_1_method_18_code 117 = .ok (.iload_n 3, 1) := by decide +kernel
theorem d_1_18_118 : decode prog_1_method_18_code 118 = .ok (.iload 4, 2) := by decide +kernel
theorem d_1_18_120 : decode prog_1_method_18_code 120 = .ok (.iload 5, 2) := by decide +kernel
theorem d_1_18_122 : decode prog_1_method_18_code 122 = .ok (.invokevirtual 335, 3) := by decide +kernel
set_option maxRecDepth 100000 in
theorem w_1650 : (Cond.code ({ cls := "NumberHouse$Writer", name := "exactText", desc := "(LNumberHouse$Floats;JZII)V" } : MethodName) prog_12_method_10_code (7 : Nat) (none : Option ClassFile.FieldType)) ∈ q_tbl := q_of7 210 rfl (by decide +kernel)
set_option maxRecDepth 100000 in
theorem w_1647 : (Cond.methodLink "NumberHouse" (335 : Nat) ({ cls := "NumberHouse$Writer", name := "exactText", desc := "(LNumberHouse$Floats;JZII)V" } : MethodName)) ∈ q_tbl := q_of7 207 rfl (by decide +kernel)
set_option maxRecDepth 100000 in
theorem w_1648 : (Cond.instanceMethod ({ cls := "NumberHouse$Writer", name := "exactText", desc := "(LNumberHouse$Floats;JZII)V" } : MethodName)) ∈ q_tbl := q_of7 208 rfl (by decide +kernel)
set_option maxRecDepth 100000 in
theorem w_1649 : (Cond.selects "NumberHouse$Writer" ({ cls := "NumberHouse$Writer", name := "exactText", desc := "(LNumberHouse$Floats;JZII)V" } : MethodName) ({ cls := "NumberHouse$Writer", name := "exactText", desc := "(LNumberHouse$Floats;JZII)V" } : MethodName)) ∈ q_tbl := q_of7 209 rfl (by decide +kernel)
theorem LV_NH_335 : q_LV "NumberHouse" 335 y_Wri_exactText prog_12_method_10_code 7 none 5 := ⟨w_1650, w_11, w_1647, w_1648, w_1649, ⟨by decide, by decide, by decide +kernel⟩⟩
theorem d_1_18_125 : decode prog_1_method_18_code 125 = .ok (.aload_n 0, 1) := by decide +kernel
theorem d_1_18_126 : decode prog_1_method_18_code 126 = .ok (.getfield 18, 3) := by decide +kernel
theorem d_1_18_129 : decode prog_1_method_18_code 129 = .ok (.getfield 108, 3) := by decide +kernel
theorem d_1_18_132 : decode prog_1_method_18_code 132 = .ok (.ireturn, 1) := by decide +kernel
theorem d_1_18_37 : decode prog_1_method_18_code 37 = .ok (.ifCond .eq 25, 3) := by decide +kernel
theorem d_1_18_62 : decode prog_1_method_18_code 62 = .ok (.iload 4, 2) := by decide +kernel
theorem d_1_18_79 : decode prog_1_method_18_code 79 = .ok (.iconst 0, 1) := by decide +kernel
theorem d_1_18_64 : decode prog_1_method_18_code 64 = .ok (.ifCond .lt 15, 3) := by decide +kernel
theorem d_1_18_67 : decode prog_1_method_18_code 67 = .ok (.iload 4, 2) := by decide +kernel
theorem d_1_18_69 : decode prog_1_method_18_code 69 = .ok (.sipush 1100, 3) := by decide +kernel
theorem d_1_18_72 : decode prog_1_method_18_code 72 = .ok (.if_icmp .gt 7, 3) := by decide +kernel
theorem d_1_18_75 : decode prog_1_method_18_code 75 = .ok (.iconst 1, 1) := by decide +kernel
theorem d_1_18_76 : decode prog_1_method_18_code 76 = .ok (.goto 4, 3) := by decide +kernel
theorem d_1_18_40 : decode prog_1_method_18_code 40 = .ok (.iload 4, 2) := by decide +kernel
theorem d_1_18_42 : decode prog_1_method_18_code 42 = .ok (.iconst 1, 1) := by decide +kernel
theorem d_1_18_58 : decode prog_1_method_18_code 58 = .ok (.iconst 0, 1) := by decide +kernel
theorem d_1_18_59 : decode prog_1_method_18_code 59 = .ok (.goto 21, 3) := by decide +kernel
theorem d_1_18_43 : decode prog_1_method_18_code 43 = .ok (.if_icmp .lt 15, 3) := by decide +kernel
theorem d_1_18_46 : decode prog_1_method_18_code 46 = .ok (.iload 4, 2) := by decide +kernel
theorem d_1_18_48 : decode prog_1_method_18_code 48 = .ok (.sipush 800, 3) := by decide +kernel
theorem d_1_18_51 : decode prog_1_method_18_code 51 = .ok (.if_icmp .gt 7, 3) := by decide +kernel
theorem d_1_18_54 : decode prog_1_method_18_code 54 = .ok (.iconst 1, 1) := by decide +kernel
theorem d_1_18_55 : decode prog_1_method_18_code 55 = .ok (.goto 25, 3) := by decide +kernel
theorem d_1_18_32 : decode prog_1_method_18_code 32 = .ok (.iconst 0, 1) := by decide +kernel
theorem d_1_18_10 : decode prog_1_method_18_code 10 = .ok (.iload_n 2, 1) := by decide +kernel
theorem d_1_18_11 : decode prog_1_method_18_code 11 = .ok (.invokestatic 212, 3) := by decide +kernel
theorem d_1_18_14 : decode prog_1_method_18_code 14 = .ok (.ifCond .eq 18, 3) := by decide +kernel
theorem d_1_18_17 : decode prog_1_method_18_code 17 = .ok (.iload 5, 2) := by decide +kernel
theorem d_1_18_19 : decode prog_1_method_18_code 19 = .ok (.ifCond .lt 13, 3) := by decide +kernel
theorem d_1_18_22 : decode prog_1_method_18_code 22 = .ok (.iload 5, 2) := by decide +kernel
theorem d_1_18_24 : decode prog_1_method_18_code 24 = .ok (.iconst 3, 1) := by decide +kernel
theorem d_1_18_25 : decode prog_1_method_18_code 25 = .ok (.if_icmp .gt 7, 3) := by decide +kernel
theorem d_1_18_28 : decode prog_1_method_18_code 28 = .ok (.iconst 1, 1) := by decide +kernel
theorem d_1_18_29 : decode prog_1_method_18_code 29 = .ok (.goto 4, 3) := by decide +kernel
theorem d_1_18_2 : decode prog_1_method_18_code 2 = .ok (.if_icmp .eq 8, 3) := by decide +kernel
theorem d_1_18_5 : decode prog_1_method_18_code 5 = .ok (.iload_n 1, 1) := by decide +kernel
theorem d_1_18_6 : decode prog_1_method_18_code 6 = .ok (.iconst 3, 1) := by decide +kernel
theorem d_1_18_7 : decode prog_1_method_18_code 7 = .ok (.if_icmp .ne 25, 3) := by decide +kernel
def y_NH_figures : MethodName := ⟨"NumberHouse", "figures", "(IIZII)I"⟩
def F_NH_figures_c122 (x2 : Int32) (x3 : Int32) (x4 : Int32) (x5 : Int32) (x6 : Int32) (t0_0 : Int32) (t1_0 : (Nat → Int64)) (t2_0 : Int32) (t2_1 : Int32) (t3_0 : (Nat → Int32)) (t4_0 : Int32) (t4_1 : Int32) (t5_0 : (Nat → Int32)) (t6_0 : (Nat → Int64)) (t7_0 : (Nat → Int64)) (t8_0 : Int64) (t8_1 : Int32) (t8_2 : Int32) (t9_0 : Int64) (t9_1 : Int32) (t9_2 : Int32) (lx34 : Int32) (lx62 : Int32) (j107 : Int64) (p160 : (Int32 × (Nat → Int64) × Int32 × Int32 × (Nat → Int32) × Int32 × Int32 × (Nat → Int32))) : Int32 × Int32 × Int32 × (Nat → Int64) × Int32 × Int32 × (Nat → Int32) × Int32 × Int32 × (Nat → Int32) := ((0 : Int32), (p160.1 : Int32), (p160.1 : Int32), (p160.2.1 : (Nat → Int64)), (p160.2.2.2.2.2.1 : Int32), (p160.2.2.2.2.2.2.1 : Int32), (p160.2.2.2.2.2.2.2 : (Nat → Int32)), (p160.2.2.1 : Int32), (p160.2.2.2.1 : Int32), (p160.2.2.2.2.1 : (Nat → Int32)))
def F_NH_figures_c122_4 (x2 : Int32) (x3 : Int32) (x4 : Int32) (x5 : Int32) (x6 : Int32) (t0_0 : Int32) (t1_0 : (Nat → Int64)) (t2_0 : Int32) (t2_1 : Int32) (t3_0 : (Nat → Int32)) (t4_0 : Int32) (t4_1 : Int32) (t5_0 : (Nat → Int32)) (t6_0 : (Nat → Int64)) (t7_0 : (Nat → Int64)) (t8_0 : Int64) (t8_1 : Int32) (t8_2 : Int32) (t9_0 : Int64) (t9_1 : Int32) (t9_2 : Int32) (lx34 : Int32) (lx62 : Int32) (j179 : Int64) (p232 : (Int32 × (Nat → Int64) × Int32 × Int32 × (Nat → Int32) × Int32 × Int32 × (Nat → Int32))) : Int32 × Int32 × Int32 × (Nat → Int64) × Int32 × Int32 × (Nat → Int32) × Int32 × Int32 × (Nat → Int32) := ((0 : Int32), (p232.1 : Int32), (p232.1 : Int32), (p232.2.1 : (Nat → Int64)), (p232.2.2.2.2.2.1 : Int32), (p232.2.2.2.2.2.2.1 : Int32), (p232.2.2.2.2.2.2.2 : (Nat → Int32)), (p232.2.2.1 : Int32), (p232.2.2.2.1 : Int32), (p232.2.2.2.2.1 : (Nat → Int32)))
def F_NH_figures_c122_5 (x2 : Int32) (x3 : Int32) (x4 : Int32) (x5 : Int32) (x6 : Int32) (t0_0 : Int32) (t1_0 : (Nat → Int64)) (t2_0 : Int32) (t2_1 : Int32) (t3_0 : (Nat → Int32)) (t4_0 : Int32) (t4_1 : Int32) (t5_0 : (Nat → Int32)) (t6_0 : (Nat → Int64)) (t7_0 : (Nat → Int64)) (t8_0 : Int64) (t8_1 : Int32) (t8_2 : Int32) (t9_0 : Int64) (t9_1 : Int32) (t9_2 : Int32) (lx34 : Int32) (lx62 : Int32) (j258 : Int64) (p311 : (Int32 × (Nat → Int64) × Int32 × Int32 × (Nat → Int32) × Int32 × Int32 × (Nat → Int32))) : Int32 × Int32 × Int32 × (Nat → Int64) × Int32 × Int32 × (Nat → Int32) × Int32 × Int32 × (Nat → Int32) := ((0 : Int32), (p311.1 : Int32), (p311.1 : Int32), (p311.2.1 : (Nat → Int64)), (p311.2.2.2.2.2.1 : Int32), (p311.2.2.2.2.2.2.1 : Int32), (p311.2.2.2.2.2.2.2 : (Nat → Int32)), (p311.2.2.1 : Int32), (p311.2.2.2.1 : Int32), (p311.2.2.2.2.1 : (Nat → Int32)))
def F_NH_figures_c122_6 (x2 : Int32) (x3 : Int32) (x4 : Int32) (x5 : Int32) (x6 : Int32) (t0_0 : Int32) (t1_0 : (Nat → Int64)) (t2_0 : Int32) (t2_1 : Int32) (t3_0 : (Nat → Int32)) (t4_0 : Int32) (t4_1 : Int32) (t5_0 : (Nat → Int32)) (t6_0 : (Nat → Int64)) (t7_0 : (Nat → Int64)) (t8_0 : Int64) (t8_1 : Int32) (t8_2 : Int32) (t9_0 : Int64) (t9_1 : Int32) (t9_2 : Int32) (lx34 : Int32) (lx62 : Int32) (j330 : Int64) (p383 : (Int32 × (Nat → Int64) × Int32 × Int32 × (Nat → Int32) × Int32 × Int32 × (Nat → Int32))) : Int32 × Int32 × Int32 × (Nat → Int64) × Int32 × Int32 × (Nat → Int32) × Int32 × Int32 × (Nat → Int32) := ((0 : Int32), (p383.1 : Int32), (p383.1 : Int32), (p383.2.1 : (Nat → Int64)), (p383.2.2.2.2.2.1 : Int32), (p383.2.2.2.2.2.2.1 : Int32), (p383.2.2.2.2.2.2.2 : (Nat → Int32)), (p383.2.2.1 : Int32), (p383.2.2.2.1 : Int32), (p383.2.2.2.2.1 : (Nat → Int32)))
def F_NH_figures_J80 (x2 : Int32) (x3 : Int32) (x4 : Int32) (x5 : Int32) (x6 : Int32) (t0_0 : Int32) (t1_0 : (Nat → Int64)) (t2_0 : Int32) (t2_1 : Int32) (t3_0 : (Nat → Int32)) (t4_0 : Int32) (t4_1 : Int32) (t5_0 : (Nat → Int32)) (t6_0 : (Nat → Int64)) (t7_0 : (Nat → Int64)) (t8_0 : Int64) (t8_1 : Int32) (t8_2 : Int32) (t9_0 : Int64) (t9_1 : Int32) (t9_2 : Int32) (lx34 : Int32) (lx62 : Int32) : Int32 × Int32 × Int32 × (Nat → Int64) × Int32 × Int32 × (Nat → Int32) × Int32 × Int32 × (Nat → Int32) := if (F_NH_need lx62) = (0 : Int32) then (if x2 = (2 : Int32) then (if x2 = (2 : Int32) then (if (F_NH_canHave ((F_Flo_isFinite (52 : Int32) (1075 : Int32) (2047 : Int32) (t6_0 x3.toNatClampNeg : Int64)) : Int32)) = (0 : Int32) then (F_NH_figures_c122 x2 x3 x4 x5 x6 t0_0 t1_0 t2_0 t2_1 t3_0 t4_0 t4_1 t5_0 t6_0 t7_0 t8_0 t8_1 t8_2 t9_0 t9_1 t9_2 lx34 lx62 (t6_0 x3.toNatClampNeg : Int64) ((F_Wri_exactText (52 : Int32) (1075 : Int32) (2047 : Int32) (t6_0 x3.toNatClampNeg : Int64) x4 x5 x6 t0_0 t1_0 t4_0 t4_1 t5_0 t2_0 t2_1 t3_0 t8_0 t8_1 t8_2) : (Int32 × (Nat → Int64) × Int32 × Int32 × (Nat → Int32) × Int32 × Int32 × (Nat → Int32)))) else (((F_NH_canHave ((F_Flo_isFinite (52 : Int32) (1075 : Int32) (2047 : Int32) (t6_0 x3.toNatClampNeg : Int64)) : Int32)), (0 : Int32), t0_0, t1_0, t2_0, t2_1, t3_0, t4_0, t4_1, t5_0))) else (if (F_NH_canHave ((F_Flo_isFinite (52 : Int32) (1075 : Int32) (2047 : Int32) (t7_0 x3.toNatClampNeg : Int64)) : Int32)) = (0 : Int32) then (F_NH_figures_c122_4 x2 x3 x4 x5 x6 t0_0 t1_0 t2_0 t2_1 t3_0 t4_0 t4_1 t5_0 t6_0 t7_0 t8_0 t8_1 t8_2 t9_0 t9_1 t9_2 lx34 lx62 (t7_0 x3.toNatClampNeg : Int64) ((F_Wri_exactText (52 : Int32) (1075 : Int32) (2047 : Int32) (t7_0 x3.toNatClampNeg : Int64) x4 x5 x6 t0_0 t1_0 t4_0 t4_1 t5_0 t2_0 t2_1 t3_0 t8_0 t8_1 t8_2) : (Int32 × (Nat → Int64) × Int32 × Int32 × (Nat → Int32) × Int32 × Int32 × (Nat → Int32)))) else (((F_NH_canHave ((F_Flo_isFinite (52 : Int32) (1075 : Int32) (2047 : Int32) (t7_0 x3.toNatClampNeg : Int64)) : Int32)), (0 : Int32), t0_0, t1_0, t2_0, t2_1, t3_0, t4_0, t4_1, t5_0)))) else (if x2 = (2 : Int32) then (if (F_NH_canHave ((F_Flo_isFinite (23 : Int32) (150 : Int32) (255 : Int32) (t6_0 x3.toNatClampNeg : Int64)) : Int32)) = (0 : Int32) then (F_NH_figures_c122_5 x2 x3 x4 x5 x6 t0_0 t1_0 t2_0 t2_1 t3_0 t4_0 t4_1 t5_0 t6_0 t7_0 t8_0 t8_1 t8_2 t9_0 t9_1 t9_2 lx34 lx62 (t6_0 x3.toNatClampNeg : Int64) ((F_Wri_exactText (23 : Int32) (150 : Int32) (255 : Int32) (t6_0 x3.toNatClampNeg : Int64) x4 x5 x6 t0_0 t1_0 t4_0 t4_1 t5_0 t2_0 t2_1 t3_0 t9_0 t9_1 t9_2) : (Int32 × (Nat → Int64) × Int32 × Int32 × (Nat → Int32) × Int32 × Int32 × (Nat → Int32)))) else (((F_NH_canHave ((F_Flo_isFinite (23 : Int32) (150 : Int32) (255 : Int32) (t6_0 x3.toNatClampNeg : Int64)) : Int32)), (0 : Int32), t0_0, t1_0, t2_0, t2_1, t3_0, t4_0, t4_1, t5_0))) else (if (F_NH_canHave ((F_Flo_isFinite (23 : Int32) (150 : Int32) (255 : Int32) (t7_0 x3.toNatClampNeg : Int64)) : Int32)) = (0 : Int32) then (F_NH_figures_c122_6 x2 x3 x4 x5 x6 t0_0 t1_0 t2_0 t2_1 t3_0 t4_0 t4_1 t5_0 t6_0 t7_0 t8_0 t8_1 t8_2 t9_0 t9_1 t9_2 lx34 lx62 (t7_0 x3.toNatClampNeg : Int64) ((F_Wri_exactText (23 : Int32) (150 : Int32) (255 : Int32) (t7_0 x3.toNatClampNeg : Int64) x4 x5 x6 t0_0 t1_0 t4_0 t4_1 t5_0 t2_0 t2_1 t3_0 t9_0 t9_1 t9_2) : (Int32 × (Nat → Int64) × Int32 × Int32 × (Nat → Int32) × Int32 × Int32 × (Nat → Int32)))) else (((F_NH_canHave ((F_Flo_isFinite (23 : Int32) (150 : Int32) (255 : Int32) (t7_0 x3.toNatClampNeg : Int64)) : Int32)), (0 : Int32), t0_0, t1_0, t2_0, t2_1, t3_0, t4_0, t4_1, t5_0))))) else (((F_NH_need lx62), (0 : Int32), t0_0, t1_0, t2_0, t2_1, t3_0, t4_0, t4_1, t5_0))
def F_NH_figures_J79 (x2 : Int32) (x3 : Int32) (x4 : Int32) (x5 : Int32) (x6 : Int32) (t0_0 : Int32) (t1_0 : (Nat → Int64)) (t2_0 : Int32) (t2_1 : Int32) (t3_0 : (Nat → Int32)) (t4_0 : Int32) (t4_1 : Int32) (t5_0 : (Nat → Int32)) (t6_0 : (Nat → Int64)) (t7_0 : (Nat → Int64)) (t8_0 : Int64) (t8_1 : Int32) (t8_2 : Int32) (t9_0 : Int64) (t9_1 : Int32) (t9_2 : Int32) (lx34 : Int32) : Int32 × Int32 × Int32 × (Nat → Int64) × Int32 × Int32 × (Nat → Int32) × Int32 × Int32 × (Nat → Int32) := F_NH_figures_J80 x2 x3 x4 x5 x6 t0_0 t1_0 t2_0 t2_1 t3_0 t4_0 t4_1 t5_0 t6_0 t7_0 t8_0 t8_1 t8_2 t9_0 t9_1 t9_2 lx34 0
def F_NH_figures_J58 (x2 : Int32) (x3 : Int32) (x4 : Int32) (x5 : Int32) (x6 : Int32) (t0_0 : Int32) (t1_0 : (Nat → Int64)) (t2_0 : Int32) (t2_1 : Int32) (t3_0 : (Nat → Int32)) (t4_0 : Int32) (t4_1 : Int32) (t5_0 : (Nat → Int32)) (t6_0 : (Nat → Int64)) (t7_0 : (Nat → Int64)) (t8_0 : Int64) (t8_1 : Int32) (t8_2 : Int32) (t9_0 : Int64) (t9_1 : Int32) (t9_2 : Int32) (lx34 : Int32) : Int32 × Int32 × Int32 × (Nat → Int64) × Int32 × Int32 × (Nat → Int32) × Int32 × Int32 × (Nat → Int32) := F_NH_figures_J80 x2 x3 x4 x5 x6 t0_0 t1_0 t2_0 t2_1 t3_0 t4_0 t4_1 t5_0 t6_0 t7_0 t8_0 t8_1 t8_2 t9_0 t9_1 t9_2 lx34 0
def F_NH_figures_J33 (x2 : Int32) (x3 : Int32) (x4 : Int32) (x5 : Int32) (x6 : Int32) (t0_0 : Int32) (t1_0 : (Nat → Int64)) (t2_0 : Int32) (t2_1 : Int32) (t3_0 : (Nat → Int32)) (t4_0 : Int32) (t4_1 : Int32) (t5_0 : (Nat → Int32)) (t6_0 : (Nat → Int64)) (t7_0 : (Nat → Int64)) (t8_0 : Int64) (t8_1 : Int32) (t8_2 : Int32) (t9_0 : Int64) (t9_1 : Int32) (t9_2 : Int32) (lx34 : Int32) : Int32 × Int32 × Int32 × (Nat → Int64) × Int32 × Int32 × (Nat → Int32) × Int32 × Int32 × (Nat → Int32) := if (F_NH_need lx34) = (0 : Int32) then (if x4 = (0 : Int32) then (if x5 < (0 : Int32) then (F_NH_figures_J79 x2 x3 x4 x5 x6 t0_0 t1_0 t2_0 t2_1 t3_0 t4_0 t4_1 t5_0 t6_0 t7_0 t8_0 t8_1 t8_2 t9_0 t9_1 t9_2 lx34) else (if (1100 : Int32) < x5 then (F_NH_figures_J79 x2 x3 x4 x5 x6 t0_0 t1_0 t2_0 t2_1 t3_0 t4_0 t4_1 t5_0 t6_0 t7_0 t8_0 t8_1 t8_2 t9_0 t9_1 t9_2 lx34) else (F_NH_figures_J80 x2 x3 x4 x5 x6 t0_0 t1_0 t2_0 t2_1 t3_0 t4_0 t4_1 t5_0 t6_0 t7_0 t8_0 t8_1 t8_2 t9_0 t9_1 t9_2 lx34 1))) else (if x5 < (1 : Int32) then (F_NH_figures_J58 x2 x3 x4 x5 x6 t0_0 t1_0 t2_0 t2_1 t3_0 t4_0 t4_1 t5_0 t6_0 t7_0 t8_0 t8_1 t8_2 t9_0 t9_1 t9_2 lx34) else (if (800 : Int32) < x5 then (F_NH_figures_J58 x2 x3 x4 x5 x6 t0_0 t1_0 t2_0 t2_1 t3_0 t4_0 t4_1 t5_0 t6_0 t7_0 t8_0 t8_1 t8_2 t9_0 t9_1 t9_2 lx34) else (F_NH_figures_J80 x2 x3 x4 x5 x6 t0_0 t1_0 t2_0 t2_1 t3_0 t4_0 t4_1 t5_0 t6_0 t7_0 t8_0 t8_1 t8_2 t9_0 t9_1 t9_2 lx34 1)))) else (((F_NH_need lx34), (0 : Int32), t0_0, t1_0, t2_0, t2_1, t3_0, t4_0, t4_1, t5_0))
def F_NH_figures_J32 (x2 : Int32) (x3 : Int32) (x4 : Int32) (x5 : Int32) (x6 : Int32) (t0_0 : Int32) (t1_0 : (Nat → Int64)) (t2_0 : Int32) (t2_1 : Int32) (t3_0 : (Nat → Int32)) (t4_0 : Int32) (t4_1 : Int32) (t5_0 : (Nat → Int32)) (t6_0 : (Nat → Int64)) (t7_0 : (Nat → Int64)) (t8_0 : Int64) (t8_1 : Int32) (t8_2 : Int32) (t9_0 : Int64) (t9_1 : Int32) (t9_2 : Int32) : Int32 × Int32 × Int32 × (Nat → Int64) × Int32 × Int32 × (Nat → Int32) × Int32 × Int32 × (Nat → Int32) := F_NH_figures_J33 x2 x3 x4 x5 x6 t0_0 t1_0 t2_0 t2_1 t3_0 t4_0 t4_1 t5_0 t6_0 t7_0 t8_0 t8_1 t8_2 t9_0 t9_1 t9_2 0
def F_NH_figures_J10 (x2 : Int32) (x3 : Int32) (x4 : Int32) (x5 : Int32) (x6 : Int32) (t0_0 : Int32) (t1_0 : (Nat → Int64)) (t2_0 : Int32) (t2_1 : Int32) (t3_0 : (Nat → Int32)) (t4_0 : Int32) (t4_1 : Int32) (t5_0 : (Nat → Int32)) (t6_0 : (Nat → Int64)) (t7_0 : (Nat → Int64)) (t8_0 : Int64) (t8_1 : Int32) (t8_2 : Int32) (t9_0 : Int64) (t9_1 : Int32) (t9_2 : Int32) : Int32 × Int32 × Int32 × (Nat → Int64) × Int32 × Int32 × (Nat → Int32) × Int32 × Int32 × (Nat → Int32) := if ((F_NH_isRegister x3) : Int32) = (0 : Int32) then (F_NH_figures_J32 x2 x3 x4 x5 x6 t0_0 t1_0 t2_0 t2_1 t3_0 t4_0 t4_1 t5_0 t6_0 t7_0 t8_0 t8_1 t8_2 t9_0 t9_1 t9_2) else (if x6 < (0 : Int32) then (F_NH_figures_J32 x2 x3 x4 x5 x6 t0_0 t1_0 t2_0 t2_1 t3_0 t4_0 t4_1 t5_0 t6_0 t7_0 t8_0 t8_1 t8_2 t9_0 t9_1 t9_2) else (if (3 : Int32) < x6 then (F_NH_figures_J32 x2 x3 x4 x5 x6 t0_0 t1_0 t2_0 t2_1 t3_0 t4_0 t4_1 t5_0 t6_0 t7_0 t8_0 t8_1 t8_2 t9_0 t9_1 t9_2) else (F_NH_figures_J33 x2 x3 x4 x5 x6 t0_0 t1_0 t2_0 t2_1 t3_0 t4_0 t4_1 t5_0 t6_0 t7_0 t8_0 t8_1 t8_2 t9_0 t9_1 t9_2 1)))
def F_NH_figures (x2 : Int32) (x3 : Int32) (x4 : Int32) (x5 : Int32) (x6 : Int32) (t0_0 : Int32) (t1_0 : (Nat → Int64)) (t2_0 : Int32) (t2_1 : Int32) (t3_0 : (Nat → Int32)) (t4_0 : Int32) (t4_1 : Int32) (t5_0 : (Nat → Int32)) (t6_0 : (Nat → Int64)) (t7_0 : (Nat → Int64)) (t8_0 : Int64) (t8_1 : Int32) (t8_2 : Int32) (t9_0 : Int64) (t9_1 : Int32) (t9_2 : Int32) : Int32 × Int32 × Int32 × (Nat → Int64) × Int32 × Int32 × (Nat → Int32) × Int32 × Int32 × (Nat → Int32) := if x2 = (2 : Int32) then (F_NH_figures_J10 x2 x3 x4 x5 x6 t0_0 t1_0 t2_0 t2_1 t3_0 t4_0 t4_1 t5_0 t6_0 t7_0 t8_0 t8_1 t8_2 t9_0 t9_1 t9_2) else (if x2 = (3 : Int32) then (F_NH_figures_J10 x2 x3 x4 x5 x6 t0_0 t1_0 t2_0 t2_1 t3_0 t4_0 t4_1 t5_0 t6_0 t7_0 t8_0 t8_1 t8_2 t9_0 t9_1 t9_2) else (F_NH_figures_J32 x2 x3 x4 x5 x6 t0_0 t1_0 t2_0 t2_1 t3_0 t4_0 t4_1 t5_0 t6_0 t7_0 t8_0 t8_1 t8_2 t9_0 t9_1 t9_2))
def S_NH_figures_c122 (x2 : Int32) (x3 : Int32) (x4 : Int32) (x5 : Int32) (x6 : Int32) (t0_0 : Int32) (t1_0 : (Nat → Int64)) (t2_0 : Int32) (t2_1 : Int32) (t3_0 : (Nat → Int32)) (t4_0 : Int32) (t4_1 : Int32) (t5_0 : (Nat → Int32)) (t6_0 : (Nat → Int64)) (t7_0 : (Nat → Int64)) (t8_0 : Int64) (t8_1 : Int32) (t8_2 : Int32) (t9_0 : Int64) (t9_1 : Int32) (t9_2 : Int32) (lx34 : Int32) (lx62 : Int32) (j107 : Int64) (p160 : (Int32 × (Nat → Int64) × Int32 × Int32 × (Nat → Int32) × Int32 × Int32 × (Nat → Int32))) : Prop := True
def S_NH_figures_c122_4 (x2 : Int32) (x3 : Int32) (x4 : Int32) (x5 : Int32) (x6 : Int32) (t0_0 : Int32) (t1_0 : (Nat → Int64)) (t2_0 : Int32) (t2_1 : Int32) (t3_0 : (Nat → Int32)) (t4_0 : Int32) (t4_1 : Int32) (t5_0 : (Nat → Int32)) (t6_0 : (Nat → Int64)) (t7_0 : (Nat → Int64)) (t8_0 : Int64) (t8_1 : Int32) (t8_2 : Int32) (t9_0 : Int64) (t9_1 : Int32) (t9_2 : Int32) (lx34 : Int32) (lx62 : Int32) (j179 : Int64) (p232 : (Int32 × (Nat → Int64) × Int32 × Int32 × (Nat → Int32) × Int32 × Int32 × (Nat → Int32))) : Prop := True
def S_NH_figures_c122_5 (x2 : Int32) (x3 : Int32) (x4 : Int32) (x5 : Int32) (x6 : Int32) (t0_0 : Int32) (t1_0 : (Nat → Int64)) (t2_0 : Int32) (t2_1 : Int32) (t3_0 : (Nat → Int32)) (t4_0 : Int32) (t4_1 : Int32) (t5_0 : (Nat → Int32)) (t6_0 : (Nat → Int64)) (t7_0 : (Nat → Int64)) (t8_0 : Int64) (t8_1 : Int32) (t8_2 : Int32) (t9_0 : Int64) (t9_1 : Int32) (t9_2 : Int32) (lx34 : Int32) (lx62 : Int32) (j258 : Int64) (p311 : (Int32 × (Nat → Int64) × Int32 × Int32 × (Nat → Int32) × Int32 × Int32 × (Nat → Int32))) : Prop := True
def S_NH_figures_c122_6 (x2 : Int32) (x3 : Int32) (x4 : Int32) (x5 : Int32) (x6 : Int32) (t0_0 : Int32) (t1_0 : (Nat → Int64)) (t2_0 : Int32) (t2_1 : Int32) (t3_0 : (Nat → Int32)) (t4_0 : Int32) (t4_1 : Int32) (t5_0 : (Nat → Int32)) (t6_0 : (Nat → Int64)) (t7_0 : (Nat → Int64)) (t8_0 : Int64) (t8_1 : Int32) (t8_2 : Int32) (t9_0 : Int64) (t9_1 : Int32) (t9_2 : Int32) (lx34 : Int32) (lx62 : Int32) (j330 : Int64) (p383 : (Int32 × (Nat → Int64) × Int32 × Int32 × (Nat → Int32) × Int32 × Int32 × (Nat → Int32))) : Prop := True
def S_NH_figures_J80 (x2 : Int32) (x3 : Int32) (x4 : Int32) (x5 : Int32) (x6 : Int32) (t0_0 : Int32) (t1_0 : (Nat → Int64)) (t2_0 : Int32) (t2_1 : Int32) (t3_0 : (Nat → Int32)) (t4_0 : Int32) (t4_1 : Int32) (t5_0 : (Nat → Int32)) (t6_0 : (Nat → Int64)) (t7_0 : (Nat → Int64)) (t8_0 : Int64) (t8_1 : Int32) (t8_2 : Int32) (t9_0 : Int64) (t9_1 : Int32) (t9_2 : Int32) (lx34 : Int32) (lx62 : Int32) : Prop := if (F_NH_need lx62) = (0 : Int32) then (if x2 = (2 : Int32) then (if x2 = (2 : Int32) then ((0 ≤ x3.toInt) ∧ ((x3.toInt ≤ 9) ∧ (if (F_NH_canHave ((F_Flo_isFinite (52 : Int32) (1075 : Int32) (2047 : Int32) (t6_0 x3.toNatClampNeg : Int64)) : Int32)) = (0 : Int32) then ((0 ≤ x5.toInt) ∧ ((x5.toInt ≤ 1100) ∧ ((True ∧ S_Wri_exactText (52 : Int32) (1075 : Int32) (2047 : Int32) (t6_0 x3.toNatClampNeg : Int64) x4 x5 x6 t0_0 t1_0 t4_0 t4_1 t5_0 t2_0 t2_1 t3_0 t8_0 t8_1 t8_2) ∧ (S_NH_figures_c122 x2 x3 x4 x5 x6 t0_0 t1_0 t2_0 t2_1 t3_0 t4_0 t4_1 t5_0 t6_0 t7_0 t8_0 t8_1 t8_2 t9_0 t9_1 t9_2 lx34 lx62 (t6_0 x3.toNatClampNeg : Int64) ((F_Wri_exactText (52 : Int32) (1075 : Int32) (2047 : Int32) (t6_0 x3.toNatClampNeg : Int64) x4 x5 x6 t0_0 t1_0 t4_0 t4_1 t5_0 t2_0 t2_1 t3_0 t8_0 t8_1 t8_2) : (Int32 × (Nat → Int64) × Int32 × Int32 × (Nat → Int32) × Int32 × Int32 × (Nat → Int32))))))) else (True)))) else ((0 ≤ x3.toInt) ∧ ((x3.toInt ≤ 9) ∧ (if (F_NH_canHave ((F_Flo_isFinite (52 : Int32) (1075 : Int32) (2047 : Int32) (t7_0 x3.toNatClampNeg : Int64)) : Int32)) = (0 : Int32) then ((0 ≤ x5.toInt) ∧ ((x5.toInt ≤ 1100) ∧ ((True ∧ S_Wri_exactText (52 : Int32) (1075 : Int32) (2047 : Int32) (t7_0 x3.toNatClampNeg : Int64) x4 x5 x6 t0_0 t1_0 t4_0 t4_1 t5_0 t2_0 t2_1 t3_0 t8_0 t8_1 t8_2) ∧ (S_NH_figures_c122_4 x2 x3 x4 x5 x6 t0_0 t1_0 t2_0 t2_1 t3_0 t4_0 t4_1 t5_0 t6_0 t7_0 t8_0 t8_1 t8_2 t9_0 t9_1 t9_2 lx34 lx62 (t7_0 x3.toNatClampNeg : Int64) ((F_Wri_exactText (52 : Int32) (1075 : Int32) (2047 : Int32) (t7_0 x3.toNatClampNeg : Int64) x4 x5 x6 t0_0 t1_0 t4_0 t4_1 t5_0 t2_0 t2_1 t3_0 t8_0 t8_1 t8_2) : (Int32 × (Nat → Int64) × Int32 × Int32 × (Nat → Int32) × Int32 × Int32 × (Nat → Int32))))))) else (True))))) else (if x2 = (2 : Int32) then ((0 ≤ x3.toInt) ∧ ((x3.toInt ≤ 9) ∧ (if (F_NH_canHave ((F_Flo_isFinite (23 : Int32) (150 : Int32) (255 : Int32) (t6_0 x3.toNatClampNeg : Int64)) : Int32)) = (0 : Int32) then ((0 ≤ x5.toInt) ∧ ((x5.toInt ≤ 1100) ∧ ((True ∧ S_Wri_exactText (23 : Int32) (150 : Int32) (255 : Int32) (t6_0 x3.toNatClampNeg : Int64) x4 x5 x6 t0_0 t1_0 t4_0 t4_1 t5_0 t2_0 t2_1 t3_0 t9_0 t9_1 t9_2) ∧ (S_NH_figures_c122_5 x2 x3 x4 x5 x6 t0_0 t1_0 t2_0 t2_1 t3_0 t4_0 t4_1 t5_0 t6_0 t7_0 t8_0 t8_1 t8_2 t9_0 t9_1 t9_2 lx34 lx62 (t6_0 x3.toNatClampNeg : Int64) ((F_Wri_exactText (23 : Int32) (150 : Int32) (255 : Int32) (t6_0 x3.toNatClampNeg : Int64) x4 x5 x6 t0_0 t1_0 t4_0 t4_1 t5_0 t2_0 t2_1 t3_0 t9_0 t9_1 t9_2) : (Int32 × (Nat → Int64) × Int32 × Int32 × (Nat → Int32) × Int32 × Int32 × (Nat → Int32))))))) else (True)))) else ((0 ≤ x3.toInt) ∧ ((x3.toInt ≤ 9) ∧ (if (F_NH_canHave ((F_Flo_isFinite (23 : Int32) (150 : Int32) (255 : Int32) (t7_0 x3.toNatClampNeg : Int64)) : Int32)) = (0 : Int32) then ((0 ≤ x5.toInt) ∧ ((x5.toInt ≤ 1100) ∧ ((True ∧ S_Wri_exactText (23 : Int32) (150 : Int32) (255 : Int32) (t7_0 x3.toNatClampNeg : Int64) x4 x5 x6 t0_0 t1_0 t4_0 t4_1 t5_0 t2_0 t2_1 t3_0 t9_0 t9_1 t9_2) ∧ (S_NH_figures_c122_6 x2 x3 x4 x5 x6 t0_0 t1_0 t2_0 t2_1 t3_0 t4_0 t4_1 t5_0 t6_0 t7_0 t8_0 t8_1 t8_2 t9_0 t9_1 t9_2 lx34 lx62 (t7_0 x3.toNatClampNeg : Int64) ((F_Wri_exactText (23 : Int32) (150 : Int32) (255 : Int32) (t7_0 x3.toNatClampNeg : Int64) x4 x5 x6 t0_0 t1_0 t4_0 t4_1 t5_0 t2_0 t2_1 t3_0 t9_0 t9_1 t9_2) : (Int32 × (Nat → Int64) × Int32 × Int32 × (Nat → Int32) × Int32 × Int32 × (Nat → Int32))))))) else (True)))))) else (True)
def S_NH_figures_J79 (x2 : Int32) (x3 : Int32) (x4 : Int32) (x5 : Int32) (x6 : Int32) (t0_0 : Int32) (t1_0 : (Nat → Int64)) (t2_0 : Int32) (t2_1 : Int32) (t3_0 : (Nat → Int32)) (t4_0 : Int32) (t4_1 : Int32) (t5_0 : (Nat → Int32)) (t6_0 : (Nat → Int64)) (t7_0 : (Nat → Int64)) (t8_0 : Int64) (t8_1 : Int32) (t8_2 : Int32) (t9_0 : Int64) (t9_1 : Int32) (t9_2 : Int32) (lx34 : Int32) : Prop := S_NH_figures_J80 x2 x3 x4 x5 x6 t0_0 t1_0 t2_0 t2_1 t3_0 t4_0 t4_1 t5_0 t6_0 t7_0 t8_0 t8_1 t8_2 t9_0 t9_1 t9_2 lx34 0
def S_NH_figures_J58 (x2 : Int32) (x3 : Int32) (x4 : Int32) (x5 : Int32) (x6 : Int32) (t0_0 : Int32) (t1_0 : (Nat → Int64)) (t2_0 : Int32) (t2_1 : Int32) (t3_0 : (Nat → Int32)) (t4_0 : Int32) (t4_1 : Int32) (t5_0 : (Nat → Int32)) (t6_0 : (Nat → Int64)) (t7_0 : (Nat → Int64)) (t8_0 : Int64) (t8_1 : Int32) (t8_2 : Int32) (t9_0 : Int64) (t9_1 : Int32) (t9_2 : Int32) (lx34 : Int32) : Prop := S_NH_figures_J80 x2 x3 x4 x5 x6 t0_0 t1_0 t2_0 t2_1 t3_0 t4_0 t4_1 t5_0 t6_0 t7_0 t8_0 t8_1 t8_2 t9_0 t9_1 t9_2 lx34 0
def S_NH_figures_J33 (x2 : Int32) (x3 : Int32) (x4 : Int32) (x5 : Int32) (x6 : Int32) (t0_0 : Int32) (t1_0 : (Nat → Int64)) (t2_0 : Int32) (t2_1 : Int32) (t3_0 : (Nat → Int32)) (t4_0 : Int32) (t4_1 : Int32) (t5_0 : (Nat → Int32)) (t6_0 : (Nat → Int64)) (t7_0 : (Nat → Int64)) (t8_0 : Int64) (t8_1 : Int32) (t8_2 : Int32) (t9_0 : Int64) (t9_1 : Int32) (t9_2 : Int32) (lx34 : Int32) : Prop := if (F_NH_need lx34) = (0 : Int32) then (if x4 = (0 : Int32) then (if x5 < (0 : Int32) then (S_NH_figures_J79 x2 x3 x4 x5 x6 t0_0 t1_0 t2_0 t2_1 t3_0 t4_0 t4_1 t5_0 t6_0 t7_0 t8_0 t8_1 t8_2 t9_0 t9_1 t9_2 lx34) else (if (1100 : Int32) < x5 then (S_NH_figures_J79 x2 x3 x4 x5 x6 t0_0 t1_0 t2_0 t2_1 t3_0 t4_0 t4_1 t5_0 t6_0 t7_0 t8_0 t8_1 t8_2 t9_0 t9_1 t9_2 lx34) else (S_NH_figures_J80 x2 x3 x4 x5 x6 t0_0 t1_0 t2_0 t2_1 t3_0 t4_0 t4_1 t5_0 t6_0 t7_0 t8_0 t8_1 t8_2 t9_0 t9_1 t9_2 lx34 1))) else (if x5 < (1 : Int32) then (S_NH_figures_J58 x2 x3 x4 x5 x6 t0_0 t1_0 t2_0 t2_1 t3_0 t4_0 t4_1 t5_0 t6_0 t7_0 t8_0 t8_1 t8_2 t9_0 t9_1 t9_2 lx34) else (if (800 : Int32) < x5 then (S_NH_figures_J58 x2 x3 x4 x5 x6 t0_0 t1_0 t2_0 t2_1 t3_0 t4_0 t4_1 t5_0 t6_0 t7_0 t8_0 t8_1 t8_2 t9_0 t9_1 t9_2 lx34) else (S_NH_figures_J80 x2 x3 x4 x5 x6 t0_0 t1_0 t2_0 t2_1 t3_0 t4_0 t4_1 t5_0 t6_0 t7_0 t8_0 t8_1 t8_2 t9_0 t9_1 t9_2 lx34 1)))) else (True)
def S_NH_figures_J32 (x2 : Int32) (x3 : Int32) (x4 : Int32) (x5 : Int32) (x6 : Int32) (t0_0 : Int32) (t1_0 : (Nat → Int64)) (t2_0 : Int32) (t2_1 : Int32) (t3_0 : (Nat → Int32)) (t4_0 : Int32) (t4_1 : Int32) (t5_0 : (Nat → Int32)) (t6_0 : (Nat → Int64)) (t7_0 : (Nat → Int64)) (t8_0 : Int64) (t8_1 : Int32) (t8_2 : Int32) (t9_0 : Int64) (t9_1 : Int32) (t9_2 : Int32) : Prop := S_NH_figures_J33 x2 x3 x4 x5 x6 t0_0 t1_0 t2_0 t2_1 t3_0 t4_0 t4_1 t5_0 t6_0 t7_0 t8_0 t8_1 t8_2 t9_0 t9_1 t9_2 0
def S_NH_figures_J10 (x2 : Int32) (x3 : Int32) (x4 : Int32) (x5 : Int32) (x6 : Int32) (t0_0 : Int32) (t1_0 : (Nat → Int64)) (t2_0 : Int32) (t2_1 : Int32) (t3_0 : (Nat → Int32)) (t4_0 : Int32) (t4_1 : Int32) (t5_0 : (Nat → Int32)) (t6_0 : (Nat → Int64)) (t7_0 : (Nat → Int64)) (t8_0 : Int64) (t8_1 : Int32) (t8_2 : Int32) (t9_0 : Int64) (t9_1 : Int32) (t9_2 : Int32) : Prop := if ((F_NH_isRegister x3) : Int32) = (0 : Int32) then (S_NH_figures_J32 x2 x3 x4 x5 x6 t0_0 t1_0 t2_0 t2_1 t3_0 t4_0 t4_1 t5_0 t6_0 t7_0 t8_0 t8_1 t8_2 t9_0 t9_1 t9_2) else (if x6 < (0 : Int32) then (S_NH_figures_J32 x2 x3 x4 x5 x6 t0_0 t1_0 t2_0 t2_1 t3_0 t4_0 t4_1 t5_0 t6_0 t7_0 t8_0 t8_1 t8_2 t9_0 t9_1 t9_2) else (if (3 : Int32) < x6 then (S_NH_figures_J32 x2 x3 x4 x5 x6 t0_0 t1_0 t2_0 t2_1 t3_0 t4_0 t4_1 t5_0 t6_0 t7_0 t8_0 t8_1 t8_2 t9_0 t9_1 t9_2) else (S_NH_figures_J33 x2 x3 x4 x5 x6 t0_0 t1_0 t2_0 t2_1 t3_0 t4_0 t4_1 t5_0 t6_0 t7_0 t8_0 t8_1 t8_2 t9_0 t9_1 t9_2 1)))
def S_NH_figures (x2 : Int32) (x3 : Int32) (x4 : Int32) (x5 : Int32) (x6 : Int32) (t0_0 : Int32) (t1_0 : (Nat → Int64)) (t2_0 : Int32) (t2_1 : Int32) (t3_0 : (Nat → Int32)) (t4_0 : Int32) (t4_1 : Int32) (t5_0 : (Nat → Int32)) (t6_0 : (Nat → Int64)) (t7_0 : (Nat → Int64)) (t8_0 : Int64) (t8_1 : Int32) (t8_2 : Int32) (t9_0 : Int64) (t9_1 : Int32) (t9_2 : Int32) : Prop := if x2 = (2 : Int32) then (S_NH_figures_J10 x2 x3 x4 x5 x6 t0_0 t1_0 t2_0 t2_1 t3_0 t4_0 t4_1 t5_0 t6_0 t7_0 t8_0 t8_1 t8_2 t9_0 t9_1 t9_2) else (if x2 = (3 : Int32) then (S_NH_figures_J10 x2 x3 x4 x5 x6 t0_0 t1_0 t2_0 t2_1 t3_0 t4_0 t4_1 t5_0 t6_0 t7_0 t8_0 t8_1 t8_2 t9_0 t9_1 t9_2) else (S_NH_figures_J32 x2 x3 x4 x5 x6 t0_0 t1_0 t2_0 t2_1 t3_0 t4_0 t4_1 t5_0 t6_0 t7_0 t8_0 t8_1 t8_2 t9_0 t9_1 t9_2))
set_option maxRecDepth 100000 in
set_option maxHeartbeats 4000000 in
theorem X_NH_figures (l : Launch) (D : va_G) (g : Nat → ClassId) (q : Nat → Nat) (ws : va_W) (x2 : Int32) (x3 : Int32) (x4 : Int32) (x5 : Int32) (x6 : Int32) (hlt : l.stackTraces = false) (hI : q_I (nsh g q) q ws) (t0_0 : Int32) (hT0 : ws[3]? = (some (q 3, .inr (1, [.ref (q 4), .int 11008, .int t0_0])) : Option (Nat × va_E))) (t1_0 : (Nat → Int64)) (hT1 : ws[4]? = (some (q 4, .inl (g 1, (1376 : Int32).toNatClampNeg, .inr (.inl t1_0))) : Option (Nat × va_E))) (t2_0 : Int32) (t2_1 : Int32) (hT2 : ws[10]? = (some (q 10, .inr (2, [.ref (q 11), .int t2_0, .int t2_1])) : Option (Nat × va_E))) (t3_0 : (Nat → Int32)) (hT3 : ws[11]? = (some (q 11, .inl (g 0, (220 : Int32).toNatClampNeg, .inl t3_0)) : Option (Nat × va_E))) (t4_0 : Int32) (t4_1 : Int32) (hT4 : ws[36]? = (some (q 36, .inr (7, [.int t4_0, .int t4_1, .ref (q 37)])) : Option (Nat × va_E))) (t5_0 : (Nat → Int32)) (hT5 : ws[37]? = (some (q 37, .inl (g 2, 1026, .inl t5_0)) : Option (Nat × va_E))) (t6_0 : (Nat → Int64)) (hT6 : ws[7]? = (some (q 7, .inl (g 1, 10, .inr (.inl t6_0))) : Option (Nat × va_E))) (t7_0 : (Nat → Int64)) (hT7 : ws[8]? = (some (q 8, .inl (g 1, 10, .inr (.inl t7_0))) : Option (Nat × va_E))) (t8_0 : Int64) (t8_1 : Int32) (t8_2 : Int32) (hT8 : ws[34]? = (some (q 34, .inr (6, [.int 52, .int 1075, .int 2047, .long t8_0, .int t8_1, .ref (q 9), .int t8_2])) : Option (Nat × va_E))) (t9_0 : Int64) (t9_1 : Int32) (t9_2 : Int32) (hT9 : ws[35]? = (some (q 35, .inr (6, [.int 23, .int 150, .int 255, .long t9_0, .int t9_1, .ref (q 9), .int t9_2])) : Option (Nat × va_E))) (hzx4 : 0 ≤ x4.toInt ∧ x4.toInt ≤ 1) (hS : True ∧ S_NH_figures x2 x3 x4 x5 x6 t0_0 t1_0 t2_0 t2_1 t3_0 t4_0 t4_1 t5_0 t6_0 t7_0 t8_0 t8_1 t8_2 t9_0 t9_1 t9_2) : ∀ sz, q_Mx l y_NH_figures prog_1_method_18_code 9 (some .int) 8 3 18 D g [.ref (q 0), .int x2, .int x3, .int x4, .int x5, .int x6] ws sz (va_Qi (fun r u => q_I (nsh g q) q u ∧ q_un ws u [3, 4, 10, 11, 36, 37] ∧ ∃ (u0_0 : Int32) (u1_0 : (Nat → Int64)) (u2_0 : Int32) (u2_1 : Int32) (u3_0 : (Nat → Int32)) (u4_0 : Int32) (u4_1 : Int32) (u5_0 : (Nat → Int32)), u[3]? = (some (q 3, .inr (1, [.ref (q 4), .int 11008, .int u0_0])) : Option (Nat × va_E)) ∧ u[4]? = (some (q 4, .inl (g 1, (1376 : Int32).toNatClampNeg, .inr (.inl u1_0))) : Option (Nat × va_E)) ∧ u[10]? = (some (q 10, .inr (2, [.ref (q 11), .int u2_0, .int u2_1])) : Option (Nat × va_E)) ∧ u[11]? = (some (q 11, .inl (g 0, (220 : Int32).toNatClampNeg, .inl u3_0)) : Option (Nat × va_E)) ∧ u[36]? = (some (q 36, .inr (7, [.int u4_0, .int u4_1, .ref (q 37)])) : Option (Nat × va_E)) ∧ u[37]? = (some (q 37, .inl (g 2, 1026, .inl u5_0)) : Option (Nat × va_E)) ∧ (u0_0.toInt ≤ 420004) ∧ (0 ≤ u2_0.toInt) ∧ (u2_0.toInt ≤ 220) ∧ (0 ≤ u2_1.toInt) ∧ (u2_1.toInt ≤ 1) ∧ (0 ≤ u4_0.toInt) ∧ (u4_0.toInt ≤ 1026) ∧ (0 ≤ u4_1.toInt + 200000) ∧ (x3.toInt ≤ u0_0.toInt + 8) ∧ (u0_0.toInt ≤ x3.toInt + 420004) ∧ (x4.toInt + 1 ≤ u0_0.toInt) ∧ (x5.toInt + 1 ≤ u0_0.toInt) ∧ (u0_0.toInt ≤ x5.toInt + 420004) ∧ (x3.toInt ≤ u2_0.toInt + 9) ∧ (u2_0.toInt ≤ x3.toInt + 220) ∧ (x5.toInt ≤ u2_0.toInt + 1100) ∧ (u2_0.toInt ≤ x5.toInt + 220) ∧ (x3.toInt ≤ u2_1.toInt + 9) ∧ (u2_1.toInt ≤ x3.toInt + 1) ∧ (x5.toInt ≤ u2_1.toInt + 1100) ∧ (u2_1.toInt ≤ x5.toInt + 1) ∧ (x3.toInt ≤ u4_0.toInt + 9) ∧ (u4_0.toInt ≤ x3.toInt + 1026) ∧ (x5.toInt ≤ u4_0.toInt + 1100) ∧ (u4_0.toInt ≤ x5.toInt + 1026) ∧ (x3.toInt ≤ u4_1.toInt + 200009) ∧ (u4_1.toInt ≤ x3.toInt + 300001) ∧ (u4_1.toInt ≤ x4.toInt + 300000) ∧ (x5.toInt ≤ u4_1.toInt + 201100) ∧ (u4_1.toInt ≤ x5.toInt + 300001) ∧ (u0_0.toInt ≤ r.toInt) ∧ (r.toInt ≤ u0_0.toInt) ∧ (u4_1.toInt ≤ u0_0.toInt + 299998) ∧ (u4_1.toInt ≤ u4_0.toInt + 300000) ∧ ((0 : Int32), r, u0_0, u1_0, u2_0, u2_1, u3_0, u4_0, u4_1, u5_0) = (F_NH_figures x2 x3 x4 x5 x6 t0_0 t1_0 t2_0 t2_1 t3_0 t4_0 t4_1 t5_0 t6_0 t7_0 t8_0 t8_1 t8_2 t9_0 t9_1 t9_2)) (q_B D g (va_A ws sz)) (va_A ws sz)) (fun E u => ∃ c : Int32, E = qE c ∧ c ≠ 0 ∧ q_I (nsh g q) q u ∧ q_un ws u [3, 4, 10, 11, 36, 37] ∧ ∃ (u0_0 : Int32) (u1_0 : (Nat → Int64)) (u2_0 : Int32) (u2_1 : Int32) (u3_0 : (Nat → Int32)) (u4_0 : Int32) (u4_1 : Int32) (u5_0 : (Nat → Int32)), u[3]? = (some (q 3, .inr (1, [.ref (q 4), .int 11008, .int u0_0])) : Option (Nat × va_E)) ∧ u[4]? = (some (q 4, .inl (g 1, (1376 : Int32).toNatClampNeg, .inr (.inl u1_0))) : Option (Nat × va_E)) ∧ u[10]? = (some (q 10, .inr (2, [.ref (q 11), .int u2_0, .int u2_1])) : Option (Nat × va_E)) ∧ u[11]? = (some (q 11, .inl (g 0, (220 : Int32).toNatClampNeg, .inl u3_0)) : Option (Nat × va_E)) ∧ u[36]? = (some (q 36, .inr (7, [.int u4_0, .int u4_1, .ref (q 37)])) : Option (Nat × va_E)) ∧ u[37]? = (some (q 37, .inl (g 2, 1026, .inl u5_0)) : Option (Nat × va_E)) ∧ (c, (0 : Int32), u0_0, u1_0, u2_0, u2_1, u3_0, u4_0, u4_1, u5_0) = (F_NH_figures x2 x3 x4 x5 x6 t0_0 t1_0 t2_0 t2_1 t3_0 t4_0 t4_1 t5_0 t6_0 t7_0 t8_0 t8_1 t8_2 t9_0 t9_1 t9_2)) := by
  intro sz
  refine q_intoX (by decide) (Nat.le_of_ble_eq_true rfl) ?_
  intro p e s m below meth c ls hsz C0 V hno hl
  have hx := C0.1
  have hb := C0.2.1
  replace hzx4 : q_F (0 ≤ x4.toInt ∧ x4.toInt ≤ 1) := hzx4
  have btt0_0 := n_shW hI (n_h3 g q) hT0
  clear btt0_0
  have btt2_1 := (q_bigW hI (n_b10 g q) hT2).2
  clear btt2_1
  have btt4_1 := (n_w36 hI hT4).2
  clear btt4_1
  have hF : q_un ws ws [3, 4, 10, 11, 36, 37] := q_u0
  have hl : lv_has ls 9 [(0, .ref (q 0)), (1, .int x2), (2, .int x3), (3, .int x4), (4, .int x5), (5, .int x6)] := hl
  refine lv_iload_n hx hb d_1_18_0 rfl (lv_at hl 1 rfl) ?_
  refine lv_iconst (v := 2) hx hb d_1_18_1 (by decide) ?_
  refine q_join (X := Int32) (fun z H locs ls _ => q_F (0 ≤ z.toInt) ∧ q_F (z.toInt ≤ 1) ∧ q_Wd D g (va_A ws sz) s ws H locs ∧ lv_has ls 9 [(0, .ref (q 0)), (1, .int x2), (2, .int x3), (3, .int x4), (4, .int x5), (5, .int x6)] ∧ F_NH_figures_J33 x2 x3 x4 x5 x6 t0_0 t1_0 t2_0 t2_1 t3_0 t4_0 t4_1 t5_0 t6_0 t7_0 t8_0 t8_1 t8_2 t9_0 t9_1 t9_2 z = (F_NH_figures x2 x3 x4 x5 x6 t0_0 t1_0 t2_0 t2_1 t3_0 t4_0 t4_1 t5_0 t6_0 t7_0 t8_0 t8_1 t8_2 t9_0 t9_1 t9_2) ∧ True ∧ S_NH_figures_J33 x2 x3 x4 x5 x6 t0_0 t1_0 t2_0 t2_1 t3_0 t4_0 t4_1 t5_0 t6_0 t7_0 t8_0 t8_1 t8_2 t9_0 t9_1 t9_2 z) (fun z => [.int z]) 33 0 0 ?_ ?_
  ·
    rintro lx34 H locs ls _ hZ9
    obtain ⟨i46, hZ9⟩ := hZ9
    obtain ⟨i47, hZ9⟩ := hZ9
    obtain ⟨V, hZ9⟩ := hZ9
    obtain ⟨hl, hZ9⟩ := hZ9
    obtain ⟨hR48, hS49⟩ := hZ9
    replace i46 : q_F (0 ≤ lx34.toInt) := i46
    replace i47 : q_F (lx34.toInt ≤ 1) := i47
    replace hl : lv_has ls 9 [(0, .ref (q 0)), (1, .int x2), (2, .int x3), (3, .int x4), (4, .int x5), (5, .int x6)] := hl
    refine q_goxv V (q_runSX (As := [.int lx34]) (rest := []) (d := 7) (mc := 1) (ms := 6) C0 V rfl LS_NH_104 (X_NH_need l D g q ws  lx34 hlt hI  ⟨(by first | with_reducible exact q_fe i46 | (have t1 : 0 ≤ lx34.toInt := i46; omega)), (by first | with_reducible exact q_fe i47 | (have t1 : lx34.toInt ≤ 1 := i47; omega))⟩ _) rfl hl.1 rfl (Nat.le_of_ble_eq_true rfl) ⟨by decide, by decide⟩ ⟨Nat.le_of_ble_eq_true rfl, Nat.le_of_ble_eq_true rfl⟩ d_1_18_33) (fun qx Ex ce u53 H locs hp54 V hce hcv hcl => ?_) (fun u53 H locs hp54 V => ?_)
    ·
      obtain ⟨cx56, he57, hc58, rfl, hE55⟩ := hp54
      have c59 : ¬ (F_NH_need lx34) = (0 : Int32) := fun z => hc58 (((hE55) : cx56 = _).trans z)
      exact q_outT hno C0 V (⟨(F_NH_need lx34), (he57.trans (congrArg qE ((hE55) : cx56 = _))), c59, hI, hF, t0_0, t1_0, t2_0, t2_1, t3_0, t4_0, t4_1, t5_0, hT0, hT1, hT2, hT3, hT4, hT5, (show ((F_NH_need lx34), (0 : Int32), t0_0, t1_0, t2_0, t2_1, t3_0, t4_0, t4_1, t5_0) = (F_NH_figures x2 x3 x4 x5 x6 t0_0 t1_0 t2_0 t2_1 t3_0 t4_0 t4_1 t5_0 t6_0 t7_0 t8_0 t8_1 t8_2 t9_0 t9_1 t9_2) from Eq.trans (by rw [F_NH_figures_J33.eq_1, if_neg c59]) hR48)⟩) hce hcv hcl (Nat.le_of_ble_eq_true rfl) (Nat.le_of_ble_eq_true rfl)
    ·
      obtain ⟨rfl, hE60⟩ := hp54
      have c59 : (F_NH_need lx34) = (0 : Int32) := ((hE60) : (0 : Int32) = _).symm
      refine lv_iload_n hx hb d_1_18_36 rfl (lv_at hl 3 rfl) ?_
      refine q_join (X := Int32) (fun z H locs ls _ => q_F (0 ≤ z.toInt) ∧ q_F (z.toInt ≤ 1) ∧ q_Wd D g (va_A ws sz) s ws H locs ∧ lv_has ls 9 [(0, .ref (q 0)), (1, .int x2), (2, .int x3), (3, .int x4), (4, .int x5), (5, .int x6)] ∧ F_NH_figures_J80 x2 x3 x4 x5 x6 t0_0 t1_0 t2_0 t2_1 t3_0 t4_0 t4_1 t5_0 t6_0 t7_0 t8_0 t8_1 t8_2 t9_0 t9_1 t9_2 lx34 z = (F_NH_figures x2 x3 x4 x5 x6 t0_0 t1_0 t2_0 t2_1 t3_0 t4_0 t4_1 t5_0 t6_0 t7_0 t8_0 t8_1 t8_2 t9_0 t9_1 t9_2) ∧ True ∧ S_NH_figures_J80 x2 x3 x4 x5 x6 t0_0 t1_0 t2_0 t2_1 t3_0 t4_0 t4_1 t5_0 t6_0 t7_0 t8_0 t8_1 t8_2 t9_0 t9_1 t9_2 lx34 z) (fun z => [.int z]) 80 1 6 ?_ ?_
      ·
        rintro lx62 H locs ls _ hZ9
        obtain ⟨i74, hZ9⟩ := hZ9
        obtain ⟨i75, hZ9⟩ := hZ9
        obtain ⟨V, hZ9⟩ := hZ9
        obtain ⟨hl, hZ9⟩ := hZ9
        obtain ⟨hR76, hS77⟩ := hZ9
        replace i74 : q_F (0 ≤ lx62.toInt) := i74
        replace i75 : q_F (lx62.toInt ≤ 1) := i75
        replace hl : lv_has ls 9 [(0, .ref (q 0)), (1, .int x2), (2, .int x3), (3, .int x4), (4, .int x5), (5, .int x6)] := hl
        refine q_goxv V (q_runSX (As := [.int lx62]) (rest := []) (d := 7) (mc := 1) (ms := 6) C0 V rfl LS_NH_104 (X_NH_need l D g q ws  lx62 hlt hI  ⟨(by first | with_reducible exact q_fe i74 | (have t1 : 0 ≤ lx62.toInt := i74; omega)), (by first | with_reducible exact q_fe i75 | (have t1 : lx62.toInt ≤ 1 := i75; omega))⟩ _) rfl hl.1 rfl (Nat.le_of_ble_eq_true rfl) ⟨by decide, by decide⟩ ⟨Nat.le_of_ble_eq_true rfl, Nat.le_of_ble_eq_true rfl⟩ d_1_18_80) (fun qx Ex ce u81 H locs hp82 V hce hcv hcl => ?_) (fun u81 H locs hp82 V => ?_)
        ·
          obtain ⟨cx84, he85, hc86, rfl, hE83⟩ := hp82
          have c87 : ¬ (F_NH_need lx62) = (0 : Int32) := fun z => hc86 (((hE83) : cx84 = _).trans z)
          exact q_outT hno C0 V (⟨(F_NH_need lx62), (he85.trans (congrArg qE ((hE83) : cx84 = _))), c87, hI, hF, t0_0, t1_0, t2_0, t2_1, t3_0, t4_0, t4_1, t5_0, hT0, hT1, hT2, hT3, hT4, hT5, (show ((F_NH_need lx62), (0 : Int32), t0_0, t1_0, t2_0, t2_1, t3_0, t4_0, t4_1, t5_0) = (F_NH_figures x2 x3 x4 x5 x6 t0_0 t1_0 t2_0 t2_1 t3_0 t4_0 t4_1 t5_0 t6_0 t7_0 t8_0 t8_1 t8_2 t9_0 t9_1 t9_2) from Eq.trans (by rw [F_NH_figures_J80.eq_1, if_neg c87]) hR76)⟩) hce hcv hcl (Nat.le_of_ble_eq_true rfl) (Nat.le_of_ble_eq_true rfl)
        ·
          obtain ⟨rfl, hE88⟩ := hp82
          have c87 : (F_NH_need lx62) = (0 : Int32) := ((hE88) : (0 : Int32) = _).symm
          refine lv_aload_n hx hb d_1_18_83 rfl (lv_at hl 0 rfl) ?_
          refine lv_iload_n hx hb d_1_18_84 rfl (lv_at hl 1 rfl) ?_
          have hO90 := n_o0 hI
          refine q_gor (post := fun r u => ws = u ∧ r = q (F_NH_floatsOf x2)) V (q_runV (As := [.int x2]) (rest := []) (d := 1) (mc := 0) (ms := 0) (ci := 0) C0 V rfl LV_NH_130 (X_NH_floatsOf l D g q ws  x2 hI   _) rfl rfl hO90 rfl hl.1 rfl (Nat.le_of_ble_eq_true rfl) ⟨by decide, by decide⟩ ⟨Nat.le_of_ble_eq_true rfl, Nat.le_of_ble_eq_true rfl⟩ d_1_18_85) (fun a93 u91 H locs hp92 V => ?_)
          obtain ⟨rfl, hr94⟩ := hp92
          by_cases c95 : x2 = (2 : Int32)
          ·
            have hr96 : a93 = q 34 := hr94.trans (congrArg q (by unfold F_NH_floatsOf; rw [if_pos c95]))
            subst hr96
            refine lv_astore (lv' := [(6, .ref (q 34)), (0, .ref (q 0)), (1, .int x2), (2, .int x3), (3, .int x4), (4, .int x5), (5, .int x6)]) hx hb d_1_18_88 hl (by decide) rfl (fun ls hl => ?_)
            refine lv_aload_n hx hb d_1_18_90 rfl (lv_at hl 1 rfl) ?_
            refine lv_iload_n hx hb d_1_18_91 rfl (lv_at hl 2 rfl) ?_
            refine q_gor (post := fun r u => ws = u ∧ r = q (F_NH_floatRow x2)) V (q_runV (As := [.int x2]) (rest := []) (d := 1) (mc := 0) (ms := 0) (ci := 0) C0 V rfl LV_NH_157 (X_NH_floatRow l D g q ws  x2 hI   _) rfl rfl hO90 rfl hl.1 rfl (Nat.le_of_ble_eq_true rfl) ⟨by decide, by decide⟩ ⟨Nat.le_of_ble_eq_true rfl, Nat.le_of_ble_eq_true rfl⟩ d_1_18_92) (fun a100 u98 H locs hp99 V => ?_)
            obtain ⟨rfl, hr101⟩ := hp99
            by_cases c102 : x2 = (2 : Int32)
            ·
              have hr103 : a100 = q 7 := hr101.trans (congrArg q (by unfold F_NH_floatRow; rw [if_pos c102]))
              subst hr103
              refine lv_iload_n hx hb d_1_18_95 rfl (lv_at hl 3 rfl) ?_
              have ob105 : q_F (0 ≤ x3.toInt) := (by have h := hS77; rw [S_NH_figures_J80.eq_1] at h; rw [if_pos c87] at h; rw [if_pos c95] at h; rw [if_pos c102] at h; exact h.2.1)
              have ob106 : q_F (x3.toInt ≤ 9) := (by have h := hS77; rw [S_NH_figures_J80.eq_1] at h; rw [if_pos c87] at h; rw [if_pos c95] at h; rw [if_pos c102] at h; replace h := q_s2 h; exact h.2.1)
              refine q_lald C0 V hT6 (q_ix (x := x3.toInt) rfl (by first | with_reducible exact q_fe ob105 | (have t1 : 0 ≤ x3.toInt := ob105; omega)) (by have t1 : 0 ≤ x3.toInt := ob105; have t2 : x3.toInt ≤ 9 := ob106; omega)) d_1_18_96 ?_
              obtain ⟨j107, e108⟩ := q_nm (t6_0 x3.toNatClampNeg : Int64)
              refine q_tl (v := j107) e108 ?_
              refine lv_lstore (lv' := [(7, .long j107), (6, .ref (q 34)), (0, .ref (q 0)), (1, .int x2), (2, .int x3), (3, .int x4), (4, .int x5), (5, .int x6)]) hx hb d_1_18_97 hl (by decide) rfl (fun ls hl => ?_)
              refine lv_aload hx hb d_1_18_99 (lv_at hl 1 rfl) ?_
              refine lv_lload hx hb d_1_18_101 (lv_at hl 0 rfl) ?_
              refine q_goi V (q_runV (As := [.long j107]) (rest := []) (d := 2) (mc := 0) (ms := 0) (ci := 6) C0 V rfl LV_NH_179 (X_Flo_isFinite l D g q ws 34 52 1075 2047 (n_f34 g q) j107 hI   _) rfl rfl hT8 rfl hl.1 rfl (Nat.le_of_ble_eq_true rfl) ⟨by decide, by decide⟩ ⟨Nat.le_of_ble_eq_true rfl, Nat.le_of_ble_eq_true rfl⟩ d_1_18_103) (fun a111 u109 H locs hp110 V => ?_)
              obtain ⟨rfl, b112, b113, hE114⟩ := hp110
              have e115 : a111 = (F_Flo_isFinite (52 : Int32) (1075 : Int32) (2047 : Int32) j107) := hE114
              replace b112 : q_F (0 ≤ a111.toInt) := b112
              replace b113 : q_F (a111.toInt ≤ 1) := b113
              refine q_goxv V (q_runSX (As := [.int a111]) (rest := []) (d := 7) (mc := 1) (ms := 6) C0 V rfl LS_NH_138 (X_NH_canHave l D g q ws  a111 hlt hI  ⟨(by first | with_reducible exact q_fe b112 | (have t1 : 0 ≤ a111.toInt := b112; omega)), (by first | with_reducible exact q_fe b113 | (have t1 : a111.toInt ≤ 1 := b113; omega))⟩ _) rfl hl.1 rfl (Nat.le_of_ble_eq_true rfl) ⟨by decide, by decide⟩ ⟨Nat.le_of_ble_eq_true rfl, Nat.le_of_ble_eq_true rfl⟩ d_1_18_106) (fun qx Ex ce u116 H locs hp117 V hce hcv hcl => ?_) (fun u116 H locs hp117 V => ?_)
              ·
                obtain ⟨cx119, he120, hc121, rfl, hE118⟩ := hp117
                have c122 : ¬ (F_NH_canHave a111) = (0 : Int32) := fun z => hc121 (((hE118) : cx119 = _).trans z)
                exact q_outT hno C0 V (⟨(F_NH_canHave a111), (he120.trans (congrArg qE ((hE118) : cx119 = _))), c122, hI, hF, t0_0, t1_0, t2_0, t2_1, t3_0, t4_0, t4_1, t5_0, hT0, hT1, hT2, hT3, hT4, hT5, (show ((F_NH_canHave a111), (0 : Int32), t0_0, t1_0, t2_0, t2_1, t3_0, t4_0, t4_1, t5_0) = (F_NH_figures x2 x3 x4 x5 x6 t0_0 t1_0 t2_0 t2_1 t3_0 t4_0 t4_1 t5_0 t6_0 t7_0 t8_0 t8_1 t8_2 t9_0 t9_1 t9_2) from Eq.trans (by have c122x := c122; rw [e115, ← e108] at c122x; rw [e115, ← e108, F_NH_figures_J80.eq_1, if_pos c87, if_pos c95, if_pos c102, if_neg c122x]) hR76)⟩) hce hcv hcl (Nat.le_of_ble_eq_true rfl) (Nat.le_of_ble_eq_true rfl)
              ·
                obtain ⟨rfl, hE123⟩ := hp117
                have c122 : (F_NH_canHave a111) = (0 : Int32) := ((hE123) : (0 : Int32) = _).symm
                refine lv_aload_n hx hb d_1_18_109 rfl (lv_at hl 2 rfl) ?_
                refine q_get (ci := 0) (j := 12) (v := .ref (q 39)) C0 V i_NH rfl rfl hO90 (by decide) w_436 rfl d_1_18_110 ?_
                refine lv_aload hx hb d_1_18_113 (lv_at hl 1 rfl) ?_
                refine lv_lload hx hb d_1_18_115 (lv_at hl 0 rfl) ?_
                refine lv_iload_n hx hb d_1_18_117 rfl (lv_at hl 5 rfl) ?_
                refine lv_iload hx hb d_1_18_118 (lv_at hl 6 rfl) ?_
                refine lv_iload hx hb d_1_18_120 (lv_at hl 7 rfl) ?_
                have ob125 : q_F (0 ≤ x5.toInt) := (by have h := hS77; rw [S_NH_figures_J80.eq_1] at h; rw [if_pos c87] at h; rw [if_pos c95] at h; rw [if_pos c102] at h; replace h := q_s2 h; replace h := q_s2 h; have c122x := c122; rw [e115, ← e108] at c122x; rw [if_pos c122x] at h; exact h.2.1)
                have ob126 : q_F (x5.toInt ≤ 1100) := (by have h := hS77; rw [S_NH_figures_J80.eq_1] at h; rw [if_pos c87] at h; rw [if_pos c95] at h; rw [if_pos c102] at h; replace h := q_s2 h; replace h := q_s2 h; have c122x := c122; rw [e115, ← e108] at c122x; rw [if_pos c122x] at h; replace h := q_s2 h; exact h.2.1)
                have ob127 : True ∧ S_Wri_exactText (52 : Int32) (1075 : Int32) (2047 : Int32) j107 x4 x5 x6 t0_0 t1_0 t4_0 t4_1 t5_0 t2_0 t2_1 t3_0 t8_0 t8_1 t8_2 := (by rw [← e108]; have h := hS77; rw [S_NH_figures_J80.eq_1] at h; rw [if_pos c87] at h; rw [if_pos c95] at h; rw [if_pos c102] at h; replace h := q_s2 h; replace h := q_s2 h; have c122x := c122; rw [e115, ← e108] at c122x; rw [if_pos c122x] at h; replace h := q_s2 h; replace h := q_s2 h; with_reducible exact h.2.1)
                have hO128 := n_o39 hI
                refine q_gov V (q_runV (As := [.ref (q 34), .long j107, .int x4, .int x5, .int x6]) (rest := []) (d := 5) (mc := 0) (ms := 0) (ci := 9) C0 V rfl LV_NH_335 (X_Wri_exactText l D g q ws 34 52 1075 2047 (n_f34 g q) j107 x4 x5 x6 hI t0_0 hT0 t1_0 hT1 t4_0 t4_1 hT4 t5_0 hT5 t2_0 t2_1 hT2 t3_0 hT3 t8_0 t8_1 t8_2 hT8 ⟨(by have y0 : (52 : Int32).toInt = 52 := rfl; have y1 : (1075 : Int32).toInt = 1075 := rfl; have y2 : (2047 : Int32).toInt = 2047 := rfl; have t1 : 0 ≤ x4.toInt ∧ x4.toInt ≤ 1 := hzx4; omega), (by have y0 : (52 : Int32).toInt = 52 := rfl; have y1 : (1075 : Int32).toInt = 1075 := rfl; have y2 : (2047 : Int32).toInt = 2047 := rfl; have t1 : 0 ≤ x4.toInt ∧ x4.toInt ≤ 1 := hzx4; omega)⟩ (by have y0 : (52 : Int32).toInt = 52 := rfl; have y1 : (1075 : Int32).toInt = 1075 := rfl; have y2 : (2047 : Int32).toInt = 2047 := rfl; have t1 : 0 ≤ x5.toInt := ob125; omega) (by have y0 : (52 : Int32).toInt = 52 := rfl; have y1 : (1075 : Int32).toInt = 1075 := rfl; have y2 : (2047 : Int32).toInt = 2047 := rfl; have t1 : x5.toInt ≤ 1100 := ob126; omega) ob127 _) rfl rfl hO128 rfl hl.1 rfl (Nat.le_of_ble_eq_true rfl) ⟨by decide, by decide⟩ ⟨Nat.le_of_ble_eq_true rfl, Nat.le_of_ble_eq_true rfl⟩ d_1_18_122) (fun u129 H locs hp130 V => ?_)
                obtain ⟨hI, hZ9⟩ := hp130
                obtain ⟨hu159, hZ9⟩ := hZ9
                obtain ⟨y132, hZ9⟩ := hZ9
                obtain ⟨f133, hZ9⟩ := hZ9
                obtain ⟨y136, hZ9⟩ := hZ9
                obtain ⟨y137, hZ9⟩ := hZ9
                obtain ⟨f138, hZ9⟩ := hZ9
                obtain ⟨y141, hZ9⟩ := hZ9
                obtain ⟨y142, hZ9⟩ := hZ9
                obtain ⟨f143, hZ9⟩ := hZ9
                obtain ⟨hO131, hZ9⟩ := hZ9
                obtain ⟨hA134, hZ9⟩ := hZ9
                obtain ⟨hO135, hZ9⟩ := hZ9
                obtain ⟨hA139, hZ9⟩ := hZ9
                obtain ⟨hO140, hZ9⟩ := hZ9
                obtain ⟨hA144, hZ9⟩ := hZ9
                obtain ⟨b145, hZ9⟩ := hZ9
                obtain ⟨b146, hZ9⟩ := hZ9
                obtain ⟨b147, hZ9⟩ := hZ9
                obtain ⟨b148, hZ9⟩ := hZ9
                obtain ⟨b149, hZ9⟩ := hZ9
                obtain ⟨b150, hZ9⟩ := hZ9
                obtain ⟨b151, hZ9⟩ := hZ9
                obtain ⟨b152, hZ9⟩ := hZ9
                obtain ⟨b153, hZ9⟩ := hZ9
                obtain ⟨b154, hZ9⟩ := hZ9
                obtain ⟨b155, hZ9⟩ := hZ9
                obtain ⟨b156, hZ9⟩ := hZ9
                obtain ⟨b157, hE158⟩ := hZ9
                replace hO131 : u129[3]? = (some (q 3, .inr (1, [.ref (q 4), .int 11008, .int y132])) : Option (Nat × va_E)) := hO131
                replace hA134 : u129[4]? = (some (q 4, .inl (g 1, (1376 : Int32).toNatClampNeg, .inr (.inl f133))) : Option (Nat × va_E)) := hA134
                replace hO135 : u129[36]? = (some (q 36, .inr (7, [.int y136, .int y137, .ref (q 37)])) : Option (Nat × va_E)) := hO135
                replace hA139 : u129[37]? = (some (q 37, .inl (g 2, 1026, .inl f138)) : Option (Nat × va_E)) := hA139
                replace hO140 : u129[10]? = (some (q 10, .inr (2, [.ref (q 11), .int y141, .int y142])) : Option (Nat × va_E)) := hO140
                replace hA144 : u129[11]? = (some (q 11, .inl (g 0, (220 : Int32).toNatClampNeg, .inl f143)) : Option (Nat × va_E)) := hA144
                obtain ⟨p160, e161⟩ : ∃ z, z = (F_Wri_exactText (52 : Int32) (1075 : Int32) (2047 : Int32) j107 x4 x5 x6 t0_0 t1_0 t4_0 t4_1 t5_0 t2_0 t2_1 t3_0 t8_0 t8_1 t8_2) := ⟨_, rfl⟩
                have e162 : y132 = p160.1 := congrArg (fun z => z.1) (hE158.trans e161.symm)
                have e163 : f133 = p160.2.1 := congrArg (fun z => z.2.1) (hE158.trans e161.symm)
                have e164 : y136 = p160.2.2.1 := congrArg (fun z => z.2.2.1) (hE158.trans e161.symm)
                have e165 : y137 = p160.2.2.2.1 := congrArg (fun z => z.2.2.2.1) (hE158.trans e161.symm)
                have e166 : f138 = p160.2.2.2.2.1 := congrArg (fun z => z.2.2.2.2.1) (hE158.trans e161.symm)
                have e167 : y141 = p160.2.2.2.2.2.1 := congrArg (fun z => z.2.2.2.2.2.1) (hE158.trans e161.symm)
                have e168 : y142 = p160.2.2.2.2.2.2.1 := congrArg (fun z => z.2.2.2.2.2.2.1) (hE158.trans e161.symm)
                have e169 : f143 = p160.2.2.2.2.2.2.2 := congrArg (fun z => z.2.2.2.2.2.2.2) (hE158.trans e161.symm)
                replace b145 : q_F (y132.toInt ≤ 420004) := b145
                replace b146 : q_F (0 ≤ y136.toInt) := b146
                replace b147 : q_F (y136.toInt ≤ 1026) := b147
                replace b148 : q_F (0 ≤ y137.toInt + 200000) := b148
                replace b149 : q_F (0 ≤ y141.toInt) := b149
                replace b150 : q_F (y141.toInt ≤ 220) := b150
                replace b151 : q_F (0 ≤ y142.toInt) := b151
                replace b152 : q_F (y142.toInt ≤ 1) := b152
                replace b153 : q_F (x4.toInt + 1 ≤ y132.toInt) := b153
                replace b154 : q_F (x5.toInt + 1 ≤ y132.toInt) := b154
                replace b155 : q_F (y137.toInt ≤ x4.toInt + 300000) := b155
                replace b156 : q_F (y137.toInt ≤ y132.toInt + 299998) := b156
                replace b157 : q_F (y137.toInt ≤ y136.toInt + 300000) := b157
                replace hO90 := (hu159 _ (by decide)).trans hO90
                replace hF := q_uc hF hu159 (by simp)
                have hR170 := (show F_NH_figures_c122 x2 x3 x4 x5 x6 t0_0 t1_0 t2_0 t2_1 t3_0 t4_0 t4_1 t5_0 t6_0 t7_0 t8_0 t8_1 t8_2 t9_0 t9_1 t9_2 lx34 lx62 j107 p160 = (F_NH_figures x2 x3 x4 x5 x6 t0_0 t1_0 t2_0 t2_1 t3_0 t4_0 t4_1 t5_0 t6_0 t7_0 t8_0 t8_1 t8_2 t9_0 t9_1 t9_2) from Eq.trans (by have c122x := c122; rw [e115, ← e108] at c122x; rw [e161, ← e108, F_NH_figures_J80.eq_1, if_pos c87, if_pos c95, if_pos c102, if_pos c122x]) hR76)
                have hS171 := (show True ∧ S_NH_figures_c122 x2 x3 x4 x5 x6 t0_0 t1_0 t2_0 t2_1 t3_0 t4_0 t4_1 t5_0 t6_0 t7_0 t8_0 t8_1 t8_2 t9_0 t9_1 t9_2 lx34 lx62 j107 p160 from (by rw [e161, ← e108]; have h := hS77; rw [S_NH_figures_J80.eq_1] at h; rw [if_pos c87] at h; rw [if_pos c95] at h; rw [if_pos c102] at h; replace h := q_s2 h; replace h := q_s2 h; have c122x := c122; rw [e115, ← e108] at c122x; rw [if_pos c122x] at h; replace h := q_s2 h; replace h := q_s2 h; replace h := q_s2 h; with_reducible exact h))
                refine lv_aload_n hx hb d_1_18_125 rfl (lv_at hl 2 rfl) ?_
                refine q_get (ci := 0) (j := 1) (v := .ref (q 3)) C0 V i_NH rfl rfl hO90 (by decide) w_425 rfl d_1_18_126 ?_
                refine q_get (ci := 1) (j := 2) (v := .int y132) C0 V i_She rfl rfl hO131 (by decide) w_56 rfl d_1_18_129 ?_
                exact q_retX (q_reti C0 V (⟨hI, hF, y132, f133, y141, y142, f143, y136, y137, f138, hO131, hA134, hO140, hA144, hO135, hA139, (show y132.toInt ≤ 420004 from (by first | with_reducible exact q_fe b145 | (have t1 : y132.toInt ≤ 420004 := b145; omega))), (show 0 ≤ y141.toInt from (by first | with_reducible exact q_fe b149 | (have t1 : 0 ≤ y141.toInt := b149; omega))), (show y141.toInt ≤ 220 from (by first | with_reducible exact q_fe b150 | (have t1 : y141.toInt ≤ 220 := b150; omega))), (show 0 ≤ y142.toInt from (by first | with_reducible exact q_fe b151 | (have t1 : 0 ≤ y142.toInt := b151; omega))), (show y142.toInt ≤ 1 from (by first | with_reducible exact q_fe b152 | (have t1 : y142.toInt ≤ 1 := b152; omega))), (show 0 ≤ y136.toInt from (by first | with_reducible exact q_fe b146 | (have t1 : 0 ≤ y136.toInt := b146; omega))), (show y136.toInt ≤ 1026 from (by first | with_reducible exact q_fe b147 | (have t1 : y136.toInt ≤ 1026 := b147; omega))), (show 0 ≤ y137.toInt + 200000 from (by first | with_reducible exact q_fe b148 | (have t1 : 0 ≤ y137.toInt + 200000 := b148; omega))), (show x3.toInt ≤ y132.toInt + 8 from (by have t1 : 0 ≤ x4.toInt ∧ x4.toInt ≤ 1 := hzx4; have t2 : x3.toInt ≤ 9 := ob106; have t3 : x4.toInt + 1 ≤ y132.toInt := b153; omega)), (show y132.toInt ≤ x3.toInt + 420004 from (by have t1 : 0 ≤ x3.toInt := ob105; have t2 : y132.toInt ≤ 420004 := b145; omega)), (show x4.toInt + 1 ≤ y132.toInt from (by first | with_reducible exact q_fe b153 | (have t1 : x4.toInt + 1 ≤ y132.toInt := b153; omega))), (show x5.toInt + 1 ≤ y132.toInt from (by first | with_reducible exact q_fe b154 | (have t1 : x5.toInt + 1 ≤ y132.toInt := b154; omega))), (show y132.toInt ≤ x5.toInt + 420004 from (by have t1 : 0 ≤ x5.toInt := ob125; have t2 : y132.toInt ≤ 420004 := b145; omega)), (show x3.toInt ≤ y141.toInt + 9 from (by have t1 : x3.toInt ≤ 9 := ob106; have t2 : 0 ≤ y141.toInt := b149; omega)), (show y141.toInt ≤ x3.toInt + 220 from (by have t1 : 0 ≤ x3.toInt := ob105; have t2 : y141.toInt ≤ 220 := b150; omega)), (show x5.toInt ≤ y141.toInt + 1100 from (by have t1 : x5.toInt ≤ 1100 := ob126; have t2 : 0 ≤ y141.toInt := b149; omega)), (show y141.toInt ≤ x5.toInt + 220 from (by have t1 : 0 ≤ x5.toInt := ob125; have t2 : y141.toInt ≤ 220 := b150; omega)), (show x3.toInt ≤ y142.toInt + 9 from (by have t1 : x3.toInt ≤ 9 := ob106; have t2 : 0 ≤ y142.toInt := b151; omega)), (show y142.toInt ≤ x3.toInt + 1 from (by have t1 : 0 ≤ x3.toInt := ob105; have t2 : y142.toInt ≤ 1 := b152; omega)), (show x5.toInt ≤ y142.toInt + 1100 from (by have t1 : x5.toInt ≤ 1100 := ob126; have t2 : 0 ≤ y142.toInt := b151; omega)), (show y142.toInt ≤ x5.toInt + 1 from (by have t1 : 0 ≤ x5.toInt := ob125; have t2 : y142.toInt ≤ 1 := b152; omega)), (show x3.toInt ≤ y136.toInt + 9 from (by have t1 : x3.toInt ≤ 9 := ob106; have t2 : 0 ≤ y136.toInt := b146; omega)), (show y136.toInt ≤ x3.toInt + 1026 from (by have t1 : 0 ≤ x3.toInt := ob105; have t2 : y136.toInt ≤ 1026 := b147; omega)), (show x5.toInt ≤ y136.toInt + 1100 from (by have t1 : x5.toInt ≤ 1100 := ob126; have t2 : 0 ≤ y136.toInt := b146; omega)), (show y136.toInt ≤ x5.toInt + 1026 from (by have t1 : 0 ≤ x5.toInt := ob125; have t2 : y136.toInt ≤ 1026 := b147; omega)), (show x3.toInt ≤ y137.toInt + 200009 from (by have t1 : x3.toInt ≤ 9 := ob106; have t2 : 0 ≤ y137.toInt + 200000 := b148; omega)), (show y137.toInt ≤ x3.toInt + 300001 from (by have t1 : 0 ≤ x4.toInt ∧ x4.toInt ≤ 1 := hzx4; have t2 : 0 ≤ x3.toInt := ob105; have t3 : y137.toInt ≤ x4.toInt + 300000 := b155; omega)), (show y137.toInt ≤ x4.toInt + 300000 from (by first | with_reducible exact q_fe b155 | (have t1 : y137.toInt ≤ x4.toInt + 300000 := b155; omega))), (show x5.toInt ≤ y137.toInt + 201100 from (by have t1 : x5.toInt ≤ 1100 := ob126; have t2 : 0 ≤ y137.toInt + 200000 := b148; omega)), (show y137.toInt ≤ x5.toInt + 300001 from (by have t1 : 0 ≤ x4.toInt ∧ x4.toInt ≤ 1 := hzx4; have t2 : 0 ≤ x5.toInt := ob125; have t3 : y137.toInt ≤ x4.toInt + 300000 := b155; omega)), (show y132.toInt ≤ y132.toInt from (by omega)), (show y132.toInt ≤ y132.toInt from (by omega)), (show y137.toInt ≤ y132.toInt + 299998 from (by first | with_reducible exact q_fe b156 | (have t1 : y137.toInt ≤ y132.toInt + 299998 := b156; omega))), (show y137.toInt ≤ y136.toInt + 300000 from (by first | with_reducible exact q_fe b157 | (have t1 : y137.toInt ≤ y136.toInt + 300000 := b157; omega))), (show ((0 : Int32), y132, y132, f133, y141, y142, f143, y136, y137, f138) = (F_NH_figures x2 x3 x4 x5 x6 t0_0 t1_0 t2_0 t2_1 t3_0 t4_0 t4_1 t5_0 t6_0 t7_0 t8_0 t8_1 t8_2 t9_0 t9_1 t9_2) from Eq.trans (by rw [e169, e168, e167, e166, e165, e164, e163, e162, F_NH_figures_c122.eq_1]) hR170)⟩) d_1_18_132)
            ·
              have hr175 : a100 = q 8 := hr101.trans (congrArg q (by unfold F_NH_floatRow; rw [if_neg c102]))
              subst hr175
              refine lv_iload_n hx hb d_1_18_95 rfl (lv_at hl 3 rfl) ?_
              have ob177 : q_F (0 ≤ x3.toInt) := (by have h := hS77; rw [S_NH_figures_J80.eq_1] at h; rw [if_pos c87] at h; rw [if_pos c95] at h; rw [if_neg c102] at h; exact h.2.1)
              have ob178 : q_F (x3.toInt ≤ 9) := (by have h := hS77; rw [S_NH_figures_J80.eq_1] at h; rw [if_pos c87] at h; rw [if_pos c95] at h; rw [if_neg c102] at h; replace h := q_s2 h; exact h.2.1)
              refine q_lald C0 V hT7 (q_ix (x := x3.toInt) rfl (by first | with_reducible exact q_fe ob177 | (have t1 : 0 ≤ x3.toInt := ob177; omega)) (by have t1 : 0 ≤ x3.toInt := ob177; have t2 : x3.toInt ≤ 9 := ob178; omega)) d_1_18_96 ?_
              obtain ⟨j179, e180⟩ := q_nm (t7_0 x3.toNatClampNeg : Int64)
              refine q_tl (v := j179) e180 ?_
              refine lv_lstore (lv' := [(7, .long j179), (6, .ref (q 34)), (0, .ref (q 0)), (1, .int x2), (2, .int x3), (3, .int x4), (4, .int x5), (5, .int x6)]) hx hb d_1_18_97 hl (by decide) rfl (fun ls hl => ?_)
              refine lv_aload hx hb d_1_18_99 (lv_at hl 1 rfl) ?_
              refine lv_lload hx hb d_1_18_101 (lv_at hl 0 rfl) ?_
              refine q_goi V (q_runV (As := [.long j179]) (rest := []) (d := 2) (mc := 0) (ms := 0) (ci := 6) C0 V rfl LV_NH_179 (X_Flo_isFinite l D g q ws 34 52 1075 2047 (n_f34 g q) j179 hI   _) rfl rfl hT8 rfl hl.1 rfl (Nat.le_of_ble_eq_true rfl) ⟨by decide, by decide⟩ ⟨Nat.le_of_ble_eq_true rfl, Nat.le_of_ble_eq_true rfl⟩ d_1_18_103) (fun a183 u181 H locs hp182 V => ?_)
              obtain ⟨rfl, b184, b185, hE186⟩ := hp182
              have e187 : a183 = (F_Flo_isFinite (52 : Int32) (1075 : Int32) (2047 : Int32) j179) := hE186
              replace b184 : q_F (0 ≤ a183.toInt) := b184
              replace b185 : q_F (a183.toInt ≤ 1) := b185
              refine q_goxv V (q_runSX (As := [.int a183]) (rest := []) (d := 7) (mc := 1) (ms := 6) C0 V rfl LS_NH_138 (X_NH_canHave l D g q ws  a183 hlt hI  ⟨(by first | with_reducible exact q_fe b184 | (have t1 : 0 ≤ a183.toInt := b184; omega)), (by first | with_reducible exact q_fe b185 | (have t1 : a183.toInt ≤ 1 := b185; omega))⟩ _) rfl hl.1 rfl (Nat.le_of_ble_eq_true rfl) ⟨by decide, by decide⟩ ⟨Nat.le_of_ble_eq_true rfl, Nat.le_of_ble_eq_true rfl⟩ d_1_18_106) (fun qx Ex ce u188 H locs hp189 V hce hcv hcl => ?_) (fun u188 H locs hp189 V => ?_)
              ·
                obtain ⟨cx191, he192, hc193, rfl, hE190⟩ := hp189
                have c194 : ¬ (F_NH_canHave a183) = (0 : Int32) := fun z => hc193 (((hE190) : cx191 = _).trans z)
                exact q_outT hno C0 V (⟨(F_NH_canHave a183), (he192.trans (congrArg qE ((hE190) : cx191 = _))), c194, hI, hF, t0_0, t1_0, t2_0, t2_1, t3_0, t4_0, t4_1, t5_0, hT0, hT1, hT2, hT3, hT4, hT5, (show ((F_NH_canHave a183), (0 : Int32), t0_0, t1_0, t2_0, t2_1, t3_0, t4_0, t4_1, t5_0) = (F_NH_figures x2 x3 x4 x5 x6 t0_0 t1_0 t2_0 t2_1 t3_0 t4_0 t4_1 t5_0 t6_0 t7_0 t8_0 t8_1 t8_2 t9_0 t9_1 t9_2) from Eq.trans (by have c194x := c194; rw [e187, ← e180] at c194x; rw [e187, ← e180, F_NH_figures_J80.eq_1, if_pos c87, if_pos c95, if_neg c102, if_neg c194x]) hR76)⟩) hce hcv hcl (Nat.le_of_ble_eq_true rfl) (Nat.le_of_ble_eq_true rfl)
              ·
                obtain ⟨rfl, hE195⟩ := hp189
                have c194 : (F_NH_canHave a183) = (0 : Int32) := ((hE195) : (0 : Int32) = _).symm
                refine lv_aload_n hx hb d_1_18_109 rfl (lv_at hl 2 rfl) ?_
                refine q_get (ci := 0) (j := 12) (v := .ref (q 39)) C0 V i_NH rfl rfl hO90 (by decide) w_436 rfl d_1_18_110 ?_
                refine lv_aload hx hb d_1_18_113 (lv_at hl 1 rfl) ?_
                refine lv_lload hx hb d_1_18_115 (lv_at hl 0 rfl) ?_
                refine lv_iload_n hx hb d_1_18_117 rfl (lv_at hl 5 rfl) ?_
                refine lv_iload hx hb d_1_18_118 (lv_at hl 6 rfl) ?_
                refine lv_iload hx hb d_1_18_120 (lv_at hl 7 rfl) ?_
                have ob197 : q_F (0 ≤ x5.toInt) := (by have h := hS77; rw [S_NH_figures_J80.eq_1] at h; rw [if_pos c87] at h; rw [if_pos c95] at h; rw [if_neg c102] at h; replace h := q_s2 h; replace h := q_s2 h; have c194x := c194; rw [e187, ← e180] at c194x; rw [if_pos c194x] at h; exact h.2.1)
                have ob198 : q_F (x5.toInt ≤ 1100) := (by have h := hS77; rw [S_NH_figures_J80.eq_1] at h; rw [if_pos c87] at h; rw [if_pos c95] at h; rw [if_neg c102] at h; replace h := q_s2 h; replace h := q_s2 h; have c194x := c194; rw [e187, ← e180] at c194x; rw [if_pos c194x] at h; replace h := q_s2 h; exact h.2.1)
                have ob199 : True ∧ S_Wri_exactText (52 : Int32) (1075 : Int32) (2047 : Int32) j179 x4 x5 x6 t0_0 t1_0 t4_0 t4_1 t5_0 t2_0 t2_1 t3_0 t8_0 t8_1 t8_2 := (by rw [← e180]; have h := hS77; rw [S_NH_figures_J80.eq_1] at h; rw [if_pos c87] at h; rw [if_pos c95] at h; rw [if_neg c102] at h; replace h := q_s2 h; replace h := q_s2 h; have c194x := c194; rw [e187, ← e180] at c194x; rw [if_pos c194x] at h; replace h := q_s2 h; replace h := q_s2 h; with_reducible exact h.2.1)
                have hO200 := n_o39 hI
                refine q_gov V (q_runV (As := [.ref (q 34), .long j179, .int x4, .int x5, .int x6]) (rest := []) (d := 5) (mc := 0) (ms := 0) (ci := 9) C0 V rfl LV_NH_335 (X_Wri_exactText l D g q ws 34 52 1075 2047 (n_f34 g q) j179 x4 x5 x6 hI t0_0 hT0 t1_0 hT1 t4_0 t4_1 hT4 t5_0 hT5 t2_0 t2_1 hT2 t3_0 hT3 t8_0 t8_1 t8_2 hT8 ⟨(by have y0 : (52 : Int32).toInt = 52 := rfl; have y1 : (1075 : Int32).toInt = 1075 := rfl; have y2 : (2047 : Int32).toInt = 2047 := rfl; have t1 : 0 ≤ x4.toInt ∧ x4.toInt ≤ 1 := hzx4; omega), (by have y0 : (52 : Int32).toInt = 52 := rfl; have y1 : (1075 : Int32).toInt = 1075 := rfl; have y2 : (2047 : Int32).toInt = 2047 := rfl; have t1 : 0 ≤ x4.toInt ∧ x4.toInt ≤ 1 := hzx4; omega)⟩ (by have y0 : (52 : Int32).toInt = 52 := rfl; have y1 : (1075 : Int32).toInt = 1075 := rfl; have y2 : (2047 : Int32).toInt = 2047 := rfl; have t1 : 0 ≤ x5.toInt := ob197; omega) (by have y0 : (52 : Int32).toInt = 52 := rfl; have y1 : (1075 : Int32).toInt = 1075 := rfl; have y2 : (2047 : Int32).toInt = 2047 := rfl; have t1 : x5.toInt ≤ 1100 := ob198; omega) ob199 _) rfl rfl hO200 rfl hl.1 rfl (Nat.le_of_ble_eq_true rfl) ⟨by decide, by decide⟩ ⟨Nat.le_of_ble_eq_true rfl, Nat.le_of_ble_eq_true rfl⟩ d_1_18_122) (fun u201 H locs hp202 V => ?_)
                obtain ⟨hI, hZ9⟩ := hp202
                obtain ⟨hu231, hZ9⟩ := hZ9
                obtain ⟨y204, hZ9⟩ := hZ9
                obtain ⟨f205, hZ9⟩ := hZ9
                obtain ⟨y208, hZ9⟩ := hZ9
                obtain ⟨y209, hZ9⟩ := hZ9
                obtain ⟨f210, hZ9⟩ := hZ9
                obtain ⟨y213, hZ9⟩ := hZ9
                obtain ⟨y214, hZ9⟩ := hZ9
                obtain ⟨f215, hZ9⟩ := hZ9
                obtain ⟨hO203, hZ9⟩ := hZ9
                obtain ⟨hA206, hZ9⟩ := hZ9
                obtain ⟨hO207, hZ9⟩ := hZ9
                obtain ⟨hA211, hZ9⟩ := hZ9
                obtain ⟨hO212, hZ9⟩ := hZ9
                obtain ⟨hA216, hZ9⟩ := hZ9
                obtain ⟨b217, hZ9⟩ := hZ9
                obtain ⟨b218, hZ9⟩ := hZ9
                obtain ⟨b219, hZ9⟩ := hZ9
                obtain ⟨b220, hZ9⟩ := hZ9
                obtain ⟨b221, hZ9⟩ := hZ9
                obtain ⟨b222, hZ9⟩ := hZ9
                obtain ⟨b223, hZ9⟩ := hZ9
                obtain ⟨b224, hZ9⟩ := hZ9
                obtain ⟨b225, hZ9⟩ := hZ9
                obtain ⟨b226, hZ9⟩ := hZ9
                obtain ⟨b227, hZ9⟩ := hZ9
                obtain ⟨b228, hZ9⟩ := hZ9
                obtain ⟨b229, hE230⟩ := hZ9
                replace hO203 : u201[3]? = (some (q 3, .inr (1, [.ref (q 4), .int 11008, .int y204])) : Option (Nat × va_E)) := hO203
                replace hA206 : u201[4]? = (some (q 4, .inl (g 1, (1376 : Int32).toNatClampNeg, .inr (.inl f205))) : Option (Nat × va_E)) := hA206
                replace hO207 : u201[36]? = (some (q 36, .inr (7, [.int y208, .int y209, .ref (q 37)])) : Option (Nat × va_E)) := hO207
                replace hA211 : u201[37]? = (some (q 37, .inl (g 2, 1026, .inl f210)) : Option (Nat × va_E)) := hA211
                replace hO212 : u201[10]? = (some (q 10, .inr (2, [.ref (q 11), .int y213, .int y214])) : Option (Nat × va_E)) := hO212
                replace hA216 : u201[11]? = (some (q 11, .inl (g 0, (220 : Int32).toNatClampNeg, .inl f215)) : Option (Nat × va_E)) := hA216
                obtain ⟨p232, e233⟩ : ∃ z, z = (F_Wri_exactText (52 : Int32) (1075 : Int32) (2047 : Int32) j179 x4 x5 x6 t0_0 t1_0 t4_0 t4_1 t5_0 t2_0 t2_1 t3_0 t8_0 t8_1 t8_2) := ⟨_, rfl⟩
                have e234 : y204 = p232.1 := congrArg (fun z => z.1) (hE230.trans e233.symm)
                have e235 : f205 = p232.2.1 := congrArg (fun z => z.2.1) (hE230.trans e233.symm)
                have e236 : y208 = p232.2.2.1 := congrArg (fun z => z.2.2.1) (hE230.trans e233.symm)
                have e237 : y209 = p232.2.2.2.1 := congrArg (fun z => z.2.2.2.1) (hE230.trans e233.symm)
                have e238 : f210 = p232.2.2.2.2.1 := congrArg (fun z => z.2.2.2.2.1) (hE230.trans e233.symm)
                have e239 : y213 = p232.2.2.2.2.2.1 := congrArg (fun z => z.2.2.2.2.2.1) (hE230.trans e233.symm)
                have e240 : y214 = p232.2.2.2.2.2.2.1 := congrArg (fun z => z.2.2.2.2.2.2.1) (hE230.trans e233.symm)
                have e241 : f215 = p232.2.2.2.2.2.2.2 := congrArg (fun z => z.2.2.2.2.2.2.2) (hE230.trans e233.symm)
                replace b217 : q_F (y204.toInt ≤ 420004) := b217
                replace b218 : q_F (0 ≤ y208.toInt) := b218
                replace b219 : q_F (y208.toInt ≤ 1026) := b219
                replace b220 : q_F (0 ≤ y209.toInt + 200000) := b220
                replace b221 : q_F (0 ≤ y213.toInt) := b221
                replace b222 : q_F (y213.toInt ≤ 220) := b222
                replace b223 : q_F (0 ≤ y214.toInt) := b223
                replace b224 : q_F (y214.toInt ≤ 1) := b224
                replace b225 : q_F (x4.toInt + 1 ≤ y204.toInt) := b225
                replace b226 : q_F (x5.toInt + 1 ≤ y204.toInt) := b226
                replace b227 : q_F (y209.toInt ≤ x4.toInt + 300000) := b227
                replace b228 : q_F (y209.toInt ≤ y204.toInt + 299998) := b228
                replace b229 : q_F (y209.toInt ≤ y208.toInt + 300000) := b229
                replace hO90 := (hu231 _ (by decide)).trans hO90
                replace hF := q_uc hF hu231 (by simp)
                have hR242 := (show F_NH_figures_c122_4 x2 x3 x4 x5 x6 t0_0 t1_0 t2_0 t2_1 t3_0 t4_0 t4_1 t5_0 t6_0 t7_0 t8_0 t8_1 t8_2 t9_0 t9_1 t9_2 lx34 lx62 j179 p232 = (F_NH_figures x2 x3 x4 x5 x6 t0_0 t1_0 t2_0 t2_1 t3_0 t4_0 t4_1 t5_0 t6_0 t7_0 t8_0 t8_1 t8_2 t9_0 t9_1 t9_2) from Eq.trans (by have c194x := c194; rw [e187, ← e180] at c194x; rw [e233, ← e180, F_NH_figures_J80.eq_1, if_pos c87, if_pos c95, if_neg c102, if_pos c194x]) hR76)
                have hS243 := (show True ∧ S_NH_figures_c122_4 x2 x3 x4 x5 x6 t0_0 t1_0 t2_0 t2_1 t3_0 t4_0 t4_1 t5_0 t6_0 t7_0 t8_0 t8_1 t8_2 t9_0 t9_1 t9_2 lx34 lx62 j179 p232 from (by rw [e233, ← e180]; have h := hS77; rw [S_NH_figures_J80.eq_1] at h; rw [if_pos c87] at h; rw [if_pos c95] at h; rw [if_neg c102] at h; replace h := q_s2 h; replace h := q_s2 h; have c194x := c194; rw [e187, ← e180] at c194x; rw [if_pos c194x] at h; replace h := q_s2 h; replace h := q_s2 h; replace h := q_s2 h; with_reducible exact h))
                refine lv_aload_n hx hb d_1_18_125 rfl (lv_at hl 2 rfl) ?_
                refine q_get (ci := 0) (j := 1) (v := .ref (q 3)) C0 V i_NH rfl rfl hO90 (by decide) w_425 rfl d_1_18_126 ?_
                refine q_get (ci := 1) (j := 2) (v := .int y204) C0 V i_She rfl rfl hO203 (by decide) w_56 rfl d_1_18_129 ?_
                exact q_retX (q_reti C0 V (⟨hI, hF, y204, f205, y213, y214, f215, y208, y209, f210, hO203, hA206, hO212, hA216, hO207, hA211, (show y204.toInt ≤ 420004 from (by first | with_reducible exact q_fe b217 | (have t1 : y204.toInt ≤ 420004 := b217; omega))), (show 0 ≤ y213.toInt from (by first | with_reducible exact q_fe b221 | (have t1 : 0 ≤ y213.toInt := b221; omega))), (show y213.toInt ≤ 220 from (by first | with_reducible exact q_fe b222 | (have t1 : y213.toInt ≤ 220 := b222; omega))), (show 0 ≤ y214.toInt from (by first | with_reducible exact q_fe b223 | (have t1 : 0 ≤ y214.toInt := b223; omega))), (show y214.toInt ≤ 1 from (by first | with_reducible exact q_fe b224 | (have t1 : y214.toInt ≤ 1 := b224; omega))), (show 0 ≤ y208.toInt from (by first | with_reducible exact q_fe b218 | (have t1 : 0 ≤ y208.toInt := b218; omega))), (show y208.toInt ≤ 1026 from (by first | with_reducible exact q_fe b219 | (have t1 : y208.toInt ≤ 1026 := b219; omega))), (show 0 ≤ y209.toInt + 200000 from (by first | with_reducible exact q_fe b220 | (have t1 : 0 ≤ y209.toInt + 200000 := b220; omega))), (show x3.toInt ≤ y204.toInt + 8 from (by have t1 : 0 ≤ x4.toInt ∧ x4.toInt ≤ 1 := hzx4; have t2 : x3.toInt ≤ 9 := ob178; have t3 : x4.toInt + 1 ≤ y204.toInt := b225; omega)), (show y204.toInt ≤ x3.toInt + 420004 from (by have t1 : 0 ≤ x3.toInt := ob177; have t2 : y204.toInt ≤ 420004 := b217; omega)), (show x4.toInt + 1 ≤ y204.toInt from (by first | with_reducible exact q_fe b225 | (have t1 : x4.toInt + 1 ≤ y204.toInt := b225; omega))), (show x5.toInt + 1 ≤ y204.toInt from (by first | with_reducible exact q_fe b226 | (have t1 : x5.toInt + 1 ≤ y204.toInt := b226; omega))), (show y204.toInt ≤ x5.toInt + 420004 from (by have t1 : 0 ≤ x5.toInt := ob197; have t2 : y204.toInt ≤ 420004 := b217; omega)), (show x3.toInt ≤ y213.toInt + 9 from (by have t1 : x3.toInt ≤ 9 := ob178; have t2 : 0 ≤ y213.toInt := b221; omega)), (show y213.toInt ≤ x3.toInt + 220 from (by have t1 : 0 ≤ x3.toInt := ob177; have t2 : y213.toInt ≤ 220 := b222; omega)), (show x5.toInt ≤ y213.toInt + 1100 from (by have t1 : x5.toInt ≤ 1100 := ob198; have t2 : 0 ≤ y213.toInt := b221; omega)), (show y213.toInt ≤ x5.toInt + 220 from (by have t1 : 0 ≤ x5.toInt := ob197; have t2 : y213.toInt ≤ 220 := b222; omega)), (show x3.toInt ≤ y214.toInt + 9 from (by have t1 : x3.toInt ≤ 9 := ob178; have t2 : 0 ≤ y214.toInt := b223; omega)), (show y214.toInt ≤ x3.toInt + 1 from (by have t1 : 0 ≤ x3.toInt := ob177; have t2 : y214.toInt ≤ 1 := b224; omega)), (show x5.toInt ≤ y214.toInt + 1100 from (by have t1 : x5.toInt ≤ 1100 := ob198; have t2 : 0 ≤ y214.toInt := b223; omega)), (show y214.toInt ≤ x5.toInt + 1 from (by have t1 : 0 ≤ x5.toInt := ob197; have t2 : y214.toInt ≤ 1 := b224; omega)), (show x3.toInt ≤ y208.toInt + 9 from (by have t1 : x3.toInt ≤ 9 := ob178; have t2 : 0 ≤ y208.toInt := b218; omega)), (show y208.toInt ≤ x3.toInt + 1026 from (by have t1 : 0 ≤ x3.toInt := ob177; have t2 : y208.toInt ≤ 1026 := b219; omega)), (show x5.toInt ≤ y208.toInt + 1100 from (by have t1 : x5.toInt ≤ 1100 := ob198; have t2 : 0 ≤ y208.toInt := b218; omega)), (show y208.toInt ≤ x5.toInt + 1026 from (by have t1 : 0 ≤ x5.toInt := ob197; have t2 : y208.toInt ≤ 1026 := b219; omega)), (show x3.toInt ≤ y209.toInt + 200009 from (by have t1 : x3.toInt ≤ 9 := ob178; have t2 : 0 ≤ y209.toInt + 200000 := b220; omega)), (show y209.toInt ≤ x3.toInt + 300001 from (by have t1 : 0 ≤ x4.toInt ∧ x4.toInt ≤ 1 := hzx4; have t2 : 0 ≤ x3.toInt := ob177; have t3 : y209.toInt ≤ x4.toInt + 300000 := b227; omega)), (show y209.toInt ≤ x4.toInt + 300000 from (by first | with_reducible exact q_fe b227 | (have t1 : y209.toInt ≤ x4.toInt + 300000 := b227; omega))), (show x5.toInt ≤ y209.toInt + 201100 from (by have t1 : x5.toInt ≤ 1100 := ob198; have t2 : 0 ≤ y209.toInt + 200000 := b220; omega)), (show y209.toInt ≤ x5.toInt + 300001 from (by have t1 : 0 ≤ x4.toInt ∧ x4.toInt ≤ 1 := hzx4; have t2 : 0 ≤ x5.toInt := ob197; have t3 : y209.toInt ≤ x4.toInt + 300000 := b227; omega)), (show y204.toInt ≤ y204.toInt from (by omega)), (show y204.toInt ≤ y204.toInt from (by omega)), (show y209.toInt ≤ y204.toInt + 299998 from (by first | with_reducible exact q_fe b228 | (have t1 : y209.toInt ≤ y204.toInt + 299998 := b228; omega))), (show y209.toInt ≤ y208.toInt + 300000 from (by first | with_reducible exact q_fe b229 | (have t1 : y209.toInt ≤ y208.toInt + 300000 := b229; omega))), (show ((0 : Int32), y204, y204, f205, y213, y214, f215, y208, y209, f210) = (F_NH_figures x2 x3 x4 x5 x6 t0_0 t1_0 t2_0 t2_1 t3_0 t4_0 t4_1 t5_0 t6_0 t7_0 t8_0 t8_1 t8_2 t9_0 t9_1 t9_2) from Eq.trans (by rw [e241, e240, e239, e238, e237, e236, e235, e234, F_NH_figures_c122_4.eq_1]) hR242)⟩) d_1_18_132)
          ·
            have hr247 : a93 = q 35 := hr94.trans (congrArg q (by unfold F_NH_floatsOf; rw [if_neg c95]))
            subst hr247
            refine lv_astore (lv' := [(6, .ref (q 35)), (0, .ref (q 0)), (1, .int x2), (2, .int x3), (3, .int x4), (4, .int x5), (5, .int x6)]) hx hb d_1_18_88 hl (by decide) rfl (fun ls hl => ?_)
            refine lv_aload_n hx hb d_1_18_90 rfl (lv_at hl 1 rfl) ?_
            refine lv_iload_n hx hb d_1_18_91 rfl (lv_at hl 2 rfl) ?_
            refine q_gor (post := fun r u => ws = u ∧ r = q (F_NH_floatRow x2)) V (q_runV (As := [.int x2]) (rest := []) (d := 1) (mc := 0) (ms := 0) (ci := 0) C0 V rfl LV_NH_157 (X_NH_floatRow l D g q ws  x2 hI   _) rfl rfl hO90 rfl hl.1 rfl (Nat.le_of_ble_eq_true rfl) ⟨by decide, by decide⟩ ⟨Nat.le_of_ble_eq_true rfl, Nat.le_of_ble_eq_true rfl⟩ d_1_18_92) (fun a251 u249 H locs hp250 V => ?_)
            obtain ⟨rfl, hr252⟩ := hp250
            by_cases c253 : x2 = (2 : Int32)
            ·
              have hr254 : a251 = q 7 := hr252.trans (congrArg q (by unfold F_NH_floatRow; rw [if_pos c253]))
              subst hr254
              refine lv_iload_n hx hb d_1_18_95 rfl (lv_at hl 3 rfl) ?_
              have ob256 : q_F (0 ≤ x3.toInt) := (by have h := hS77; rw [S_NH_figures_J80.eq_1] at h; rw [if_pos c87] at h; rw [if_neg c95] at h; rw [if_pos c253] at h; exact h.2.1)
              have ob257 : q_F (x3.toInt ≤ 9) := (by have h := hS77; rw [S_NH_figures_J80.eq_1] at h; rw [if_pos c87] at h; rw [if_neg c95] at h; rw [if_pos c253] at h; replace h := q_s2 h; exact h.2.1)
              refine q_lald C0 V hT6 (q_ix (x := x3.toInt) rfl (by first | with_reducible exact q_fe ob256 | (have t1 : 0 ≤ x3.toInt := ob256; omega)) (by have t1 : 0 ≤ x3.toInt := ob256; have t2 : x3.toInt ≤ 9 := ob257; omega)) d_1_18_96 ?_
              obtain ⟨j258, e259⟩ := q_nm (t6_0 x3.toNatClampNeg : Int64)
              refine q_tl (v := j258) e259 ?_
              refine lv_lstore (lv' := [(7, .long j258), (6, .ref (q 35)), (0, .ref (q 0)), (1, .int x2), (2, .int x3), (3, .int x4), (4, .int x5), (5, .int x6)]) hx hb d_1_18_97 hl (by decide) rfl (fun ls hl => ?_)
              refine lv_aload hx hb d_1_18_99 (lv_at hl 1 rfl) ?_
              refine lv_lload hx hb d_1_18_101 (lv_at hl 0 rfl) ?_
              refine q_goi V (q_runV (As := [.long j258]) (rest := []) (d := 2) (mc := 0) (ms := 0) (ci := 6) C0 V rfl LV_NH_179 (X_Flo_isFinite l D g q ws 35 23 150 255 (n_f35 g q) j258 hI   _) rfl rfl hT9 rfl hl.1 rfl (Nat.le_of_ble_eq_true rfl) ⟨by decide, by decide⟩ ⟨Nat.le_of_ble_eq_true rfl, Nat.le_of_ble_eq_true rfl⟩ d_1_18_103) (fun a262 u260 H locs hp261 V => ?_)
              obtain ⟨rfl, b263, b264, hE265⟩ := hp261
              have e266 : a262 = (F_Flo_isFinite (23 : Int32) (150 : Int32) (255 : Int32) j258) := hE265
              replace b263 : q_F (0 ≤ a262.toInt) := b263
              replace b264 : q_F (a262.toInt ≤ 1) := b264
              refine q_goxv V (q_runSX (As := [.int a262]) (rest := []) (d := 7) (mc := 1) (ms := 6) C0 V rfl LS_NH_138 (X_NH_canHave l D g q ws  a262 hlt hI  ⟨(by first | with_reducible exact q_fe b263 | (have t1 : 0 ≤ a262.toInt := b263; omega)), (by first | with_reducible exact q_fe b264 | (have t1 : a262.toInt ≤ 1 := b264; omega))⟩ _) rfl hl.1 rfl (Nat.le_of_ble_eq_true rfl) ⟨by decide, by decide⟩ ⟨Nat.le_of_ble_eq_true rfl, Nat.le_of_ble_eq_true rfl⟩ d_1_18_106) (fun qx Ex ce u267 H locs hp268 V hce hcv hcl => ?_) (fun u267 H locs hp268 V => ?_)
              ·
                obtain ⟨cx270, he271, hc272, rfl, hE269⟩ := hp268
                have c273 : ¬ (F_NH_canHave a262) = (0 : Int32) := fun z => hc272 (((hE269) : cx270 = _).trans z)
                exact q_outT hno C0 V (⟨(F_NH_canHave a262), (he271.trans (congrArg qE ((hE269) : cx270 = _))), c273, hI, hF, t0_0, t1_0, t2_0, t2_1, t3_0, t4_0, t4_1, t5_0, hT0, hT1, hT2, hT3, hT4, hT5, (show ((F_NH_canHave a262), (0 : Int32), t0_0, t1_0, t2_0, t2_1, t3_0, t4_0, t4_1, t5_0) = (F_NH_figures x2 x3 x4 x5 x6 t0_0 t1_0 t2_0 t2_1 t3_0 t4_0 t4_1 t5_0 t6_0 t7_0 t8_0 t8_1 t8_2 t9_0 t9_1 t9_2) from Eq.trans (by have c273x := c273; rw [e266, ← e259] at c273x; rw [e266, ← e259, F_NH_figures_J80.eq_1, if_pos c87, if_neg c95, if_pos c253, if_neg c273x]) hR76)⟩) hce hcv hcl (Nat.le_of_ble_eq_true rfl) (Nat.le_of_ble_eq_true rfl)
              ·
                obtain ⟨rfl, hE274⟩ := hp268
                have c273 : (F_NH_canHave a262) = (0 : Int32) := ((hE274) : (0 : Int32) = _).symm
                refine lv_aload_n hx hb d_1_18_109 rfl (lv_at hl 2 rfl) ?_
                refine q_get (ci := 0) (j := 12) (v := .ref (q 39)) C0 V i_NH rfl rfl hO90 (by decide) w_436 rfl d_1_18_110 ?_
                refine lv_aload hx hb d_1_18_113 (lv_at hl 1 rfl) ?_
                refine lv_lload hx hb d_1_18_115 (lv_at hl 0 rfl) ?_
                refine lv_iload_n hx hb d_1_18_117 rfl (lv_at hl 5 rfl) ?_
                refine lv_iload hx hb d_1_18_118 (lv_at hl 6 rfl) ?_
                refine lv_iload hx hb d_1_18_120 (lv_at hl 7 rfl) ?_
                have ob276 : q_F (0 ≤ x5.toInt) := (by have h := hS77; rw [S_NH_figures_J80.eq_1] at h; rw [if_pos c87] at h; rw [if_neg c95] at h; rw [if_pos c253] at h; replace h := q_s2 h; replace h := q_s2 h; have c273x := c273; rw [e266, ← e259] at c273x; rw [if_pos c273x] at h; exact h.2.1)
                have ob277 : q_F (x5.toInt ≤ 1100) := (by have h := hS77; rw [S_NH_figures_J80.eq_1] at h; rw [if_pos c87] at h; rw [if_neg c95] at h; rw [if_pos c253] at h; replace h := q_s2 h; replace h := q_s2 h; have c273x := c273; rw [e266, ← e259] at c273x; rw [if_pos c273x] at h; replace h := q_s2 h; exact h.2.1)
                have ob278 : True ∧ S_Wri_exactText (23 : Int32) (150 : Int32) (255 : Int32) j258 x4 x5 x6 t0_0 t1_0 t4_0 t4_1 t5_0 t2_0 t2_1 t3_0 t9_0 t9_1 t9_2 := (by rw [← e259]; have h := hS77; rw [S_NH_figures_J80.eq_1] at h; rw [if_pos c87] at h; rw [if_neg c95] at h; rw [if_pos c253] at h; replace h := q_s2 h; replace h := q_s2 h; have c273x := c273; rw [e266, ← e259] at c273x; rw [if_pos c273x] at h; replace h := q_s2 h; replace h := q_s2 h; with_reducible exact h.2.1)
                have hO279 := n_o39 hI
                refine q_gov V (q_runV (As := [.ref (q 35), .long j258, .int x4, .int x5, .int x6]) (rest := []) (d := 5) (mc := 0) (ms := 0) (ci := 9) C0 V rfl LV_NH_335 (X_Wri_exactText l D g q ws 35 23 150 255 (n_f35 g q) j258 x4 x5 x6 hI t0_0 hT0 t1_0 hT1 t4_0 t4_1 hT4 t5_0 hT5 t2_0 t2_1 hT2 t3_0 hT3 t9_0 t9_1 t9_2 hT9 ⟨(by have y0 : (23 : Int32).toInt = 23 := rfl; have y1 : (150 : Int32).toInt = 150 := rfl; have y2 : (255 : Int32).toInt = 255 := rfl; have t1 : 0 ≤ x4.toInt ∧ x4.toInt ≤ 1 := hzx4; omega), (by have y0 : (23 : Int32).toInt = 23 := rfl; have y1 : (150 : Int32).toInt = 150 := rfl; have y2 : (255 : Int32).toInt = 255 := rfl; have t1 : 0 ≤ x4.toInt ∧ x4.toInt ≤ 1 := hzx4; omega)⟩ (by have y0 : (23 : Int32).toInt = 23 := rfl; have y1 : (150 : Int32).toInt = 150 := rfl; have y2 : (255 : Int32).toInt = 255 := rfl; have t1 : 0 ≤ x5.toInt := ob276; omega) (by have y0 : (23 : Int32).toInt = 23 := rfl; have y1 : (150 : Int32).toInt = 150 := rfl; have y2 : (255 : Int32).toInt = 255 := rfl; have t1 : x5.toInt ≤ 1100 := ob277; omega) ob278 _) rfl rfl hO279 rfl hl.1 rfl (Nat.le_of_ble_eq_true rfl) ⟨by decide, by decide⟩ ⟨Nat.le_of_ble_eq_true rfl, Nat.le_of_ble_eq_true rfl⟩ d_1_18_122) (fun u280 H locs hp281 V => ?_)
                obtain ⟨hI, hZ9⟩ := hp281
                obtain ⟨hu310, hZ9⟩ := hZ9
                obtain ⟨y283, hZ9⟩ := hZ9
                obtain ⟨f284, hZ9⟩ := hZ9
                obtain ⟨y287, hZ9⟩ := hZ9
                obtain ⟨y288, hZ9⟩ := hZ9
                obtain ⟨f289, hZ9⟩ := hZ9
                obtain ⟨y292, hZ9⟩ := hZ9
                obtain ⟨y293, hZ9⟩ := hZ9
                obtain ⟨f294, hZ9⟩ := hZ9
                obtain ⟨hO282, hZ9⟩ := hZ9
                obtain ⟨hA285, hZ9⟩ := hZ9
                obtain ⟨hO286, hZ9⟩ := hZ9
                obtain ⟨hA290, hZ9⟩ := hZ9
                obtain ⟨hO291, hZ9⟩ := hZ9
                obtain ⟨hA295, hZ9⟩ := hZ9
                obtain ⟨b296, hZ9⟩ := hZ9
                obtain ⟨b297, hZ9⟩ := hZ9
                obtain ⟨b298, hZ9⟩ := hZ9
                obtain ⟨b299, hZ9⟩ := hZ9
                obtain ⟨b300, hZ9⟩ := hZ9
                obtain ⟨b301, hZ9⟩ := hZ9
                obtain ⟨b302, hZ9⟩ := hZ9
                obtain ⟨b303, hZ9⟩ := hZ9
                obtain ⟨b304, hZ9⟩ := hZ9
                obtain ⟨b305, hZ9⟩ := hZ9
                obtain ⟨b306, hZ9⟩ := hZ9
                obtain ⟨b307, hZ9⟩ := hZ9
                obtain ⟨b308, hE309⟩ := hZ9
                replace hO282 : u280[3]? = (some (q 3, .inr (1, [.ref (q 4), .int 11008, .int y283])) : Option (Nat × va_E)) := hO282
                replace hA285 : u280[4]? = (some (q 4, .inl (g 1, (1376 : Int32).toNatClampNeg, .inr (.inl f284))) : Option (Nat × va_E)) := hA285
                replace hO286 : u280[36]? = (some (q 36, .inr (7, [.int y287, .int y288, .ref (q 37)])) : Option (Nat × va_E)) := hO286
                replace hA290 : u280[37]? = (some (q 37, .inl (g 2, 1026, .inl f289)) : Option (Nat × va_E)) := hA290
                replace hO291 : u280[10]? = (some (q 10, .inr (2, [.ref (q 11), .int y292, .int y293])) : Option (Nat × va_E)) := hO291
                replace hA295 : u280[11]? = (some (q 11, .inl (g 0, (220 : Int32).toNatClampNeg, .inl f294)) : Option (Nat × va_E)) := hA295
                obtain ⟨p311, e312⟩ : ∃ z, z = (F_Wri_exactText (23 : Int32) (150 : Int32) (255 : Int32) j258 x4 x5 x6 t0_0 t1_0 t4_0 t4_1 t5_0 t2_0 t2_1 t3_0 t9_0 t9_1 t9_2) := ⟨_, rfl⟩
                have e313 : y283 = p311.1 := congrArg (fun z => z.1) (hE309.trans e312.symm)
                have e314 : f284 = p311.2.1 := congrArg (fun z => z.2.1) (hE309.trans e312.symm)
                have e315 : y287 = p311.2.2.1 := congrArg (fun z => z.2.2.1) (hE309.trans e312.symm)
                have e316 : y288 = p311.2.2.2.1 := congrArg (fun z => z.2.2.2.1) (hE309.trans e312.symm)
                have e317 : f289 = p311.2.2.2.2.1 := congrArg (fun z => z.2.2.2.2.1) (hE309.trans e312.symm)
                have e318 : y292 = p311.2.2.2.2.2.1 := congrArg (fun z => z.2.2.2.2.2.1) (hE309.trans e312.symm)
                have e319 : y293 = p311.2.2.2.2.2.2.1 := congrArg (fun z => z.2.2.2.2.2.2.1) (hE309.trans e312.symm)
                have e320 : f294 = p311.2.2.2.2.2.2.2 := congrArg (fun z => z.2.2.2.2.2.2.2) (hE309.trans e312.symm)
                replace b296 : q_F (y283.toInt ≤ 420004) := b296
                replace b297 : q_F (0 ≤ y287.toInt) := b297
                replace b298 : q_F (y287.toInt ≤ 1026) := b298
                replace b299 : q_F (0 ≤ y288.toInt + 200000) := b299
                replace b300 : q_F (0 ≤ y292.toInt) := b300
                replace b301 : q_F (y292.toInt ≤ 220) := b301
                replace b302 : q_F (0 ≤ y293.toInt) := b302
                replace b303 : q_F (y293.toInt ≤ 1) := b303
                replace b304 : q_F (x4.toInt + 1 ≤ y283.toInt) := b304
                replace b305 : q_F (x5.toInt + 1 ≤ y283.toInt) := b305
                replace b306 : q_F (y288.toInt ≤ x4.toInt + 300000) := b306
                replace b307 : q_F (y288.toInt ≤ y283.toInt + 299998) := b307
                replace b308 : q_F (y288.toInt ≤ y287.toInt + 300000) := b308
                replace hO90 := (hu310 _ (by decide)).trans hO90
                replace hF := q_uc hF hu310 (by simp)
                have hR321 := (show F_NH_figures_c122_5 x2 x3 x4 x5 x6 t0_0 t1_0 t2_0 t2_1 t3_0 t4_0 t4_1 t5_0 t6_0 t7_0 t8_0 t8_1 t8_2 t9_0 t9_1 t9_2 lx34 lx62 j258 p311 = (F_NH_figures x2 x3 x4 x5 x6 t0_0 t1_0 t2_0 t2_1 t3_0 t4_0 t4_1 t5_0 t6_0 t7_0 t8_0 t8_1 t8_2 t9_0 t9_1 t9_2) from Eq.trans (by have c273x := c273; rw [e266, ← e259] at c273x; rw [e312, ← e259, F_NH_figures_J80.eq_1, if_pos c87, if_neg c95, if_pos c253, if_pos c273x]) hR76)
                have hS322 := (show True ∧ S_NH_figures_c122_5 x2 x3 x4 x5 x6 t0_0 t1_0 t2_0 t2_1 t3_0 t4_0 t4_1 t5_0 t6_0 t7_0 t8_0 t8_1 t8_2 t9_0 t9_1 t9_2 lx34 lx62 j258 p311 from (by rw [e312, ← e259]; have h := hS77; rw [S_NH_figures_J80.eq_1] at h; rw [if_pos c87] at h; rw [if_neg c95] at h; rw [if_pos c253] at h; replace h := q_s2 h; replace h := q_s2 h; have c273x := c273; rw [e266, ← e259] at c273x; rw [if_pos c273x] at h; replace h := q_s2 h; replace h := q_s2 h; replace h := q_s2 h; with_reducible exact h))
                refine lv_aload_n hx hb d_1_18_125 rfl (lv_at hl 2 rfl) ?_
                refine q_get (ci := 0) (j := 1) (v := .ref (q 3)) C0 V i_NH rfl rfl hO90 (by decide) w_425 rfl d_1_18_126 ?_
                refine q_get (ci := 1) (j := 2) (v := .int y283) C0 V i_She rfl rfl hO282 (by decide) w_56 rfl d_1_18_129 ?_
                exact q_retX (q_reti C0 V (⟨hI, hF, y283, f284, y292, y293, f294, y287, y288, f289, hO282, hA285, hO291, hA295, hO286, hA290, (show y283.toInt ≤ 420004 from (by first | with_reducible exact q_fe b296 | (have t1 : y283.toInt ≤ 420004 := b296; omega))), (show 0 ≤ y292.toInt from (by first | with_reducible exact q_fe b300 | (have t1 : 0 ≤ y292.toInt := b300; omega))), (show y292.toInt ≤ 220 from (by first | with_reducible exact q_fe b301 | (have t1 : y292.toInt ≤ 220 := b301; omega))), (show 0 ≤ y293.toInt from (by first | with_reducible exact q_fe b302 | (have t1 : 0 ≤ y293.toInt := b302; omega))), (show y293.toInt ≤ 1 from (by first | with_reducible exact q_fe b303 | (have t1 : y293.toInt ≤ 1 := b303; omega))), (show 0 ≤ y287.toInt from (by first | with_reducible exact q_fe b297 | (have t1 : 0 ≤ y287.toInt := b297; omega))), (show y287.toInt ≤ 1026 from (by first | with_reducible exact q_fe b298 | (have t1 : y287.toInt ≤ 1026 := b298; omega))), (show 0 ≤ y288.toInt + 200000 from (by first | with_reducible exact q_fe b299 | (have t1 : 0 ≤ y288.toInt + 200000 := b299; omega))), (show x3.toInt ≤ y283.toInt + 8 from (by have t1 : 0 ≤ x4.toInt ∧ x4.toInt ≤ 1 := hzx4; have t2 : x3.toInt ≤ 9 := ob257; have t3 : x4.toInt + 1 ≤ y283.toInt := b304; omega)), (show y283.toInt ≤ x3.toInt + 420004 from (by have t1 : 0 ≤ x3.toInt := ob256; have t2 : y283.toInt ≤ 420004 := b296; omega)), (show x4.toInt + 1 ≤ y283.toInt from (by first | with_reducible exact q_fe b304 | (have t1 : x4.toInt + 1 ≤ y283.toInt := b304; omega))), (show x5.toInt + 1 ≤ y283.toInt from (by first | with_reducible exact q_fe b305 | (have t1 : x5.toInt + 1 ≤ y283.toInt := b305; omega))), (show y283.toInt ≤ x5.toInt + 420004 from (by have t1 : 0 ≤ x5.toInt := ob276; have t2 : y283.toInt ≤ 420004 := b296; omega)), (show x3.toInt ≤ y292.toInt + 9 from (by have t1 : x3.toInt ≤ 9 := ob257; have t2 : 0 ≤ y292.toInt := b300; omega)), (show y292.toInt ≤ x3.toInt + 220 from (by have t1 : 0 ≤ x3.toInt := ob256; have t2 : y292.toInt ≤ 220 := b301; omega)), (show x5.toInt ≤ y292.toInt + 1100 from (by have t1 : x5.toInt ≤ 1100 := ob277; have t2 : 0 ≤ y292.toInt := b300; omega)), (show y292.toInt ≤ x5.toInt + 220 from (by have t1 : 0 ≤ x5.toInt := ob276; have t2 : y292.toInt ≤ 220 := b301; omega)), (show x3.toInt ≤ y293.toInt + 9 from (by have t1 : x3.toInt ≤ 9 := ob257; have t2 : 0 ≤ y293.toInt := b302; omega)), (show y293.toInt ≤ x3.toInt + 1 from (by have t1 : 0 ≤ x3.toInt := ob256; have t2 : y293.toInt ≤ 1 := b303; omega)), (show x5.toInt ≤ y293.toInt + 1100 from (by have t1 : x5.toInt ≤ 1100 := ob277; have t2 : 0 ≤ y293.toInt := b302; omega)), (show y293.toInt ≤ x5.toInt + 1 from (by have t1 : 0 ≤ x5.toInt := ob276; have t2 : y293.toInt ≤ 1 := b303; omega)), (show x3.toInt ≤ y287.toInt + 9 from (by have t1 : x3.toInt ≤ 9 := ob257; have t2 : 0 ≤ y287.toInt := b297; omega)), (show y287.toInt ≤ x3.toInt + 1026 from (by have t1 : 0 ≤ x3.toInt := ob256; have t2 : y287.toInt ≤ 1026 := b298; omega)), (show x5.toInt ≤ y287.toInt + 1100 from (by have t1 : x5.toInt ≤ 1100 := ob277; have t2 : 0 ≤ y287.toInt := b297; omega)), (show y287.toInt ≤ x5.toInt + 1026 from (by have t1 : 0 ≤ x5.toInt := ob276; have t2 : y287.toInt ≤ 1026 := b298; omega)), (show x3.toInt ≤ y288.toInt + 200009 from (by have t1 : x3.toInt ≤ 9 := ob257; have t2 : 0 ≤ y288.toInt + 200000 := b299; omega)), (show y288.toInt ≤ x3.toInt + 300001 from (by have t1 : 0 ≤ x4.toInt ∧ x4.toInt ≤ 1 := hzx4; have t2 : 0 ≤ x3.toInt := ob256; have t3 : y288.toInt ≤ x4.toInt + 300000 := b306; omega)), (show y288.toInt ≤ x4.toInt + 300000 from (by first | with_reducible exact q_fe b306 | (have t1 : y288.toInt ≤ x4.toInt + 300000 := b306; omega))), (show x5.toInt ≤ y288.toInt + 201100 from (by have t1 : x5.toInt ≤ 1100 := ob277; have t2 : 0 ≤ y288.toInt + 200000 := b299; omega)), (show y288.toInt ≤ x5.toInt + 300001 from (by have t1 : 0 ≤ x4.toInt ∧ x4.toInt ≤ 1 := hzx4; have t2 : 0 ≤ x5.toInt := ob276; have t3 : y288.toInt ≤ x4.toInt + 300000 := b306; omega)), (show y283.toInt ≤ y283.toInt from (by omega)), (show y283.toInt ≤ y283.toInt from (by omega)), (show y288.toInt ≤ y283.toInt + 299998 from (by first | with_reducible exact q_fe b307 | (have t1 : y288.toInt ≤ y283.toInt + 299998 := b307; omega))), (show y288.toInt ≤ y287.toInt + 300000 from (by first | with_reducible exact q_fe b308 | (have t1 : y288.toInt ≤ y287.toInt + 300000 := b308; omega))), (show ((0 : Int32), y283, y283, f284, y292, y293, f294, y287, y288, f289) = (F_NH_figures x2 x3 x4 x5 x6 t0_0 t1_0 t2_0 t2_1 t3_0 t4_0 t4_1 t5_0 t6_0 t7_0 t8_0 t8_1 t8_2 t9_0 t9_1 t9_2) from Eq.trans (by rw [e320, e319, e318, e317, e316, e315, e314, e313, F_NH_figures_c122_5.eq_1]) hR321)⟩) d_1_18_132)
            ·
              have hr326 : a251 = q 8 := hr252.trans (congrArg q (by unfold F_NH_floatRow; rw [if_neg c253]))
              subst hr326
              refine lv_iload_n hx hb d_1_18_95 rfl (lv_at hl 3 rfl) ?_
              have ob328 : q_F (0 ≤ x3.toInt) := (by have h := hS77; rw [S_NH_figures_J80.eq_1] at h; rw [if_pos c87] at h; rw [if_neg c95] at h; rw [if_neg c253] at h; exact h.2.1)
              have ob329 : q_F (x3.toInt ≤ 9) := (by have h := hS77; rw [S_NH_figures_J80.eq_1] at h; rw [if_pos c87] at h; rw [if_neg c95] at h; rw [if_neg c253] at h; replace h := q_s2 h; exact h.2.1)
              refine q_lald C0 V hT7 (q_ix (x := x3.toInt) rfl (by first | with_reducible exact q_fe ob328 | (have t1 : 0 ≤ x3.toInt := ob328; omega)) (by have t1 : 0 ≤ x3.toInt := ob328; have t2 : x3.toInt ≤ 9 := ob329; omega)) d_1_18_96 ?_
              obtain ⟨j330, e331⟩ := q_nm (t7_0 x3.toNatClampNeg : Int64)
              refine q_tl (v := j330) e331 ?_
              refine lv_lstore (lv' := [(7, .long j330), (6, .ref (q 35)), (0, .ref (q 0)), (1, .int x2), (2, .int x3), (3, .int x4), (4, .int x5), (5, .int x6)]) hx hb d_1_18_97 hl (by decide) rfl (fun ls hl => ?_)
              refine lv_aload hx hb d_1_18_99 (lv_at hl 1 rfl) ?_
              refine lv_lload hx hb d_1_18_101 (lv_at hl 0 rfl) ?_
              refine q_goi V (q_runV (As := [.long j330]) (rest := []) (d := 2) (mc := 0) (ms := 0) (ci := 6) C0 V rfl LV_NH_179 (X_Flo_isFinite l D g q ws 35 23 150 255 (n_f35 g q) j330 hI   _) rfl rfl hT9 rfl hl.1 rfl (Nat.le_of_ble_eq_true rfl) ⟨by decide, by decide⟩ ⟨Nat.le_of_ble_eq_true rfl, Nat.le_of_ble_eq_true rfl⟩ d_1_18_103) (fun a334 u332 H locs hp333 V => ?_)
              obtain ⟨rfl, b335, b336, hE337⟩ := hp333
              have e338 : a334 = (F_Flo_isFinite (23 : Int32) (150 : Int32) (255 : Int32) j330) := hE337
              replace b335 : q_F (0 ≤ a334.toInt) := b335
              replace b336 : q_F (a334.toInt ≤ 1) := b336
              refine q_goxv V (q_runSX (As := [.int a334]) (rest := []) (d := 7) (mc := 1) (ms := 6) C0 V rfl LS_NH_138 (X_NH_canHave l D g q ws  a334 hlt hI  ⟨(by first | with_reducible exact q_fe b335 | (have t1 : 0 ≤ a334.toInt := b335; omega)), (by first | with_reducible exact q_fe b336 | (have t1 : a334.toInt ≤ 1 := b336; omega))⟩ _) rfl hl.1 rfl (Nat.le_of_ble_eq_true rfl) ⟨by decide, by decide⟩ ⟨Nat.le_of_ble_eq_true rfl, Nat.le_of_ble_eq_true rfl⟩ d_1_18_106) (fun qx Ex ce u339 H locs hp340 V hce hcv hcl => ?_) (fun u339 H locs hp340 V => ?_)
              ·
                obtain ⟨cx342, he343, hc344, rfl, hE341⟩ := hp340
                have c345 : ¬ (F_NH_canHave a334) = (0 : Int32) := fun z => hc344 (((hE341) : cx342 = _).trans z)
                exact q_outT hno C0 V (⟨(F_NH_canHave a334), (he343.trans (congrArg qE ((hE341) : cx342 = _))), c345, hI, hF, t0_0, t1_0, t2_0, t2_1, t3_0, t4_0, t4_1, t5_0, hT0, hT1, hT2, hT3, hT4, hT5, (show ((F_NH_canHave a334), (0 : Int32), t0_0, t1_0, t2_0, t2_1, t3_0, t4_0, t4_1, t5_0) = (F_NH_figures x2 x3 x4 x5 x6 t0_0 t1_0 t2_0 t2_1 t3_0 t4_0 t4_1 t5_0 t6_0 t7_0 t8_0 t8_1 t8_2 t9_0 t9_1 t9_2) from Eq.trans (by have c345x := c345; rw [e338, ← e331] at c345x; rw [e338, ← e331, F_NH_figures_J80.eq_1, if_pos c87, if_neg c95, if_neg c253, if_neg c345x]) hR76)⟩) hce hcv hcl (Nat.le_of_ble_eq_true rfl) (Nat.le_of_ble_eq_true rfl)
              ·
                obtain ⟨rfl, hE346⟩ := hp340
                have c345 : (F_NH_canHave a334) = (0 : Int32) := ((hE346) : (0 : Int32) = _).symm
                refine lv_aload_n hx hb d_1_18_109 rfl (lv_at hl 2 rfl) ?_
                refine q_get (ci := 0) (j := 12) (v := .ref (q 39)) C0 V i_NH rfl rfl hO90 (by decide) w_436 rfl d_1_18_110 ?_
                refine lv_aload hx hb d_1_18_113 (lv_at hl 1 rfl) ?_
                refine lv_lload hx hb d_1_18_115 (lv_at hl 0 rfl) ?_
                refine lv_iload_n hx hb d_1_18_117 rfl (lv_at hl 5 rfl) ?_
                refine lv_iload hx hb d_1_18_118 (lv_at hl 6 rfl) ?_
                refine lv_iload hx hb d_1_18_120 (lv_at hl 7 rfl) ?_
                have ob348 : q_F (0 ≤ x5.toInt) := (by have h := hS77; rw [S_NH_figures_J80.eq_1] at h; rw [if_pos c87] at h; rw [if_neg c95] at h; rw [if_neg c253] at h; replace h := q_s2 h; replace h := q_s2 h; have c345x := c345; rw [e338, ← e331] at c345x; rw [if_pos c345x] at h; exact h.2.1)
                have ob349 : q_F (x5.toInt ≤ 1100) := (by have h := hS77; rw [S_NH_figures_J80.eq_1] at h; rw [if_pos c87] at h; rw [if_neg c95] at h; rw [if_neg c253] at h; replace h := q_s2 h; replace h := q_s2 h; have c345x := c345; rw [e338, ← e331] at c345x; rw [if_pos c345x] at h; replace h := q_s2 h; exact h.2.1)
                have ob350 : True ∧ S_Wri_exactText (23 : Int32) (150 : Int32) (255 : Int32) j330 x4 x5 x6 t0_0 t1_0 t4_0 t4_1 t5_0 t2_0 t2_1 t3_0 t9_0 t9_1 t9_2 := (by rw [← e331]; have h := hS77; rw [S_NH_figures_J80.eq_1] at h; rw [if_pos c87] at h; rw [if_neg c95] at h; rw [if_neg c253] at h; replace h := q_s2 h; replace h := q_s2 h; have c345x := c345; rw [e338, ← e331] at c345x; rw [if_pos c345x] at h; replace h := q_s2 h; replace h := q_s2 h; with_reducible exact h.2.1)
                have hO351 := n_o39 hI
                refine q_gov V (q_runV (As := [.ref (q 35), .long j330, .int x4, .int x5, .int x6]) (rest := []) (d := 5) (mc := 0) (ms := 0) (ci := 9) C0 V rfl LV_NH_335 (X_Wri_exactText l D g q ws 35 23 150 255 (n_f35 g q) j330 x4 x5 x6 hI t0_0 hT0 t1_0 hT1 t4_0 t4_1 hT4 t5_0 hT5 t2_0 t2_1 hT2 t3_0 hT3 t9_0 t9_1 t9_2 hT9 ⟨(by have y0 : (23 : Int32).toInt = 23 := rfl; have y1 : (150 : Int32).toInt = 150 := rfl; have y2 : (255 : Int32).toInt = 255 := rfl; have t1 : 0 ≤ x4.toInt ∧ x4.toInt ≤ 1 := hzx4; omega), (by have y0 : (23 : Int32).toInt = 23 := rfl; have y1 : (150 : Int32).toInt = 150 := rfl; have y2 : (255 : Int32).toInt = 255 := rfl; have t1 : 0 ≤ x4.toInt ∧ x4.toInt ≤ 1 := hzx4; omega)⟩ (by have y0 : (23 : Int32).toInt = 23 := rfl; have y1 : (150 : Int32).toInt = 150 := rfl; have y2 : (255 : Int32).toInt = 255 := rfl; have t1 : 0 ≤ x5.toInt := ob348; omega) (by have y0 : (23 : Int32).toInt = 23 := rfl; have y1 : (150 : Int32).toInt = 150 := rfl; have y2 : (255 : Int32).toInt = 255 := rfl; have t1 : x5.toInt ≤ 1100 := ob349; omega) ob350 _) rfl rfl hO351 rfl hl.1 rfl (Nat.le_of_ble_eq_true rfl) ⟨by decide, by decide⟩ ⟨Nat.le_of_ble_eq_true rfl, Nat.le_of_ble_eq_true rfl⟩ d_1_18_122) (fun u352 H locs hp353 V => ?_)
                obtain ⟨hI, hZ9⟩ := hp353
                obtain ⟨hu382, hZ9⟩ := hZ9
                obtain ⟨y355, hZ9⟩ := hZ9
                obtain ⟨f356, hZ9⟩ := hZ9
                obtain ⟨y359, hZ9⟩ := hZ9
                obtain ⟨y360, hZ9⟩ := hZ9
                obtain ⟨f361, hZ9⟩ := hZ9
                obtain ⟨y364, hZ9⟩ := hZ9
                obtain ⟨y365, hZ9⟩ := hZ9
                obtain ⟨f366, hZ9⟩ := hZ9
                obtain ⟨hO354, hZ9⟩ := hZ9
                obtain ⟨hA357, hZ9⟩ := hZ9
                obtain ⟨hO358, hZ9⟩ := hZ9
                obtain ⟨hA362, hZ9⟩ := hZ9
                obtain ⟨hO363, hZ9⟩ := hZ9
                obtain ⟨hA367, hZ9⟩ := hZ9
                obtain ⟨b368, hZ9⟩ := hZ9
                obtain ⟨b369, hZ9⟩ := hZ9
                obtain ⟨b370, hZ9⟩ := hZ9
                obtain ⟨b371, hZ9⟩ := hZ9
                obtain ⟨b372, hZ9⟩ := hZ9
                obtain ⟨b373, hZ9⟩ := hZ9
                obtain ⟨b374, hZ9⟩ := hZ9
                obtain ⟨b375, hZ9⟩ := hZ9
                obtain ⟨b376, hZ9⟩ := hZ9
                obtain ⟨b377, hZ9⟩ := hZ9
                obtain ⟨b378, hZ9⟩ := hZ9
                obtain ⟨b379, hZ9⟩ := hZ9
                obtain ⟨b380, hE381⟩ := hZ9
                replace hO354 : u352[3]? = (some (q 3, .inr (1, [.ref (q 4), .int 11008, .int y355])) : Option (Nat × va_E)) := hO354
                replace hA357 : u352[4]? = (some (q 4, .inl (g 1, (1376 : Int32).toNatClampNeg, .inr (.inl f356))) : Option (Nat × va_E)) := hA357
                replace hO358 : u352[36]? = (some (q 36, .inr (7, [.int y359, .int y360, .ref (q 37)])) : Option (Nat × va_E)) := hO358
                replace hA362 : u352[37]? = (some (q 37, .inl (g 2, 1026, .inl f361)) : Option (Nat × va_E)) := hA362
                replace hO363 : u352[10]? = (some (q 10, .inr (2, [.ref (q 11), .int y364, .int y365])) : Option (Nat × va_E)) := hO363
                replace hA367 : u352[11]? = (some (q 11, .inl (g 0, (220 : Int32).toNatClampNeg, .inl f366)) : Option (Nat × va_E)) := hA367
                obtain ⟨p383, e384⟩ : ∃ z, z = (F_Wri_exactText (23 : Int32) (150 : Int32) (255 : Int32) j330 x4 x5 x6 t0_0 t1_0 t4_0 t4_1 t5_0 t2_0 t2_1 t3_0 t9_0 t9_1 t9_2) := ⟨_, rfl⟩
                have e385 : y355 = p383.1 := congrArg (fun z => z.1) (hE381.trans e384.symm)
                have e386 : f356 = p383.2.1 := congrArg (fun z => z.2.1) (hE381.trans e384.symm)
                have e387 : y359 = p383.2.2.1 := congrArg (fun z => z.2.2.1) (hE381.trans e384.symm)
                have e388 : y360 = p383.2.2.2.1 := congrArg (fun z => z.2.2.2.1) (hE381.trans e384.symm)
                have e389 : f361 = p383.2.2.2.2.1 := congrArg (fun z => z.2.2.2.2.1) (hE381.trans e384.symm)
                have e390 : y364 = p383.2.2.2.2.2.1 := congrArg (fun z => z.2.2.2.2.2.1) (hE381.trans e384.symm)
                have e391 : y365 = p383.2.2.2.2.2.2.1 := congrArg (fun z => z.2.2.2.2.2.2.1) (hE381.trans e384.symm)
                have e392 : f366 = p383.2.2.2.2.2.2.2 := congrArg (fun z => z.2.2.2.2.2.2.2) (hE381.trans e384.symm)
                replace b368 : q_F (y355.toInt ≤ 420004) := b368
                replace b369 : q_F (0 ≤ y359.toInt) := b369
                replace b370 : q_F (y359.toInt ≤ 1026) := b370
                replace b371 : q_F (0 ≤ y360.toInt + 200000) := b371
                replace b372 : q_F (0 ≤ y364.toInt) := b372
                replace b373 : q_F (y364.toInt ≤ 220) := b373
                replace b374 : q_F (0 ≤ y365.toInt) := b374
                replace b375 : q_F (y365.toInt ≤ 1) := b375
                replace b376 : q_F (x4.toInt + 1 ≤ y355.toInt) := b376
                replace b377 : q_F (x5.toInt + 1 ≤ y355.toInt) := b377
                replace b378 : q_F (y360.toInt ≤ x4.toInt + 300000) := b378
                replace b379 : q_F (y360.toInt ≤ y355.toInt + 299998) := b379
                replace b380 : q_F (y360.toInt ≤ y359.toInt + 300000) := b380
                replace hO90 := (hu382 _ (by decide)).trans hO90
                replace hF := q_uc hF hu382 (by simp)
                have hR393 := (show F_NH_figures_c122_6 x2 x3 x4 x5 x6 t0_0 t1_0 t2_0 t2_1 t3_0 t4_0 t4_1 t5_0 t6_0 t7_0 t8_0 t8_1 t8_2 t9_0 t9_1 t9_2 lx34 lx62 j330 p383 = (F_NH_figures x2 x3 x4 x5 x6 t0_0 t1_0 t2_0 t2_1 t3_0 t4_0 t4_1 t5_0 t6_0 t7_0 t8_0 t8_1 t8_2 t9_0 t9_1 t9_2) from Eq.trans (by have c345x := c345; rw [e338, ← e331] at c345x; rw [e384, ← e331, F_NH_figures_J80.eq_1, if_pos c87, if_neg c95, if_neg c253, if_pos c345x]) hR76)
                have hS394 := (show True ∧ S_NH_figures_c122_6 x2 x3 x4 x5 x6 t0_0 t1_0 t2_0 t2_1 t3_0 t4_0 t4_1 t5_0 t6_0 t7_0 t8_0 t8_1 t8_2 t9_0 t9_1 t9_2 lx34 lx62 j330 p383 from (by rw [e384, ← e331]; have h := hS77; rw [S_NH_figures_J80.eq_1] at h; rw [if_pos c87] at h; rw [if_neg c95] at h; rw [if_neg c253] at h; replace h := q_s2 h; replace h := q_s2 h; have c345x := c345; rw [e338, ← e331] at c345x; rw [if_pos c345x] at h; replace h := q_s2 h; replace h := q_s2 h; replace h := q_s2 h; with_reducible exact h))
                refine lv_aload_n hx hb d_1_18_125 rfl (lv_at hl 2 rfl) ?_
                refine q_get (ci := 0) (j := 1) (v := .ref (q 3)) C0 V i_NH rfl rfl hO90 (by decide) w_425 rfl d_1_18_126 ?_
                refine q_get (ci := 1) (j := 2) (v := .int y355) C0 V i_She rfl rfl hO354 (by decide) w_56 rfl d_1_18_129 ?_
                exact q_retX (q_reti C0 V (⟨hI, hF, y355, f356, y364, y365, f366, y359, y360, f361, hO354, hA357, hO363, hA367, hO358, hA362, (show y355.toInt ≤ 420004 from (by first | with_reducible exact q_fe b368 | (have t1 : y355.toInt ≤ 420004 := b368; omega))), (show 0 ≤ y364.toInt from (by first | with_reducible exact q_fe b372 | (have t1 : 0 ≤ y364.toInt := b372; omega))), (show y364.toInt ≤ 220 from (by first | with_reducible exact q_fe b373 | (have t1 : y364.toInt ≤ 220 := b373; omega))), (show 0 ≤ y365.toInt from (by first | with_reducible exact q_fe b374 | (have t1 : 0 ≤ y365.toInt := b374; omega))), (show y365.toInt ≤ 1 from (by first | with_reducible exact q_fe b375 | (have t1 : y365.toInt ≤ 1 := b375; omega))), (show 0 ≤ y359.toInt from (by first | with_reducible exact q_fe b369 | (have t1 : 0 ≤ y359.toInt := b369; omega))), (show y359.toInt ≤ 1026 from (by first | with_reducible exact q_fe b370 | (have t1 : y359.toInt ≤ 1026 := b370; omega))), (show 0 ≤ y360.toInt + 200000 from (by first | with_reducible exact q_fe b371 | (have t1 : 0 ≤ y360.toInt + 200000 := b371; omega))), (show x3.toInt ≤ y355.toInt + 8 from (by have t1 : 0 ≤ x4.toInt ∧ x4.toInt ≤ 1 := hzx4; have t2 : x3.toInt ≤ 9 := ob329; have t3 : x4.toInt + 1 ≤ y355.toInt := b376; omega)), (show y355.toInt ≤ x3.toInt + 420004 from (by have t1 : 0 ≤ x3.toInt := ob328; have t2 : y355.toInt ≤ 420004 := b368; omega)), (show x4.toInt + 1 ≤ y355.toInt from (by first | with_reducible exact q_fe b376 | (have t1 : x4.toInt + 1 ≤ y355.toInt := b376; omega))), (show x5.toInt + 1 ≤ y355.toInt from (by first | with_reducible exact q_fe b377 | (have t1 : x5.toInt + 1 ≤ y355.toInt := b377; omega))), (show y355.toInt ≤ x5.toInt + 420004 from (by have t1 : 0 ≤ x5.toInt := ob348; have t2 : y355.toInt ≤ 420004 := b368; omega)), (show x3.toInt ≤ y364.toInt + 9 from (by have t1 : x3.toInt ≤ 9 := ob329; have t2 : 0 ≤ y364.toInt := b372; omega)), (show y364.toInt ≤ x3.toInt + 220 from (by have t1 : 0 ≤ x3.toInt := ob328; have t2 : y364.toInt ≤ 220 := b373; omega)), (show x5.toInt ≤ y364.toInt + 1100 from (by have t1 : x5.toInt ≤ 1100 := ob349; have t2 : 0 ≤ y364.toInt := b372; omega)), (show y364.toInt ≤ x5.toInt + 220 from (by have t1 : 0 ≤ x5.toInt := ob348; have t2 : y364.toInt ≤ 220 := b373; omega)), (show x3.toInt ≤ y365.toInt + 9 from (by have t1 : x3.toInt ≤ 9 := ob329; have t2 : 0 ≤ y365.toInt := b374; omega)), (show y365.toInt ≤ x3.toInt + 1 from (by have t1 : 0 ≤ x3.toInt := ob328; have t2 : y365.toInt ≤ 1 := b375; omega)), (show x5.toInt ≤ y365.toInt + 1100 from (by have t1 : x5.toInt ≤ 1100 := ob349; have t2 : 0 ≤ y365.toInt := b374; omega)), (show y365.toInt ≤ x5.toInt + 1 from (by have t1 : 0 ≤ x5.toInt := ob348; have t2 : y365.toInt ≤ 1 := b375; omega)), (show x3.toInt ≤ y359.toInt + 9 from (by have t1 : x3.toInt ≤ 9 := ob329; have t2 : 0 ≤ y359.toInt := b369; omega)), (show y359.toInt ≤ x3.toInt + 1026 from (by have t1 : 0 ≤ x3.toInt := ob328; have t2 : y359.toInt ≤ 1026 := b370; omega)), (show x5.toInt ≤ y359.toInt + 1100 from (by have t1 : x5.toInt ≤ 1100 := ob349; have t2 : 0 ≤ y359.toInt := b369; omega)), (show y359.toInt ≤ x5.toInt + 1026 from (by have t1 : 0 ≤ x5.toInt := ob348; have t2 : y359.toInt ≤ 1026 := b370; omega)), (show x3.toInt ≤ y360.toInt + 200009 from (by have t1 : x3.toInt ≤ 9 := ob329; have t2 : 0 ≤ y360.toInt + 200000 := b371; omega)), (show y360.toInt ≤ x3.toInt + 300001 from (by have t1 : 0 ≤ x4.toInt ∧ x4.toInt ≤ 1 := hzx4; have t2 : 0 ≤ x3.toInt := ob328; have t3 : y360.toInt ≤ x4.toInt + 300000 := b378; omega)), (show y360.toInt ≤ x4.toInt + 300000 from (by first | with_reducible exact q_fe b378 | (have t1 : y360.toInt ≤ x4.toInt + 300000 := b378; omega))), (show x5.toInt ≤ y360.toInt + 201100 from (by have t1 : x5.toInt ≤ 1100 := ob349; have t2 : 0 ≤ y360.toInt + 200000 := b371; omega)), (show y360.toInt ≤ x5.toInt + 300001 from (by have t1 : 0 ≤ x4.toInt ∧ x4.toInt ≤ 1 := hzx4; have t2 : 0 ≤ x5.toInt := ob348; have t3 : y360.toInt ≤ x4.toInt + 300000 := b378; omega)), (show y355.toInt ≤ y355.toInt from (by omega)), (show y355.toInt ≤ y355.toInt from (by omega)), (show y360.toInt ≤ y355.toInt + 299998 from (by first | with_reducible exact q_fe b379 | (have t1 : y360.toInt ≤ y355.toInt + 299998 := b379; omega))), (show y360.toInt ≤ y359.toInt + 300000 from (by first | with_reducible exact q_fe b380 | (have t1 : y360.toInt ≤ y359.toInt + 300000 := b380; omega))), (show ((0 : Int32), y355, y355, f356, y364, y365, f366, y359, y360, f361) = (F_NH_figures x2 x3 x4 x5 x6 t0_0 t1_0 t2_0 t2_1 t3_0 t4_0 t4_1 t5_0 t6_0 t7_0 t8_0 t8_1 t8_2 t9_0 t9_1 t9_2) from Eq.trans (by rw [e392, e391, e390, e389, e388, e387, e386, e385, F_NH_figures_c122_6.eq_1]) hR393)⟩) d_1_18_132)
      ·
        intro J73
        refine lv_if_eq (tgt := 62) hx hb d_1_18_37 (by decide) (fun c398 => ?_) (fun c398 => ?_)
        ·
          refine lv_iload hx hb d_1_18_62 (lv_at hl 4 rfl) ?_
          refine q_join (X := Unit) (fun z H locs ls _ => q_Wd D g (va_A ws sz) s ws H locs ∧ lv_has ls 9 [(0, .ref (q 0)), (1, .int x2), (2, .int x3), (3, .int x4), (4, .int x5), (5, .int x6)] ∧ F_NH_figures_J79 x2 x3 x4 x5 x6 t0_0 t1_0 t2_0 t2_1 t3_0 t4_0 t4_1 t5_0 t6_0 t7_0 t8_0 t8_1 t8_2 t9_0 t9_1 t9_2 lx34 = (F_NH_figures x2 x3 x4 x5 x6 t0_0 t1_0 t2_0 t2_1 t3_0 t4_0 t4_1 t5_0 t6_0 t7_0 t8_0 t8_1 t8_2 t9_0 t9_1 t9_2) ∧ True ∧ S_NH_figures_J79 x2 x3 x4 x5 x6 t0_0 t1_0 t2_0 t2_1 t3_0 t4_0 t4_1 t5_0 t6_0 t7_0 t8_0 t8_1 t8_2 t9_0 t9_1 t9_2 lx34) (fun z => []) 79 1 6 ?_ ?_
          ·
            rintro _ H locs ls _ ⟨V, hl, hR411, hS412⟩
            replace hl : lv_has ls 9 [(0, .ref (q 0)), (1, .int x2), (2, .int x3), (3, .int x4), (4, .int x5), (5, .int x6)] := hl
            refine lv_iconst (v := 0) hx hb d_1_18_79 (by decide) ?_
            exact J73 ((0 : Int32)) _ _ _ ws ⟨(show q_F (0 ≤ 0) from (show 0 ≤ 0 from by omega)), (show q_F (0 ≤ 1) from (show 0 ≤ 1 from by omega)), V, q_lw hl (q_lw1 0 rfl (q_lw1 1 rfl (q_lw1 2 rfl (q_lw1 3 rfl (q_lw1 4 rfl (q_lw1 5 rfl q_lw0)))))), (show F_NH_figures_J80 x2 x3 x4 x5 x6 t0_0 t1_0 t2_0 t2_1 t3_0 t4_0 t4_1 t5_0 t6_0 t7_0 t8_0 t8_1 t8_2 t9_0 t9_1 t9_2 lx34 0 = (F_NH_figures x2 x3 x4 x5 x6 t0_0 t1_0 t2_0 t2_1 t3_0 t4_0 t4_1 t5_0 t6_0 t7_0 t8_0 t8_1 t8_2 t9_0 t9_1 t9_2) from Eq.trans (by rw [F_NH_figures_J79.eq_1]) hR411), (show True ∧ S_NH_figures_J80 x2 x3 x4 x5 x6 t0_0 t1_0 t2_0 t2_1 t3_0 t4_0 t4_1 t5_0 t6_0 t7_0 t8_0 t8_1 t8_2 t9_0 t9_1 t9_2 lx34 0 from (by have h := hS412; rw [S_NH_figures_J79.eq_1] at h; with_reducible exact h))⟩
          ·
            intro J410
            refine lv_if_lt (tgt := 79) hx hb d_1_18_64 (by decide) (fun c416 => ?_) (fun c416 => ?_)
            ·
              exact J410 (()) _ _ _ ws ⟨V, q_lw hl (q_lw1 0 rfl (q_lw1 1 rfl (q_lw1 2 rfl (q_lw1 3 rfl (q_lw1 4 rfl (q_lw1 5 rfl q_lw0)))))), (show F_NH_figures_J79 x2 x3 x4 x5 x6 t0_0 t1_0 t2_0 t2_1 t3_0 t4_0 t4_1 t5_0 t6_0 t7_0 t8_0 t8_1 t8_2 t9_0 t9_1 t9_2 lx34 = (F_NH_figures x2 x3 x4 x5 x6 t0_0 t1_0 t2_0 t2_1 t3_0 t4_0 t4_1 t5_0 t6_0 t7_0 t8_0 t8_1 t8_2 t9_0 t9_1 t9_2) from Eq.trans (by rw [F_NH_figures_J33.eq_1, if_pos c59, if_pos c398, if_pos c416]) hR48), (show True ∧ S_NH_figures_J79 x2 x3 x4 x5 x6 t0_0 t1_0 t2_0 t2_1 t3_0 t4_0 t4_1 t5_0 t6_0 t7_0 t8_0 t8_1 t8_2 t9_0 t9_1 t9_2 lx34 from (by have h := hS49; rw [S_NH_figures_J33.eq_1] at h; rw [if_pos c59] at h; rw [if_pos c398] at h; rw [if_pos c416] at h; with_reducible exact h))⟩
            ·
              refine lv_iload hx hb d_1_18_67 (lv_at hl 4 rfl) ?_
              refine lv_sipush (v := 1100) hx hb d_1_18_69 (by decide) ?_
              refine lv_icmp_gt (tgt := 79) hx hb d_1_18_72 (by decide) (fun c419 => ?_) (fun c419 => ?_)
              ·
                exact J410 (()) _ _ _ ws ⟨V, q_lw hl (q_lw1 0 rfl (q_lw1 1 rfl (q_lw1 2 rfl (q_lw1 3 rfl (q_lw1 4 rfl (q_lw1 5 rfl q_lw0)))))), (show F_NH_figures_J79 x2 x3 x4 x5 x6 t0_0 t1_0 t2_0 t2_1 t3_0 t4_0 t4_1 t5_0 t6_0 t7_0 t8_0 t8_1 t8_2 t9_0 t9_1 t9_2 lx34 = (F_NH_figures x2 x3 x4 x5 x6 t0_0 t1_0 t2_0 t2_1 t3_0 t4_0 t4_1 t5_0 t6_0 t7_0 t8_0 t8_1 t8_2 t9_0 t9_1 t9_2) from Eq.trans (by rw [F_NH_figures_J33.eq_1, if_pos c59, if_pos c398, if_neg c416, if_pos c419]) hR48), (show True ∧ S_NH_figures_J79 x2 x3 x4 x5 x6 t0_0 t1_0 t2_0 t2_1 t3_0 t4_0 t4_1 t5_0 t6_0 t7_0 t8_0 t8_1 t8_2 t9_0 t9_1 t9_2 lx34 from (by have h := hS49; rw [S_NH_figures_J33.eq_1] at h; rw [if_pos c59] at h; rw [if_pos c398] at h; rw [if_neg c416] at h; rw [if_pos c419] at h; with_reducible exact h))⟩
              ·
                refine lv_iconst (v := 1) hx hb d_1_18_75 (by decide) ?_
                refine lv_goto (tgt := 80) hx hb d_1_18_76 (by decide) ?_
                exact J73 ((1 : Int32)) _ _ _ ws ⟨(show q_F (0 ≤ 1) from (show 0 ≤ 1 from by omega)), (show q_F (1 ≤ 1) from (show 1 ≤ 1 from by omega)), V, q_lw hl (q_lw1 0 rfl (q_lw1 1 rfl (q_lw1 2 rfl (q_lw1 3 rfl (q_lw1 4 rfl (q_lw1 5 rfl q_lw0)))))), (show F_NH_figures_J80 x2 x3 x4 x5 x6 t0_0 t1_0 t2_0 t2_1 t3_0 t4_0 t4_1 t5_0 t6_0 t7_0 t8_0 t8_1 t8_2 t9_0 t9_1 t9_2 lx34 1 = (F_NH_figures x2 x3 x4 x5 x6 t0_0 t1_0 t2_0 t2_1 t3_0 t4_0 t4_1 t5_0 t6_0 t7_0 t8_0 t8_1 t8_2 t9_0 t9_1 t9_2) from Eq.trans (by rw [F_NH_figures_J33.eq_1, if_pos c59, if_pos c398, if_neg c416, if_neg c419]) hR48), (show True ∧ S_NH_figures_J80 x2 x3 x4 x5 x6 t0_0 t1_0 t2_0 t2_1 t3_0 t4_0 t4_1 t5_0 t6_0 t7_0 t8_0 t8_1 t8_2 t9_0 t9_1 t9_2 lx34 1 from (by have h := hS49; rw [S_NH_figures_J33.eq_1] at h; rw [if_pos c59] at h; rw [if_pos c398] at h; rw [if_neg c416] at h; rw [if_neg c419] at h; with_reducible exact h))⟩
        ·
          refine lv_iload hx hb d_1_18_40 (lv_at hl 4 rfl) ?_
          refine lv_iconst (v := 1) hx hb d_1_18_42 (by decide) ?_
          refine q_join (X := Unit) (fun z H locs ls _ => q_Wd D g (va_A ws sz) s ws H locs ∧ lv_has ls 9 [(0, .ref (q 0)), (1, .int x2), (2, .int x3), (3, .int x4), (4, .int x5), (5, .int x6)] ∧ F_NH_figures_J58 x2 x3 x4 x5 x6 t0_0 t1_0 t2_0 t2_1 t3_0 t4_0 t4_1 t5_0 t6_0 t7_0 t8_0 t8_1 t8_2 t9_0 t9_1 t9_2 lx34 = (F_NH_figures x2 x3 x4 x5 x6 t0_0 t1_0 t2_0 t2_1 t3_0 t4_0 t4_1 t5_0 t6_0 t7_0 t8_0 t8_1 t8_2 t9_0 t9_1 t9_2) ∧ True ∧ S_NH_figures_J58 x2 x3 x4 x5 x6 t0_0 t1_0 t2_0 t2_1 t3_0 t4_0 t4_1 t5_0 t6_0 t7_0 t8_0 t8_1 t8_2 t9_0 t9_1 t9_2 lx34) (fun z => []) 58 1 6 ?_ ?_
          ·
            rintro _ H locs ls _ ⟨V, hl, hR434, hS435⟩
            replace hl : lv_has ls 9 [(0, .ref (q 0)), (1, .int x2), (2, .int x3), (3, .int x4), (4, .int x5), (5, .int x6)] := hl
            refine lv_iconst (v := 0) hx hb d_1_18_58 (by decide) ?_
            refine lv_goto (tgt := 80) hx hb d_1_18_59 (by decide) ?_
            exact J73 ((0 : Int32)) _ _ _ ws ⟨(show q_F (0 ≤ 0) from (show 0 ≤ 0 from by omega)), (show q_F (0 ≤ 1) from (show 0 ≤ 1 from by omega)), V, q_lw hl (q_lw1 0 rfl (q_lw1 1 rfl (q_lw1 2 rfl (q_lw1 3 rfl (q_lw1 4 rfl (q_lw1 5 rfl q_lw0)))))), (show F_NH_figures_J80 x2 x3 x4 x5 x6 t0_0 t1_0 t2_0 t2_1 t3_0 t4_0 t4_1 t5_0 t6_0 t7_0 t8_0 t8_1 t8_2 t9_0 t9_1 t9_2 lx34 0 = (F_NH_figures x2 x3 x4 x5 x6 t0_0 t1_0 t2_0 t2_1 t3_0 t4_0 t4_1 t5_0 t6_0 t7_0 t8_0 t8_1 t8_2 t9_0 t9_1 t9_2) from Eq.trans (by rw [F_NH_figures_J58.eq_1]) hR434), (show True ∧ S_NH_figures_J80 x2 x3 x4 x5 x6 t0_0 t1_0 t2_0 t2_1 t3_0 t4_0 t4_1 t5_0 t6_0 t7_0 t8_0 t8_1 t8_2 t9_0 t9_1 t9_2 lx34 0 from (by have h := hS435; rw [S_NH_figures_J58.eq_1] at h; with_reducible exact h))⟩
          ·
            intro J433
            refine lv_icmp_lt (tgt := 58) hx hb d_1_18_43 (by decide) (fun c439 => ?_) (fun c439 => ?_)
            ·
              exact J433 (()) _ _ _ ws ⟨V, q_lw hl (q_lw1 0 rfl (q_lw1 1 rfl (q_lw1 2 rfl (q_lw1 3 rfl (q_lw1 4 rfl (q_lw1 5 rfl q_lw0)))))), (show F_NH_figures_J58 x2 x3 x4 x5 x6 t0_0 t1_0 t2_0 t2_1 t3_0 t4_0 t4_1 t5_0 t6_0 t7_0 t8_0 t8_1 t8_2 t9_0 t9_1 t9_2 lx34 = (F_NH_figures x2 x3 x4 x5 x6 t0_0 t1_0 t2_0 t2_1 t3_0 t4_0 t4_1 t5_0 t6_0 t7_0 t8_0 t8_1 t8_2 t9_0 t9_1 t9_2) from Eq.trans (by rw [F_NH_figures_J33.eq_1, if_pos c59, if_neg c398, if_pos c439]) hR48), (show True ∧ S_NH_figures_J58 x2 x3 x4 x5 x6 t0_0 t1_0 t2_0 t2_1 t3_0 t4_0 t4_1 t5_0 t6_0 t7_0 t8_0 t8_1 t8_2 t9_0 t9_1 t9_2 lx34 from (by have h := hS49; rw [S_NH_figures_J33.eq_1] at h; rw [if_pos c59] at h; rw [if_neg c398] at h; rw [if_pos c439] at h; with_reducible exact h))⟩
            ·
              refine lv_iload hx hb d_1_18_46 (lv_at hl 4 rfl) ?_
              refine lv_sipush (v := 800) hx hb d_1_18_48 (by decide) ?_
              refine lv_icmp_gt (tgt := 58) hx hb d_1_18_51 (by decide) (fun c442 => ?_) (fun c442 => ?_)
              ·
                exact J433 (()) _ _ _ ws ⟨V, q_lw hl (q_lw1 0 rfl (q_lw1 1 rfl (q_lw1 2 rfl (q_lw1 3 rfl (q_lw1 4 rfl (q_lw1 5 rfl q_lw0)))))), (show F_NH_figures_J58 x2 x3 x4 x5 x6 t0_0 t1_0 t2_0 t2_1 t3_0 t4_0 t4_1 t5_0 t6_0 t7_0 t8_0 t8_1 t8_2 t9_0 t9_1 t9_2 lx34 = (F_NH_figures x2 x3 x4 x5 x6 t0_0 t1_0 t2_0 t2_1 t3_0 t4_0 t4_1 t5_0 t6_0 t7_0 t8_0 t8_1 t8_2 t9_0 t9_1 t9_2) from Eq.trans (by rw [F_NH_figures_J33.eq_1, if_pos c59, if_neg c398, if_neg c439, if_pos c442]) hR48), (show True ∧ S_NH_figures_J58 x2 x3 x4 x5 x6 t0_0 t1_0 t2_0 t2_1 t3_0 t4_0 t4_1 t5_0 t6_0 t7_0 t8_0 t8_1 t8_2 t9_0 t9_1 t9_2 lx34 from (by have h := hS49; rw [S_NH_figures_J33.eq_1] at h; rw [if_pos c59] at h; rw [if_neg c398] at h; rw [if_neg c439] at h; rw [if_pos c442] at h; with_reducible exact h))⟩
              ·
                refine lv_iconst (v := 1) hx hb d_1_18_54 (by decide) ?_
                refine lv_goto (tgt := 80) hx hb d_1_18_55 (by decide) ?_
                exact J73 ((1 : Int32)) _ _ _ ws ⟨(show q_F (0 ≤ 1) from (show 0 ≤ 1 from by omega)), (show q_F (1 ≤ 1) from (show 1 ≤ 1 from by omega)), V, q_lw hl (q_lw1 0 rfl (q_lw1 1 rfl (q_lw1 2 rfl (q_lw1 3 rfl (q_lw1 4 rfl (q_lw1 5 rfl q_lw0)))))), (show F_NH_figures_J80 x2 x3 x4 x5 x6 t0_0 t1_0 t2_0 t2_1 t3_0 t4_0 t4_1 t5_0 t6_0 t7_0 t8_0 t8_1 t8_2 t9_0 t9_1 t9_2 lx34 1 = (F_NH_figures x2 x3 x4 x5 x6 t0_0 t1_0 t2_0 t2_1 t3_0 t4_0 t4_1 t5_0 t6_0 t7_0 t8_0 t8_1 t8_2 t9_0 t9_1 t9_2) from Eq.trans (by rw [F_NH_figures_J33.eq_1, if_pos c59, if_neg c398, if_neg c439, if_neg c442]) hR48), (show True ∧ S_NH_figures_J80 x2 x3 x4 x5 x6 t0_0 t1_0 t2_0 t2_1 t3_0 t4_0 t4_1 t5_0 t6_0 t7_0 t8_0 t8_1 t8_2 t9_0 t9_1 t9_2 lx34 1 from (by have h := hS49; rw [S_NH_figures_J33.eq_1] at h; rw [if_pos c59] at h; rw [if_neg c398] at h; rw [if_neg c439] at h; rw [if_neg c442] at h; with_reducible exact h))⟩
  ·
    intro J45
    refine q_join (X := Unit) (fun z H locs ls _ => q_Wd D g (va_A ws sz) s ws H locs ∧ lv_has ls 9 [(0, .ref (q 0)), (1, .int x2), (2, .int x3), (3, .int x4), (4, .int x5), (5, .int x6)] ∧ F_NH_figures_J32 x2 x3 x4 x5 x6 t0_0 t1_0 t2_0 t2_1 t3_0 t4_0 t4_1 t5_0 t6_0 t7_0 t8_0 t8_1 t8_2 t9_0 t9_1 t9_2 = (F_NH_figures x2 x3 x4 x5 x6 t0_0 t1_0 t2_0 t2_1 t3_0 t4_0 t4_1 t5_0 t6_0 t7_0 t8_0 t8_1 t8_2 t9_0 t9_1 t9_2) ∧ True ∧ S_NH_figures_J32 x2 x3 x4 x5 x6 t0_0 t1_0 t2_0 t2_1 t3_0 t4_0 t4_1 t5_0 t6_0 t7_0 t8_0 t8_1 t8_2 t9_0 t9_1 t9_2) (fun z => []) 32 0 0 ?_ ?_
    ·
      rintro _ H locs ls _ ⟨V, hl, hR456, hS457⟩
      replace hl : lv_has ls 9 [(0, .ref (q 0)), (1, .int x2), (2, .int x3), (3, .int x4), (4, .int x5), (5, .int x6)] := hl
      refine lv_iconst (v := 0) hx hb d_1_18_32 (by decide) ?_
      exact J45 ((0 : Int32)) _ _ _ ws ⟨(show q_F (0 ≤ 0) from (show 0 ≤ 0 from by omega)), (show q_F (0 ≤ 1) from (show 0 ≤ 1 from by omega)), V, q_lw hl (q_lw1 0 rfl (q_lw1 1 rfl (q_lw1 2 rfl (q_lw1 3 rfl (q_lw1 4 rfl (q_lw1 5 rfl q_lw0)))))), (show F_NH_figures_J33 x2 x3 x4 x5 x6 t0_0 t1_0 t2_0 t2_1 t3_0 t4_0 t4_1 t5_0 t6_0 t7_0 t8_0 t8_1 t8_2 t9_0 t9_1 t9_2 0 = (F_NH_figures x2 x3 x4 x5 x6 t0_0 t1_0 t2_0 t2_1 t3_0 t4_0 t4_1 t5_0 t6_0 t7_0 t8_0 t8_1 t8_2 t9_0 t9_1 t9_2) from Eq.trans (by rw [F_NH_figures_J32.eq_1]) hR456), (show True ∧ S_NH_figures_J33 x2 x3 x4 x5 x6 t0_0 t1_0 t2_0 t2_1 t3_0 t4_0 t4_1 t5_0 t6_0 t7_0 t8_0 t8_1 t8_2 t9_0 t9_1 t9_2 0 from (by have h := hS457; rw [S_NH_figures_J32.eq_1] at h; with_reducible exact h))⟩
    ·
      intro J455
      refine q_join (X := Unit) (fun z H locs ls _ => q_Wd D g (va_A ws sz) s ws H locs ∧ lv_has ls 9 [(0, .ref (q 0)), (1, .int x2), (2, .int x3), (3, .int x4), (4, .int x5), (5, .int x6)] ∧ F_NH_figures_J10 x2 x3 x4 x5 x6 t0_0 t1_0 t2_0 t2_1 t3_0 t4_0 t4_1 t5_0 t6_0 t7_0 t8_0 t8_1 t8_2 t9_0 t9_1 t9_2 = (F_NH_figures x2 x3 x4 x5 x6 t0_0 t1_0 t2_0 t2_1 t3_0 t4_0 t4_1 t5_0 t6_0 t7_0 t8_0 t8_1 t8_2 t9_0 t9_1 t9_2) ∧ True ∧ S_NH_figures_J10 x2 x3 x4 x5 x6 t0_0 t1_0 t2_0 t2_1 t3_0 t4_0 t4_1 t5_0 t6_0 t7_0 t8_0 t8_1 t8_2 t9_0 t9_1 t9_2) (fun z => []) 10 0 0 ?_ ?_
      ·
        rintro _ H locs ls _ ⟨V, hl, hR472, hS473⟩
        replace hl : lv_has ls 9 [(0, .ref (q 0)), (1, .int x2), (2, .int x3), (3, .int x4), (4, .int x5), (5, .int x6)] := hl
        refine lv_iload_n hx hb d_1_18_10 rfl (lv_at hl 2 rfl) ?_
        refine q_goi V (q_runS (As := [.int x3]) (rest := []) (d := 1) (mc := 0) (ms := 0) C0 V rfl LS_NH_212 (X_NH_isRegister l D g q ws  x3 hI   _) rfl hl.1 rfl (Nat.le_of_ble_eq_true rfl) ⟨by decide, by decide⟩ ⟨Nat.le_of_ble_eq_true rfl, Nat.le_of_ble_eq_true rfl⟩ d_1_18_11) (fun a479 u477 H locs hp478 V => ?_)
        obtain ⟨rfl, b480, b481, hE482⟩ := hp478
        have e483 : a479 = (F_NH_isRegister x3) := hE482
        clear b480
        clear b481
        refine lv_if_eq (tgt := 32) hx hb d_1_18_14 (by decide) (fun c484 => ?_) (fun c484 => ?_)
        ·
          exact J455 (()) _ _ _ ws ⟨V, q_lw hl (q_lw1 0 rfl (q_lw1 1 rfl (q_lw1 2 rfl (q_lw1 3 rfl (q_lw1 4 rfl (q_lw1 5 rfl q_lw0)))))), (show F_NH_figures_J32 x2 x3 x4 x5 x6 t0_0 t1_0 t2_0 t2_1 t3_0 t4_0 t4_1 t5_0 t6_0 t7_0 t8_0 t8_1 t8_2 t9_0 t9_1 t9_2 = (F_NH_figures x2 x3 x4 x5 x6 t0_0 t1_0 t2_0 t2_1 t3_0 t4_0 t4_1 t5_0 t6_0 t7_0 t8_0 t8_1 t8_2 t9_0 t9_1 t9_2) from Eq.trans (by have c484x := c484; rw [e483] at c484x; rw [F_NH_figures_J10.eq_1, if_pos c484x]) hR472), (show True ∧ S_NH_figures_J32 x2 x3 x4 x5 x6 t0_0 t1_0 t2_0 t2_1 t3_0 t4_0 t4_1 t5_0 t6_0 t7_0 t8_0 t8_1 t8_2 t9_0 t9_1 t9_2 from (by have h := hS473; rw [S_NH_figures_J10.eq_1] at h; have c484x := c484; rw [e483] at c484x; rw [if_pos c484x] at h; with_reducible exact h))⟩
        ·
          refine lv_iload hx hb d_1_18_17 (lv_at hl 5 rfl) ?_
          refine lv_if_lt (tgt := 32) hx hb d_1_18_19 (by decide) (fun c487 => ?_) (fun c487 => ?_)
          ·
            exact J455 (()) _ _ _ ws ⟨V, q_lw hl (q_lw1 0 rfl (q_lw1 1 rfl (q_lw1 2 rfl (q_lw1 3 rfl (q_lw1 4 rfl (q_lw1 5 rfl q_lw0)))))), (show F_NH_figures_J32 x2 x3 x4 x5 x6 t0_0 t1_0 t2_0 t2_1 t3_0 t4_0 t4_1 t5_0 t6_0 t7_0 t8_0 t8_1 t8_2 t9_0 t9_1 t9_2 = (F_NH_figures x2 x3 x4 x5 x6 t0_0 t1_0 t2_0 t2_1 t3_0 t4_0 t4_1 t5_0 t6_0 t7_0 t8_0 t8_1 t8_2 t9_0 t9_1 t9_2) from Eq.trans (by have c484x := c484; rw [e483] at c484x; rw [F_NH_figures_J10.eq_1, if_neg c484x, if_pos c487]) hR472), (show True ∧ S_NH_figures_J32 x2 x3 x4 x5 x6 t0_0 t1_0 t2_0 t2_1 t3_0 t4_0 t4_1 t5_0 t6_0 t7_0 t8_0 t8_1 t8_2 t9_0 t9_1 t9_2 from (by have h := hS473; rw [S_NH_figures_J10.eq_1] at h; have c484x := c484; rw [e483] at c484x; rw [if_neg c484x] at h; rw [if_pos c487] at h; with_reducible exact h))⟩
          ·
            refine lv_iload hx hb d_1_18_22 (lv_at hl 5 rfl) ?_
            refine lv_iconst (v := 3) hx hb d_1_18_24 (by decide) ?_
            refine lv_icmp_gt (tgt := 32) hx hb d_1_18_25 (by decide) (fun c490 => ?_) (fun c490 => ?_)
            ·
              exact J455 (()) _ _ _ ws ⟨V, q_lw hl (q_lw1 0 rfl (q_lw1 1 rfl (q_lw1 2 rfl (q_lw1 3 rfl (q_lw1 4 rfl (q_lw1 5 rfl q_lw0)))))), (show F_NH_figures_J32 x2 x3 x4 x5 x6 t0_0 t1_0 t2_0 t2_1 t3_0 t4_0 t4_1 t5_0 t6_0 t7_0 t8_0 t8_1 t8_2 t9_0 t9_1 t9_2 = (F_NH_figures x2 x3 x4 x5 x6 t0_0 t1_0 t2_0 t2_1 t3_0 t4_0 t4_1 t5_0 t6_0 t7_0 t8_0 t8_1 t8_2 t9_0 t9_1 t9_2) from Eq.trans (by have c484x := c484; rw [e483] at c484x; rw [F_NH_figures_J10.eq_1, if_neg c484x, if_neg c487, if_pos c490]) hR472), (show True ∧ S_NH_figures_J32 x2 x3 x4 x5 x6 t0_0 t1_0 t2_0 t2_1 t3_0 t4_0 t4_1 t5_0 t6_0 t7_0 t8_0 t8_1 t8_2 t9_0 t9_1 t9_2 from (by have h := hS473; rw [S_NH_figures_J10.eq_1] at h; have c484x := c484; rw [e483] at c484x; rw [if_neg c484x] at h; rw [if_neg c487] at h; rw [if_pos c490] at h; with_reducible exact h))⟩
            ·
              refine lv_iconst (v := 1) hx hb d_1_18_28 (by decide) ?_
              refine lv_goto (tgt := 33) hx hb d_1_18_29 (by decide) ?_
              exact J45 ((1 : Int32)) _ _ _ ws ⟨(show q_F (0 ≤ 1) from (show 0 ≤ 1 from by omega)), (show q_F (1 ≤ 1) from (show 1 ≤ 1 from by omega)), V, q_lw hl (q_lw1 0 rfl (q_lw1 1 rfl (q_lw1 2 rfl (q_lw1 3 rfl (q_lw1 4 rfl (q_lw1 5 rfl q_lw0)))))), (show F_NH_figures_J33 x2 x3 x4 x5 x6 t0_0 t1_0 t2_0 t2_1 t3_0 t4_0 t4_1 t5_0 t6_0 t7_0 t8_0 t8_1 t8_2 t9_0 t9_1 t9_2 1 = (F_NH_figures x2 x3 x4 x5 x6 t0_0 t1_0 t2_0 t2_1 t3_0 t4_0 t4_1 t5_0 t6_0 t7_0 t8_0 t8_1 t8_2 t9_0 t9_1 t9_2) from Eq.trans (by have c484x := c484; rw [e483] at c484x; rw [F_NH_figures_J10.eq_1, if_neg c484x, if_neg c487, if_neg c490]) hR472), (show True ∧ S_NH_figures_J33 x2 x3 x4 x5 x6 t0_0 t1_0 t2_0 t2_1 t3_0 t4_0 t4_1 t5_0 t6_0 t7_0 t8_0 t8_1 t8_2 t9_0 t9_1 t9_2 1 from (by have h := hS473; rw [S_NH_figures_J10.eq_1] at h; have c484x := c484; rw [e483] at c484x; rw [if_neg c484x] at h; rw [if_neg c487] at h; rw [if_neg c490] at h; with_reducible exact h))⟩
      ·
        intro J471
        refine lv_icmp_eq (tgt := 10) hx hb d_1_18_2 (by decide) (fun c493 => ?_) (fun c493 => ?_)
        ·
          exact J471 (()) _ _ _ ws ⟨V, q_lw hl (q_lw1 0 rfl (q_lw1 1 rfl (q_lw1 2 rfl (q_lw1 3 rfl (q_lw1 4 rfl (q_lw1 5 rfl q_lw0)))))), (show F_NH_figures_J10 x2 x3 x4 x5 x6 t0_0 t1_0 t2_0 t2_1 t3_0 t4_0 t4_1 t5_0 t6_0 t7_0 t8_0 t8_1 t8_2 t9_0 t9_1 t9_2 = (F_NH_figures x2 x3 x4 x5 x6 t0_0 t1_0 t2_0 t2_1 t3_0 t4_0 t4_1 t5_0 t6_0 t7_0 t8_0 t8_1 t8_2 t9_0 t9_1 t9_2) from (by rw [F_NH_figures.eq_1, if_pos c493])), (show True ∧ S_NH_figures_J10 x2 x3 x4 x5 x6 t0_0 t1_0 t2_0 t2_1 t3_0 t4_0 t4_1 t5_0 t6_0 t7_0 t8_0 t8_1 t8_2 t9_0 t9_1 t9_2 from (by have h := hS; rw [S_NH_figures.eq_1] at h; rw [if_pos c493] at h; with_reducible exact h))⟩
        ·
          refine lv_iload_n hx hb d_1_18_5 rfl (lv_at hl 1 rfl) ?_
          refine lv_iconst (v := 3) hx hb d_1_18_6 (by decide) ?_
          refine lv_icmp_ne (tgt := 32) hx hb d_1_18_7 (by decide) (fun c496 => ?_) (fun c496 => ?_)
          ·
            exact J455 (()) _ _ _ ws ⟨V, q_lw hl (q_lw1 0 rfl (q_lw1 1 rfl (q_lw1 2 rfl (q_lw1 3 rfl (q_lw1 4 rfl (q_lw1 5 rfl q_lw0)))))), (show F_NH_figures_J32 x2 x3 x4 x5 x6 t0_0 t1_0 t2_0 t2_1 t3_0 t4_0 t4_1 t5_0 t6_0 t7_0 t8_0 t8_1 t8_2 t9_0 t9_1 t9_2 = (F_NH_figures x2 x3 x4 x5 x6 t0_0 t1_0 t2_0 t2_1 t3_0 t4_0 t4_1 t5_0 t6_0 t7_0 t8_0 t8_1 t8_2 t9_0 t9_1 t9_2) from (by rw [F_NH_figures.eq_1, if_neg c493, if_neg c496])), (show True ∧ S_NH_figures_J32 x2 x3 x4 x5 x6 t0_0 t1_0 t2_0 t2_1 t3_0 t4_0 t4_1 t5_0 t6_0 t7_0 t8_0 t8_1 t8_2 t9_0 t9_1 t9_2 from (by have h := hS; rw [S_NH_figures.eq_1] at h; rw [if_neg c493] at h; rw [if_neg c496] at h; with_reducible exact h))⟩
          ·
            exact J471 (()) _ _ _ ws ⟨V, q_lw hl (q_lw1 0 rfl (q_lw1 1 rfl (q_lw1 2 rfl (q_lw1 3 rfl (q_lw1 4 rfl (q_lw1 5 rfl q_lw0)))))), (show F_NH_figures_J10 x2 x3 x4 x5 x6 t0_0 t1_0 t2_0 t2_1 t3_0 t4_0 t4_1 t5_0 t6_0 t7_0 t8_0 t8_1 t8_2 t9_0 t9_1 t9_2 = (F_NH_figures x2 x3 x4 x5 x6 t0_0 t1_0 t2_0 t2_1 t3_0 t4_0 t4_1 t5_0 t6_0 t7_0 t8_0 t8_1 t8_2 t9_0 t9_1 t9_2) from (by rw [F_NH_figures.eq_1, if_neg c493, if_pos c496])), (show True ∧ S_NH_figures_J10 x2 x3 x4 x5 x6 t0_0 t1_0 t2_0 t2_1 t3_0 t4_0 t4_1 t5_0 t6_0 t7_0 t8_0 t8_1 t8_2 t9_0 t9_1 t9_2 from (by have h := hS; rw [S_NH_figures.eq_1] at h; rw [if_neg c493] at h; rw [if_pos c496] at h; with_reducible exact h))⟩

/-! NumberHouse, exactly: t0.addArgument -/
theorem d_1_22_0 : decode prog_1_method_22_code 0 = .ok (.iload_n 1, 1) := by decide +kernel
theorem d_1_22_1 : decode prog_1_method_22_code 1 = .ok (.ifCond .ne 24, 3) := by decide +kernel
theorem d_1_22_25 : decode prog_1_method_22_code 25 = .ok (.iload_n 1, 1) := by decide +kernel
theorem d_1_22_26 : decode prog_1_method_22_code 26 = .ok (.iconst 1, 1) := by decide +kernel
theorem d_1_22_27 : decode prog_1_method_22_code 27 = .ok (.if_icmp .ne 35, 3) := by decide +kernel
theorem d_1_22_62 : decode prog_1_method_22_code 62 = .ok (.iload_n 1, 1) := by decide +kernel
theorem d_1_22_63 : decode prog_1_method_22_code 63 = .ok (.iconst 4, 1) := by decide +kernel
theorem d_1_22_64 : decode prog_1_method_22_code 64 = .ok (.if_icmp .ne 16, 3) := by decide +kernel
theorem d_1_22_80 : decode prog_1_method_22_code 80 = .ok (.iload_n 1, 1) := by decide +kernel
theorem d_1_22_81 : decode prog_1_method_22_code 81 = .ok (.iconst 5, 1) := by decide +kernel
theorem d_1_22_82 : decode prog_1_method_22_code 82 = .ok (.if_icmp .ne 24, 3) := by decide +kernel
theorem d_1_22_106 : decode prog_1_method_22_code 106 = .ok (.iload_n 1, 1) := by decide +kernel
theorem d_1_22_107 : decode prog_1_method_22_code 107 = .ok (.bipush 6, 2) := by decide +kernel
theorem d_1_22_109 : decode prog_1_method_22_code 109 = .ok (.if_icmp .ne 17, 3) := by decide +kernel
theorem d_1_22_126 : decode prog_1_method_22_code 126 = .ok (.aload_n 0, 1) := by decide +kernel
theorem d_1_22_127 : decode prog_1_method_22_code 127 = .ok (.getfield 98, 3) := by decide +kernel
theorem d_1_22_130 : decode prog_1_method_22_code 130 = .ok (.invokevirtual 380, 3) := by decide +kernel
set_option maxRecDepth 100000 in
theorem w_1715 : (Cond.code ({ cls := "NumberHouse$Printer", name := "addText", desc := "()V" } : MethodName) prog_9_method_4_code (1 : Nat) (none : Option ClassFile.FieldType)) ∈ q_tbl := q_of8 35 rfl (by decide +kernel)
set_option maxRecDepth 100000 in
theorem w_1712 : (Cond.methodLink "NumberHouse" (380 : Nat) ({ cls := "NumberHouse$Printer", name := "addText", desc := "()V" } : MethodName)) ∈ q_tbl := q_of8 32 rfl (by decide +kernel)
set_option maxRecDepth 100000 in
theorem w_1713 : (Cond.instanceMethod ({ cls := "NumberHouse$Printer", name := "addText", desc := "()V" } : MethodName)) ∈ q_tbl := q_of8 33 rfl (by decide +kernel)
set_option maxRecDepth 100000 in
theorem w_1714 : (Cond.selects "NumberHouse$Printer" ({ cls := "NumberHouse$Printer", name := "addText", desc := "()V" } : MethodName) ({ cls := "NumberHouse$Printer", name := "addText", desc := "()V" } : MethodName)) ∈ q_tbl := q_of8 34 rfl (by decide +kernel)
theorem LV_NH_380 : q_LV "NumberHouse" 380 y_Pri_addText prog_9_method_4_code 1 none 0 := ⟨w_1715, w_12, w_1712, w_1713, w_1714, ⟨by decide, by decide, by decide +kernel⟩⟩
theorem d_1_22_133 : decode prog_1_method_22_code 133 = .ok (.aload_n 0, 1) := by decide +kernel
theorem d_1_22_134 : decode prog_1_method_22_code 134 = .ok (.getfield 14, 3) := by decide +kernel
theorem d_1_22_137 : decode prog_1_method_22_code 137 = .ok (.invokevirtual 115, 3) := by decide +kernel
theorem d_1_22_140 : decode prog_1_method_22_code 140 = .ok (.return_, 1) := by decide +kernel
theorem d_1_22_112 : decode prog_1_method_22_code 112 = .ok (.aload_n 0, 1) := by decide +kernel
theorem d_1_22_113 : decode prog_1_method_22_code 113 = .ok (.getfield 98, 3) := by decide +kernel
theorem d_1_22_116 : decode prog_1_method_22_code 116 = .ok (.iconst 2, 1) := by decide +kernel
theorem d_1_22_117 : decode prog_1_method_22_code 117 = .ok (.iload_n 2, 1) := by decide +kernel
theorem d_1_22_118 : decode prog_1_method_22_code 118 = .ok (.i2l, 1) := by decide +kernel
theorem d_1_22_119 : decode prog_1_method_22_code 119 = .ok (.iconst 0, 1) := by decide +kernel
theorem d_1_22_120 : decode prog_1_method_22_code 120 = .ok (.invokevirtual 374, 3) := by decide +kernel
set_option maxRecDepth 100000 in
theorem w_1708 : (Cond.methodLink "NumberHouse" (374 : Nat) ({ cls := "NumberHouse$Printer", name := "addNumber", desc := "(IJI)V" } : MethodName)) ∈ q_tbl := q_of8 28 rfl (by decide +kernel)
theorem LV_NH_374 : q_LV "NumberHouse" 374 y_Pri_addNumber prog_9_method_3_code 5 none 3 := ⟨w_1711, w_12, w_1708, w_1709, w_1710, ⟨by decide, by decide, by decide +kernel⟩⟩
theorem d_1_22_123 : decode prog_1_method_22_code 123 = .ok (.goto 17, 3) := by decide +kernel
theorem d_1_22_85 : decode prog_1_method_22_code 85 = .ok (.aload_n 0, 1) := by decide +kernel
theorem d_1_22_86 : decode prog_1_method_22_code 86 = .ok (.getfield 98, 3) := by decide +kernel
theorem d_1_22_89 : decode prog_1_method_22_code 89 = .ok (.iconst 1, 1) := by decide +kernel
theorem d_1_22_90 : decode prog_1_method_22_code 90 = .ok (.iload_n 2, 1) := by decide +kernel
theorem d_1_22_91 : decode prog_1_method_22_code 91 = .ok (.ifCond .ne 7, 3) := by decide +kernel
theorem d_1_22_98 : decode prog_1_method_22_code 98 = .ok (.lconst 1, 1) := by decide +kernel
theorem d_1_22_99 : decode prog_1_method_22_code 99 = .ok (.iconst 0, 1) := by decide +kernel
theorem d_1_22_100 : decode prog_1_method_22_code 100 = .ok (.invokevirtual 374, 3) := by decide +kernel
theorem d_1_22_103 : decode prog_1_method_22_code 103 = .ok (.goto 37, 3) := by decide +kernel
theorem d_1_22_94 : decode prog_1_method_22_code 94 = .ok (.lconst 0, 1) := by decide +kernel
theorem d_1_22_95 : decode prog_1_method_22_code 95 = .ok (.goto 4, 3) := by decide +kernel
theorem d_1_22_67 : decode prog_1_method_22_code 67 = .ok (.aload_n 0, 1) := by decide +kernel
theorem d_1_22_68 : decode prog_1_method_22_code 68 = .ok (.getfield 98, 3) := by decide +kernel
theorem d_1_22_71 : decode prog_1_method_22_code 71 = .ok (.iconst 0, 1) := by decide +kernel
theorem d_1_22_72 : decode prog_1_method_22_code 72 = .ok (.lconst 0, 1) := by decide +kernel
theorem d_1_22_73 : decode prog_1_method_22_code 73 = .ok (.iconst 0, 1) := by decide +kernel
theorem d_1_22_74 : decode prog_1_method_22_code 74 = .ok (.invokevirtual 374, 3) := by decide +kernel
theorem d_1_22_77 : decode prog_1_method_22_code 77 = .ok (.goto 63, 3) := by decide +kernel
theorem d_1_22_30 : decode prog_1_method_22_code 30 = .ok (.aload_n 0, 1) := by decide +kernel
theorem d_1_22_31 : decode prog_1_method_22_code 31 = .ok (.getfield 98, 3) := by decide +kernel
theorem d_1_22_34 : decode prog_1_method_22_code 34 = .ok (.iconst 5, 1) := by decide +kernel
theorem d_1_22_35 : decode prog_1_method_22_code 35 = .ok (.aload_n 0, 1) := by decide +kernel
theorem d_1_22_36 : decode prog_1_method_22_code 36 = .ok (.getfield 29, 3) := by decide +kernel
theorem d_1_22_39 : decode prog_1_method_22_code 39 = .ok (.iload_n 2, 1) := by decide +kernel
theorem d_1_22_40 : decode prog_1_method_22_code 40 = .ok (.aaload, 1) := by decide +kernel
theorem d_1_22_41 : decode prog_1_method_22_code 41 = .ok (.getfield 277, 3) := by decide +kernel
theorem d_1_22_44 : decode prog_1_method_22_code 44 = .ok (.invokevirtual 370, 3) := by decide +kernel
theorem d_1_22_47 : decode prog_1_method_22_code 47 = .ok (.aload_n 0, 1) := by decide +kernel
theorem d_1_22_48 : decode prog_1_method_22_code 48 = .ok (.getfield 29, 3) := by decide +kernel
theorem d_1_22_51 : decode prog_1_method_22_code 51 = .ok (.iload_n 2, 1) := by decide +kernel
theorem d_1_22_52 : decode prog_1_method_22_code 52 = .ok (.aaload, 1) := by decide +kernel
theorem d_1_22_53 : decode prog_1_method_22_code 53 = .ok (.getfield 378, 3) := by decide +kernel
theorem d_1_22_56 : decode prog_1_method_22_code 56 = .ok (.invokevirtual 374, 3) := by decide +kernel
theorem d_1_22_59 : decode prog_1_method_22_code 59 = .ok (.goto 81, 3) := by decide +kernel
theorem d_1_22_4 : decode prog_1_method_22_code 4 = .ok (.aload_n 0, 1) := by decide +kernel
theorem d_1_22_5 : decode prog_1_method_22_code 5 = .ok (.getfield 98, 3) := by decide +kernel
theorem d_1_22_8 : decode prog_1_method_22_code 8 = .ok (.iconst 3, 1) := by decide +kernel
theorem d_1_22_9 : decode prog_1_method_22_code 9 = .ok (.aload_n 0, 1) := by decide +kernel
theorem d_1_22_10 : decode prog_1_method_22_code 10 = .ok (.getfield 23, 3) := by decide +kernel
theorem d_1_22_13 : decode prog_1_method_22_code 13 = .ok (.iload_n 2, 1) := by decide +kernel
theorem d_1_22_14 : decode prog_1_method_22_code 14 = .ok (.aaload, 1) := by decide +kernel
theorem d_1_22_15 : decode prog_1_method_22_code 15 = .ok (.invokevirtual 370, 3) := by decide +kernel
theorem d_1_22_18 : decode prog_1_method_22_code 18 = .ok (.iconst 0, 1) := by decide +kernel
theorem d_1_22_19 : decode prog_1_method_22_code 19 = .ok (.invokevirtual 374, 3) := by decide +kernel
theorem d_1_22_22 : decode prog_1_method_22_code 22 = .ok (.goto 118, 3) := by decide +kernel
def y_NH_addArgument : MethodName := ⟨"NumberHouse", "addArgument", "(II)V"⟩
def F_NH_addArgument_c130 (x2 : Int32) (x3 : Int32) (t0_0 : Int32) (t0_1 : Int32) (t0_2 : Int32) (t0_3 : Int32) (t1_0 : (Nat → Int32)) (t2_0 : (Nat → Int64)) (t3_0 : (Nat → Int32)) (t4_0 : Int32) (t5_0 : (Nat → Int64)) (t6_0 : Int32) (t7_0 : (Nat → Int64)) (t8_0 : Int32) (t9_0 : (Nat → Int64)) (t10_0 : Int32) (t11_0 : (Nat → Int64)) (t12_0 : Int32) (t13_0 : (Nat → Int64)) (t14_0 : Int32) (t15_0 : (Nat → Int64)) (t16_0 : Int32) (t17_0 : (Nat → Int64)) (t18_0 : Int32) (t19_0 : (Nat → Int64)) (t20_0 : Int32) (t21_0 : (Nat → Int64)) (t22_0 : Int32) (t23_0 : (Nat → Int64)) (t24_0 : Int32) (t24_1 : Int32) (t25_0 : (Nat → Int32)) (t26_0 : Int32) (t26_1 : Int32) (t27_0 : Int32) (t27_1 : Int32) (t28_0 : (Nat → Int32)) (p183 : (Int32 × Int32 × Int32 × Int32 × (Nat → Int32) × (Nat → Int64) × (Nat → Int32) × Int32 × (Nat → Int64) × Int32 × (Nat → Int64) × Int32 × (Nat → Int64) × Int32 × (Nat → Int64) × Int32 × (Nat → Int64) × Int32 × (Nat → Int64) × Int32 × (Nat → Int64) × Int32 × (Nat → Int64) × Int32 × (Nat → Int64))) : Int32 × Int32 × Int32 × Int32 × (Nat → Int32) × (Nat → Int64) × (Nat → Int32) × Int32 × Int32 × (Nat → Int64) × Int32 × (Nat → Int64) × Int32 × (Nat → Int64) × Int32 × (Nat → Int64) × Int32 × (Nat → Int64) × Int32 × (Nat → Int64) × Int32 × (Nat → Int64) × Int32 × (Nat → Int64) × Int32 × (Nat → Int64) := ((p183.1 : Int32), (p183.2.1 : Int32), (p183.2.2.1 : Int32), (p183.2.2.2.1 : Int32), (p183.2.2.2.2.1 : (Nat → Int32)), (p183.2.2.2.2.2.1 : (Nat → Int64)), (p183.2.2.2.2.2.2.1 : (Nat → Int32)), ((F_She_clear (4100 : Int32) (513 : Int32) (4100 : Int32) t4_0) : Int32), (p183.2.2.2.2.2.2.2.1 : Int32), (p183.2.2.2.2.2.2.2.2.1 : (Nat → Int64)), (p183.2.2.2.2.2.2.2.2.2.1 : Int32), (p183.2.2.2.2.2.2.2.2.2.2.1 : (Nat → Int64)), (p183.2.2.2.2.2.2.2.2.2.2.2.1 : Int32), (p183.2.2.2.2.2.2.2.2.2.2.2.2.1 : (Nat → Int64)), (p183.2.2.2.2.2.2.2.2.2.2.2.2.2.1 : Int32), (p183.2.2.2.2.2.2.2.2.2.2.2.2.2.2.1 : (Nat → Int64)), (p183.2.2.2.2.2.2.2.2.2.2.2.2.2.2.2.1 : Int32), (p183.2.2.2.2.2.2.2.2.2.2.2.2.2.2.2.2.1 : (Nat → Int64)), (p183.2.2.2.2.2.2.2.2.2.2.2.2.2.2.2.2.2.1 : Int32), (p183.2.2.2.2.2.2.2.2.2.2.2.2.2.2.2.2.2.2.1 : (Nat → Int64)), (p183.2.2.2.2.2.2.2.2.2.2.2.2.2.2.2.2.2.2.2.1 : Int32), (p183.2.2.2.2.2.2.2.2.2.2.2.2.2.2.2.2.2.2.2.2.1 : (Nat → Int64)), (p183.2.2.2.2.2.2.2.2.2.2.2.2.2.2.2.2.2.2.2.2.2.1 : Int32), (p183.2.2.2.2.2.2.2.2.2.2.2.2.2.2.2.2.2.2.2.2.2.2.1 : (Nat → Int64)), (p183.2.2.2.2.2.2.2.2.2.2.2.2.2.2.2.2.2.2.2.2.2.2.2.1 : Int32), (p183.2.2.2.2.2.2.2.2.2.2.2.2.2.2.2.2.2.2.2.2.2.2.2.2 : (Nat → Int64)))
def F_NH_addArgument_c120 (x2 : Int32) (x3 : Int32) (t0_0 : Int32) (t0_1 : Int32) (t0_2 : Int32) (t0_3 : Int32) (t1_0 : (Nat → Int32)) (t2_0 : (Nat → Int64)) (t3_0 : (Nat → Int32)) (t4_0 : Int32) (t5_0 : (Nat → Int64)) (t6_0 : Int32) (t7_0 : (Nat → Int64)) (t8_0 : Int32) (t9_0 : (Nat → Int64)) (t10_0 : Int32) (t11_0 : (Nat → Int64)) (t12_0 : Int32) (t13_0 : (Nat → Int64)) (t14_0 : Int32) (t15_0 : (Nat → Int64)) (t16_0 : Int32) (t17_0 : (Nat → Int64)) (t18_0 : Int32) (t19_0 : (Nat → Int64)) (t20_0 : Int32) (t21_0 : (Nat → Int64)) (t22_0 : Int32) (t23_0 : (Nat → Int64)) (t24_0 : Int32) (t24_1 : Int32) (t25_0 : (Nat → Int32)) (t26_0 : Int32) (t26_1 : Int32) (t27_0 : Int32) (t27_1 : Int32) (t28_0 : (Nat → Int32)) (p254 : (Int32 × Int32 × Int32 × Int32 × (Nat → Int32) × (Nat → Int64) × (Nat → Int32))) : Int32 × Int32 × Int32 × Int32 × (Nat → Int32) × (Nat → Int64) × (Nat → Int32) × Int32 × Int32 × (Nat → Int64) × Int32 × (Nat → Int64) × Int32 × (Nat → Int64) × Int32 × (Nat → Int64) × Int32 × (Nat → Int64) × Int32 × (Nat → Int64) × Int32 × (Nat → Int64) × Int32 × (Nat → Int64) × Int32 × (Nat → Int64) := ((p254.1 : Int32), (p254.2.1 : Int32), (p254.2.2.1 : Int32), (p254.2.2.2.1 : Int32), (p254.2.2.2.2.1 : (Nat → Int32)), (p254.2.2.2.2.2.1 : (Nat → Int64)), (p254.2.2.2.2.2.2 : (Nat → Int32)), t4_0, t6_0, t7_0, t8_0, t9_0, t10_0, t11_0, t12_0, t13_0, t14_0, t15_0, t16_0, t17_0, t18_0, t19_0, t20_0, t21_0, t22_0, t23_0)
def F_NH_addArgument_c100 (x2 : Int32) (x3 : Int32) (t0_0 : Int32) (t0_1 : Int32) (t0_2 : Int32) (t0_3 : Int32) (t1_0 : (Nat → Int32)) (t2_0 : (Nat → Int64)) (t3_0 : (Nat → Int32)) (t4_0 : Int32) (t5_0 : (Nat → Int64)) (t6_0 : Int32) (t7_0 : (Nat → Int64)) (t8_0 : Int32) (t9_0 : (Nat → Int64)) (t10_0 : Int32) (t11_0 : (Nat → Int64)) (t12_0 : Int32) (t13_0 : (Nat → Int64)) (t14_0 : Int32) (t15_0 : (Nat → Int64)) (t16_0 : Int32) (t17_0 : (Nat → Int64)) (t18_0 : Int32) (t19_0 : (Nat → Int64)) (t20_0 : Int32) (t21_0 : (Nat → Int64)) (t22_0 : Int32) (t23_0 : (Nat → Int64)) (t24_0 : Int32) (t24_1 : Int32) (t25_0 : (Nat → Int32)) (t26_0 : Int32) (t26_1 : Int32) (t27_0 : Int32) (t27_1 : Int32) (t28_0 : (Nat → Int32)) (p297 : (Int32 × Int32 × Int32 × Int32 × (Nat → Int32) × (Nat → Int64) × (Nat → Int32))) : Int32 × Int32 × Int32 × Int32 × (Nat → Int32) × (Nat → Int64) × (Nat → Int32) × Int32 × Int32 × (Nat → Int64) × Int32 × (Nat → Int64) × Int32 × (Nat → Int64) × Int32 × (Nat → Int64) × Int32 × (Nat → Int64) × Int32 × (Nat → Int64) × Int32 × (Nat → Int64) × Int32 × (Nat → Int64) × Int32 × (Nat → Int64) := ((p297.1 : Int32), (p297.2.1 : Int32), (p297.2.2.1 : Int32), (p297.2.2.2.1 : Int32), (p297.2.2.2.2.1 : (Nat → Int32)), (p297.2.2.2.2.2.1 : (Nat → Int64)), (p297.2.2.2.2.2.2 : (Nat → Int32)), t4_0, t6_0, t7_0, t8_0, t9_0, t10_0, t11_0, t12_0, t13_0, t14_0, t15_0, t16_0, t17_0, t18_0, t19_0, t20_0, t21_0, t22_0, t23_0)
def F_NH_addArgument_c100_4 (x2 : Int32) (x3 : Int32) (t0_0 : Int32) (t0_1 : Int32) (t0_2 : Int32) (t0_3 : Int32) (t1_0 : (Nat → Int32)) (t2_0 : (Nat → Int64)) (t3_0 : (Nat → Int32)) (t4_0 : Int32) (t5_0 : (Nat → Int64)) (t6_0 : Int32) (t7_0 : (Nat → Int64)) (t8_0 : Int32) (t9_0 : (Nat → Int64)) (t10_0 : Int32) (t11_0 : (Nat → Int64)) (t12_0 : Int32) (t13_0 : (Nat → Int64)) (t14_0 : Int32) (t15_0 : (Nat → Int64)) (t16_0 : Int32) (t17_0 : (Nat → Int64)) (t18_0 : Int32) (t19_0 : (Nat → Int64)) (t20_0 : Int32) (t21_0 : (Nat → Int64)) (t22_0 : Int32) (t23_0 : (Nat → Int64)) (t24_0 : Int32) (t24_1 : Int32) (t25_0 : (Nat → Int32)) (t26_0 : Int32) (t26_1 : Int32) (t27_0 : Int32) (t27_1 : Int32) (t28_0 : (Nat → Int32)) (p337 : (Int32 × Int32 × Int32 × Int32 × (Nat → Int32) × (Nat → Int64) × (Nat → Int32))) : Int32 × Int32 × Int32 × Int32 × (Nat → Int32) × (Nat → Int64) × (Nat → Int32) × Int32 × Int32 × (Nat → Int64) × Int32 × (Nat → Int64) × Int32 × (Nat → Int64) × Int32 × (Nat → Int64) × Int32 × (Nat → Int64) × Int32 × (Nat → Int64) × Int32 × (Nat → Int64) × Int32 × (Nat → Int64) × Int32 × (Nat → Int64) := ((p337.1 : Int32), (p337.2.1 : Int32), (p337.2.2.1 : Int32), (p337.2.2.2.1 : Int32), (p337.2.2.2.2.1 : (Nat → Int32)), (p337.2.2.2.2.2.1 : (Nat → Int64)), (p337.2.2.2.2.2.2 : (Nat → Int32)), t4_0, t6_0, t7_0, t8_0, t9_0, t10_0, t11_0, t12_0, t13_0, t14_0, t15_0, t16_0, t17_0, t18_0, t19_0, t20_0, t21_0, t22_0, t23_0)
def F_NH_addArgument_c74 (x2 : Int32) (x3 : Int32) (t0_0 : Int32) (t0_1 : Int32) (t0_2 : Int32) (t0_3 : Int32) (t1_0 : (Nat → Int32)) (t2_0 : (Nat → Int64)) (t3_0 : (Nat → Int32)) (t4_0 : Int32) (t5_0 : (Nat → Int64)) (t6_0 : Int32) (t7_0 : (Nat → Int64)) (t8_0 : Int32) (t9_0 : (Nat → Int64)) (t10_0 : Int32) (t11_0 : (Nat → Int64)) (t12_0 : Int32) (t13_0 : (Nat → Int64)) (t14_0 : Int32) (t15_0 : (Nat → Int64)) (t16_0 : Int32) (t17_0 : (Nat → Int64)) (t18_0 : Int32) (t19_0 : (Nat → Int64)) (t20_0 : Int32) (t21_0 : (Nat → Int64)) (t22_0 : Int32) (t23_0 : (Nat → Int64)) (t24_0 : Int32) (t24_1 : Int32) (t25_0 : (Nat → Int32)) (t26_0 : Int32) (t26_1 : Int32) (t27_0 : Int32) (t27_1 : Int32) (t28_0 : (Nat → Int32)) (p378 : (Int32 × Int32 × Int32 × Int32 × (Nat → Int32) × (Nat → Int64) × (Nat → Int32))) : Int32 × Int32 × Int32 × Int32 × (Nat → Int32) × (Nat → Int64) × (Nat → Int32) × Int32 × Int32 × (Nat → Int64) × Int32 × (Nat → Int64) × Int32 × (Nat → Int64) × Int32 × (Nat → Int64) × Int32 × (Nat → Int64) × Int32 × (Nat → Int64) × Int32 × (Nat → Int64) × Int32 × (Nat → Int64) × Int32 × (Nat → Int64) := ((p378.1 : Int32), (p378.2.1 : Int32), (p378.2.2.1 : Int32), (p378.2.2.2.1 : Int32), (p378.2.2.2.2.1 : (Nat → Int32)), (p378.2.2.2.2.2.1 : (Nat → Int64)), (p378.2.2.2.2.2.2 : (Nat → Int32)), t4_0, t6_0, t7_0, t8_0, t9_0, t10_0, t11_0, t12_0, t13_0, t14_0, t15_0, t16_0, t17_0, t18_0, t19_0, t20_0, t21_0, t22_0, t23_0)
def F_NH_addArgument_c56 (x2 : Int32) (x3 : Int32) (t0_0 : Int32) (t0_1 : Int32) (t0_2 : Int32) (t0_3 : Int32) (t1_0 : (Nat → Int32)) (t2_0 : (Nat → Int64)) (t3_0 : (Nat → Int32)) (t4_0 : Int32) (t5_0 : (Nat → Int64)) (t6_0 : Int32) (t7_0 : (Nat → Int64)) (t8_0 : Int32) (t9_0 : (Nat → Int64)) (t10_0 : Int32) (t11_0 : (Nat → Int64)) (t12_0 : Int32) (t13_0 : (Nat → Int64)) (t14_0 : Int32) (t15_0 : (Nat → Int64)) (t16_0 : Int32) (t17_0 : (Nat → Int64)) (t18_0 : Int32) (t19_0 : (Nat → Int64)) (t20_0 : Int32) (t21_0 : (Nat → Int64)) (t22_0 : Int32) (t23_0 : (Nat → Int64)) (t24_0 : Int32) (t24_1 : Int32) (t25_0 : (Nat → Int32)) (t26_0 : Int32) (t26_1 : Int32) (t27_0 : Int32) (t27_1 : Int32) (t28_0 : (Nat → Int32)) (p432 : (Int32 × Int32 × Int32 × Int32 × (Nat → Int32) × (Nat → Int64) × (Nat → Int32))) : Int32 × Int32 × Int32 × Int32 × (Nat → Int32) × (Nat → Int64) × (Nat → Int32) × Int32 × Int32 × (Nat → Int64) × Int32 × (Nat → Int64) × Int32 × (Nat → Int64) × Int32 × (Nat → Int64) × Int32 × (Nat → Int64) × Int32 × (Nat → Int64) × Int32 × (Nat → Int64) × Int32 × (Nat → Int64) × Int32 × (Nat → Int64) := ((p432.1 : Int32), (p432.2.1 : Int32), (p432.2.2.1 : Int32), (p432.2.2.2.1 : Int32), (p432.2.2.2.2.1 : (Nat → Int32)), (p432.2.2.2.2.2.1 : (Nat → Int64)), (p432.2.2.2.2.2.2 : (Nat → Int32)), t4_0, t6_0, t7_0, t8_0, t9_0, t10_0, t11_0, t12_0, t13_0, t14_0, t15_0, t16_0, t17_0, t18_0, t19_0, t20_0, t21_0, t22_0, t23_0)
def F_NH_addArgument_c19 (x2 : Int32) (x3 : Int32) (t0_0 : Int32) (t0_1 : Int32) (t0_2 : Int32) (t0_3 : Int32) (t1_0 : (Nat → Int32)) (t2_0 : (Nat → Int64)) (t3_0 : (Nat → Int32)) (t4_0 : Int32) (t5_0 : (Nat → Int64)) (t6_0 : Int32) (t7_0 : (Nat → Int64)) (t8_0 : Int32) (t9_0 : (Nat → Int64)) (t10_0 : Int32) (t11_0 : (Nat → Int64)) (t12_0 : Int32) (t13_0 : (Nat → Int64)) (t14_0 : Int32) (t15_0 : (Nat → Int64)) (t16_0 : Int32) (t17_0 : (Nat → Int64)) (t18_0 : Int32) (t19_0 : (Nat → Int64)) (t20_0 : Int32) (t21_0 : (Nat → Int64)) (t22_0 : Int32) (t23_0 : (Nat → Int64)) (t24_0 : Int32) (t24_1 : Int32) (t25_0 : (Nat → Int32)) (t26_0 : Int32) (t26_1 : Int32) (t27_0 : Int32) (t27_1 : Int32) (t28_0 : (Nat → Int32)) (p483 : (Int32 × Int32 × Int32 × Int32 × (Nat → Int32) × (Nat → Int64) × (Nat → Int32))) : Int32 × Int32 × Int32 × Int32 × (Nat → Int32) × (Nat → Int64) × (Nat → Int32) × Int32 × Int32 × (Nat → Int64) × Int32 × (Nat → Int64) × Int32 × (Nat → Int64) × Int32 × (Nat → Int64) × Int32 × (Nat → Int64) × Int32 × (Nat → Int64) × Int32 × (Nat → Int64) × Int32 × (Nat → Int64) × Int32 × (Nat → Int64) := ((p483.1 : Int32), (p483.2.1 : Int32), (p483.2.2.1 : Int32), (p483.2.2.2.1 : Int32), (p483.2.2.2.2.1 : (Nat → Int32)), (p483.2.2.2.2.2.1 : (Nat → Int64)), (p483.2.2.2.2.2.2 : (Nat → Int32)), t4_0, t6_0, t7_0, t8_0, t9_0, t10_0, t11_0, t12_0, t13_0, t14_0, t15_0, t16_0, t17_0, t18_0, t19_0, t20_0, t21_0, t22_0, t23_0)
def F_NH_addArgument (x2 : Int32) (x3 : Int32) (t0_0 : Int32) (t0_1 : Int32) (t0_2 : Int32) (t0_3 : Int32) (t1_0 : (Nat → Int32)) (t2_0 : (Nat → Int64)) (t3_0 : (Nat → Int32)) (t4_0 : Int32) (t5_0 : (Nat → Int64)) (t6_0 : Int32) (t7_0 : (Nat → Int64)) (t8_0 : Int32) (t9_0 : (Nat → Int64)) (t10_0 : Int32) (t11_0 : (Nat → Int64)) (t12_0 : Int32) (t13_0 : (Nat → Int64)) (t14_0 : Int32) (t15_0 : (Nat → Int64)) (t16_0 : Int32) (t17_0 : (Nat → Int64)) (t18_0 : Int32) (t19_0 : (Nat → Int64)) (t20_0 : Int32) (t21_0 : (Nat → Int64)) (t22_0 : Int32) (t23_0 : (Nat → Int64)) (t24_0 : Int32) (t24_1 : Int32) (t25_0 : (Nat → Int32)) (t26_0 : Int32) (t26_1 : Int32) (t27_0 : Int32) (t27_1 : Int32) (t28_0 : (Nat → Int32)) : Int32 × Int32 × Int32 × Int32 × (Nat → Int32) × (Nat → Int64) × (Nat → Int32) × Int32 × Int32 × (Nat → Int64) × Int32 × (Nat → Int64) × Int32 × (Nat → Int64) × Int32 × (Nat → Int64) × Int32 × (Nat → Int64) × Int32 × (Nat → Int64) × Int32 × (Nat → Int64) × Int32 × (Nat → Int64) × Int32 × (Nat → Int64) := if x2 = (0 : Int32) then (F_NH_addArgument_c19 x2 x3 t0_0 t0_1 t0_2 t0_3 t1_0 t2_0 t3_0 t4_0 t5_0 t6_0 t7_0 t8_0 t9_0 t10_0 t11_0 t12_0 t13_0 t14_0 t15_0 t16_0 t17_0 t18_0 t19_0 t20_0 t21_0 t22_0 t23_0 t24_0 t24_1 t25_0 t26_0 t26_1 t27_0 t27_1 t28_0 ((F_Pri_addNumber (3 : Int32) ((F_Big_toLong (68 : Int32) t24_0 t24_1 t25_0) : Int64) (0 : Int32) t0_0 t0_1 t0_2 t0_3 t1_0 t2_0 t3_0) : (Int32 × Int32 × Int32 × Int32 × (Nat → Int32) × (Nat → Int64) × (Nat → Int32)))) else (if x2 = (1 : Int32) then (F_NH_addArgument_c56 x2 x3 t0_0 t0_1 t0_2 t0_3 t1_0 t2_0 t3_0 t4_0 t5_0 t6_0 t7_0 t8_0 t9_0 t10_0 t11_0 t12_0 t13_0 t14_0 t15_0 t16_0 t17_0 t18_0 t19_0 t20_0 t21_0 t22_0 t23_0 t24_0 t24_1 t25_0 t26_0 t26_1 t27_0 t27_1 t28_0 ((F_Pri_addNumber (5 : Int32) ((F_Big_toLong (108 : Int32) t27_0 t27_1 t28_0) : Int64) t26_0 t0_0 t0_1 t0_2 t0_3 t1_0 t2_0 t3_0) : (Int32 × Int32 × Int32 × Int32 × (Nat → Int32) × (Nat → Int64) × (Nat → Int32)))) else (if x2 = (4 : Int32) then (F_NH_addArgument_c74 x2 x3 t0_0 t0_1 t0_2 t0_3 t1_0 t2_0 t3_0 t4_0 t5_0 t6_0 t7_0 t8_0 t9_0 t10_0 t11_0 t12_0 t13_0 t14_0 t15_0 t16_0 t17_0 t18_0 t19_0 t20_0 t21_0 t22_0 t23_0 t24_0 t24_1 t25_0 t26_0 t26_1 t27_0 t27_1 t28_0 ((F_Pri_addNumber (0 : Int32) (0 : Int64) (0 : Int32) t0_0 t0_1 t0_2 t0_3 t1_0 t2_0 t3_0) : (Int32 × Int32 × Int32 × Int32 × (Nat → Int32) × (Nat → Int64) × (Nat → Int32)))) else (if x2 = (5 : Int32) then (if x3 = (0 : Int32) then (F_NH_addArgument_c100_4 x2 x3 t0_0 t0_1 t0_2 t0_3 t1_0 t2_0 t3_0 t4_0 t5_0 t6_0 t7_0 t8_0 t9_0 t10_0 t11_0 t12_0 t13_0 t14_0 t15_0 t16_0 t17_0 t18_0 t19_0 t20_0 t21_0 t22_0 t23_0 t24_0 t24_1 t25_0 t26_0 t26_1 t27_0 t27_1 t28_0 ((F_Pri_addNumber (1 : Int32) (0 : Int64) (0 : Int32) t0_0 t0_1 t0_2 t0_3 t1_0 t2_0 t3_0) : (Int32 × Int32 × Int32 × Int32 × (Nat → Int32) × (Nat → Int64) × (Nat → Int32)))) else (F_NH_addArgument_c100 x2 x3 t0_0 t0_1 t0_2 t0_3 t1_0 t2_0 t3_0 t4_0 t5_0 t6_0 t7_0 t8_0 t9_0 t10_0 t11_0 t12_0 t13_0 t14_0 t15_0 t16_0 t17_0 t18_0 t19_0 t20_0 t21_0 t22_0 t23_0 t24_0 t24_1 t25_0 t26_0 t26_1 t27_0 t27_1 t28_0 ((F_Pri_addNumber (1 : Int32) (1 : Int64) (0 : Int32) t0_0 t0_1 t0_2 t0_3 t1_0 t2_0 t3_0) : (Int32 × Int32 × Int32 × Int32 × (Nat → Int32) × (Nat → Int64) × (Nat → Int32))))) else (if x2 = (6 : Int32) then (F_NH_addArgument_c120 x2 x3 t0_0 t0_1 t0_2 t0_3 t1_0 t2_0 t3_0 t4_0 t5_0 t6_0 t7_0 t8_0 t9_0 t10_0 t11_0 t12_0 t13_0 t14_0 t15_0 t16_0 t17_0 t18_0 t19_0 t20_0 t21_0 t22_0 t23_0 t24_0 t24_1 t25_0 t26_0 t26_1 t27_0 t27_1 t28_0 ((F_Pri_addNumber (2 : Int32) (x3.toInt64 : Int64) (0 : Int32) t0_0 t0_1 t0_2 t0_3 t1_0 t2_0 t3_0) : (Int32 × Int32 × Int32 × Int32 × (Nat → Int32) × (Nat → Int64) × (Nat → Int32)))) else (F_NH_addArgument_c130 x2 x3 t0_0 t0_1 t0_2 t0_3 t1_0 t2_0 t3_0 t4_0 t5_0 t6_0 t7_0 t8_0 t9_0 t10_0 t11_0 t12_0 t13_0 t14_0 t15_0 t16_0 t17_0 t18_0 t19_0 t20_0 t21_0 t22_0 t23_0 t24_0 t24_1 t25_0 t26_0 t26_1 t27_0 t27_1 t28_0 ((F_Pri_addText t0_0 t0_1 t0_2 t0_3 t1_0 t2_0 t3_0 t4_0 t5_0 t6_0 t7_0 t8_0 t9_0 t10_0 t11_0 t12_0 t13_0 t14_0 t15_0 t16_0 t17_0 t18_0 t19_0 t20_0 t21_0 t22_0 t23_0) : (Int32 × Int32 × Int32 × Int32 × (Nat → Int32) × (Nat → Int64) × (Nat → Int32) × Int32 × (Nat → Int64) × Int32 × (Nat → Int64) × Int32 × (Nat → Int64) × Int32 × (Nat → Int64) × Int32 × (Nat → Int64) × Int32 × (Nat → Int64) × Int32 × (Nat → Int64) × Int32 × (Nat → Int64) × Int32 × (Nat → Int64))))))))
def S_NH_addArgument_c130 (x2 : Int32) (x3 : Int32) (t0_0 : Int32) (t0_1 : Int32) (t0_2 : Int32) (t0_3 : Int32) (t1_0 : (Nat → Int32)) (t2_0 : (Nat → Int64)) (t3_0 : (Nat → Int32)) (t4_0 : Int32) (t5_0 : (Nat → Int64)) (t6_0 : Int32) (t7_0 : (Nat → Int64)) (t8_0 : Int32) (t9_0 : (Nat → Int64)) (t10_0 : Int32) (t11_0 : (Nat → Int64)) (t12_0 : Int32) (t13_0 : (Nat → Int64)) (t14_0 : Int32) (t15_0 : (Nat → Int64)) (t16_0 : Int32) (t17_0 : (Nat → Int64)) (t18_0 : Int32) (t19_0 : (Nat → Int64)) (t20_0 : Int32) (t21_0 : (Nat → Int64)) (t22_0 : Int32) (t23_0 : (Nat → Int64)) (t24_0 : Int32) (t24_1 : Int32) (t25_0 : (Nat → Int32)) (t26_0 : Int32) (t26_1 : Int32) (t27_0 : Int32) (t27_1 : Int32) (t28_0 : (Nat → Int32)) (p183 : (Int32 × Int32 × Int32 × Int32 × (Nat → Int32) × (Nat → Int64) × (Nat → Int32) × Int32 × (Nat → Int64) × Int32 × (Nat → Int64) × Int32 × (Nat → Int64) × Int32 × (Nat → Int64) × Int32 × (Nat → Int64) × Int32 × (Nat → Int64) × Int32 × (Nat → Int64) × Int32 × (Nat → Int64) × Int32 × (Nat → Int64))) : Prop := True
def S_NH_addArgument_c120 (x2 : Int32) (x3 : Int32) (t0_0 : Int32) (t0_1 : Int32) (t0_2 : Int32) (t0_3 : Int32) (t1_0 : (Nat → Int32)) (t2_0 : (Nat → Int64)) (t3_0 : (Nat → Int32)) (t4_0 : Int32) (t5_0 : (Nat → Int64)) (t6_0 : Int32) (t7_0 : (Nat → Int64)) (t8_0 : Int32) (t9_0 : (Nat → Int64)) (t10_0 : Int32) (t11_0 : (Nat → Int64)) (t12_0 : Int32) (t13_0 : (Nat → Int64)) (t14_0 : Int32) (t15_0 : (Nat → Int64)) (t16_0 : Int32) (t17_0 : (Nat → Int64)) (t18_0 : Int32) (t19_0 : (Nat → Int64)) (t20_0 : Int32) (t21_0 : (Nat → Int64)) (t22_0 : Int32) (t23_0 : (Nat → Int64)) (t24_0 : Int32) (t24_1 : Int32) (t25_0 : (Nat → Int32)) (t26_0 : Int32) (t26_1 : Int32) (t27_0 : Int32) (t27_1 : Int32) (t28_0 : (Nat → Int32)) (p254 : (Int32 × Int32 × Int32 × Int32 × (Nat → Int32) × (Nat → Int64) × (Nat → Int32))) : Prop := True
def S_NH_addArgument_c100 (x2 : Int32) (x3 : Int32) (t0_0 : Int32) (t0_1 : Int32) (t0_2 : Int32) (t0_3 : Int32) (t1_0 : (Nat → Int32)) (t2_0 : (Nat → Int64)) (t3_0 : (Nat → Int32)) (t4_0 : Int32) (t5_0 : (Nat → Int64)) (t6_0 : Int32) (t7_0 : (Nat → Int64)) (t8_0 : Int32) (t9_0 : (Nat → Int64)) (t10_0 : Int32) (t11_0 : (Nat → Int64)) (t12_0 : Int32) (t13_0 : (Nat → Int64)) (t14_0 : Int32) (t15_0 : (Nat → Int64)) (t16_0 : Int32) (t17_0 : (Nat → Int64)) (t18_0 : Int32) (t19_0 : (Nat → Int64)) (t20_0 : Int32) (t21_0 : (Nat → Int64)) (t22_0 : Int32) (t23_0 : (Nat → Int64)) (t24_0 : Int32) (t24_1 : Int32) (t25_0 : (Nat → Int32)) (t26_0 : Int32) (t26_1 : Int32) (t27_0 : Int32) (t27_1 : Int32) (t28_0 : (Nat → Int32)) (p297 : (Int32 × Int32 × Int32 × Int32 × (Nat → Int32) × (Nat → Int64) × (Nat → Int32))) : Prop := True
def S_NH_addArgument_c100_4 (x2 : Int32) (x3 : Int32) (t0_0 : Int32) (t0_1 : Int32) (t0_2 : Int32) (t0_3 : Int32) (t1_0 : (Nat → Int32)) (t2_0 : (Nat → Int64)) (t3_0 : (Nat → Int32)) (t4_0 : Int32) (t5_0 : (Nat → Int64)) (t6_0 : Int32) (t7_0 : (Nat → Int64)) (t8_0 : Int32) (t9_0 : (Nat → Int64)) (t10_0 : Int32) (t11_0 : (Nat → Int64)) (t12_0 : Int32) (t13_0 : (Nat → Int64)) (t14_0 : Int32) (t15_0 : (Nat → Int64)) (t16_0 : Int32) (t17_0 : (Nat → Int64)) (t18_0 : Int32) (t19_0 : (Nat → Int64)) (t20_0 : Int32) (t21_0 : (Nat → Int64)) (t22_0 : Int32) (t23_0 : (Nat → Int64)) (t24_0 : Int32) (t24_1 : Int32) (t25_0 : (Nat → Int32)) (t26_0 : Int32) (t26_1 : Int32) (t27_0 : Int32) (t27_1 : Int32) (t28_0 : (Nat → Int32)) (p337 : (Int32 × Int32 × Int32 × Int32 × (Nat → Int32) × (Nat → Int64) × (Nat → Int32))) : Prop := True
def S_NH_addArgument_c74 (x2 : Int32) (x3 : Int32) (t0_0 : Int32) (t0_1 : Int32) (t0_2 : Int32) (t0_3 : Int32) (t1_0 : (Nat → Int32)) (t2_0 : (Nat → Int64)) (t3_0 : (Nat → Int32)) (t4_0 : Int32) (t5_0 : (Nat → Int64)) (t6_0 : Int32) (t7_0 : (Nat → Int64)) (t8_0 : Int32) (t9_0 : (Nat → Int64)) (t10_0 : Int32) (t11_0 : (Nat → Int64)) (t12_0 : Int32) (t13_0 : (Nat → Int64)) (t14_0 : Int32) (t15_0 : (Nat → Int64)) (t16_0 : Int32) (t17_0 : (Nat → Int64)) (t18_0 : Int32) (t19_0 : (Nat → Int64)) (t20_0 : Int32) (t21_0 : (Nat → Int64)) (t22_0 : Int32) (t23_0 : (Nat → Int64)) (t24_0 : Int32) (t24_1 : Int32) (t25_0 : (Nat → Int32)) (t26_0 : Int32) (t26_1 : Int32) (t27_0 : Int32) (t27_1 : Int32) (t28_0 : (Nat → Int32)) (p378 : (Int32 × Int32 × Int32 × Int32 × (Nat → Int32) × (Nat → Int64) × (Nat → Int32))) : Prop := True
def S_NH_addArgument_c56 (x2 : Int32) (x3 : Int32) (t0_0 : Int32) (t0_1 : Int32) (t0_2 : Int32) (t0_3 : Int32) (t1_0 : (Nat → Int32)) (t2_0 : (Nat → Int64)) (t3_0 : (Nat → Int32)) (t4_0 : Int32) (t5_0 : (Nat → Int64)) (t6_0 : Int32) (t7_0 : (Nat → Int64)) (t8_0 : Int32) (t9_0 : (Nat → Int64)) (t10_0 : Int32) (t11_0 : (Nat → Int64)) (t12_0 : Int32) (t13_0 : (Nat → Int64)) (t14_0 : Int32) (t15_0 : (Nat → Int64)) (t16_0 : Int32) (t17_0 : (Nat → Int64)) (t18_0 : Int32) (t19_0 : (Nat → Int64)) (t20_0 : Int32) (t21_0 : (Nat → Int64)) (t22_0 : Int32) (t23_0 : (Nat → Int64)) (t24_0 : Int32) (t24_1 : Int32) (t25_0 : (Nat → Int32)) (t26_0 : Int32) (t26_1 : Int32) (t27_0 : Int32) (t27_1 : Int32) (t28_0 : (Nat → Int32)) (p432 : (Int32 × Int32 × Int32 × Int32 × (Nat → Int32) × (Nat → Int64) × (Nat → Int32))) : Prop := True
def S_NH_addArgument_c19 (x2 : Int32) (x3 : Int32) (t0_0 : Int32) (t0_1 : Int32) (t0_2 : Int32) (t0_3 : Int32) (t1_0 : (Nat → Int32)) (t2_0 : (Nat → Int64)) (t3_0 : (Nat → Int32)) (t4_0 : Int32) (t5_0 : (Nat → Int64)) (t6_0 : Int32) (t7_0 : (Nat → Int64)) (t8_0 : Int32) (t9_0 : (Nat → Int64)) (t10_0 : Int32) (t11_0 : (Nat → Int64)) (t12_0 : Int32) (t13_0 : (Nat → Int64)) (t14_0 : Int32) (t15_0 : (Nat → Int64)) (t16_0 : Int32) (t17_0 : (Nat → Int64)) (t18_0 : Int32) (t19_0 : (Nat → Int64)) (t20_0 : Int32) (t21_0 : (Nat → Int64)) (t22_0 : Int32) (t23_0 : (Nat → Int64)) (t24_0 : Int32) (t24_1 : Int32) (t25_0 : (Nat → Int32)) (t26_0 : Int32) (t26_1 : Int32) (t27_0 : Int32) (t27_1 : Int32) (t28_0 : (Nat → Int32)) (p483 : (Int32 × Int32 × Int32 × Int32 × (Nat → Int32) × (Nat → Int64) × (Nat → Int32))) : Prop := True
def S_NH_addArgument (x2 : Int32) (x3 : Int32) (t0_0 : Int32) (t0_1 : Int32) (t0_2 : Int32) (t0_3 : Int32) (t1_0 : (Nat → Int32)) (t2_0 : (Nat → Int64)) (t3_0 : (Nat → Int32)) (t4_0 : Int32) (t5_0 : (Nat → Int64)) (t6_0 : Int32) (t7_0 : (Nat → Int64)) (t8_0 : Int32) (t9_0 : (Nat → Int64)) (t10_0 : Int32) (t11_0 : (Nat → Int64)) (t12_0 : Int32) (t13_0 : (Nat → Int64)) (t14_0 : Int32) (t15_0 : (Nat → Int64)) (t16_0 : Int32) (t17_0 : (Nat → Int64)) (t18_0 : Int32) (t19_0 : (Nat → Int64)) (t20_0 : Int32) (t21_0 : (Nat → Int64)) (t22_0 : Int32) (t23_0 : (Nat → Int64)) (t24_0 : Int32) (t24_1 : Int32) (t25_0 : (Nat → Int32)) (t26_0 : Int32) (t26_1 : Int32) (t27_0 : Int32) (t27_1 : Int32) (t28_0 : (Nat → Int32)) : Prop := if x2 = (0 : Int32) then ((0 ≤ x3.toInt) ∧ ((x3.toInt ≤ 9) ∧ (S_NH_addArgument_c19 x2 x3 t0_0 t0_1 t0_2 t0_3 t1_0 t2_0 t3_0 t4_0 t5_0 t6_0 t7_0 t8_0 t9_0 t10_0 t11_0 t12_0 t13_0 t14_0 t15_0 t16_0 t17_0 t18_0 t19_0 t20_0 t21_0 t22_0 t23_0 t24_0 t24_1 t25_0 t26_0 t26_1 t27_0 t27_1 t28_0 ((F_Pri_addNumber (3 : Int32) ((F_Big_toLong (68 : Int32) t24_0 t24_1 t25_0) : Int64) (0 : Int32) t0_0 t0_1 t0_2 t0_3 t1_0 t2_0 t3_0) : (Int32 × Int32 × Int32 × Int32 × (Nat → Int32) × (Nat → Int64) × (Nat → Int32)))))) else (if x2 = (1 : Int32) then ((0 ≤ x3.toInt) ∧ ((x3.toInt ≤ 9) ∧ (S_NH_addArgument_c56 x2 x3 t0_0 t0_1 t0_2 t0_3 t1_0 t2_0 t3_0 t4_0 t5_0 t6_0 t7_0 t8_0 t9_0 t10_0 t11_0 t12_0 t13_0 t14_0 t15_0 t16_0 t17_0 t18_0 t19_0 t20_0 t21_0 t22_0 t23_0 t24_0 t24_1 t25_0 t26_0 t26_1 t27_0 t27_1 t28_0 ((F_Pri_addNumber (5 : Int32) ((F_Big_toLong (108 : Int32) t27_0 t27_1 t28_0) : Int64) t26_0 t0_0 t0_1 t0_2 t0_3 t1_0 t2_0 t3_0) : (Int32 × Int32 × Int32 × Int32 × (Nat → Int32) × (Nat → Int64) × (Nat → Int32)))))) else (if x2 = (4 : Int32) then (S_NH_addArgument_c74 x2 x3 t0_0 t0_1 t0_2 t0_3 t1_0 t2_0 t3_0 t4_0 t5_0 t6_0 t7_0 t8_0 t9_0 t10_0 t11_0 t12_0 t13_0 t14_0 t15_0 t16_0 t17_0 t18_0 t19_0 t20_0 t21_0 t22_0 t23_0 t24_0 t24_1 t25_0 t26_0 t26_1 t27_0 t27_1 t28_0 ((F_Pri_addNumber (0 : Int32) (0 : Int64) (0 : Int32) t0_0 t0_1 t0_2 t0_3 t1_0 t2_0 t3_0) : (Int32 × Int32 × Int32 × Int32 × (Nat → Int32) × (Nat → Int64) × (Nat → Int32)))) else (if x2 = (5 : Int32) then (if x3 = (0 : Int32) then (S_NH_addArgument_c100_4 x2 x3 t0_0 t0_1 t0_2 t0_3 t1_0 t2_0 t3_0 t4_0 t5_0 t6_0 t7_0 t8_0 t9_0 t10_0 t11_0 t12_0 t13_0 t14_0 t15_0 t16_0 t17_0 t18_0 t19_0 t20_0 t21_0 t22_0 t23_0 t24_0 t24_1 t25_0 t26_0 t26_1 t27_0 t27_1 t28_0 ((F_Pri_addNumber (1 : Int32) (0 : Int64) (0 : Int32) t0_0 t0_1 t0_2 t0_3 t1_0 t2_0 t3_0) : (Int32 × Int32 × Int32 × Int32 × (Nat → Int32) × (Nat → Int64) × (Nat → Int32)))) else (S_NH_addArgument_c100 x2 x3 t0_0 t0_1 t0_2 t0_3 t1_0 t2_0 t3_0 t4_0 t5_0 t6_0 t7_0 t8_0 t9_0 t10_0 t11_0 t12_0 t13_0 t14_0 t15_0 t16_0 t17_0 t18_0 t19_0 t20_0 t21_0 t22_0 t23_0 t24_0 t24_1 t25_0 t26_0 t26_1 t27_0 t27_1 t28_0 ((F_Pri_addNumber (1 : Int32) (1 : Int64) (0 : Int32) t0_0 t0_1 t0_2 t0_3 t1_0 t2_0 t3_0) : (Int32 × Int32 × Int32 × Int32 × (Nat → Int32) × (Nat → Int64) × (Nat → Int32))))) else (if x2 = (6 : Int32) then (S_NH_addArgument_c120 x2 x3 t0_0 t0_1 t0_2 t0_3 t1_0 t2_0 t3_0 t4_0 t5_0 t6_0 t7_0 t8_0 t9_0 t10_0 t11_0 t12_0 t13_0 t14_0 t15_0 t16_0 t17_0 t18_0 t19_0 t20_0 t21_0 t22_0 t23_0 t24_0 t24_1 t25_0 t26_0 t26_1 t27_0 t27_1 t28_0 ((F_Pri_addNumber (2 : Int32) (x3.toInt64 : Int64) (0 : Int32) t0_0 t0_1 t0_2 t0_3 t1_0 t2_0 t3_0) : (Int32 × Int32 × Int32 × Int32 × (Nat → Int32) × (Nat → Int64) × (Nat → Int32)))) else ((t4_0.toInt ≤ 64) ∧ (S_NH_addArgument_c130 x2 x3 t0_0 t0_1 t0_2 t0_3 t1_0 t2_0 t3_0 t4_0 t5_0 t6_0 t7_0 t8_0 t9_0 t10_0 t11_0 t12_0 t13_0 t14_0 t15_0 t16_0 t17_0 t18_0 t19_0 t20_0 t21_0 t22_0 t23_0 t24_0 t24_1 t25_0 t26_0 t26_1 t27_0 t27_1 t28_0 ((F_Pri_addText t0_0 t0_1 t0_2 t0_3 t1_0 t2_0 t3_0 t4_0 t5_0 t6_0 t7_0 t8_0 t9_0 t10_0 t11_0 t12_0 t13_0 t14_0 t15_0 t16_0 t17_0 t18_0 t19_0 t20_0 t21_0 t22_0 t23_0) : (Int32 × Int32 × Int32 × Int32 × (Nat → Int32) × (Nat → Int64) × (Nat → Int32) × Int32 × (Nat → Int64) × Int32 × (Nat → Int64) × Int32 × (Nat → Int64) × Int32 × (Nat → Int64) × Int32 × (Nat → Int64) × Int32 × (Nat → Int64) × Int32 × (Nat → Int64) × Int32 × (Nat → Int64) × Int32 × (Nat → Int64)))))))))
set_option maxRecDepth 100000 in
set_option maxHeartbeats 4000000 in
theorem X_NH_addArgument (l : Launch) (D : va_G) (g : Nat → ClassId) (q : Nat → Nat) (ws : va_W) (x2 : Int32) (x3 : Int32) (k3 : Nat) (hBk3 : q_isBig (nsh g q) g q k3 68) (yk3 : 66 ≤ k3) (gk3x3 : x3.toNatClampNeg < 10 → k3 = 66 + 5 * x3.toNatClampNeg) (d3 : Nat) (hBd3 : q_isDec (nsh g q) g q d3 108) (yd3 : 66 ≤ d3) (gd3x3 : x3.toNatClampNeg < 10 → d3 = 68 + 5 * x3.toNatClampNeg) (ne_k3_d3 : k3 ≠ d3) (ne_k3_d3p1 : k3 ≠ d3 + 1) (ne_k3_d3p2 : k3 ≠ d3 + 2) (ne_d3_k3p1 : d3 ≠ k3 + 1) (hI : q_I (nsh g q) q ws) (t0_0 : Int32) (t0_1 : Int32) (t0_2 : Int32) (t0_3 : Int32) (hT0 : ws[40]? = (some (q 40, .inr (11, [.int t0_0, .ref (q 41), .ref (q 42), .ref (q 43), .ref (q 44), .ref (q 1), .ref (q 47), .ref (q 36), .ref (q 45), .int t0_1, .int t0_2, .int t0_3])) : Option (Nat × va_E))) (t1_0 : (Nat → Int32)) (hT1 : ws[41]? = (some (q 41, .inl (g 0, 9, .inl t1_0)) : Option (Nat × va_E))) (t2_0 : (Nat → Int64)) (hT2 : ws[42]? = (some (q 42, .inl (g 1, 9, .inr (.inl t2_0))) : Option (Nat × va_E))) (t3_0 : (Nat → Int32)) (hT3 : ws[43]? = (some (q 43, .inl (g 0, 9, .inl t3_0)) : Option (Nat × va_E))) (t4_0 : Int32) (hT4 : ws[1]? = (some (q 1, .inr (1, [.ref (q 2), .int 4100, .int t4_0])) : Option (Nat × va_E))) (t5_0 : (Nat → Int64)) (hT5 : ws[2]? = (some (q 2, .inl (g 1, (513 : Int32).toNatClampNeg, .inr (.inl t5_0))) : Option (Nat × va_E))) (t6_0 : Int32) (hT6 : ws[48]? = (some (q 48, .inr (1, [.ref (q 49), .int 64, .int t6_0])) : Option (Nat × va_E))) (t7_0 : (Nat → Int64)) (hT7 : ws[49]? = (some (q 49, .inl (g 1, (8 : Int32).toNatClampNeg, .inr (.inl t7_0))) : Option (Nat × va_E))) (t8_0 : Int32) (hT8 : ws[50]? = (some (q 50, .inr (1, [.ref (q 51), .int 64, .int t8_0])) : Option (Nat × va_E))) (t9_0 : (Nat → Int64)) (hT9 : ws[51]? = (some (q 51, .inl (g 1, (8 : Int32).toNatClampNeg, .inr (.inl t9_0))) : Option (Nat × va_E))) (t10_0 : Int32) (hT10 : ws[52]? = (some (q 52, .inr (1, [.ref (q 53), .int 64, .int t10_0])) : Option (Nat × va_E))) (t11_0 : (Nat → Int64)) (hT11 : ws[53]? = (some (q 53, .inl (g 1, (8 : Int32).toNatClampNeg, .inr (.inl t11_0))) : Option (Nat × va_E))) (t12_0 : Int32) (hT12 : ws[54]? = (some (q 54, .inr (1, [.ref (q 55), .int 64, .int t12_0])) : Option (Nat × va_E))) (t13_0 : (Nat → Int64)) (hT13 : ws[55]? = (some (q 55, .inl (g 1, (8 : Int32).toNatClampNeg, .inr (.inl t13_0))) : Option (Nat × va_E))) (t14_0 : Int32) (hT14 : ws[56]? = (some (q 56, .inr (1, [.ref (q 57), .int 64, .int t14_0])) : Option (Nat × va_E))) (t15_0 : (Nat → Int64)) (hT15 : ws[57]? = (some (q 57, .inl (g 1, (8 : Int32).toNatClampNeg, .inr (.inl t15_0))) : Option (Nat × va_E))) (t16_0 : Int32) (hT16 : ws[58]? = (some (q 58, .inr (1, [.ref (q 59), .int 64, .int t16_0])) : Option (Nat × va_E))) (t17_0 : (Nat → Int64)) (hT17 : ws[59]? = (some (q 59, .inl (g 1, (8 : Int32).toNatClampNeg, .inr (.inl t17_0))) : Option (Nat × va_E))) (t18_0 : Int32) (hT18 : ws[60]? = (some (q 60, .inr (1, [.ref (q 61), .int 64, .int t18_0])) : Option (Nat × va_E))) (t19_0 : (Nat → Int64)) (hT19 : ws[61]? = (some (q 61, .inl (g 1, (8 : Int32).toNatClampNeg, .inr (.inl t19_0))) : Option (Nat × va_E))) (t20_0 : Int32) (hT20 : ws[62]? = (some (q 62, .inr (1, [.ref (q 63), .int 64, .int t20_0])) : Option (Nat × va_E))) (t21_0 : (Nat → Int64)) (hT21 : ws[63]? = (some (q 63, .inl (g 1, (8 : Int32).toNatClampNeg, .inr (.inl t21_0))) : Option (Nat × va_E))) (t22_0 : Int32) (hT22 : ws[64]? = (some (q 64, .inr (1, [.ref (q 65), .int 64, .int t22_0])) : Option (Nat × va_E))) (t23_0 : (Nat → Int64)) (hT23 : ws[65]? = (some (q 65, .inl (g 1, (8 : Int32).toNatClampNeg, .inr (.inl t23_0))) : Option (Nat × va_E))) (t24_0 : Int32) (t24_1 : Int32) (hT24 : ws[k3]? = (some (q k3, .inr (2, [.ref (q (k3 + 1)), .int t24_0, .int t24_1])) : Option (Nat × va_E))) (t25_0 : (Nat → Int32)) (hT25 : ws[k3 + 1]? = (some (q (k3 + 1), .inl (g 0, (68 : Int32).toNatClampNeg, .inl t25_0)) : Option (Nat × va_E))) (t26_0 : Int32) (t26_1 : Int32) (hT26 : ws[d3]? = (some (q d3, .inr (3, [.ref (q (d3 + 1)), .int t26_0, .int t26_1])) : Option (Nat × va_E))) (t27_0 : Int32) (t27_1 : Int32) (hT27 : ws[d3 + 1]? = (some (q (d3 + 1), .inr (2, [.ref (q (d3 + 2)), .int t27_0, .int t27_1])) : Option (Nat × va_E))) (t28_0 : (Nat → Int32)) (hT28 : ws[d3 + 2]? = (some (q (d3 + 2), .inl (g 0, (108 : Int32).toNatClampNeg, .inl t28_0)) : Option (Nat × va_E))) (hS : True ∧ S_NH_addArgument x2 x3 t0_0 t0_1 t0_2 t0_3 t1_0 t2_0 t3_0 t4_0 t5_0 t6_0 t7_0 t8_0 t9_0 t10_0 t11_0 t12_0 t13_0 t14_0 t15_0 t16_0 t17_0 t18_0 t19_0 t20_0 t21_0 t22_0 t23_0 t24_0 t24_1 t25_0 t26_0 t26_1 t27_0 t27_1 t28_0) : q_mV l y_NH_addArgument prog_1_method_22_code 3 4 0 0 D g [.ref (q 0), .int x2, .int x3] ws (fun u => q_I (nsh g q) q u ∧ q_un ws u [1, 40, 41, 42, 43, 48, 49, 50, 51, 52, 53, 54, 55, 56, 57, 58, 59, 60, 61, 62, 63, 64, 65] ∧ ∃ (u0_0 : Int32) (u0_1 : Int32) (u0_2 : Int32) (u0_3 : Int32) (u1_0 : (Nat → Int32)) (u2_0 : (Nat → Int64)) (u3_0 : (Nat → Int32)) (u4_0 : Int32) (u6_0 : Int32) (u7_0 : (Nat → Int64)) (u8_0 : Int32) (u9_0 : (Nat → Int64)) (u10_0 : Int32) (u11_0 : (Nat → Int64)) (u12_0 : Int32) (u13_0 : (Nat → Int64)) (u14_0 : Int32) (u15_0 : (Nat → Int64)) (u16_0 : Int32) (u17_0 : (Nat → Int64)) (u18_0 : Int32) (u19_0 : (Nat → Int64)) (u20_0 : Int32) (u21_0 : (Nat → Int64)) (u22_0 : Int32) (u23_0 : (Nat → Int64)), u[40]? = (some (q 40, .inr (11, [.int u0_0, .ref (q 41), .ref (q 42), .ref (q 43), .ref (q 44), .ref (q 1), .ref (q 47), .ref (q 36), .ref (q 45), .int u0_1, .int u0_2, .int u0_3])) : Option (Nat × va_E)) ∧ u[41]? = (some (q 41, .inl (g 0, 9, .inl u1_0)) : Option (Nat × va_E)) ∧ u[42]? = (some (q 42, .inl (g 1, 9, .inr (.inl u2_0))) : Option (Nat × va_E)) ∧ u[43]? = (some (q 43, .inl (g 0, 9, .inl u3_0)) : Option (Nat × va_E)) ∧ u[1]? = (some (q 1, .inr (1, [.ref (q 2), .int 4100, .int u4_0])) : Option (Nat × va_E)) ∧ u[48]? = (some (q 48, .inr (1, [.ref (q 49), .int 64, .int u6_0])) : Option (Nat × va_E)) ∧ u[49]? = (some (q 49, .inl (g 1, (8 : Int32).toNatClampNeg, .inr (.inl u7_0))) : Option (Nat × va_E)) ∧ u[50]? = (some (q 50, .inr (1, [.ref (q 51), .int 64, .int u8_0])) : Option (Nat × va_E)) ∧ u[51]? = (some (q 51, .inl (g 1, (8 : Int32).toNatClampNeg, .inr (.inl u9_0))) : Option (Nat × va_E)) ∧ u[52]? = (some (q 52, .inr (1, [.ref (q 53), .int 64, .int u10_0])) : Option (Nat × va_E)) ∧ u[53]? = (some (q 53, .inl (g 1, (8 : Int32).toNatClampNeg, .inr (.inl u11_0))) : Option (Nat × va_E)) ∧ u[54]? = (some (q 54, .inr (1, [.ref (q 55), .int 64, .int u12_0])) : Option (Nat × va_E)) ∧ u[55]? = (some (q 55, .inl (g 1, (8 : Int32).toNatClampNeg, .inr (.inl u13_0))) : Option (Nat × va_E)) ∧ u[56]? = (some (q 56, .inr (1, [.ref (q 57), .int 64, .int u14_0])) : Option (Nat × va_E)) ∧ u[57]? = (some (q 57, .inl (g 1, (8 : Int32).toNatClampNeg, .inr (.inl u15_0))) : Option (Nat × va_E)) ∧ u[58]? = (some (q 58, .inr (1, [.ref (q 59), .int 64, .int u16_0])) : Option (Nat × va_E)) ∧ u[59]? = (some (q 59, .inl (g 1, (8 : Int32).toNatClampNeg, .inr (.inl u17_0))) : Option (Nat × va_E)) ∧ u[60]? = (some (q 60, .inr (1, [.ref (q 61), .int 64, .int u18_0])) : Option (Nat × va_E)) ∧ u[61]? = (some (q 61, .inl (g 1, (8 : Int32).toNatClampNeg, .inr (.inl u19_0))) : Option (Nat × va_E)) ∧ u[62]? = (some (q 62, .inr (1, [.ref (q 63), .int 64, .int u20_0])) : Option (Nat × va_E)) ∧ u[63]? = (some (q 63, .inl (g 1, (8 : Int32).toNatClampNeg, .inr (.inl u21_0))) : Option (Nat × va_E)) ∧ u[64]? = (some (q 64, .inr (1, [.ref (q 65), .int 64, .int u22_0])) : Option (Nat × va_E)) ∧ u[65]? = (some (q 65, .inl (g 1, (8 : Int32).toNatClampNeg, .inr (.inl u23_0))) : Option (Nat × va_E)) ∧ (1 ≤ u0_0.toInt) ∧ (u0_0.toInt ≤ 9) ∧ (0 ≤ u0_1.toInt + 1) ∧ (u0_1.toInt ≤ 1000000) ∧ (0 ≤ u0_3.toInt + 1) ∧ (u0_3.toInt ≤ 8) ∧ (0 ≤ u4_0.toInt) ∧ (u4_0.toInt ≤ 4100) ∧ (0 ≤ u6_0.toInt) ∧ (u6_0.toInt ≤ 64) ∧ (0 ≤ u8_0.toInt) ∧ (u8_0.toInt ≤ 64) ∧ (0 ≤ u10_0.toInt) ∧ (u10_0.toInt ≤ 64) ∧ (0 ≤ u12_0.toInt) ∧ (u12_0.toInt ≤ 64) ∧ (0 ≤ u14_0.toInt) ∧ (u14_0.toInt ≤ 64) ∧ (0 ≤ u16_0.toInt) ∧ (u16_0.toInt ≤ 64) ∧ (0 ≤ u18_0.toInt) ∧ (u18_0.toInt ≤ 64) ∧ (0 ≤ u20_0.toInt) ∧ (u20_0.toInt ≤ 64) ∧ (0 ≤ u22_0.toInt) ∧ (u22_0.toInt ≤ 64) ∧ (t0_0.toInt ≤ u0_0.toInt) ∧ (u0_0.toInt ≤ t0_0.toInt + 1) ∧ (t0_1.toInt ≤ u0_1.toInt) ∧ (u0_1.toInt ≤ t0_1.toInt) ∧ (t0_2.toInt ≤ u0_2.toInt) ∧ (u0_2.toInt ≤ t0_2.toInt) ∧ (t0_3.toInt ≤ u0_3.toInt) ∧ (u0_3.toInt ≤ t0_3.toInt) ∧ (t4_0.toInt ≤ u4_0.toInt + 64) ∧ (u4_0.toInt ≤ t4_0.toInt) ∧ (u0_0, u0_1, u0_2, u0_3, u1_0, u2_0, u3_0, u4_0, u6_0, u7_0, u8_0, u9_0, u10_0, u11_0, u12_0, u13_0, u14_0, u15_0, u16_0, u17_0, u18_0, u19_0, u20_0, u21_0, u22_0, u23_0) = (F_NH_addArgument x2 x3 t0_0 t0_1 t0_2 t0_3 t1_0 t2_0 t3_0 t4_0 t5_0 t6_0 t7_0 t8_0 t9_0 t10_0 t11_0 t12_0 t13_0 t14_0 t15_0 t16_0 t17_0 t18_0 t19_0 t20_0 t21_0 t22_0 t23_0 t24_0 t24_1 t25_0 t26_0 t26_1 t27_0 t27_1 t28_0)) := by
  intro sz
  refine q_into (by decide) (Nat.le_of_ble_eq_true rfl) ?_
  intro p e s m below meth c ls hsz C0 V hl
  have hx := C0.1
  have hb := C0.2.1
  have hZ9 := (n_w40 hI hT0).2
  obtain ⟨btt0_1, btt0_3⟩ := hZ9
  replace btt0_1 : q_F (-1 ≤ t0_1.toInt ∧ t0_1.toInt ≤ 1000000) := btt0_1
  replace btt0_3 : q_F (-1 ≤ t0_3.toInt ∧ t0_3.toInt ≤ 8) := btt0_3
  have btt4_0 := n_shW hI (n_h1 g q) hT4
  replace btt4_0 : q_F (0 ≤ t4_0.toInt ∧ t4_0.toInt ≤ 4100) := btt4_0
  have btt6_0 := n_shW hI (n_h48 g q) hT6
  replace btt6_0 : q_F (0 ≤ t6_0.toInt ∧ t6_0.toInt ≤ 64) := btt6_0
  have btt8_0 := n_shW hI (n_h50 g q) hT8
  replace btt8_0 : q_F (0 ≤ t8_0.toInt ∧ t8_0.toInt ≤ 64) := btt8_0
  have btt10_0 := n_shW hI (n_h52 g q) hT10
  replace btt10_0 : q_F (0 ≤ t10_0.toInt ∧ t10_0.toInt ≤ 64) := btt10_0
  have btt12_0 := n_shW hI (n_h54 g q) hT12
  replace btt12_0 : q_F (0 ≤ t12_0.toInt ∧ t12_0.toInt ≤ 64) := btt12_0
  have btt14_0 := n_shW hI (n_h56 g q) hT14
  replace btt14_0 : q_F (0 ≤ t14_0.toInt ∧ t14_0.toInt ≤ 64) := btt14_0
  have btt16_0 := n_shW hI (n_h58 g q) hT16
  replace btt16_0 : q_F (0 ≤ t16_0.toInt ∧ t16_0.toInt ≤ 64) := btt16_0
  have btt18_0 := n_shW hI (n_h60 g q) hT18
  replace btt18_0 : q_F (0 ≤ t18_0.toInt ∧ t18_0.toInt ≤ 64) := btt18_0
  have btt20_0 := n_shW hI (n_h62 g q) hT20
  replace btt20_0 : q_F (0 ≤ t20_0.toInt ∧ t20_0.toInt ≤ 64) := btt20_0
  have btt22_0 := n_shW hI (n_h64 g q) hT22
  replace btt22_0 : q_F (0 ≤ t22_0.toInt ∧ t22_0.toInt ≤ 64) := btt22_0
  have btt24_1 := (q_bigW hI hBk3 hT24).2
  clear btt24_1
  have btt26_0 := (n_deW hI hBd3 hT26).1
  replace btt26_0 : q_F (-10000 ≤ t26_0.toInt ∧ t26_0.toInt ≤ 10000) := btt26_0
  have btt27_1 := (q_bigW hI hBd3.2 hT27).2
  clear btt27_1
  have hF : q_un ws ws [1, 40, 41, 42, 43, 48, 49, 50, 51, 52, 53, 54, 55, 56, 57, 58, 59, 60, 61, 62, 63, 64, 65] := q_u0
  have hl : lv_has ls 3 [(0, .ref (q 0)), (1, .int x2), (2, .int x3)] := hl
  refine lv_iload_n hx hb d_1_22_0 rfl (lv_at hl 1 rfl) ?_
  refine lv_if_ne (tgt := 25) hx hb d_1_22_1 (by decide) (fun c88 => ?_) (fun c88 => ?_)
  ·
    refine lv_iload_n hx hb d_1_22_25 rfl (lv_at hl 1 rfl) ?_
    refine lv_iconst (v := 1) hx hb d_1_22_26 (by decide) ?_
    refine lv_icmp_ne (tgt := 62) hx hb d_1_22_27 (by decide) (fun c90 => ?_) (fun c90 => ?_)
    ·
      refine lv_iload_n hx hb d_1_22_62 rfl (lv_at hl 1 rfl) ?_
      refine lv_iconst (v := 4) hx hb d_1_22_63 (by decide) ?_
      refine lv_icmp_ne (tgt := 80) hx hb d_1_22_64 (by decide) (fun c92 => ?_) (fun c92 => ?_)
      ·
        refine lv_iload_n hx hb d_1_22_80 rfl (lv_at hl 1 rfl) ?_
        refine lv_iconst (v := 5) hx hb d_1_22_81 (by decide) ?_
        refine lv_icmp_ne (tgt := 106) hx hb d_1_22_82 (by decide) (fun c94 => ?_) (fun c94 => ?_)
        ·
          refine lv_iload_n hx hb d_1_22_106 rfl (lv_at hl 1 rfl) ?_
          refine lv_bipush (v := 6) hx hb d_1_22_107 (by decide) ?_
          refine lv_icmp_ne (tgt := 126) hx hb d_1_22_109 (by decide) (fun c96 => ?_) (fun c96 => ?_)
          ·
            refine lv_aload_n hx hb d_1_22_126 rfl (lv_at hl 0 rfl) ?_
            have hO98 := n_o0 hI
            refine q_get (ci := 0) (j := 13) (v := .ref (q 40)) C0 V i_NH rfl rfl hO98 (by decide) w_437 rfl d_1_22_127 ?_
            have ob99 : q_F (t4_0.toInt ≤ 64) := (by have h := hS; rw [S_NH_addArgument.eq_1] at h; rw [if_neg c88] at h; rw [if_neg c90] at h; rw [if_neg c92] at h; rw [if_neg c94] at h; rw [if_neg c96] at h; exact h.2.1)
            refine q_gov V (q_runV (As := []) (rest := []) (d := 3) (mc := 0) (ms := 0) (ci := 11) C0 V rfl LV_NH_380 (X_Pri_addText l D g q ws   hI t0_0 t0_1 t0_2 t0_3 hT0 t1_0 hT1 t2_0 hT2 t3_0 hT3 t4_0 hT4 t5_0 hT5 t6_0 hT6 t7_0 hT7 t8_0 hT8 t9_0 hT9 t10_0 hT10 t11_0 hT11 t12_0 hT12 t13_0 hT13 t14_0 hT14 t15_0 hT15 t16_0 hT16 t17_0 hT17 t18_0 hT18 t19_0 hT19 t20_0 hT20 t21_0 hT21 t22_0 hT22 t23_0 hT23 (by first | with_reducible exact q_fe ob99 | (have t1 : t4_0.toInt ≤ 64 := ob99; omega)) _) rfl rfl hT0 rfl hl.1 rfl (Nat.le_of_ble_eq_true rfl) ⟨by decide, by decide⟩ ⟨Nat.le_of_ble_eq_true rfl, Nat.le_of_ble_eq_true rfl⟩ d_1_22_130) (fun u100 H locs hp101 V => ?_)
            obtain ⟨hI, hZ9⟩ := hp101
            obtain ⟨hu182, hZ9⟩ := hZ9
            obtain ⟨y103, hZ9⟩ := hZ9
            obtain ⟨y104, hZ9⟩ := hZ9
            obtain ⟨y105, hZ9⟩ := hZ9
            obtain ⟨y106, hZ9⟩ := hZ9
            obtain ⟨f107, hZ9⟩ := hZ9
            obtain ⟨f109, hZ9⟩ := hZ9
            obtain ⟨f111, hZ9⟩ := hZ9
            obtain ⟨y114, hZ9⟩ := hZ9
            obtain ⟨f115, hZ9⟩ := hZ9
            obtain ⟨y118, hZ9⟩ := hZ9
            obtain ⟨f119, hZ9⟩ := hZ9
            obtain ⟨y122, hZ9⟩ := hZ9
            obtain ⟨f123, hZ9⟩ := hZ9
            obtain ⟨y126, hZ9⟩ := hZ9
            obtain ⟨f127, hZ9⟩ := hZ9
            obtain ⟨y130, hZ9⟩ := hZ9
            obtain ⟨f131, hZ9⟩ := hZ9
            obtain ⟨y134, hZ9⟩ := hZ9
            obtain ⟨f135, hZ9⟩ := hZ9
            obtain ⟨y138, hZ9⟩ := hZ9
            obtain ⟨f139, hZ9⟩ := hZ9
            obtain ⟨y142, hZ9⟩ := hZ9
            obtain ⟨f143, hZ9⟩ := hZ9
            obtain ⟨y146, hZ9⟩ := hZ9
            obtain ⟨f147, hZ9⟩ := hZ9
            obtain ⟨hO102, hZ9⟩ := hZ9
            obtain ⟨hA108, hZ9⟩ := hZ9
            obtain ⟨hA110, hZ9⟩ := hZ9
            obtain ⟨hA112, hZ9⟩ := hZ9
            obtain ⟨hO113, hZ9⟩ := hZ9
            obtain ⟨hA116, hZ9⟩ := hZ9
            obtain ⟨hO117, hZ9⟩ := hZ9
            obtain ⟨hA120, hZ9⟩ := hZ9
            obtain ⟨hO121, hZ9⟩ := hZ9
            obtain ⟨hA124, hZ9⟩ := hZ9
            obtain ⟨hO125, hZ9⟩ := hZ9
            obtain ⟨hA128, hZ9⟩ := hZ9
            obtain ⟨hO129, hZ9⟩ := hZ9
            obtain ⟨hA132, hZ9⟩ := hZ9
            obtain ⟨hO133, hZ9⟩ := hZ9
            obtain ⟨hA136, hZ9⟩ := hZ9
            obtain ⟨hO137, hZ9⟩ := hZ9
            obtain ⟨hA140, hZ9⟩ := hZ9
            obtain ⟨hO141, hZ9⟩ := hZ9
            obtain ⟨hA144, hZ9⟩ := hZ9
            obtain ⟨hO145, hZ9⟩ := hZ9
            obtain ⟨hA148, hZ9⟩ := hZ9
            obtain ⟨b149, hZ9⟩ := hZ9
            obtain ⟨b150, hZ9⟩ := hZ9
            obtain ⟨b151, hZ9⟩ := hZ9
            obtain ⟨b152, hZ9⟩ := hZ9
            obtain ⟨b153, hZ9⟩ := hZ9
            obtain ⟨b154, hZ9⟩ := hZ9
            obtain ⟨b155, hZ9⟩ := hZ9
            obtain ⟨b156, hZ9⟩ := hZ9
            obtain ⟨b157, hZ9⟩ := hZ9
            obtain ⟨b158, hZ9⟩ := hZ9
            obtain ⟨b159, hZ9⟩ := hZ9
            obtain ⟨b160, hZ9⟩ := hZ9
            obtain ⟨b161, hZ9⟩ := hZ9
            obtain ⟨b162, hZ9⟩ := hZ9
            obtain ⟨b163, hZ9⟩ := hZ9
            obtain ⟨b164, hZ9⟩ := hZ9
            obtain ⟨b165, hZ9⟩ := hZ9
            obtain ⟨b166, hZ9⟩ := hZ9
            obtain ⟨b167, hZ9⟩ := hZ9
            obtain ⟨b168, hZ9⟩ := hZ9
            obtain ⟨b169, hZ9⟩ := hZ9
            obtain ⟨b170, hZ9⟩ := hZ9
            obtain ⟨b171, hZ9⟩ := hZ9
            obtain ⟨b172, hZ9⟩ := hZ9
            obtain ⟨b173, hZ9⟩ := hZ9
            obtain ⟨b174, hZ9⟩ := hZ9
            obtain ⟨b175, hZ9⟩ := hZ9
            obtain ⟨b176, hZ9⟩ := hZ9
            obtain ⟨b177, hZ9⟩ := hZ9
            obtain ⟨b178, hZ9⟩ := hZ9
            obtain ⟨b179, hZ9⟩ := hZ9
            obtain ⟨b180, hE181⟩ := hZ9
            replace hO102 : u100[40]? = (some (q 40, .inr (11, [.int y103, .ref (q 41), .ref (q 42), .ref (q 43), .ref (q 44), .ref (q 1), .ref (q 47), .ref (q 36), .ref (q 45), .int y104, .int y105, .int y106])) : Option (Nat × va_E)) := hO102
            replace hA108 : u100[41]? = (some (q 41, .inl (g 0, 9, .inl f107)) : Option (Nat × va_E)) := hA108
            replace hA110 : u100[42]? = (some (q 42, .inl (g 1, 9, .inr (.inl f109))) : Option (Nat × va_E)) := hA110
            replace hA112 : u100[43]? = (some (q 43, .inl (g 0, 9, .inl f111)) : Option (Nat × va_E)) := hA112
            replace hO113 : u100[48]? = (some (q 48, .inr (1, [.ref (q 49), .int 64, .int y114])) : Option (Nat × va_E)) := hO113
            replace hA116 : u100[49]? = (some (q 49, .inl (g 1, (8 : Int32).toNatClampNeg, .inr (.inl f115))) : Option (Nat × va_E)) := hA116
            replace hO117 : u100[50]? = (some (q 50, .inr (1, [.ref (q 51), .int 64, .int y118])) : Option (Nat × va_E)) := hO117
            replace hA120 : u100[51]? = (some (q 51, .inl (g 1, (8 : Int32).toNatClampNeg, .inr (.inl f119))) : Option (Nat × va_E)) := hA120
            replace hO121 : u100[52]? = (some (q 52, .inr (1, [.ref (q 53), .int 64, .int y122])) : Option (Nat × va_E)) := hO121
            replace hA124 : u100[53]? = (some (q 53, .inl (g 1, (8 : Int32).toNatClampNeg, .inr (.inl f123))) : Option (Nat × va_E)) := hA124
            replace hO125 : u100[54]? = (some (q 54, .inr (1, [.ref (q 55), .int 64, .int y126])) : Option (Nat × va_E)) := hO125
            replace hA128 : u100[55]? = (some (q 55, .inl (g 1, (8 : Int32).toNatClampNeg, .inr (.inl f127))) : Option (Nat × va_E)) := hA128
            replace hO129 : u100[56]? = (some (q 56, .inr (1, [.ref (q 57), .int 64, .int y130])) : Option (Nat × va_E)) := hO129
            replace hA132 : u100[57]? = (some (q 57, .inl (g 1, (8 : Int32).toNatClampNeg, .inr (.inl f131))) : Option (Nat × va_E)) := hA132
            replace hO133 : u100[58]? = (some (q 58, .inr (1, [.ref (q 59), .int 64, .int y134])) : Option (Nat × va_E)) := hO133
            replace hA136 : u100[59]? = (some (q 59, .inl (g 1, (8 : Int32).toNatClampNeg, .inr (.inl f135))) : Option (Nat × va_E)) := hA136
            replace hO137 : u100[60]? = (some (q 60, .inr (1, [.ref (q 61), .int 64, .int y138])) : Option (Nat × va_E)) := hO137
            replace hA140 : u100[61]? = (some (q 61, .inl (g 1, (8 : Int32).toNatClampNeg, .inr (.inl f139))) : Option (Nat × va_E)) := hA140
            replace hO141 : u100[62]? = (some (q 62, .inr (1, [.ref (q 63), .int 64, .int y142])) : Option (Nat × va_E)) := hO141
            replace hA144 : u100[63]? = (some (q 63, .inl (g 1, (8 : Int32).toNatClampNeg, .inr (.inl f143))) : Option (Nat × va_E)) := hA144
            replace hO145 : u100[64]? = (some (q 64, .inr (1, [.ref (q 65), .int 64, .int y146])) : Option (Nat × va_E)) := hO145
            replace hA148 : u100[65]? = (some (q 65, .inl (g 1, (8 : Int32).toNatClampNeg, .inr (.inl f147))) : Option (Nat × va_E)) := hA148
            obtain ⟨p183, e184⟩ : ∃ z, z = (F_Pri_addText t0_0 t0_1 t0_2 t0_3 t1_0 t2_0 t3_0 t4_0 t5_0 t6_0 t7_0 t8_0 t9_0 t10_0 t11_0 t12_0 t13_0 t14_0 t15_0 t16_0 t17_0 t18_0 t19_0 t20_0 t21_0 t22_0 t23_0) := ⟨_, rfl⟩
            have e185 : y103 = p183.1 := congrArg (fun z => z.1) (hE181.trans e184.symm)
            have e186 : y104 = p183.2.1 := congrArg (fun z => z.2.1) (hE181.trans e184.symm)
            have e187 : y105 = p183.2.2.1 := congrArg (fun z => z.2.2.1) (hE181.trans e184.symm)
            have e188 : y106 = p183.2.2.2.1 := congrArg (fun z => z.2.2.2.1) (hE181.trans e184.symm)
            have e189 : f107 = p183.2.2.2.2.1 := congrArg (fun z => z.2.2.2.2.1) (hE181.trans e184.symm)
            have e190 : f109 = p183.2.2.2.2.2.1 := congrArg (fun z => z.2.2.2.2.2.1) (hE181.trans e184.symm)
            have e191 : f111 = p183.2.2.2.2.2.2.1 := congrArg (fun z => z.2.2.2.2.2.2.1) (hE181.trans e184.symm)
            have e192 : y114 = p183.2.2.2.2.2.2.2.1 := congrArg (fun z => z.2.2.2.2.2.2.2.1) (hE181.trans e184.symm)
            have e193 : f115 = p183.2.2.2.2.2.2.2.2.1 := congrArg (fun z => z.2.2.2.2.2.2.2.2.1) (hE181.trans e184.symm)
            have e194 : y118 = p183.2.2.2.2.2.2.2.2.2.1 := congrArg (fun z => z.2.2.2.2.2.2.2.2.2.1) (hE181.trans e184.symm)
            have e195 : f119 = p183.2.2.2.2.2.2.2.2.2.2.1 := congrArg (fun z => z.2.2.2.2.2.2.2.2.2.2.1) (hE181.trans e184.symm)
            have e196 : y122 = p183.2.2.2.2.2.2.2.2.2.2.2.1 := congrArg (fun z => z.2.2.2.2.2.2.2.2.2.2.2.1) (hE181.trans e184.symm)
            have e197 : f123 = p183.2.2.2.2.2.2.2.2.2.2.2.2.1 := congrArg (fun z => z.2.2.2.2.2.2.2.2.2.2.2.2.1) (hE181.trans e184.symm)
            have e198 : y126 = p183.2.2.2.2.2.2.2.2.2.2.2.2.2.1 := congrArg (fun z => z.2.2.2.2.2.2.2.2.2.2.2.2.2.1) (hE181.trans e184.symm)
            have e199 : f127 = p183.2.2.2.2.2.2.2.2.2.2.2.2.2.2.1 := congrArg (fun z => z.2.2.2.2.2.2.2.2.2.2.2.2.2.2.1) (hE181.trans e184.symm)
            have e200 : y130 = p183.2.2.2.2.2.2.2.2.2.2.2.2.2.2.2.1 := congrArg (fun z => z.2.2.2.2.2.2.2.2.2.2.2.2.2.2.2.1) (hE181.trans e184.symm)
            have e201 : f131 = p183.2.2.2.2.2.2.2.2.2.2.2.2.2.2.2.2.1 := congrArg (fun z => z.2.2.2.2.2.2.2.2.2.2.2.2.2.2.2.2.1) (hE181.trans e184.symm)
            have e202 : y134 = p183.2.2.2.2.2.2.2.2.2.2.2.2.2.2.2.2.2.1 := congrArg (fun z => z.2.2.2.2.2.2.2.2.2.2.2.2.2.2.2.2.2.1) (hE181.trans e184.symm)
            have e203 : f135 = p183.2.2.2.2.2.2.2.2.2.2.2.2.2.2.2.2.2.2.1 := congrArg (fun z => z.2.2.2.2.2.2.2.2.2.2.2.2.2.2.2.2.2.2.1) (hE181.trans e184.symm)
            have e204 : y138 = p183.2.2.2.2.2.2.2.2.2.2.2.2.2.2.2.2.2.2.2.1 := congrArg (fun z => z.2.2.2.2.2.2.2.2.2.2.2.2.2.2.2.2.2.2.2.1) (hE181.trans e184.symm)
            have e205 : f139 = p183.2.2.2.2.2.2.2.2.2.2.2.2.2.2.2.2.2.2.2.2.1 := congrArg (fun z => z.2.2.2.2.2.2.2.2.2.2.2.2.2.2.2.2.2.2.2.2.1) (hE181.trans e184.symm)
            have e206 : y142 = p183.2.2.2.2.2.2.2.2.2.2.2.2.2.2.2.2.2.2.2.2.2.1 := congrArg (fun z => z.2.2.2.2.2.2.2.2.2.2.2.2.2.2.2.2.2.2.2.2.2.1) (hE181.trans e184.symm)
            have e207 : f143 = p183.2.2.2.2.2.2.2.2.2.2.2.2.2.2.2.2.2.2.2.2.2.2.1 := congrArg (fun z => z.2.2.2.2.2.2.2.2.2.2.2.2.2.2.2.2.2.2.2.2.2.2.1) (hE181.trans e184.symm)
            have e208 : y146 = p183.2.2.2.2.2.2.2.2.2.2.2.2.2.2.2.2.2.2.2.2.2.2.2.1 := congrArg (fun z => z.2.2.2.2.2.2.2.2.2.2.2.2.2.2.2.2.2.2.2.2.2.2.2.1) (hE181.trans e184.symm)
            have e209 : f147 = p183.2.2.2.2.2.2.2.2.2.2.2.2.2.2.2.2.2.2.2.2.2.2.2.2 := congrArg (fun z => z.2.2.2.2.2.2.2.2.2.2.2.2.2.2.2.2.2.2.2.2.2.2.2.2) (hE181.trans e184.symm)
            replace b149 : q_F (1 ≤ y103.toInt) := b149
            replace b150 : q_F (y103.toInt ≤ 9) := b150
            replace b151 : q_F (0 ≤ y104.toInt + 1) := b151
            replace b152 : q_F (y104.toInt ≤ 1000000) := b152
            replace b153 : q_F (0 ≤ y106.toInt + 1) := b153
            replace b154 : q_F (y106.toInt ≤ 8) := b154
            replace b155 : q_F (0 ≤ y114.toInt) := b155
            replace b156 : q_F (y114.toInt ≤ 64) := b156
            replace b157 : q_F (0 ≤ y118.toInt) := b157
            replace b158 : q_F (y118.toInt ≤ 64) := b158
            replace b159 : q_F (0 ≤ y122.toInt) := b159
            replace b160 : q_F (y122.toInt ≤ 64) := b160
            replace b161 : q_F (0 ≤ y126.toInt) := b161
            replace b162 : q_F (y126.toInt ≤ 64) := b162
            replace b163 : q_F (0 ≤ y130.toInt) := b163
            replace b164 : q_F (y130.toInt ≤ 64) := b164
            replace b165 : q_F (0 ≤ y134.toInt) := b165
            replace b166 : q_F (y134.toInt ≤ 64) := b166
            replace b167 : q_F (0 ≤ y138.toInt) := b167
            replace b168 : q_F (y138.toInt ≤ 64) := b168
            replace b169 : q_F (0 ≤ y142.toInt) := b169
            replace b170 : q_F (y142.toInt ≤ 64) := b170
            replace b171 : q_F (0 ≤ y146.toInt) := b171
            replace b172 : q_F (y146.toInt ≤ 64) := b172
            replace b173 : q_F (t0_0.toInt ≤ y103.toInt) := b173
            replace b174 : q_F (y103.toInt ≤ t0_0.toInt + 1) := b174
            replace b175 : q_F (t0_1.toInt ≤ y104.toInt) := b175
            replace b176 : q_F (y104.toInt ≤ t0_1.toInt) := b176
            replace b177 : q_F (t0_2.toInt ≤ y105.toInt) := b177
            replace b178 : q_F (y105.toInt ≤ t0_2.toInt) := b178
            replace b179 : q_F (t0_3.toInt ≤ y106.toInt) := b179
            replace b180 : q_F (y106.toInt ≤ t0_3.toInt) := b180
            replace hT4 := (hu182 _ (by decide)).trans hT4
            replace hO98 := (hu182 _ (by decide)).trans hO98
            replace hF := q_uc hF hu182 (by simp)
            have hR210 := (show F_NH_addArgument_c130 x2 x3 t0_0 t0_1 t0_2 t0_3 t1_0 t2_0 t3_0 t4_0 t5_0 t6_0 t7_0 t8_0 t9_0 t10_0 t11_0 t12_0 t13_0 t14_0 t15_0 t16_0 t17_0 t18_0 t19_0 t20_0 t21_0 t22_0 t23_0 t24_0 t24_1 t25_0 t26_0 t26_1 t27_0 t27_1 t28_0 p183 = (F_NH_addArgument x2 x3 t0_0 t0_1 t0_2 t0_3 t1_0 t2_0 t3_0 t4_0 t5_0 t6_0 t7_0 t8_0 t9_0 t10_0 t11_0 t12_0 t13_0 t14_0 t15_0 t16_0 t17_0 t18_0 t19_0 t20_0 t21_0 t22_0 t23_0 t24_0 t24_1 t25_0 t26_0 t26_1 t27_0 t27_1 t28_0) from (by rw [e184, F_NH_addArgument.eq_1, if_neg c88, if_neg c90, if_neg c92, if_neg c94, if_neg c96]))
            have hS211 := (show True ∧ S_NH_addArgument_c130 x2 x3 t0_0 t0_1 t0_2 t0_3 t1_0 t2_0 t3_0 t4_0 t5_0 t6_0 t7_0 t8_0 t9_0 t10_0 t11_0 t12_0 t13_0 t14_0 t15_0 t16_0 t17_0 t18_0 t19_0 t20_0 t21_0 t22_0 t23_0 t24_0 t24_1 t25_0 t26_0 t26_1 t27_0 t27_1 t28_0 p183 from (by rw [e184]; have h := hS; rw [S_NH_addArgument.eq_1] at h; rw [if_neg c88] at h; rw [if_neg c90] at h; rw [if_neg c92] at h; rw [if_neg c94] at h; rw [if_neg c96] at h; replace h := q_s2 h; with_reducible exact h))
            refine lv_aload_n hx hb d_1_22_133 rfl (lv_at hl 0 rfl) ?_
            refine q_get (ci := 0) (j := 0) (v := .ref (q 1)) C0 V i_NH rfl rfl hO98 (by decide) w_424 rfl d_1_22_134 ?_
            refine q_gov V (q_runV (As := []) (rest := []) (d := 1) (mc := 0) (ms := 0) (ci := 1) C0 V rfl LV_NH_115 (X_She_clear l D g q u100 1 4100 513 4100 (n_h1 g q)  hI t4_0 hT4  _) rfl rfl hT4 rfl hl.1 rfl (Nat.le_of_ble_eq_true rfl) ⟨by decide, by decide⟩ ⟨Nat.le_of_ble_eq_true rfl, Nat.le_of_ble_eq_true rfl⟩ d_1_22_137) (fun u215 H locs hp216 V => ?_)
            obtain ⟨hI, hZ9⟩ := hp216
            obtain ⟨hu222, hZ9⟩ := hZ9
            obtain ⟨y218, hZ9⟩ := hZ9
            obtain ⟨hO217, hZ9⟩ := hZ9
            obtain ⟨b219, hZ9⟩ := hZ9
            obtain ⟨b220, hE221⟩ := hZ9
            replace hO217 : u215[1]? = (some (q 1, .inr (1, [.ref (q 2), .int 4100, .int y218])) : Option (Nat × va_E)) := hO217
            have e223 : y218 = (F_She_clear (4100 : Int32) (513 : Int32) (4100 : Int32) t4_0) := hE221
            replace b219 : q_F (0 ≤ y218.toInt) := b219
            replace b220 : q_F (y218.toInt ≤ 0) := b220
            replace hO102 := (hu222 _ (by decide)).trans hO102
            replace hA108 := (hu222 _ (by decide)).trans hA108
            replace hA110 := (hu222 _ (by decide)).trans hA110
            replace hA112 := (hu222 _ (by decide)).trans hA112
            replace hO113 := (hu222 _ (by decide)).trans hO113
            replace hA116 := (hu222 _ (by decide)).trans hA116
            replace hO117 := (hu222 _ (by decide)).trans hO117
            replace hA120 := (hu222 _ (by decide)).trans hA120
            replace hO121 := (hu222 _ (by decide)).trans hO121
            replace hA124 := (hu222 _ (by decide)).trans hA124
            replace hO125 := (hu222 _ (by decide)).trans hO125
            replace hA128 := (hu222 _ (by decide)).trans hA128
            replace hO129 := (hu222 _ (by decide)).trans hO129
            replace hA132 := (hu222 _ (by decide)).trans hA132
            replace hO133 := (hu222 _ (by decide)).trans hO133
            replace hA136 := (hu222 _ (by decide)).trans hA136
            replace hO137 := (hu222 _ (by decide)).trans hO137
            replace hA140 := (hu222 _ (by decide)).trans hA140
            replace hO141 := (hu222 _ (by decide)).trans hO141
            replace hA144 := (hu222 _ (by decide)).trans hA144
            replace hO145 := (hu222 _ (by decide)).trans hO145
            replace hA148 := (hu222 _ (by decide)).trans hA148
            replace hF := q_uc hF hu222 (by simp)
            exact q_retv C0 V (⟨hI, hF, y103, y104, y105, y106, f107, f109, f111, y218, y114, f115, y118, f119, y122, f123, y126, f127, y130, f131, y134, f135, y138, f139, y142, f143, y146, f147, hO102, hA108, hA110, hA112, hO217, hO113, hA116, hO117, hA120, hO121, hA124, hO125, hA128, hO129, hA132, hO133, hA136, hO137, hA140, hO141, hA144, hO145, hA148, (show 1 ≤ y103.toInt from (by first | with_reducible exact q_fe b149 | (have t1 : 1 ≤ y103.toInt := b149; omega))), (show y103.toInt ≤ 9 from (by first | with_reducible exact q_fe b150 | (have t1 : y103.toInt ≤ 9 := b150; omega))), (show 0 ≤ y104.toInt + 1 from (by first | with_reducible exact q_fe b151 | (have t1 : 0 ≤ y104.toInt + 1 := b151; omega))), (show y104.toInt ≤ 1000000 from (by first | with_reducible exact q_fe b152 | (have t1 : y104.toInt ≤ 1000000 := b152; omega))), (show 0 ≤ y106.toInt + 1 from (by first | with_reducible exact q_fe b153 | (have t1 : 0 ≤ y106.toInt + 1 := b153; omega))), (show y106.toInt ≤ 8 from (by first | with_reducible exact q_fe b154 | (have t1 : y106.toInt ≤ 8 := b154; omega))), (show 0 ≤ y218.toInt from (by first | with_reducible exact q_fe b219 | (have t1 : 0 ≤ y218.toInt := b219; omega))), (show y218.toInt ≤ 4100 from (by first | with_reducible exact q_fe b220 | (have t1 : y218.toInt ≤ 0 := b220; omega))), (show 0 ≤ y114.toInt from (by first | with_reducible exact q_fe b155 | (have t1 : 0 ≤ y114.toInt := b155; omega))), (show y114.toInt ≤ 64 from (by first | with_reducible exact q_fe b156 | (have t1 : y114.toInt ≤ 64 := b156; omega))), (show 0 ≤ y118.toInt from (by first | with_reducible exact q_fe b157 | (have t1 : 0 ≤ y118.toInt := b157; omega))), (show y118.toInt ≤ 64 from (by first | with_reducible exact q_fe b158 | (have t1 : y118.toInt ≤ 64 := b158; omega))), (show 0 ≤ y122.toInt from (by first | with_reducible exact q_fe b159 | (have t1 : 0 ≤ y122.toInt := b159; omega))), (show y122.toInt ≤ 64 from (by first | with_reducible exact q_fe b160 | (have t1 : y122.toInt ≤ 64 := b160; omega))), (show 0 ≤ y126.toInt from (by first | with_reducible exact q_fe b161 | (have t1 : 0 ≤ y126.toInt := b161; omega))), (show y126.toInt ≤ 64 from (by first | with_reducible exact q_fe b162 | (have t1 : y126.toInt ≤ 64 := b162; omega))), (show 0 ≤ y130.toInt from (by first | with_reducible exact q_fe b163 | (have t1 : 0 ≤ y130.toInt := b163; omega))), (show y130.toInt ≤ 64 from (by first | with_reducible exact q_fe b164 | (have t1 : y130.toInt ≤ 64 := b164; omega))), (show 0 ≤ y134.toInt from (by first | with_reducible exact q_fe b165 | (have t1 : 0 ≤ y134.toInt := b165; omega))), (show y134.toInt ≤ 64 from (by first | with_reducible exact q_fe b166 | (have t1 : y134.toInt ≤ 64 := b166; omega))), (show 0 ≤ y138.toInt from (by first | with_reducible exact q_fe b167 | (have t1 : 0 ≤ y138.toInt := b167; omega))), (show y138.toInt ≤ 64 from (by first | with_reducible exact q_fe b168 | (have t1 : y138.toInt ≤ 64 := b168; omega))), (show 0 ≤ y142.toInt from (by first | with_reducible exact q_fe b169 | (have t1 : 0 ≤ y142.toInt := b169; omega))), (show y142.toInt ≤ 64 from (by first | with_reducible exact q_fe b170 | (have t1 : y142.toInt ≤ 64 := b170; omega))), (show 0 ≤ y146.toInt from (by first | with_reducible exact q_fe b171 | (have t1 : 0 ≤ y146.toInt := b171; omega))), (show y146.toInt ≤ 64 from (by first | with_reducible exact q_fe b172 | (have t1 : y146.toInt ≤ 64 := b172; omega))), (show t0_0.toInt ≤ y103.toInt from (by first | with_reducible exact q_fe b173 | (have t1 : t0_0.toInt ≤ y103.toInt := b173; omega))), (show y103.toInt ≤ t0_0.toInt + 1 from (by first | with_reducible exact q_fe b174 | (have t1 : y103.toInt ≤ t0_0.toInt + 1 := b174; omega))), (show t0_1.toInt ≤ y104.toInt from (by first | with_reducible exact q_fe b175 | (have t1 : t0_1.toInt ≤ y104.toInt := b175; omega))), (show y104.toInt ≤ t0_1.toInt from (by first | with_reducible exact q_fe b176 | (have t1 : y104.toInt ≤ t0_1.toInt := b176; omega))), (show t0_2.toInt ≤ y105.toInt from (by first | with_reducible exact q_fe b177 | (have t1 : t0_2.toInt ≤ y105.toInt := b177; omega))), (show y105.toInt ≤ t0_2.toInt from (by first | with_reducible exact q_fe b178 | (have t1 : y105.toInt ≤ t0_2.toInt := b178; omega))), (show t0_3.toInt ≤ y106.toInt from (by first | with_reducible exact q_fe b179 | (have t1 : t0_3.toInt ≤ y106.toInt := b179; omega))), (show y106.toInt ≤ t0_3.toInt from (by first | with_reducible exact q_fe b180 | (have t1 : y106.toInt ≤ t0_3.toInt := b180; omega))), (show t4_0.toInt ≤ y218.toInt + 64 from (by have t1 : t4_0.toInt ≤ 64 := ob99; have t2 : 0 ≤ y218.toInt := b219; omega)), (show y218.toInt ≤ t4_0.toInt from (by have t1 : 0 ≤ t4_0.toInt ∧ t4_0.toInt ≤ 4100 := btt4_0; have t2 : y218.toInt ≤ 0 := b220; omega)), (show (y103, y104, y105, y106, f107, f109, f111, y218, y114, f115, y118, f119, y122, f123, y126, f127, y130, f131, y134, f135, y138, f139, y142, f143, y146, f147) = (F_NH_addArgument x2 x3 t0_0 t0_1 t0_2 t0_3 t1_0 t2_0 t3_0 t4_0 t5_0 t6_0 t7_0 t8_0 t9_0 t10_0 t11_0 t12_0 t13_0 t14_0 t15_0 t16_0 t17_0 t18_0 t19_0 t20_0 t21_0 t22_0 t23_0 t24_0 t24_1 t25_0 t26_0 t26_1 t27_0 t27_1 t28_0) from Eq.trans (by rw [e223, e209, e208, e207, e206, e205, e204, e203, e202, e201, e200, e199, e198, e197, e196, e195, e194, e193, e192, e191, e190, e189, e188, e187, e186, e185, F_NH_addArgument_c130.eq_1]) hR210)⟩) d_1_22_140
          ·
            refine lv_aload_n hx hb d_1_22_112 rfl (lv_at hl 0 rfl) ?_
            have hO225 := n_o0 hI
            refine q_get (ci := 0) (j := 13) (v := .ref (q 40)) C0 V i_NH rfl rfl hO225 (by decide) w_437 rfl d_1_22_113 ?_
            refine lv_iconst (v := 2) hx hb d_1_22_116 (by decide) ?_
            refine lv_iload_n hx hb d_1_22_117 rfl (lv_at hl 2 rfl) ?_
            refine lv_i2l hx hb d_1_22_118 rfl ?_
            obtain ⟨j226, e227⟩ := q_nm (x3.toInt64 : Int64)
            refine q_tl (v := j226) e227 ?_
            refine lv_iconst (v := 0) hx hb d_1_22_119 (by decide) ?_
            refine q_gov V (q_runV (As := [.int 2, .long j226, .int 0]) (rest := []) (d := 1) (mc := 0) (ms := 0) (ci := 11) C0 V rfl LV_NH_374 (X_Pri_addNumber l D g q ws  2 j226 0 hI t0_0 t0_1 t0_2 t0_3 hT0 t1_0 hT1 t2_0 hT2 t3_0 hT3 (by have y0 : (2 : Int32).toInt = 2 := rfl; have y1 : (0 : Int32).toInt = 0 := rfl; omega) (by have y0 : (2 : Int32).toInt = 2 := rfl; have y1 : (0 : Int32).toInt = 0 := rfl; omega) _) rfl rfl hT0 rfl hl.1 rfl (Nat.le_of_ble_eq_true rfl) ⟨by decide, by decide⟩ ⟨Nat.le_of_ble_eq_true rfl, Nat.le_of_ble_eq_true rfl⟩ d_1_22_120) (fun u229 H locs hp230 V => ?_)
            obtain ⟨hI, hZ9⟩ := hp230
            obtain ⟨hu253, hZ9⟩ := hZ9
            obtain ⟨y232, hZ9⟩ := hZ9
            obtain ⟨y233, hZ9⟩ := hZ9
            obtain ⟨y234, hZ9⟩ := hZ9
            obtain ⟨y235, hZ9⟩ := hZ9
            obtain ⟨f236, hZ9⟩ := hZ9
            obtain ⟨f238, hZ9⟩ := hZ9
            obtain ⟨f240, hZ9⟩ := hZ9
            obtain ⟨hO231, hZ9⟩ := hZ9
            obtain ⟨hA237, hZ9⟩ := hZ9
            obtain ⟨hA239, hZ9⟩ := hZ9
            obtain ⟨hA241, hZ9⟩ := hZ9
            obtain ⟨b242, hZ9⟩ := hZ9
            obtain ⟨b243, hZ9⟩ := hZ9
            obtain ⟨b244, hZ9⟩ := hZ9
            obtain ⟨b245, hZ9⟩ := hZ9
            obtain ⟨b246, hZ9⟩ := hZ9
            obtain ⟨b247, hZ9⟩ := hZ9
            obtain ⟨b248, hZ9⟩ := hZ9
            obtain ⟨b249, hZ9⟩ := hZ9
            obtain ⟨b250, hZ9⟩ := hZ9
            obtain ⟨b251, hE252⟩ := hZ9
            replace hO231 : u229[40]? = (some (q 40, .inr (11, [.int y232, .ref (q 41), .ref (q 42), .ref (q 43), .ref (q 44), .ref (q 1), .ref (q 47), .ref (q 36), .ref (q 45), .int y233, .int y234, .int y235])) : Option (Nat × va_E)) := hO231
            replace hA237 : u229[41]? = (some (q 41, .inl (g 0, 9, .inl f236)) : Option (Nat × va_E)) := hA237
            replace hA239 : u229[42]? = (some (q 42, .inl (g 1, 9, .inr (.inl f238))) : Option (Nat × va_E)) := hA239
            replace hA241 : u229[43]? = (some (q 43, .inl (g 0, 9, .inl f240)) : Option (Nat × va_E)) := hA241
            obtain ⟨p254, e255⟩ : ∃ z, z = (F_Pri_addNumber (2 : Int32) j226 (0 : Int32) t0_0 t0_1 t0_2 t0_3 t1_0 t2_0 t3_0) := ⟨_, rfl⟩
            have e256 : y232 = p254.1 := congrArg (fun z => z.1) (hE252.trans e255.symm)
            have e257 : y233 = p254.2.1 := congrArg (fun z => z.2.1) (hE252.trans e255.symm)
            have e258 : y234 = p254.2.2.1 := congrArg (fun z => z.2.2.1) (hE252.trans e255.symm)
            have e259 : y235 = p254.2.2.2.1 := congrArg (fun z => z.2.2.2.1) (hE252.trans e255.symm)
            have e260 : f236 = p254.2.2.2.2.1 := congrArg (fun z => z.2.2.2.2.1) (hE252.trans e255.symm)
            have e261 : f238 = p254.2.2.2.2.2.1 := congrArg (fun z => z.2.2.2.2.2.1) (hE252.trans e255.symm)
            have e262 : f240 = p254.2.2.2.2.2.2 := congrArg (fun z => z.2.2.2.2.2.2) (hE252.trans e255.symm)
            replace b242 : q_F (1 ≤ y232.toInt) := b242
            replace b243 : q_F (y232.toInt ≤ 9) := b243
            replace b244 : q_F (t0_0.toInt ≤ y232.toInt) := b244
            replace b245 : q_F (y232.toInt ≤ t0_0.toInt + 1) := b245
            replace b246 : q_F (t0_1.toInt ≤ y233.toInt) := b246
            replace b247 : q_F (y233.toInt ≤ t0_1.toInt) := b247
            replace b248 : q_F (t0_2.toInt ≤ y234.toInt) := b248
            replace b249 : q_F (y234.toInt ≤ t0_2.toInt) := b249
            replace b250 : q_F (t0_3.toInt ≤ y235.toInt) := b250
            replace b251 : q_F (y235.toInt ≤ t0_3.toInt) := b251
            replace hT4 := (hu253 _ (by decide)).trans hT4
            replace hT6 := (hu253 _ (by decide)).trans hT6
            replace hT7 := (hu253 _ (by decide)).trans hT7
            replace hT8 := (hu253 _ (by decide)).trans hT8
            replace hT9 := (hu253 _ (by decide)).trans hT9
            replace hT10 := (hu253 _ (by decide)).trans hT10
            replace hT11 := (hu253 _ (by decide)).trans hT11
            replace hT12 := (hu253 _ (by decide)).trans hT12
            replace hT13 := (hu253 _ (by decide)).trans hT13
            replace hT14 := (hu253 _ (by decide)).trans hT14
            replace hT15 := (hu253 _ (by decide)).trans hT15
            replace hT16 := (hu253 _ (by decide)).trans hT16
            replace hT17 := (hu253 _ (by decide)).trans hT17
            replace hT18 := (hu253 _ (by decide)).trans hT18
            replace hT19 := (hu253 _ (by decide)).trans hT19
            replace hT20 := (hu253 _ (by decide)).trans hT20
            replace hT21 := (hu253 _ (by decide)).trans hT21
            replace hT22 := (hu253 _ (by decide)).trans hT22
            replace hT23 := (hu253 _ (by decide)).trans hT23
            replace hF := q_uc hF hu253 (by simp)
            have hR263 := (show F_NH_addArgument_c120 x2 x3 t0_0 t0_1 t0_2 t0_3 t1_0 t2_0 t3_0 t4_0 t5_0 t6_0 t7_0 t8_0 t9_0 t10_0 t11_0 t12_0 t13_0 t14_0 t15_0 t16_0 t17_0 t18_0 t19_0 t20_0 t21_0 t22_0 t23_0 t24_0 t24_1 t25_0 t26_0 t26_1 t27_0 t27_1 t28_0 p254 = (F_NH_addArgument x2 x3 t0_0 t0_1 t0_2 t0_3 t1_0 t2_0 t3_0 t4_0 t5_0 t6_0 t7_0 t8_0 t9_0 t10_0 t11_0 t12_0 t13_0 t14_0 t15_0 t16_0 t17_0 t18_0 t19_0 t20_0 t21_0 t22_0 t23_0 t24_0 t24_1 t25_0 t26_0 t26_1 t27_0 t27_1 t28_0) from (by rw [e255, ← e227, F_NH_addArgument.eq_1, if_neg c88, if_neg c90, if_neg c92, if_neg c94, if_pos c96]))
            have hS264 := (show True ∧ S_NH_addArgument_c120 x2 x3 t0_0 t0_1 t0_2 t0_3 t1_0 t2_0 t3_0 t4_0 t5_0 t6_0 t7_0 t8_0 t9_0 t10_0 t11_0 t12_0 t13_0 t14_0 t15_0 t16_0 t17_0 t18_0 t19_0 t20_0 t21_0 t22_0 t23_0 t24_0 t24_1 t25_0 t26_0 t26_1 t27_0 t27_1 t28_0 p254 from (by rw [e255, ← e227]; have h := hS; rw [S_NH_addArgument.eq_1] at h; rw [if_neg c88] at h; rw [if_neg c90] at h; rw [if_neg c92] at h; rw [if_neg c94] at h; rw [if_pos c96] at h; with_reducible exact h))
            refine lv_goto (tgt := 140) hx hb d_1_22_123 (by decide) ?_
            exact q_retv C0 V (⟨hI, hF, y232, y233, y234, y235, f236, f238, f240, t4_0, t6_0, t7_0, t8_0, t9_0, t10_0, t11_0, t12_0, t13_0, t14_0, t15_0, t16_0, t17_0, t18_0, t19_0, t20_0, t21_0, t22_0, t23_0, hO231, hA237, hA239, hA241, hT4, hT6, hT7, hT8, hT9, hT10, hT11, hT12, hT13, hT14, hT15, hT16, hT17, hT18, hT19, hT20, hT21, hT22, hT23, (show 1 ≤ y232.toInt from (by first | with_reducible exact q_fe b242 | (have t1 : 1 ≤ y232.toInt := b242; omega))), (show y232.toInt ≤ 9 from (by first | with_reducible exact q_fe b243 | (have t1 : y232.toInt ≤ 9 := b243; omega))), (show 0 ≤ y233.toInt + 1 from (by have t1 : -1 ≤ t0_1.toInt ∧ t0_1.toInt ≤ 1000000 := btt0_1; have t2 : t0_1.toInt ≤ y233.toInt := b246; omega)), (show y233.toInt ≤ 1000000 from (by have t1 : -1 ≤ t0_1.toInt ∧ t0_1.toInt ≤ 1000000 := btt0_1; have t2 : y233.toInt ≤ t0_1.toInt := b247; omega)), (show 0 ≤ y235.toInt + 1 from (by have t1 : -1 ≤ t0_3.toInt ∧ t0_3.toInt ≤ 8 := btt0_3; have t2 : t0_3.toInt ≤ y235.toInt := b250; omega)), (show y235.toInt ≤ 8 from (by have t1 : -1 ≤ t0_3.toInt ∧ t0_3.toInt ≤ 8 := btt0_3; have t2 : y235.toInt ≤ t0_3.toInt := b251; omega)), (show 0 ≤ t4_0.toInt from (by first | with_reducible exact (q_fe btt4_0).2 | with_reducible exact (q_fe btt4_0).1 | (have t1 : 0 ≤ t4_0.toInt ∧ t4_0.toInt ≤ 4100 := btt4_0; omega))), (show t4_0.toInt ≤ 4100 from (by first | with_reducible exact (q_fe btt4_0).2 | with_reducible exact (q_fe btt4_0).1 | (have t1 : 0 ≤ t4_0.toInt ∧ t4_0.toInt ≤ 4100 := btt4_0; omega))), (show 0 ≤ t6_0.toInt from (by first | with_reducible exact (q_fe btt6_0).2 | with_reducible exact (q_fe btt6_0).1 | (have t1 : 0 ≤ t6_0.toInt ∧ t6_0.toInt ≤ 64 := btt6_0; omega))), (show t6_0.toInt ≤ 64 from (by first | with_reducible exact (q_fe btt6_0).2 | with_reducible exact (q_fe btt6_0).1 | (have t1 : 0 ≤ t6_0.toInt ∧ t6_0.toInt ≤ 64 := btt6_0; omega))), (show 0 ≤ t8_0.toInt from (by first | with_reducible exact (q_fe btt8_0).2 | with_reducible exact (q_fe btt8_0).1 | (have t1 : 0 ≤ t8_0.toInt ∧ t8_0.toInt ≤ 64 := btt8_0; omega))), (show t8_0.toInt ≤ 64 from (by first | with_reducible exact (q_fe btt8_0).2 | with_reducible exact (q_fe btt8_0).1 | (have t1 : 0 ≤ t8_0.toInt ∧ t8_0.toInt ≤ 64 := btt8_0; omega))), (show 0 ≤ t10_0.toInt from (by first | with_reducible exact (q_fe btt10_0).2 | with_reducible exact (q_fe btt10_0).1 | (have t1 : 0 ≤ t10_0.toInt ∧ t10_0.toInt ≤ 64 := btt10_0; omega))), (show t10_0.toInt ≤ 64 from (by first | with_reducible exact (q_fe btt10_0).2 | with_reducible exact (q_fe btt10_0).1 | (have t1 : 0 ≤ t10_0.toInt ∧ t10_0.toInt ≤ 64 := btt10_0; omega))), (show 0 ≤ t12_0.toInt from (by first | with_reducible exact (q_fe btt12_0).2 | with_reducible exact (q_fe btt12_0).1 | (have t1 : 0 ≤ t12_0.toInt ∧ t12_0.toInt ≤ 64 := btt12_0; omega))), (show t12_0.toInt ≤ 64 from (by first | with_reducible exact (q_fe btt12_0).2 | with_reducible exact (q_fe btt12_0).1 | (have t1 : 0 ≤ t12_0.toInt ∧ t12_0.toInt ≤ 64 := btt12_0; omega))), (show 0 ≤ t14_0.toInt from (by first | with_reducible exact (q_fe btt14_0).2 | with_reducible exact (q_fe btt14_0).1 | (have t1 : 0 ≤ t14_0.toInt ∧ t14_0.toInt ≤ 64 := btt14_0; omega))), (show t14_0.toInt ≤ 64 from (by first | with_reducible exact (q_fe btt14_0).2 | with_reducible exact (q_fe btt14_0).1 | (have t1 : 0 ≤ t14_0.toInt ∧ t14_0.toInt ≤ 64 := btt14_0; omega))), (show 0 ≤ t16_0.toInt from (by first | with_reducible exact (q_fe btt16_0).2 | with_reducible exact (q_fe btt16_0).1 | (have t1 : 0 ≤ t16_0.toInt ∧ t16_0.toInt ≤ 64 := btt16_0; omega))), (show t16_0.toInt ≤ 64 from (by first | with_reducible exact (q_fe btt16_0).2 | with_reducible exact (q_fe btt16_0).1 | (have t1 : 0 ≤ t16_0.toInt ∧ t16_0.toInt ≤ 64 := btt16_0; omega))), (show 0 ≤ t18_0.toInt from (by first | with_reducible exact (q_fe btt18_0).2 | with_reducible exact (q_fe btt18_0).1 | (have t1 : 0 ≤ t18_0.toInt ∧ t18_0.toInt ≤ 64 := btt18_0; omega))), (show t18_0.toInt ≤ 64 from (by first | with_reducible exact (q_fe btt18_0).2 | with_reducible exact (q_fe btt18_0).1 | (have t1 : 0 ≤ t18_0.toInt ∧ t18_0.toInt ≤ 64 := btt18_0; omega))), (show 0 ≤ t20_0.toInt from (by first | with_reducible exact (q_fe btt20_0).2 | with_reducible exact (q_fe btt20_0).1 | (have t1 : 0 ≤ t20_0.toInt ∧ t20_0.toInt ≤ 64 := btt20_0; omega))), (show t20_0.toInt ≤ 64 from (by first | with_reducible exact (q_fe btt20_0).2 | with_reducible exact (q_fe btt20_0).1 | (have t1 : 0 ≤ t20_0.toInt ∧ t20_0.toInt ≤ 64 := btt20_0; omega))), (show 0 ≤ t22_0.toInt from (by first | with_reducible exact (q_fe btt22_0).2 | with_reducible exact (q_fe btt22_0).1 | (have t1 : 0 ≤ t22_0.toInt ∧ t22_0.toInt ≤ 64 := btt22_0; omega))), (show t22_0.toInt ≤ 64 from (by first | with_reducible exact (q_fe btt22_0).2 | with_reducible exact (q_fe btt22_0).1 | (have t1 : 0 ≤ t22_0.toInt ∧ t22_0.toInt ≤ 64 := btt22_0; omega))), (show t0_0.toInt ≤ y232.toInt from (by first | with_reducible exact q_fe b244 | (have t1 : t0_0.toInt ≤ y232.toInt := b244; omega))), (show y232.toInt ≤ t0_0.toInt + 1 from (by first | with_reducible exact q_fe b245 | (have t1 : y232.toInt ≤ t0_0.toInt + 1 := b245; omega))), (show t0_1.toInt ≤ y233.toInt from (by first | with_reducible exact q_fe b246 | (have t1 : t0_1.toInt ≤ y233.toInt := b246; omega))), (show y233.toInt ≤ t0_1.toInt from (by first | with_reducible exact q_fe b247 | (have t1 : y233.toInt ≤ t0_1.toInt := b247; omega))), (show t0_2.toInt ≤ y234.toInt from (by first | with_reducible exact q_fe b248 | (have t1 : t0_2.toInt ≤ y234.toInt := b248; omega))), (show y234.toInt ≤ t0_2.toInt from (by first | with_reducible exact q_fe b249 | (have t1 : y234.toInt ≤ t0_2.toInt := b249; omega))), (show t0_3.toInt ≤ y235.toInt from (by first | with_reducible exact q_fe b250 | (have t1 : t0_3.toInt ≤ y235.toInt := b250; omega))), (show y235.toInt ≤ t0_3.toInt from (by first | with_reducible exact q_fe b251 | (have t1 : y235.toInt ≤ t0_3.toInt := b251; omega))), (show t4_0.toInt ≤ t4_0.toInt + 64 from (by omega)), (show t4_0.toInt ≤ t4_0.toInt from (by omega)), (show (y232, y233, y234, y235, f236, f238, f240, t4_0, t6_0, t7_0, t8_0, t9_0, t10_0, t11_0, t12_0, t13_0, t14_0, t15_0, t16_0, t17_0, t18_0, t19_0, t20_0, t21_0, t22_0, t23_0) = (F_NH_addArgument x2 x3 t0_0 t0_1 t0_2 t0_3 t1_0 t2_0 t3_0 t4_0 t5_0 t6_0 t7_0 t8_0 t9_0 t10_0 t11_0 t12_0 t13_0 t14_0 t15_0 t16_0 t17_0 t18_0 t19_0 t20_0 t21_0 t22_0 t23_0 t24_0 t24_1 t25_0 t26_0 t26_1 t27_0 t27_1 t28_0) from Eq.trans (by rw [e262, e261, e260, e259, e258, e257, e256, F_NH_addArgument_c120.eq_1]) hR263)⟩) d_1_22_140
        ·
          refine lv_aload_n hx hb d_1_22_85 rfl (lv_at hl 0 rfl) ?_
          have hO269 := n_o0 hI
          refine q_get (ci := 0) (j := 13) (v := .ref (q 40)) C0 V i_NH rfl rfl hO269 (by decide) w_437 rfl d_1_22_86 ?_
          refine lv_iconst (v := 1) hx hb d_1_22_89 (by decide) ?_
          refine lv_iload_n hx hb d_1_22_90 rfl (lv_at hl 2 rfl) ?_
          refine lv_if_ne (tgt := 98) hx hb d_1_22_91 (by decide) (fun c270 => ?_) (fun c270 => ?_)
          ·
            refine lv_lconst (v := 1) hx hb d_1_22_98 (by decide) ?_
            refine lv_iconst (v := 0) hx hb d_1_22_99 (by decide) ?_
            refine q_gov V (q_runV (As := [.int 1, .long 1, .int 0]) (rest := []) (d := 1) (mc := 0) (ms := 0) (ci := 11) C0 V rfl LV_NH_374 (X_Pri_addNumber l D g q ws  1 1 0 hI t0_0 t0_1 t0_2 t0_3 hT0 t1_0 hT1 t2_0 hT2 t3_0 hT3 (by have y0 : (1 : Int32).toInt = 1 := rfl; have y1 : (1 : Int64).toInt = 1 := rfl; have y2 : (0 : Int32).toInt = 0 := rfl; omega) (by have y0 : (1 : Int32).toInt = 1 := rfl; have y1 : (1 : Int64).toInt = 1 := rfl; have y2 : (0 : Int32).toInt = 0 := rfl; omega) _) rfl rfl hT0 rfl hl.1 rfl (Nat.le_of_ble_eq_true rfl) ⟨by decide, by decide⟩ ⟨Nat.le_of_ble_eq_true rfl, Nat.le_of_ble_eq_true rfl⟩ d_1_22_100) (fun u272 H locs hp273 V => ?_)
            obtain ⟨hI, hZ9⟩ := hp273
            obtain ⟨hu296, hZ9⟩ := hZ9
            obtain ⟨y275, hZ9⟩ := hZ9
            obtain ⟨y276, hZ9⟩ := hZ9
            obtain ⟨y277, hZ9⟩ := hZ9
            obtain ⟨y278, hZ9⟩ := hZ9
            obtain ⟨f279, hZ9⟩ := hZ9
            obtain ⟨f281, hZ9⟩ := hZ9
            obtain ⟨f283, hZ9⟩ := hZ9
            obtain ⟨hO274, hZ9⟩ := hZ9
            obtain ⟨hA280, hZ9⟩ := hZ9
            obtain ⟨hA282, hZ9⟩ := hZ9
            obtain ⟨hA284, hZ9⟩ := hZ9
            obtain ⟨b285, hZ9⟩ := hZ9
            obtain ⟨b286, hZ9⟩ := hZ9
            obtain ⟨b287, hZ9⟩ := hZ9
            obtain ⟨b288, hZ9⟩ := hZ9
            obtain ⟨b289, hZ9⟩ := hZ9
            obtain ⟨b290, hZ9⟩ := hZ9
            obtain ⟨b291, hZ9⟩ := hZ9
            obtain ⟨b292, hZ9⟩ := hZ9
            obtain ⟨b293, hZ9⟩ := hZ9
            obtain ⟨b294, hE295⟩ := hZ9
            replace hO274 : u272[40]? = (some (q 40, .inr (11, [.int y275, .ref (q 41), .ref (q 42), .ref (q 43), .ref (q 44), .ref (q 1), .ref (q 47), .ref (q 36), .ref (q 45), .int y276, .int y277, .int y278])) : Option (Nat × va_E)) := hO274
            replace hA280 : u272[41]? = (some (q 41, .inl (g 0, 9, .inl f279)) : Option (Nat × va_E)) := hA280
            replace hA282 : u272[42]? = (some (q 42, .inl (g 1, 9, .inr (.inl f281))) : Option (Nat × va_E)) := hA282
            replace hA284 : u272[43]? = (some (q 43, .inl (g 0, 9, .inl f283)) : Option (Nat × va_E)) := hA284
            obtain ⟨p297, e298⟩ : ∃ z, z = (F_Pri_addNumber (1 : Int32) (1 : Int64) (0 : Int32) t0_0 t0_1 t0_2 t0_3 t1_0 t2_0 t3_0) := ⟨_, rfl⟩
            have e299 : y275 = p297.1 := congrArg (fun z => z.1) (hE295.trans e298.symm)
            have e300 : y276 = p297.2.1 := congrArg (fun z => z.2.1) (hE295.trans e298.symm)
            have e301 : y277 = p297.2.2.1 := congrArg (fun z => z.2.2.1) (hE295.trans e298.symm)
            have e302 : y278 = p297.2.2.2.1 := congrArg (fun z => z.2.2.2.1) (hE295.trans e298.symm)
            have e303 : f279 = p297.2.2.2.2.1 := congrArg (fun z => z.2.2.2.2.1) (hE295.trans e298.symm)
            have e304 : f281 = p297.2.2.2.2.2.1 := congrArg (fun z => z.2.2.2.2.2.1) (hE295.trans e298.symm)
            have e305 : f283 = p297.2.2.2.2.2.2 := congrArg (fun z => z.2.2.2.2.2.2) (hE295.trans e298.symm)
            replace b285 : q_F (1 ≤ y275.toInt) := b285
            replace b286 : q_F (y275.toInt ≤ 9) := b286
            replace b287 : q_F (t0_0.toInt ≤ y275.toInt) := b287
            replace b288 : q_F (y275.toInt ≤ t0_0.toInt + 1) := b288
            replace b289 : q_F (t0_1.toInt ≤ y276.toInt) := b289
            replace b290 : q_F (y276.toInt ≤ t0_1.toInt) := b290
            replace b291 : q_F (t0_2.toInt ≤ y277.toInt) := b291
            replace b292 : q_F (y277.toInt ≤ t0_2.toInt) := b292
            replace b293 : q_F (t0_3.toInt ≤ y278.toInt) := b293
            replace b294 : q_F (y278.toInt ≤ t0_3.toInt) := b294
            replace hT4 := (hu296 _ (by decide)).trans hT4
            replace hT6 := (hu296 _ (by decide)).trans hT6
            replace hT7 := (hu296 _ (by decide)).trans hT7
            replace hT8 := (hu296 _ (by decide)).trans hT8
            replace hT9 := (hu296 _ (by decide)).trans hT9
            replace hT10 := (hu296 _ (by decide)).trans hT10
            replace hT11 := (hu296 _ (by decide)).trans hT11
            replace hT12 := (hu296 _ (by decide)).trans hT12
            replace hT13 := (hu296 _ (by decide)).trans hT13
            replace hT14 := (hu296 _ (by decide)).trans hT14
            replace hT15 := (hu296 _ (by decide)).trans hT15
            replace hT16 := (hu296 _ (by decide)).trans hT16
            replace hT17 := (hu296 _ (by decide)).trans hT17
            replace hT18 := (hu296 _ (by decide)).trans hT18
            replace hT19 := (hu296 _ (by decide)).trans hT19
            replace hT20 := (hu296 _ (by decide)).trans hT20
            replace hT21 := (hu296 _ (by decide)).trans hT21
            replace hT22 := (hu296 _ (by decide)).trans hT22
            replace hT23 := (hu296 _ (by decide)).trans hT23
            replace hF := q_uc hF hu296 (by simp)
            have hR306 := (show F_NH_addArgument_c100 x2 x3 t0_0 t0_1 t0_2 t0_3 t1_0 t2_0 t3_0 t4_0 t5_0 t6_0 t7_0 t8_0 t9_0 t10_0 t11_0 t12_0 t13_0 t14_0 t15_0 t16_0 t17_0 t18_0 t19_0 t20_0 t21_0 t22_0 t23_0 t24_0 t24_1 t25_0 t26_0 t26_1 t27_0 t27_1 t28_0 p297 = (F_NH_addArgument x2 x3 t0_0 t0_1 t0_2 t0_3 t1_0 t2_0 t3_0 t4_0 t5_0 t6_0 t7_0 t8_0 t9_0 t10_0 t11_0 t12_0 t13_0 t14_0 t15_0 t16_0 t17_0 t18_0 t19_0 t20_0 t21_0 t22_0 t23_0 t24_0 t24_1 t25_0 t26_0 t26_1 t27_0 t27_1 t28_0) from (by rw [e298, F_NH_addArgument.eq_1, if_neg c88, if_neg c90, if_neg c92, if_pos c94, if_neg c270]))
            have hS307 := (show True ∧ S_NH_addArgument_c100 x2 x3 t0_0 t0_1 t0_2 t0_3 t1_0 t2_0 t3_0 t4_0 t5_0 t6_0 t7_0 t8_0 t9_0 t10_0 t11_0 t12_0 t13_0 t14_0 t15_0 t16_0 t17_0 t18_0 t19_0 t20_0 t21_0 t22_0 t23_0 t24_0 t24_1 t25_0 t26_0 t26_1 t27_0 t27_1 t28_0 p297 from (by rw [e298]; have h := hS; rw [S_NH_addArgument.eq_1] at h; rw [if_neg c88] at h; rw [if_neg c90] at h; rw [if_neg c92] at h; rw [if_pos c94] at h; rw [if_neg c270] at h; with_reducible exact h))
            refine lv_goto (tgt := 140) hx hb d_1_22_103 (by decide) ?_
            exact q_retv C0 V (⟨hI, hF, y275, y276, y277, y278, f279, f281, f283, t4_0, t6_0, t7_0, t8_0, t9_0, t10_0, t11_0, t12_0, t13_0, t14_0, t15_0, t16_0, t17_0, t18_0, t19_0, t20_0, t21_0, t22_0, t23_0, hO274, hA280, hA282, hA284, hT4, hT6, hT7, hT8, hT9, hT10, hT11, hT12, hT13, hT14, hT15, hT16, hT17, hT18, hT19, hT20, hT21, hT22, hT23, (show 1 ≤ y275.toInt from (by first | with_reducible exact q_fe b285 | (have t1 : 1 ≤ y275.toInt := b285; omega))), (show y275.toInt ≤ 9 from (by first | with_reducible exact q_fe b286 | (have t1 : y275.toInt ≤ 9 := b286; omega))), (show 0 ≤ y276.toInt + 1 from (by have t1 : -1 ≤ t0_1.toInt ∧ t0_1.toInt ≤ 1000000 := btt0_1; have t2 : t0_1.toInt ≤ y276.toInt := b289; omega)), (show y276.toInt ≤ 1000000 from (by have t1 : -1 ≤ t0_1.toInt ∧ t0_1.toInt ≤ 1000000 := btt0_1; have t2 : y276.toInt ≤ t0_1.toInt := b290; omega)), (show 0 ≤ y278.toInt + 1 from (by have t1 : -1 ≤ t0_3.toInt ∧ t0_3.toInt ≤ 8 := btt0_3; have t2 : t0_3.toInt ≤ y278.toInt := b293; omega)), (show y278.toInt ≤ 8 from (by have t1 : -1 ≤ t0_3.toInt ∧ t0_3.toInt ≤ 8 := btt0_3; have t2 : y278.toInt ≤ t0_3.toInt := b294; omega)), (show 0 ≤ t4_0.toInt from (by first | with_reducible exact (q_fe btt4_0).2 | with_reducible exact (q_fe btt4_0).1 | (have t1 : 0 ≤ t4_0.toInt ∧ t4_0.toInt ≤ 4100 := btt4_0; omega))), (show t4_0.toInt ≤ 4100 from (by first | with_reducible exact (q_fe btt4_0).2 | with_reducible exact (q_fe btt4_0).1 | (have t1 : 0 ≤ t4_0.toInt ∧ t4_0.toInt ≤ 4100 := btt4_0; omega))), (show 0 ≤ t6_0.toInt from (by first | with_reducible exact (q_fe btt6_0).2 | with_reducible exact (q_fe btt6_0).1 | (have t1 : 0 ≤ t6_0.toInt ∧ t6_0.toInt ≤ 64 := btt6_0; omega))), (show t6_0.toInt ≤ 64 from (by first | with_reducible exact (q_fe btt6_0).2 | with_reducible exact (q_fe btt6_0).1 | (have t1 : 0 ≤ t6_0.toInt ∧ t6_0.toInt ≤ 64 := btt6_0; omega))), (show 0 ≤ t8_0.toInt from (by first | with_reducible exact (q_fe btt8_0).2 | with_reducible exact (q_fe btt8_0).1 | (have t1 : 0 ≤ t8_0.toInt ∧ t8_0.toInt ≤ 64 := btt8_0; omega))), (show t8_0.toInt ≤ 64 from (by first | with_reducible exact (q_fe btt8_0).2 | with_reducible exact (q_fe btt8_0).1 | (have t1 : 0 ≤ t8_0.toInt ∧ t8_0.toInt ≤ 64 := btt8_0; omega))), (show 0 ≤ t10_0.toInt from (by first | with_reducible exact (q_fe btt10_0).2 | with_reducible exact (q_fe btt10_0).1 | (have t1 : 0 ≤ t10_0.toInt ∧ t10_0.toInt ≤ 64 := btt10_0; omega))), (show t10_0.toInt ≤ 64 from (by first | with_reducible exact (q_fe btt10_0).2 | with_reducible exact (q_fe btt10_0).1 | (have t1 : 0 ≤ t10_0.toInt ∧ t10_0.toInt ≤ 64 := btt10_0; omega))), (show 0 ≤ t12_0.toInt from (by first | with_reducible exact (q_fe btt12_0).2 | with_reducible exact (q_fe btt12_0).1 | (have t1 : 0 ≤ t12_0.toInt ∧ t12_0.toInt ≤ 64 := btt12_0; omega))), (show t12_0.toInt ≤ 64 from (by first | with_reducible exact (q_fe btt12_0).2 | with_reducible exact (q_fe btt12_0).1 | (have t1 : 0 ≤ t12_0.toInt ∧ t12_0.toInt ≤ 64 := btt12_0; omega))), (show 0 ≤ t14_0.toInt from (by first | with_reducible exact (q_fe btt14_0).2 | with_reducible exact (q_fe btt14_0).1 | (have t1 : 0 ≤ t14_0.toInt ∧ t14_0.toInt ≤ 64 := btt14_0; omega))), (show t14_0.toInt ≤ 64 from (by first | with_reducible exact (q_fe btt14_0).2 | with_reducible exact (q_fe btt14_0).1 | (have t1 : 0 ≤ t14_0.toInt ∧ t14_0.toInt ≤ 64 := btt14_0; omega))), (show 0 ≤ t16_0.toInt from (by first | with_reducible exact (q_fe btt16_0).2 | with_reducible exact (q_fe btt16_0).1 | (have t1 : 0 ≤ t16_0.toInt ∧ t16_0.toInt ≤ 64 := btt16_0; omega))), (show t16_0.toInt ≤ 64 from (by first | with_reducible exact (q_fe btt16_0).2 | with_reducible exact (q_fe btt16_0).1 | (have t1 : 0 ≤ t16_0.toInt ∧ t16_0.toInt ≤ 64 := btt16_0; omega))), (show 0 ≤ t18_0.toInt from (by first | with_reducible exact (q_fe btt18_0).2 | with_reducible exact (q_fe btt18_0).1 | (have t1 : 0 ≤ t18_0.toInt ∧ t18_0.toInt ≤ 64 := btt18_0; omega))), (show t18_0.toInt ≤ 64 from (by first | with_reducible exact (q_fe btt18_0).2 | with_reducible exact (q_fe btt18_0).1 | (have t1 : 0 ≤ t18_0.toInt ∧ t18_0.toInt ≤ 64 := btt18_0; omega))), (show 0 ≤ t20_0.toInt from (by first | with_reducible exact (q_fe btt20_0).2 | with_reducible exact (q_fe btt20_0).1 | (have t1 : 0 ≤ t20_0.toInt ∧ t20_0.toInt ≤ 64 := btt20_0; omega))), (show t20_0.toInt ≤ 64 from (by first | with_reducible exact (q_fe btt20_0).2 | with_reducible exact (q_fe btt20_0).1 | (have t1 : 0 ≤ t20_0.toInt ∧ t20_0.toInt ≤ 64 := btt20_0; omega))), (show 0 ≤ t22_0.toInt from (by first | with_reducible exact (q_fe btt22_0).2 | with_reducible exact (q_fe btt22_0).1 | (have t1 : 0 ≤ t22_0.toInt ∧ t22_0.toInt ≤ 64 := btt22_0; omega))), (show t22_0.toInt ≤ 64 from (by first | with_reducible exact (q_fe btt22_0).2 | with_reducible exact (q_fe btt22_0).1 | (have t1 : 0 ≤ t22_0.toInt ∧ t22_0.toInt ≤ 64 := btt22_0; omega))), (show t0_0.toInt ≤ y275.toInt from (by first | with_reducible exact q_fe b287 | (have t1 : t0_0.toInt ≤ y275.toInt := b287; omega))), (show y275.toInt ≤ t0_0.toInt + 1 from (by first | with_reducible exact q_fe b288 | (have t1 : y275.toInt ≤ t0_0.toInt + 1 := b288; omega))), (show t0_1.toInt ≤ y276.toInt from (by first | with_reducible exact q_fe b289 | (have t1 : t0_1.toInt ≤ y276.toInt := b289; omega))), (show y276.toInt ≤ t0_1.toInt from (by first | with_reducible exact q_fe b290 | (have t1 : y276.toInt ≤ t0_1.toInt := b290; omega))), (show t0_2.toInt ≤ y277.toInt from (by first | with_reducible exact q_fe b291 | (have t1 : t0_2.toInt ≤ y277.toInt := b291; omega))), (show y277.toInt ≤ t0_2.toInt from (by first | with_reducible exact q_fe b292 | (have t1 : y277.toInt ≤ t0_2.toInt := b292; omega))), (show t0_3.toInt ≤ y278.toInt from (by first | with_reducible exact q_fe b293 | (have t1 : t0_3.toInt ≤ y278.toInt := b293; omega))), (show y278.toInt ≤ t0_3.toInt from (by first | with_reducible exact q_fe b294 | (have t1 : y278.toInt ≤ t0_3.toInt := b294; omega))), (show t4_0.toInt ≤ t4_0.toInt + 64 from (by omega)), (show t4_0.toInt ≤ t4_0.toInt from (by omega)), (show (y275, y276, y277, y278, f279, f281, f283, t4_0, t6_0, t7_0, t8_0, t9_0, t10_0, t11_0, t12_0, t13_0, t14_0, t15_0, t16_0, t17_0, t18_0, t19_0, t20_0, t21_0, t22_0, t23_0) = (F_NH_addArgument x2 x3 t0_0 t0_1 t0_2 t0_3 t1_0 t2_0 t3_0 t4_0 t5_0 t6_0 t7_0 t8_0 t9_0 t10_0 t11_0 t12_0 t13_0 t14_0 t15_0 t16_0 t17_0 t18_0 t19_0 t20_0 t21_0 t22_0 t23_0 t24_0 t24_1 t25_0 t26_0 t26_1 t27_0 t27_1 t28_0) from Eq.trans (by rw [e305, e304, e303, e302, e301, e300, e299, F_NH_addArgument_c100.eq_1]) hR306)⟩) d_1_22_140
          ·
            refine lv_lconst (v := 0) hx hb d_1_22_94 (by decide) ?_
            refine lv_goto (tgt := 99) hx hb d_1_22_95 (by decide) ?_
            refine lv_iconst (v := 0) hx hb d_1_22_99 (by decide) ?_
            refine q_gov V (q_runV (As := [.int 1, .long 0, .int 0]) (rest := []) (d := 1) (mc := 0) (ms := 0) (ci := 11) C0 V rfl LV_NH_374 (X_Pri_addNumber l D g q ws  1 0 0 hI t0_0 t0_1 t0_2 t0_3 hT0 t1_0 hT1 t2_0 hT2 t3_0 hT3 (by have y0 : (1 : Int32).toInt = 1 := rfl; have y1 : (0 : Int64).toInt = 0 := rfl; have y2 : (0 : Int32).toInt = 0 := rfl; omega) (by have y0 : (1 : Int32).toInt = 1 := rfl; have y1 : (0 : Int64).toInt = 0 := rfl; have y2 : (0 : Int32).toInt = 0 := rfl; omega) _) rfl rfl hT0 rfl hl.1 rfl (Nat.le_of_ble_eq_true rfl) ⟨by decide, by decide⟩ ⟨Nat.le_of_ble_eq_true rfl, Nat.le_of_ble_eq_true rfl⟩ d_1_22_100) (fun u312 H locs hp313 V => ?_)
            obtain ⟨hI, hZ9⟩ := hp313
            obtain ⟨hu336, hZ9⟩ := hZ9
            obtain ⟨y315, hZ9⟩ := hZ9
            obtain ⟨y316, hZ9⟩ := hZ9
            obtain ⟨y317, hZ9⟩ := hZ9
            obtain ⟨y318, hZ9⟩ := hZ9
            obtain ⟨f319, hZ9⟩ := hZ9
            obtain ⟨f321, hZ9⟩ := hZ9
            obtain ⟨f323, hZ9⟩ := hZ9
            obtain ⟨hO314, hZ9⟩ := hZ9
            obtain ⟨hA320, hZ9⟩ := hZ9
            obtain ⟨hA322, hZ9⟩ := hZ9
            obtain ⟨hA324, hZ9⟩ := hZ9
            obtain ⟨b325, hZ9⟩ := hZ9
            obtain ⟨b326, hZ9⟩ := hZ9
            obtain ⟨b327, hZ9⟩ := hZ9
            obtain ⟨b328, hZ9⟩ := hZ9
            obtain ⟨b329, hZ9⟩ := hZ9
            obtain ⟨b330, hZ9⟩ := hZ9
            obtain ⟨b331, hZ9⟩ := hZ9
            obtain ⟨b332, hZ9⟩ := hZ9
            obtain ⟨b333, hZ9⟩ := hZ9
            obtain ⟨b334, hE335⟩ := hZ9
            replace hO314 : u312[40]? = (some (q 40, .inr (11, [.int y315, .ref (q 41), .ref (q 42), .ref (q 43), .ref (q 44), .ref (q 1), .ref (q 47), .ref (q 36), .ref (q 45), .int y316, .int y317, .int y318])) : Option (Nat × va_E)) := hO314
            replace hA320 : u312[41]? = (some (q 41, .inl (g 0, 9, .inl f319)) : Option (Nat × va_E)) := hA320
            replace hA322 : u312[42]? = (some (q 42, .inl (g 1, 9, .inr (.inl f321))) : Option (Nat × va_E)) := hA322
            replace hA324 : u312[43]? = (some (q 43, .inl (g 0, 9, .inl f323)) : Option (Nat × va_E)) := hA324
            obtain ⟨p337, e338⟩ : ∃ z, z = (F_Pri_addNumber (1 : Int32) (0 : Int64) (0 : Int32) t0_0 t0_1 t0_2 t0_3 t1_0 t2_0 t3_0) := ⟨_, rfl⟩
            have e339 : y315 = p337.1 := congrArg (fun z => z.1) (hE335.trans e338.symm)
            have e340 : y316 = p337.2.1 := congrArg (fun z => z.2.1) (hE335.trans e338.symm)
            have e341 : y317 = p337.2.2.1 := congrArg (fun z => z.2.2.1) (hE335.trans e338.symm)
            have e342 : y318 = p337.2.2.2.1 := congrArg (fun z => z.2.2.2.1) (hE335.trans e338.symm)
            have e343 : f319 = p337.2.2.2.2.1 := congrArg (fun z => z.2.2.2.2.1) (hE335.trans e338.symm)
            have e344 : f321 = p337.2.2.2.2.2.1 := congrArg (fun z => z.2.2.2.2.2.1) (hE335.trans e338.symm)
            have e345 : f323 = p337.2.2.2.2.2.2 := congrArg (fun z => z.2.2.2.2.2.2) (hE335.trans e338.symm)
            replace b325 : q_F (1 ≤ y315.toInt) := b325
            replace b326 : q_F (y315.toInt ≤ 9) := b326
            replace b327 : q_F (t0_0.toInt ≤ y315.toInt) := b327
            replace b328 : q_F (y315.toInt ≤ t0_0.toInt + 1) := b328
            replace b329 : q_F (t0_1.toInt ≤ y316.toInt) := b329
            replace b330 : q_F (y316.toInt ≤ t0_1.toInt) := b330
            replace b331 : q_F (t0_2.toInt ≤ y317.toInt) := b331
            replace b332 : q_F (y317.toInt ≤ t0_2.toInt) := b332
            replace b333 : q_F (t0_3.toInt ≤ y318.toInt) := b333
            replace b334 : q_F (y318.toInt ≤ t0_3.toInt) := b334
            replace hT4 := (hu336 _ (by decide)).trans hT4
            replace hT6 := (hu336 _ (by decide)).trans hT6
            replace hT7 := (hu336 _ (by decide)).trans hT7
            replace hT8 := (hu336 _ (by decide)).trans hT8
            replace hT9 := (hu336 _ (by decide)).trans hT9
            replace hT10 := (hu336 _ (by decide)).trans hT10
            replace hT11 := (hu336 _ (by decide)).trans hT11
            replace hT12 := (hu336 _ (by decide)).trans hT12
            replace hT13 := (hu336 _ (by decide)).trans hT13
            replace hT14 := (hu336 _ (by decide)).trans hT14
            replace hT15 := (hu336 _ (by decide)).trans hT15
            replace hT16 := (hu336 _ (by decide)).trans hT16
            replace hT17 := (hu336 _ (by decide)).trans hT17
            replace hT18 := (hu336 _ (by decide)).trans hT18
            replace hT19 := (hu336 _ (by decide)).trans hT19
            replace hT20 := (hu336 _ (by decide)).trans hT20
            replace hT21 := (hu336 _ (by decide)).trans hT21
            replace hT22 := (hu336 _ (by decide)).trans hT22
            replace hT23 := (hu336 _ (by decide)).trans hT23
            replace hF := q_uc hF hu336 (by simp)
            have hR346 := (show F_NH_addArgument_c100_4 x2 x3 t0_0 t0_1 t0_2 t0_3 t1_0 t2_0 t3_0 t4_0 t5_0 t6_0 t7_0 t8_0 t9_0 t10_0 t11_0 t12_0 t13_0 t14_0 t15_0 t16_0 t17_0 t18_0 t19_0 t20_0 t21_0 t22_0 t23_0 t24_0 t24_1 t25_0 t26_0 t26_1 t27_0 t27_1 t28_0 p337 = (F_NH_addArgument x2 x3 t0_0 t0_1 t0_2 t0_3 t1_0 t2_0 t3_0 t4_0 t5_0 t6_0 t7_0 t8_0 t9_0 t10_0 t11_0 t12_0 t13_0 t14_0 t15_0 t16_0 t17_0 t18_0 t19_0 t20_0 t21_0 t22_0 t23_0 t24_0 t24_1 t25_0 t26_0 t26_1 t27_0 t27_1 t28_0) from (by rw [e338, F_NH_addArgument.eq_1, if_neg c88, if_neg c90, if_neg c92, if_pos c94, if_pos c270]))
            have hS347 := (show True ∧ S_NH_addArgument_c100_4 x2 x3 t0_0 t0_1 t0_2 t0_3 t1_0 t2_0 t3_0 t4_0 t5_0 t6_0 t7_0 t8_0 t9_0 t10_0 t11_0 t12_0 t13_0 t14_0 t15_0 t16_0 t17_0 t18_0 t19_0 t20_0 t21_0 t22_0 t23_0 t24_0 t24_1 t25_0 t26_0 t26_1 t27_0 t27_1 t28_0 p337 from (by rw [e338]; have h := hS; rw [S_NH_addArgument.eq_1] at h; rw [if_neg c88] at h; rw [if_neg c90] at h; rw [if_neg c92] at h; rw [if_pos c94] at h; rw [if_pos c270] at h; with_reducible exact h))
            refine lv_goto (tgt := 140) hx hb d_1_22_103 (by decide) ?_
            exact q_retv C0 V (⟨hI, hF, y315, y316, y317, y318, f319, f321, f323, t4_0, t6_0, t7_0, t8_0, t9_0, t10_0, t11_0, t12_0, t13_0, t14_0, t15_0, t16_0, t17_0, t18_0, t19_0, t20_0, t21_0, t22_0, t23_0, hO314, hA320, hA322, hA324, hT4, hT6, hT7, hT8, hT9, hT10, hT11, hT12, hT13, hT14, hT15, hT16, hT17, hT18, hT19, hT20, hT21, hT22, hT23, (show 1 ≤ y315.toInt from (by first | with_reducible exact q_fe b325 | (have t1 : 1 ≤ y315.toInt := b325; omega))), (show y315.toInt ≤ 9 from (by first | with_reducible exact q_fe b326 | (have t1 : y315.toInt ≤ 9 := b326; omega))), (show 0 ≤ y316.toInt + 1 from (by have t1 : -1 ≤ t0_1.toInt ∧ t0_1.toInt ≤ 1000000 := btt0_1; have t2 : t0_1.toInt ≤ y316.toInt := b329; omega)), (show y316.toInt ≤ 1000000 from (by have t1 : -1 ≤ t0_1.toInt ∧ t0_1.toInt ≤ 1000000 := btt0_1; have t2 : y316.toInt ≤ t0_1.toInt := b330; omega)), (show 0 ≤ y318.toInt + 1 from (by have t1 : -1 ≤ t0_3.toInt ∧ t0_3.toInt ≤ 8 := btt0_3; have t2 : t0_3.toInt ≤ y318.toInt := b333; omega)), (show y318.toInt ≤ 8 from (by have t1 : -1 ≤ t0_3.toInt ∧ t0_3.toInt ≤ 8 := btt0_3; have t2 : y318.toInt ≤ t0_3.toInt := b334; omega)), (show 0 ≤ t4_0.toInt from (by first | with_reducible exact (q_fe btt4_0).2 | with_reducible exact (q_fe btt4_0).1 | (have t1 : 0 ≤ t4_0.toInt ∧ t4_0.toInt ≤ 4100 := btt4_0; omega))), (show t4_0.toInt ≤ 4100 from (by first | with_reducible exact (q_fe btt4_0).2 | with_reducible exact (q_fe btt4_0).1 | (have t1 : 0 ≤ t4_0.toInt ∧ t4_0.toInt ≤ 4100 := btt4_0; omega))), (show 0 ≤ t6_0.toInt from (by first | with_reducible exact (q_fe btt6_0).2 | with_reducible exact (q_fe btt6_0).1 | (have t1 : 0 ≤ t6_0.toInt ∧ t6_0.toInt ≤ 64 := btt6_0; omega))), (show t6_0.toInt ≤ 64 from (by first | with_reducible exact (q_fe btt6_0).2 | with_reducible exact (q_fe btt6_0).1 | (have t1 : 0 ≤ t6_0.toInt ∧ t6_0.toInt ≤ 64 := btt6_0; omega))), (show 0 ≤ t8_0.toInt from (by first | with_reducible exact (q_fe btt8_0).2 | with_reducible exact (q_fe btt8_0).1 | (have t1 : 0 ≤ t8_0.toInt ∧ t8_0.toInt ≤ 64 := btt8_0; omega))), (show t8_0.toInt ≤ 64 from (by first | with_reducible exact (q_fe btt8_0).2 | with_reducible exact (q_fe btt8_0).1 | (have t1 : 0 ≤ t8_0.toInt ∧ t8_0.toInt ≤ 64 := btt8_0; omega))), (show 0 ≤ t10_0.toInt from (by first | with_reducible exact (q_fe btt10_0).2 | with_reducible exact (q_fe btt10_0).1 | (have t1 : 0 ≤ t10_0.toInt ∧ t10_0.toInt ≤ 64 := btt10_0; omega))), (show t10_0.toInt ≤ 64 from (by first | with_reducible exact (q_fe btt10_0).2 | with_reducible exact (q_fe btt10_0).1 | (have t1 : 0 ≤ t10_0.toInt ∧ t10_0.toInt ≤ 64 := btt10_0; omega))), (show 0 ≤ t12_0.toInt from (by first | with_reducible exact (q_fe btt12_0).2 | with_reducible exact (q_fe btt12_0).1 | (have t1 : 0 ≤ t12_0.toInt ∧ t12_0.toInt ≤ 64 := btt12_0; omega))), (show t12_0.toInt ≤ 64 from (by first | with_reducible exact (q_fe btt12_0).2 | with_reducible exact (q_fe btt12_0).1 | (have t1 : 0 ≤ t12_0.toInt ∧ t12_0.toInt ≤ 64 := btt12_0; omega))), (show 0 ≤ t14_0.toInt from (by first | with_reducible exact (q_fe btt14_0).2 | with_reducible exact (q_fe btt14_0).1 | (have t1 : 0 ≤ t14_0.toInt ∧ t14_0.toInt ≤ 64 := btt14_0; omega))), (show t14_0.toInt ≤ 64 from (by first | with_reducible exact (q_fe btt14_0).2 | with_reducible exact (q_fe btt14_0).1 | (have t1 : 0 ≤ t14_0.toInt ∧ t14_0.toInt ≤ 64 := btt14_0; omega))), (show 0 ≤ t16_0.toInt from (by first | with_reducible exact (q_fe btt16_0).2 | with_reducible exact (q_fe btt16_0).1 | (have t1 : 0 ≤ t16_0.toInt ∧ t16_0.toInt ≤ 64 := btt16_0; omega))), (show t16_0.toInt ≤ 64 from (by first | with_reducible exact (q_fe btt16_0).2 | with_reducible exact (q_fe btt16_0).1 | (have t1 : 0 ≤ t16_0.toInt ∧ t16_0.toInt ≤ 64 := btt16_0; omega))), (show 0 ≤ t18_0.toInt from (by first | with_reducible exact (q_fe btt18_0).2 | with_reducible exact (q_fe btt18_0).1 | (have t1 : 0 ≤ t18_0.toInt ∧ t18_0.toInt ≤ 64 := btt18_0; omega))), (show t18_0.toInt ≤ 64 from (by first | with_reducible exact (q_fe btt18_0).2 | with_reducible exact (q_fe btt18_0).1 | (have t1 : 0 ≤ t18_0.toInt ∧ t18_0.toInt ≤ 64 := btt18_0; omega))), (show 0 ≤ t20_0.toInt from (by first | with_reducible exact (q_fe btt20_0).2 | with_reducible exact (q_fe btt20_0).1 | (have t1 : 0 ≤ t20_0.toInt ∧ t20_0.toInt ≤ 64 := btt20_0; omega))), (show t20_0.toInt ≤ 64 from (by first | with_reducible exact (q_fe btt20_0).2 | with_reducible exact (q_fe btt20_0).1 | (have t1 : 0 ≤ t20_0.toInt ∧ t20_0.toInt ≤ 64 := btt20_0; omega))), (show 0 ≤ t22_0.toInt from (by first | with_reducible exact (q_fe btt22_0).2 | with_reducible exact (q_fe btt22_0).1 | (have t1 : 0 ≤ t22_0.toInt ∧ t22_0.toInt ≤ 64 := btt22_0; omega))), (show t22_0.toInt ≤ 64 from (by first | with_reducible exact (q_fe btt22_0).2 | with_reducible exact (q_fe btt22_0).1 | (have t1 : 0 ≤ t22_0.toInt ∧ t22_0.toInt ≤ 64 := btt22_0; omega))), (show t0_0.toInt ≤ y315.toInt from (by first | with_reducible exact q_fe b327 | (have t1 : t0_0.toInt ≤ y315.toInt := b327; omega))), (show y315.toInt ≤ t0_0.toInt + 1 from (by first | with_reducible exact q_fe b328 | (have t1 : y315.toInt ≤ t0_0.toInt + 1 := b328; omega))), (show t0_1.toInt ≤ y316.toInt from (by first | with_reducible exact q_fe b329 | (have t1 : t0_1.toInt ≤ y316.toInt := b329; omega))), (show y316.toInt ≤ t0_1.toInt from (by first | with_reducible exact q_fe b330 | (have t1 : y316.toInt ≤ t0_1.toInt := b330; omega))), (show t0_2.toInt ≤ y317.toInt from (by first | with_reducible exact q_fe b331 | (have t1 : t0_2.toInt ≤ y317.toInt := b331; omega))), (show y317.toInt ≤ t0_2.toInt from (by first | with_reducible exact q_fe b332 | (have t1 : y317.toInt ≤ t0_2.toInt := b332; omega))), (show t0_3.toInt ≤ y318.toInt from (by first | with_reducible exact q_fe b333 | (have t1 : t0_3.toInt ≤ y318.toInt := b333; omega))), (show y318.toInt ≤ t0_3.toInt from (by first | with_reducible exact q_fe b334 | (have t1 : y318.toInt ≤ t0_3.toInt := b334; omega))), (show t4_0.toInt ≤ t4_0.toInt + 64 from (by omega)), (show t4_0.toInt ≤ t4_0.toInt from (by omega)), (show (y315, y316, y317, y318, f319, f321, f323, t4_0, t6_0, t7_0, t8_0, t9_0, t10_0, t11_0, t12_0, t13_0, t14_0, t15_0, t16_0, t17_0, t18_0, t19_0, t20_0, t21_0, t22_0, t23_0) = (F_NH_addArgument x2 x3 t0_0 t0_1 t0_2 t0_3 t1_0 t2_0 t3_0 t4_0 t5_0 t6_0 t7_0 t8_0 t9_0 t10_0 t11_0 t12_0 t13_0 t14_0 t15_0 t16_0 t17_0 t18_0 t19_0 t20_0 t21_0 t22_0 t23_0 t24_0 t24_1 t25_0 t26_0 t26_1 t27_0 t27_1 t28_0) from Eq.trans (by rw [e345, e344, e343, e342, e341, e340, e339, F_NH_addArgument_c100_4.eq_1]) hR346)⟩) d_1_22_140
      ·
        refine lv_aload_n hx hb d_1_22_67 rfl (lv_at hl 0 rfl) ?_
        have hO352 := n_o0 hI
        refine q_get (ci := 0) (j := 13) (v := .ref (q 40)) C0 V i_NH rfl rfl hO352 (by decide) w_437 rfl d_1_22_68 ?_
        refine lv_iconst (v := 0) hx hb d_1_22_71 (by decide) ?_
        refine lv_lconst (v := 0) hx hb d_1_22_72 (by decide) ?_
        refine lv_iconst (v := 0) hx hb d_1_22_73 (by decide) ?_
        refine q_gov V (q_runV (As := [.int 0, .long 0, .int 0]) (rest := []) (d := 1) (mc := 0) (ms := 0) (ci := 11) C0 V rfl LV_NH_374 (X_Pri_addNumber l D g q ws  0 0 0 hI t0_0 t0_1 t0_2 t0_3 hT0 t1_0 hT1 t2_0 hT2 t3_0 hT3 (by have y0 : (0 : Int32).toInt = 0 := rfl; have y1 : (0 : Int64).toInt = 0 := rfl; have y2 : (0 : Int32).toInt = 0 := rfl; omega) (by have y0 : (0 : Int32).toInt = 0 := rfl; have y1 : (0 : Int64).toInt = 0 := rfl; have y2 : (0 : Int32).toInt = 0 := rfl; omega) _) rfl rfl hT0 rfl hl.1 rfl (Nat.le_of_ble_eq_true rfl) ⟨by decide, by decide⟩ ⟨Nat.le_of_ble_eq_true rfl, Nat.le_of_ble_eq_true rfl⟩ d_1_22_74) (fun u353 H locs hp354 V => ?_)
        obtain ⟨hI, hZ9⟩ := hp354
        obtain ⟨hu377, hZ9⟩ := hZ9
        obtain ⟨y356, hZ9⟩ := hZ9
        obtain ⟨y357, hZ9⟩ := hZ9
        obtain ⟨y358, hZ9⟩ := hZ9
        obtain ⟨y359, hZ9⟩ := hZ9
        obtain ⟨f360, hZ9⟩ := hZ9
        obtain ⟨f362, hZ9⟩ := hZ9
        obtain ⟨f364, hZ9⟩ := hZ9
        obtain ⟨hO355, hZ9⟩ := hZ9
        obtain ⟨hA361, hZ9⟩ := hZ9
        obtain ⟨hA363, hZ9⟩ := hZ9
        obtain ⟨hA365, hZ9⟩ := hZ9
        obtain ⟨b366, hZ9⟩ := hZ9
        obtain ⟨b367, hZ9⟩ := hZ9
        obtain ⟨b368, hZ9⟩ := hZ9
        obtain ⟨b369, hZ9⟩ := hZ9
        obtain ⟨b370, hZ9⟩ := hZ9
        obtain ⟨b371, hZ9⟩ := hZ9
        obtain ⟨b372, hZ9⟩ := hZ9
        obtain ⟨b373, hZ9⟩ := hZ9
        obtain ⟨b374, hZ9⟩ := hZ9
        obtain ⟨b375, hE376⟩ := hZ9
        replace hO355 : u353[40]? = (some (q 40, .inr (11, [.int y356, .ref (q 41), .ref (q 42), .ref (q 43), .ref (q 44), .ref (q 1), .ref (q 47), .ref (q 36), .ref (q 45), .int y357, .int y358, .int y359])) : Option (Nat × va_E)) := hO355
        replace hA361 : u353[41]? = (some (q 41, .inl (g 0, 9, .inl f360)) : Option (Nat × va_E)) := hA361
        replace hA363 : u353[42]? = (some (q 42, .inl (g 1, 9, .inr (.inl f362))) : Option (Nat × va_E)) := hA363
        replace hA365 : u353[43]? = (some (q 43, .inl (g 0, 9, .inl f364)) : Option (Nat × va_E)) := hA365
        obtain ⟨p378, e379⟩ : ∃ z, z = (F_Pri_addNumber (0 : Int32) (0 : Int64) (0 : Int32) t0_0 t0_1 t0_2 t0_3 t1_0 t2_0 t3_0) := ⟨_, rfl⟩
        have e380 : y356 = p378.1 := congrArg (fun z => z.1) (hE376.trans e379.symm)
        have e381 : y357 = p378.2.1 := congrArg (fun z => z.2.1) (hE376.trans e379.symm)
        have e382 : y358 = p378.2.2.1 := congrArg (fun z => z.2.2.1) (hE376.trans e379.symm)
        have e383 : y359 = p378.2.2.2.1 := congrArg (fun z => z.2.2.2.1) (hE376.trans e379.symm)
        have e384 : f360 = p378.2.2.2.2.1 := congrArg (fun z => z.2.2.2.2.1) (hE376.trans e379.symm)
        have e385 : f362 = p378.2.2.2.2.2.1 := congrArg (fun z => z.2.2.2.2.2.1) (hE376.trans e379.symm)
        have e386 : f364 = p378.2.2.2.2.2.2 := congrArg (fun z => z.2.2.2.2.2.2) (hE376.trans e379.symm)
        replace b366 : q_F (1 ≤ y356.toInt) := b366
        replace b367 : q_F (y356.toInt ≤ 9) := b367
        replace b368 : q_F (t0_0.toInt ≤ y356.toInt) := b368
        replace b369 : q_F (y356.toInt ≤ t0_0.toInt + 1) := b369
        replace b370 : q_F (t0_1.toInt ≤ y357.toInt) := b370
        replace b371 : q_F (y357.toInt ≤ t0_1.toInt) := b371
        replace b372 : q_F (t0_2.toInt ≤ y358.toInt) := b372
        replace b373 : q_F (y358.toInt ≤ t0_2.toInt) := b373
        replace b374 : q_F (t0_3.toInt ≤ y359.toInt) := b374
        replace b375 : q_F (y359.toInt ≤ t0_3.toInt) := b375
        replace hT4 := (hu377 _ (by decide)).trans hT4
        replace hT6 := (hu377 _ (by decide)).trans hT6
        replace hT7 := (hu377 _ (by decide)).trans hT7
        replace hT8 := (hu377 _ (by decide)).trans hT8
        replace hT9 := (hu377 _ (by decide)).trans hT9
        replace hT10 := (hu377 _ (by decide)).trans hT10
        replace hT11 := (hu377 _ (by decide)).trans hT11
        replace hT12 := (hu377 _ (by decide)).trans hT12
        replace hT13 := (hu377 _ (by decide)).trans hT13
        replace hT14 := (hu377 _ (by decide)).trans hT14
        replace hT15 := (hu377 _ (by decide)).trans hT15
        replace hT16 := (hu377 _ (by decide)).trans hT16
        replace hT17 := (hu377 _ (by decide)).trans hT17
        replace hT18 := (hu377 _ (by decide)).trans hT18
        replace hT19 := (hu377 _ (by decide)).trans hT19
        replace hT20 := (hu377 _ (by decide)).trans hT20
        replace hT21 := (hu377 _ (by decide)).trans hT21
        replace hT22 := (hu377 _ (by decide)).trans hT22
        replace hT23 := (hu377 _ (by decide)).trans hT23
        replace hF := q_uc hF hu377 (by simp)
        have hR387 := (show F_NH_addArgument_c74 x2 x3 t0_0 t0_1 t0_2 t0_3 t1_0 t2_0 t3_0 t4_0 t5_0 t6_0 t7_0 t8_0 t9_0 t10_0 t11_0 t12_0 t13_0 t14_0 t15_0 t16_0 t17_0 t18_0 t19_0 t20_0 t21_0 t22_0 t23_0 t24_0 t24_1 t25_0 t26_0 t26_1 t27_0 t27_1 t28_0 p378 = (F_NH_addArgument x2 x3 t0_0 t0_1 t0_2 t0_3 t1_0 t2_0 t3_0 t4_0 t5_0 t6_0 t7_0 t8_0 t9_0 t10_0 t11_0 t12_0 t13_0 t14_0 t15_0 t16_0 t17_0 t18_0 t19_0 t20_0 t21_0 t22_0 t23_0 t24_0 t24_1 t25_0 t26_0 t26_1 t27_0 t27_1 t28_0) from (by rw [e379, F_NH_addArgument.eq_1, if_neg c88, if_neg c90, if_pos c92]))
        have hS388 := (show True ∧ S_NH_addArgument_c74 x2 x3 t0_0 t0_1 t0_2 t0_3 t1_0 t2_0 t3_0 t4_0 t5_0 t6_0 t7_0 t8_0 t9_0 t10_0 t11_0 t12_0 t13_0 t14_0 t15_0 t16_0 t17_0 t18_0 t19_0 t20_0 t21_0 t22_0 t23_0 t24_0 t24_1 t25_0 t26_0 t26_1 t27_0 t27_1 t28_0 p378 from (by rw [e379]; have h := hS; rw [S_NH_addArgument.eq_1] at h; rw [if_neg c88] at h; rw [if_neg c90] at h; rw [if_pos c92] at h; with_reducible exact h))
        refine lv_goto (tgt := 140) hx hb d_1_22_77 (by decide) ?_
        exact q_retv C0 V (⟨hI, hF, y356, y357, y358, y359, f360, f362, f364, t4_0, t6_0, t7_0, t8_0, t9_0, t10_0, t11_0, t12_0, t13_0, t14_0, t15_0, t16_0, t17_0, t18_0, t19_0, t20_0, t21_0, t22_0, t23_0, hO355, hA361, hA363, hA365, hT4, hT6, hT7, hT8, hT9, hT10, hT11, hT12, hT13, hT14, hT15, hT16, hT17, hT18, hT19, hT20, hT21, hT22, hT23, (show 1 ≤ y356.toInt from (by first | with_reducible exact q_fe b366 | (have t1 : 1 ≤ y356.toInt := b366; omega))), (show y356.toInt ≤ 9 from (by first | with_reducible exact q_fe b367 | (have t1 : y356.toInt ≤ 9 := b367; omega))), (show 0 ≤ y357.toInt + 1 from (by have t1 : -1 ≤ t0_1.toInt ∧ t0_1.toInt ≤ 1000000 := btt0_1; have t2 : t0_1.toInt ≤ y357.toInt := b370; omega)), (show y357.toInt ≤ 1000000 from (by have t1 : -1 ≤ t0_1.toInt ∧ t0_1.toInt ≤ 1000000 := btt0_1; have t2 : y357.toInt ≤ t0_1.toInt := b371; omega)), (show 0 ≤ y359.toInt + 1 from (by have t1 : -1 ≤ t0_3.toInt ∧ t0_3.toInt ≤ 8 := btt0_3; have t2 : t0_3.toInt ≤ y359.toInt := b374; omega)), (show y359.toInt ≤ 8 from (by have t1 : -1 ≤ t0_3.toInt ∧ t0_3.toInt ≤ 8 := btt0_3; have t2 : y359.toInt ≤ t0_3.toInt := b375; omega)), (show 0 ≤ t4_0.toInt from (by first | with_reducible exact (q_fe btt4_0).2 | with_reducible exact (q_fe btt4_0).1 | (have t1 : 0 ≤ t4_0.toInt ∧ t4_0.toInt ≤ 4100 := btt4_0; omega))), (show t4_0.toInt ≤ 4100 from (by first | with_reducible exact (q_fe btt4_0).2 | with_reducible exact (q_fe btt4_0).1 | (have t1 : 0 ≤ t4_0.toInt ∧ t4_0.toInt ≤ 4100 := btt4_0; omega))), (show 0 ≤ t6_0.toInt from (by first | with_reducible exact (q_fe btt6_0).2 | with_reducible exact (q_fe btt6_0).1 | (have t1 : 0 ≤ t6_0.toInt ∧ t6_0.toInt ≤ 64 := btt6_0; omega))), (show t6_0.toInt ≤ 64 from (by first | with_reducible exact (q_fe btt6_0).2 | with_reducible exact (q_fe btt6_0).1 | (have t1 : 0 ≤ t6_0.toInt ∧ t6_0.toInt ≤ 64 := btt6_0; omega))), (show 0 ≤ t8_0.toInt from (by first | with_reducible exact (q_fe btt8_0).2 | with_reducible exact (q_fe btt8_0).1 | (have t1 : 0 ≤ t8_0.toInt ∧ t8_0.toInt ≤ 64 := btt8_0; omega))), (show t8_0.toInt ≤ 64 from (by first | with_reducible exact (q_fe btt8_0).2 | with_reducible exact (q_fe btt8_0).1 | (have t1 : 0 ≤ t8_0.toInt ∧ t8_0.toInt ≤ 64 := btt8_0; omega))), (show 0 ≤ t10_0.toInt from (by first | with_reducible exact (q_fe btt10_0).2 | with_reducible exact (q_fe btt10_0).1 | (have t1 : 0 ≤ t10_0.toInt ∧ t10_0.toInt ≤ 64 := btt10_0; omega))), (show t10_0.toInt ≤ 64 from (by first | with_reducible exact (q_fe btt10_0).2 | with_reducible exact (q_fe btt10_0).1 | (have t1 : 0 ≤ t10_0.toInt ∧ t10_0.toInt ≤ 64 := btt10_0; omega))), (show 0 ≤ t12_0.toInt from (by first | with_reducible exact (q_fe btt12_0).2 | with_reducible exact (q_fe btt12_0).1 | (have t1 : 0 ≤ t12_0.toInt ∧ t12_0.toInt ≤ 64 := btt12_0; omega))), (show t12_0.toInt ≤ 64 from (by first | with_reducible exact (q_fe btt12_0).2 | with_reducible exact (q_fe btt12_0).1 | (have t1 : 0 ≤ t12_0.toInt ∧ t12_0.toInt ≤ 64 := btt12_0; omega))), (show 0 ≤ t14_0.toInt from (by first | with_reducible exact (q_fe btt14_0).2 | with_reducible exact (q_fe btt14_0).1 | (have t1 : 0 ≤ t14_0.toInt ∧ t14_0.toInt ≤ 64 := btt14_0; omega))), (show t14_0.toInt ≤ 64 from (by first | with_reducible exact (q_fe btt14_0).2 | with_reducible exact (q_fe btt14_0).1 | (have t1 : 0 ≤ t14_0.toInt ∧ t14_0.toInt ≤ 64 := btt14_0; omega))), (show 0 ≤ t16_0.toInt from (by first | with_reducible exact (q_fe btt16_0).2 | with_reducible exact (q_fe btt16_0).1 | (have t1 : 0 ≤ t16_0.toInt ∧ t16_0.toInt ≤ 64 := btt16_0; omega))), (show t16_0.toInt ≤ 64 from (by first | with_reducible exact (q_fe btt16_0).2 | with_reducible exact (q_fe btt16_0).1 | (have t1 : 0 ≤ t16_0.toInt ∧ t16_0.toInt ≤ 64 := btt16_0; omega))), (show 0 ≤ t18_0.toInt from (by first | with_reducible exact (q_fe btt18_0).2 | with_reducible exact (q_fe btt18_0).1 | (have t1 : 0 ≤ t18_0.toInt ∧ t18_0.toInt ≤ 64 := btt18_0; omega))), (show t18_0.toInt ≤ 64 from (by first | with_reducible exact (q_fe btt18_0).2 | with_reducible exact (q_fe btt18_0).1 | (have t1 : 0 ≤ t18_0.toInt ∧ t18_0.toInt ≤ 64 := btt18_0; omega))), (show 0 ≤ t20_0.toInt from (by first | with_reducible exact (q_fe btt20_0).2 | with_reducible exact (q_fe btt20_0).1 | (have t1 : 0 ≤ t20_0.toInt ∧ t20_0.toInt ≤ 64 := btt20_0; omega))), (show t20_0.toInt ≤ 64 from (by first | with_reducible exact (q_fe btt20_0).2 | with_reducible exact (q_fe btt20_0).1 | (have t1 : 0 ≤ t20_0.toInt ∧ t20_0.toInt ≤ 64 := btt20_0; omega))), (show 0 ≤ t22_0.toInt from (by first | with_reducible exact (q_fe btt22_0).2 | with_reducible exact (q_fe btt22_0).1 | (have t1 : 0 ≤ t22_0.toInt ∧ t22_0.toInt ≤ 64 := btt22_0; omega))), (show t22_0.toInt ≤ 64 from (by first | with_reducible exact (q_fe btt22_0).2 | with_reducible exact (q_fe btt22_0).1 | (have t1 : 0 ≤ t22_0.toInt ∧ t22_0.toInt ≤ 64 := btt22_0; omega))), (show t0_0.toInt ≤ y356.toInt from (by first | with_reducible exact q_fe b368 | (have t1 : t0_0.toInt ≤ y356.toInt := b368; omega))), (show y356.toInt ≤ t0_0.toInt + 1 from (by first | with_reducible exact q_fe b369 | (have t1 : y356.toInt ≤ t0_0.toInt + 1 := b369; omega))), (show t0_1.toInt ≤ y357.toInt from (by first | with_reducible exact q_fe b370 | (have t1 : t0_1.toInt ≤ y357.toInt := b370; omega))), (show y357.toInt ≤ t0_1.toInt from (by first | with_reducible exact q_fe b371 | (have t1 : y357.toInt ≤ t0_1.toInt := b371; omega))), (show t0_2.toInt ≤ y358.toInt from (by first | with_reducible exact q_fe b372 | (have t1 : t0_2.toInt ≤ y358.toInt := b372; omega))), (show y358.toInt ≤ t0_2.toInt from (by first | with_reducible exact q_fe b373 | (have t1 : y358.toInt ≤ t0_2.toInt := b373; omega))), (show t0_3.toInt ≤ y359.toInt from (by first | with_reducible exact q_fe b374 | (have t1 : t0_3.toInt ≤ y359.toInt := b374; omega))), (show y359.toInt ≤ t0_3.toInt from (by first | with_reducible exact q_fe b375 | (have t1 : y359.toInt ≤ t0_3.toInt := b375; omega))), (show t4_0.toInt ≤ t4_0.toInt + 64 from (by omega)), (show t4_0.toInt ≤ t4_0.toInt from (by omega)), (show (y356, y357, y358, y359, f360, f362, f364, t4_0, t6_0, t7_0, t8_0, t9_0, t10_0, t11_0, t12_0, t13_0, t14_0, t15_0, t16_0, t17_0, t18_0, t19_0, t20_0, t21_0, t22_0, t23_0) = (F_NH_addArgument x2 x3 t0_0 t0_1 t0_2 t0_3 t1_0 t2_0 t3_0 t4_0 t5_0 t6_0 t7_0 t8_0 t9_0 t10_0 t11_0 t12_0 t13_0 t14_0 t15_0 t16_0 t17_0 t18_0 t19_0 t20_0 t21_0 t22_0 t23_0 t24_0 t24_1 t25_0 t26_0 t26_1 t27_0 t27_1 t28_0) from Eq.trans (by rw [e386, e385, e384, e383, e382, e381, e380, F_NH_addArgument_c74.eq_1]) hR387)⟩) d_1_22_140
    ·
      refine lv_aload_n hx hb d_1_22_30 rfl (lv_at hl 0 rfl) ?_
      have hO393 := n_o0 hI
      refine q_get (ci := 0) (j := 13) (v := .ref (q 40)) C0 V i_NH rfl rfl hO393 (by decide) w_437 rfl d_1_22_31 ?_
      refine lv_iconst (v := 5) hx hb d_1_22_34 (by decide) ?_
      refine lv_aload_n hx hb d_1_22_35 rfl (lv_at hl 0 rfl) ?_
      refine q_get (ci := 0) (j := 3) (v := .ref (q 6)) C0 V i_NH rfl rfl hO393 (by decide) w_427 rfl d_1_22_36 ?_
      refine lv_iload_n hx hb d_1_22_39 rfl (lv_at hl 2 rfl) ?_
      have hX394 := n_fx hI (n_s6 g q)
      have ob395 : q_F (0 ≤ x3.toInt) := (by have h := hS; rw [S_NH_addArgument.eq_1] at h; rw [if_neg c88] at h; rw [if_pos c90] at h; exact h.2.1)
      have ob396 : q_F (x3.toInt ≤ 9) := (by have h := hS; rw [S_NH_addArgument.eq_1] at h; rw [if_neg c88] at h; rw [if_pos c90] at h; replace h := q_s2 h; exact h.2.1)
      have hj397 : x3.toNatClampNeg < 10 := by have z := q_clI (i := x3) (x := x3.toInt) rfl (by first | with_reducible exact q_fe ob395 | (have t1 : 0 ≤ x3.toInt := ob395; omega)); have t1 : 0 ≤ x3.toInt := ob395; have t2 : x3.toInt ≤ 9 := ob396; omega
      have hq398 := gd3x3 hj397
      refine q_aald (t := 5) (q := q d3) C0 V hX394 rfl (q_ix (x := x3.toInt) rfl (by first | with_reducible exact q_fe ob395 | (have t1 : 0 ≤ x3.toInt := ob395; omega)) (by have t1 : 0 ≤ x3.toInt := ob395; have t2 : x3.toInt ≤ 9 := ob396; omega)) (by rw [hq398]; exact n_fdv hj397) d_1_22_40 ?_
      refine q_get (ci := 3) (j := 0) (v := .ref (q (d3 + 1))) C0 V i_Dec rfl rfl hT26 (by decide) w_174 rfl d_1_22_41 ?_
      refine q_gol V (q_runV (As := []) (rest := [.int 5, .ref (q 40)]) (d := 2) (mc := 0) (ms := 0) (ci := 2) C0 V rfl LV_NH_370 (X_Big_toLong l D g q ws (d3 + 1) 108 hBd3.2 (Or.inr (by have z := yd3; omega))  hI t27_0 t27_1 hT27 t28_0 hT28  _) rfl rfl hT27 rfl hl.1 rfl (Nat.le_of_ble_eq_true rfl) ⟨by decide, by decide⟩ ⟨Nat.le_of_ble_eq_true rfl, Nat.le_of_ble_eq_true rfl⟩ d_1_22_44) (fun j401 u399 H locs hp400 V => ?_)
      obtain ⟨rfl, hE402⟩ := hp400
      have e403 : j401 = (F_Big_toLong (108 : Int32) t27_0 t27_1 t28_0) := hE402
      refine lv_aload_n hx hb d_1_22_47 rfl (lv_at hl 0 rfl) ?_
      refine q_get (ci := 0) (j := 3) (v := .ref (q 6)) C0 V i_NH rfl rfl hO393 (by decide) w_427 rfl d_1_22_48 ?_
      refine lv_iload_n hx hb d_1_22_51 rfl (lv_at hl 2 rfl) ?_
      have hX404 := n_fx hI (n_s6 g q)
      have hj405 : x3.toNatClampNeg < 10 := by have z := q_clI (i := x3) (x := x3.toInt) rfl (by first | with_reducible exact q_fe ob395 | (have t1 : 0 ≤ x3.toInt := ob395; omega)); have t1 : 0 ≤ x3.toInt := ob395; have t2 : x3.toInt ≤ 9 := ob396; omega
      have hq406 := gd3x3 hj405
      refine q_aald (t := 5) (q := q d3) C0 V hX404 rfl (q_ix (x := x3.toInt) rfl (by first | with_reducible exact q_fe ob395 | (have t1 : 0 ≤ x3.toInt := ob395; omega)) (by have t1 : 0 ≤ x3.toInt := ob395; have t2 : x3.toInt ≤ 9 := ob396; omega)) (by rw [hq406]; exact n_fdv hj405) d_1_22_52 ?_
      refine q_get (ci := 3) (j := 1) (v := .int t26_0) C0 V i_Dec rfl rfl hT26 (by decide) w_178 rfl d_1_22_53 ?_
      refine q_gov V (q_runV (As := [.int 5, .long j401, .int t26_0]) (rest := []) (d := 1) (mc := 0) (ms := 0) (ci := 11) C0 V rfl LV_NH_374 (X_Pri_addNumber l D g q ws  5 j401 t26_0 hI t0_0 t0_1 t0_2 t0_3 hT0 t1_0 hT1 t2_0 hT2 t3_0 hT3 (by have y0 : (5 : Int32).toInt = 5 := rfl; have t1 : -10000 ≤ t26_0.toInt ∧ t26_0.toInt ≤ 10000 := btt26_0; omega) (by have y0 : (5 : Int32).toInt = 5 := rfl; have t1 : -10000 ≤ t26_0.toInt ∧ t26_0.toInt ≤ 10000 := btt26_0; omega) _) rfl rfl hT0 rfl hl.1 rfl (Nat.le_of_ble_eq_true rfl) ⟨by decide, by decide⟩ ⟨Nat.le_of_ble_eq_true rfl, Nat.le_of_ble_eq_true rfl⟩ d_1_22_56) (fun u407 H locs hp408 V => ?_)
      obtain ⟨hI, hZ9⟩ := hp408
      obtain ⟨hu431, hZ9⟩ := hZ9
      obtain ⟨y410, hZ9⟩ := hZ9
      obtain ⟨y411, hZ9⟩ := hZ9
      obtain ⟨y412, hZ9⟩ := hZ9
      obtain ⟨y413, hZ9⟩ := hZ9
      obtain ⟨f414, hZ9⟩ := hZ9
      obtain ⟨f416, hZ9⟩ := hZ9
      obtain ⟨f418, hZ9⟩ := hZ9
      obtain ⟨hO409, hZ9⟩ := hZ9
      obtain ⟨hA415, hZ9⟩ := hZ9
      obtain ⟨hA417, hZ9⟩ := hZ9
      obtain ⟨hA419, hZ9⟩ := hZ9
      obtain ⟨b420, hZ9⟩ := hZ9
      obtain ⟨b421, hZ9⟩ := hZ9
      obtain ⟨b422, hZ9⟩ := hZ9
      obtain ⟨b423, hZ9⟩ := hZ9
      obtain ⟨b424, hZ9⟩ := hZ9
      obtain ⟨b425, hZ9⟩ := hZ9
      obtain ⟨b426, hZ9⟩ := hZ9
      obtain ⟨b427, hZ9⟩ := hZ9
      obtain ⟨b428, hZ9⟩ := hZ9
      obtain ⟨b429, hE430⟩ := hZ9
      replace hO409 : u407[40]? = (some (q 40, .inr (11, [.int y410, .ref (q 41), .ref (q 42), .ref (q 43), .ref (q 44), .ref (q 1), .ref (q 47), .ref (q 36), .ref (q 45), .int y411, .int y412, .int y413])) : Option (Nat × va_E)) := hO409
      replace hA415 : u407[41]? = (some (q 41, .inl (g 0, 9, .inl f414)) : Option (Nat × va_E)) := hA415
      replace hA417 : u407[42]? = (some (q 42, .inl (g 1, 9, .inr (.inl f416))) : Option (Nat × va_E)) := hA417
      replace hA419 : u407[43]? = (some (q 43, .inl (g 0, 9, .inl f418)) : Option (Nat × va_E)) := hA419
      obtain ⟨p432, e433⟩ : ∃ z, z = (F_Pri_addNumber (5 : Int32) j401 t26_0 t0_0 t0_1 t0_2 t0_3 t1_0 t2_0 t3_0) := ⟨_, rfl⟩
      have e434 : y410 = p432.1 := congrArg (fun z => z.1) (hE430.trans e433.symm)
      have e435 : y411 = p432.2.1 := congrArg (fun z => z.2.1) (hE430.trans e433.symm)
      have e436 : y412 = p432.2.2.1 := congrArg (fun z => z.2.2.1) (hE430.trans e433.symm)
      have e437 : y413 = p432.2.2.2.1 := congrArg (fun z => z.2.2.2.1) (hE430.trans e433.symm)
      have e438 : f414 = p432.2.2.2.2.1 := congrArg (fun z => z.2.2.2.2.1) (hE430.trans e433.symm)
      have e439 : f416 = p432.2.2.2.2.2.1 := congrArg (fun z => z.2.2.2.2.2.1) (hE430.trans e433.symm)
      have e440 : f418 = p432.2.2.2.2.2.2 := congrArg (fun z => z.2.2.2.2.2.2) (hE430.trans e433.symm)
      replace b420 : q_F (1 ≤ y410.toInt) := b420
      replace b421 : q_F (y410.toInt ≤ 9) := b421
      replace b422 : q_F (t0_0.toInt ≤ y410.toInt) := b422
      replace b423 : q_F (y410.toInt ≤ t0_0.toInt + 1) := b423
      replace b424 : q_F (t0_1.toInt ≤ y411.toInt) := b424
      replace b425 : q_F (y411.toInt ≤ t0_1.toInt) := b425
      replace b426 : q_F (t0_2.toInt ≤ y412.toInt) := b426
      replace b427 : q_F (y412.toInt ≤ t0_2.toInt) := b427
      replace b428 : q_F (t0_3.toInt ≤ y413.toInt) := b428
      replace b429 : q_F (y413.toInt ≤ t0_3.toInt) := b429
      replace hT4 := (hu431 _ (by decide)).trans hT4
      replace hT6 := (hu431 _ (by decide)).trans hT6
      replace hT7 := (hu431 _ (by decide)).trans hT7
      replace hT8 := (hu431 _ (by decide)).trans hT8
      replace hT9 := (hu431 _ (by decide)).trans hT9
      replace hT10 := (hu431 _ (by decide)).trans hT10
      replace hT11 := (hu431 _ (by decide)).trans hT11
      replace hT12 := (hu431 _ (by decide)).trans hT12
      replace hT13 := (hu431 _ (by decide)).trans hT13
      replace hT14 := (hu431 _ (by decide)).trans hT14
      replace hT15 := (hu431 _ (by decide)).trans hT15
      replace hT16 := (hu431 _ (by decide)).trans hT16
      replace hT17 := (hu431 _ (by decide)).trans hT17
      replace hT18 := (hu431 _ (by decide)).trans hT18
      replace hT19 := (hu431 _ (by decide)).trans hT19
      replace hT20 := (hu431 _ (by decide)).trans hT20
      replace hT21 := (hu431 _ (by decide)).trans hT21
      replace hT22 := (hu431 _ (by decide)).trans hT22
      replace hT23 := (hu431 _ (by decide)).trans hT23
      replace hF := q_uc hF hu431 (by simp)
      have hR441 := (show F_NH_addArgument_c56 x2 x3 t0_0 t0_1 t0_2 t0_3 t1_0 t2_0 t3_0 t4_0 t5_0 t6_0 t7_0 t8_0 t9_0 t10_0 t11_0 t12_0 t13_0 t14_0 t15_0 t16_0 t17_0 t18_0 t19_0 t20_0 t21_0 t22_0 t23_0 t24_0 t24_1 t25_0 t26_0 t26_1 t27_0 t27_1 t28_0 p432 = (F_NH_addArgument x2 x3 t0_0 t0_1 t0_2 t0_3 t1_0 t2_0 t3_0 t4_0 t5_0 t6_0 t7_0 t8_0 t9_0 t10_0 t11_0 t12_0 t13_0 t14_0 t15_0 t16_0 t17_0 t18_0 t19_0 t20_0 t21_0 t22_0 t23_0 t24_0 t24_1 t25_0 t26_0 t26_1 t27_0 t27_1 t28_0) from (by rw [e433, e403, F_NH_addArgument.eq_1, if_neg c88, if_pos c90]))
      have hS442 := (show True ∧ S_NH_addArgument_c56 x2 x3 t0_0 t0_1 t0_2 t0_3 t1_0 t2_0 t3_0 t4_0 t5_0 t6_0 t7_0 t8_0 t9_0 t10_0 t11_0 t12_0 t13_0 t14_0 t15_0 t16_0 t17_0 t18_0 t19_0 t20_0 t21_0 t22_0 t23_0 t24_0 t24_1 t25_0 t26_0 t26_1 t27_0 t27_1 t28_0 p432 from (by rw [e433, e403]; have h := hS; rw [S_NH_addArgument.eq_1] at h; rw [if_neg c88] at h; rw [if_pos c90] at h; replace h := q_s2 h; replace h := q_s2 h; with_reducible exact h))
      refine lv_goto (tgt := 140) hx hb d_1_22_59 (by decide) ?_
      exact q_retv C0 V (⟨hI, hF, y410, y411, y412, y413, f414, f416, f418, t4_0, t6_0, t7_0, t8_0, t9_0, t10_0, t11_0, t12_0, t13_0, t14_0, t15_0, t16_0, t17_0, t18_0, t19_0, t20_0, t21_0, t22_0, t23_0, hO409, hA415, hA417, hA419, hT4, hT6, hT7, hT8, hT9, hT10, hT11, hT12, hT13, hT14, hT15, hT16, hT17, hT18, hT19, hT20, hT21, hT22, hT23, (show 1 ≤ y410.toInt from (by first | with_reducible exact q_fe b420 | (have t1 : 1 ≤ y410.toInt := b420; omega))), (show y410.toInt ≤ 9 from (by first | with_reducible exact q_fe b421 | (have t1 : y410.toInt ≤ 9 := b421; omega))), (show 0 ≤ y411.toInt + 1 from (by have t1 : -1 ≤ t0_1.toInt ∧ t0_1.toInt ≤ 1000000 := btt0_1; have t2 : t0_1.toInt ≤ y411.toInt := b424; omega)), (show y411.toInt ≤ 1000000 from (by have t1 : -1 ≤ t0_1.toInt ∧ t0_1.toInt ≤ 1000000 := btt0_1; have t2 : y411.toInt ≤ t0_1.toInt := b425; omega)), (show 0 ≤ y413.toInt + 1 from (by have t1 : -1 ≤ t0_3.toInt ∧ t0_3.toInt ≤ 8 := btt0_3; have t2 : t0_3.toInt ≤ y413.toInt := b428; omega)), (show y413.toInt ≤ 8 from (by have t1 : -1 ≤ t0_3.toInt ∧ t0_3.toInt ≤ 8 := btt0_3; have t2 : y413.toInt ≤ t0_3.toInt := b429; omega)), (show 0 ≤ t4_0.toInt from (by first | with_reducible exact (q_fe btt4_0).2 | with_reducible exact (q_fe btt4_0).1 | (have t1 : 0 ≤ t4_0.toInt ∧ t4_0.toInt ≤ 4100 := btt4_0; omega))), (show t4_0.toInt ≤ 4100 from (by first | with_reducible exact (q_fe btt4_0).2 | with_reducible exact (q_fe btt4_0).1 | (have t1 : 0 ≤ t4_0.toInt ∧ t4_0.toInt ≤ 4100 := btt4_0; omega))), (show 0 ≤ t6_0.toInt from (by first | with_reducible exact (q_fe btt6_0).2 | with_reducible exact (q_fe btt6_0).1 | (have t1 : 0 ≤ t6_0.toInt ∧ t6_0.toInt ≤ 64 := btt6_0; omega))), (show t6_0.toInt ≤ 64 from (by first | with_reducible exact (q_fe btt6_0).2 | with_reducible exact (q_fe btt6_0).1 | (have t1 : 0 ≤ t6_0.toInt ∧ t6_0.toInt ≤ 64 := btt6_0; omega))), (show 0 ≤ t8_0.toInt from (by first | with_reducible exact (q_fe btt8_0).2 | with_reducible exact (q_fe btt8_0).1 | (have t1 : 0 ≤ t8_0.toInt ∧ t8_0.toInt ≤ 64 := btt8_0; omega))), (show t8_0.toInt ≤ 64 from (by first | with_reducible exact (q_fe btt8_0).2 | with_reducible exact (q_fe btt8_0).1 | (have t1 : 0 ≤ t8_0.toInt ∧ t8_0.toInt ≤ 64 := btt8_0; omega))), (show 0 ≤ t10_0.toInt from (by first | with_reducible exact (q_fe btt10_0).2 | with_reducible exact (q_fe btt10_0).1 | (have t1 : 0 ≤ t10_0.toInt ∧ t10_0.toInt ≤ 64 := btt10_0; omega))), (show t10_0.toInt ≤ 64 from (by first | with_reducible exact (q_fe btt10_0).2 | with_reducible exact (q_fe btt10_0).1 | (have t1 : 0 ≤ t10_0.toInt ∧ t10_0.toInt ≤ 64 := btt10_0; omega))), (show 0 ≤ t12_0.toInt from (by first | with_reducible exact (q_fe btt12_0).2 | with_reducible exact (q_fe btt12_0).1 | (have t1 : 0 ≤ t12_0.toInt ∧ t12_0.toInt ≤ 64 := btt12_0; omega))), (show t12_0.toInt ≤ 64 from (by first | with_reducible exact (q_fe btt12_0).2 | with_reducible exact (q_fe btt12_0).1 | (have t1 : 0 ≤ t12_0.toInt ∧ t12_0.toInt ≤ 64 := btt12_0; omega))), (show 0 ≤ t14_0.toInt from (by first | with_reducible exact (q_fe btt14_0).2 | with_reducible exact (q_fe btt14_0).1 | (have t1 : 0 ≤ t14_0.toInt ∧ t14_0.toInt ≤ 64 := btt14_0; omega))), (show t14_0.toInt ≤ 64 from (by first | with_reducible exact (q_fe btt14_0).2 | with_reducible exact (q_fe btt14_0).1 | (have t1 : 0 ≤ t14_0.toInt ∧ t14_0.toInt ≤ 64 := btt14_0; omega))), (show 0 ≤ t16_0.toInt from (by first | with_reducible exact (q_fe btt16_0).2 | with_reducible exact (q_fe btt16_0).1 | (have t1 : 0 ≤ t16_0.toInt ∧ t16_0.toInt ≤ 64 := btt16_0; omega))), (show t16_0.toInt ≤ 64 from (by first | with_reducible exact (q_fe btt16_0).2 | with_reducible exact (q_fe btt16_0).1 | (have t1 : 0 ≤ t16_0.toInt ∧ t16_0.toInt ≤ 64 := btt16_0; omega))), (show 0 ≤ t18_0.toInt from (by first | with_reducible exact (q_fe btt18_0).2 | with_reducible exact (q_fe btt18_0).1 | (have t1 : 0 ≤ t18_0.toInt ∧ t18_0.toInt ≤ 64 := btt18_0; omega))), (show t18_0.toInt ≤ 64 from (by first | with_reducible exact (q_fe btt18_0).2 | with_reducible exact (q_fe btt18_0).1 | (have t1 : 0 ≤ t18_0.toInt ∧ t18_0.toInt ≤ 64 := btt18_0; omega))), (show 0 ≤ t20_0.toInt from (by first | with_reducible exact (q_fe btt20_0).2 | with_reducible exact (q_fe btt20_0).1 | (have t1 : 0 ≤ t20_0.toInt ∧ t20_0.toInt ≤ 64 := btt20_0; omega))), (show t20_0.toInt ≤ 64 from (by first | with_reducible exact (q_fe btt20_0).2 | with_reducible exact (q_fe btt20_0).1 | (have t1 : 0 ≤ t20_0.toInt ∧ t20_0.toInt ≤ 64 := btt20_0; omega))), (show 0 ≤ t22_0.toInt from (by first | with_reducible exact (q_fe btt22_0).2 | with_reducible exact (q_fe btt22_0).1 | (have t1 : 0 ≤ t22_0.toInt ∧ t22_0.toInt ≤ 64 := btt22_0; omega))), (show t22_0.toInt ≤ 64 from (by first | with_reducible exact (q_fe btt22_0).2 | with_reducible exact (q_fe btt22_0).1 | (have t1 : 0 ≤ t22_0.toInt ∧ t22_0.toInt ≤ 64 := btt22_0; omega))), (show t0_0.toInt ≤ y410.toInt from (by first | with_reducible exact q_fe b422 | (have t1 : t0_0.toInt ≤ y410.toInt := b422; omega))), (show y410.toInt ≤ t0_0.toInt + 1 from (by first | with_reducible exact q_fe b423 | (have t1 : y410.toInt ≤ t0_0.toInt + 1 := b423; omega))), (show t0_1.toInt ≤ y411.toInt from (by first | with_reducible exact q_fe b424 | (have t1 : t0_1.toInt ≤ y411.toInt := b424; omega))), (show y411.toInt ≤ t0_1.toInt from (by first | with_reducible exact q_fe b425 | (have t1 : y411.toInt ≤ t0_1.toInt := b425; omega))), (show t0_2.toInt ≤ y412.toInt from (by first | with_reducible exact q_fe b426 | (have t1 : t0_2.toInt ≤ y412.toInt := b426; omega))), (show y412.toInt ≤ t0_2.toInt from (by first | with_reducible exact q_fe b427 | (have t1 : y412.toInt ≤ t0_2.toInt := b427; omega))), (show t0_3.toInt ≤ y413.toInt from (by first | with_reducible exact q_fe b428 | (have t1 : t0_3.toInt ≤ y413.toInt := b428; omega))), (show y413.toInt ≤ t0_3.toInt from (by first | with_reducible exact q_fe b429 | (have t1 : y413.toInt ≤ t0_3.toInt := b429; omega))), (show t4_0.toInt ≤ t4_0.toInt + 64 from (by omega)), (show t4_0.toInt ≤ t4_0.toInt from (by omega)), (show (y410, y411, y412, y413, f414, f416, f418, t4_0, t6_0, t7_0, t8_0, t9_0, t10_0, t11_0, t12_0, t13_0, t14_0, t15_0, t16_0, t17_0, t18_0, t19_0, t20_0, t21_0, t22_0, t23_0) = (F_NH_addArgument x2 x3 t0_0 t0_1 t0_2 t0_3 t1_0 t2_0 t3_0 t4_0 t5_0 t6_0 t7_0 t8_0 t9_0 t10_0 t11_0 t12_0 t13_0 t14_0 t15_0 t16_0 t17_0 t18_0 t19_0 t20_0 t21_0 t22_0 t23_0 t24_0 t24_1 t25_0 t26_0 t26_1 t27_0 t27_1 t28_0) from Eq.trans (by rw [e440, e439, e438, e437, e436, e435, e434, F_NH_addArgument_c56.eq_1]) hR441)⟩) d_1_22_140
  ·
    refine lv_aload_n hx hb d_1_22_4 rfl (lv_at hl 0 rfl) ?_
    have hO447 := n_o0 hI
    refine q_get (ci := 0) (j := 13) (v := .ref (q 40)) C0 V i_NH rfl rfl hO447 (by decide) w_437 rfl d_1_22_5 ?_
    refine lv_iconst (v := 3) hx hb d_1_22_8 (by decide) ?_
    refine lv_aload_n hx hb d_1_22_9 rfl (lv_at hl 0 rfl) ?_
    refine q_get (ci := 0) (j := 2) (v := .ref (q 5)) C0 V i_NH rfl rfl hO447 (by decide) w_426 rfl d_1_22_10 ?_
    refine lv_iload_n hx hb d_1_22_13 rfl (lv_at hl 2 rfl) ?_
    have hX448 := n_fx hI (n_s5 g q)
    have ob449 : q_F (0 ≤ x3.toInt) := (by have h := hS; rw [S_NH_addArgument.eq_1] at h; rw [if_pos c88] at h; exact h.2.1)
    have ob450 : q_F (x3.toInt ≤ 9) := (by have h := hS; rw [S_NH_addArgument.eq_1] at h; rw [if_pos c88] at h; replace h := q_s2 h; exact h.2.1)
    have hj451 : x3.toNatClampNeg < 10 := by have z := q_clI (i := x3) (x := x3.toInt) rfl (by first | with_reducible exact q_fe ob449 | (have t1 : 0 ≤ x3.toInt := ob449; omega)); have t1 : 0 ≤ x3.toInt := ob449; have t2 : x3.toInt ≤ 9 := ob450; omega
    have hq452 := gk3x3 hj451
    refine q_aald (t := 4) (q := q k3) C0 V hX448 rfl (q_ix (x := x3.toInt) rfl (by first | with_reducible exact q_fe ob449 | (have t1 : 0 ≤ x3.toInt := ob449; omega)) (by have t1 : 0 ≤ x3.toInt := ob449; have t2 : x3.toInt ≤ 9 := ob450; omega)) (by rw [hq452]; exact n_fwv hj451) d_1_22_14 ?_
    refine q_gol V (q_runV (As := []) (rest := [.int 3, .ref (q 40)]) (d := 2) (mc := 0) (ms := 0) (ci := 2) C0 V rfl LV_NH_370 (X_Big_toLong l D g q ws k3 68 hBk3 (Or.inr yk3)  hI t24_0 t24_1 hT24 t25_0 hT25  _) rfl rfl hT24 rfl hl.1 rfl (Nat.le_of_ble_eq_true rfl) ⟨by decide, by decide⟩ ⟨Nat.le_of_ble_eq_true rfl, Nat.le_of_ble_eq_true rfl⟩ d_1_22_15) (fun j455 u453 H locs hp454 V => ?_)
    obtain ⟨rfl, hE456⟩ := hp454
    have e457 : j455 = (F_Big_toLong (68 : Int32) t24_0 t24_1 t25_0) := hE456
    refine lv_iconst (v := 0) hx hb d_1_22_18 (by decide) ?_
    refine q_gov V (q_runV (As := [.int 3, .long j455, .int 0]) (rest := []) (d := 1) (mc := 0) (ms := 0) (ci := 11) C0 V rfl LV_NH_374 (X_Pri_addNumber l D g q ws  3 j455 0 hI t0_0 t0_1 t0_2 t0_3 hT0 t1_0 hT1 t2_0 hT2 t3_0 hT3 (by have y0 : (3 : Int32).toInt = 3 := rfl; have y1 : (0 : Int32).toInt = 0 := rfl; omega) (by have y0 : (3 : Int32).toInt = 3 := rfl; have y1 : (0 : Int32).toInt = 0 := rfl; omega) _) rfl rfl hT0 rfl hl.1 rfl (Nat.le_of_ble_eq_true rfl) ⟨by decide, by decide⟩ ⟨Nat.le_of_ble_eq_true rfl, Nat.le_of_ble_eq_true rfl⟩ d_1_22_19) (fun u458 H locs hp459 V => ?_)
    obtain ⟨hI, hZ9⟩ := hp459
    obtain ⟨hu482, hZ9⟩ := hZ9
    obtain ⟨y461, hZ9⟩ := hZ9
    obtain ⟨y462, hZ9⟩ := hZ9
    obtain ⟨y463, hZ9⟩ := hZ9
    obtain ⟨y464, hZ9⟩ := hZ9
    obtain ⟨f465, hZ9⟩ := hZ9
    obtain ⟨f467, hZ9⟩ := hZ9
    obtain ⟨f469, hZ9⟩ := hZ9
    obtain ⟨hO460, hZ9⟩ := hZ9
    obtain ⟨hA466, hZ9⟩ := hZ9
    obtain ⟨hA468, hZ9⟩ := hZ9
    obtain ⟨hA470, hZ9⟩ := hZ9
    obtain ⟨b471, hZ9⟩ := hZ9
    obtain ⟨b472, hZ9⟩ := hZ9
    obtain ⟨b473, hZ9⟩ := hZ9
    obtain ⟨b474, hZ9⟩ := hZ9
    obtain ⟨b475, hZ9⟩ := hZ9
    obtain ⟨b476, hZ9⟩ := hZ9
    obtain ⟨b477, hZ9⟩ := hZ9
    obtain ⟨b478, hZ9⟩ := hZ9
    obtain ⟨b479, hZ9⟩ := hZ9
    obtain ⟨b480, hE481⟩ := hZ9
    replace hO460 : u458[40]? = (some (q 40, .inr (11, [.int y461, .ref (q 41), .ref (q 42), .ref (q 43), .ref (q 44), .ref (q 1), .ref (q 47), .ref (q 36), .ref (q 45), .int y462, .int y463, .int y464])) : Option (Nat × va_E)) := hO460
    replace hA466 : u458[41]? = (some (q 41, .inl (g 0, 9, .inl f465)) : Option (Nat × va_E)) := hA466
    replace hA468 : u458[42]? = (some (q 42, .inl (g 1, 9, .inr (.inl f467))) : Option (Nat × va_E)) := hA468
    replace hA470 : u458[43]? = (some (q 43, .inl (g 0, 9, .inl f469)) : Option (Nat × va_E)) := hA470
    obtain ⟨p483, e484⟩ : ∃ z, z = (F_Pri_addNumber (3 : Int32) j455 (0 : Int32) t0_0 t0_1 t0_2 t0_3 t1_0 t2_0 t3_0) := ⟨_, rfl⟩
    have e485 : y461 = p483.1 := congrArg (fun z => z.1) (hE481.trans e484.symm)
    have e486 : y462 = p483.2.1 := congrArg (fun z => z.2.1) (hE481.trans e484.symm)
    have e487 : y463 = p483.2.2.1 := congrArg (fun z => z.2.2.1) (hE481.trans e484.symm)
    have e488 : y464 = p483.2.2.2.1 := congrArg (fun z => z.2.2.2.1) (hE481.trans e484.symm)
    have e489 : f465 = p483.2.2.2.2.1 := congrArg (fun z => z.2.2.2.2.1) (hE481.trans e484.symm)
    have e490 : f467 = p483.2.2.2.2.2.1 := congrArg (fun z => z.2.2.2.2.2.1) (hE481.trans e484.symm)
    have e491 : f469 = p483.2.2.2.2.2.2 := congrArg (fun z => z.2.2.2.2.2.2) (hE481.trans e484.symm)
    replace b471 : q_F (1 ≤ y461.toInt) := b471
    replace b472 : q_F (y461.toInt ≤ 9) := b472
    replace b473 : q_F (t0_0.toInt ≤ y461.toInt) := b473
    replace b474 : q_F (y461.toInt ≤ t0_0.toInt + 1) := b474
    replace b475 : q_F (t0_1.toInt ≤ y462.toInt) := b475
    replace b476 : q_F (y462.toInt ≤ t0_1.toInt) := b476
    replace b477 : q_F (t0_2.toInt ≤ y463.toInt) := b477
    replace b478 : q_F (y463.toInt ≤ t0_2.toInt) := b478
    replace b479 : q_F (t0_3.toInt ≤ y464.toInt) := b479
    replace b480 : q_F (y464.toInt ≤ t0_3.toInt) := b480
    replace hT4 := (hu482 _ (by decide)).trans hT4
    replace hT6 := (hu482 _ (by decide)).trans hT6
    replace hT7 := (hu482 _ (by decide)).trans hT7
    replace hT8 := (hu482 _ (by decide)).trans hT8
    replace hT9 := (hu482 _ (by decide)).trans hT9
    replace hT10 := (hu482 _ (by decide)).trans hT10
    replace hT11 := (hu482 _ (by decide)).trans hT11
    replace hT12 := (hu482 _ (by decide)).trans hT12
    replace hT13 := (hu482 _ (by decide)).trans hT13
    replace hT14 := (hu482 _ (by decide)).trans hT14
    replace hT15 := (hu482 _ (by decide)).trans hT15
    replace hT16 := (hu482 _ (by decide)).trans hT16
    replace hT17 := (hu482 _ (by decide)).trans hT17
    replace hT18 := (hu482 _ (by decide)).trans hT18
    replace hT19 := (hu482 _ (by decide)).trans hT19
    replace hT20 := (hu482 _ (by decide)).trans hT20
    replace hT21 := (hu482 _ (by decide)).trans hT21
    replace hT22 := (hu482 _ (by decide)).trans hT22
    replace hT23 := (hu482 _ (by decide)).trans hT23
    replace hF := q_uc hF hu482 (by simp)
    have hR492 := (show F_NH_addArgument_c19 x2 x3 t0_0 t0_1 t0_2 t0_3 t1_0 t2_0 t3_0 t4_0 t5_0 t6_0 t7_0 t8_0 t9_0 t10_0 t11_0 t12_0 t13_0 t14_0 t15_0 t16_0 t17_0 t18_0 t19_0 t20_0 t21_0 t22_0 t23_0 t24_0 t24_1 t25_0 t26_0 t26_1 t27_0 t27_1 t28_0 p483 = (F_NH_addArgument x2 x3 t0_0 t0_1 t0_2 t0_3 t1_0 t2_0 t3_0 t4_0 t5_0 t6_0 t7_0 t8_0 t9_0 t10_0 t11_0 t12_0 t13_0 t14_0 t15_0 t16_0 t17_0 t18_0 t19_0 t20_0 t21_0 t22_0 t23_0 t24_0 t24_1 t25_0 t26_0 t26_1 t27_0 t27_1 t28_0) from (by rw [e484, e457, F_NH_addArgument.eq_1, if_pos c88]))
    have hS493 := (show True ∧ S_NH_addArgument_c19 x2 x3 t0_0 t0_1 t0_2 t0_3 t1_0 t2_0 t3_0 t4_0 t5_0 t6_0 t7_0 t8_0 t9_0 t10_0 t11_0 t12_0 t13_0 t14_0 t15_0 t16_0 t17_0 t18_0 t19_0 t20_0 t21_0 t22_0 t23_0 t24_0 t24_1 t25_0 t26_0 t26_1 t27_0 t27_1 t28_0 p483 from (by rw [e484, e457]; have h := hS; rw [S_NH_addArgument.eq_1] at h; rw [if_pos c88] at h; replace h := q_s2 h; replace h := q_s2 h; with_reducible exact h))
    refine lv_goto (tgt := 140) hx hb d_1_22_22 (by decide) ?_
    exact q_retv C0 V (⟨hI, hF, y461, y462, y463, y464, f465, f467, f469, t4_0, t6_0, t7_0, t8_0, t9_0, t10_0, t11_0, t12_0, t13_0, t14_0, t15_0, t16_0, t17_0, t18_0, t19_0, t20_0, t21_0, t22_0, t23_0, hO460, hA466, hA468, hA470, hT4, hT6, hT7, hT8, hT9, hT10, hT11, hT12, hT13, hT14, hT15, hT16, hT17, hT18, hT19, hT20, hT21, hT22, hT23, (show 1 ≤ y461.toInt from (by first | with_reducible exact q_fe b471 | (have t1 : 1 ≤ y461.toInt := b471; omega))), (show y461.toInt ≤ 9 from (by first | with_reducible exact q_fe b472 | (have t1 : y461.toInt ≤ 9 := b472; omega))), (show 0 ≤ y462.toInt + 1 from (by have t1 : -1 ≤ t0_1.toInt ∧ t0_1.toInt ≤ 1000000 := btt0_1; have t2 : t0_1.toInt ≤ y462.toInt := b475; omega)), (show y462.toInt ≤ 1000000 from (by have t1 : -1 ≤ t0_1.toInt ∧ t0_1.toInt ≤ 1000000 := btt0_1; have t2 : y462.toInt ≤ t0_1.toInt := b476; omega)), (show 0 ≤ y464.toInt + 1 from (by have t1 : -1 ≤ t0_3.toInt ∧ t0_3.toInt ≤ 8 := btt0_3; have t2 : t0_3.toInt ≤ y464.toInt := b479; omega)), (show y464.toInt ≤ 8 from (by have t1 : -1 ≤ t0_3.toInt ∧ t0_3.toInt ≤ 8 := btt0_3; have t2 : y464.toInt ≤ t0_3.toInt := b480; omega)), (show 0 ≤ t4_0.toInt from (by first | with_reducible exact (q_fe btt4_0).2 | with_reducible exact (q_fe btt4_0).1 | (have t1 : 0 ≤ t4_0.toInt ∧ t4_0.toInt ≤ 4100 := btt4_0; omega))), (show t4_0.toInt ≤ 4100 from (by first | with_reducible exact (q_fe btt4_0).2 | with_reducible exact (q_fe btt4_0).1 | (have t1 : 0 ≤ t4_0.toInt ∧ t4_0.toInt ≤ 4100 := btt4_0; omega))), (show 0 ≤ t6_0.toInt from (by first | with_reducible exact (q_fe btt6_0).2 | with_reducible exact (q_fe btt6_0).1 | (have t1 : 0 ≤ t6_0.toInt ∧ t6_0.toInt ≤ 64 := btt6_0; omega))), (show t6_0.toInt ≤ 64 from (by first | with_reducible exact (q_fe btt6_0).2 | with_reducible exact (q_fe btt6_0).1 | (have t1 : 0 ≤ t6_0.toInt ∧ t6_0.toInt ≤ 64 := btt6_0; omega))), (show 0 ≤ t8_0.toInt from (by first | with_reducible exact (q_fe btt8_0).2 | with_reducible exact (q_fe btt8_0).1 | (have t1 : 0 ≤ t8_0.toInt ∧ t8_0.toInt ≤ 64 := btt8_0; omega))), (show t8_0.toInt ≤ 64 from (by first | with_reducible exact (q_fe btt8_0).2 | with_reducible exact (q_fe btt8_0).1 | (have t1 : 0 ≤ t8_0.toInt ∧ t8_0.toInt ≤ 64 := btt8_0; omega))), (show 0 ≤ t10_0.toInt from (by first | with_reducible exact (q_fe btt10_0).2 | with_reducible exact (q_fe btt10_0).1 | (have t1 : 0 ≤ t10_0.toInt ∧ t10_0.toInt ≤ 64 := btt10_0; omega))), (show t10_0.toInt ≤ 64 from (by first | with_reducible exact (q_fe btt10_0).2 | with_reducible exact (q_fe btt10_0).1 | (have t1 : 0 ≤ t10_0.toInt ∧ t10_0.toInt ≤ 64 := btt10_0; omega))), (show 0 ≤ t12_0.toInt from (by first | with_reducible exact (q_fe btt12_0).2 | with_reducible exact (q_fe btt12_0).1 | (have t1 : 0 ≤ t12_0.toInt ∧ t12_0.toInt ≤ 64 := btt12_0; omega))), (show t12_0.toInt ≤ 64 from (by first | with_reducible exact (q_fe btt12_0).2 | with_reducible exact (q_fe btt12_0).1 | (have t1 : 0 ≤ t12_0.toInt ∧ t12_0.toInt ≤ 64 := btt12_0; omega))), (show 0 ≤ t14_0.toInt from (by first | with_reducible exact (q_fe btt14_0).2 | with_reducible exact (q_fe btt14_0).1 | (have t1 : 0 ≤ t14_0.toInt ∧ t14_0.toInt ≤ 64 := btt14_0; omega))), (show t14_0.toInt ≤ 64 from (by first | with_reducible exact (q_fe btt14_0).2 | with_reducible exact (q_fe btt14_0).1 | (have t1 : 0 ≤ t14_0.toInt ∧ t14_0.toInt ≤ 64 := btt14_0; omega))), (show 0 ≤ t16_0.toInt from (by first | with_reducible exact (q_fe btt16_0).2 | with_reducible exact (q_fe btt16_0).1 | (have t1 : 0 ≤ t16_0.toInt ∧ t16_0.toInt ≤ 64 := btt16_0; omega))), (show t16_0.toInt ≤ 64 from (by first | with_reducible exact (q_fe btt16_0).2 | with_reducible exact (q_fe btt16_0).1 | (have t1 : 0 ≤ t16_0.toInt ∧ t16_0.toInt ≤ 64 := btt16_0; omega))), (show 0 ≤ t18_0.toInt from (by first | with_reducible exact (q_fe btt18_0).2 | with_reducible exact (q_fe btt18_0).1 | (have t1 : 0 ≤ t18_0.toInt ∧ t18_0.toInt ≤ 64 := btt18_0; omega))), (show t18_0.toInt ≤ 64 from (by first | with_reducible exact (q_fe btt18_0).2 | with_reducible exact (q_fe btt18_0).1 | (have t1 : 0 ≤ t18_0.toInt ∧ t18_0.toInt ≤ 64 := btt18_0; omega))), (show 0 ≤ t20_0.toInt from (by first | with_reducible exact (q_fe btt20_0).2 | with_reducible exact (q_fe btt20_0).1 | (have t1 : 0 ≤ t20_0.toInt ∧ t20_0.toInt ≤ 64 := btt20_0; omega))), (show t20_0.toInt ≤ 64 from (by first | with_reducible exact (q_fe btt20_0).2 | with_reducible exact (q_fe btt20_0).1 | (have t1 : 0 ≤ t20_0.toInt ∧ t20_0.toInt ≤ 64 := btt20_0; omega))), (show 0 ≤ t22_0.toInt from (by first | with_reducible exact (q_fe btt22_0).2 | with_reducible exact (q_fe btt22_0).1 | (have t1 : 0 ≤ t22_0.toInt ∧ t22_0.toInt ≤ 64 := btt22_0; omega))), (show t22_0.toInt ≤ 64 from (by first | with_reducible exact (q_fe btt22_0).2 | with_reducible exact (q_fe btt22_0).1 | (have t1 : 0 ≤ t22_0.toInt ∧ t22_0.toInt ≤ 64 := btt22_0; omega))), (show t0_0.toInt ≤ y461.toInt from (by first | with_reducible exact q_fe b473 | (have t1 : t0_0.toInt ≤ y461.toInt := b473; omega))), (show y461.toInt ≤ t0_0.toInt + 1 from (by first | with_reducible exact q_fe b474 | (have t1 : y461.toInt ≤ t0_0.toInt + 1 := b474; omega))), (show t0_1.toInt ≤ y462.toInt from (by first | with_reducible exact q_fe b475 | (have t1 : t0_1.toInt ≤ y462.toInt := b475; omega))), (show y462.toInt ≤ t0_1.toInt from (by first | with_reducible exact q_fe b476 | (have t1 : y462.toInt ≤ t0_1.toInt := b476; omega))), (show t0_2.toInt ≤ y463.toInt from (by first | with_reducible exact q_fe b477 | (have t1 : t0_2.toInt ≤ y463.toInt := b477; omega))), (show y463.toInt ≤ t0_2.toInt from (by first | with_reducible exact q_fe b478 | (have t1 : y463.toInt ≤ t0_2.toInt := b478; omega))), (show t0_3.toInt ≤ y464.toInt from (by first | with_reducible exact q_fe b479 | (have t1 : t0_3.toInt ≤ y464.toInt := b479; omega))), (show y464.toInt ≤ t0_3.toInt from (by first | with_reducible exact q_fe b480 | (have t1 : y464.toInt ≤ t0_3.toInt := b480; omega))), (show t4_0.toInt ≤ t4_0.toInt + 64 from (by omega)), (show t4_0.toInt ≤ t4_0.toInt from (by omega)), (show (y461, y462, y463, y464, f465, f467, f469, t4_0, t6_0, t7_0, t8_0, t9_0, t10_0, t11_0, t12_0, t13_0, t14_0, t15_0, t16_0, t17_0, t18_0, t19_0, t20_0, t21_0, t22_0, t23_0) = (F_NH_addArgument x2 x3 t0_0 t0_1 t0_2 t0_3 t1_0 t2_0 t3_0 t4_0 t5_0 t6_0 t7_0 t8_0 t9_0 t10_0 t11_0 t12_0 t13_0 t14_0 t15_0 t16_0 t17_0 t18_0 t19_0 t20_0 t21_0 t22_0 t23_0 t24_0 t24_1 t25_0 t26_0 t26_1 t27_0 t27_1 t28_0) from Eq.trans (by rw [e491, e490, e489, e488, e487, e486, e485, F_NH_addArgument_c19.eq_1]) hR492)⟩) d_1_22_140

