theorem d_4_16_0 : decode prog_4_method_16_code 0 = .ok (.aload_n 0, 1) := by decide +kernel
theorem d_4_16_1 : decode prog_4_method_16_code 1 = .ok (.getfield 20, 3) := by decide +kernel
theorem d_4_16_4 : decode prog_4_method_16_code 4 = .ok (.getfield 72, 3) := by decide +kernel
theorem d_4_16_7 : decode prog_4_method_16_code 7 = .ok (.aload_n 0, 1) := by decide +kernel
theorem d_4_16_8 : decode prog_4_method_16_code 8 = .ok (.getfield 20, 3) := by decide +kernel
theorem d_4_16_11 : decode prog_4_method_16_code 11 = .ok (.getfield 55, 3) := by decide +kernel
theorem d_4_16_14 : decode prog_4_method_16_code 14 = .ok (.invokevirtual 44, 3) := by decide +kernel
theorem d_4_16_17 : decode prog_4_method_16_code 17 = .ok (.aload_n 0, 1) := by decide +kernel
theorem d_4_16_18 : decode prog_4_method_16_code 18 = .ok (.getfield 146, 3) := by decide +kernel
theorem d_4_16_44 : decode prog_4_method_16_code 44 = .ok (.istore 6, 2) := by decide +kernel
theorem d_4_16_46 : decode prog_4_method_16_code 46 = .ok (.aload_n 0, 1) := by decide +kernel
theorem d_4_16_47 : decode prog_4_method_16_code 47 = .ok (.iload_n 1, 1) := by decide +kernel
theorem d_4_16_48 : decode prog_4_method_16_code 48 = .ok (.iload 5, 2) := by decide +kernel
theorem d_4_16_50 : decode prog_4_method_16_code 50 = .ok (.invokevirtual 142, 3) := by decide +kernel
set_option maxRecDepth 100000 in
theorem w_1450 : (Cond.code ({ cls := "NumberHouse$DecimalWork", name := "roundLast", desc := "(ZI)Z" } : MethodName) prog_4_method_17_code (5 : Nat) (some .boolean)) ∈ q_tbl := q_of7 10 rfl (by decide +kernel)
set_option maxRecDepth 100000 in
theorem w_1447 : (Cond.methodLink "NumberHouse$DecimalWork" (142 : Nat) ({ cls := "NumberHouse$DecimalWork", name := "roundLast", desc := "(ZI)Z" } : MethodName)) ∈ q_tbl := q_of7 7 rfl (by decide +kernel)
set_option maxRecDepth 100000 in
theorem w_1449 : (Cond.instanceMethod ({ cls := "NumberHouse$DecimalWork", name := "roundLast", desc := "(ZI)Z" } : MethodName)) ∈ q_tbl := q_of7 9 rfl (by decide +kernel)
theorem ws_30 : Cond.selects "NumberHouse$DecimalWork" (⟨"NumberHouse$DecimalWork", "roundLast", "(ZI)Z"⟩ : MethodName) (⟨"NumberHouse$DecimalWork", "roundLast", "(ZI)Z"⟩ : MethodName) ∈ q_tbl := q_ofs 30 (by decide +kernel) (by decide +kernel)
theorem LV_DW_142 : q_LV "NumberHouse$DecimalWork" 142 y_DW_roundLast prog_4_method_17_code 5 (some .boolean) 2 := ⟨w_1450, w_5, w_1447, w_1449, ws_30, ⟨by decide, by decide, by decide +kernel⟩⟩
theorem d_4_16_53 : decode prog_4_method_16_code 53 = .ok (.ifCond .ne 5, 3) := by decide +kernel
theorem d_4_16_58 : decode prog_4_method_16_code 58 = .ok (.iload 6, 2) := by decide +kernel
theorem d_4_16_60 : decode prog_4_method_16_code 60 = .ok (.ifCond .eq 36, 3) := by decide +kernel
theorem d_4_16_96 : decode prog_4_method_16_code 96 = .ok (.aload_n 0, 1) := by decide +kernel
theorem d_4_16_97 : decode prog_4_method_16_code 97 = .ok (.getfield 20, 3) := by decide +kernel
theorem d_4_16_100 : decode prog_4_method_16_code 100 = .ok (.aload_n 0, 1) := by decide +kernel
theorem d_4_16_101 : decode prog_4_method_16_code 101 = .ok (.getfield 20, 3) := by decide +kernel
theorem d_4_16_104 : decode prog_4_method_16_code 104 = .ok (.getfield 55, 3) := by decide +kernel
theorem d_4_16_107 : decode prog_4_method_16_code 107 = .ok (.invokevirtual 34, 3) := by decide +kernel
theorem d_4_16_110 : decode prog_4_method_16_code 110 = .ok (.iload_n 2, 1) := by decide +kernel
theorem d_4_16_111 : decode prog_4_method_16_code 111 = .ok (.if_icmp .le 25, 3) := by decide +kernel
theorem d_4_16_136 : decode prog_4_method_16_code 136 = .ok (.iconst 1, 1) := by decide +kernel
theorem d_4_16_137 : decode prog_4_method_16_code 137 = .ok (.ireturn, 1) := by decide +kernel
theorem d_4_16_114 : decode prog_4_method_16_code 114 = .ok (.aload_n 0, 1) := by decide +kernel
theorem d_4_16_115 : decode prog_4_method_16_code 115 = .ok (.getfield 20, 3) := by decide +kernel
theorem d_4_16_118 : decode prog_4_method_16_code 118 = .ok (.getfield 55, 3) := by decide +kernel
theorem d_4_16_121 : decode prog_4_method_16_code 121 = .ok (.iconst 1, 1) := by decide +kernel
theorem d_4_16_122 : decode prog_4_method_16_code 122 = .ok (.invokevirtual 149, 3) := by decide +kernel
set_option maxRecDepth 100000 in
theorem w_1446 : (Cond.code ({ cls := "NumberHouse$Big", name := "dropFigures", desc := "(I)Z" } : MethodName) prog_2_method_30_code (4 : Nat) (some .boolean)) ∈ q_tbl := q_of7 6 rfl (by decide +kernel)
set_option maxRecDepth 100000 in
theorem w_1443 : (Cond.methodLink "NumberHouse$DecimalWork" (149 : Nat) ({ cls := "NumberHouse$Big", name := "dropFigures", desc := "(I)Z" } : MethodName)) ∈ q_tbl := q_of7 3 rfl (by decide +kernel)
set_option maxRecDepth 100000 in
theorem w_1444 : (Cond.instanceMethod ({ cls := "NumberHouse$Big", name := "dropFigures", desc := "(I)Z" } : MethodName)) ∈ q_tbl := q_of7 4 rfl (by decide +kernel)
set_option maxRecDepth 100000 in
theorem w_1445 : (Cond.selects "NumberHouse$Big" ({ cls := "NumberHouse$Big", name := "dropFigures", desc := "(I)Z" } : MethodName) ({ cls := "NumberHouse$Big", name := "dropFigures", desc := "(I)Z" } : MethodName)) ∈ q_tbl := q_of7 5 rfl (by decide +kernel)
theorem LV_DW_149 : q_LV "NumberHouse$DecimalWork" 149 y_Big_dropFigures prog_2_method_30_code 4 (some .boolean) 1 := ⟨w_1446, w_4, w_1443, w_1444, w_1445, ⟨by decide, by decide, by decide +kernel⟩⟩
theorem d_4_16_125 : decode prog_4_method_16_code 125 = .ok (.pop, 1) := by decide +kernel
theorem d_4_16_126 : decode prog_4_method_16_code 126 = .ok (.aload_n 0, 1) := by decide +kernel
theorem d_4_16_127 : decode prog_4_method_16_code 127 = .ok (.dup, 1) := by decide +kernel
theorem d_4_16_128 : decode prog_4_method_16_code 128 = .ok (.getfield 56, 3) := by decide +kernel
theorem d_4_16_131 : decode prog_4_method_16_code 131 = .ok (.lconst 1, 1) := by decide +kernel
theorem d_4_16_132 : decode prog_4_method_16_code 132 = .ok (.lsub, 1) := by decide +kernel
theorem d_4_16_133 : decode prog_4_method_16_code 133 = .ok (.putfield 56, 3) := by decide +kernel
theorem d_4_16_63 : decode prog_4_method_16_code 63 = .ok (.aload_n 0, 1) := by decide +kernel
theorem d_4_16_64 : decode prog_4_method_16_code 64 = .ok (.dup, 1) := by decide +kernel
theorem d_4_16_65 : decode prog_4_method_16_code 65 = .ok (.getfield 56, 3) := by decide +kernel
theorem d_4_16_68 : decode prog_4_method_16_code 68 = .ok (.aload_n 0, 1) := by decide +kernel
theorem d_4_16_69 : decode prog_4_method_16_code 69 = .ok (.getfield 20, 3) := by decide +kernel
theorem d_4_16_72 : decode prog_4_method_16_code 72 = .ok (.aload_n 0, 1) := by decide +kernel
theorem d_4_16_73 : decode prog_4_method_16_code 73 = .ok (.getfield 20, 3) := by decide +kernel
theorem d_4_16_76 : decode prog_4_method_16_code 76 = .ok (.getfield 55, 3) := by decide +kernel
theorem d_4_16_79 : decode prog_4_method_16_code 79 = .ok (.aload_n 0, 1) := by decide +kernel
theorem d_4_16_80 : decode prog_4_method_16_code 80 = .ok (.getfield 56, 3) := by decide +kernel
theorem d_4_16_83 : decode prog_4_method_16_code 83 = .ok (.lload_n 3, 1) := by decide +kernel
theorem d_4_16_84 : decode prog_4_method_16_code 84 = .ok (.lsub, 1) := by decide +kernel
theorem d_4_16_85 : decode prog_4_method_16_code 85 = .ok (.invokevirtual 131, 3) := by decide +kernel
theorem d_4_16_88 : decode prog_4_method_16_code 88 = .ok (.i2l, 1) := by decide +kernel
theorem d_4_16_89 : decode prog_4_method_16_code 89 = .ok (.lsub, 1) := by decide +kernel
theorem d_4_16_90 : decode prog_4_method_16_code 90 = .ok (.putfield 56, 3) := by decide +kernel
theorem d_4_16_93 : decode prog_4_method_16_code 93 = .ok (.goto 43, 3) := by decide +kernel
theorem d_4_16_56 : decode prog_4_method_16_code 56 = .ok (.iconst 0, 1) := by decide +kernel
theorem d_4_16_57 : decode prog_4_method_16_code 57 = .ok (.ireturn, 1) := by decide +kernel
theorem d_4_16_43 : decode prog_4_method_16_code 43 = .ok (.iconst 0, 1) := by decide +kernel
theorem d_4_16_21 : decode prog_4_method_16_code 21 = .ok (.ifCond .ne 22, 3) := by decide +kernel
theorem d_4_16_24 : decode prog_4_method_16_code 24 = .ok (.aload_n 0, 1) := by decide +kernel
theorem d_4_16_25 : decode prog_4_method_16_code 25 = .ok (.getfield 20, 3) := by decide +kernel
theorem d_4_16_28 : decode prog_4_method_16_code 28 = .ok (.getfield 72, 3) := by decide +kernel
theorem d_4_16_31 : decode prog_4_method_16_code 31 = .ok (.bipush 10, 2) := by decide +kernel
theorem d_4_16_33 : decode prog_4_method_16_code 33 = .ok (.invokevirtual 169, 3) := by decide +kernel
theorem d_4_16_36 : decode prog_4_method_16_code 36 = .ok (.ifCond .ne 7, 3) := by decide +kernel
theorem d_4_16_39 : decode prog_4_method_16_code 39 = .ok (.iconst 1, 1) := by decide +kernel
theorem d_4_16_40 : decode prog_4_method_16_code 40 = .ok (.goto 4, 3) := by decide +kernel
def y_DW_shorten : MethodName := ⟨"NumberHouse$DecimalWork", "shorten", "(ZIJI)Z"⟩
def F_DW_shorten_c122 (x2 : Int32) (x3 : Int32) (x4 : Int64) (x5 : Int32) (t0_0 : Int64) (t0_1 : Int32) (t1_0 : Int32) (t1_1 : Int32) (t2_0 : (Nat → Int32)) (t3_0 : Int32) (t3_1 : Int32) (t4_0 : (Nat → Int32)) (t5_0 : Int32) (t5_1 : Int32) (t6_0 : (Nat → Int32)) (p44 : (Int32 × Int32 × (Nat → Int32))) (lx54 : Int32) (lx55 : Int32) (lx56 : Int32) (lx57 : (Nat → Int32)) (p106 : (Int32 × Int32 × Int32 × (Nat → Int32) × Int32 × Int32 × (Nat → Int32))) (y84 : Int32) (y85 : Int32) (f86 : (Nat → Int32)) (y89 : Int32) (y90 : Int32) (f91 : (Nat → Int32)) (p139 : (Int32 × Int32 × Int32 × (Nat → Int32))) (y129 : Int32) (y130 : Int32) (f131 : (Nat → Int32)) (p170 : (Int32 × Int32 × Int32 × (Nat → Int32))) : Int32 × Int64 × Int32 × Int32 × Int32 × (Nat → Int32) × Int32 × Int32 × (Nat → Int32) × Int32 × Int32 × (Nat → Int32) := ((1 : Int32), (t0_0 - 1 : Int64), t0_1, (p170.2.1 : Int32), (p170.2.2.1 : Int32), (p170.2.2.2 : (Nat → Int32)), y89, y90, f91, y129, y130, f131)
def F_DW_shorten_c107 (x2 : Int32) (x3 : Int32) (x4 : Int64) (x5 : Int32) (t0_0 : Int64) (t0_1 : Int32) (t1_0 : Int32) (t1_1 : Int32) (t2_0 : (Nat → Int32)) (t3_0 : Int32) (t3_1 : Int32) (t4_0 : (Nat → Int32)) (t5_0 : Int32) (t5_1 : Int32) (t6_0 : (Nat → Int32)) (p44 : (Int32 × Int32 × (Nat → Int32))) (lx54 : Int32) (lx55 : Int32) (lx56 : Int32) (lx57 : (Nat → Int32)) (p106 : (Int32 × Int32 × Int32 × (Nat → Int32) × Int32 × Int32 × (Nat → Int32))) (y84 : Int32) (y85 : Int32) (f86 : (Nat → Int32)) (y89 : Int32) (y90 : Int32) (f91 : (Nat → Int32)) (p139 : (Int32 × Int32 × Int32 × (Nat → Int32))) : Int32 × Int64 × Int32 × Int32 × Int32 × (Nat → Int32) × Int32 × Int32 × (Nat → Int32) × Int32 × Int32 × (Nat → Int32) := if (p139.1 : Int32) ≤ x3 then (((1 : Int32), t0_0, t0_1, y84, y85, f86, y89, y90, f91, (p139.2.1 : Int32), (p139.2.2.1 : Int32), (p139.2.2.2 : (Nat → Int32)))) else (F_DW_shorten_c122 x2 x3 x4 x5 t0_0 t0_1 t1_0 t1_1 t2_0 t3_0 t3_1 t4_0 t5_0 t5_1 t6_0 p44 lx54 lx55 lx56 lx57 p106 y84 y85 f86 y89 y90 f91 p139 (p139.2.1 : Int32) (p139.2.2.1 : Int32) (p139.2.2.2 : (Nat → Int32)) ((F_Big_dropFigures (220 : Int32) (1 : Int32) y84 y85 f86) : (Int32 × Int32 × Int32 × (Nat → Int32))))
def F_DW_shorten_c85 (x2 : Int32) (x3 : Int32) (x4 : Int64) (x5 : Int32) (t0_0 : Int64) (t0_1 : Int32) (t1_0 : Int32) (t1_1 : Int32) (t2_0 : (Nat → Int32)) (t3_0 : Int32) (t3_1 : Int32) (t4_0 : (Nat → Int32)) (t5_0 : Int32) (t5_1 : Int32) (t6_0 : (Nat → Int32)) (p44 : (Int32 × Int32 × (Nat → Int32))) (lx54 : Int32) (lx55 : Int32) (lx56 : Int32) (lx57 : (Nat → Int32)) (p106 : (Int32 × Int32 × Int32 × (Nat → Int32) × Int32 × Int32 × (Nat → Int32))) (y89 : Int32) (y90 : Int32) (f91 : (Nat → Int32)) (p214 : (Int32 × Int32 × Int32 × (Nat → Int32) × Int32 × Int32 × (Nat → Int32))) : Int32 × Int64 × Int32 × Int32 × Int32 × (Nat → Int32) × Int32 × Int32 × (Nat → Int32) × Int32 × Int32 × (Nat → Int32) := ((1 : Int32), (t0_0 - ((p214.1 : Int32).toInt64 : Int64) : Int64), t0_1, (p214.2.2.2.2.1 : Int32), (p214.2.2.2.2.2.1 : Int32), (p214.2.2.2.2.2.2 : (Nat → Int32)), y89, y90, f91, (p214.2.1 : Int32), (p214.2.2.1 : Int32), (p214.2.2.2.1 : (Nat → Int32)))
def F_DW_shorten_c50 (x2 : Int32) (x3 : Int32) (x4 : Int64) (x5 : Int32) (t0_0 : Int64) (t0_1 : Int32) (t1_0 : Int32) (t1_1 : Int32) (t2_0 : (Nat → Int32)) (t3_0 : Int32) (t3_1 : Int32) (t4_0 : (Nat → Int32)) (t5_0 : Int32) (t5_1 : Int32) (t6_0 : (Nat → Int32)) (p44 : (Int32 × Int32 × (Nat → Int32))) (lx54 : Int32) (lx55 : Int32) (lx56 : Int32) (lx57 : (Nat → Int32)) (p106 : (Int32 × Int32 × Int32 × (Nat → Int32) × Int32 × Int32 × (Nat → Int32))) : Int32 × Int64 × Int32 × Int32 × Int32 × (Nat → Int32) × Int32 × Int32 × (Nat → Int32) × Int32 × Int32 × (Nat → Int32) := if (p106.1 : Int32) = (0 : Int32) then (((0 : Int32), t0_0, t0_1, (p106.2.1 : Int32), (p106.2.2.1 : Int32), (p106.2.2.2.1 : (Nat → Int32)), (p106.2.2.2.2.1 : Int32), (p106.2.2.2.2.2.1 : Int32), (p106.2.2.2.2.2.2 : (Nat → Int32)), t5_0, t5_1, t6_0)) else (if lx54 = (0 : Int32) then (F_DW_shorten_c107 x2 x3 x4 x5 t0_0 t0_1 t1_0 t1_1 t2_0 t3_0 t3_1 t4_0 t5_0 t5_1 t6_0 p44 lx54 lx55 lx56 lx57 p106 (p106.2.1 : Int32) (p106.2.2.1 : Int32) (p106.2.2.2.1 : (Nat → Int32)) (p106.2.2.2.2.1 : Int32) (p106.2.2.2.2.2.1 : Int32) (p106.2.2.2.2.2.2 : (Nat → Int32)) ((F_Mil_countFigures (220 : Int32) t5_0 t5_1 t6_0 (p106.2.1 : Int32) (p106.2.2.1 : Int32) (p106.2.2.2.1 : (Nat → Int32))) : (Int32 × Int32 × Int32 × (Nat → Int32)))) else (F_DW_shorten_c85 x2 x3 x4 x5 t0_0 t0_1 t1_0 t1_1 t2_0 t3_0 t3_1 t4_0 t5_0 t5_1 t6_0 p44 lx54 lx55 lx56 lx57 p106 (p106.2.2.2.2.1 : Int32) (p106.2.2.2.2.2.1 : Int32) (p106.2.2.2.2.2.2 : (Nat → Int32)) ((F_Mil_dropZeros (220 : Int32) (t0_0 - x4 : Int64) t5_0 t5_1 t6_0 (p106.2.1 : Int32) (p106.2.2.1 : Int32) (p106.2.2.2.1 : (Nat → Int32))) : (Int32 × Int32 × Int32 × (Nat → Int32) × Int32 × Int32 × (Nat → Int32)))))
def F_DW_shorten_J44 (x2 : Int32) (x3 : Int32) (x4 : Int64) (x5 : Int32) (t0_0 : Int64) (t0_1 : Int32) (t1_0 : Int32) (t1_1 : Int32) (t2_0 : (Nat → Int32)) (t3_0 : Int32) (t3_1 : Int32) (t4_0 : (Nat → Int32)) (t5_0 : Int32) (t5_1 : Int32) (t6_0 : (Nat → Int32)) (p44 : (Int32 × Int32 × (Nat → Int32))) (lx54 : Int32) (lx55 : Int32) (lx56 : Int32) (lx57 : (Nat → Int32)) : Int32 × Int64 × Int32 × Int32 × Int32 × (Nat → Int32) × Int32 × Int32 × (Nat → Int32) × Int32 × Int32 × (Nat → Int32) := F_DW_shorten_c50 x2 x3 x4 x5 t0_0 t0_1 t1_0 t1_1 t2_0 t3_0 t3_1 t4_0 t5_0 t5_1 t6_0 p44 lx54 lx55 lx56 lx57 ((F_DW_roundLast x2 x5 t0_0 t0_1 t1_0 t1_1 t2_0 lx55 lx56 lx57) : (Int32 × Int32 × Int32 × (Nat → Int32) × Int32 × Int32 × (Nat → Int32)))
def F_DW_shorten_J43 (x2 : Int32) (x3 : Int32) (x4 : Int64) (x5 : Int32) (t0_0 : Int64) (t0_1 : Int32) (t1_0 : Int32) (t1_1 : Int32) (t2_0 : (Nat → Int32)) (t3_0 : Int32) (t3_1 : Int32) (t4_0 : (Nat → Int32)) (t5_0 : Int32) (t5_1 : Int32) (t6_0 : (Nat → Int32)) (p44 : (Int32 × Int32 × (Nat → Int32))) (lx236 : Int32) (lx237 : Int32) (lx238 : (Nat → Int32)) : Int32 × Int64 × Int32 × Int32 × Int32 × (Nat → Int32) × Int32 × Int32 × (Nat → Int32) × Int32 × Int32 × (Nat → Int32) := F_DW_shorten_J44 x2 x3 x4 x5 t0_0 t0_1 t1_0 t1_1 t2_0 t3_0 t3_1 t4_0 t5_0 t5_1 t6_0 p44 0 lx236 lx237 lx238
def F_DW_shorten_c33 (x2 : Int32) (x3 : Int32) (x4 : Int64) (x5 : Int32) (t0_0 : Int64) (t0_1 : Int32) (t1_0 : Int32) (t1_1 : Int32) (t2_0 : (Nat → Int32)) (t3_0 : Int32) (t3_1 : Int32) (t4_0 : (Nat → Int32)) (t5_0 : Int32) (t5_1 : Int32) (t6_0 : (Nat → Int32)) (p44 : (Int32 × Int32 × (Nat → Int32))) (p275 : (Int32 × Int32 × Int32 × (Nat → Int32))) : Int32 × Int64 × Int32 × Int32 × Int32 × (Nat → Int32) × Int32 × Int32 × (Nat → Int32) × Int32 × Int32 × (Nat → Int32) := if (p275.1 : Int32) = (0 : Int32) then (F_DW_shorten_J44 x2 x3 x4 x5 t0_0 t0_1 t1_0 t1_1 t2_0 t3_0 t3_1 t4_0 t5_0 t5_1 t6_0 p44 1 (p275.2.1 : Int32) (p275.2.2.1 : Int32) (p275.2.2.2 : (Nat → Int32))) else (F_DW_shorten_J43 x2 x3 x4 x5 t0_0 t0_1 t1_0 t1_1 t2_0 t3_0 t3_1 t4_0 t5_0 t5_1 t6_0 p44 (p275.2.1 : Int32) (p275.2.2.1 : Int32) (p275.2.2.2 : (Nat → Int32)))
def F_DW_shorten_c14 (x2 : Int32) (x3 : Int32) (x4 : Int64) (x5 : Int32) (t0_0 : Int64) (t0_1 : Int32) (t1_0 : Int32) (t1_1 : Int32) (t2_0 : (Nat → Int32)) (t3_0 : Int32) (t3_1 : Int32) (t4_0 : (Nat → Int32)) (t5_0 : Int32) (t5_1 : Int32) (t6_0 : (Nat → Int32)) (p44 : (Int32 × Int32 × (Nat → Int32))) : Int32 × Int64 × Int32 × Int32 × Int32 × (Nat → Int32) × Int32 × Int32 × (Nat → Int32) × Int32 × Int32 × (Nat → Int32) := if t0_1 = (0 : Int32) then (F_DW_shorten_c33 x2 x3 x4 x5 t0_0 t0_1 t1_0 t1_1 t2_0 t3_0 t3_1 t4_0 t5_0 t5_1 t6_0 p44 ((F_Big_divideSmall (220 : Int32) (10 : Int32) (p44.1 : Int32) (p44.2.1 : Int32) (p44.2.2 : (Nat → Int32))) : (Int32 × Int32 × Int32 × (Nat → Int32)))) else (F_DW_shorten_J43 x2 x3 x4 x5 t0_0 t0_1 t1_0 t1_1 t2_0 t3_0 t3_1 t4_0 t5_0 t5_1 t6_0 p44 (p44.1 : Int32) (p44.2.1 : Int32) (p44.2.2 : (Nat → Int32)))
def F_DW_shorten (x2 : Int32) (x3 : Int32) (x4 : Int64) (x5 : Int32) (t0_0 : Int64) (t0_1 : Int32) (t1_0 : Int32) (t1_1 : Int32) (t2_0 : (Nat → Int32)) (t3_0 : Int32) (t3_1 : Int32) (t4_0 : (Nat → Int32)) (t5_0 : Int32) (t5_1 : Int32) (t6_0 : (Nat → Int32)) : Int32 × Int64 × Int32 × Int32 × Int32 × (Nat → Int32) × Int32 × Int32 × (Nat → Int32) × Int32 × Int32 × (Nat → Int32) := F_DW_shorten_c14 x2 x3 x4 x5 t0_0 t0_1 t1_0 t1_1 t2_0 t3_0 t3_1 t4_0 t5_0 t5_1 t6_0 ((F_Big_copy (220 : Int32) (220 : Int32) t3_0 t3_1 t4_0 t1_0 t1_1 t2_0) : (Int32 × Int32 × (Nat → Int32)))
set_option maxRecDepth 100000 in
set_option maxHeartbeats 4000000 in
theorem X_DW_shorten (l : Launch) (D : va_G) (g : Nat → ClassId) (q : Nat → Nat) (ws : va_W) (x2 : Int32) (x3 : Int32) (x4 : Int64) (x5 : Int32) (hI : q_I (nsh g q) q ws) (t0_0 : Int64) (t0_1 : Int32) (hT0 : ws[30]? = (some (q 30, .inr (5, [.ref (q 31), .long t0_0, .ref (q 9), .int t0_1])) : Option (Nat × va_E))) (t1_0 : Int32) (t1_1 : Int32) (hT1 : ws[10]? = (some (q 10, .inr (2, [.ref (q 11), .int t1_0, .int t1_1])) : Option (Nat × va_E))) (t2_0 : (Nat → Int32)) (hT2 : ws[11]? = (some (q 11, .inl (g 0, (220 : Int32).toNatClampNeg, .inl t2_0)) : Option (Nat × va_E))) (t3_0 : Int32) (t3_1 : Int32) (hT3 : ws[22]? = (some (q 22, .inr (2, [.ref (q 23), .int t3_0, .int t3_1])) : Option (Nat × va_E))) (t4_0 : (Nat → Int32)) (hT4 : ws[23]? = (some (q 23, .inl (g 0, (220 : Int32).toNatClampNeg, .inl t4_0)) : Option (Nat × va_E))) (t5_0 : Int32) (t5_1 : Int32) (hT5 : ws[20]? = (some (q 20, .inr (2, [.ref (q 21), .int t5_0, .int t5_1])) : Option (Nat × va_E))) (t6_0 : (Nat → Int32)) (hT6 : ws[21]? = (some (q 21, .inl (g 0, (220 : Int32).toNatClampNeg, .inl t6_0)) : Option (Nat × va_E))) (hzx2 : 0 ≤ x2.toInt ∧ x2.toInt ≤ 1) : q_mI l y_DW_shorten prog_4_method_16_code 7 (.boolean) 5 0 0 D g [.ref (q 30), .int x2, .int x3, .long x4, .int x5] ws (fun r u => q_I (nsh g q) q u ∧ q_un ws u [10, 11, 20, 21, 22, 23, 30] ∧ ∃ (u0_0 : Int64) (u0_1 : Int32) (u1_0 : Int32) (u1_1 : Int32) (u2_0 : (Nat → Int32)) (u3_0 : Int32) (u3_1 : Int32) (u4_0 : (Nat → Int32)) (u5_0 : Int32) (u5_1 : Int32) (u6_0 : (Nat → Int32)), u[30]? = (some (q 30, .inr (5, [.ref (q 31), .long u0_0, .ref (q 9), .int u0_1])) : Option (Nat × va_E)) ∧ u[10]? = (some (q 10, .inr (2, [.ref (q 11), .int u1_0, .int u1_1])) : Option (Nat × va_E)) ∧ u[11]? = (some (q 11, .inl (g 0, (220 : Int32).toNatClampNeg, .inl u2_0)) : Option (Nat × va_E)) ∧ u[22]? = (some (q 22, .inr (2, [.ref (q 23), .int u3_0, .int u3_1])) : Option (Nat × va_E)) ∧ u[23]? = (some (q 23, .inl (g 0, (220 : Int32).toNatClampNeg, .inl u4_0)) : Option (Nat × va_E)) ∧ u[20]? = (some (q 20, .inr (2, [.ref (q 21), .int u5_0, .int u5_1])) : Option (Nat × va_E)) ∧ u[21]? = (some (q 21, .inl (g 0, (220 : Int32).toNatClampNeg, .inl u6_0)) : Option (Nat × va_E)) ∧ (0 ≤ r.toInt) ∧ (r.toInt ≤ 1) ∧ (0 ≤ u1_0.toInt) ∧ (u1_0.toInt ≤ 220) ∧ (0 ≤ u1_1.toInt) ∧ (u1_1.toInt ≤ 1) ∧ (0 ≤ u3_0.toInt) ∧ (u3_0.toInt ≤ 220) ∧ (0 ≤ u3_1.toInt) ∧ (u3_1.toInt ≤ 1) ∧ (0 ≤ u5_0.toInt) ∧ (u5_0.toInt ≤ 220) ∧ (0 ≤ u5_1.toInt) ∧ (u5_1.toInt ≤ 1) ∧ (t0_1.toInt ≤ u0_1.toInt) ∧ (u0_1.toInt ≤ t0_1.toInt) ∧ (u3_0.toInt ≤ t1_0.toInt + 3) ∧ (r, u0_0, u0_1, u1_0, u1_1, u2_0, u3_0, u3_1, u4_0, u5_0, u5_1, u6_0) = (F_DW_shorten x2 x3 x4 x5 t0_0 t0_1 t1_0 t1_1 t2_0 t3_0 t3_1 t4_0 t5_0 t5_1 t6_0)) := by
  intro sz
  refine q_into (by decide) (Nat.le_of_ble_eq_true rfl) ?_
  intro p e s m below meth c ls hsz C0 V hl
  have hx := C0.1
  have hb := C0.2.1
  replace hzx2 : q_F (0 ≤ x2.toInt ∧ x2.toInt ≤ 1) := hzx2
  obtain ⟨yy0_0, yy0_1, hh0, btt0_1⟩ := n_o30 hI
  obtain ⟨rfl, rfl⟩ : t0_0 = yy0_0 ∧ t0_1 = yy0_1 := by have z := Option.some.inj (hT0.symm.trans hh0); simpa using z
  replace btt0_1 : q_F (0 ≤ t0_1.toInt ∧ t0_1.toInt ≤ 1) := btt0_1
  obtain ⟨yy1_0, yy1_1, hh1, btt1_0, btt1_1⟩ := q_bigO hI (n_b10 g q)
  obtain ⟨rfl, rfl⟩ : t1_0 = yy1_0 ∧ t1_1 = yy1_1 := by have z := Option.some.inj (hT1.symm.trans hh1); simpa using z
  replace btt1_0 : q_F (0 ≤ t1_0.toInt ∧ t1_0.toInt ≤ 220) := btt1_0
  replace btt1_1 : q_F (0 ≤ t1_1.toInt ∧ t1_1.toInt ≤ 1) := btt1_1
  obtain ⟨yy3_0, yy3_1, hh3, btt3_0, btt3_1⟩ := q_bigO hI (n_b22 g q)
  obtain ⟨rfl, rfl⟩ : t3_0 = yy3_0 ∧ t3_1 = yy3_1 := by have z := Option.some.inj (hT3.symm.trans hh3); simpa using z
  replace btt3_0 : q_F (0 ≤ t3_0.toInt ∧ t3_0.toInt ≤ 220) := btt3_0
  replace btt3_1 : q_F (0 ≤ t3_1.toInt ∧ t3_1.toInt ≤ 1) := btt3_1
  obtain ⟨yy5_0, yy5_1, hh5, btt5_0, btt5_1⟩ := q_bigO hI (n_b20 g q)
  obtain ⟨rfl, rfl⟩ : t5_0 = yy5_0 ∧ t5_1 = yy5_1 := by have z := Option.some.inj (hT5.symm.trans hh5); simpa using z
  replace btt5_0 : q_F (0 ≤ t5_0.toInt ∧ t5_0.toInt ≤ 220) := btt5_0
  replace btt5_1 : q_F (0 ≤ t5_1.toInt ∧ t5_1.toInt ≤ 1) := btt5_1
  have hF : q_un ws ws [10, 11, 20, 21, 22, 23, 30] := q_u0
  have hl : lv_has ls 7 [(0, .ref (q 30)), (1, .int x2), (2, .int x3), (3, .long x4), (5, .int x5)] := hl
  refine lv_aload_n hx hb d_4_16_0 rfl (lv_at hl 0 rfl) ?_
  refine q_get (ci := 5) (j := 2) (v := .ref (q 9)) C0 V i_DW rfl rfl hT0 (by decide) w_214 rfl d_4_16_1 ?_
  have hO29 := n_o9 hI
  refine q_get (ci := 4) (j := 6) (v := .ref (q 22)) C0 V i_Mil rfl rfl hO29 (by decide) w_126 rfl d_4_16_4 ?_
  refine lv_aload_n hx hb d_4_16_7 rfl (lv_at hl 0 rfl) ?_
  refine q_get (ci := 5) (j := 2) (v := .ref (q 9)) C0 V i_DW rfl rfl hT0 (by decide) w_214 rfl d_4_16_8 ?_
  refine q_get (ci := 4) (j := 0) (v := .ref (q 10)) C0 V i_Mil rfl rfl hO29 (by decide) w_111 rfl d_4_16_11 ?_
  refine q_gov V (q_runV (As := [.ref (q 10)]) (rest := []) (d := 2) (mc := 0) (ms := 0) (ci := 2) C0 V rfl LV_DW_44 (X_Big_copy l D g q ws 22 220 (n_b22 g q) (by decide) 10 220 (n_b10 g q) (by decide)  (by decide) hI t3_0 t3_1 hT3 t4_0 hT4 t1_0 t1_1 hT1 t2_0 hT2  _) rfl rfl hT3 rfl hl.1 rfl (Nat.le_of_ble_eq_true rfl) ⟨by decide, by decide⟩ ⟨Nat.le_of_ble_eq_true rfl, Nat.le_of_ble_eq_true rfl⟩ d_4_16_14) (fun u30 H locs hp31 V => ?_)
  obtain ⟨hI, hu43, y33, y34, f35, hO32, hA36, b37, b38, b39, b40, b41, hE42⟩ := hp31
  replace hO32 : u30[22]? = (some (q 22, .inr (2, [.ref (q 23), .int y33, .int y34])) : Option (Nat × va_E)) := hO32
  replace hA36 : u30[23]? = (some (q 23, .inl (g 0, (220 : Int32).toNatClampNeg, .inl f35)) : Option (Nat × va_E)) := hA36
  obtain ⟨p44, e45⟩ : ∃ z, z = (F_Big_copy (220 : Int32) (220 : Int32) t3_0 t3_1 t4_0 t1_0 t1_1 t2_0) := ⟨_, rfl⟩
  have e46 : y33 = p44.1 := congrArg (fun z => z.1) (hE42.trans e45.symm)
  have e47 : y34 = p44.2.1 := congrArg (fun z => z.2.1) (hE42.trans e45.symm)
  have e48 : f35 = p44.2.2 := congrArg (fun z => z.2.2) (hE42.trans e45.symm)
  replace b37 : q_F (0 ≤ y33.toInt) := b37
  replace b38 : q_F (y33.toInt ≤ t1_0.toInt) := b38
  replace b39 : q_F (y33.toInt ≤ 220) := b39
  replace b40 : q_F (t1_1.toInt ≤ y34.toInt) := b40
  replace b41 : q_F (y34.toInt ≤ t1_1.toInt) := b41
  replace hT0 := (hu43 _ (by decide)).trans hT0
  replace hT1 := (hu43 _ (by decide)).trans hT1
  replace hT2 := (hu43 _ (by decide)).trans hT2
  replace hT5 := (hu43 _ (by decide)).trans hT5
  replace hT6 := (hu43 _ (by decide)).trans hT6
  replace hO29 := (hu43 _ (by decide)).trans hO29
  replace hF := q_uc hF hu43 (by simp)
  have hR49 := (show F_DW_shorten_c14 x2 x3 x4 x5 t0_0 t0_1 t1_0 t1_1 t2_0 t3_0 t3_1 t4_0 t5_0 t5_1 t6_0 p44 = (F_DW_shorten x2 x3 x4 x5 t0_0 t0_1 t1_0 t1_1 t2_0 t3_0 t3_1 t4_0 t5_0 t5_1 t6_0) from (by rw [e45, F_DW_shorten.eq_1]))
  refine lv_aload_n hx hb d_4_16_17 rfl (lv_at hl 0 rfl) ?_
  refine q_get (ci := 5) (j := 3) (v := .int t0_1) C0 V i_DW rfl rfl hT0 (by decide) w_215 rfl d_4_16_18 ?_
  refine q_join (X := Int32 × Int32 × Int32 × (Nat → Int32)) (fun z H locs ls w74 => q_F (z.2.1.toInt ≤ y33.toInt) ∧ q_F (z.2.2.1.toInt ≤ y34.toInt) ∧ q_F (z.2.2.1.toInt ≤ z.1.toInt + 1) ∧ q_F (z.1.toInt ≤ z.2.2.1.toInt + 1) ∧ q_F (0 ≤ z.1.toInt + z.2.2.1.toInt) ∧ q_F (z.1.toInt + z.2.2.1.toInt ≤ 2) ∧ q_F (z.2.2.1.toInt ≤ z.2.1.toInt + 1) ∧ q_F (0 ≤ z.2.1.toInt + z.2.2.1.toInt) ∧ q_Wd D g (va_A ws sz) s w74 H locs ∧ lv_has ls 7 [(0, .ref (q 30)), (1, .int x2), (2, .int x3), (3, .long x4), (5, .int x5)] ∧ q_I (nsh g q) q w74 ∧ q_un ws w74 [10, 11, 20, 21, 22, 23, 30] ∧ w74[30]? = (some (q 30, .inr (5, [.ref (q 31), .long t0_0, .ref (q 9), .int t0_1])) : Option (Nat × va_E)) ∧ w74[10]? = (some (q 10, .inr (2, [.ref (q 11), .int t1_0, .int t1_1])) : Option (Nat × va_E)) ∧ w74[11]? = (some (q 11, .inl (g 0, (220 : Int32).toNatClampNeg, .inl t2_0)) : Option (Nat × va_E)) ∧ w74[22]? = (some (q 22, .inr (2, [.ref (q 23), .int z.2.1, .int z.2.2.1])) : Option (Nat × va_E)) ∧ w74[23]? = (some (q 23, .inl (g 0, (220 : Int32).toNatClampNeg, .inl z.2.2.2)) : Option (Nat × va_E)) ∧ w74[20]? = (some (q 20, .inr (2, [.ref (q 21), .int t5_0, .int t5_1])) : Option (Nat × va_E)) ∧ w74[21]? = (some (q 21, .inl (g 0, (220 : Int32).toNatClampNeg, .inl t6_0)) : Option (Nat × va_E)) ∧ F_DW_shorten_J44 x2 x3 x4 x5 t0_0 t0_1 t1_0 t1_1 t2_0 t3_0 t3_1 t4_0 t5_0 t5_1 t6_0 p44 z.1 z.2.1 z.2.2.1 z.2.2.2 = (F_DW_shorten x2 x3 x4 x5 t0_0 t0_1 t1_0 t1_1 t2_0 t3_0 t3_1 t4_0 t5_0 t5_1 t6_0)) (fun z => [.int z.1]) 44 0 0 ?_ ?_
  ·
    rintro ⟨lx54, lx55, lx56, lx57⟩ H locs ls w74 ⟨i66, i67, i68, i69, i70, i71, i72, i73, V, hl, hI, hF, hO58, hO59, hA60, hO61, hA62, hO63, hA64, hR75⟩
    replace i66 : q_F (lx55.toInt ≤ y33.toInt) := i66
    replace i67 : q_F (lx56.toInt ≤ y34.toInt) := i67
    replace i68 : q_F (lx56.toInt ≤ lx54.toInt + 1) := i68
    replace i69 : q_F (lx54.toInt ≤ lx56.toInt + 1) := i69
    replace i70 : q_F (0 ≤ lx54.toInt + lx56.toInt) := i70
    replace i71 : q_F (lx54.toInt + lx56.toInt ≤ 2) := i71
    replace i72 : q_F (lx56.toInt ≤ lx55.toInt + 1) := i72
    replace i73 : q_F (0 ≤ lx55.toInt + lx56.toInt) := i73
    replace hl : lv_has ls 7 [(0, .ref (q 30)), (1, .int x2), (2, .int x3), (3, .long x4), (5, .int x5)] := hl
    replace hO58 : w74[30]? = (some (q 30, .inr (5, [.ref (q 31), .long t0_0, .ref (q 9), .int t0_1])) : Option (Nat × va_E)) := hO58
    replace hO59 : w74[10]? = (some (q 10, .inr (2, [.ref (q 11), .int t1_0, .int t1_1])) : Option (Nat × va_E)) := hO59
    replace hA60 : w74[11]? = (some (q 11, .inl (g 0, (220 : Int32).toNatClampNeg, .inl t2_0)) : Option (Nat × va_E)) := hA60
    replace hO61 : w74[22]? = (some (q 22, .inr (2, [.ref (q 23), .int lx55, .int lx56])) : Option (Nat × va_E)) := hO61
    replace hA62 : w74[23]? = (some (q 23, .inl (g 0, (220 : Int32).toNatClampNeg, .inl lx57)) : Option (Nat × va_E)) := hA62
    replace hO63 : w74[20]? = (some (q 20, .inr (2, [.ref (q 21), .int t5_0, .int t5_1])) : Option (Nat × va_E)) := hO63
    replace hA64 : w74[21]? = (some (q 21, .inl (g 0, (220 : Int32).toNatClampNeg, .inl t6_0)) : Option (Nat × va_E)) := hA64
    refine lv_istore (lv' := [(6, .int lx54), (0, .ref (q 30)), (1, .int x2), (2, .int x3), (3, .long x4), (5, .int x5)]) hx hb d_4_16_44 hl (by decide) rfl (fun ls hl => ?_)
    refine lv_aload_n hx hb d_4_16_46 rfl (lv_at hl 1 rfl) ?_
    refine lv_iload_n hx hb d_4_16_47 rfl (lv_at hl 2 rfl) ?_
    refine lv_iload hx hb d_4_16_48 (lv_at hl 5 rfl) ?_
    refine q_goi V (q_runV (As := [.int x2, .int x5]) (rest := []) (d := 4) (mc := 0) (ms := 0) (ci := 5) C0 V rfl LV_DW_142 (X_DW_roundLast l D g q w74  x2 x5 hI t0_0 t0_1 hO58 t1_0 t1_1 hO59 t2_0 hA60 lx55 lx56 hO61 lx57 hA62 ⟨(by have t1 : 0 ≤ x2.toInt ∧ x2.toInt ≤ 1 := hzx2; omega), (by have t1 : 0 ≤ x2.toInt ∧ x2.toInt ≤ 1 := hzx2; omega)⟩ _) rfl rfl hO58 rfl hl.1 rfl (Nat.le_of_ble_eq_true rfl) ⟨by decide, by decide⟩ ⟨Nat.le_of_ble_eq_true rfl, Nat.le_of_ble_eq_true rfl⟩ d_4_16_50) (fun a82 u80 H locs hp81 V => ?_)
    obtain ⟨hI, hu105, y84, y85, f86, y89, y90, f91, hO83, hA87, hO88, hA92, b93, b94, b95, b96, b97, b98, b99, b100, b101, b102, b103, hE104⟩ := hp81
    replace hO83 : u80[10]? = (some (q 10, .inr (2, [.ref (q 11), .int y84, .int y85])) : Option (Nat × va_E)) := hO83
    replace hA87 : u80[11]? = (some (q 11, .inl (g 0, (220 : Int32).toNatClampNeg, .inl f86)) : Option (Nat × va_E)) := hA87
    replace hO88 : u80[22]? = (some (q 22, .inr (2, [.ref (q 23), .int y89, .int y90])) : Option (Nat × va_E)) := hO88
    replace hA92 : u80[23]? = (some (q 23, .inl (g 0, (220 : Int32).toNatClampNeg, .inl f91)) : Option (Nat × va_E)) := hA92
    obtain ⟨p106, e107⟩ : ∃ z, z = (F_DW_roundLast x2 x5 t0_0 t0_1 t1_0 t1_1 t2_0 lx55 lx56 lx57) := ⟨_, rfl⟩
    have e108 : a82 = p106.1 := congrArg (fun z => z.1) (hE104.trans e107.symm)
    have e109 : y84 = p106.2.1 := congrArg (fun z => z.2.1) (hE104.trans e107.symm)
    have e110 : y85 = p106.2.2.1 := congrArg (fun z => z.2.2.1) (hE104.trans e107.symm)
    have e111 : f86 = p106.2.2.2.1 := congrArg (fun z => z.2.2.2.1) (hE104.trans e107.symm)
    have e112 : y89 = p106.2.2.2.2.1 := congrArg (fun z => z.2.2.2.2.1) (hE104.trans e107.symm)
    have e113 : y90 = p106.2.2.2.2.2.1 := congrArg (fun z => z.2.2.2.2.2.1) (hE104.trans e107.symm)
    have e114 : f91 = p106.2.2.2.2.2.2 := congrArg (fun z => z.2.2.2.2.2.2) (hE104.trans e107.symm)
    replace b93 : q_F (0 ≤ a82.toInt) := b93
    replace b94 : q_F (a82.toInt ≤ 1) := b94
    replace b95 : q_F (y84.toInt ≤ 220) := b95
    replace b96 : q_F (0 ≤ y85.toInt) := b96
    replace b97 : q_F (y85.toInt ≤ 1) := b97
    replace b98 : q_F (0 ≤ y89.toInt) := b98
    replace b99 : q_F (y89.toInt ≤ 220) := b99
    replace b100 : q_F (0 ≤ y90.toInt) := b100
    replace b101 : q_F (y90.toInt ≤ 1) := b101
    replace b102 : q_F (y89.toInt ≤ lx55.toInt + 3) := b102
    replace b103 : q_F (y85.toInt ≤ y84.toInt) := b103
    replace hO58 := (hu105 _ (by decide)).trans hO58
    replace hO63 := (hu105 _ (by decide)).trans hO63
    replace hA64 := (hu105 _ (by decide)).trans hA64
    replace hF := q_uc hF hu105 (by simp)
    have hR115 := (show F_DW_shorten_c50 x2 x3 x4 x5 t0_0 t0_1 t1_0 t1_1 t2_0 t3_0 t3_1 t4_0 t5_0 t5_1 t6_0 p44 lx54 lx55 lx56 lx57 p106 = (F_DW_shorten x2 x3 x4 x5 t0_0 t0_1 t1_0 t1_1 t2_0 t3_0 t3_1 t4_0 t5_0 t5_1 t6_0) from Eq.trans (by rw [e107, F_DW_shorten_J44.eq_1]) hR75)
    refine lv_if_ne (tgt := 58) hx hb d_4_16_53 (by decide) (fun c120 => ?_) (fun c120 => ?_)
    ·
      have b121 : q_F (a82.toInt ≠ 0) := (q_neI c120)
      refine lv_iload hx hb d_4_16_58 (lv_at hl 0 rfl) ?_
      refine lv_if_eq (tgt := 96) hx hb d_4_16_60 (by decide) (fun c122 => ?_) (fun c122 => ?_)
      ·
        have b123 : q_F (lx54.toInt = 0) := (q_eqI c122)
        refine lv_aload_n hx hb d_4_16_96 rfl (lv_at hl 1 rfl) ?_
        refine q_get (ci := 5) (j := 2) (v := .ref (q 9)) C0 V i_DW rfl rfl hO58 (by decide) w_214 rfl d_4_16_97 ?_
        refine lv_aload_n hx hb d_4_16_100 rfl (lv_at hl 1 rfl) ?_
        refine q_get (ci := 5) (j := 2) (v := .ref (q 9)) C0 V i_DW rfl rfl hO58 (by decide) w_214 rfl d_4_16_101 ?_
        have hO124 := n_o9 hI
        refine q_get (ci := 4) (j := 0) (v := .ref (q 10)) C0 V i_Mil rfl rfl hO124 (by decide) w_111 rfl d_4_16_104 ?_
        refine q_goi V (q_runV (As := [.ref (q 10)]) (rest := []) (d := 4) (mc := 0) (ms := 0) (ci := 4) C0 V rfl LV_DW_34 (X_Mil_countFigures l D g q u80 10 220 (n_b10 g q) (by decide)  (by decide) (by decide) (by decide) hI t5_0 t5_1 hO63 t6_0 hA64 y84 y85 hO83 f86 hA87  _) rfl rfl hO124 rfl hl.1 rfl (Nat.le_of_ble_eq_true rfl) ⟨by decide, by decide⟩ ⟨Nat.le_of_ble_eq_true rfl, Nat.le_of_ble_eq_true rfl⟩ d_4_16_107) (fun a127 u125 H locs hp126 V => ?_)
        obtain ⟨hI, hu138, y129, y130, f131, hO128, hA132, b133, b134, b135, b136, hE137⟩ := hp126
        replace hO128 : u125[20]? = (some (q 20, .inr (2, [.ref (q 21), .int y129, .int y130])) : Option (Nat × va_E)) := hO128
        replace hA132 : u125[21]? = (some (q 21, .inl (g 0, (220 : Int32).toNatClampNeg, .inl f131)) : Option (Nat × va_E)) := hA132
        obtain ⟨p139, e140⟩ : ∃ z, z = (F_Mil_countFigures (220 : Int32) t5_0 t5_1 t6_0 y84 y85 f86) := ⟨_, rfl⟩
        have e141 : a127 = p139.1 := congrArg (fun z => z.1) (hE137.trans e140.symm)
        have e142 : y129 = p139.2.1 := congrArg (fun z => z.2.1) (hE137.trans e140.symm)
        have e143 : y130 = p139.2.2.1 := congrArg (fun z => z.2.2.1) (hE137.trans e140.symm)
        have e144 : f131 = p139.2.2.2 := congrArg (fun z => z.2.2.2) (hE137.trans e140.symm)
        replace b133 : q_F (0 ≤ y129.toInt) := b133
        replace b134 : q_F (y129.toInt ≤ 220) := b134
        replace b135 : q_F (0 ≤ y130.toInt) := b135
        replace b136 : q_F (y130.toInt ≤ 1) := b136
        replace hO58 := (hu138 _ (by decide)).trans hO58
        replace hO83 := (hu138 _ (by decide)).trans hO83
        replace hA87 := (hu138 _ (by decide)).trans hA87
        replace hO88 := (hu138 _ (by decide)).trans hO88
        replace hA92 := (hu138 _ (by decide)).trans hA92
        replace hO124 := (hu138 _ (by decide)).trans hO124
        replace hF := q_uc hF hu138 (by simp)
        have hR145 := (show F_DW_shorten_c107 x2 x3 x4 x5 t0_0 t0_1 t1_0 t1_1 t2_0 t3_0 t3_1 t4_0 t5_0 t5_1 t6_0 p44 lx54 lx55 lx56 lx57 p106 y84 y85 f86 y89 y90 f91 p139 = (F_DW_shorten x2 x3 x4 x5 t0_0 t0_1 t1_0 t1_1 t2_0 t3_0 t3_1 t4_0 t5_0 t5_1 t6_0) from Eq.trans (by have c120x := c120; rw [e108] at c120x; rw [e140, e114, e113, e112, e111, e110, e109, F_DW_shorten_c50.eq_1, if_neg c120x, if_pos c122]) hR115)
        refine lv_iload_n hx hb d_4_16_110 rfl (lv_at hl 3 rfl) ?_
        refine lv_icmp_le (tgt := 136) hx hb d_4_16_111 (by decide) (fun c150 => ?_) (fun c150 => ?_)
        ·
          have b151 : q_F (a127.toInt ≤ x3.toInt) := (q_leI c150)
          refine lv_iconst (v := 1) hx hb d_4_16_136 (by decide) ?_
          exact q_retz C0 V (by decide) (⟨hI, hF, t0_0, t0_1, y84, y85, f86, y89, y90, f91, y129, y130, f131, hO58, hO83, hA87, hO88, hA92, hO128, hA132, (show 0 ≤ (1 : Int32).toInt from (by have z15 : (1 : Int32).toInt = 1 := rfl; omega)), (show (1 : Int32).toInt ≤ 1 from (by have z15 : (1 : Int32).toInt = 1 := rfl; omega)), (show 0 ≤ y84.toInt from (by have z15 : (1 : Int32).toInt = 1 := rfl; have t1 : 0 ≤ y85.toInt := b96; have t2 : y85.toInt ≤ y84.toInt := b103; omega)), (show y84.toInt ≤ 220 from (by have z15 : (1 : Int32).toInt = 1 := rfl; have t1 : y84.toInt ≤ 220 := b95; omega)), (show 0 ≤ y85.toInt from (by have z15 : (1 : Int32).toInt = 1 := rfl; have t1 : 0 ≤ y85.toInt := b96; omega)), (show y85.toInt ≤ 1 from (by have z15 : (1 : Int32).toInt = 1 := rfl; have t1 : y85.toInt ≤ 1 := b97; omega)), (show 0 ≤ y89.toInt from (by have z15 : (1 : Int32).toInt = 1 := rfl; have t1 : 0 ≤ y89.toInt := b98; omega)), (show y89.toInt ≤ 220 from (by have z15 : (1 : Int32).toInt = 1 := rfl; have t1 : y89.toInt ≤ 220 := b99; omega)), (show 0 ≤ y90.toInt from (by have z15 : (1 : Int32).toInt = 1 := rfl; have t1 : 0 ≤ y90.toInt := b100; omega)), (show y90.toInt ≤ 1 from (by have z15 : (1 : Int32).toInt = 1 := rfl; have t1 : y90.toInt ≤ 1 := b101; omega)), (show 0 ≤ y129.toInt from (by have z15 : (1 : Int32).toInt = 1 := rfl; have t1 : 0 ≤ y129.toInt := b133; omega)), (show y129.toInt ≤ 220 from (by have z15 : (1 : Int32).toInt = 1 := rfl; have t1 : y129.toInt ≤ 220 := b134; omega)), (show 0 ≤ y130.toInt from (by have z15 : (1 : Int32).toInt = 1 := rfl; have t1 : 0 ≤ y130.toInt := b135; omega)), (show y130.toInt ≤ 1 from (by have z15 : (1 : Int32).toInt = 1 := rfl; have t1 : y130.toInt ≤ 1 := b136; omega)), (show t0_1.toInt ≤ t0_1.toInt from (by have z15 : (1 : Int32).toInt = 1 := rfl; omega)), (show t0_1.toInt ≤ t0_1.toInt from (by have z15 : (1 : Int32).toInt = 1 := rfl; omega)), (show y89.toInt ≤ t1_0.toInt + 3 from (by have z15 : (1 : Int32).toInt = 1 := rfl; have t1 : y33.toInt ≤ t1_0.toInt := b38; have t2 : lx55.toInt ≤ y33.toInt := i66; have t3 : y89.toInt ≤ lx55.toInt + 3 := b102; omega)), (show ((1 : Int32), t0_0, t0_1, y84, y85, f86, y89, y90, f91, y129, y130, f131) = (F_DW_shorten x2 x3 x4 x5 t0_0 t0_1 t1_0 t1_1 t2_0 t3_0 t3_1 t4_0 t5_0 t5_1 t6_0) from Eq.trans (by have c150x := c150; rw [e141] at c150x; rw [e144, e143, e142, F_DW_shorten_c107.eq_1, if_pos c150x]) hR145)⟩) d_4_16_137
        ·
          have b152 : q_F (x3.toInt < a127.toInt) := (q_nleI c150)
          refine lv_aload_n hx hb d_4_16_114 rfl (lv_at hl 1 rfl) ?_
          refine q_get (ci := 5) (j := 2) (v := .ref (q 9)) C0 V i_DW rfl rfl hO58 (by decide) w_214 rfl d_4_16_115 ?_
          refine q_get (ci := 4) (j := 0) (v := .ref (q 10)) C0 V i_Mil rfl rfl hO124 (by decide) w_111 rfl d_4_16_118 ?_
          refine lv_iconst (v := 1) hx hb d_4_16_121 (by decide) ?_
          refine q_goi V (q_runV (As := [.int 1]) (rest := []) (d := 3) (mc := 0) (ms := 0) (ci := 2) C0 V rfl LV_DW_149 (X_Big_dropFigures l D g q u125 10 220 (n_b10 g q) (by decide) 1 hI y84 y85 hO83 f86 hA87  _) rfl rfl hO83 rfl hl.1 rfl (Nat.le_of_ble_eq_true rfl) ⟨by decide, by decide⟩ ⟨Nat.le_of_ble_eq_true rfl, Nat.le_of_ble_eq_true rfl⟩ d_4_16_122) (fun a155 u153 H locs hp154 V => ?_)
          obtain ⟨hI, hu169, y157, y158, f159, hO156, hA160, b161, b162, b163, b164, b165, b166, b167, hE168⟩ := hp154
          replace hO156 : u153[10]? = (some (q 10, .inr (2, [.ref (q 11), .int y157, .int y158])) : Option (Nat × va_E)) := hO156
          replace hA160 : u153[11]? = (some (q 11, .inl (g 0, (220 : Int32).toNatClampNeg, .inl f159)) : Option (Nat × va_E)) := hA160
          obtain ⟨p170, e171⟩ : ∃ z, z = (F_Big_dropFigures (220 : Int32) (1 : Int32) y84 y85 f86) := ⟨_, rfl⟩
          have e172 : a155 = p170.1 := congrArg (fun z => z.1) (hE168.trans e171.symm)
          have e173 : y157 = p170.2.1 := congrArg (fun z => z.2.1) (hE168.trans e171.symm)
          have e174 : y158 = p170.2.2.1 := congrArg (fun z => z.2.2.1) (hE168.trans e171.symm)
          have e175 : f159 = p170.2.2.2 := congrArg (fun z => z.2.2.2) (hE168.trans e171.symm)
          replace b161 : q_F (0 ≤ a155.toInt) := b161
          replace b162 : q_F (a155.toInt ≤ 1) := b162
          replace b163 : q_F (0 ≤ y157.toInt) := b163
          replace b164 : q_F (0 ≤ y158.toInt) := b164
          replace b165 : q_F (a155.toInt ≤ y84.toInt) := b165
          replace b166 : q_F (y157.toInt ≤ y84.toInt) := b166
          replace b167 : q_F (y158.toInt ≤ y85.toInt) := b167
          replace hO58 := (hu169 _ (by decide)).trans hO58
          replace hO88 := (hu169 _ (by decide)).trans hO88
          replace hA92 := (hu169 _ (by decide)).trans hA92
          replace hO128 := (hu169 _ (by decide)).trans hO128
          replace hA132 := (hu169 _ (by decide)).trans hA132
          replace hO124 := (hu169 _ (by decide)).trans hO124
          replace hF := q_uc hF hu169 (by simp)
          have hR176 := (show F_DW_shorten_c122 x2 x3 x4 x5 t0_0 t0_1 t1_0 t1_1 t2_0 t3_0 t3_1 t4_0 t5_0 t5_1 t6_0 p44 lx54 lx55 lx56 lx57 p106 y84 y85 f86 y89 y90 f91 p139 y129 y130 f131 p170 = (F_DW_shorten x2 x3 x4 x5 t0_0 t0_1 t1_0 t1_1 t2_0 t3_0 t3_1 t4_0 t5_0 t5_1 t6_0) from Eq.trans (by have c150x := c150; rw [e141] at c150x; rw [e171, e144, e143, e142, F_DW_shorten_c107.eq_1, if_neg c150x]) hR145)
          refine lv_pop hx hb d_4_16_125 rfl ?_
          refine lv_aload_n hx hb d_4_16_126 rfl (lv_at hl 1 rfl) ?_
          refine lv_dup hx hb d_4_16_127 rfl ?_
          refine q_get (ci := 5) (j := 1) (v := .long t0_0) C0 V i_DW rfl rfl hO58 (by decide) w_212 rfl d_4_16_128 ?_
          refine lv_lconst (v := 1) hx hb d_4_16_131 (by decide) ?_
          refine lv_lsub hx hb d_4_16_132 ?_
          obtain ⟨j181, e182⟩ := q_nm (t0_0 - 1 : Int64)
          refine q_tl (v := j181) e182 ?_
          refine q_put (ci := 5) (j := 1) (v := .long j181) (ty := .long) C0 V i_DW o_DW n_DW rfl rfl hO58 (by decide) w_212 rfl rfl rfl rfl (Nat.le_of_ble_eq_true rfl) d_4_16_133 (fun H locs w183 hu184 hO58 V => ?_)
          replace hO58 : w183[30]? = (some (q 30, .inr (5, [.ref (q 31), .long j181, .ref (q 9), .int t0_1])) : Option (Nat × va_E)) := hO58
          replace hI := n_p30 hI hu184 hO58 ⟨(by have t1 : 0 ≤ t0_1.toInt ∧ t0_1.toInt ≤ 1 := btt0_1; omega), (by have t1 : 0 ≤ t0_1.toInt ∧ t0_1.toInt ≤ 1 := btt0_1; omega)⟩
          replace hO156 := (hu184 _ (by decide)).trans hO156
          replace hA160 := (hu184 _ (by decide)).trans hA160
          replace hO88 := (hu184 _ (by decide)).trans hO88
          replace hA92 := (hu184 _ (by decide)).trans hA92
          replace hO128 := (hu184 _ (by decide)).trans hO128
          replace hA132 := (hu184 _ (by decide)).trans hA132
          replace hO124 := (hu184 _ (by decide)).trans hO124
          replace hF := q_us hF hu184 (by simp)
          refine lv_iconst (v := 1) hx hb d_4_16_136 (by decide) ?_
          exact q_retz C0 V (by decide) (⟨hI, hF, j181, t0_1, y157, y158, f159, y89, y90, f91, y129, y130, f131, hO58, hO156, hA160, hO88, hA92, hO128, hA132, (show 0 ≤ (1 : Int32).toInt from (by have z15 : (1 : Int32).toInt = 1 := rfl; omega)), (show (1 : Int32).toInt ≤ 1 from (by have z15 : (1 : Int32).toInt = 1 := rfl; omega)), (show 0 ≤ y157.toInt from (by have z15 : (1 : Int32).toInt = 1 := rfl; have t1 : 0 ≤ y157.toInt := b163; omega)), (show y157.toInt ≤ 220 from (by have z15 : (1 : Int32).toInt = 1 := rfl; have t1 : y84.toInt ≤ 220 := b95; have t2 : y157.toInt ≤ y84.toInt := b166; omega)), (show 0 ≤ y158.toInt from (by have z15 : (1 : Int32).toInt = 1 := rfl; have t1 : 0 ≤ y158.toInt := b164; omega)), (show y158.toInt ≤ 1 from (by have z15 : (1 : Int32).toInt = 1 := rfl; have t1 : y85.toInt ≤ 1 := b97; have t2 : y158.toInt ≤ y85.toInt := b167; omega)), (show 0 ≤ y89.toInt from (by have z15 : (1 : Int32).toInt = 1 := rfl; have t1 : 0 ≤ y89.toInt := b98; omega)), (show y89.toInt ≤ 220 from (by have z15 : (1 : Int32).toInt = 1 := rfl; have t1 : y89.toInt ≤ 220 := b99; omega)), (show 0 ≤ y90.toInt from (by have z15 : (1 : Int32).toInt = 1 := rfl; have t1 : 0 ≤ y90.toInt := b100; omega)), (show y90.toInt ≤ 1 from (by have z15 : (1 : Int32).toInt = 1 := rfl; have t1 : y90.toInt ≤ 1 := b101; omega)), (show 0 ≤ y129.toInt from (by have z15 : (1 : Int32).toInt = 1 := rfl; have t1 : 0 ≤ y129.toInt := b133; omega)), (show y129.toInt ≤ 220 from (by have z15 : (1 : Int32).toInt = 1 := rfl; have t1 : y129.toInt ≤ 220 := b134; omega)), (show 0 ≤ y130.toInt from (by have z15 : (1 : Int32).toInt = 1 := rfl; have t1 : 0 ≤ y130.toInt := b135; omega)), (show y130.toInt ≤ 1 from (by have z15 : (1 : Int32).toInt = 1 := rfl; have t1 : y130.toInt ≤ 1 := b136; omega)), (show t0_1.toInt ≤ t0_1.toInt from (by have z15 : (1 : Int32).toInt = 1 := rfl; omega)), (show t0_1.toInt ≤ t0_1.toInt from (by have z15 : (1 : Int32).toInt = 1 := rfl; omega)), (show y89.toInt ≤ t1_0.toInt + 3 from (by have z15 : (1 : Int32).toInt = 1 := rfl; have t1 : y33.toInt ≤ t1_0.toInt := b38; have t2 : lx55.toInt ≤ y33.toInt := i66; have t3 : y89.toInt ≤ lx55.toInt + 3 := b102; omega)), (show ((1 : Int32), j181, t0_1, y157, y158, f159, y89, y90, f91, y129, y130, f131) = (F_DW_shorten x2 x3 x4 x5 t0_0 t0_1 t1_0 t1_1 t2_0 t3_0 t3_1 t4_0 t5_0 t5_1 t6_0) from Eq.trans (by rw [← e182, e175, e174, e173, F_DW_shorten_c122.eq_1]) hR176)⟩) d_4_16_137
      ·
        have b185 : q_F (lx54.toInt ≠ 0) := (q_neI c122)
        refine lv_aload_n hx hb d_4_16_63 rfl (lv_at hl 1 rfl) ?_
        refine lv_dup hx hb d_4_16_64 rfl ?_
        refine q_get (ci := 5) (j := 1) (v := .long t0_0) C0 V i_DW rfl rfl hO58 (by decide) w_212 rfl d_4_16_65 ?_
        refine lv_aload_n hx hb d_4_16_68 rfl (lv_at hl 1 rfl) ?_
        refine q_get (ci := 5) (j := 2) (v := .ref (q 9)) C0 V i_DW rfl rfl hO58 (by decide) w_214 rfl d_4_16_69 ?_
        refine lv_aload_n hx hb d_4_16_72 rfl (lv_at hl 1 rfl) ?_
        refine q_get (ci := 5) (j := 2) (v := .ref (q 9)) C0 V i_DW rfl rfl hO58 (by decide) w_214 rfl d_4_16_73 ?_
        have hO186 := n_o9 hI
        refine q_get (ci := 4) (j := 0) (v := .ref (q 10)) C0 V i_Mil rfl rfl hO186 (by decide) w_111 rfl d_4_16_76 ?_
        refine lv_aload_n hx hb d_4_16_79 rfl (lv_at hl 1 rfl) ?_
        refine q_get (ci := 5) (j := 1) (v := .long t0_0) C0 V i_DW rfl rfl hO58 (by decide) w_212 rfl d_4_16_80 ?_
        refine lv_lload_n hx hb d_4_16_83 rfl (lv_at hl 4 rfl) ?_
        refine lv_lsub hx hb d_4_16_84 ?_
        obtain ⟨j187, e188⟩ := q_nm (t0_0 - x4 : Int64)
        refine q_tl (v := j187) e188 ?_
        refine q_goi V (q_runV (As := [.ref (q 10), .long j187]) (rest := [.long t0_0, .ref (q 30)]) (d := 3) (mc := 0) (ms := 0) (ci := 4) C0 V rfl LV_DW_131 (X_Mil_dropZeros l D g q u80 10 220 (n_b10 g q) (by decide) j187 (by decide) (by decide) (by decide) hI t5_0 t5_1 hO63 t6_0 hA64 y84 y85 hO83 f86 hA87  _) rfl rfl hO186 rfl hl.1 rfl (Nat.le_of_ble_eq_true rfl) ⟨by decide, by decide⟩ ⟨Nat.le_of_ble_eq_true rfl, Nat.le_of_ble_eq_true rfl⟩ d_4_16_85) (fun a191 u189 H locs hp190 V => ?_)
        obtain ⟨hI, hu213, y193, y194, f195, y198, y199, f200, hO192, hA196, hO197, hA201, b202, b203, b204, b205, b206, b207, b208, b209, b210, b211, hE212⟩ := hp190
        replace hO192 : u189[20]? = (some (q 20, .inr (2, [.ref (q 21), .int y193, .int y194])) : Option (Nat × va_E)) := hO192
        replace hA196 : u189[21]? = (some (q 21, .inl (g 0, (220 : Int32).toNatClampNeg, .inl f195)) : Option (Nat × va_E)) := hA196
        replace hO197 : u189[10]? = (some (q 10, .inr (2, [.ref (q 11), .int y198, .int y199])) : Option (Nat × va_E)) := hO197
        replace hA201 : u189[11]? = (some (q 11, .inl (g 0, (220 : Int32).toNatClampNeg, .inl f200)) : Option (Nat × va_E)) := hA201
        obtain ⟨p214, e215⟩ : ∃ z, z = (F_Mil_dropZeros (220 : Int32) j187 t5_0 t5_1 t6_0 y84 y85 f86) := ⟨_, rfl⟩
        have e216 : a191 = p214.1 := congrArg (fun z => z.1) (hE212.trans e215.symm)
        have e217 : y193 = p214.2.1 := congrArg (fun z => z.2.1) (hE212.trans e215.symm)
        have e218 : y194 = p214.2.2.1 := congrArg (fun z => z.2.2.1) (hE212.trans e215.symm)
        have e219 : f195 = p214.2.2.2.1 := congrArg (fun z => z.2.2.2.1) (hE212.trans e215.symm)
        have e220 : y198 = p214.2.2.2.2.1 := congrArg (fun z => z.2.2.2.2.1) (hE212.trans e215.symm)
        have e221 : y199 = p214.2.2.2.2.2.1 := congrArg (fun z => z.2.2.2.2.2.1) (hE212.trans e215.symm)
        have e222 : f200 = p214.2.2.2.2.2.2 := congrArg (fun z => z.2.2.2.2.2.2) (hE212.trans e215.symm)
        replace b202 : q_F (0 ≤ a191.toInt) := b202
        replace b203 : q_F (a191.toInt ≤ 10000) := b203
        replace b204 : q_F (0 ≤ y193.toInt) := b204
        replace b205 : q_F (y193.toInt ≤ 220) := b205
        replace b206 : q_F (0 ≤ y194.toInt) := b206
        replace b207 : q_F (y194.toInt ≤ 1) := b207
        replace b208 : q_F (0 ≤ y198.toInt) := b208
        replace b209 : q_F (0 ≤ y199.toInt) := b209
        replace b210 : q_F (y198.toInt ≤ y84.toInt) := b210
        replace b211 : q_F (y199.toInt ≤ y85.toInt) := b211
        replace hO58 := (hu213 _ (by decide)).trans hO58
        replace hO88 := (hu213 _ (by decide)).trans hO88
        replace hA92 := (hu213 _ (by decide)).trans hA92
        replace hO186 := (hu213 _ (by decide)).trans hO186
        replace hF := q_uc hF hu213 (by simp)
        have hR223 := (show F_DW_shorten_c85 x2 x3 x4 x5 t0_0 t0_1 t1_0 t1_1 t2_0 t3_0 t3_1 t4_0 t5_0 t5_1 t6_0 p44 lx54 lx55 lx56 lx57 p106 y89 y90 f91 p214 = (F_DW_shorten x2 x3 x4 x5 t0_0 t0_1 t1_0 t1_1 t2_0 t3_0 t3_1 t4_0 t5_0 t5_1 t6_0) from Eq.trans (by have c120x := c120; rw [e108] at c120x; rw [e215, ← e188, e114, e113, e112, e111, e110, e109, F_DW_shorten_c50.eq_1, if_neg c120x, if_neg c122]) hR115)
        refine lv_i2l hx hb d_4_16_88 rfl ?_
        obtain ⟨j228, e229⟩ := q_nm (a191.toInt64 : Int64)
        refine q_tl (v := j228) e229 ?_
        have b230 : q_F (j228.toInt = a191.toInt) := (by rw [← e229]; show (a191.toInt64 : Int64).toInt = a191.toInt; exact q_i2l rfl)
        refine lv_lsub hx hb d_4_16_89 ?_
        obtain ⟨j231, e232⟩ := q_nm (t0_0 - j228 : Int64)
        refine q_tl (v := j231) e232 ?_
        refine q_put (ci := 5) (j := 1) (v := .long j231) (ty := .long) C0 V i_DW o_DW n_DW rfl rfl hO58 (by decide) w_212 rfl rfl rfl rfl (Nat.le_of_ble_eq_true rfl) d_4_16_90 (fun H locs w233 hu234 hO58 V => ?_)
        replace hO58 : w233[30]? = (some (q 30, .inr (5, [.ref (q 31), .long j231, .ref (q 9), .int t0_1])) : Option (Nat × va_E)) := hO58
        replace hI := n_p30 hI hu234 hO58 ⟨(by have t1 : 0 ≤ t0_1.toInt ∧ t0_1.toInt ≤ 1 := btt0_1; omega), (by have t1 : 0 ≤ t0_1.toInt ∧ t0_1.toInt ≤ 1 := btt0_1; omega)⟩
        replace hO197 := (hu234 _ (by decide)).trans hO197
        replace hA201 := (hu234 _ (by decide)).trans hA201
        replace hO88 := (hu234 _ (by decide)).trans hO88
        replace hA92 := (hu234 _ (by decide)).trans hA92
        replace hO192 := (hu234 _ (by decide)).trans hO192
        replace hA196 := (hu234 _ (by decide)).trans hA196
        replace hO186 := (hu234 _ (by decide)).trans hO186
        replace hF := q_us hF hu234 (by simp)
        refine lv_goto (tgt := 136) hx hb d_4_16_93 (by decide) ?_
        refine lv_iconst (v := 1) hx hb d_4_16_136 (by decide) ?_
        exact q_retz C0 V (by decide) (⟨hI, hF, j231, t0_1, y198, y199, f200, y89, y90, f91, y193, y194, f195, hO58, hO197, hA201, hO88, hA92, hO192, hA196, (show 0 ≤ (1 : Int32).toInt from (by have z15 : (1 : Int32).toInt = 1 := rfl; omega)), (show (1 : Int32).toInt ≤ 1 from (by have z15 : (1 : Int32).toInt = 1 := rfl; omega)), (show 0 ≤ y198.toInt from (by have z15 : (1 : Int32).toInt = 1 := rfl; have t1 : 0 ≤ y198.toInt := b208; omega)), (show y198.toInt ≤ 220 from (by have z15 : (1 : Int32).toInt = 1 := rfl; have t1 : y84.toInt ≤ 220 := b95; have t2 : y198.toInt ≤ y84.toInt := b210; omega)), (show 0 ≤ y199.toInt from (by have z15 : (1 : Int32).toInt = 1 := rfl; have t1 : 0 ≤ y199.toInt := b209; omega)), (show y199.toInt ≤ 1 from (by have z15 : (1 : Int32).toInt = 1 := rfl; have t1 : y85.toInt ≤ 1 := b97; have t2 : y199.toInt ≤ y85.toInt := b211; omega)), (show 0 ≤ y89.toInt from (by have z15 : (1 : Int32).toInt = 1 := rfl; have t1 : 0 ≤ y89.toInt := b98; omega)), (show y89.toInt ≤ 220 from (by have z15 : (1 : Int32).toInt = 1 := rfl; have t1 : y89.toInt ≤ 220 := b99; omega)), (show 0 ≤ y90.toInt from (by have z15 : (1 : Int32).toInt = 1 := rfl; have t1 : 0 ≤ y90.toInt := b100; omega)), (show y90.toInt ≤ 1 from (by have z15 : (1 : Int32).toInt = 1 := rfl; have t1 : y90.toInt ≤ 1 := b101; omega)), (show 0 ≤ y193.toInt from (by have z15 : (1 : Int32).toInt = 1 := rfl; have t1 : 0 ≤ y193.toInt := b204; omega)), (show y193.toInt ≤ 220 from (by have z15 : (1 : Int32).toInt = 1 := rfl; have t1 : y193.toInt ≤ 220 := b205; omega)), (show 0 ≤ y194.toInt from (by have z15 : (1 : Int32).toInt = 1 := rfl; have t1 : 0 ≤ y194.toInt := b206; omega)), (show y194.toInt ≤ 1 from (by have z15 : (1 : Int32).toInt = 1 := rfl; have t1 : y194.toInt ≤ 1 := b207; omega)), (show t0_1.toInt ≤ t0_1.toInt from (by have z15 : (1 : Int32).toInt = 1 := rfl; omega)), (show t0_1.toInt ≤ t0_1.toInt from (by have z15 : (1 : Int32).toInt = 1 := rfl; omega)), (show y89.toInt ≤ t1_0.toInt + 3 from (by have z15 : (1 : Int32).toInt = 1 := rfl; have t1 : y33.toInt ≤ t1_0.toInt := b38; have t2 : lx55.toInt ≤ y33.toInt := i66; have t3 : y89.toInt ≤ lx55.toInt + 3 := b102; omega)), (show ((1 : Int32), j231, t0_1, y198, y199, f200, y89, y90, f91, y193, y194, f195) = (F_DW_shorten x2 x3 x4 x5 t0_0 t0_1 t1_0 t1_1 t2_0 t3_0 t3_1 t4_0 t5_0 t5_1 t6_0) from Eq.trans (by rw [← e232, ← e229, e222, e221, e220, e219, e218, e217, e216, F_DW_shorten_c85.eq_1]) hR223)⟩) d_4_16_137
    ·
      have b235 : q_F (a82.toInt = 0) := (q_eqI c120)
      refine lv_iconst (v := 0) hx hb d_4_16_56 (by decide) ?_
      exact q_retz C0 V (by decide) (⟨hI, hF, t0_0, t0_1, y84, y85, f86, y89, y90, f91, t5_0, t5_1, t6_0, hO58, hO83, hA87, hO88, hA92, hO63, hA64, (show 0 ≤ (0 : Int32).toInt from (by have z15 : (0 : Int32).toInt = 0 := rfl; omega)), (show (0 : Int32).toInt ≤ 1 from (by have z15 : (0 : Int32).toInt = 0 := rfl; omega)), (show 0 ≤ y84.toInt from (by have z15 : (0 : Int32).toInt = 0 := rfl; have t1 : 0 ≤ y85.toInt := b96; have t2 : y85.toInt ≤ y84.toInt := b103; omega)), (show y84.toInt ≤ 220 from (by have z15 : (0 : Int32).toInt = 0 := rfl; have t1 : y84.toInt ≤ 220 := b95; omega)), (show 0 ≤ y85.toInt from (by have z15 : (0 : Int32).toInt = 0 := rfl; have t1 : 0 ≤ y85.toInt := b96; omega)), (show y85.toInt ≤ 1 from (by have z15 : (0 : Int32).toInt = 0 := rfl; have t1 : y85.toInt ≤ 1 := b97; omega)), (show 0 ≤ y89.toInt from (by have z15 : (0 : Int32).toInt = 0 := rfl; have t1 : 0 ≤ y89.toInt := b98; omega)), (show y89.toInt ≤ 220 from (by have z15 : (0 : Int32).toInt = 0 := rfl; have t1 : y89.toInt ≤ 220 := b99; omega)), (show 0 ≤ y90.toInt from (by have z15 : (0 : Int32).toInt = 0 := rfl; have t1 : 0 ≤ y90.toInt := b100; omega)), (show y90.toInt ≤ 1 from (by have z15 : (0 : Int32).toInt = 0 := rfl; have t1 : y90.toInt ≤ 1 := b101; omega)), (show 0 ≤ t5_0.toInt from (by have z15 : (0 : Int32).toInt = 0 := rfl; have t1 : 0 ≤ t5_0.toInt ∧ t5_0.toInt ≤ 220 := btt5_0; omega)), (show t5_0.toInt ≤ 220 from (by have z15 : (0 : Int32).toInt = 0 := rfl; have t1 : 0 ≤ t5_0.toInt ∧ t5_0.toInt ≤ 220 := btt5_0; omega)), (show 0 ≤ t5_1.toInt from (by have z15 : (0 : Int32).toInt = 0 := rfl; have t1 : 0 ≤ t5_1.toInt ∧ t5_1.toInt ≤ 1 := btt5_1; omega)), (show t5_1.toInt ≤ 1 from (by have z15 : (0 : Int32).toInt = 0 := rfl; have t1 : 0 ≤ t5_1.toInt ∧ t5_1.toInt ≤ 1 := btt5_1; omega)), (show t0_1.toInt ≤ t0_1.toInt from (by have z15 : (0 : Int32).toInt = 0 := rfl; omega)), (show t0_1.toInt ≤ t0_1.toInt from (by have z15 : (0 : Int32).toInt = 0 := rfl; omega)), (show y89.toInt ≤ t1_0.toInt + 3 from (by have z15 : (0 : Int32).toInt = 0 := rfl; have t1 : y33.toInt ≤ t1_0.toInt := b38; have t2 : lx55.toInt ≤ y33.toInt := i66; have t3 : y89.toInt ≤ lx55.toInt + 3 := b102; omega)), (show ((0 : Int32), t0_0, t0_1, y84, y85, f86, y89, y90, f91, t5_0, t5_1, t6_0) = (F_DW_shorten x2 x3 x4 x5 t0_0 t0_1 t1_0 t1_1 t2_0 t3_0 t3_1 t4_0 t5_0 t5_1 t6_0) from Eq.trans (by have c120x := c120; rw [e108] at c120x; rw [e114, e113, e112, e111, e110, e109, F_DW_shorten_c50.eq_1, if_pos c120x]) hR115)⟩) d_4_16_57
  ·
    intro J65
    refine q_join (X := Int32 × Int32 × (Nat → Int32)) (fun z H locs ls w252 => q_F (0 ≤ z.2.1.toInt) ∧ q_F (z.1.toInt ≤ y33.toInt) ∧ q_F (z.2.1.toInt ≤ y34.toInt) ∧ q_F (z.2.1.toInt ≤ z.1.toInt + 1) ∧ q_F (0 ≤ z.1.toInt + z.2.1.toInt) ∧ q_Wd D g (va_A ws sz) s w252 H locs ∧ lv_has ls 7 [(0, .ref (q 30)), (1, .int x2), (2, .int x3), (3, .long x4), (5, .int x5)] ∧ q_I (nsh g q) q w252 ∧ q_un ws w252 [10, 11, 20, 21, 22, 23, 30] ∧ w252[30]? = (some (q 30, .inr (5, [.ref (q 31), .long t0_0, .ref (q 9), .int t0_1])) : Option (Nat × va_E)) ∧ w252[10]? = (some (q 10, .inr (2, [.ref (q 11), .int t1_0, .int t1_1])) : Option (Nat × va_E)) ∧ w252[11]? = (some (q 11, .inl (g 0, (220 : Int32).toNatClampNeg, .inl t2_0)) : Option (Nat × va_E)) ∧ w252[22]? = (some (q 22, .inr (2, [.ref (q 23), .int z.1, .int z.2.1])) : Option (Nat × va_E)) ∧ w252[23]? = (some (q 23, .inl (g 0, (220 : Int32).toNatClampNeg, .inl z.2.2)) : Option (Nat × va_E)) ∧ w252[20]? = (some (q 20, .inr (2, [.ref (q 21), .int t5_0, .int t5_1])) : Option (Nat × va_E)) ∧ w252[21]? = (some (q 21, .inl (g 0, (220 : Int32).toNatClampNeg, .inl t6_0)) : Option (Nat × va_E)) ∧ F_DW_shorten_J43 x2 x3 x4 x5 t0_0 t0_1 t1_0 t1_1 t2_0 t3_0 t3_1 t4_0 t5_0 t5_1 t6_0 p44 z.1 z.2.1 z.2.2 = (F_DW_shorten x2 x3 x4 x5 t0_0 t0_1 t1_0 t1_1 t2_0 t3_0 t3_1 t4_0 t5_0 t5_1 t6_0)) (fun z => []) 43 0 0 ?_ ?_
    ·
      rintro ⟨lx236, lx237, lx238⟩ H locs ls w252 ⟨i247, i248, i249, i250, i251, V, hl, hI, hF, hO239, hO240, hA241, hO242, hA243, hO244, hA245, hR253⟩
      replace i247 : q_F (0 ≤ lx237.toInt) := i247
      replace i248 : q_F (lx236.toInt ≤ y33.toInt) := i248
      replace i249 : q_F (lx237.toInt ≤ y34.toInt) := i249
      replace i250 : q_F (lx237.toInt ≤ lx236.toInt + 1) := i250
      replace i251 : q_F (0 ≤ lx236.toInt + lx237.toInt) := i251
      replace hl : lv_has ls 7 [(0, .ref (q 30)), (1, .int x2), (2, .int x3), (3, .long x4), (5, .int x5)] := hl
      replace hO239 : w252[30]? = (some (q 30, .inr (5, [.ref (q 31), .long t0_0, .ref (q 9), .int t0_1])) : Option (Nat × va_E)) := hO239
      replace hO240 : w252[10]? = (some (q 10, .inr (2, [.ref (q 11), .int t1_0, .int t1_1])) : Option (Nat × va_E)) := hO240
      replace hA241 : w252[11]? = (some (q 11, .inl (g 0, (220 : Int32).toNatClampNeg, .inl t2_0)) : Option (Nat × va_E)) := hA241
      replace hO242 : w252[22]? = (some (q 22, .inr (2, [.ref (q 23), .int lx236, .int lx237])) : Option (Nat × va_E)) := hO242
      replace hA243 : w252[23]? = (some (q 23, .inl (g 0, (220 : Int32).toNatClampNeg, .inl lx238)) : Option (Nat × va_E)) := hA243
      replace hO244 : w252[20]? = (some (q 20, .inr (2, [.ref (q 21), .int t5_0, .int t5_1])) : Option (Nat × va_E)) := hO244
      replace hA245 : w252[21]? = (some (q 21, .inl (g 0, (220 : Int32).toNatClampNeg, .inl t6_0)) : Option (Nat × va_E)) := hA245
      refine lv_iconst (v := 0) hx hb d_4_16_43 (by decide) ?_
      exact J65 ((0 : Int32), (lx236 : Int32), (lx237 : Int32), (lx238 : (Nat → Int32))) _ _ _ _ ⟨(show q_F (lx236.toInt ≤ y33.toInt) from (show lx236.toInt ≤ y33.toInt from by have t1 : lx236.toInt ≤ y33.toInt := i248; omega)), (show q_F (lx237.toInt ≤ y34.toInt) from (show lx237.toInt ≤ y34.toInt from by have t1 : lx237.toInt ≤ y34.toInt := i249; omega)), (show q_F (lx237.toInt ≤ 0 + 1) from (show lx237.toInt ≤ 0 + 1 from by have t1 : 0 ≤ t1_1.toInt ∧ t1_1.toInt ≤ 1 := btt1_1; have t2 : y34.toInt ≤ t1_1.toInt := b41; have t3 : lx237.toInt ≤ y34.toInt := i249; omega)), (show q_F (0 ≤ lx237.toInt + 1) from (show 0 ≤ lx237.toInt + 1 from by have t1 : 0 ≤ lx237.toInt := i247; omega)), (show q_F (0 ≤ 0 + lx237.toInt) from (show 0 ≤ 0 + lx237.toInt from by have t1 : 0 ≤ lx237.toInt := i247; omega)), (show q_F (0 + lx237.toInt ≤ 2) from (show 0 + lx237.toInt ≤ 2 from by have t1 : 0 ≤ t1_1.toInt ∧ t1_1.toInt ≤ 1 := btt1_1; have t2 : y34.toInt ≤ t1_1.toInt := b41; have t3 : lx237.toInt ≤ y34.toInt := i249; omega)), (show q_F (lx237.toInt ≤ lx236.toInt + 1) from (show lx237.toInt ≤ lx236.toInt + 1 from by have t1 : lx237.toInt ≤ lx236.toInt + 1 := i250; omega)), (show q_F (0 ≤ lx236.toInt + lx237.toInt) from (show 0 ≤ lx236.toInt + lx237.toInt from by have t1 : 0 ≤ lx236.toInt + lx237.toInt := i251; omega)), V, q_lw hl (q_lw1 0 rfl (q_lw1 1 rfl (q_lw1 2 rfl (q_lw1 3 rfl (q_lw1 4 rfl q_lw0))))), hI, hF, hO239, hO240, hA241, hO242, hA243, hO244, hA245, (show F_DW_shorten_J44 x2 x3 x4 x5 t0_0 t0_1 t1_0 t1_1 t2_0 t3_0 t3_1 t4_0 t5_0 t5_1 t6_0 p44 0 lx236 lx237 lx238 = (F_DW_shorten x2 x3 x4 x5 t0_0 t0_1 t1_0 t1_1 t2_0 t3_0 t3_1 t4_0 t5_0 t5_1 t6_0) from Eq.trans (by rw [F_DW_shorten_J43.eq_1]) hR253)⟩
    ·
      intro J246
      refine lv_if_ne (tgt := 43) hx hb d_4_16_21 (by decide) (fun c258 => ?_) (fun c258 => ?_)
      ·
        have b259 : q_F (t0_1.toInt ≠ 0) := (q_neI c258)
        exact J246 ((y33 : Int32), (y34 : Int32), (f35 : (Nat → Int32))) _ _ _ _ ⟨(show q_F (0 ≤ y34.toInt) from (show 0 ≤ y34.toInt from by have t1 : 0 ≤ t1_1.toInt ∧ t1_1.toInt ≤ 1 := btt1_1; have t2 : t1_1.toInt ≤ y34.toInt := b40; omega)), (show q_F (y33.toInt ≤ y33.toInt) from (show y33.toInt ≤ y33.toInt from by omega)), (show q_F (y34.toInt ≤ y34.toInt) from (show y34.toInt ≤ y34.toInt from by omega)), (show q_F (y34.toInt ≤ y33.toInt + 1) from (show y34.toInt ≤ y33.toInt + 1 from by have t1 : 0 ≤ t1_1.toInt ∧ t1_1.toInt ≤ 1 := btt1_1; have t2 : 0 ≤ y33.toInt := b37; have t3 : y34.toInt ≤ t1_1.toInt := b41; omega)), (show q_F (0 ≤ y33.toInt + y34.toInt) from (show 0 ≤ y33.toInt + y34.toInt from by have t1 : 0 ≤ t1_1.toInt ∧ t1_1.toInt ≤ 1 := btt1_1; have t2 : 0 ≤ y33.toInt := b37; have t3 : t1_1.toInt ≤ y34.toInt := b40; omega)), V, q_lw hl (q_lw1 0 rfl (q_lw1 1 rfl (q_lw1 2 rfl (q_lw1 3 rfl (q_lw1 4 rfl q_lw0))))), hI, hF, hT0, hT1, hT2, hO32, hA36, hT5, hT6, (show F_DW_shorten_J43 x2 x3 x4 x5 t0_0 t0_1 t1_0 t1_1 t2_0 t3_0 t3_1 t4_0 t5_0 t5_1 t6_0 p44 y33 y34 f35 = (F_DW_shorten x2 x3 x4 x5 t0_0 t0_1 t1_0 t1_1 t2_0 t3_0 t3_1 t4_0 t5_0 t5_1 t6_0) from Eq.trans (by rw [e48, e47, e46, F_DW_shorten_c14.eq_1, if_neg c258]) hR49)⟩
      ·
        have b260 : q_F (t0_1.toInt = 0) := (q_eqI c258)
        refine lv_aload_n hx hb d_4_16_24 rfl (lv_at hl 0 rfl) ?_
        refine q_get (ci := 5) (j := 2) (v := .ref (q 9)) C0 V i_DW rfl rfl hT0 (by decide) w_214 rfl d_4_16_25 ?_
        refine q_get (ci := 4) (j := 6) (v := .ref (q 22)) C0 V i_Mil rfl rfl hO29 (by decide) w_126 rfl d_4_16_28 ?_
        refine lv_bipush (v := 10) hx hb d_4_16_31 (by decide) ?_
        refine q_goi V (q_runV (As := [.int 10]) (rest := []) (d := 2) (mc := 0) (ms := 0) (ci := 2) C0 V rfl LV_DW_169 (X_Big_divideSmall l D g q u30 22 220 (n_b22 g q) (by decide) 10 hI y33 y34 hO32 f35 hA36  _) rfl rfl hO32 rfl hl.1 rfl (Nat.le_of_ble_eq_true rfl) ⟨by decide, by decide⟩ ⟨Nat.le_of_ble_eq_true rfl, Nat.le_of_ble_eq_true rfl⟩ d_4_16_33) (fun a263 u261 H locs hp262 V => ?_)
        obtain ⟨hI, hu274, y265, y266, f267, hO264, hA268, b269, b270, b271, b272, hE273⟩ := hp262
        replace hO264 : u261[22]? = (some (q 22, .inr (2, [.ref (q 23), .int y265, .int y266])) : Option (Nat × va_E)) := hO264
        replace hA268 : u261[23]? = (some (q 23, .inl (g 0, (220 : Int32).toNatClampNeg, .inl f267)) : Option (Nat × va_E)) := hA268
        obtain ⟨p275, e276⟩ : ∃ z, z = (F_Big_divideSmall (220 : Int32) (10 : Int32) y33 y34 f35) := ⟨_, rfl⟩
        have e277 : a263 = p275.1 := congrArg (fun z => z.1) (hE273.trans e276.symm)
        have e278 : y265 = p275.2.1 := congrArg (fun z => z.2.1) (hE273.trans e276.symm)
        have e279 : y266 = p275.2.2.1 := congrArg (fun z => z.2.2.1) (hE273.trans e276.symm)
        have e280 : f267 = p275.2.2.2 := congrArg (fun z => z.2.2.2) (hE273.trans e276.symm)
        replace b269 : q_F (0 ≤ y266.toInt) := b269
        replace b270 : q_F (y265.toInt ≤ y33.toInt) := b270
        replace b271 : q_F (y266.toInt ≤ y34.toInt) := b271
        replace b272 : q_F (y266.toInt ≤ y265.toInt) := b272
        replace hT0 := (hu274 _ (by decide)).trans hT0
        replace hT1 := (hu274 _ (by decide)).trans hT1
        replace hT2 := (hu274 _ (by decide)).trans hT2
        replace hT5 := (hu274 _ (by decide)).trans hT5
        replace hT6 := (hu274 _ (by decide)).trans hT6
        replace hO29 := (hu274 _ (by decide)).trans hO29
        replace hF := q_uc hF hu274 (by simp)
        have hR281 := (show F_DW_shorten_c33 x2 x3 x4 x5 t0_0 t0_1 t1_0 t1_1 t2_0 t3_0 t3_1 t4_0 t5_0 t5_1 t6_0 p44 p275 = (F_DW_shorten x2 x3 x4 x5 t0_0 t0_1 t1_0 t1_1 t2_0 t3_0 t3_1 t4_0 t5_0 t5_1 t6_0) from Eq.trans (by rw [e276, e48, e47, e46, F_DW_shorten_c14.eq_1, if_pos c258]) hR49)
        refine lv_if_ne (tgt := 43) hx hb d_4_16_36 (by decide) (fun c286 => ?_) (fun c286 => ?_)
        ·
          have b287 : q_F (a263.toInt ≠ 0) := (q_neI c286)
          exact J246 ((y265 : Int32), (y266 : Int32), (f267 : (Nat → Int32))) _ _ _ _ ⟨(show q_F (0 ≤ y266.toInt) from (show 0 ≤ y266.toInt from by have t1 : 0 ≤ y266.toInt := b269; omega)), (show q_F (y265.toInt ≤ y33.toInt) from (show y265.toInt ≤ y33.toInt from by have t1 : y265.toInt ≤ y33.toInt := b270; omega)), (show q_F (y266.toInt ≤ y34.toInt) from (show y266.toInt ≤ y34.toInt from by have t1 : y266.toInt ≤ y34.toInt := b271; omega)), (show q_F (y266.toInt ≤ y265.toInt + 1) from (show y266.toInt ≤ y265.toInt + 1 from by have t1 : y266.toInt ≤ y265.toInt := b272; omega)), (show q_F (0 ≤ y265.toInt + y266.toInt) from (show 0 ≤ y265.toInt + y266.toInt from by have t1 : 0 ≤ y266.toInt := b269; have t2 : y266.toInt ≤ y265.toInt := b272; omega)), V, q_lw hl (q_lw1 0 rfl (q_lw1 1 rfl (q_lw1 2 rfl (q_lw1 3 rfl (q_lw1 4 rfl q_lw0))))), hI, hF, hT0, hT1, hT2, hO264, hA268, hT5, hT6, (show F_DW_shorten_J43 x2 x3 x4 x5 t0_0 t0_1 t1_0 t1_1 t2_0 t3_0 t3_1 t4_0 t5_0 t5_1 t6_0 p44 y265 y266 f267 = (F_DW_shorten x2 x3 x4 x5 t0_0 t0_1 t1_0 t1_1 t2_0 t3_0 t3_1 t4_0 t5_0 t5_1 t6_0) from Eq.trans (by have c286x := c286; rw [e277] at c286x; rw [e280, e279, e278, F_DW_shorten_c33.eq_1, if_neg c286x]) hR281)⟩
        ·
          have b288 : q_F (a263.toInt = 0) := (q_eqI c286)
          refine lv_iconst (v := 1) hx hb d_4_16_39 (by decide) ?_
          refine lv_goto (tgt := 44) hx hb d_4_16_40 (by decide) ?_
          exact J65 ((1 : Int32), (y265 : Int32), (y266 : Int32), (f267 : (Nat → Int32))) _ _ _ _ ⟨(show q_F (y265.toInt ≤ y33.toInt) from (show y265.toInt ≤ y33.toInt from by have t1 : y265.toInt ≤ y33.toInt := b270; omega)), (show q_F (y266.toInt ≤ y34.toInt) from (show y266.toInt ≤ y34.toInt from by have t1 : y266.toInt ≤ y34.toInt := b271; omega)), (show q_F (y266.toInt ≤ 1 + 1) from (show y266.toInt ≤ 1 + 1 from by have t1 : 0 ≤ t1_1.toInt ∧ t1_1.toInt ≤ 1 := btt1_1; have t2 : y34.toInt ≤ t1_1.toInt := b41; have t3 : y266.toInt ≤ y34.toInt := b271; omega)), (show q_F (1 ≤ y266.toInt + 1) from (show 1 ≤ y266.toInt + 1 from by have t1 : 0 ≤ y266.toInt := b269; omega)), (show q_F (0 ≤ 1 + y266.toInt) from (show 0 ≤ 1 + y266.toInt from by have t1 : 0 ≤ y266.toInt := b269; omega)), (show q_F (1 + y266.toInt ≤ 2) from (show 1 + y266.toInt ≤ 2 from by have t1 : 0 ≤ t1_1.toInt ∧ t1_1.toInt ≤ 1 := btt1_1; have t2 : y34.toInt ≤ t1_1.toInt := b41; have t3 : y266.toInt ≤ y34.toInt := b271; omega)), (show q_F (y266.toInt ≤ y265.toInt + 1) from (show y266.toInt ≤ y265.toInt + 1 from by have t1 : y266.toInt ≤ y265.toInt := b272; omega)), (show q_F (0 ≤ y265.toInt + y266.toInt) from (show 0 ≤ y265.toInt + y266.toInt from by have t1 : 0 ≤ y266.toInt := b269; have t2 : y266.toInt ≤ y265.toInt := b272; omega)), V, q_lw hl (q_lw1 0 rfl (q_lw1 1 rfl (q_lw1 2 rfl (q_lw1 3 rfl (q_lw1 4 rfl q_lw0))))), hI, hF, hT0, hT1, hT2, hO264, hA268, hT5, hT6, (show F_DW_shorten_J44 x2 x3 x4 x5 t0_0 t0_1 t1_0 t1_1 t2_0 t3_0 t3_1 t4_0 t5_0 t5_1 t6_0 p44 1 y265 y266 f267 = (F_DW_shorten x2 x3 x4 x5 t0_0 t0_1 t1_0 t1_1 t2_0 t3_0 t3_1 t4_0 t5_0 t5_1 t6_0) from Eq.trans (by have c286x := c286; rw [e277] at c286x; rw [e280, e279, e278, F_DW_shorten_c33.eq_1, if_pos c286x]) hR281)⟩
theorem d_4_15_0 : decode prog_4_method_15_code 0 = .ok (.aload_n 0, 1) := by decide +kernel
theorem d_4_15_1 : decode prog_4_method_15_code 1 = .ok (.getfield 20, 3) := by decide +kernel
theorem d_4_15_4 : decode prog_4_method_15_code 4 = .ok (.getfield 72, 3) := by decide +kernel
theorem d_4_15_7 : decode prog_4_method_15_code 7 = .ok (.aload_n 1, 1) := by decide +kernel
theorem d_4_15_8 : decode prog_4_method_15_code 8 = .ok (.getfield 24, 3) := by decide +kernel
theorem d_4_15_11 : decode prog_4_method_15_code 11 = .ok (.invokevirtual 44, 3) := by decide +kernel
theorem d_4_15_14 : decode prog_4_method_15_code 14 = .ok (.aload_n 0, 1) := by decide +kernel
theorem d_4_15_15 : decode prog_4_method_15_code 15 = .ok (.getfield 20, 3) := by decide +kernel
theorem d_4_15_18 : decode prog_4_method_15_code 18 = .ok (.getfield 72, 3) := by decide +kernel
theorem d_4_15_21 : decode prog_4_method_15_code 21 = .ok (.iload_n 3, 1) := by decide +kernel
theorem d_4_15_22 : decode prog_4_method_15_code 22 = .ok (.invokevirtual 77, 3) := by decide +kernel
theorem d_4_15_25 : decode prog_4_method_15_code 25 = .ok (.aload_n 0, 1) := by decide +kernel
theorem d_4_15_26 : decode prog_4_method_15_code 26 = .ok (.aload_n 0, 1) := by decide +kernel
theorem d_4_15_27 : decode prog_4_method_15_code 27 = .ok (.getfield 20, 3) := by decide +kernel
theorem d_4_15_30 : decode prog_4_method_15_code 30 = .ok (.getfield 72, 3) := by decide +kernel
theorem d_4_15_33 : decode prog_4_method_15_code 33 = .ok (.iload_n 3, 1) := by decide +kernel
theorem d_4_15_34 : decode prog_4_method_15_code 34 = .ok (.ineg, 1) := by decide +kernel
theorem d_4_15_35 : decode prog_4_method_15_code 35 = .ok (.invokevirtual 149, 3) := by decide +kernel
theorem d_4_15_38 : decode prog_4_method_15_code 38 = .ok (.putfield 146, 3) := by decide +kernel
theorem d_4_15_41 : decode prog_4_method_15_code 41 = .ok (.aload_n 0, 1) := by decide +kernel
theorem d_4_15_42 : decode prog_4_method_15_code 42 = .ok (.getfield 20, 3) := by decide +kernel
theorem d_4_15_45 : decode prog_4_method_15_code 45 = .ok (.getfield 72, 3) := by decide +kernel
theorem d_4_15_48 : decode prog_4_method_15_code 48 = .ok (.aload_n 2, 1) := by decide +kernel
theorem d_4_15_49 : decode prog_4_method_15_code 49 = .ok (.getfield 24, 3) := by decide +kernel
theorem d_4_15_52 : decode prog_4_method_15_code 52 = .ok (.aload_n 0, 1) := by decide +kernel
theorem d_4_15_53 : decode prog_4_method_15_code 53 = .ok (.getfield 20, 3) := by decide +kernel
theorem d_4_15_56 : decode prog_4_method_15_code 56 = .ok (.getfield 106, 3) := by decide +kernel
theorem d_4_15_59 : decode prog_4_method_15_code 59 = .ok (.invokevirtual 109, 3) := by decide +kernel
theorem d_4_15_62 : decode prog_4_method_15_code 62 = .ok (.aload_n 0, 1) := by decide +kernel
theorem d_4_15_63 : decode prog_4_method_15_code 63 = .ok (.dup, 1) := by decide +kernel
theorem d_4_15_64 : decode prog_4_method_15_code 64 = .ok (.getfield 146, 3) := by decide +kernel
theorem d_4_15_67 : decode prog_4_method_15_code 67 = .ok (.aload_n 0, 1) := by decide +kernel
theorem d_4_15_68 : decode prog_4_method_15_code 68 = .ok (.getfield 20, 3) := by decide +kernel
theorem d_4_15_71 : decode prog_4_method_15_code 71 = .ok (.getfield 72, 3) := by decide +kernel
theorem d_4_15_74 : decode prog_4_method_15_code 74 = .ok (.getfield 63, 3) := by decide +kernel
theorem d_4_15_77 : decode prog_4_method_15_code 77 = .ok (.ifCond .le 7, 3) := by decide +kernel
theorem d_4_15_84 : decode prog_4_method_15_code 84 = .ok (.iconst 0, 1) := by decide +kernel
theorem d_4_15_85 : decode prog_4_method_15_code 85 = .ok (.ior, 1) := by decide +kernel
theorem d_4_15_86 : decode prog_4_method_15_code 86 = .ok (.putfield 146, 3) := by decide +kernel
theorem d_4_15_89 : decode prog_4_method_15_code 89 = .ok (.aload_n 0, 1) := by decide +kernel
theorem d_4_15_90 : decode prog_4_method_15_code 90 = .ok (.getfield 20, 3) := by decide +kernel
theorem d_4_15_93 : decode prog_4_method_15_code 93 = .ok (.getfield 55, 3) := by decide +kernel
theorem d_4_15_96 : decode prog_4_method_15_code 96 = .ok (.aload_n 0, 1) := by decide +kernel
theorem d_4_15_97 : decode prog_4_method_15_code 97 = .ok (.getfield 20, 3) := by decide +kernel
theorem d_4_15_100 : decode prog_4_method_15_code 100 = .ok (.getfield 106, 3) := by decide +kernel
theorem d_4_15_103 : decode prog_4_method_15_code 103 = .ok (.invokevirtual 44, 3) := by decide +kernel
theorem d_4_15_106 : decode prog_4_method_15_code 106 = .ok (.return_, 1) := by decide +kernel
theorem d_4_15_80 : decode prog_4_method_15_code 80 = .ok (.iconst 1, 1) := by decide +kernel
theorem d_4_15_81 : decode prog_4_method_15_code 81 = .ok (.goto 4, 3) := by decide +kernel
def y_DW_divideRaised : MethodName := ⟨"NumberHouse$DecimalWork", "divideRaised", "(LNumberHouse$Dec;LNumberHouse$Dec;I)V"⟩
def F_DW_divideRaised_c103 (R : Int32) (R2 : Int32) (x4 : Int32) (t0_0 : Int64) (t0_1 : Int32) (t1_0 : Int32) (t1_1 : Int32) (t2_0 : (Nat → Int32)) (t3_0 : Int32) (t3_1 : Int32) (t4_0 : (Nat → Int32)) (t5_0 : Int32) (t5_1 : Int32) (t6_0 : (Nat → Int32)) (t7_0 : Int32) (t7_1 : Int32) (t8_0 : Int32) (t8_1 : Int32) (t9_0 : (Nat → Int32)) (t10_0 : Int32) (t10_1 : Int32) (t11_0 : Int32) (t11_1 : Int32) (t12_0 : (Nat → Int32)) (p70 : (Int32 × Int32 × (Nat → Int32))) (p93 : (Int32 × Int32 × (Nat → Int32))) (p122 : (Int32 × Int32 × Int32 × (Nat → Int32))) (a107 : Int32) (p170 : (Int32 × Int32 × (Nat → Int32) × Int32 × Int32 × (Nat → Int32) × Int32 × Int32 × (Nat → Int32))) (a188 : Int32) (y149 : Int32) (y150 : Int32) (f151 : (Nat → Int32)) (y139 : Int32) (y140 : Int32) (f141 : (Nat → Int32)) (y144 : Int32) (y145 : Int32) (f146 : (Nat → Int32)) (p207 : (Int32 × Int32 × (Nat → Int32))) : Int64 × Int32 × Int32 × Int32 × (Nat → Int32) × Int32 × Int32 × (Nat → Int32) × Int32 × Int32 × (Nat → Int32) × Int32 × Int32 × (Nat → Int32) := (t0_0, a188, (p207.1 : Int32), (p207.2.1 : Int32), (p207.2.2 : (Nat → Int32)), y149, y150, f151, y139, y140, f141, y144, y145, f146)
def F_DW_divideRaised_c103_6 (R : Int32) (R2 : Int32) (x4 : Int32) (t0_0 : Int64) (t0_1 : Int32) (t1_0 : Int32) (t1_1 : Int32) (t2_0 : (Nat → Int32)) (t3_0 : Int32) (t3_1 : Int32) (t4_0 : (Nat → Int32)) (t5_0 : Int32) (t5_1 : Int32) (t6_0 : (Nat → Int32)) (t7_0 : Int32) (t7_1 : Int32) (t8_0 : Int32) (t8_1 : Int32) (t9_0 : (Nat → Int32)) (t10_0 : Int32) (t10_1 : Int32) (t11_0 : Int32) (t11_1 : Int32) (t12_0 : (Nat → Int32)) (p70 : (Int32 × Int32 × (Nat → Int32))) (p93 : (Int32 × Int32 × (Nat → Int32))) (p122 : (Int32 × Int32 × Int32 × (Nat → Int32))) (a107 : Int32) (p170 : (Int32 × Int32 × (Nat → Int32) × Int32 × Int32 × (Nat → Int32) × Int32 × Int32 × (Nat → Int32))) (a218 : Int32) (y149 : Int32) (y150 : Int32) (f151 : (Nat → Int32)) (y139 : Int32) (y140 : Int32) (f141 : (Nat → Int32)) (y144 : Int32) (y145 : Int32) (f146 : (Nat → Int32)) (p237 : (Int32 × Int32 × (Nat → Int32))) : Int64 × Int32 × Int32 × Int32 × (Nat → Int32) × Int32 × Int32 × (Nat → Int32) × Int32 × Int32 × (Nat → Int32) × Int32 × Int32 × (Nat → Int32) := (t0_0, a218, (p237.1 : Int32), (p237.2.1 : Int32), (p237.2.2 : (Nat → Int32)), y149, y150, f151, y139, y140, f141, y144, y145, f146)
def F_DW_divideRaised_c59 (R : Int32) (R2 : Int32) (x4 : Int32) (t0_0 : Int64) (t0_1 : Int32) (t1_0 : Int32) (t1_1 : Int32) (t2_0 : (Nat → Int32)) (t3_0 : Int32) (t3_1 : Int32) (t4_0 : (Nat → Int32)) (t5_0 : Int32) (t5_1 : Int32) (t6_0 : (Nat → Int32)) (t7_0 : Int32) (t7_1 : Int32) (t8_0 : Int32) (t8_1 : Int32) (t9_0 : (Nat → Int32)) (t10_0 : Int32) (t10_1 : Int32) (t11_0 : Int32) (t11_1 : Int32) (t12_0 : (Nat → Int32)) (p70 : (Int32 × Int32 × (Nat → Int32))) (p93 : (Int32 × Int32 × (Nat → Int32))) (p122 : (Int32 × Int32 × Int32 × (Nat → Int32))) (a107 : Int32) (p170 : (Int32 × Int32 × (Nat → Int32) × Int32 × Int32 × (Nat → Int32) × Int32 × Int32 × (Nat → Int32))) : Int64 × Int32 × Int32 × Int32 × (Nat → Int32) × Int32 × Int32 × (Nat → Int32) × Int32 × Int32 × (Nat → Int32) × Int32 × Int32 × (Nat → Int32) := if (p170.1 : Int32) ≤ (0 : Int32) then (F_DW_divideRaised_c103 R R2 x4 t0_0 t0_1 t1_0 t1_1 t2_0 t3_0 t3_1 t4_0 t5_0 t5_1 t6_0 t7_0 t7_1 t8_0 t8_1 t9_0 t10_0 t10_1 t11_0 t11_1 t12_0 p70 p93 p122 a107 p170 (a107 ||| 0 : Int32) (p170.2.2.2.2.2.2.1 : Int32) (p170.2.2.2.2.2.2.2.1 : Int32) (p170.2.2.2.2.2.2.2.2 : (Nat → Int32)) (p170.1 : Int32) (p170.2.1 : Int32) (p170.2.2.1 : (Nat → Int32)) (p170.2.2.2.1 : Int32) (p170.2.2.2.2.1 : Int32) (p170.2.2.2.2.2.1 : (Nat → Int32)) ((F_Big_copy (220 : Int32) (220 : Int32) t1_0 t1_1 t2_0 (p170.2.2.2.2.2.2.1 : Int32) (p170.2.2.2.2.2.2.2.1 : Int32) (p170.2.2.2.2.2.2.2.2 : (Nat → Int32))) : (Int32 × Int32 × (Nat → Int32)))) else (F_DW_divideRaised_c103_6 R R2 x4 t0_0 t0_1 t1_0 t1_1 t2_0 t3_0 t3_1 t4_0 t5_0 t5_1 t6_0 t7_0 t7_1 t8_0 t8_1 t9_0 t10_0 t10_1 t11_0 t11_1 t12_0 p70 p93 p122 a107 p170 (a107 ||| 1 : Int32) (p170.2.2.2.2.2.2.1 : Int32) (p170.2.2.2.2.2.2.2.1 : Int32) (p170.2.2.2.2.2.2.2.2 : (Nat → Int32)) (p170.1 : Int32) (p170.2.1 : Int32) (p170.2.2.1 : (Nat → Int32)) (p170.2.2.2.1 : Int32) (p170.2.2.2.2.1 : Int32) (p170.2.2.2.2.2.1 : (Nat → Int32)) ((F_Big_copy (220 : Int32) (220 : Int32) t1_0 t1_1 t2_0 (p170.2.2.2.2.2.2.1 : Int32) (p170.2.2.2.2.2.2.2.1 : Int32) (p170.2.2.2.2.2.2.2.2 : (Nat → Int32))) : (Int32 × Int32 × (Nat → Int32))))
def F_DW_divideRaised_c35 (R : Int32) (R2 : Int32) (x4 : Int32) (t0_0 : Int64) (t0_1 : Int32) (t1_0 : Int32) (t1_1 : Int32) (t2_0 : (Nat → Int32)) (t3_0 : Int32) (t3_1 : Int32) (t4_0 : (Nat → Int32)) (t5_0 : Int32) (t5_1 : Int32) (t6_0 : (Nat → Int32)) (t7_0 : Int32) (t7_1 : Int32) (t8_0 : Int32) (t8_1 : Int32) (t9_0 : (Nat → Int32)) (t10_0 : Int32) (t10_1 : Int32) (t11_0 : Int32) (t11_1 : Int32) (t12_0 : (Nat → Int32)) (p70 : (Int32 × Int32 × (Nat → Int32))) (p93 : (Int32 × Int32 × (Nat → Int32))) (p122 : (Int32 × Int32 × Int32 × (Nat → Int32))) : Int64 × Int32 × Int32 × Int32 × (Nat → Int32) × Int32 × Int32 × (Nat → Int32) × Int32 × Int32 × (Nat → Int32) × Int32 × Int32 × (Nat → Int32) := F_DW_divideRaised_c59 R R2 x4 t0_0 t0_1 t1_0 t1_1 t2_0 t3_0 t3_1 t4_0 t5_0 t5_1 t6_0 t7_0 t7_1 t8_0 t8_1 t9_0 t10_0 t10_1 t11_0 t11_1 t12_0 p70 p93 p122 (p122.1 : Int32) ((F_Big_divideBy (220 : Int32) R2 (220 : Int32) (p122.2.1 : Int32) (p122.2.2.1 : Int32) (p122.2.2.2 : (Nat → Int32)) t11_0 t11_1 t12_0 t3_0 t3_1 t4_0) : (Int32 × Int32 × (Nat → Int32) × Int32 × Int32 × (Nat → Int32) × Int32 × Int32 × (Nat → Int32)))
def F_DW_divideRaised_c22 (R : Int32) (R2 : Int32) (x4 : Int32) (t0_0 : Int64) (t0_1 : Int32) (t1_0 : Int32) (t1_1 : Int32) (t2_0 : (Nat → Int32)) (t3_0 : Int32) (t3_1 : Int32) (t4_0 : (Nat → Int32)) (t5_0 : Int32) (t5_1 : Int32) (t6_0 : (Nat → Int32)) (t7_0 : Int32) (t7_1 : Int32) (t8_0 : Int32) (t8_1 : Int32) (t9_0 : (Nat → Int32)) (t10_0 : Int32) (t10_1 : Int32) (t11_0 : Int32) (t11_1 : Int32) (t12_0 : (Nat → Int32)) (p70 : (Int32 × Int32 × (Nat → Int32))) (p93 : (Int32 × Int32 × (Nat → Int32))) : Int64 × Int32 × Int32 × Int32 × (Nat → Int32) × Int32 × Int32 × (Nat → Int32) × Int32 × Int32 × (Nat → Int32) × Int32 × Int32 × (Nat → Int32) := F_DW_divideRaised_c35 R R2 x4 t0_0 t0_1 t1_0 t1_1 t2_0 t3_0 t3_1 t4_0 t5_0 t5_1 t6_0 t7_0 t7_1 t8_0 t8_1 t9_0 t10_0 t10_1 t11_0 t11_1 t12_0 p70 p93 ((F_Big_dropFigures (220 : Int32) (-x4 : Int32) (p93.1 : Int32) (p93.2.1 : Int32) (p93.2.2 : (Nat → Int32))) : (Int32 × Int32 × Int32 × (Nat → Int32)))
def F_DW_divideRaised_c11 (R : Int32) (R2 : Int32) (x4 : Int32) (t0_0 : Int64) (t0_1 : Int32) (t1_0 : Int32) (t1_1 : Int32) (t2_0 : (Nat → Int32)) (t3_0 : Int32) (t3_1 : Int32) (t4_0 : (Nat → Int32)) (t5_0 : Int32) (t5_1 : Int32) (t6_0 : (Nat → Int32)) (t7_0 : Int32) (t7_1 : Int32) (t8_0 : Int32) (t8_1 : Int32) (t9_0 : (Nat → Int32)) (t10_0 : Int32) (t10_1 : Int32) (t11_0 : Int32) (t11_1 : Int32) (t12_0 : (Nat → Int32)) (p70 : (Int32 × Int32 × (Nat → Int32))) : Int64 × Int32 × Int32 × Int32 × (Nat → Int32) × Int32 × Int32 × (Nat → Int32) × Int32 × Int32 × (Nat → Int32) × Int32 × Int32 × (Nat → Int32) := F_DW_divideRaised_c22 R R2 x4 t0_0 t0_1 t1_0 t1_1 t2_0 t3_0 t3_1 t4_0 t5_0 t5_1 t6_0 t7_0 t7_1 t8_0 t8_1 t9_0 t10_0 t10_1 t11_0 t11_1 t12_0 p70 ((F_Big_timesTen (220 : Int32) x4 (p70.1 : Int32) (p70.2.1 : Int32) (p70.2.2 : (Nat → Int32))) : (Int32 × Int32 × (Nat → Int32)))
def F_DW_divideRaised (R : Int32) (R2 : Int32) (x4 : Int32) (t0_0 : Int64) (t0_1 : Int32) (t1_0 : Int32) (t1_1 : Int32) (t2_0 : (Nat → Int32)) (t3_0 : Int32) (t3_1 : Int32) (t4_0 : (Nat → Int32)) (t5_0 : Int32) (t5_1 : Int32) (t6_0 : (Nat → Int32)) (t7_0 : Int32) (t7_1 : Int32) (t8_0 : Int32) (t8_1 : Int32) (t9_0 : (Nat → Int32)) (t10_0 : Int32) (t10_1 : Int32) (t11_0 : Int32) (t11_1 : Int32) (t12_0 : (Nat → Int32)) : Int64 × Int32 × Int32 × Int32 × (Nat → Int32) × Int32 × Int32 × (Nat → Int32) × Int32 × Int32 × (Nat → Int32) × Int32 × Int32 × (Nat → Int32) := F_DW_divideRaised_c11 R R2 x4 t0_0 t0_1 t1_0 t1_1 t2_0 t3_0 t3_1 t4_0 t5_0 t5_1 t6_0 t7_0 t7_1 t8_0 t8_1 t9_0 t10_0 t10_1 t11_0 t11_1 t12_0 ((F_Big_copy (220 : Int32) R t5_0 t5_1 t6_0 t8_0 t8_1 t9_0) : (Int32 × Int32 × (Nat → Int32)))
def S_DW_divideRaised_c103 (R : Int32) (R2 : Int32) (x4 : Int32) (t0_0 : Int64) (t0_1 : Int32) (t1_0 : Int32) (t1_1 : Int32) (t2_0 : (Nat → Int32)) (t3_0 : Int32) (t3_1 : Int32) (t4_0 : (Nat → Int32)) (t5_0 : Int32) (t5_1 : Int32) (t6_0 : (Nat → Int32)) (t7_0 : Int32) (t7_1 : Int32) (t8_0 : Int32) (t8_1 : Int32) (t9_0 : (Nat → Int32)) (t10_0 : Int32) (t10_1 : Int32) (t11_0 : Int32) (t11_1 : Int32) (t12_0 : (Nat → Int32)) (p70 : (Int32 × Int32 × (Nat → Int32))) (p93 : (Int32 × Int32 × (Nat → Int32))) (p122 : (Int32 × Int32 × Int32 × (Nat → Int32))) (a107 : Int32) (p170 : (Int32 × Int32 × (Nat → Int32) × Int32 × Int32 × (Nat → Int32) × Int32 × Int32 × (Nat → Int32))) (a188 : Int32) (y149 : Int32) (y150 : Int32) (f151 : (Nat → Int32)) (y139 : Int32) (y140 : Int32) (f141 : (Nat → Int32)) (y144 : Int32) (y145 : Int32) (f146 : (Nat → Int32)) (p207 : (Int32 × Int32 × (Nat → Int32))) : Prop := True
def S_DW_divideRaised_c103_6 (R : Int32) (R2 : Int32) (x4 : Int32) (t0_0 : Int64) (t0_1 : Int32) (t1_0 : Int32) (t1_1 : Int32) (t2_0 : (Nat → Int32)) (t3_0 : Int32) (t3_1 : Int32) (t4_0 : (Nat → Int32)) (t5_0 : Int32) (t5_1 : Int32) (t6_0 : (Nat → Int32)) (t7_0 : Int32) (t7_1 : Int32) (t8_0 : Int32) (t8_1 : Int32) (t9_0 : (Nat → Int32)) (t10_0 : Int32) (t10_1 : Int32) (t11_0 : Int32) (t11_1 : Int32) (t12_0 : (Nat → Int32)) (p70 : (Int32 × Int32 × (Nat → Int32))) (p93 : (Int32 × Int32 × (Nat → Int32))) (p122 : (Int32 × Int32 × Int32 × (Nat → Int32))) (a107 : Int32) (p170 : (Int32 × Int32 × (Nat → Int32) × Int32 × Int32 × (Nat → Int32) × Int32 × Int32 × (Nat → Int32))) (a218 : Int32) (y149 : Int32) (y150 : Int32) (f151 : (Nat → Int32)) (y139 : Int32) (y140 : Int32) (f141 : (Nat → Int32)) (y144 : Int32) (y145 : Int32) (f146 : (Nat → Int32)) (p237 : (Int32 × Int32 × (Nat → Int32))) : Prop := True
def S_DW_divideRaised_c59 (R : Int32) (R2 : Int32) (x4 : Int32) (t0_0 : Int64) (t0_1 : Int32) (t1_0 : Int32) (t1_1 : Int32) (t2_0 : (Nat → Int32)) (t3_0 : Int32) (t3_1 : Int32) (t4_0 : (Nat → Int32)) (t5_0 : Int32) (t5_1 : Int32) (t6_0 : (Nat → Int32)) (t7_0 : Int32) (t7_1 : Int32) (t8_0 : Int32) (t8_1 : Int32) (t9_0 : (Nat → Int32)) (t10_0 : Int32) (t10_1 : Int32) (t11_0 : Int32) (t11_1 : Int32) (t12_0 : (Nat → Int32)) (p70 : (Int32 × Int32 × (Nat → Int32))) (p93 : (Int32 × Int32 × (Nat → Int32))) (p122 : (Int32 × Int32 × Int32 × (Nat → Int32))) (a107 : Int32) (p170 : (Int32 × Int32 × (Nat → Int32) × Int32 × Int32 × (Nat → Int32) × Int32 × Int32 × (Nat → Int32))) : Prop := if (p170.1 : Int32) ≤ (0 : Int32) then (S_DW_divideRaised_c103 R R2 x4 t0_0 t0_1 t1_0 t1_1 t2_0 t3_0 t3_1 t4_0 t5_0 t5_1 t6_0 t7_0 t7_1 t8_0 t8_1 t9_0 t10_0 t10_1 t11_0 t11_1 t12_0 p70 p93 p122 a107 p170 (a107 ||| 0 : Int32) (p170.2.2.2.2.2.2.1 : Int32) (p170.2.2.2.2.2.2.2.1 : Int32) (p170.2.2.2.2.2.2.2.2 : (Nat → Int32)) (p170.1 : Int32) (p170.2.1 : Int32) (p170.2.2.1 : (Nat → Int32)) (p170.2.2.2.1 : Int32) (p170.2.2.2.2.1 : Int32) (p170.2.2.2.2.2.1 : (Nat → Int32)) ((F_Big_copy (220 : Int32) (220 : Int32) t1_0 t1_1 t2_0 (p170.2.2.2.2.2.2.1 : Int32) (p170.2.2.2.2.2.2.2.1 : Int32) (p170.2.2.2.2.2.2.2.2 : (Nat → Int32))) : (Int32 × Int32 × (Nat → Int32)))) else (S_DW_divideRaised_c103_6 R R2 x4 t0_0 t0_1 t1_0 t1_1 t2_0 t3_0 t3_1 t4_0 t5_0 t5_1 t6_0 t7_0 t7_1 t8_0 t8_1 t9_0 t10_0 t10_1 t11_0 t11_1 t12_0 p70 p93 p122 a107 p170 (a107 ||| 1 : Int32) (p170.2.2.2.2.2.2.1 : Int32) (p170.2.2.2.2.2.2.2.1 : Int32) (p170.2.2.2.2.2.2.2.2 : (Nat → Int32)) (p170.1 : Int32) (p170.2.1 : Int32) (p170.2.2.1 : (Nat → Int32)) (p170.2.2.2.1 : Int32) (p170.2.2.2.2.1 : Int32) (p170.2.2.2.2.2.1 : (Nat → Int32)) ((F_Big_copy (220 : Int32) (220 : Int32) t1_0 t1_1 t2_0 (p170.2.2.2.2.2.2.1 : Int32) (p170.2.2.2.2.2.2.2.1 : Int32) (p170.2.2.2.2.2.2.2.2 : (Nat → Int32))) : (Int32 × Int32 × (Nat → Int32))))
def S_DW_divideRaised_c35 (R : Int32) (R2 : Int32) (x4 : Int32) (t0_0 : Int64) (t0_1 : Int32) (t1_0 : Int32) (t1_1 : Int32) (t2_0 : (Nat → Int32)) (t3_0 : Int32) (t3_1 : Int32) (t4_0 : (Nat → Int32)) (t5_0 : Int32) (t5_1 : Int32) (t6_0 : (Nat → Int32)) (t7_0 : Int32) (t7_1 : Int32) (t8_0 : Int32) (t8_1 : Int32) (t9_0 : (Nat → Int32)) (t10_0 : Int32) (t10_1 : Int32) (t11_0 : Int32) (t11_1 : Int32) (t12_0 : (Nat → Int32)) (p70 : (Int32 × Int32 × (Nat → Int32))) (p93 : (Int32 × Int32 × (Nat → Int32))) (p122 : (Int32 × Int32 × Int32 × (Nat → Int32))) : Prop := (True ∧ S_Big_divideBy (220 : Int32) R2 (220 : Int32) (p122.2.1 : Int32) (p122.2.2.1 : Int32) (p122.2.2.2 : (Nat → Int32)) t11_0 t11_1 t12_0 t3_0 t3_1 t4_0) ∧ (S_DW_divideRaised_c59 R R2 x4 t0_0 t0_1 t1_0 t1_1 t2_0 t3_0 t3_1 t4_0 t5_0 t5_1 t6_0 t7_0 t7_1 t8_0 t8_1 t9_0 t10_0 t10_1 t11_0 t11_1 t12_0 p70 p93 p122 (p122.1 : Int32) ((F_Big_divideBy (220 : Int32) R2 (220 : Int32) (p122.2.1 : Int32) (p122.2.2.1 : Int32) (p122.2.2.2 : (Nat → Int32)) t11_0 t11_1 t12_0 t3_0 t3_1 t4_0) : (Int32 × Int32 × (Nat → Int32) × Int32 × Int32 × (Nat → Int32) × Int32 × Int32 × (Nat → Int32))))
def S_DW_divideRaised_c22 (R : Int32) (R2 : Int32) (x4 : Int32) (t0_0 : Int64) (t0_1 : Int32) (t1_0 : Int32) (t1_1 : Int32) (t2_0 : (Nat → Int32)) (t3_0 : Int32) (t3_1 : Int32) (t4_0 : (Nat → Int32)) (t5_0 : Int32) (t5_1 : Int32) (t6_0 : (Nat → Int32)) (t7_0 : Int32) (t7_1 : Int32) (t8_0 : Int32) (t8_1 : Int32) (t9_0 : (Nat → Int32)) (t10_0 : Int32) (t10_1 : Int32) (t11_0 : Int32) (t11_1 : Int32) (t12_0 : (Nat → Int32)) (p70 : (Int32 × Int32 × (Nat → Int32))) (p93 : (Int32 × Int32 × (Nat → Int32))) : Prop := S_DW_divideRaised_c35 R R2 x4 t0_0 t0_1 t1_0 t1_1 t2_0 t3_0 t3_1 t4_0 t5_0 t5_1 t6_0 t7_0 t7_1 t8_0 t8_1 t9_0 t10_0 t10_1 t11_0 t11_1 t12_0 p70 p93 ((F_Big_dropFigures (220 : Int32) (-x4 : Int32) (p93.1 : Int32) (p93.2.1 : Int32) (p93.2.2 : (Nat → Int32))) : (Int32 × Int32 × Int32 × (Nat → Int32)))
def S_DW_divideRaised_c11 (R : Int32) (R2 : Int32) (x4 : Int32) (t0_0 : Int64) (t0_1 : Int32) (t1_0 : Int32) (t1_1 : Int32) (t2_0 : (Nat → Int32)) (t3_0 : Int32) (t3_1 : Int32) (t4_0 : (Nat → Int32)) (t5_0 : Int32) (t5_1 : Int32) (t6_0 : (Nat → Int32)) (t7_0 : Int32) (t7_1 : Int32) (t8_0 : Int32) (t8_1 : Int32) (t9_0 : (Nat → Int32)) (t10_0 : Int32) (t10_1 : Int32) (t11_0 : Int32) (t11_1 : Int32) (t12_0 : (Nat → Int32)) (p70 : (Int32 × Int32 × (Nat → Int32))) : Prop := S_DW_divideRaised_c22 R R2 x4 t0_0 t0_1 t1_0 t1_1 t2_0 t3_0 t3_1 t4_0 t5_0 t5_1 t6_0 t7_0 t7_1 t8_0 t8_1 t9_0 t10_0 t10_1 t11_0 t11_1 t12_0 p70 ((F_Big_timesTen (220 : Int32) x4 (p70.1 : Int32) (p70.2.1 : Int32) (p70.2.2 : (Nat → Int32))) : (Int32 × Int32 × (Nat → Int32)))
def S_DW_divideRaised (R : Int32) (R2 : Int32) (x4 : Int32) (t0_0 : Int64) (t0_1 : Int32) (t1_0 : Int32) (t1_1 : Int32) (t2_0 : (Nat → Int32)) (t3_0 : Int32) (t3_1 : Int32) (t4_0 : (Nat → Int32)) (t5_0 : Int32) (t5_1 : Int32) (t6_0 : (Nat → Int32)) (t7_0 : Int32) (t7_1 : Int32) (t8_0 : Int32) (t8_1 : Int32) (t9_0 : (Nat → Int32)) (t10_0 : Int32) (t10_1 : Int32) (t11_0 : Int32) (t11_1 : Int32) (t12_0 : (Nat → Int32)) : Prop := S_DW_divideRaised_c11 R R2 x4 t0_0 t0_1 t1_0 t1_1 t2_0 t3_0 t3_1 t4_0 t5_0 t5_1 t6_0 t7_0 t7_1 t8_0 t8_1 t9_0 t10_0 t10_1 t11_0 t11_1 t12_0 ((F_Big_copy (220 : Int32) R t5_0 t5_1 t6_0 t8_0 t8_1 t9_0) : (Int32 × Int32 × (Nat → Int32)))
set_option maxRecDepth 100000 in
set_option maxHeartbeats 4000000 in
theorem X_DW_divideRaised (l : Launch) (D : va_G) (g : Nat → ClassId) (q : Nat → Nat) (ws : va_W) (k2 : Nat) (R : Int32) (hB2 : q_isDec (nsh g q) g q k2 R) (zk2 : (10 ≤ k2 ∧ k2 ≤ 31) ∨ 66 ≤ k2) (k3 : Nat) (R2 : Int32) (hB3 : q_isDec (nsh g q) g q k3 R2) (zk3 : (10 ≤ k3 ∧ k3 ≤ 31) ∨ 66 ≤ k3) (x4 : Int32) (ne_k2_10 : k2 ≠ 10) (ne_k2_11 : k2 ≠ 11) (ne_k2_9 : k2 ≠ 9) (ne_k2_8 : k2 ≠ 8) (ne_k2_12 : k2 ≠ 12) (ne_k2_13 : k2 ≠ 13) (ne_k2_22 : k2 ≠ 22) (ne_k2_23 : k2 ≠ 23) (ne_k2_21 : k2 ≠ 21) (ne_k2_20 : k2 ≠ 20) (ne_k2_30 : k2 ≠ 30) (ne_k2_31 : k2 ≠ 31) (ne_k2_29 : k2 ≠ 29) (ne_k2_28 : k2 ≠ 28) (ne_k3_10 : k3 ≠ 10) (ne_k3_11 : k3 ≠ 11) (ne_k3_9 : k3 ≠ 9) (ne_k3_8 : k3 ≠ 8) (ne_k3_12 : k3 ≠ 12) (ne_k3_13 : k3 ≠ 13) (ne_k3_22 : k3 ≠ 22) (ne_k3_23 : k3 ≠ 23) (ne_k3_21 : k3 ≠ 21) (ne_k3_20 : k3 ≠ 20) (ne_k3_30 : k3 ≠ 30) (ne_k3_31 : k3 ≠ 31) (ne_k3_29 : k3 ≠ 29) (ne_k3_28 : k3 ≠ 28) (ne_k2_k3 : k2 ≠ k3) (ne_k2_k3p1 : k2 ≠ k3 + 1) (ne_k2_k3p2 : k2 ≠ k3 + 2) (ne_k3_k2p1 : k3 ≠ k2 + 1) (ne_k3_k2p2 : k3 ≠ k2 + 2) (hI : q_I (nsh g q) q ws) (t0_0 : Int64) (t0_1 : Int32) (hT0 : ws[30]? = (some (q 30, .inr (5, [.ref (q 31), .long t0_0, .ref (q 9), .int t0_1])) : Option (Nat × va_E))) (t1_0 : Int32) (t1_1 : Int32) (hT1 : ws[10]? = (some (q 10, .inr (2, [.ref (q 11), .int t1_0, .int t1_1])) : Option (Nat × va_E))) (t2_0 : (Nat → Int32)) (hT2 : ws[11]? = (some (q 11, .inl (g 0, (220 : Int32).toNatClampNeg, .inl t2_0)) : Option (Nat × va_E))) (t3_0 : Int32) (t3_1 : Int32) (hT3 : ws[12]? = (some (q 12, .inr (2, [.ref (q 13), .int t3_0, .int t3_1])) : Option (Nat × va_E))) (t4_0 : (Nat → Int32)) (hT4 : ws[13]? = (some (q 13, .inl (g 0, (220 : Int32).toNatClampNeg, .inl t4_0)) : Option (Nat × va_E))) (t5_0 : Int32) (t5_1 : Int32) (hT5 : ws[22]? = (some (q 22, .inr (2, [.ref (q 23), .int t5_0, .int t5_1])) : Option (Nat × va_E))) (t6_0 : (Nat → Int32)) (hT6 : ws[23]? = (some (q 23, .inl (g 0, (220 : Int32).toNatClampNeg, .inl t6_0)) : Option (Nat × va_E))) (t7_0 : Int32) (t7_1 : Int32) (hT7 : ws[k2]? = (some (q k2, .inr (3, [.ref (q (k2 + 1)), .int t7_0, .int t7_1])) : Option (Nat × va_E))) (t8_0 : Int32) (t8_1 : Int32) (hT8 : ws[k2 + 1]? = (some (q (k2 + 1), .inr (2, [.ref (q (k2 + 2)), .int t8_0, .int t8_1])) : Option (Nat × va_E))) (t9_0 : (Nat → Int32)) (hT9 : ws[k2 + 2]? = (some (q (k2 + 2), .inl (g 0, R.toNatClampNeg, .inl t9_0)) : Option (Nat × va_E))) (t10_0 : Int32) (t10_1 : Int32) (hT10 : ws[k3]? = (some (q k3, .inr (3, [.ref (q (k3 + 1)), .int t10_0, .int t10_1])) : Option (Nat × va_E))) (t11_0 : Int32) (t11_1 : Int32) (hT11 : ws[k3 + 1]? = (some (q (k3 + 1), .inr (2, [.ref (q (k3 + 2)), .int t11_0, .int t11_1])) : Option (Nat × va_E))) (t12_0 : (Nat → Int32)) (hT12 : ws[k3 + 2]? = (some (q (k3 + 2), .inl (g 0, R2.toNatClampNeg, .inl t12_0)) : Option (Nat × va_E))) (hS : True ∧ S_DW_divideRaised R R2 x4 t0_0 t0_1 t1_0 t1_1 t2_0 t3_0 t3_1 t4_0 t5_0 t5_1 t6_0 t7_0 t7_1 t8_0 t8_1 t9_0 t10_0 t10_1 t11_0 t11_1 t12_0) : q_mV l y_DW_divideRaised prog_4_method_15_code 4 5 0 0 D g [.ref (q 30), .ref (q k2), .ref (q k3), .int x4] ws (fun u => q_I (nsh g q) q u ∧ q_un ws u [10, 11, 12, 13, 22, 23, 30, k3 + 1, k3 + 2] ∧ ∃ (u0_0 : Int64) (u0_1 : Int32) (u1_0 : Int32) (u1_1 : Int32) (u2_0 : (Nat → Int32)) (u3_0 : Int32) (u3_1 : Int32) (u4_0 : (Nat → Int32)) (u5_0 : Int32) (u5_1 : Int32) (u6_0 : (Nat → Int32)) (u11_0 : Int32) (u11_1 : Int32) (u12_0 : (Nat → Int32)), u[30]? = (some (q 30, .inr (5, [.ref (q 31), .long u0_0, .ref (q 9), .int u0_1])) : Option (Nat × va_E)) ∧ u[10]? = (some (q 10, .inr (2, [.ref (q 11), .int u1_0, .int u1_1])) : Option (Nat × va_E)) ∧ u[11]? = (some (q 11, .inl (g 0, (220 : Int32).toNatClampNeg, .inl u2_0)) : Option (Nat × va_E)) ∧ u[12]? = (some (q 12, .inr (2, [.ref (q 13), .int u3_0, .int u3_1])) : Option (Nat × va_E)) ∧ u[13]? = (some (q 13, .inl (g 0, (220 : Int32).toNatClampNeg, .inl u4_0)) : Option (Nat × va_E)) ∧ u[22]? = (some (q 22, .inr (2, [.ref (q 23), .int u5_0, .int u5_1])) : Option (Nat × va_E)) ∧ u[23]? = (some (q 23, .inl (g 0, (220 : Int32).toNatClampNeg, .inl u6_0)) : Option (Nat × va_E)) ∧ u[k3 + 1]? = (some (q (k3 + 1), .inr (2, [.ref (q (k3 + 2)), .int u11_0, .int u11_1])) : Option (Nat × va_E)) ∧ u[k3 + 2]? = (some (q (k3 + 2), .inl (g 0, R2.toNatClampNeg, .inl u12_0)) : Option (Nat × va_E)) ∧ (0 ≤ u3_1.toInt) ∧ (u3_1.toInt ≤ 0) ∧ (t0_0.toInt ≤ u0_0.toInt) ∧ (u0_0.toInt ≤ t0_0.toInt) ∧ (u3_0.toInt ≤ t11_0.toInt + 219) ∧ (u5_1.toInt ≤ t8_1.toInt) ∧ (u11_0.toInt ≤ t11_0.toInt + 218) ∧ (u11_0.toInt ≤ R2.toInt) ∧ (u11_1.toInt ≤ t11_1.toInt) ∧ (u3_1.toInt ≤ u0_1.toInt) ∧ (u0_1.toInt ≤ u3_1.toInt + 1) ∧ (u1_0.toInt ≤ u3_0.toInt) ∧ (u3_1.toInt ≤ u1_0.toInt) ∧ (u3_1.toInt ≤ u1_1.toInt) ∧ (u1_1.toInt ≤ u3_1.toInt) ∧ (u3_0.toInt ≤ u3_1.toInt + 220) ∧ (u5_0.toInt ≤ u3_1.toInt + 220) ∧ (u3_1.toInt ≤ u5_0.toInt) ∧ (u3_1.toInt ≤ u5_1.toInt) ∧ (u3_1.toInt ≤ u11_0.toInt) ∧ (u3_1.toInt ≤ u11_1.toInt) ∧ (u0_0, u0_1, u1_0, u1_1, u2_0, u3_0, u3_1, u4_0, u5_0, u5_1, u6_0, u11_0, u11_1, u12_0) = (F_DW_divideRaised R R2 x4 t0_0 t0_1 t1_0 t1_1 t2_0 t3_0 t3_1 t4_0 t5_0 t5_1 t6_0 t7_0 t7_1 t8_0 t8_1 t9_0 t10_0 t10_1 t11_0 t11_1 t12_0)) := by
  intro sz
  refine q_into (by decide) (Nat.le_of_ble_eq_true rfl) ?_
  intro p e s m below meth c ls hsz C0 V hl
  have hx := C0.1
  have hb := C0.2.1
  have hfk20 : q_F (0 ≤ R.toInt ∧ R.toInt ≤ 220) := hB2.2.2.2
  have hfk30 : q_F (0 ≤ R2.toInt ∧ R2.toInt ≤ 220) := hB3.2.2.2
  obtain ⟨yy0_0, yy0_1, hh0, btt0_1⟩ := n_o30 hI
  obtain ⟨rfl, rfl⟩ : t0_0 = yy0_0 ∧ t0_1 = yy0_1 := by have z := Option.some.inj (hT0.symm.trans hh0); simpa using z
  replace btt0_1 : q_F (0 ≤ t0_1.toInt ∧ t0_1.toInt ≤ 1) := btt0_1
  obtain ⟨yy1_0, yy1_1, hh1, btt1_0, btt1_1⟩ := q_bigO hI (n_b10 g q)
  obtain ⟨rfl, rfl⟩ : t1_0 = yy1_0 ∧ t1_1 = yy1_1 := by have z := Option.some.inj (hT1.symm.trans hh1); simpa using z
  replace btt1_0 : q_F (0 ≤ t1_0.toInt ∧ t1_0.toInt ≤ 220) := btt1_0
  replace btt1_1 : q_F (0 ≤ t1_1.toInt ∧ t1_1.toInt ≤ 1) := btt1_1
  obtain ⟨yy3_0, yy3_1, hh3, btt3_0, btt3_1⟩ := q_bigO hI (n_b12 g q)
  obtain ⟨rfl, rfl⟩ : t3_0 = yy3_0 ∧ t3_1 = yy3_1 := by have z := Option.some.inj (hT3.symm.trans hh3); simpa using z
  replace btt3_0 : q_F (0 ≤ t3_0.toInt ∧ t3_0.toInt ≤ 220) := btt3_0
  replace btt3_1 : q_F (0 ≤ t3_1.toInt ∧ t3_1.toInt ≤ 1) := btt3_1
  obtain ⟨yy5_0, yy5_1, hh5, btt5_0, btt5_1⟩ := q_bigO hI (n_b22 g q)
  obtain ⟨rfl, rfl⟩ : t5_0 = yy5_0 ∧ t5_1 = yy5_1 := by have z := Option.some.inj (hT5.symm.trans hh5); simpa using z
  replace btt5_0 : q_F (0 ≤ t5_0.toInt ∧ t5_0.toInt ≤ 220) := btt5_0
  replace btt5_1 : q_F (0 ≤ t5_1.toInt ∧ t5_1.toInt ≤ 1) := btt5_1
  obtain ⟨yy7_0, yy7_1, hh7, btt7_0, btt7_1⟩ := n_deO hI hB2
  obtain ⟨rfl, rfl⟩ : t7_0 = yy7_0 ∧ t7_1 = yy7_1 := by have z := Option.some.inj (hT7.symm.trans hh7); simpa using z
  replace btt7_0 : q_F (-10000 ≤ t7_0.toInt ∧ t7_0.toInt ≤ 10000) := btt7_0
  replace btt7_1 : q_F (1 ≤ t7_1.toInt ∧ t7_1.toInt ≤ 1000) := btt7_1
  obtain ⟨yy8_0, yy8_1, hh8, btt8_0, btt8_1⟩ := q_bigO hI hB2.2
  obtain ⟨rfl, rfl⟩ : t8_0 = yy8_0 ∧ t8_1 = yy8_1 := by have z := Option.some.inj (hT8.symm.trans hh8); simpa using z
  replace btt8_0 : q_F (0 ≤ t8_0.toInt ∧ t8_0.toInt ≤ R.toInt) := btt8_0
  replace btt8_1 : q_F (0 ≤ t8_1.toInt ∧ t8_1.toInt ≤ 1) := btt8_1
  obtain ⟨yy10_0, yy10_1, hh10, btt10_0, btt10_1⟩ := n_deO hI hB3
  obtain ⟨rfl, rfl⟩ : t10_0 = yy10_0 ∧ t10_1 = yy10_1 := by have z := Option.some.inj (hT10.symm.trans hh10); simpa using z
  replace btt10_0 : q_F (-10000 ≤ t10_0.toInt ∧ t10_0.toInt ≤ 10000) := btt10_0
  replace btt10_1 : q_F (1 ≤ t10_1.toInt ∧ t10_1.toInt ≤ 1000) := btt10_1
  obtain ⟨yy11_0, yy11_1, hh11, btt11_0, btt11_1⟩ := q_bigO hI hB3.2
  obtain ⟨rfl, rfl⟩ : t11_0 = yy11_0 ∧ t11_1 = yy11_1 := by have z := Option.some.inj (hT11.symm.trans hh11); simpa using z
  replace btt11_0 : q_F (0 ≤ t11_0.toInt ∧ t11_0.toInt ≤ R2.toInt) := btt11_0
  replace btt11_1 : q_F (0 ≤ t11_1.toInt ∧ t11_1.toInt ≤ 1) := btt11_1
  have hF : q_un ws ws [10, 11, 12, 13, 22, 23, 30, k3 + 1, k3 + 2] := q_u0
  have hl : lv_has ls 4 [(0, .ref (q 30)), (1, .ref (q k2)), (2, .ref (q k3)), (3, .int x4)] := hl
  refine lv_aload_n hx hb d_4_15_0 rfl (lv_at hl 0 rfl) ?_
  refine q_get (ci := 5) (j := 2) (v := .ref (q 9)) C0 V i_DW rfl rfl hT0 (by decide) w_214 rfl d_4_15_1 ?_
  have hO55 := n_o9 hI
  refine q_get (ci := 4) (j := 6) (v := .ref (q 22)) C0 V i_Mil rfl rfl hO55 (by decide) w_126 rfl d_4_15_4 ?_
  refine lv_aload_n hx hb d_4_15_7 rfl (lv_at hl 1 rfl) ?_
  refine q_get (ci := 3) (j := 0) (v := .ref (q (k2 + 1))) C0 V i_Dec rfl rfl hT7 (by decide) w_171 rfl d_4_15_8 ?_
  refine q_gov V (q_runV (As := [.ref (q (k2 + 1))]) (rest := []) (d := 2) (mc := 0) (ms := 0) (ci := 2) C0 V rfl LV_DW_44 (X_Big_copy l D g q ws 22 220 (n_b22 g q) (by decide) (k2 + 1) R hB2.2 (by have z := zk2; omega)  (by have z := ne_k2_21; omega) hI t5_0 t5_1 hT5 t6_0 hT6 t8_0 t8_1 hT8 t9_0 hT9  _) rfl rfl hT5 rfl hl.1 rfl (Nat.le_of_ble_eq_true rfl) ⟨by decide, by decide⟩ ⟨Nat.le_of_ble_eq_true rfl, Nat.le_of_ble_eq_true rfl⟩ d_4_15_11) (fun u56 H locs hp57 V => ?_)
  obtain ⟨hI, hu69, y59, y60, f61, hO58, hA62, b63, b64, b65, b66, b67, hE68⟩ := hp57
  replace hO58 : u56[22]? = (some (q 22, .inr (2, [.ref (q 23), .int y59, .int y60])) : Option (Nat × va_E)) := hO58
  replace hA62 : u56[23]? = (some (q 23, .inl (g 0, (220 : Int32).toNatClampNeg, .inl f61)) : Option (Nat × va_E)) := hA62
  obtain ⟨p70, e71⟩ : ∃ z, z = (F_Big_copy (220 : Int32) R t5_0 t5_1 t6_0 t8_0 t8_1 t9_0) := ⟨_, rfl⟩
  have e72 : y59 = p70.1 := congrArg (fun z => z.1) (hE68.trans e71.symm)
  have e73 : y60 = p70.2.1 := congrArg (fun z => z.2.1) (hE68.trans e71.symm)
  have e74 : f61 = p70.2.2 := congrArg (fun z => z.2.2) (hE68.trans e71.symm)
  replace b63 : q_F (0 ≤ y59.toInt) := b63
  replace b64 : q_F (y59.toInt ≤ t8_0.toInt) := b64
  replace b65 : q_F (y59.toInt ≤ 220) := b65
  replace b66 : q_F (t8_1.toInt ≤ y60.toInt) := b66
  replace b67 : q_F (y60.toInt ≤ t8_1.toInt) := b67
  replace hT0 := (hu69 _ (by decide)).trans hT0
  replace hT1 := (hu69 _ (by decide)).trans hT1
  replace hT2 := (hu69 _ (by decide)).trans hT2
  replace hT3 := (hu69 _ (by decide)).trans hT3
  replace hT4 := (hu69 _ (by decide)).trans hT4
  replace hT7 := (hu69 _ (by have z0 := zk2; simp only [List.mem_cons, List.not_mem_nil, or_false, not_or]; omega)).trans hT7
  replace hT8 := (hu69 _ (by have z0 := zk2; simp only [List.mem_cons, List.not_mem_nil, or_false, not_or]; omega)).trans hT8
  replace hT9 := (hu69 _ (by have z0 := zk2; simp only [List.mem_cons, List.not_mem_nil, or_false, not_or]; omega)).trans hT9
  replace hT10 := (hu69 _ (by have z0 := zk3; simp only [List.mem_cons, List.not_mem_nil, or_false, not_or]; omega)).trans hT10
  replace hT11 := (hu69 _ (by have z0 := zk3; simp only [List.mem_cons, List.not_mem_nil, or_false, not_or]; omega)).trans hT11
  replace hT12 := (hu69 _ (by have z0 := zk3; simp only [List.mem_cons, List.not_mem_nil, or_false, not_or]; omega)).trans hT12
  replace hO55 := (hu69 _ (by decide)).trans hO55
  replace hF := q_uc hF hu69 (by simp)
  have hR75 := (show F_DW_divideRaised_c11 R R2 x4 t0_0 t0_1 t1_0 t1_1 t2_0 t3_0 t3_1 t4_0 t5_0 t5_1 t6_0 t7_0 t7_1 t8_0 t8_1 t9_0 t10_0 t10_1 t11_0 t11_1 t12_0 p70 = (F_DW_divideRaised R R2 x4 t0_0 t0_1 t1_0 t1_1 t2_0 t3_0 t3_1 t4_0 t5_0 t5_1 t6_0 t7_0 t7_1 t8_0 t8_1 t9_0 t10_0 t10_1 t11_0 t11_1 t12_0) from (by rw [e71, F_DW_divideRaised.eq_1]))
  have hS76 := (show True ∧ S_DW_divideRaised_c11 R R2 x4 t0_0 t0_1 t1_0 t1_1 t2_0 t3_0 t3_1 t4_0 t5_0 t5_1 t6_0 t7_0 t7_1 t8_0 t8_1 t9_0 t10_0 t10_1 t11_0 t11_1 t12_0 p70 from (by rw [e71]; have h := hS; rw [S_DW_divideRaised.eq_1] at h; with_reducible exact h))
  refine lv_aload_n hx hb d_4_15_14 rfl (lv_at hl 0 rfl) ?_
  refine q_get (ci := 5) (j := 2) (v := .ref (q 9)) C0 V i_DW rfl rfl hT0 (by decide) w_214 rfl d_4_15_15 ?_
  refine q_get (ci := 4) (j := 6) (v := .ref (q 22)) C0 V i_Mil rfl rfl hO55 (by decide) w_126 rfl d_4_15_18 ?_
  refine lv_iload_n hx hb d_4_15_21 rfl (lv_at hl 3 rfl) ?_
  refine q_gov V (q_runV (As := [.int x4]) (rest := []) (d := 2) (mc := 0) (ms := 0) (ci := 2) C0 V rfl LV_DW_77 (X_Big_timesTen l D g q u56 22 220 (n_b22 g q) (by decide) x4 hI y59 y60 hO58 f61 hA62  _) rfl rfl hO58 rfl hl.1 rfl (Nat.le_of_ble_eq_true rfl) ⟨by decide, by decide⟩ ⟨Nat.le_of_ble_eq_true rfl, Nat.le_of_ble_eq_true rfl⟩ d_4_15_22) (fun u80 H locs hp81 V => ?_)
  obtain ⟨hI, hu92, y83, y84, f85, hO82, hA86, b87, b88, b89, b90, hE91⟩ := hp81
  replace hO82 : u80[22]? = (some (q 22, .inr (2, [.ref (q 23), .int y83, .int y84])) : Option (Nat × va_E)) := hO82
  replace hA86 : u80[23]? = (some (q 23, .inl (g 0, (220 : Int32).toNatClampNeg, .inl f85)) : Option (Nat × va_E)) := hA86
  obtain ⟨p93, e94⟩ : ∃ z, z = (F_Big_timesTen (220 : Int32) x4 y59 y60 f61) := ⟨_, rfl⟩
  have e95 : y83 = p93.1 := congrArg (fun z => z.1) (hE91.trans e94.symm)
  have e96 : y84 = p93.2.1 := congrArg (fun z => z.2.1) (hE91.trans e94.symm)
  have e97 : f85 = p93.2.2 := congrArg (fun z => z.2.2) (hE91.trans e94.symm)
  replace b87 : q_F (y59.toInt ≤ y83.toInt) := b87
  replace b88 : q_F (y83.toInt ≤ 220) := b88
  replace b89 : q_F (y60.toInt ≤ y84.toInt) := b89
  replace b90 : q_F (y84.toInt ≤ y60.toInt) := b90
  replace hT0 := (hu92 _ (by decide)).trans hT0
  replace hT1 := (hu92 _ (by decide)).trans hT1
  replace hT2 := (hu92 _ (by decide)).trans hT2
  replace hT3 := (hu92 _ (by decide)).trans hT3
  replace hT4 := (hu92 _ (by decide)).trans hT4
  replace hT7 := (hu92 _ (by have z0 := zk2; simp only [List.mem_cons, List.not_mem_nil, or_false, not_or]; omega)).trans hT7
  replace hT8 := (hu92 _ (by have z0 := zk2; simp only [List.mem_cons, List.not_mem_nil, or_false, not_or]; omega)).trans hT8
  replace hT9 := (hu92 _ (by have z0 := zk2; simp only [List.mem_cons, List.not_mem_nil, or_false, not_or]; omega)).trans hT9
  replace hT10 := (hu92 _ (by have z0 := zk3; simp only [List.mem_cons, List.not_mem_nil, or_false, not_or]; omega)).trans hT10
  replace hT11 := (hu92 _ (by have z0 := zk3; simp only [List.mem_cons, List.not_mem_nil, or_false, not_or]; omega)).trans hT11
  replace hT12 := (hu92 _ (by have z0 := zk3; simp only [List.mem_cons, List.not_mem_nil, or_false, not_or]; omega)).trans hT12
  replace hO55 := (hu92 _ (by decide)).trans hO55
  replace hF := q_uc hF hu92 (by simp)
  have hR98 := (show F_DW_divideRaised_c22 R R2 x4 t0_0 t0_1 t1_0 t1_1 t2_0 t3_0 t3_1 t4_0 t5_0 t5_1 t6_0 t7_0 t7_1 t8_0 t8_1 t9_0 t10_0 t10_1 t11_0 t11_1 t12_0 p70 p93 = (F_DW_divideRaised R R2 x4 t0_0 t0_1 t1_0 t1_1 t2_0 t3_0 t3_1 t4_0 t5_0 t5_1 t6_0 t7_0 t7_1 t8_0 t8_1 t9_0 t10_0 t10_1 t11_0 t11_1 t12_0) from Eq.trans (by rw [e94, e74, e73, e72, F_DW_divideRaised_c11.eq_1]) hR75)
  have hS99 := (show True ∧ S_DW_divideRaised_c22 R R2 x4 t0_0 t0_1 t1_0 t1_1 t2_0 t3_0 t3_1 t4_0 t5_0 t5_1 t6_0 t7_0 t7_1 t8_0 t8_1 t9_0 t10_0 t10_1 t11_0 t11_1 t12_0 p70 p93 from (by rw [e94, e74, e73, e72]; have h := hS76; rw [S_DW_divideRaised_c11.eq_1] at h; with_reducible exact h))
  refine lv_aload_n hx hb d_4_15_25 rfl (lv_at hl 0 rfl) ?_
  refine lv_aload_n hx hb d_4_15_26 rfl (lv_at hl 0 rfl) ?_
  refine q_get (ci := 5) (j := 2) (v := .ref (q 9)) C0 V i_DW rfl rfl hT0 (by decide) w_214 rfl d_4_15_27 ?_
  refine q_get (ci := 4) (j := 6) (v := .ref (q 22)) C0 V i_Mil rfl rfl hO55 (by decide) w_126 rfl d_4_15_30 ?_
  refine lv_iload_n hx hb d_4_15_33 rfl (lv_at hl 3 rfl) ?_
  refine lv_ineg hx hb d_4_15_34 ?_
  obtain ⟨a103, e104⟩ := q_nm (-x4 : Int32)
  refine q_ti (v := a103) e104 ?_
  refine q_goi V (q_runV (As := [.int a103]) (rest := [.ref (q 30)]) (d := 3) (mc := 0) (ms := 0) (ci := 2) C0 V rfl LV_DW_149 (X_Big_dropFigures l D g q u80 22 220 (n_b22 g q) (by decide) a103 hI y83 y84 hO82 f85 hA86  _) rfl rfl hO82 rfl hl.1 rfl (Nat.le_of_ble_eq_true rfl) ⟨by decide, by decide⟩ ⟨Nat.le_of_ble_eq_true rfl, Nat.le_of_ble_eq_true rfl⟩ d_4_15_35) (fun a107 u105 H locs hp106 V => ?_)
  obtain ⟨hI, hu121, y109, y110, f111, hO108, hA112, b113, b114, b115, b116, b117, b118, b119, hE120⟩ := hp106
  replace hO108 : u105[22]? = (some (q 22, .inr (2, [.ref (q 23), .int y109, .int y110])) : Option (Nat × va_E)) := hO108
  replace hA112 : u105[23]? = (some (q 23, .inl (g 0, (220 : Int32).toNatClampNeg, .inl f111)) : Option (Nat × va_E)) := hA112
  obtain ⟨p122, e123⟩ : ∃ z, z = (F_Big_dropFigures (220 : Int32) a103 y83 y84 f85) := ⟨_, rfl⟩
  have e124 : a107 = p122.1 := congrArg (fun z => z.1) (hE120.trans e123.symm)
  have e125 : y109 = p122.2.1 := congrArg (fun z => z.2.1) (hE120.trans e123.symm)
  have e126 : y110 = p122.2.2.1 := congrArg (fun z => z.2.2.1) (hE120.trans e123.symm)
  have e127 : f111 = p122.2.2.2 := congrArg (fun z => z.2.2.2) (hE120.trans e123.symm)
  replace b113 : q_F (0 ≤ a107.toInt) := b113
  replace b114 : q_F (a107.toInt ≤ 1) := b114
  replace b115 : q_F (0 ≤ y109.toInt) := b115
  replace b116 : q_F (0 ≤ y110.toInt) := b116
  replace b117 : q_F (a107.toInt ≤ y83.toInt) := b117
  replace b118 : q_F (y109.toInt ≤ y83.toInt) := b118
  replace b119 : q_F (y110.toInt ≤ y84.toInt) := b119
  replace hT0 := (hu121 _ (by decide)).trans hT0
  replace hT1 := (hu121 _ (by decide)).trans hT1
  replace hT2 := (hu121 _ (by decide)).trans hT2
  replace hT3 := (hu121 _ (by decide)).trans hT3
  replace hT4 := (hu121 _ (by decide)).trans hT4
  replace hT7 := (hu121 _ (by have z0 := zk2; simp only [List.mem_cons, List.not_mem_nil, or_false, not_or]; omega)).trans hT7
  replace hT8 := (hu121 _ (by have z0 := zk2; simp only [List.mem_cons, List.not_mem_nil, or_false, not_or]; omega)).trans hT8
  replace hT9 := (hu121 _ (by have z0 := zk2; simp only [List.mem_cons, List.not_mem_nil, or_false, not_or]; omega)).trans hT9
  replace hT10 := (hu121 _ (by have z0 := zk3; simp only [List.mem_cons, List.not_mem_nil, or_false, not_or]; omega)).trans hT10
  replace hT11 := (hu121 _ (by have z0 := zk3; simp only [List.mem_cons, List.not_mem_nil, or_false, not_or]; omega)).trans hT11
  replace hT12 := (hu121 _ (by have z0 := zk3; simp only [List.mem_cons, List.not_mem_nil, or_false, not_or]; omega)).trans hT12
  replace hO55 := (hu121 _ (by decide)).trans hO55
  replace hF := q_uc hF hu121 (by simp)
  have hR128 := (show F_DW_divideRaised_c35 R R2 x4 t0_0 t0_1 t1_0 t1_1 t2_0 t3_0 t3_1 t4_0 t5_0 t5_1 t6_0 t7_0 t7_1 t8_0 t8_1 t9_0 t10_0 t10_1 t11_0 t11_1 t12_0 p70 p93 p122 = (F_DW_divideRaised R R2 x4 t0_0 t0_1 t1_0 t1_1 t2_0 t3_0 t3_1 t4_0 t5_0 t5_1 t6_0 t7_0 t7_1 t8_0 t8_1 t9_0 t10_0 t10_1 t11_0 t11_1 t12_0) from Eq.trans (by rw [e123, ← e104, e97, e96, e95, F_DW_divideRaised_c22.eq_1]) hR98)
  have hS129 := (show True ∧ S_DW_divideRaised_c35 R R2 x4 t0_0 t0_1 t1_0 t1_1 t2_0 t3_0 t3_1 t4_0 t5_0 t5_1 t6_0 t7_0 t7_1 t8_0 t8_1 t9_0 t10_0 t10_1 t11_0 t11_1 t12_0 p70 p93 p122 from (by rw [e123, ← e104, e97, e96, e95]; have h := hS99; rw [S_DW_divideRaised_c22.eq_1] at h; with_reducible exact h))
  refine q_put (ci := 5) (j := 3) (v := .int a107) (ty := .boolean) C0 V i_DW o_DW n_DW rfl rfl hT0 (by decide) w_215 rfl rfl (q_nz01 (q_Ile (x := 0) (y := a107.toInt) (by decide) rfl (by have t1 : 0 ≤ a107.toInt := b113; omega)) (q_Ile (x := a107.toInt) (y := 1) rfl (by decide) (by have t1 : a107.toInt ≤ 1 := b114; omega))) (q_fz01 (q_Ile (x := 0) (y := a107.toInt) (by decide) rfl (by have t1 : 0 ≤ a107.toInt := b113; omega)) (q_Ile (x := a107.toInt) (y := 1) rfl (by decide) (by have t1 : a107.toInt ≤ 1 := b114; omega))) (Nat.le_of_ble_eq_true rfl) d_4_15_38 (fun H locs w133 hu134 hT0 V => ?_)
  replace hT0 : w133[30]? = (some (q 30, .inr (5, [.ref (q 31), .long t0_0, .ref (q 9), .int a107])) : Option (Nat × va_E)) := hT0
  replace hI := n_p30 hI hu134 hT0 ⟨(by have t1 : 0 ≤ a107.toInt := b113; omega), (by have t1 : a107.toInt ≤ 1 := b114; omega)⟩
  replace hT1 := (hu134 _ (by decide)).trans hT1
  replace hT2 := (hu134 _ (by decide)).trans hT2
  replace hT3 := (hu134 _ (by decide)).trans hT3
  replace hT4 := (hu134 _ (by decide)).trans hT4
  replace hO108 := (hu134 _ (by decide)).trans hO108
  replace hA112 := (hu134 _ (by decide)).trans hA112
  replace hT7 := (hu134 _ (by have z := ne_k2_30; omega)).trans hT7
  replace hT8 := (hu134 _ (by have z := ne_k2_29; omega)).trans hT8
  replace hT9 := (hu134 _ (by have z := ne_k2_28; omega)).trans hT9
  replace hT10 := (hu134 _ (by have z := ne_k3_30; omega)).trans hT10
  replace hT11 := (hu134 _ (by have z := ne_k3_29; omega)).trans hT11
  replace hT12 := (hu134 _ (by have z := ne_k3_28; omega)).trans hT12
  replace hO55 := (hu134 _ (by decide)).trans hO55
  replace hF := q_us hF hu134 (by simp)
  refine lv_aload_n hx hb d_4_15_41 rfl (lv_at hl 0 rfl) ?_
  refine q_get (ci := 5) (j := 2) (v := .ref (q 9)) C0 V i_DW rfl rfl hT0 (by decide) w_214 rfl d_4_15_42 ?_
  refine q_get (ci := 4) (j := 6) (v := .ref (q 22)) C0 V i_Mil rfl rfl hO55 (by decide) w_126 rfl d_4_15_45 ?_
  refine lv_aload_n hx hb d_4_15_48 rfl (lv_at hl 2 rfl) ?_
  refine q_get (ci := 3) (j := 0) (v := .ref (q (k3 + 1))) C0 V i_Dec rfl rfl hT10 (by decide) w_171 rfl d_4_15_49 ?_
  refine lv_aload_n hx hb d_4_15_52 rfl (lv_at hl 0 rfl) ?_
  refine q_get (ci := 5) (j := 2) (v := .ref (q 9)) C0 V i_DW rfl rfl hT0 (by decide) w_214 rfl d_4_15_53 ?_
  refine q_get (ci := 4) (j := 1) (v := .ref (q 12)) C0 V i_Mil rfl rfl hO55 (by decide) w_115 rfl d_4_15_56 ?_
  have ob135 : True ∧ S_Big_divideBy (220 : Int32) R2 (220 : Int32) y109 y110 f111 t11_0 t11_1 t12_0 t3_0 t3_1 t4_0 := (by rw [e127, e126, e125]; have h := hS129; rw [S_DW_divideRaised_c35.eq_1] at h; with_reducible exact h.2.1)
  refine q_gov V (q_runV (As := [.ref (q (k3 + 1)), .ref (q 12)]) (rest := []) (d := 4) (mc := 0) (ms := 0) (ci := 2) C0 V rfl LV_DW_109 (X_Big_divideBy l D g q w133 22 220 (n_b22 g q) (by decide) (k3 + 1) R2 hB3.2 (by have z := zk3; omega) 12 220 (n_b12 g q) (by decide)  (by have z := ne_k3_21; omega) (by decide) (by have z := ne_k3_11; omega) hI y109 y110 hO108 f111 hA112 t11_0 t11_1 hT11 t12_0 hT12 t3_0 t3_1 hT3 t4_0 hT4 ob135 _) rfl rfl hO108 rfl hl.1 rfl (Nat.le_of_ble_eq_true rfl) ⟨by decide, by decide⟩ ⟨Nat.le_of_ble_eq_true rfl, Nat.le_of_ble_eq_true rfl⟩ d_4_15_59) (fun u136 H locs hp137 V => ?_)
  obtain ⟨hI, hu169, y139, y140, f141, y144, y145, f146, y149, y150, f151, hO138, hA142, hO143, hA147, hO148, hA152, b153, b154, b155, b156, b157, b158, b159, b160, b161, b162, b163, b164, b165, b166, b167, hE168⟩ := hp137
  replace hO138 : u136[22]? = (some (q 22, .inr (2, [.ref (q 23), .int y139, .int y140])) : Option (Nat × va_E)) := hO138
  replace hA142 : u136[23]? = (some (q 23, .inl (g 0, (220 : Int32).toNatClampNeg, .inl f141)) : Option (Nat × va_E)) := hA142
  replace hO143 : u136[k3 + 1]? = (some (q (k3 + 1), .inr (2, [.ref (q (k3 + 2)), .int y144, .int y145])) : Option (Nat × va_E)) := hO143
  replace hA147 : u136[k3 + 2]? = (some (q (k3 + 2), .inl (g 0, R2.toNatClampNeg, .inl f146)) : Option (Nat × va_E)) := hA147
  replace hO148 : u136[12]? = (some (q 12, .inr (2, [.ref (q 13), .int y149, .int y150])) : Option (Nat × va_E)) := hO148
  replace hA152 : u136[13]? = (some (q 13, .inl (g 0, (220 : Int32).toNatClampNeg, .inl f151)) : Option (Nat × va_E)) := hA152
  obtain ⟨p170, e171⟩ : ∃ z, z = (F_Big_divideBy (220 : Int32) R2 (220 : Int32) y109 y110 f111 t11_0 t11_1 t12_0 t3_0 t3_1 t4_0) := ⟨_, rfl⟩
  have e172 : y139 = p170.1 := congrArg (fun z => z.1) (hE168.trans e171.symm)
  have e173 : y140 = p170.2.1 := congrArg (fun z => z.2.1) (hE168.trans e171.symm)
  have e174 : f141 = p170.2.2.1 := congrArg (fun z => z.2.2.1) (hE168.trans e171.symm)
  have e175 : y144 = p170.2.2.2.1 := congrArg (fun z => z.2.2.2.1) (hE168.trans e171.symm)
  have e176 : y145 = p170.2.2.2.2.1 := congrArg (fun z => z.2.2.2.2.1) (hE168.trans e171.symm)
  have e177 : f146 = p170.2.2.2.2.2.1 := congrArg (fun z => z.2.2.2.2.2.1) (hE168.trans e171.symm)
  have e178 : y149 = p170.2.2.2.2.2.2.1 := congrArg (fun z => z.2.2.2.2.2.2.1) (hE168.trans e171.symm)
  have e179 : y150 = p170.2.2.2.2.2.2.2.1 := congrArg (fun z => z.2.2.2.2.2.2.2.1) (hE168.trans e171.symm)
  have e180 : f151 = p170.2.2.2.2.2.2.2.2 := congrArg (fun z => z.2.2.2.2.2.2.2.2) (hE168.trans e171.symm)
  replace b153 : q_F (0 ≤ y150.toInt) := b153
  replace b154 : q_F (y150.toInt ≤ 0) := b154
  replace b155 : q_F (y139.toInt ≤ 220) := b155
  replace b156 : q_F (y140.toInt ≤ y110.toInt) := b156
  replace b157 : q_F (y144.toInt ≤ t11_0.toInt + 218) := b157
  replace b158 : q_F (y144.toInt ≤ R2.toInt) := b158
  replace b159 : q_F (y145.toInt ≤ t11_1.toInt) := b159
  replace b160 : q_F (y149.toInt ≤ t11_0.toInt + 219) := b160
  replace b161 : q_F (y149.toInt ≤ 220 + 1) := b161
  replace b162 : q_F (y149.toInt ≤ 220) := b162
  replace b163 : q_F (y150.toInt ≤ y139.toInt) := b163
  replace b164 : q_F (y150.toInt ≤ y140.toInt) := b164
  replace b165 : q_F (y150.toInt ≤ y144.toInt) := b165
  replace b166 : q_F (y150.toInt ≤ y145.toInt) := b166
  replace b167 : q_F (y150.toInt ≤ y149.toInt) := b167
  replace hT0 := (hu169 _ (by have z0 := zk3; simp only [List.mem_cons, List.not_mem_nil, or_false, not_or]; omega)).trans hT0
  replace hT1 := (hu169 _ (by have z0 := zk3; simp only [List.mem_cons, List.not_mem_nil, or_false, not_or]; omega)).trans hT1
  replace hT2 := (hu169 _ (by have z0 := zk3; simp only [List.mem_cons, List.not_mem_nil, or_false, not_or]; omega)).trans hT2
  replace hT7 := (hu169 _ (q_nc (by have z := ne_k2_22; omega) (q_nc (by have z := ne_k2_23; omega) (q_nc (by have z := ne_k2_k3p1; omega) (q_nc (by have z := ne_k2_k3p2; omega) (q_nc (by have z := ne_k2_12; omega) (q_nc (by have z := ne_k2_13; omega) List.not_mem_nil))))))).trans hT7
  replace hT8 := (hu169 _ (q_nc (by have z := ne_k2_21; omega) (q_nc (by have z := ne_k2_22; omega) (q_nc (by have z := ne_k2_k3; omega) (q_nc (by have z := ne_k2_k3p1; omega) (q_nc (by have z := ne_k2_11; omega) (q_nc (by have z := ne_k2_12; omega) List.not_mem_nil))))))).trans hT8
  replace hT9 := (hu169 _ (q_nc (by have z := ne_k2_20; omega) (q_nc (by have z := ne_k2_21; omega) (q_nc (by have z := ne_k3_k2p1; omega) (q_nc (by have z := ne_k2_k3; omega) (q_nc (by have z := ne_k2_10; omega) (q_nc (by have z := ne_k2_11; omega) List.not_mem_nil))))))).trans hT9
  replace hT10 := (hu169 _ (by have z0 := zk3; simp only [List.mem_cons, List.not_mem_nil, or_false, not_or]; omega)).trans hT10
  replace hO55 := (hu169 _ (by have z0 := zk3; simp only [List.mem_cons, List.not_mem_nil, or_false, not_or]; omega)).trans hO55
  replace hF := q_uc hF hu169 (by simp)
  have hR181 := (show F_DW_divideRaised_c59 R R2 x4 t0_0 t0_1 t1_0 t1_1 t2_0 t3_0 t3_1 t4_0 t5_0 t5_1 t6_0 t7_0 t7_1 t8_0 t8_1 t9_0 t10_0 t10_1 t11_0 t11_1 t12_0 p70 p93 p122 a107 p170 = (F_DW_divideRaised R R2 x4 t0_0 t0_1 t1_0 t1_1 t2_0 t3_0 t3_1 t4_0 t5_0 t5_1 t6_0 t7_0 t7_1 t8_0 t8_1 t9_0 t10_0 t10_1 t11_0 t11_1 t12_0) from Eq.trans (by rw [e171, e127, e126, e125, e124, F_DW_divideRaised_c35.eq_1]) hR128)
  have hS182 := (show True ∧ S_DW_divideRaised_c59 R R2 x4 t0_0 t0_1 t1_0 t1_1 t2_0 t3_0 t3_1 t4_0 t5_0 t5_1 t6_0 t7_0 t7_1 t8_0 t8_1 t9_0 t10_0 t10_1 t11_0 t11_1 t12_0 p70 p93 p122 a107 p170 from (by rw [e171, e127, e126, e125, e124]; have h := hS129; rw [S_DW_divideRaised_c35.eq_1] at h; replace h := q_s2 h; with_reducible exact h))
  refine lv_aload_n hx hb d_4_15_62 rfl (lv_at hl 0 rfl) ?_
  refine lv_dup hx hb d_4_15_63 rfl ?_
  refine q_get (ci := 5) (j := 3) (v := .int a107) C0 V i_DW rfl rfl hT0 (by decide) w_215 rfl d_4_15_64 ?_
  refine lv_aload_n hx hb d_4_15_67 rfl (lv_at hl 0 rfl) ?_
  refine q_get (ci := 5) (j := 2) (v := .ref (q 9)) C0 V i_DW rfl rfl hT0 (by decide) w_214 rfl d_4_15_68 ?_
  refine q_get (ci := 4) (j := 6) (v := .ref (q 22)) C0 V i_Mil rfl rfl hO55 (by decide) w_126 rfl d_4_15_71 ?_
  refine q_get (ci := 2) (j := 1) (v := .int y139) C0 V i_Big rfl rfl hO138 (by decide) w_90 rfl d_4_15_74 ?_
  refine lv_if_le (tgt := 84) hx hb d_4_15_77 (by decide) (fun c186 => ?_) (fun c186 => ?_)
  ·
    have b187 : q_F (y139.toInt ≤ 0) := (q_leI c186)
    refine lv_iconst (v := 0) hx hb d_4_15_84 (by decide) ?_
    refine lv_ior hx hb d_4_15_85 ?_
    obtain ⟨a188, e189⟩ := q_nm (a107 ||| 0 : Int32)
    refine q_ti (v := a188) e189 ?_
    have b190 : q_F (0 ≤ a188.toInt ∧ a188.toInt ≤ 1) := (by rw [← e189]; show 0 ≤ (a107 ||| 0 : Int32).toInt ∧ (a107 ||| 0 : Int32).toInt ≤ 1; exact s_or' (x := a107) (y := 0) 1 (by decide) 1 (by decide) ⟨(by have t1 : 0 ≤ a107.toInt := b113; have t2 : a107.toInt ≤ 1 := b114; omega), (by have t1 : 0 ≤ a107.toInt := b113; have t2 : a107.toInt ≤ 1 := b114; omega)⟩ ⟨(by have z7 : (0 : Int32).toInt = 0 := rfl; omega), (by have z7 : (0 : Int32).toInt = 0 := rfl; omega)⟩)
    refine q_put (ci := 5) (j := 3) (v := .int a188) (ty := .boolean) C0 V i_DW o_DW n_DW rfl rfl hT0 (by decide) w_215 rfl rfl (q_nz01 (q_Ile (x := 0) (y := a188.toInt) (by decide) rfl (by have t1 : 0 ≤ a188.toInt ∧ a188.toInt ≤ 1 := b190; omega)) (q_Ile (x := a188.toInt) (y := 1) rfl (by decide) (by have t1 : 0 ≤ a188.toInt ∧ a188.toInt ≤ 1 := b190; omega))) (q_fz01 (q_Ile (x := 0) (y := a188.toInt) (by decide) rfl (by have t1 : 0 ≤ a188.toInt ∧ a188.toInt ≤ 1 := b190; omega)) (q_Ile (x := a188.toInt) (y := 1) rfl (by decide) (by have t1 : 0 ≤ a188.toInt ∧ a188.toInt ≤ 1 := b190; omega))) (Nat.le_of_ble_eq_true rfl) d_4_15_86 (fun H locs w191 hu192 hT0 V => ?_)
    replace hT0 : w191[30]? = (some (q 30, .inr (5, [.ref (q 31), .long t0_0, .ref (q 9), .int a188])) : Option (Nat × va_E)) := hT0
    replace hI := n_p30 hI hu192 hT0 ⟨(by have t1 : 0 ≤ a188.toInt ∧ a188.toInt ≤ 1 := b190; omega), (by have t1 : 0 ≤ a188.toInt ∧ a188.toInt ≤ 1 := b190; omega)⟩
    replace hT1 := (hu192 _ (by decide)).trans hT1
    replace hT2 := (hu192 _ (by decide)).trans hT2
    replace hO148 := (hu192 _ (by decide)).trans hO148
    replace hA152 := (hu192 _ (by decide)).trans hA152
    replace hO138 := (hu192 _ (by decide)).trans hO138
    replace hA142 := (hu192 _ (by decide)).trans hA142
    replace hT7 := (hu192 _ (by have z := ne_k2_30; omega)).trans hT7
    replace hT8 := (hu192 _ (by have z := ne_k2_29; omega)).trans hT8
    replace hT9 := (hu192 _ (by have z := ne_k2_28; omega)).trans hT9
    replace hT10 := (hu192 _ (by have z := ne_k3_30; omega)).trans hT10
    replace hO143 := (hu192 _ (by have z := ne_k3_29; omega)).trans hO143
    replace hA147 := (hu192 _ (by have z := ne_k3_28; omega)).trans hA147
    replace hO55 := (hu192 _ (by decide)).trans hO55
    replace hF := q_us hF hu192 (by simp)
    refine lv_aload_n hx hb d_4_15_89 rfl (lv_at hl 0 rfl) ?_
    refine q_get (ci := 5) (j := 2) (v := .ref (q 9)) C0 V i_DW rfl rfl hT0 (by decide) w_214 rfl d_4_15_90 ?_
    refine q_get (ci := 4) (j := 0) (v := .ref (q 10)) C0 V i_Mil rfl rfl hO55 (by decide) w_111 rfl d_4_15_93 ?_
    refine lv_aload_n hx hb d_4_15_96 rfl (lv_at hl 0 rfl) ?_
    refine q_get (ci := 5) (j := 2) (v := .ref (q 9)) C0 V i_DW rfl rfl hT0 (by decide) w_214 rfl d_4_15_97 ?_
    refine q_get (ci := 4) (j := 1) (v := .ref (q 12)) C0 V i_Mil rfl rfl hO55 (by decide) w_115 rfl d_4_15_100 ?_
    refine q_gov V (q_runV (As := [.ref (q 12)]) (rest := []) (d := 2) (mc := 0) (ms := 0) (ci := 2) C0 V rfl LV_DW_44 (X_Big_copy l D g q w191 10 220 (n_b10 g q) (by decide) 12 220 (n_b12 g q) (by decide)  (by decide) hI t1_0 t1_1 hT1 t2_0 hT2 y149 y150 hO148 f151 hA152  _) rfl rfl hT1 rfl hl.1 rfl (Nat.le_of_ble_eq_true rfl) ⟨by decide, by decide⟩ ⟨Nat.le_of_ble_eq_true rfl, Nat.le_of_ble_eq_true rfl⟩ d_4_15_103) (fun u193 H locs hp194 V => ?_)
    obtain ⟨hI, hu206, y196, y197, f198, hO195, hA199, b200, b201, b202, b203, b204, hE205⟩ := hp194
    replace hO195 : u193[10]? = (some (q 10, .inr (2, [.ref (q 11), .int y196, .int y197])) : Option (Nat × va_E)) := hO195
    replace hA199 : u193[11]? = (some (q 11, .inl (g 0, (220 : Int32).toNatClampNeg, .inl f198)) : Option (Nat × va_E)) := hA199
    obtain ⟨p207, e208⟩ : ∃ z, z = (F_Big_copy (220 : Int32) (220 : Int32) t1_0 t1_1 t2_0 y149 y150 f151) := ⟨_, rfl⟩
    have e209 : y196 = p207.1 := congrArg (fun z => z.1) (hE205.trans e208.symm)
    have e210 : y197 = p207.2.1 := congrArg (fun z => z.2.1) (hE205.trans e208.symm)
    have e211 : f198 = p207.2.2 := congrArg (fun z => z.2.2) (hE205.trans e208.symm)
    replace b200 : q_F (0 ≤ y196.toInt) := b200
    replace b201 : q_F (y196.toInt ≤ y149.toInt) := b201
    replace b202 : q_F (y196.toInt ≤ 220) := b202
    replace b203 : q_F (y150.toInt ≤ y197.toInt) := b203
    replace b204 : q_F (y197.toInt ≤ y150.toInt) := b204
    replace hT0 := (hu206 _ (by decide)).trans hT0
    replace hO148 := (hu206 _ (by decide)).trans hO148
    replace hA152 := (hu206 _ (by decide)).trans hA152
    replace hO138 := (hu206 _ (by decide)).trans hO138
    replace hA142 := (hu206 _ (by decide)).trans hA142
    replace hT7 := (hu206 _ (by have z0 := zk2; simp only [List.mem_cons, List.not_mem_nil, or_false, not_or]; omega)).trans hT7
    replace hT8 := (hu206 _ (by have z0 := zk2; simp only [List.mem_cons, List.not_mem_nil, or_false, not_or]; omega)).trans hT8
    replace hT9 := (hu206 _ (by have z0 := zk2; simp only [List.mem_cons, List.not_mem_nil, or_false, not_or]; omega)).trans hT9
    replace hT10 := (hu206 _ (by have z0 := zk3; simp only [List.mem_cons, List.not_mem_nil, or_false, not_or]; omega)).trans hT10
    replace hO143 := (hu206 _ (by have z0 := zk3; simp only [List.mem_cons, List.not_mem_nil, or_false, not_or]; omega)).trans hO143
    replace hA147 := (hu206 _ (by have z0 := zk3; simp only [List.mem_cons, List.not_mem_nil, or_false, not_or]; omega)).trans hA147
    replace hO55 := (hu206 _ (by decide)).trans hO55
    replace hF := q_uc hF hu206 (by simp)
    have hR212 := (show F_DW_divideRaised_c103 R R2 x4 t0_0 t0_1 t1_0 t1_1 t2_0 t3_0 t3_1 t4_0 t5_0 t5_1 t6_0 t7_0 t7_1 t8_0 t8_1 t9_0 t10_0 t10_1 t11_0 t11_1 t12_0 p70 p93 p122 a107 p170 a188 y149 y150 f151 y139 y140 f141 y144 y145 f146 p207 = (F_DW_divideRaised R R2 x4 t0_0 t0_1 t1_0 t1_1 t2_0 t3_0 t3_1 t4_0 t5_0 t5_1 t6_0 t7_0 t7_1 t8_0 t8_1 t9_0 t10_0 t10_1 t11_0 t11_1 t12_0) from Eq.trans (by have c186x := c186; rw [e172] at c186x; rw [e208, ← e189, e180, e179, e178, e177, e176, e175, e174, e173, e172, F_DW_divideRaised_c59.eq_1, if_pos c186x]) hR181)
    have hS213 := (show True ∧ S_DW_divideRaised_c103 R R2 x4 t0_0 t0_1 t1_0 t1_1 t2_0 t3_0 t3_1 t4_0 t5_0 t5_1 t6_0 t7_0 t7_1 t8_0 t8_1 t9_0 t10_0 t10_1 t11_0 t11_1 t12_0 p70 p93 p122 a107 p170 a188 y149 y150 f151 y139 y140 f141 y144 y145 f146 p207 from (by rw [e208, ← e189, e180, e179, e178, e177, e176, e175, e174, e173, e172]; have h := hS182; rw [S_DW_divideRaised_c59.eq_1] at h; have c186x := c186; rw [e172] at c186x; rw [if_pos c186x] at h; with_reducible exact h))
    exact q_retv C0 V (⟨hI, hF, t0_0, a188, y196, y197, f198, y149, y150, f151, y139, y140, f141, y144, y145, f146, hT0, hO195, hA199, hO148, hA152, hO138, hA142, hO143, hA147, (show 0 ≤ y150.toInt from (by have t1 : 0 ≤ y150.toInt := b153; omega)), (show y150.toInt ≤ 0 from (by have t1 : y150.toInt ≤ 0 := b154; omega)), (show t0_0.toInt ≤ t0_0.toInt from (by omega)), (show t0_0.toInt ≤ t0_0.toInt from (by omega)), (show y149.toInt ≤ t11_0.toInt + 219 from (by have t1 : y149.toInt ≤ t11_0.toInt + 219 := b160; omega)), (show y140.toInt ≤ t8_1.toInt from (by have t1 : y60.toInt ≤ t8_1.toInt := b67; have t2 : y84.toInt ≤ y60.toInt := b90; have t3 : y110.toInt ≤ y84.toInt := b119; have t4 : y140.toInt ≤ y110.toInt := b156; omega)), (show y144.toInt ≤ t11_0.toInt + 218 from (by have t1 : y144.toInt ≤ t11_0.toInt + 218 := b157; omega)), (show y144.toInt ≤ R2.toInt from (by have t1 : y144.toInt ≤ R2.toInt := b158; omega)), (show y145.toInt ≤ t11_1.toInt from (by have t1 : y145.toInt ≤ t11_1.toInt := b159; omega)), (show y150.toInt ≤ a188.toInt from (by have t1 : y150.toInt ≤ 0 := b154; have t2 : 0 ≤ a188.toInt ∧ a188.toInt ≤ 1 := b190; omega)), (show a188.toInt ≤ y150.toInt + 1 from (by have t1 : 0 ≤ y150.toInt := b153; have t2 : 0 ≤ a188.toInt ∧ a188.toInt ≤ 1 := b190; omega)), (show y196.toInt ≤ y149.toInt from (by have t1 : y196.toInt ≤ y149.toInt := b201; omega)), (show y150.toInt ≤ y196.toInt from (by have t1 : y150.toInt ≤ 0 := b154; have t2 : 0 ≤ y196.toInt := b200; omega)), (show y150.toInt ≤ y197.toInt from (by have t1 : y150.toInt ≤ y197.toInt := b203; omega)), (show y197.toInt ≤ y150.toInt from (by have t1 : y197.toInt ≤ y150.toInt := b204; omega)), (show y149.toInt ≤ y150.toInt + 220 from (by have t1 : 0 ≤ y150.toInt := b153; have t2 : y149.toInt ≤ 220 := b162; omega)), (show y139.toInt ≤ y150.toInt + 220 from (by have t1 : 0 ≤ y150.toInt := b153; have t2 : y139.toInt ≤ 220 := b155; omega)), (show y150.toInt ≤ y139.toInt from (by have t1 : y150.toInt ≤ y139.toInt := b163; omega)), (show y150.toInt ≤ y140.toInt from (by have t1 : y150.toInt ≤ y140.toInt := b164; omega)), (show y150.toInt ≤ y144.toInt from (by have t1 : y150.toInt ≤ y144.toInt := b165; omega)), (show y150.toInt ≤ y145.toInt from (by have t1 : y150.toInt ≤ y145.toInt := b166; omega)), (show (t0_0, a188, y196, y197, f198, y149, y150, f151, y139, y140, f141, y144, y145, f146) = (F_DW_divideRaised R R2 x4 t0_0 t0_1 t1_0 t1_1 t2_0 t3_0 t3_1 t4_0 t5_0 t5_1 t6_0 t7_0 t7_1 t8_0 t8_1 t9_0 t10_0 t10_1 t11_0 t11_1 t12_0) from Eq.trans (by rw [e211, e210, e209, F_DW_divideRaised_c103.eq_1]) hR212)⟩) d_4_15_106
  ·
    have b217 : q_F (0 < y139.toInt) := (q_nleI c186)
    refine lv_iconst (v := 1) hx hb d_4_15_80 (by decide) ?_
    refine lv_goto (tgt := 85) hx hb d_4_15_81 (by decide) ?_
    refine lv_ior hx hb d_4_15_85 ?_
    obtain ⟨a218, e219⟩ := q_nm (a107 ||| 1 : Int32)
    refine q_ti (v := a218) e219 ?_
    have b220 : q_F (0 ≤ a218.toInt ∧ a218.toInt ≤ 1) := (by rw [← e219]; show 0 ≤ (a107 ||| 1 : Int32).toInt ∧ (a107 ||| 1 : Int32).toInt ≤ 1; exact s_or' (x := a107) (y := 1) 1 (by decide) 1 (by decide) ⟨(by have t1 : 0 ≤ a107.toInt := b113; have t2 : a107.toInt ≤ 1 := b114; omega), (by have t1 : 0 ≤ a107.toInt := b113; have t2 : a107.toInt ≤ 1 := b114; omega)⟩ ⟨(by have z7 : (1 : Int32).toInt = 1 := rfl; omega), (by have z7 : (1 : Int32).toInt = 1 := rfl; omega)⟩)
    refine q_put (ci := 5) (j := 3) (v := .int a218) (ty := .boolean) C0 V i_DW o_DW n_DW rfl rfl hT0 (by decide) w_215 rfl rfl (q_nz01 (q_Ile (x := 0) (y := a218.toInt) (by decide) rfl (by have t1 : 0 ≤ a218.toInt ∧ a218.toInt ≤ 1 := b220; omega)) (q_Ile (x := a218.toInt) (y := 1) rfl (by decide) (by have t1 : 0 ≤ a218.toInt ∧ a218.toInt ≤ 1 := b220; omega))) (q_fz01 (q_Ile (x := 0) (y := a218.toInt) (by decide) rfl (by have t1 : 0 ≤ a218.toInt ∧ a218.toInt ≤ 1 := b220; omega)) (q_Ile (x := a218.toInt) (y := 1) rfl (by decide) (by have t1 : 0 ≤ a218.toInt ∧ a218.toInt ≤ 1 := b220; omega))) (Nat.le_of_ble_eq_true rfl) d_4_15_86 (fun H locs w221 hu222 hT0 V => ?_)
    replace hT0 : w221[30]? = (some (q 30, .inr (5, [.ref (q 31), .long t0_0, .ref (q 9), .int a218])) : Option (Nat × va_E)) := hT0
    replace hI := n_p30 hI hu222 hT0 ⟨(by have t1 : 0 ≤ a218.toInt ∧ a218.toInt ≤ 1 := b220; omega), (by have t1 : 0 ≤ a218.toInt ∧ a218.toInt ≤ 1 := b220; omega)⟩
    replace hT1 := (hu222 _ (by decide)).trans hT1
    replace hT2 := (hu222 _ (by decide)).trans hT2
    replace hO148 := (hu222 _ (by decide)).trans hO148
    replace hA152 := (hu222 _ (by decide)).trans hA152
    replace hO138 := (hu222 _ (by decide)).trans hO138
    replace hA142 := (hu222 _ (by decide)).trans hA142
    replace hT7 := (hu222 _ (by have z := ne_k2_30; omega)).trans hT7
    replace hT8 := (hu222 _ (by have z := ne_k2_29; omega)).trans hT8
    replace hT9 := (hu222 _ (by have z := ne_k2_28; omega)).trans hT9
    replace hT10 := (hu222 _ (by have z := ne_k3_30; omega)).trans hT10
    replace hO143 := (hu222 _ (by have z := ne_k3_29; omega)).trans hO143
    replace hA147 := (hu222 _ (by have z := ne_k3_28; omega)).trans hA147
    replace hO55 := (hu222 _ (by decide)).trans hO55
    replace hF := q_us hF hu222 (by simp)
    refine lv_aload_n hx hb d_4_15_89 rfl (lv_at hl 0 rfl) ?_
    refine q_get (ci := 5) (j := 2) (v := .ref (q 9)) C0 V i_DW rfl rfl hT0 (by decide) w_214 rfl d_4_15_90 ?_
    refine q_get (ci := 4) (j := 0) (v := .ref (q 10)) C0 V i_Mil rfl rfl hO55 (by decide) w_111 rfl d_4_15_93 ?_
    refine lv_aload_n hx hb d_4_15_96 rfl (lv_at hl 0 rfl) ?_
    refine q_get (ci := 5) (j := 2) (v := .ref (q 9)) C0 V i_DW rfl rfl hT0 (by decide) w_214 rfl d_4_15_97 ?_
    refine q_get (ci := 4) (j := 1) (v := .ref (q 12)) C0 V i_Mil rfl rfl hO55 (by decide) w_115 rfl d_4_15_100 ?_
    refine q_gov V (q_runV (As := [.ref (q 12)]) (rest := []) (d := 2) (mc := 0) (ms := 0) (ci := 2) C0 V rfl LV_DW_44 (X_Big_copy l D g q w221 10 220 (n_b10 g q) (by decide) 12 220 (n_b12 g q) (by decide)  (by decide) hI t1_0 t1_1 hT1 t2_0 hT2 y149 y150 hO148 f151 hA152  _) rfl rfl hT1 rfl hl.1 rfl (Nat.le_of_ble_eq_true rfl) ⟨by decide, by decide⟩ ⟨Nat.le_of_ble_eq_true rfl, Nat.le_of_ble_eq_true rfl⟩ d_4_15_103) (fun u223 H locs hp224 V => ?_)
    obtain ⟨hI, hu236, y226, y227, f228, hO225, hA229, b230, b231, b232, b233, b234, hE235⟩ := hp224
    replace hO225 : u223[10]? = (some (q 10, .inr (2, [.ref (q 11), .int y226, .int y227])) : Option (Nat × va_E)) := hO225
    replace hA229 : u223[11]? = (some (q 11, .inl (g 0, (220 : Int32).toNatClampNeg, .inl f228)) : Option (Nat × va_E)) := hA229
    obtain ⟨p237, e238⟩ : ∃ z, z = (F_Big_copy (220 : Int32) (220 : Int32) t1_0 t1_1 t2_0 y149 y150 f151) := ⟨_, rfl⟩
    have e239 : y226 = p237.1 := congrArg (fun z => z.1) (hE235.trans e238.symm)
    have e240 : y227 = p237.2.1 := congrArg (fun z => z.2.1) (hE235.trans e238.symm)
    have e241 : f228 = p237.2.2 := congrArg (fun z => z.2.2) (hE235.trans e238.symm)
    replace b230 : q_F (0 ≤ y226.toInt) := b230
    replace b231 : q_F (y226.toInt ≤ y149.toInt) := b231
    replace b232 : q_F (y226.toInt ≤ 220) := b232
    replace b233 : q_F (y150.toInt ≤ y227.toInt) := b233
    replace b234 : q_F (y227.toInt ≤ y150.toInt) := b234
    replace hT0 := (hu236 _ (by decide)).trans hT0
    replace hO148 := (hu236 _ (by decide)).trans hO148
    replace hA152 := (hu236 _ (by decide)).trans hA152
    replace hO138 := (hu236 _ (by decide)).trans hO138
    replace hA142 := (hu236 _ (by decide)).trans hA142
    replace hT7 := (hu236 _ (by have z0 := zk2; simp only [List.mem_cons, List.not_mem_nil, or_false, not_or]; omega)).trans hT7
    replace hT8 := (hu236 _ (by have z0 := zk2; simp only [List.mem_cons, List.not_mem_nil, or_false, not_or]; omega)).trans hT8
    replace hT9 := (hu236 _ (by have z0 := zk2; simp only [List.mem_cons, List.not_mem_nil, or_false, not_or]; omega)).trans hT9
    replace hT10 := (hu236 _ (by have z0 := zk3; simp only [List.mem_cons, List.not_mem_nil, or_false, not_or]; omega)).trans hT10
    replace hO143 := (hu236 _ (by have z0 := zk3; simp only [List.mem_cons, List.not_mem_nil, or_false, not_or]; omega)).trans hO143
    replace hA147 := (hu236 _ (by have z0 := zk3; simp only [List.mem_cons, List.not_mem_nil, or_false, not_or]; omega)).trans hA147
    replace hO55 := (hu236 _ (by decide)).trans hO55
    replace hF := q_uc hF hu236 (by simp)
    have hR242 := (show F_DW_divideRaised_c103_6 R R2 x4 t0_0 t0_1 t1_0 t1_1 t2_0 t3_0 t3_1 t4_0 t5_0 t5_1 t6_0 t7_0 t7_1 t8_0 t8_1 t9_0 t10_0 t10_1 t11_0 t11_1 t12_0 p70 p93 p122 a107 p170 a218 y149 y150 f151 y139 y140 f141 y144 y145 f146 p237 = (F_DW_divideRaised R R2 x4 t0_0 t0_1 t1_0 t1_1 t2_0 t3_0 t3_1 t4_0 t5_0 t5_1 t6_0 t7_0 t7_1 t8_0 t8_1 t9_0 t10_0 t10_1 t11_0 t11_1 t12_0) from Eq.trans (by have c186x := c186; rw [e172] at c186x; rw [e238, ← e219, e180, e179, e178, e177, e176, e175, e174, e173, e172, F_DW_divideRaised_c59.eq_1, if_neg c186x]) hR181)
    have hS243 := (show True ∧ S_DW_divideRaised_c103_6 R R2 x4 t0_0 t0_1 t1_0 t1_1 t2_0 t3_0 t3_1 t4_0 t5_0 t5_1 t6_0 t7_0 t7_1 t8_0 t8_1 t9_0 t10_0 t10_1 t11_0 t11_1 t12_0 p70 p93 p122 a107 p170 a218 y149 y150 f151 y139 y140 f141 y144 y145 f146 p237 from (by rw [e238, ← e219, e180, e179, e178, e177, e176, e175, e174, e173, e172]; have h := hS182; rw [S_DW_divideRaised_c59.eq_1] at h; have c186x := c186; rw [e172] at c186x; rw [if_neg c186x] at h; with_reducible exact h))
    exact q_retv C0 V (⟨hI, hF, t0_0, a218, y226, y227, f228, y149, y150, f151, y139, y140, f141, y144, y145, f146, hT0, hO225, hA229, hO148, hA152, hO138, hA142, hO143, hA147, (show 0 ≤ y150.toInt from (by have t1 : 0 ≤ y150.toInt := b153; omega)), (show y150.toInt ≤ 0 from (by have t1 : y150.toInt ≤ 0 := b154; omega)), (show t0_0.toInt ≤ t0_0.toInt from (by omega)), (show t0_0.toInt ≤ t0_0.toInt from (by omega)), (show y149.toInt ≤ t11_0.toInt + 219 from (by have t1 : y149.toInt ≤ t11_0.toInt + 219 := b160; omega)), (show y140.toInt ≤ t8_1.toInt from (by have t1 : y60.toInt ≤ t8_1.toInt := b67; have t2 : y84.toInt ≤ y60.toInt := b90; have t3 : y110.toInt ≤ y84.toInt := b119; have t4 : y140.toInt ≤ y110.toInt := b156; omega)), (show y144.toInt ≤ t11_0.toInt + 218 from (by have t1 : y144.toInt ≤ t11_0.toInt + 218 := b157; omega)), (show y144.toInt ≤ R2.toInt from (by have t1 : y144.toInt ≤ R2.toInt := b158; omega)), (show y145.toInt ≤ t11_1.toInt from (by have t1 : y145.toInt ≤ t11_1.toInt := b159; omega)), (show y150.toInt ≤ a218.toInt from (by have t1 : y150.toInt ≤ 0 := b154; have t2 : 0 ≤ a218.toInt ∧ a218.toInt ≤ 1 := b220; omega)), (show a218.toInt ≤ y150.toInt + 1 from (by have t1 : 0 ≤ y150.toInt := b153; have t2 : 0 ≤ a218.toInt ∧ a218.toInt ≤ 1 := b220; omega)), (show y226.toInt ≤ y149.toInt from (by have t1 : y226.toInt ≤ y149.toInt := b231; omega)), (show y150.toInt ≤ y226.toInt from (by have t1 : y150.toInt ≤ 0 := b154; have t2 : 0 ≤ y226.toInt := b230; omega)), (show y150.toInt ≤ y227.toInt from (by have t1 : y150.toInt ≤ y227.toInt := b233; omega)), (show y227.toInt ≤ y150.toInt from (by have t1 : y227.toInt ≤ y150.toInt := b234; omega)), (show y149.toInt ≤ y150.toInt + 220 from (by have t1 : 0 ≤ y150.toInt := b153; have t2 : y149.toInt ≤ 220 := b162; omega)), (show y139.toInt ≤ y150.toInt + 220 from (by have t1 : 0 ≤ y150.toInt := b153; have t2 : y139.toInt ≤ 220 := b155; omega)), (show y150.toInt ≤ y139.toInt from (by have t1 : y150.toInt ≤ y139.toInt := b163; omega)), (show y150.toInt ≤ y140.toInt from (by have t1 : y150.toInt ≤ y140.toInt := b164; omega)), (show y150.toInt ≤ y144.toInt from (by have t1 : y150.toInt ≤ y144.toInt := b165; omega)), (show y150.toInt ≤ y145.toInt from (by have t1 : y150.toInt ≤ y145.toInt := b166; omega)), (show (t0_0, a218, y226, y227, f228, y149, y150, f151, y139, y140, f141, y144, y145, f146) = (F_DW_divideRaised R R2 x4 t0_0 t0_1 t1_0 t1_1 t2_0 t3_0 t3_1 t4_0 t5_0 t5_1 t6_0 t7_0 t7_1 t8_0 t8_1 t9_0 t10_0 t10_1 t11_0 t11_1 t12_0) from Eq.trans (by rw [e241, e240, e239, F_DW_divideRaised_c103_6.eq_1]) hR242)⟩) d_4_15_106
