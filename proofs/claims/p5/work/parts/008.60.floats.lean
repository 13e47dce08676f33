/-! Mill and Floats, what divides nothing -/
theorem d_29_49_0 : decode prog_29_method_49_code 0 = .ok (.lload_n 0, 1) := by decide +kernel
theorem d_29_49_1 : decode prog_29_method_49_code 1 = .ok (.lload_n 2, 1) := by decide +kernel
theorem d_29_49_2 : decode prog_29_method_49_code 2 = .ok (.ldiv, 1) := by decide +kernel
theorem d_29_49_3 : decode prog_29_method_49_code 3 = .ok (.lstore 4, 2) := by decide +kernel
theorem d_29_49_5 : decode prog_29_method_49_code 5 = .ok (.lload_n 0, 1) := by decide +kernel
theorem d_29_49_6 : decode prog_29_method_49_code 6 = .ok (.lload_n 2, 1) := by decide +kernel
theorem d_29_49_7 : decode prog_29_method_49_code 7 = .ok (.lxor, 1) := by decide +kernel
theorem d_29_49_8 : decode prog_29_method_49_code 8 = .ok (.lconst 0, 1) := by decide +kernel
theorem d_29_49_9 : decode prog_29_method_49_code 9 = .ok (.lcmp, 1) := by decide +kernel
theorem d_29_49_10 : decode prog_29_method_49_code 10 = .ok (.ifCond .ge 17, 3) := by decide +kernel
theorem d_29_49_27 : decode prog_29_method_49_code 27 = .ok (.lload 4, 2) := by decide +kernel
theorem d_29_49_29 : decode prog_29_method_49_code 29 = .ok (.lreturn, 1) := by decide +kernel
theorem d_29_49_13 : decode prog_29_method_49_code 13 = .ok (.lload 4, 2) := by decide +kernel
theorem d_29_49_15 : decode prog_29_method_49_code 15 = .ok (.lload_n 2, 1) := by decide +kernel
theorem d_29_49_16 : decode prog_29_method_49_code 16 = .ok (.lmul, 1) := by decide +kernel
theorem d_29_49_17 : decode prog_29_method_49_code 17 = .ok (.lload_n 0, 1) := by decide +kernel
theorem d_29_49_18 : decode prog_29_method_49_code 18 = .ok (.lcmp, 1) := by decide +kernel
theorem d_29_49_19 : decode prog_29_method_49_code 19 = .ok (.ifCond .eq 8, 3) := by decide +kernel
theorem d_29_49_22 : decode prog_29_method_49_code 22 = .ok (.lload 4, 2) := by decide +kernel
theorem d_29_49_24 : decode prog_29_method_49_code 24 = .ok (.lconst 1, 1) := by decide +kernel
theorem d_29_49_25 : decode prog_29_method_49_code 25 = .ok (.lsub, 1) := by decide +kernel
theorem d_29_49_26 : decode prog_29_method_49_code 26 = .ok (.lreturn, 1) := by decide +kernel
def y_jMath_floorDiv_JJJ : MethodName := ⟨"java/lang/Math", "floorDiv", "(JJ)J"⟩
theorem d_8_2_0 : decode prog_8_method_2_code 0 = .ok (.iload_n 1, 1) := by decide +kernel
theorem d_8_2_1 : decode prog_8_method_2_code 1 = .ok (.iconst 2, 1) := by decide +kernel
theorem d_8_2_2 : decode prog_8_method_2_code 2 = .ok (.if_icmp .ne 15, 3) := by decide +kernel
theorem d_8_2_17 : decode prog_8_method_2_code 17 = .ok (.aload_n 0, 1) := by decide +kernel
theorem d_8_2_18 : decode prog_8_method_2_code 18 = .ok (.getfield 16, 3) := by decide +kernel
theorem d_8_2_21 : decode prog_8_method_2_code 21 = .ok (.aload_n 2, 1) := by decide +kernel
theorem d_8_2_22 : decode prog_8_method_2_code 22 = .ok (.invokevirtual 51, 3) := by decide +kernel
set_option maxRecDepth 100000 in
theorem w_1263 : (Cond.methodLink "NumberHouse$Mill" (51 : Nat) ({ cls := "NumberHouse$Big", name := "copy", desc := "(LNumberHouse$Big;)V" } : MethodName)) ∈ q_tbl := q_of6 63 rfl (by decide +kernel)
theorem LV_Mil_51 : q_LV "NumberHouse$Mill" 51 y_Big_copy prog_2_method_4_code 2 none 1 := ⟨w_790, w_4, w_1263, w_788, w_789, ⟨by decide, by decide, by decide +kernel⟩⟩
theorem d_8_2_25 : decode prog_8_method_2_code 25 = .ok (.aload_n 0, 1) := by decide +kernel
theorem d_8_2_26 : decode prog_8_method_2_code 26 = .ok (.getfield 16, 3) := by decide +kernel
theorem d_8_2_29 : decode prog_8_method_2_code 29 = .ok (.aload_n 3, 1) := by decide +kernel
theorem d_8_2_30 : decode prog_8_method_2_code 30 = .ok (.iload_n 1, 1) := by decide +kernel
theorem d_8_2_31 : decode prog_8_method_2_code 31 = .ok (.iconst 1, 1) := by decide +kernel
theorem d_8_2_32 : decode prog_8_method_2_code 32 = .ok (.if_icmp .ne 7, 3) := by decide +kernel
theorem d_8_2_39 : decode prog_8_method_2_code 39 = .ok (.iconst 0, 1) := by decide +kernel
theorem d_8_2_40 : decode prog_8_method_2_code 40 = .ok (.invokevirtual 55, 3) := by decide +kernel
set_option maxRecDepth 100000 in
theorem w_1267 : (Cond.code ({ cls := "NumberHouse$Big", name := "addSigned", desc := "(LNumberHouse$Big;Z)V" } : MethodName) prog_2_method_22_code (4 : Nat) (none : Option ClassFile.FieldType)) ∈ q_tbl := q_of6 67 rfl (by decide +kernel)
set_option maxRecDepth 100000 in
theorem w_1264 : (Cond.methodLink "NumberHouse$Mill" (55 : Nat) ({ cls := "NumberHouse$Big", name := "addSigned", desc := "(LNumberHouse$Big;Z)V" } : MethodName)) ∈ q_tbl := q_of6 64 rfl (by decide +kernel)
set_option maxRecDepth 100000 in
theorem w_1265 : (Cond.instanceMethod ({ cls := "NumberHouse$Big", name := "addSigned", desc := "(LNumberHouse$Big;Z)V" } : MethodName)) ∈ q_tbl := q_of6 65 rfl (by decide +kernel)
set_option maxRecDepth 100000 in
theorem w_1266 : (Cond.selects "NumberHouse$Big" ({ cls := "NumberHouse$Big", name := "addSigned", desc := "(LNumberHouse$Big;Z)V" } : MethodName) ({ cls := "NumberHouse$Big", name := "addSigned", desc := "(LNumberHouse$Big;Z)V" } : MethodName)) ∈ q_tbl := q_of6 66 rfl (by decide +kernel)
theorem LV_Mil_55 : q_LV "NumberHouse$Mill" 55 y_Big_addSigned prog_2_method_22_code 4 none 2 := ⟨w_1267, w_4, w_1264, w_1265, w_1266, ⟨by decide, by decide, by decide +kernel⟩⟩
theorem d_8_2_43 : decode prog_8_method_2_code 43 = .ok (.return_, 1) := by decide +kernel
theorem d_8_2_35 : decode prog_8_method_2_code 35 = .ok (.iconst 1, 1) := by decide +kernel
theorem d_8_2_36 : decode prog_8_method_2_code 36 = .ok (.goto 4, 3) := by decide +kernel
theorem d_8_2_5 : decode prog_8_method_2_code 5 = .ok (.aload_n 0, 1) := by decide +kernel
theorem d_8_2_6 : decode prog_8_method_2_code 6 = .ok (.getfield 16, 3) := by decide +kernel
theorem d_8_2_9 : decode prog_8_method_2_code 9 = .ok (.aload_n 2, 1) := by decide +kernel
theorem d_8_2_10 : decode prog_8_method_2_code 10 = .ok (.aload_n 3, 1) := by decide +kernel
theorem d_8_2_11 : decode prog_8_method_2_code 11 = .ok (.invokevirtual 47, 3) := by decide +kernel
set_option maxRecDepth 100000 in
theorem w_1262 : (Cond.code ({ cls := "NumberHouse$Big", name := "product", desc := "(LNumberHouse$Big;LNumberHouse$Big;)V" } : MethodName) prog_2_method_31_code (13 : Nat) (none : Option ClassFile.FieldType)) ∈ q_tbl := q_of6 62 rfl (by decide +kernel)
set_option maxRecDepth 100000 in
theorem w_1259 : (Cond.methodLink "NumberHouse$Mill" (47 : Nat) ({ cls := "NumberHouse$Big", name := "product", desc := "(LNumberHouse$Big;LNumberHouse$Big;)V" } : MethodName)) ∈ q_tbl := q_of6 59 rfl (by decide +kernel)
set_option maxRecDepth 100000 in
theorem w_1260 : (Cond.instanceMethod ({ cls := "NumberHouse$Big", name := "product", desc := "(LNumberHouse$Big;LNumberHouse$Big;)V" } : MethodName)) ∈ q_tbl := q_of6 60 rfl (by decide +kernel)
set_option maxRecDepth 100000 in
theorem w_1261 : (Cond.selects "NumberHouse$Big" ({ cls := "NumberHouse$Big", name := "product", desc := "(LNumberHouse$Big;LNumberHouse$Big;)V" } : MethodName) ({ cls := "NumberHouse$Big", name := "product", desc := "(LNumberHouse$Big;LNumberHouse$Big;)V" } : MethodName)) ∈ q_tbl := q_of6 61 rfl (by decide +kernel)
theorem LV_Mil_47 : q_LV "NumberHouse$Mill" 47 y_Big_product prog_2_method_31_code 13 none 2 := ⟨w_1262, w_4, w_1259, w_1260, w_1261, ⟨by decide, by decide, by decide +kernel⟩⟩
theorem d_8_2_14 : decode prog_8_method_2_code 14 = .ok (.goto 29, 3) := by decide +kernel
def y_Mil_addOrMultiply : MethodName := ⟨"NumberHouse$Mill", "addOrMultiply", "(ILNumberHouse$Big;LNumberHouse$Big;)V"⟩
theorem d_8_12_0 : decode prog_8_method_12_code 0 = .ok (.iload_n 0, 1) := by decide +kernel
theorem d_8_12_1 : decode prog_8_method_12_code 1 = .ok (.tableswitch 39 8 10 #[27, 31, 35], 27) := by decide +kernel
theorem d_8_12_28 : decode prog_8_method_12_code 28 = .ok (.iload_n 1, 1) := by decide +kernel
theorem d_8_12_29 : decode prog_8_method_12_code 29 = .ok (.iload_n 2, 1) := by decide +kernel
theorem d_8_12_30 : decode prog_8_method_12_code 30 = .ok (.iand, 1) := by decide +kernel
theorem d_8_12_31 : decode prog_8_method_12_code 31 = .ok (.ireturn, 1) := by decide +kernel
theorem d_8_12_32 : decode prog_8_method_12_code 32 = .ok (.iload_n 1, 1) := by decide +kernel
theorem d_8_12_33 : decode prog_8_method_12_code 33 = .ok (.iload_n 2, 1) := by decide +kernel
theorem d_8_12_34 : decode prog_8_method_12_code 34 = .ok (.ior, 1) := by decide +kernel
theorem d_8_12_35 : decode prog_8_method_12_code 35 = .ok (.ireturn, 1) := by decide +kernel
theorem d_8_12_36 : decode prog_8_method_12_code 36 = .ok (.iload_n 1, 1) := by decide +kernel
theorem d_8_12_37 : decode prog_8_method_12_code 37 = .ok (.iload_n 2, 1) := by decide +kernel
theorem d_8_12_38 : decode prog_8_method_12_code 38 = .ok (.ixor, 1) := by decide +kernel
theorem d_8_12_39 : decode prog_8_method_12_code 39 = .ok (.ireturn, 1) := by decide +kernel
theorem d_8_12_40 : decode prog_8_method_12_code 40 = .ok (.iload_n 1, 1) := by decide +kernel
theorem d_8_12_41 : decode prog_8_method_12_code 41 = .ok (.iload_n 2, 1) := by decide +kernel
theorem d_8_12_42 : decode prog_8_method_12_code 42 = .ok (.iconst (-1), 1) := by decide +kernel
theorem d_8_12_43 : decode prog_8_method_12_code 43 = .ok (.ixor, 1) := by decide +kernel
theorem d_8_12_44 : decode prog_8_method_12_code 44 = .ok (.iand, 1) := by decide +kernel
theorem d_8_12_45 : decode prog_8_method_12_code 45 = .ok (.ireturn, 1) := by decide +kernel
def y_Mil_mixed : MethodName := ⟨"NumberHouse$Mill", "mixed", "(III)I"⟩
theorem d_8_11_0 : decode prog_8_method_11_code 0 = .ok (.aload_n 2, 1) := by decide +kernel
theorem d_8_11_1 : decode prog_8_method_11_code 1 = .ok (.getfield 62, 3) := by decide +kernel
set_option maxRecDepth 100000 in
theorem w_89 : (Cond.fieldLink "NumberHouse$Mill" (62 : Nat) "NumberHouse$Big" "size" "I") ∈ q_tbl := q_of1 89 rfl (by decide +kernel)
theorem d_8_11_4 : decode prog_8_method_11_code 4 = .ok (.aload_n 3, 1) := by decide +kernel
theorem d_8_11_5 : decode prog_8_method_11_code 5 = .ok (.getfield 62, 3) := by decide +kernel
theorem d_8_11_8 : decode prog_8_method_11_code 8 = .ok (.invokestatic 122, 3) := by decide +kernel
set_option maxRecDepth 100000 in
theorem w_1301 : (Cond.methodLink "NumberHouse$Mill" (122 : Nat) ({ cls := "java/lang/Math", name := "max", desc := "(II)I" } : MethodName)) ∈ q_tbl := q_of6 101 rfl (by decide +kernel)
theorem d_8_11_11 : decode prog_8_method_11_code 11 = .ok (.iconst 1, 1) := by decide +kernel
theorem d_8_11_12 : decode prog_8_method_11_code 12 = .ok (.iadd, 1) := by decide +kernel
theorem d_8_11_13 : decode prog_8_method_11_code 13 = .ok (.istore 4, 2) := by decide +kernel
theorem d_8_11_15 : decode prog_8_method_11_code 15 = .ok (.aload_n 2, 1) := by decide +kernel
theorem d_8_11_16 : decode prog_8_method_11_code 16 = .ok (.invokevirtual 128, 3) := by decide +kernel
set_option maxRecDepth 100000 in
theorem w_1305 : (Cond.code ({ cls := "NumberHouse$Big", name := "lowestLimb", desc := "()I" } : MethodName) prog_2_method_18_code (2 : Nat) (some .int)) ∈ q_tbl := q_of6 105 rfl (by decide +kernel)
set_option maxRecDepth 100000 in
theorem w_1302 : (Cond.methodLink "NumberHouse$Mill" (128 : Nat) ({ cls := "NumberHouse$Big", name := "lowestLimb", desc := "()I" } : MethodName)) ∈ q_tbl := q_of6 102 rfl (by decide +kernel)
set_option maxRecDepth 100000 in
theorem w_1303 : (Cond.instanceMethod ({ cls := "NumberHouse$Big", name := "lowestLimb", desc := "()I" } : MethodName)) ∈ q_tbl := q_of6 103 rfl (by decide +kernel)
set_option maxRecDepth 100000 in
theorem w_1304 : (Cond.selects "NumberHouse$Big" ({ cls := "NumberHouse$Big", name := "lowestLimb", desc := "()I" } : MethodName) ({ cls := "NumberHouse$Big", name := "lowestLimb", desc := "()I" } : MethodName)) ∈ q_tbl := q_of6 104 rfl (by decide +kernel)
theorem LV_Mil_128 : q_LV "NumberHouse$Mill" 128 y_Big_lowestLimb prog_2_method_18_code 2 (some .int) 0 := ⟨w_1305, w_4, w_1302, w_1303, w_1304, ⟨by decide, by decide, by decide +kernel⟩⟩
theorem d_8_11_19 : decode prog_8_method_11_code 19 = .ok (.istore 5, 2) := by decide +kernel
theorem d_8_11_21 : decode prog_8_method_11_code 21 = .ok (.aload_n 3, 1) := by decide +kernel
theorem d_8_11_22 : decode prog_8_method_11_code 22 = .ok (.invokevirtual 128, 3) := by decide +kernel
theorem d_8_11_25 : decode prog_8_method_11_code 25 = .ok (.istore 6, 2) := by decide +kernel
theorem d_8_11_27 : decode prog_8_method_11_code 27 = .ok (.iload_n 1, 1) := by decide +kernel
theorem d_8_11_28 : decode prog_8_method_11_code 28 = .ok (.aload_n 2, 1) := by decide +kernel
theorem d_8_11_29 : decode prog_8_method_11_code 29 = .ok (.getfield 66, 3) := by decide +kernel
set_option maxRecDepth 100000 in
theorem w_96 : (Cond.fieldLink "NumberHouse$Mill" (66 : Nat) "NumberHouse$Big" "negative" "Z") ∈ q_tbl := q_of1 96 rfl (by decide +kernel)
theorem d_8_11_40 : decode prog_8_method_11_code 40 = .ok (.aload_n 3, 1) := by decide +kernel
theorem d_8_11_41 : decode prog_8_method_11_code 41 = .ok (.getfield 66, 3) := by decide +kernel
theorem d_8_11_52 : decode prog_8_method_11_code 52 = .ok (.invokestatic 131, 3) := by decide +kernel
set_option maxRecDepth 100000 in
theorem w_1308 : (Cond.code ({ cls := "NumberHouse$Mill", name := "mixed", desc := "(III)I" } : MethodName) prog_8_method_12_code (3 : Nat) (some .int)) ∈ q_tbl := q_of6 108 rfl (by decide +kernel)
set_option maxRecDepth 100000 in
theorem w_1306 : (Cond.methodLink "NumberHouse$Mill" (131 : Nat) ({ cls := "NumberHouse$Mill", name := "mixed", desc := "(III)I" } : MethodName)) ∈ q_tbl := q_of6 106 rfl (by decide +kernel)
set_option maxRecDepth 100000 in
theorem w_1307 : (Cond.static ({ cls := "NumberHouse$Mill", name := "mixed", desc := "(III)I" } : MethodName)) ∈ q_tbl := q_of6 107 rfl (by decide +kernel)
theorem LS_Mil_131 : q_LS "NumberHouse$Mill" 131 y_Mil_mixed prog_8_method_12_code 3 (some .int) 3 := ⟨w_1308, w_3, w_1306, w_1307, ⟨by decide, by decide, by decide +kernel⟩⟩
theorem d_8_11_55 : decode prog_8_method_11_code 55 = .ok (.iconst 1, 1) := by decide +kernel
theorem d_8_11_64 : decode prog_8_method_11_code 64 = .ok (.istore 7, 2) := by decide +kernel
theorem d_8_11_66 : decode prog_8_method_11_code 66 = .ok (.iload 7, 2) := by decide +kernel
theorem d_8_11_76 : decode prog_8_method_11_code 76 = .ok (.istore 8, 2) := by decide +kernel
theorem d_8_11_78 : decode prog_8_method_11_code 78 = .ok (.aload_n 0, 1) := by decide +kernel
theorem d_8_11_79 : decode prog_8_method_11_code 79 = .ok (.getfield 16, 3) := by decide +kernel
theorem d_8_11_82 : decode prog_8_method_11_code 82 = .ok (.invokevirtual 74, 3) := by decide +kernel
set_option maxRecDepth 100000 in
theorem w_1292 : (Cond.methodLink "NumberHouse$Mill" (74 : Nat) ({ cls := "NumberHouse$Big", name := "clear", desc := "()V" } : MethodName)) ∈ q_tbl := q_of6 92 rfl (by decide +kernel)
theorem LV_Mil_74 : q_LV "NumberHouse$Mill" 74 y_Big_clear prog_2_method_2_code 1 none 0 := ⟨w_197, w_4, w_1292, w_195, w_196, ⟨by decide, by decide, by decide +kernel⟩⟩
theorem d_8_11_85 : decode prog_8_method_11_code 85 = .ok (.iconst 0, 1) := by decide +kernel
theorem d_8_11_86 : decode prog_8_method_11_code 86 = .ok (.istore 9, 2) := by decide +kernel
theorem d_8_11_88 : decode prog_8_method_11_code 88 = .ok (.iload 9, 2) := by decide +kernel
theorem d_8_11_90 : decode prog_8_method_11_code 90 = .ok (.iload 4, 2) := by decide +kernel
theorem d_8_11_92 : decode prog_8_method_11_code 92 = .ok (.if_icmp .ge 72, 3) := by decide +kernel
theorem d_8_11_164 : decode prog_8_method_11_code 164 = .ok (.aload_n 0, 1) := by decide +kernel
theorem d_8_11_165 : decode prog_8_method_11_code 165 = .ok (.getfield 16, 3) := by decide +kernel
theorem d_8_11_168 : decode prog_8_method_11_code 168 = .ok (.invokevirtual 142, 3) := by decide +kernel
set_option maxRecDepth 100000 in
theorem w_1315 : (Cond.methodLink "NumberHouse$Mill" (142 : Nat) ({ cls := "NumberHouse$Big", name := "trim", desc := "()V" } : MethodName)) ∈ q_tbl := q_of6 115 rfl (by decide +kernel)
theorem LV_Mil_142 : q_LV "NumberHouse$Mill" 142 y_Big_trim prog_2_method_7_code 2 none 0 := ⟨w_209, w_4, w_1315, w_207, w_208, ⟨by decide, by decide, by decide +kernel⟩⟩
theorem d_8_11_171 : decode prog_8_method_11_code 171 = .ok (.aload_n 0, 1) := by decide +kernel
theorem d_8_11_172 : decode prog_8_method_11_code 172 = .ok (.getfield 16, 3) := by decide +kernel
theorem d_8_11_175 : decode prog_8_method_11_code 175 = .ok (.iload 7, 2) := by decide +kernel
theorem d_8_11_177 : decode prog_8_method_11_code 177 = .ok (.putfield 66, 3) := by decide +kernel
theorem d_8_11_180 : decode prog_8_method_11_code 180 = .ok (.return_, 1) := by decide +kernel
theorem d_8_11_95 : decode prog_8_method_11_code 95 = .ok (.iload_n 1, 1) := by decide +kernel
theorem d_8_11_96 : decode prog_8_method_11_code 96 = .ok (.aload_n 2, 1) := by decide +kernel
theorem d_8_11_97 : decode prog_8_method_11_code 97 = .ok (.iload 9, 2) := by decide +kernel
theorem d_8_11_99 : decode prog_8_method_11_code 99 = .ok (.iload 5, 2) := by decide +kernel
theorem d_8_11_101 : decode prog_8_method_11_code 101 = .ok (.invokevirtual 135, 3) := by decide +kernel
set_option maxRecDepth 100000 in
theorem w_1312 : (Cond.code ({ cls := "NumberHouse$Big", name := "endlessLimb", desc := "(II)I" } : MethodName) prog_2_method_19_code (3 : Nat) (some .int)) ∈ q_tbl := q_of6 112 rfl (by decide +kernel)
set_option maxRecDepth 100000 in
theorem w_1309 : (Cond.methodLink "NumberHouse$Mill" (135 : Nat) ({ cls := "NumberHouse$Big", name := "endlessLimb", desc := "(II)I" } : MethodName)) ∈ q_tbl := q_of6 109 rfl (by decide +kernel)
set_option maxRecDepth 100000 in
theorem w_1310 : (Cond.instanceMethod ({ cls := "NumberHouse$Big", name := "endlessLimb", desc := "(II)I" } : MethodName)) ∈ q_tbl := q_of6 110 rfl (by decide +kernel)
set_option maxRecDepth 100000 in
theorem w_1311 : (Cond.selects "NumberHouse$Big" ({ cls := "NumberHouse$Big", name := "endlessLimb", desc := "(II)I" } : MethodName) ({ cls := "NumberHouse$Big", name := "endlessLimb", desc := "(II)I" } : MethodName)) ∈ q_tbl := q_of6 111 rfl (by decide +kernel)
theorem LV_Mil_135 : q_LV "NumberHouse$Mill" 135 y_Big_endlessLimb prog_2_method_19_code 3 (some .int) 2 := ⟨w_1312, w_4, w_1309, w_1310, w_1311, ⟨by decide, by decide, by decide +kernel⟩⟩
theorem d_8_11_104 : decode prog_8_method_11_code 104 = .ok (.aload_n 3, 1) := by decide +kernel
theorem d_8_11_105 : decode prog_8_method_11_code 105 = .ok (.iload 9, 2) := by decide +kernel
theorem d_8_11_107 : decode prog_8_method_11_code 107 = .ok (.iload 6, 2) := by decide +kernel
theorem d_8_11_109 : decode prog_8_method_11_code 109 = .ok (.invokevirtual 135, 3) := by decide +kernel
theorem d_8_11_112 : decode prog_8_method_11_code 112 = .ok (.invokestatic 131, 3) := by decide +kernel
theorem d_8_11_115 : decode prog_8_method_11_code 115 = .ok (.istore 10, 2) := by decide +kernel
theorem d_8_11_117 : decode prog_8_method_11_code 117 = .ok (.iload 7, 2) := by decide +kernel
theorem d_8_11_134 : decode prog_8_method_11_code 134 = .ok (.iload 8, 2) := by decide +kernel
theorem d_8_11_136 : decode prog_8_method_11_code 136 = .ok (.iadd, 1) := by decide +kernel
theorem d_8_11_137 : decode prog_8_method_11_code 137 = .ok (.istore 11, 2) := by decide +kernel
theorem d_8_11_139 : decode prog_8_method_11_code 139 = .ok (.aload_n 0, 1) := by decide +kernel
theorem d_8_11_140 : decode prog_8_method_11_code 140 = .ok (.getfield 16, 3) := by decide +kernel
theorem d_8_11_143 : decode prog_8_method_11_code 143 = .ok (.iload 11, 2) := by decide +kernel
theorem d_8_11_145 : decode prog_8_method_11_code 145 = .ok (.ldc 138, 2) := by decide +kernel
set_option maxRecDepth 100000 in
theorem w_1313 : (Cond.constant "NumberHouse$Mill" (138 : Nat) (2147483647 : Int32)) ∈ q_tbl := q_of6 113 rfl (by decide +kernel)
theorem d_8_11_147 : decode prog_8_method_11_code 147 = .ok (.iand, 1) := by decide +kernel
theorem d_8_11_148 : decode prog_8_method_11_code 148 = .ok (.invokevirtual 139, 3) := by decide +kernel
set_option maxRecDepth 100000 in
theorem w_1314 : (Cond.methodLink "NumberHouse$Mill" (139 : Nat) ({ cls := "NumberHouse$Big", name := "push", desc := "(I)V" } : MethodName)) ∈ q_tbl := q_of6 114 rfl (by decide +kernel)
theorem LV_Mil_139 : q_LV "NumberHouse$Mill" 139 y_Big_push prog_2_method_6_code 2 none 1 := ⟨w_205, w_4, w_1314, w_203, w_204, ⟨by decide, by decide, by decide +kernel⟩⟩
theorem d_8_11_151 : decode prog_8_method_11_code 151 = .ok (.iload 11, 2) := by decide +kernel
theorem d_8_11_153 : decode prog_8_method_11_code 153 = .ok (.bipush 31, 2) := by decide +kernel
theorem d_8_11_155 : decode prog_8_method_11_code 155 = .ok (.iushr, 1) := by decide +kernel
theorem d_8_11_156 : decode prog_8_method_11_code 156 = .ok (.istore 8, 2) := by decide +kernel
theorem d_8_11_158 : decode prog_8_method_11_code 158 = .ok (.iinc 9 1, 3) := by decide +kernel
theorem d_8_11_161 : decode prog_8_method_11_code 161 = .ok (.goto (-73), 3) := by decide +kernel
theorem d_8_11_119 : decode prog_8_method_11_code 119 = .ok (.ifCond .eq 13, 3) := by decide +kernel
theorem d_8_11_132 : decode prog_8_method_11_code 132 = .ok (.iload 10, 2) := by decide +kernel
theorem d_8_11_122 : decode prog_8_method_11_code 122 = .ok (.iload 10, 2) := by decide +kernel
theorem d_8_11_124 : decode prog_8_method_11_code 124 = .ok (.iconst (-1), 1) := by decide +kernel
theorem d_8_11_125 : decode prog_8_method_11_code 125 = .ok (.ixor, 1) := by decide +kernel
theorem d_8_11_126 : decode prog_8_method_11_code 126 = .ok (.ldc 138, 2) := by decide +kernel
theorem d_8_11_128 : decode prog_8_method_11_code 128 = .ok (.iand, 1) := by decide +kernel
theorem d_8_11_129 : decode prog_8_method_11_code 129 = .ok (.goto 5, 3) := by decide +kernel
theorem d_8_11_68 : decode prog_8_method_11_code 68 = .ok (.ifCond .eq 7, 3) := by decide +kernel
theorem d_8_11_75 : decode prog_8_method_11_code 75 = .ok (.iconst 0, 1) := by decide +kernel
theorem d_8_11_71 : decode prog_8_method_11_code 71 = .ok (.iconst 1, 1) := by decide +kernel
theorem d_8_11_72 : decode prog_8_method_11_code 72 = .ok (.goto 4, 3) := by decide +kernel
theorem d_8_11_56 : decode prog_8_method_11_code 56 = .ok (.if_icmp .ne 7, 3) := by decide +kernel
theorem d_8_11_63 : decode prog_8_method_11_code 63 = .ok (.iconst 0, 1) := by decide +kernel
theorem d_8_11_59 : decode prog_8_method_11_code 59 = .ok (.iconst 1, 1) := by decide +kernel
theorem d_8_11_60 : decode prog_8_method_11_code 60 = .ok (.goto 4, 3) := by decide +kernel
theorem d_8_11_44 : decode prog_8_method_11_code 44 = .ok (.ifCond .eq 7, 3) := by decide +kernel
theorem d_8_11_51 : decode prog_8_method_11_code 51 = .ok (.iconst 0, 1) := by decide +kernel
theorem d_8_11_47 : decode prog_8_method_11_code 47 = .ok (.iconst 1, 1) := by decide +kernel
theorem d_8_11_48 : decode prog_8_method_11_code 48 = .ok (.goto 4, 3) := by decide +kernel
theorem d_8_11_32 : decode prog_8_method_11_code 32 = .ok (.ifCond .eq 7, 3) := by decide +kernel
theorem d_8_11_39 : decode prog_8_method_11_code 39 = .ok (.iconst 0, 1) := by decide +kernel
theorem d_8_11_35 : decode prog_8_method_11_code 35 = .ok (.iconst 1, 1) := by decide +kernel
theorem d_8_11_36 : decode prog_8_method_11_code 36 = .ok (.goto 4, 3) := by decide +kernel
def y_Mil_mixBits : MethodName := ⟨"NumberHouse$Mill", "mixBits", "(ILNumberHouse$Big;LNumberHouse$Big;)V"⟩
theorem d_8_8_0 : decode prog_8_method_8_code 0 = .ok (.aload_n 0, 1) := by decide +kernel
theorem d_8_8_1 : decode prog_8_method_8_code 1 = .ok (.getfield 23, 3) := by decide +kernel
theorem d_8_8_4 : decode prog_8_method_8_code 4 = .ok (.lconst 1, 1) := by decide +kernel
theorem d_8_8_5 : decode prog_8_method_8_code 5 = .ok (.invokevirtual 77, 3) := by decide +kernel
set_option maxRecDepth 100000 in
theorem w_766 : (Cond.methodLink "NumberHouse$Mill" (77 : Nat) ({ cls := "NumberHouse$Big", name := "setLong", desc := "(J)V" } : MethodName)) ∈ q_tbl := q_of4 46 rfl (by decide +kernel)
theorem LV_Mil_77 : q_LV "NumberHouse$Mill" 77 y_Big_setLong prog_2_method_3_code 6 none 1 := ⟨w_193, w_4, w_766, w_191, w_192, ⟨by decide, by decide, by decide +kernel⟩⟩
theorem d_8_8_8 : decode prog_8_method_8_code 8 = .ok (.iload_n 2, 1) := by decide +kernel
theorem d_8_8_9 : decode prog_8_method_8_code 9 = .ok (.invokestatic 93, 3) := by decide +kernel
set_option maxRecDepth 100000 in
theorem w_1332 : (Cond.methodLink "NumberHouse$Mill" (93 : Nat) ({ cls := "NumberHouse$Big", name := "bitsOf", desc := "(I)I" } : MethodName)) ∈ q_tbl := q_of6 132 rfl (by decide +kernel)
theorem LS_Mil_93 : q_LS "NumberHouse$Mill" 93 y_Big_bitsOf prog_2_method_13_code 2 (some .int) 1 := ⟨w_613, w_4, w_1332, w_612, ⟨by decide, by decide, by decide +kernel⟩⟩
theorem d_8_8_12 : decode prog_8_method_8_code 12 = .ok (.iconst 1, 1) := by decide +kernel
theorem d_8_8_13 : decode prog_8_method_8_code 13 = .ok (.isub, 1) := by decide +kernel
theorem d_8_8_14 : decode prog_8_method_8_code 14 = .ok (.istore 4, 2) := by decide +kernel
theorem d_8_8_16 : decode prog_8_method_8_code 16 = .ok (.iload 4, 2) := by decide +kernel
theorem d_8_8_18 : decode prog_8_method_8_code 18 = .ok (.ifCond .lt 86, 3) := by decide +kernel
theorem d_8_8_104 : decode prog_8_method_8_code 104 = .ok (.iconst 1, 1) := by decide +kernel
theorem d_8_8_105 : decode prog_8_method_8_code 105 = .ok (.ireturn, 1) := by decide +kernel
theorem d_8_8_21 : decode prog_8_method_8_code 21 = .ok (.aload_n 0, 1) := by decide +kernel
theorem d_8_8_22 : decode prog_8_method_8_code 22 = .ok (.getfield 29, 3) := by decide +kernel
theorem d_8_8_25 : decode prog_8_method_8_code 25 = .ok (.aload_n 0, 1) := by decide +kernel
theorem d_8_8_26 : decode prog_8_method_8_code 26 = .ok (.getfield 23, 3) := by decide +kernel
theorem d_8_8_29 : decode prog_8_method_8_code 29 = .ok (.aload_n 0, 1) := by decide +kernel
theorem d_8_8_30 : decode prog_8_method_8_code 30 = .ok (.getfield 23, 3) := by decide +kernel
theorem d_8_8_33 : decode prog_8_method_8_code 33 = .ok (.invokevirtual 47, 3) := by decide +kernel
theorem d_8_8_36 : decode prog_8_method_8_code 36 = .ok (.aload_n 0, 1) := by decide +kernel
theorem d_8_8_37 : decode prog_8_method_8_code 37 = .ok (.getfield 29, 3) := by decide +kernel
theorem d_8_8_40 : decode prog_8_method_8_code 40 = .ok (.invokevirtual 85, 3) := by decide +kernel
set_option maxRecDepth 100000 in
theorem w_763 : (Cond.methodLink "NumberHouse$Mill" (85 : Nat) ({ cls := "NumberHouse$Big", name := "bitLength", desc := "()I" } : MethodName)) ∈ q_tbl := q_of4 43 rfl (by decide +kernel)
theorem LV_Mil_85 : q_LV "NumberHouse$Mill" 85 y_Big_bitLength prog_2_method_12_code 1 (some .int) 0 := ⟨w_610, w_4, w_763, w_608, w_609, ⟨by decide, by decide, by decide +kernel⟩⟩
theorem d_8_8_43 : decode prog_8_method_8_code 43 = .ok (.iload_n 3, 1) := by decide +kernel
theorem d_8_8_44 : decode prog_8_method_8_code 44 = .ok (.if_icmp .le 5, 3) := by decide +kernel
theorem d_8_8_49 : decode prog_8_method_8_code 49 = .ok (.iload_n 2, 1) := by decide +kernel
theorem d_8_8_50 : decode prog_8_method_8_code 50 = .ok (.iload 4, 2) := by decide +kernel
theorem d_8_8_52 : decode prog_8_method_8_code 52 = .ok (.iushr, 1) := by decide +kernel
theorem d_8_8_53 : decode prog_8_method_8_code 53 = .ok (.iconst 1, 1) := by decide +kernel
theorem d_8_8_54 : decode prog_8_method_8_code 54 = .ok (.iand, 1) := by decide +kernel
theorem d_8_8_55 : decode prog_8_method_8_code 55 = .ok (.iconst 1, 1) := by decide +kernel
theorem d_8_8_56 : decode prog_8_method_8_code 56 = .ok (.if_icmp .ne 18, 3) := by decide +kernel
theorem d_8_8_74 : decode prog_8_method_8_code 74 = .ok (.aload_n 0, 1) := by decide +kernel
theorem d_8_8_75 : decode prog_8_method_8_code 75 = .ok (.getfield 23, 3) := by decide +kernel
theorem d_8_8_78 : decode prog_8_method_8_code 78 = .ok (.aload_n 0, 1) := by decide +kernel
theorem d_8_8_79 : decode prog_8_method_8_code 79 = .ok (.getfield 29, 3) := by decide +kernel
theorem d_8_8_82 : decode prog_8_method_8_code 82 = .ok (.invokevirtual 51, 3) := by decide +kernel
theorem d_8_8_85 : decode prog_8_method_8_code 85 = .ok (.aload_n 0, 1) := by decide +kernel
theorem d_8_8_86 : decode prog_8_method_8_code 86 = .ok (.getfield 23, 3) := by decide +kernel
theorem d_8_8_89 : decode prog_8_method_8_code 89 = .ok (.invokevirtual 85, 3) := by decide +kernel
theorem d_8_8_92 : decode prog_8_method_8_code 92 = .ok (.iload_n 3, 1) := by decide +kernel
theorem d_8_8_93 : decode prog_8_method_8_code 93 = .ok (.if_icmp .le 5, 3) := by decide +kernel
theorem d_8_8_98 : decode prog_8_method_8_code 98 = .ok (.iinc 4 (-1), 3) := by decide +kernel
theorem d_8_8_101 : decode prog_8_method_8_code 101 = .ok (.goto (-85), 3) := by decide +kernel
theorem d_8_8_96 : decode prog_8_method_8_code 96 = .ok (.iconst 0, 1) := by decide +kernel
theorem d_8_8_97 : decode prog_8_method_8_code 97 = .ok (.ireturn, 1) := by decide +kernel
theorem d_8_8_59 : decode prog_8_method_8_code 59 = .ok (.aload_n 0, 1) := by decide +kernel
theorem d_8_8_60 : decode prog_8_method_8_code 60 = .ok (.getfield 23, 3) := by decide +kernel
theorem d_8_8_63 : decode prog_8_method_8_code 63 = .ok (.aload_n 0, 1) := by decide +kernel
theorem d_8_8_64 : decode prog_8_method_8_code 64 = .ok (.getfield 29, 3) := by decide +kernel
theorem d_8_8_67 : decode prog_8_method_8_code 67 = .ok (.aload_n 1, 1) := by decide +kernel
theorem d_8_8_68 : decode prog_8_method_8_code 68 = .ok (.invokevirtual 47, 3) := by decide +kernel
theorem d_8_8_71 : decode prog_8_method_8_code 71 = .ok (.goto 14, 3) := by decide +kernel
theorem d_8_8_47 : decode prog_8_method_8_code 47 = .ok (.iconst 0, 1) := by decide +kernel
theorem d_8_8_48 : decode prog_8_method_8_code 48 = .ok (.ireturn, 1) := by decide +kernel
def y_Mil_power : MethodName := ⟨"NumberHouse$Mill", "power", "(LNumberHouse$Big;II)Z"⟩
theorem d_8_10_0 : decode prog_8_method_10_code 0 = .ok (.aload_n 0, 1) := by decide +kernel
theorem d_8_10_1 : decode prog_8_method_10_code 1 = .ok (.getfield 16, 3) := by decide +kernel
theorem d_8_10_4 : decode prog_8_method_10_code 4 = .ok (.aload_n 1, 1) := by decide +kernel
theorem d_8_10_5 : decode prog_8_method_10_code 5 = .ok (.invokevirtual 51, 3) := by decide +kernel
theorem d_8_10_8 : decode prog_8_method_10_code 8 = .ok (.iload_n 2, 1) := by decide +kernel
theorem d_8_10_9 : decode prog_8_method_10_code 9 = .ok (.ifCond .lt 29, 3) := by decide +kernel
theorem d_8_10_38 : decode prog_8_method_10_code 38 = .ok (.iload_n 2, 1) := by decide +kernel
theorem d_8_10_39 : decode prog_8_method_10_code 39 = .ok (.sipush (-2048), 3) := by decide +kernel
theorem d_8_10_53 : decode prog_8_method_10_code 53 = .ok (.istore_n 3, 1) := by decide +kernel
theorem d_8_10_54 : decode prog_8_method_10_code 54 = .ok (.aload_n 0, 1) := by decide +kernel
theorem d_8_10_55 : decode prog_8_method_10_code 55 = .ok (.getfield 16, 3) := by decide +kernel
theorem d_8_10_58 : decode prog_8_method_10_code 58 = .ok (.iload_n 3, 1) := by decide +kernel
theorem d_8_10_59 : decode prog_8_method_10_code 59 = .ok (.invokevirtual 116, 3) := by decide +kernel
set_option maxRecDepth 100000 in
theorem w_1062 : (Cond.code ({ cls := "NumberHouse$Big", name := "shiftRight", desc := "(I)Z" } : MethodName) prog_2_method_33_code (7 : Nat) (some .boolean)) ∈ q_tbl := q_of5 102 rfl (by decide +kernel)
set_option maxRecDepth 100000 in
theorem w_1345 : (Cond.methodLink "NumberHouse$Mill" (116 : Nat) ({ cls := "NumberHouse$Big", name := "shiftRight", desc := "(I)Z" } : MethodName)) ∈ q_tbl := q_of6 145 rfl (by decide +kernel)
set_option maxRecDepth 100000 in
theorem w_1060 : (Cond.instanceMethod ({ cls := "NumberHouse$Big", name := "shiftRight", desc := "(I)Z" } : MethodName)) ∈ q_tbl := q_of5 100 rfl (by decide +kernel)
set_option maxRecDepth 100000 in
theorem w_1061 : (Cond.selects "NumberHouse$Big" ({ cls := "NumberHouse$Big", name := "shiftRight", desc := "(I)Z" } : MethodName) ({ cls := "NumberHouse$Big", name := "shiftRight", desc := "(I)Z" } : MethodName)) ∈ q_tbl := q_of5 101 rfl (by decide +kernel)
theorem LV_Mil_116 : q_LV "NumberHouse$Mill" 116 y_Big_shiftRight prog_2_method_33_code 7 (some .boolean) 1 := ⟨w_1062, w_4, w_1345, w_1060, w_1061, ⟨by decide, by decide, by decide +kernel⟩⟩
theorem d_8_10_62 : decode prog_8_method_10_code 62 = .ok (.ifCond .eq 32, 3) := by decide +kernel
theorem d_8_10_94 : decode prog_8_method_10_code 94 = .ok (.iconst 1, 1) := by decide +kernel
theorem d_8_10_95 : decode prog_8_method_10_code 95 = .ok (.ireturn, 1) := by decide +kernel
theorem d_8_10_65 : decode prog_8_method_10_code 65 = .ok (.aload_n 1, 1) := by decide +kernel
theorem d_8_10_66 : decode prog_8_method_10_code 66 = .ok (.getfield 66, 3) := by decide +kernel
theorem d_8_10_69 : decode prog_8_method_10_code 69 = .ok (.ifCond .eq 25, 3) := by decide +kernel
theorem d_8_10_72 : decode prog_8_method_10_code 72 = .ok (.aload_n 0, 1) := by decide +kernel
theorem d_8_10_73 : decode prog_8_method_10_code 73 = .ok (.getfield 38, 3) := by decide +kernel
theorem d_8_10_76 : decode prog_8_method_10_code 76 = .ok (.ldc2_w 120, 3) := by decide +kernel
set_option maxRecDepth 100000 in
theorem w_1346 : (Cond.constantLong "NumberHouse$Mill" (120 : Nat) (-1 : Int64)) ∈ q_tbl := q_of6 146 rfl (by decide +kernel)
theorem d_8_10_79 : decode prog_8_method_10_code 79 = .ok (.invokevirtual 77, 3) := by decide +kernel
theorem d_8_10_82 : decode prog_8_method_10_code 82 = .ok (.aload_n 0, 1) := by decide +kernel
theorem d_8_10_83 : decode prog_8_method_10_code 83 = .ok (.getfield 16, 3) := by decide +kernel
theorem d_8_10_86 : decode prog_8_method_10_code 86 = .ok (.aload_n 0, 1) := by decide +kernel
theorem d_8_10_87 : decode prog_8_method_10_code 87 = .ok (.getfield 38, 3) := by decide +kernel
theorem d_8_10_90 : decode prog_8_method_10_code 90 = .ok (.iconst 0, 1) := by decide +kernel
theorem d_8_10_91 : decode prog_8_method_10_code 91 = .ok (.invokevirtual 55, 3) := by decide +kernel
theorem d_8_10_42 : decode prog_8_method_10_code 42 = .ok (.if_icmp .ge 9, 3) := by decide +kernel
theorem d_8_10_51 : decode prog_8_method_10_code 51 = .ok (.iload_n 2, 1) := by decide +kernel
theorem d_8_10_52 : decode prog_8_method_10_code 52 = .ok (.ineg, 1) := by decide +kernel
theorem d_8_10_45 : decode prog_8_method_10_code 45 = .ok (.sipush 2048, 3) := by decide +kernel
theorem d_8_10_48 : decode prog_8_method_10_code 48 = .ok (.goto 5, 3) := by decide +kernel
theorem d_8_10_12 : decode prog_8_method_10_code 12 = .ok (.aload_n 1, 1) := by decide +kernel
theorem d_8_10_13 : decode prog_8_method_10_code 13 = .ok (.getfield 62, 3) := by decide +kernel
theorem d_8_10_16 : decode prog_8_method_10_code 16 = .ok (.ifCond .le 12, 3) := by decide +kernel
theorem d_8_10_28 : decode prog_8_method_10_code 28 = .ok (.aload_n 0, 1) := by decide +kernel
theorem d_8_10_29 : decode prog_8_method_10_code 29 = .ok (.getfield 16, 3) := by decide +kernel
theorem d_8_10_32 : decode prog_8_method_10_code 32 = .ok (.iload_n 2, 1) := by decide +kernel
theorem d_8_10_33 : decode prog_8_method_10_code 33 = .ok (.invokevirtual 96, 3) := by decide +kernel
set_option maxRecDepth 100000 in
theorem w_808 : (Cond.code ({ cls := "NumberHouse$Big", name := "shiftLeft", desc := "(I)V" } : MethodName) prog_2_method_32_code (6 : Nat) (none : Option ClassFile.FieldType)) ∈ q_tbl := q_of4 88 rfl (by decide +kernel)
set_option maxRecDepth 100000 in
theorem w_1337 : (Cond.methodLink "NumberHouse$Mill" (96 : Nat) ({ cls := "NumberHouse$Big", name := "shiftLeft", desc := "(I)V" } : MethodName)) ∈ q_tbl := q_of6 137 rfl (by decide +kernel)
set_option maxRecDepth 100000 in
theorem w_806 : (Cond.instanceMethod ({ cls := "NumberHouse$Big", name := "shiftLeft", desc := "(I)V" } : MethodName)) ∈ q_tbl := q_of4 86 rfl (by decide +kernel)
set_option maxRecDepth 100000 in
theorem w_807 : (Cond.selects "NumberHouse$Big" ({ cls := "NumberHouse$Big", name := "shiftLeft", desc := "(I)V" } : MethodName) ({ cls := "NumberHouse$Big", name := "shiftLeft", desc := "(I)V" } : MethodName)) ∈ q_tbl := q_of4 87 rfl (by decide +kernel)
theorem LV_Mil_96 : q_LV "NumberHouse$Mill" 96 y_Big_shiftLeft prog_2_method_32_code 6 none 1 := ⟨w_808, w_4, w_1337, w_806, w_807, ⟨by decide, by decide, by decide +kernel⟩⟩
theorem d_8_10_36 : decode prog_8_method_10_code 36 = .ok (.iconst 1, 1) := by decide +kernel
theorem d_8_10_37 : decode prog_8_method_10_code 37 = .ok (.ireturn, 1) := by decide +kernel
theorem d_8_10_19 : decode prog_8_method_10_code 19 = .ok (.iload_n 2, 1) := by decide +kernel
theorem d_8_10_20 : decode prog_8_method_10_code 20 = .ok (.sipush 2048, 3) := by decide +kernel
theorem d_8_10_23 : decode prog_8_method_10_code 23 = .ok (.if_icmp .le 5, 3) := by decide +kernel
theorem d_8_10_26 : decode prog_8_method_10_code 26 = .ok (.iconst 0, 1) := by decide +kernel
theorem d_8_10_27 : decode prog_8_method_10_code 27 = .ok (.ireturn, 1) := by decide +kernel
def y_Mil_shifted : MethodName := ⟨"NumberHouse$Mill", "shifted", "(LNumberHouse$Big;I)Z"⟩
theorem d_8_13_0 : decode prog_8_method_13_code 0 = .ok (.aload_n 1, 1) := by decide +kernel
theorem d_8_13_1 : decode prog_8_method_13_code 1 = .ok (.getfield 62, 3) := by decide +kernel
theorem d_8_13_4 : decode prog_8_method_13_code 4 = .ok (.ifCond .ne 5, 3) := by decide +kernel
theorem d_8_13_9 : decode prog_8_method_13_code 9 = .ok (.aload_n 1, 1) := by decide +kernel
theorem d_8_13_10 : decode prog_8_method_13_code 10 = .ok (.invokevirtual 85, 3) := by decide +kernel
theorem d_8_13_13 : decode prog_8_method_13_code 13 = .ok (.iconst 1, 1) := by decide +kernel
theorem d_8_13_14 : decode prog_8_method_13_code 14 = .ok (.isub, 1) := by decide +kernel
theorem d_8_13_15 : decode prog_8_method_13_code 15 = .ok (.i2l, 1) := by decide +kernel
theorem d_8_13_16 : decode prog_8_method_13_code 16 = .ok (.ldc2_w 145, 3) := by decide +kernel
set_option maxRecDepth 100000 in
theorem w_764 : (Cond.constantLong "NumberHouse$Mill" (145 : Nat) (301029995 : Int64)) ∈ q_tbl := q_of4 44 rfl (by decide +kernel)
theorem d_8_13_19 : decode prog_8_method_13_code 19 = .ok (.lmul, 1) := by decide +kernel
theorem d_8_13_20 : decode prog_8_method_13_code 20 = .ok (.ldc2_w 147, 3) := by decide +kernel
set_option maxRecDepth 100000 in
theorem w_765 : (Cond.constantLong "NumberHouse$Mill" (147 : Nat) (1000000000 : Int64)) ∈ q_tbl := q_of4 45 rfl (by decide +kernel)
theorem d_8_13_23 : decode prog_8_method_13_code 23 = .ok (.ldiv, 1) := by decide +kernel
theorem d_8_13_24 : decode prog_8_method_13_code 24 = .ok (.l2i, 1) := by decide +kernel
theorem d_8_13_25 : decode prog_8_method_13_code 25 = .ok (.iconst 1, 1) := by decide +kernel
theorem d_8_13_26 : decode prog_8_method_13_code 26 = .ok (.iadd, 1) := by decide +kernel
theorem d_8_13_27 : decode prog_8_method_13_code 27 = .ok (.istore_n 2, 1) := by decide +kernel
theorem d_8_13_28 : decode prog_8_method_13_code 28 = .ok (.aload_n 0, 1) := by decide +kernel
theorem d_8_13_29 : decode prog_8_method_13_code 29 = .ok (.getfield 32, 3) := by decide +kernel
theorem d_8_13_32 : decode prog_8_method_13_code 32 = .ok (.lconst 1, 1) := by decide +kernel
theorem d_8_13_33 : decode prog_8_method_13_code 33 = .ok (.invokevirtual 77, 3) := by decide +kernel
theorem d_8_13_36 : decode prog_8_method_13_code 36 = .ok (.aload_n 0, 1) := by decide +kernel
theorem d_8_13_37 : decode prog_8_method_13_code 37 = .ok (.getfield 32, 3) := by decide +kernel
theorem d_8_13_40 : decode prog_8_method_13_code 40 = .ok (.iload_n 2, 1) := by decide +kernel
theorem d_8_13_41 : decode prog_8_method_13_code 41 = .ok (.invokevirtual 149, 3) := by decide +kernel
set_option maxRecDepth 100000 in
theorem w_770 : (Cond.code ({ cls := "NumberHouse$Big", name := "timesTen", desc := "(I)V" } : MethodName) prog_2_method_28_code (3 : Nat) (none : Option ClassFile.FieldType)) ∈ q_tbl := q_of4 50 rfl (by decide +kernel)
set_option maxRecDepth 100000 in
theorem w_767 : (Cond.methodLink "NumberHouse$Mill" (149 : Nat) ({ cls := "NumberHouse$Big", name := "timesTen", desc := "(I)V" } : MethodName)) ∈ q_tbl := q_of4 47 rfl (by decide +kernel)
set_option maxRecDepth 100000 in
theorem w_768 : (Cond.instanceMethod ({ cls := "NumberHouse$Big", name := "timesTen", desc := "(I)V" } : MethodName)) ∈ q_tbl := q_of4 48 rfl (by decide +kernel)
set_option maxRecDepth 100000 in
theorem w_769 : (Cond.selects "NumberHouse$Big" ({ cls := "NumberHouse$Big", name := "timesTen", desc := "(I)V" } : MethodName) ({ cls := "NumberHouse$Big", name := "timesTen", desc := "(I)V" } : MethodName)) ∈ q_tbl := q_of4 49 rfl (by decide +kernel)
theorem LV_Mil_149 : q_LV "NumberHouse$Mill" 149 y_Big_timesTen prog_2_method_28_code 3 none 1 := ⟨w_770, w_4, w_767, w_768, w_769, ⟨by decide, by decide, by decide +kernel⟩⟩
theorem d_8_13_44 : decode prog_8_method_13_code 44 = .ok (.iconst 0, 1) := by decide +kernel
theorem d_8_13_45 : decode prog_8_method_13_code 45 = .ok (.istore_n 3, 1) := by decide +kernel
theorem d_8_13_46 : decode prog_8_method_13_code 46 = .ok (.iload_n 3, 1) := by decide +kernel
theorem d_8_13_47 : decode prog_8_method_13_code 47 = .ok (.iconst 3, 1) := by decide +kernel
theorem d_8_13_48 : decode prog_8_method_13_code 48 = .ok (.if_icmp .ge 33, 3) := by decide +kernel
theorem d_8_13_81 : decode prog_8_method_13_code 81 = .ok (.iload_n 2, 1) := by decide +kernel
theorem d_8_13_82 : decode prog_8_method_13_code 82 = .ok (.ireturn, 1) := by decide +kernel
theorem d_8_13_51 : decode prog_8_method_13_code 51 = .ok (.aload_n 1, 1) := by decide +kernel
theorem d_8_13_52 : decode prog_8_method_13_code 52 = .ok (.aload_n 0, 1) := by decide +kernel
theorem d_8_13_53 : decode prog_8_method_13_code 53 = .ok (.getfield 32, 3) := by decide +kernel
theorem d_8_13_56 : decode prog_8_method_13_code 56 = .ok (.invokevirtual 112, 3) := by decide +kernel
set_option maxRecDepth 100000 in
theorem w_777 : (Cond.methodLink "NumberHouse$Mill" (112 : Nat) ({ cls := "NumberHouse$Big", name := "compareSize", desc := "(LNumberHouse$Big;)I" } : MethodName)) ∈ q_tbl := q_of4 57 rfl (by decide +kernel)
theorem LV_Mil_112 : q_LV "NumberHouse$Mill" 112 y_Big_compareSize prog_2_method_21_code 3 (some .int) 1 := ⟨w_780, w_4, w_777, w_778, w_779, ⟨by decide, by decide, by decide +kernel⟩⟩
theorem d_8_13_59 : decode prog_8_method_13_code 59 = .ok (.ifCond .lt 22, 3) := by decide +kernel
theorem d_8_13_62 : decode prog_8_method_13_code 62 = .ok (.aload_n 0, 1) := by decide +kernel
theorem d_8_13_63 : decode prog_8_method_13_code 63 = .ok (.getfield 32, 3) := by decide +kernel
theorem d_8_13_66 : decode prog_8_method_13_code 66 = .ok (.bipush 10, 2) := by decide +kernel
theorem d_8_13_68 : decode prog_8_method_13_code 68 = .ok (.iconst 0, 1) := by decide +kernel
theorem d_8_13_69 : decode prog_8_method_13_code 69 = .ok (.invokevirtual 102, 3) := by decide +kernel
set_option maxRecDepth 100000 in
theorem w_784 : (Cond.methodLink "NumberHouse$Mill" (102 : Nat) ({ cls := "NumberHouse$Big", name := "multiplySmall", desc := "(II)V" } : MethodName)) ∈ q_tbl := q_of4 64 rfl (by decide +kernel)
theorem LV_Mil_102 : q_LV "NumberHouse$Mill" 102 y_Big_multiplySmall prog_2_method_26_code 8 none 2 := ⟨w_606, w_4, w_784, w_604, w_605, ⟨by decide, by decide, by decide +kernel⟩⟩
theorem d_8_13_72 : decode prog_8_method_13_code 72 = .ok (.iinc 2 1, 3) := by decide +kernel
theorem d_8_13_75 : decode prog_8_method_13_code 75 = .ok (.iinc 3 1, 3) := by decide +kernel
theorem d_8_13_78 : decode prog_8_method_13_code 78 = .ok (.goto (-32), 3) := by decide +kernel
theorem d_8_13_7 : decode prog_8_method_13_code 7 = .ok (.iconst 1, 1) := by decide +kernel
theorem d_8_13_8 : decode prog_8_method_13_code 8 = .ok (.ireturn, 1) := by decide +kernel
def y_Mil_countFigures : MethodName := ⟨"NumberHouse$Mill", "countFigures", "(LNumberHouse$Big;)I"⟩
theorem d_8_14_0 : decode prog_8_method_14_code 0 = .ok (.iconst 0, 1) := by decide +kernel
theorem d_8_14_1 : decode prog_8_method_14_code 1 = .ok (.istore 4, 2) := by decide +kernel
theorem d_8_14_3 : decode prog_8_method_14_code 3 = .ok (.iload 4, 2) := by decide +kernel
theorem d_8_14_5 : decode prog_8_method_14_code 5 = .ok (.i2l, 1) := by decide +kernel
theorem d_8_14_6 : decode prog_8_method_14_code 6 = .ok (.lload_n 2, 1) := by decide +kernel
theorem d_8_14_7 : decode prog_8_method_14_code 7 = .ok (.lcmp, 1) := by decide +kernel
theorem d_8_14_8 : decode prog_8_method_14_code 8 = .ok (.ifCond .ge 55, 3) := by decide +kernel
theorem d_8_14_63 : decode prog_8_method_14_code 63 = .ok (.iload 4, 2) := by decide +kernel
theorem d_8_14_65 : decode prog_8_method_14_code 65 = .ok (.ireturn, 1) := by decide +kernel
theorem d_8_14_11 : decode prog_8_method_14_code 11 = .ok (.aload_n 1, 1) := by decide +kernel
theorem d_8_14_12 : decode prog_8_method_14_code 12 = .ok (.getfield 62, 3) := by decide +kernel
theorem d_8_14_15 : decode prog_8_method_14_code 15 = .ok (.ifCond .le 48, 3) := by decide +kernel
theorem d_8_14_18 : decode prog_8_method_14_code 18 = .ok (.iload 4, 2) := by decide +kernel
theorem d_8_14_20 : decode prog_8_method_14_code 20 = .ok (.sipush 10000, 3) := by decide +kernel
theorem d_8_14_23 : decode prog_8_method_14_code 23 = .ok (.if_icmp .ge 40, 3) := by decide +kernel
theorem d_8_14_26 : decode prog_8_method_14_code 26 = .ok (.aload_n 0, 1) := by decide +kernel
theorem d_8_14_27 : decode prog_8_method_14_code 27 = .ok (.getfield 32, 3) := by decide +kernel
theorem d_8_14_30 : decode prog_8_method_14_code 30 = .ok (.aload_n 1, 1) := by decide +kernel
theorem d_8_14_31 : decode prog_8_method_14_code 31 = .ok (.invokevirtual 51, 3) := by decide +kernel
theorem d_8_14_34 : decode prog_8_method_14_code 34 = .ok (.aload_n 0, 1) := by decide +kernel
theorem d_8_14_35 : decode prog_8_method_14_code 35 = .ok (.getfield 32, 3) := by decide +kernel
theorem d_8_14_38 : decode prog_8_method_14_code 38 = .ok (.bipush 10, 2) := by decide +kernel
theorem d_8_14_40 : decode prog_8_method_14_code 40 = .ok (.invokevirtual 109, 3) := by decide +kernel
set_option maxRecDepth 100000 in
theorem w_1340 : (Cond.methodLink "NumberHouse$Mill" (109 : Nat) ({ cls := "NumberHouse$Big", name := "divideSmall", desc := "(I)I" } : MethodName)) ∈ q_tbl := q_of6 140 rfl (by decide +kernel)
theorem LV_Mil_109 : q_LV "NumberHouse$Mill" 109 y_Big_divideSmall prog_2_method_27_code 8 (some .int) 1 := ⟨w_1042, w_4, w_1340, w_1040, w_1041, ⟨by decide, by decide, by decide +kernel⟩⟩
theorem d_8_14_43 : decode prog_8_method_14_code 43 = .ok (.ifCond .eq 6, 3) := by decide +kernel
theorem d_8_14_49 : decode prog_8_method_14_code 49 = .ok (.aload_n 1, 1) := by decide +kernel
theorem d_8_14_50 : decode prog_8_method_14_code 50 = .ok (.aload_n 0, 1) := by decide +kernel
theorem d_8_14_51 : decode prog_8_method_14_code 51 = .ok (.getfield 32, 3) := by decide +kernel
theorem d_8_14_54 : decode prog_8_method_14_code 54 = .ok (.invokevirtual 51, 3) := by decide +kernel
theorem d_8_14_57 : decode prog_8_method_14_code 57 = .ok (.iinc 4 1, 3) := by decide +kernel
theorem d_8_14_60 : decode prog_8_method_14_code 60 = .ok (.goto (-57), 3) := by decide +kernel
theorem d_8_14_46 : decode prog_8_method_14_code 46 = .ok (.goto 17, 3) := by decide +kernel
def y_Mil_dropZeros : MethodName := ⟨"NumberHouse$Mill", "dropZeros", "(LNumberHouse$Big;J)I"⟩
theorem d_7_2_0 : decode prog_7_method_2_code 0 = .ok (.lload_n 1, 1) := by decide +kernel
theorem d_7_2_1 : decode prog_7_method_2_code 1 = .ok (.aload_n 0, 1) := by decide +kernel
theorem d_7_2_2 : decode prog_7_method_2_code 2 = .ok (.getfield 7, 3) := by decide +kernel
theorem d_7_2_5 : decode prog_7_method_2_code 5 = .ok (.lushr, 1) := by decide +kernel
theorem d_7_2_6 : decode prog_7_method_2_code 6 = .ok (.l2i, 1) := by decide +kernel
theorem d_7_2_7 : decode prog_7_method_2_code 7 = .ok (.aload_n 0, 1) := by decide +kernel
theorem d_7_2_8 : decode prog_7_method_2_code 8 = .ok (.getfield 16, 3) := by decide +kernel
theorem d_7_2_11 : decode prog_7_method_2_code 11 = .ok (.iand, 1) := by decide +kernel
theorem d_7_2_12 : decode prog_7_method_2_code 12 = .ok (.ireturn, 1) := by decide +kernel
def y_Flo_exponent : MethodName := ⟨"NumberHouse$Floats", "exponent", "(J)I"⟩
theorem d_7_3_0 : decode prog_7_method_3_code 0 = .ok (.lload_n 1, 1) := by decide +kernel
theorem d_7_3_1 : decode prog_7_method_3_code 1 = .ok (.lconst 1, 1) := by decide +kernel
theorem d_7_3_2 : decode prog_7_method_3_code 2 = .ok (.aload_n 0, 1) := by decide +kernel
theorem d_7_3_3 : decode prog_7_method_3_code 3 = .ok (.getfield 7, 3) := by decide +kernel
theorem d_7_3_6 : decode prog_7_method_3_code 6 = .ok (.lshl, 1) := by decide +kernel
theorem d_7_3_7 : decode prog_7_method_3_code 7 = .ok (.lconst 1, 1) := by decide +kernel
theorem d_7_3_8 : decode prog_7_method_3_code 8 = .ok (.lsub, 1) := by decide +kernel
theorem d_7_3_9 : decode prog_7_method_3_code 9 = .ok (.land, 1) := by decide +kernel
theorem d_7_3_10 : decode prog_7_method_3_code 10 = .ok (.lreturn, 1) := by decide +kernel
def y_Flo_fraction : MethodName := ⟨"NumberHouse$Floats", "fraction", "(J)J"⟩
theorem d_7_8_0 : decode prog_7_method_8_code 0 = .ok (.iload_n 1, 1) := by decide +kernel
theorem d_7_8_1 : decode prog_7_method_8_code 1 = .ok (.ifCond .eq 18, 3) := by decide +kernel
theorem d_7_8_19 : decode prog_7_method_8_code 19 = .ok (.lconst 0, 1) := by decide +kernel
theorem d_7_8_20 : decode prog_7_method_8_code 20 = .ok (.lreturn, 1) := by decide +kernel
theorem d_7_8_4 : decode prog_7_method_8_code 4 = .ok (.aload_n 0, 1) := by decide +kernel
theorem d_7_8_5 : decode prog_7_method_8_code 5 = .ok (.getfield 16, 3) := by decide +kernel
theorem d_7_8_8 : decode prog_7_method_8_code 8 = .ok (.i2l, 1) := by decide +kernel
theorem d_7_8_9 : decode prog_7_method_8_code 9 = .ok (.lconst 1, 1) := by decide +kernel
theorem d_7_8_10 : decode prog_7_method_8_code 10 = .ok (.ladd, 1) := by decide +kernel
theorem d_7_8_11 : decode prog_7_method_8_code 11 = .ok (.aload_n 0, 1) := by decide +kernel
theorem d_7_8_12 : decode prog_7_method_8_code 12 = .ok (.getfield 7, 3) := by decide +kernel
theorem d_7_8_15 : decode prog_7_method_8_code 15 = .ok (.lshl, 1) := by decide +kernel
theorem d_7_8_16 : decode prog_7_method_8_code 16 = .ok (.goto 4, 3) := by decide +kernel
def y_Flo_signBit : MethodName := ⟨"NumberHouse$Floats", "signBit", "(Z)J"⟩
theorem d_7_4_0 : decode prog_7_method_4_code 0 = .ok (.lload_n 1, 1) := by decide +kernel
theorem d_7_4_1 : decode prog_7_method_4_code 1 = .ok (.aload_n 0, 1) := by decide +kernel
theorem d_7_4_2 : decode prog_7_method_4_code 2 = .ok (.iconst 1, 1) := by decide +kernel
theorem d_7_4_3 : decode prog_7_method_4_code 3 = .ok (.invokevirtual 23, 3) := by decide +kernel
set_option maxRecDepth 100000 in
theorem w_714 : (Cond.code ({ cls := "NumberHouse$Floats", name := "signBit", desc := "(Z)J" } : MethodName) prog_7_method_8_code (2 : Nat) (some .long)) ∈ q_tbl := q_of3 234 rfl (by decide +kernel)
set_option maxRecDepth 100000 in
theorem w_1240 : (Cond.methodLink "NumberHouse$Floats" (23 : Nat) ({ cls := "NumberHouse$Floats", name := "signBit", desc := "(Z)J" } : MethodName)) ∈ q_tbl := q_of6 40 rfl (by decide +kernel)
set_option maxRecDepth 100000 in
theorem w_712 : (Cond.instanceMethod ({ cls := "NumberHouse$Floats", name := "signBit", desc := "(Z)J" } : MethodName)) ∈ q_tbl := q_of3 232 rfl (by decide +kernel)
set_option maxRecDepth 100000 in
theorem w_713 : (Cond.selects "NumberHouse$Floats" ({ cls := "NumberHouse$Floats", name := "signBit", desc := "(Z)J" } : MethodName) ({ cls := "NumberHouse$Floats", name := "signBit", desc := "(Z)J" } : MethodName)) ∈ q_tbl := q_of3 233 rfl (by decide +kernel)
theorem LV_Flo_23 : q_LV "NumberHouse$Floats" 23 y_Flo_signBit prog_7_method_8_code 2 (some .long) 1 := ⟨w_714, w_8, w_1240, w_712, w_713, ⟨by decide, by decide, by decide +kernel⟩⟩
theorem d_7_4_6 : decode prog_7_method_4_code 6 = .ok (.land, 1) := by decide +kernel
theorem d_7_4_7 : decode prog_7_method_4_code 7 = .ok (.lconst 0, 1) := by decide +kernel
theorem d_7_4_8 : decode prog_7_method_4_code 8 = .ok (.lcmp, 1) := by decide +kernel
theorem d_7_4_9 : decode prog_7_method_4_code 9 = .ok (.ifCond .eq 7, 3) := by decide +kernel
theorem d_7_4_16 : decode prog_7_method_4_code 16 = .ok (.iconst 0, 1) := by decide +kernel
theorem d_7_4_17 : decode prog_7_method_4_code 17 = .ok (.ireturn, 1) := by decide +kernel
theorem d_7_4_12 : decode prog_7_method_4_code 12 = .ok (.iconst 1, 1) := by decide +kernel
theorem d_7_4_13 : decode prog_7_method_4_code 13 = .ok (.goto 4, 3) := by decide +kernel
def y_Flo_isNegative : MethodName := ⟨"NumberHouse$Floats", "isNegative", "(J)Z"⟩
theorem d_7_5_0 : decode prog_7_method_5_code 0 = .ok (.aload_n 0, 1) := by decide +kernel
theorem d_7_5_1 : decode prog_7_method_5_code 1 = .ok (.lload_n 1, 1) := by decide +kernel
theorem d_7_5_2 : decode prog_7_method_5_code 2 = .ok (.invokevirtual 27, 3) := by decide +kernel
set_option maxRecDepth 100000 in
theorem w_1159 : (Cond.code ({ cls := "NumberHouse$Floats", name := "exponent", desc := "(J)I" } : MethodName) prog_7_method_2_code (3 : Nat) (some .int)) ∈ q_tbl := q_of5 199 rfl (by decide +kernel)
set_option maxRecDepth 100000 in
theorem w_1156 : (Cond.methodLink "NumberHouse$Floats" (27 : Nat) ({ cls := "NumberHouse$Floats", name := "exponent", desc := "(J)I" } : MethodName)) ∈ q_tbl := q_of5 196 rfl (by decide +kernel)
set_option maxRecDepth 100000 in
theorem w_1157 : (Cond.instanceMethod ({ cls := "NumberHouse$Floats", name := "exponent", desc := "(J)I" } : MethodName)) ∈ q_tbl := q_of5 197 rfl (by decide +kernel)
set_option maxRecDepth 100000 in
theorem w_1158 : (Cond.selects "NumberHouse$Floats" ({ cls := "NumberHouse$Floats", name := "exponent", desc := "(J)I" } : MethodName) ({ cls := "NumberHouse$Floats", name := "exponent", desc := "(J)I" } : MethodName)) ∈ q_tbl := q_of5 198 rfl (by decide +kernel)
theorem LV_Flo_27 : q_LV "NumberHouse$Floats" 27 y_Flo_exponent prog_7_method_2_code 3 (some .int) 1 := ⟨w_1159, w_8, w_1156, w_1157, w_1158, ⟨by decide, by decide, by decide +kernel⟩⟩
theorem d_7_5_5 : decode prog_7_method_5_code 5 = .ok (.aload_n 0, 1) := by decide +kernel
theorem d_7_5_6 : decode prog_7_method_5_code 6 = .ok (.getfield 16, 3) := by decide +kernel
theorem d_7_5_9 : decode prog_7_method_5_code 9 = .ok (.if_icmp .eq 7, 3) := by decide +kernel
theorem d_7_5_16 : decode prog_7_method_5_code 16 = .ok (.iconst 0, 1) := by decide +kernel
theorem d_7_5_17 : decode prog_7_method_5_code 17 = .ok (.ireturn, 1) := by decide +kernel
theorem d_7_5_12 : decode prog_7_method_5_code 12 = .ok (.iconst 1, 1) := by decide +kernel
theorem d_7_5_13 : decode prog_7_method_5_code 13 = .ok (.goto 4, 3) := by decide +kernel
def y_Flo_isFinite : MethodName := ⟨"NumberHouse$Floats", "isFinite", "(J)Z"⟩
theorem d_7_6_0 : decode prog_7_method_6_code 0 = .ok (.aload_n 0, 1) := by decide +kernel
theorem d_7_6_1 : decode prog_7_method_6_code 1 = .ok (.lload_n 1, 1) := by decide +kernel
theorem d_7_6_2 : decode prog_7_method_6_code 2 = .ok (.invokevirtual 31, 3) := by decide +kernel
set_option maxRecDepth 100000 in
theorem w_1155 : (Cond.code ({ cls := "NumberHouse$Floats", name := "isFinite", desc := "(J)Z" } : MethodName) prog_7_method_5_code (3 : Nat) (some .boolean)) ∈ q_tbl := q_of5 195 rfl (by decide +kernel)
set_option maxRecDepth 100000 in
theorem w_1235 : (Cond.methodLink "NumberHouse$Floats" (31 : Nat) ({ cls := "NumberHouse$Floats", name := "isFinite", desc := "(J)Z" } : MethodName)) ∈ q_tbl := q_of6 35 rfl (by decide +kernel)
set_option maxRecDepth 100000 in
theorem w_1153 : (Cond.instanceMethod ({ cls := "NumberHouse$Floats", name := "isFinite", desc := "(J)Z" } : MethodName)) ∈ q_tbl := q_of5 193 rfl (by decide +kernel)
set_option maxRecDepth 100000 in
theorem w_1154 : (Cond.selects "NumberHouse$Floats" ({ cls := "NumberHouse$Floats", name := "isFinite", desc := "(J)Z" } : MethodName) ({ cls := "NumberHouse$Floats", name := "isFinite", desc := "(J)Z" } : MethodName)) ∈ q_tbl := q_of5 194 rfl (by decide +kernel)
theorem LV_Flo_31 : q_LV "NumberHouse$Floats" 31 y_Flo_isFinite prog_7_method_5_code 3 (some .boolean) 1 := ⟨w_1155, w_8, w_1235, w_1153, w_1154, ⟨by decide, by decide, by decide +kernel⟩⟩
theorem d_7_6_5 : decode prog_7_method_6_code 5 = .ok (.ifCond .ne 17, 3) := by decide +kernel
theorem d_7_6_22 : decode prog_7_method_6_code 22 = .ok (.iconst 0, 1) := by decide +kernel
theorem d_7_6_23 : decode prog_7_method_6_code 23 = .ok (.ireturn, 1) := by decide +kernel
theorem d_7_6_8 : decode prog_7_method_6_code 8 = .ok (.aload_n 0, 1) := by decide +kernel
theorem d_7_6_9 : decode prog_7_method_6_code 9 = .ok (.lload_n 1, 1) := by decide +kernel
theorem d_7_6_10 : decode prog_7_method_6_code 10 = .ok (.invokevirtual 35, 3) := by decide +kernel
set_option maxRecDepth 100000 in
theorem w_1171 : (Cond.code ({ cls := "NumberHouse$Floats", name := "fraction", desc := "(J)J" } : MethodName) prog_7_method_3_code (3 : Nat) (some .long)) ∈ q_tbl := q_of5 211 rfl (by decide +kernel)
set_option maxRecDepth 100000 in
theorem w_1168 : (Cond.methodLink "NumberHouse$Floats" (35 : Nat) ({ cls := "NumberHouse$Floats", name := "fraction", desc := "(J)J" } : MethodName)) ∈ q_tbl := q_of5 208 rfl (by decide +kernel)
set_option maxRecDepth 100000 in
theorem w_1169 : (Cond.instanceMethod ({ cls := "NumberHouse$Floats", name := "fraction", desc := "(J)J" } : MethodName)) ∈ q_tbl := q_of5 209 rfl (by decide +kernel)
set_option maxRecDepth 100000 in
theorem w_1170 : (Cond.selects "NumberHouse$Floats" ({ cls := "NumberHouse$Floats", name := "fraction", desc := "(J)J" } : MethodName) ({ cls := "NumberHouse$Floats", name := "fraction", desc := "(J)J" } : MethodName)) ∈ q_tbl := q_of5 210 rfl (by decide +kernel)
theorem LV_Flo_35 : q_LV "NumberHouse$Floats" 35 y_Flo_fraction prog_7_method_3_code 3 (some .long) 1 := ⟨w_1171, w_8, w_1168, w_1169, w_1170, ⟨by decide, by decide, by decide +kernel⟩⟩
theorem d_7_6_13 : decode prog_7_method_6_code 13 = .ok (.lconst 0, 1) := by decide +kernel
theorem d_7_6_14 : decode prog_7_method_6_code 14 = .ok (.lcmp, 1) := by decide +kernel
theorem d_7_6_15 : decode prog_7_method_6_code 15 = .ok (.ifCond .eq 7, 3) := by decide +kernel
theorem d_7_6_18 : decode prog_7_method_6_code 18 = .ok (.iconst 1, 1) := by decide +kernel
theorem d_7_6_19 : decode prog_7_method_6_code 19 = .ok (.goto 4, 3) := by decide +kernel
def y_Flo_isNoNumber : MethodName := ⟨"NumberHouse$Floats", "isNoNumber", "(J)Z"⟩
theorem d_7_7_0 : decode prog_7_method_7_code 0 = .ok (.aload_n 0, 1) := by decide +kernel
theorem d_7_7_1 : decode prog_7_method_7_code 1 = .ok (.lload_n 1, 1) := by decide +kernel
theorem d_7_7_2 : decode prog_7_method_7_code 2 = .ok (.invokevirtual 27, 3) := by decide +kernel
theorem d_7_7_5 : decode prog_7_method_7_code 5 = .ok (.ifCond .ne 17, 3) := by decide +kernel
theorem d_7_7_22 : decode prog_7_method_7_code 22 = .ok (.iconst 0, 1) := by decide +kernel
theorem d_7_7_23 : decode prog_7_method_7_code 23 = .ok (.ireturn, 1) := by decide +kernel
theorem d_7_7_8 : decode prog_7_method_7_code 8 = .ok (.aload_n 0, 1) := by decide +kernel
theorem d_7_7_9 : decode prog_7_method_7_code 9 = .ok (.lload_n 1, 1) := by decide +kernel
theorem d_7_7_10 : decode prog_7_method_7_code 10 = .ok (.invokevirtual 35, 3) := by decide +kernel
theorem d_7_7_13 : decode prog_7_method_7_code 13 = .ok (.lconst 0, 1) := by decide +kernel
theorem d_7_7_14 : decode prog_7_method_7_code 14 = .ok (.lcmp, 1) := by decide +kernel
theorem d_7_7_15 : decode prog_7_method_7_code 15 = .ok (.ifCond .ne 7, 3) := by decide +kernel
theorem d_7_7_18 : decode prog_7_method_7_code 18 = .ok (.iconst 1, 1) := by decide +kernel
theorem d_7_7_19 : decode prog_7_method_7_code 19 = .ok (.goto 4, 3) := by decide +kernel
def y_Flo_isZero : MethodName := ⟨"NumberHouse$Floats", "isZero", "(J)Z"⟩
theorem d_7_9_0 : decode prog_7_method_9_code 0 = .ok (.aload_n 0, 1) := by decide +kernel
theorem d_7_9_1 : decode prog_7_method_9_code 1 = .ok (.getfield 16, 3) := by decide +kernel
theorem d_7_9_4 : decode prog_7_method_9_code 4 = .ok (.i2l, 1) := by decide +kernel
theorem d_7_9_5 : decode prog_7_method_9_code 5 = .ok (.aload_n 0, 1) := by decide +kernel
theorem d_7_9_6 : decode prog_7_method_9_code 6 = .ok (.getfield 7, 3) := by decide +kernel
theorem d_7_9_9 : decode prog_7_method_9_code 9 = .ok (.lshl, 1) := by decide +kernel
theorem d_7_9_10 : decode prog_7_method_9_code 10 = .ok (.lreturn, 1) := by decide +kernel
def y_Flo_infinity : MethodName := ⟨"NumberHouse$Floats", "infinity", "()J"⟩
theorem d_7_10_0 : decode prog_7_method_10_code 0 = .ok (.aload_n 0, 1) := by decide +kernel
theorem d_7_10_1 : decode prog_7_method_10_code 1 = .ok (.invokevirtual 39, 3) := by decide +kernel
set_option maxRecDepth 100000 in
theorem w_710 : (Cond.code ({ cls := "NumberHouse$Floats", name := "infinity", desc := "()J" } : MethodName) prog_7_method_9_code (1 : Nat) (some .long)) ∈ q_tbl := q_of3 230 rfl (by decide +kernel)
set_option maxRecDepth 100000 in
theorem w_707 : (Cond.methodLink "NumberHouse$Floats" (39 : Nat) ({ cls := "NumberHouse$Floats", name := "infinity", desc := "()J" } : MethodName)) ∈ q_tbl := q_of3 227 rfl (by decide +kernel)
set_option maxRecDepth 100000 in
theorem w_708 : (Cond.instanceMethod ({ cls := "NumberHouse$Floats", name := "infinity", desc := "()J" } : MethodName)) ∈ q_tbl := q_of3 228 rfl (by decide +kernel)
set_option maxRecDepth 100000 in
theorem w_709 : (Cond.selects "NumberHouse$Floats" ({ cls := "NumberHouse$Floats", name := "infinity", desc := "()J" } : MethodName) ({ cls := "NumberHouse$Floats", name := "infinity", desc := "()J" } : MethodName)) ∈ q_tbl := q_of3 229 rfl (by decide +kernel)
theorem LV_Flo_39 : q_LV "NumberHouse$Floats" 39 y_Flo_infinity prog_7_method_9_code 1 (some .long) 0 := ⟨w_710, w_8, w_707, w_708, w_709, ⟨by decide, by decide, by decide +kernel⟩⟩
theorem d_7_10_4 : decode prog_7_method_10_code 4 = .ok (.lconst 1, 1) := by decide +kernel
theorem d_7_10_5 : decode prog_7_method_10_code 5 = .ok (.aload_n 0, 1) := by decide +kernel
theorem d_7_10_6 : decode prog_7_method_10_code 6 = .ok (.getfield 7, 3) := by decide +kernel
theorem d_7_10_9 : decode prog_7_method_10_code 9 = .ok (.iconst 1, 1) := by decide +kernel
theorem d_7_10_10 : decode prog_7_method_10_code 10 = .ok (.isub, 1) := by decide +kernel
theorem d_7_10_11 : decode prog_7_method_10_code 11 = .ok (.lshl, 1) := by decide +kernel
theorem d_7_10_12 : decode prog_7_method_10_code 12 = .ok (.lor, 1) := by decide +kernel
theorem d_7_10_13 : decode prog_7_method_10_code 13 = .ok (.lreturn, 1) := by decide +kernel
def y_Flo_noNumber : MethodName := ⟨"NumberHouse$Floats", "noNumber", "()J"⟩
theorem d_7_11_0 : decode prog_7_method_11_code 0 = .ok (.lload_n 1, 1) := by decide +kernel
theorem d_7_11_1 : decode prog_7_method_11_code 1 = .ok (.aload_n 0, 1) := by decide +kernel
theorem d_7_11_2 : decode prog_7_method_11_code 2 = .ok (.iconst 1, 1) := by decide +kernel
theorem d_7_11_3 : decode prog_7_method_11_code 3 = .ok (.invokevirtual 23, 3) := by decide +kernel
theorem d_7_11_6 : decode prog_7_method_11_code 6 = .ok (.lconst 1, 1) := by decide +kernel
theorem d_7_11_7 : decode prog_7_method_11_code 7 = .ok (.lsub, 1) := by decide +kernel
theorem d_7_11_8 : decode prog_7_method_11_code 8 = .ok (.land, 1) := by decide +kernel
theorem d_7_11_9 : decode prog_7_method_11_code 9 = .ok (.lstore_n 3, 1) := by decide +kernel
theorem d_7_11_10 : decode prog_7_method_11_code 10 = .ok (.aload_n 0, 1) := by decide +kernel
theorem d_7_11_11 : decode prog_7_method_11_code 11 = .ok (.lload_n 1, 1) := by decide +kernel
theorem d_7_11_12 : decode prog_7_method_11_code 12 = .ok (.invokevirtual 43, 3) := by decide +kernel
set_option maxRecDepth 100000 in
theorem w_1244 : (Cond.code ({ cls := "NumberHouse$Floats", name := "isNegative", desc := "(J)Z" } : MethodName) prog_7_method_4_code (3 : Nat) (some .boolean)) ∈ q_tbl := q_of6 44 rfl (by decide +kernel)
set_option maxRecDepth 100000 in
theorem w_1241 : (Cond.methodLink "NumberHouse$Floats" (43 : Nat) ({ cls := "NumberHouse$Floats", name := "isNegative", desc := "(J)Z" } : MethodName)) ∈ q_tbl := q_of6 41 rfl (by decide +kernel)
set_option maxRecDepth 100000 in
theorem w_1242 : (Cond.instanceMethod ({ cls := "NumberHouse$Floats", name := "isNegative", desc := "(J)Z" } : MethodName)) ∈ q_tbl := q_of6 42 rfl (by decide +kernel)
set_option maxRecDepth 100000 in
theorem w_1243 : (Cond.selects "NumberHouse$Floats" ({ cls := "NumberHouse$Floats", name := "isNegative", desc := "(J)Z" } : MethodName) ({ cls := "NumberHouse$Floats", name := "isNegative", desc := "(J)Z" } : MethodName)) ∈ q_tbl := q_of6 43 rfl (by decide +kernel)
theorem LV_Flo_43 : q_LV "NumberHouse$Floats" 43 y_Flo_isNegative prog_7_method_4_code 3 (some .boolean) 1 := ⟨w_1244, w_8, w_1241, w_1242, w_1243, ⟨by decide, by decide, by decide +kernel⟩⟩
theorem d_7_11_15 : decode prog_7_method_11_code 15 = .ok (.ifCond .eq 8, 3) := by decide +kernel
theorem d_7_11_23 : decode prog_7_method_11_code 23 = .ok (.lload_n 3, 1) := by decide +kernel
theorem d_7_11_24 : decode prog_7_method_11_code 24 = .ok (.lreturn, 1) := by decide +kernel
theorem d_7_11_18 : decode prog_7_method_11_code 18 = .ok (.lload_n 3, 1) := by decide +kernel
theorem d_7_11_19 : decode prog_7_method_11_code 19 = .ok (.lneg, 1) := by decide +kernel
theorem d_7_11_20 : decode prog_7_method_11_code 20 = .ok (.goto 4, 3) := by decide +kernel
def y_Flo_place : MethodName := ⟨"NumberHouse$Floats", "place", "(J)J"⟩
theorem d_7_12_0 : decode prog_7_method_12_code 0 = .ok (.aload_n 0, 1) := by decide +kernel
theorem d_7_12_1 : decode prog_7_method_12_code 1 = .ok (.lload_n 1, 1) := by decide +kernel
theorem d_7_12_2 : decode prog_7_method_12_code 2 = .ok (.invokevirtual 27, 3) := by decide +kernel
theorem d_7_12_5 : decode prog_7_method_12_code 5 = .ok (.ifCond .ne 11, 3) := by decide +kernel
theorem d_7_12_16 : decode prog_7_method_12_code 16 = .ok (.aload_n 0, 1) := by decide +kernel
theorem d_7_12_17 : decode prog_7_method_12_code 17 = .ok (.lload_n 1, 1) := by decide +kernel
theorem d_7_12_18 : decode prog_7_method_12_code 18 = .ok (.invokevirtual 35, 3) := by decide +kernel
theorem d_7_12_21 : decode prog_7_method_12_code 21 = .ok (.lconst 1, 1) := by decide +kernel
theorem d_7_12_22 : decode prog_7_method_12_code 22 = .ok (.aload_n 0, 1) := by decide +kernel
theorem d_7_12_23 : decode prog_7_method_12_code 23 = .ok (.getfield 7, 3) := by decide +kernel
theorem d_7_12_26 : decode prog_7_method_12_code 26 = .ok (.lshl, 1) := by decide +kernel
theorem d_7_12_27 : decode prog_7_method_12_code 27 = .ok (.lor, 1) := by decide +kernel
theorem d_7_12_28 : decode prog_7_method_12_code 28 = .ok (.lreturn, 1) := by decide +kernel
theorem d_7_12_8 : decode prog_7_method_12_code 8 = .ok (.aload_n 0, 1) := by decide +kernel
theorem d_7_12_9 : decode prog_7_method_12_code 9 = .ok (.lload_n 1, 1) := by decide +kernel
theorem d_7_12_10 : decode prog_7_method_12_code 10 = .ok (.invokevirtual 35, 3) := by decide +kernel
theorem d_7_12_13 : decode prog_7_method_12_code 13 = .ok (.goto 15, 3) := by decide +kernel
def y_Flo_number : MethodName := ⟨"NumberHouse$Floats", "number", "(J)J"⟩
theorem d_7_13_0 : decode prog_7_method_13_code 0 = .ok (.aload_n 0, 1) := by decide +kernel
theorem d_7_13_1 : decode prog_7_method_13_code 1 = .ok (.lload_n 1, 1) := by decide +kernel
theorem d_7_13_2 : decode prog_7_method_13_code 2 = .ok (.invokevirtual 27, 3) := by decide +kernel
theorem d_7_13_5 : decode prog_7_method_13_code 5 = .ok (.iconst 1, 1) := by decide +kernel
theorem d_7_13_6 : decode prog_7_method_13_code 6 = .ok (.invokestatic 46, 3) := by decide +kernel
set_option maxRecDepth 100000 in
theorem w_802 : (Cond.methodLink "NumberHouse$Floats" (46 : Nat) ({ cls := "java/lang/Math", name := "max", desc := "(II)I" } : MethodName)) ∈ q_tbl := q_of4 82 rfl (by decide +kernel)
theorem d_7_13_9 : decode prog_7_method_13_code 9 = .ok (.aload_n 0, 1) := by decide +kernel
theorem d_7_13_10 : decode prog_7_method_13_code 10 = .ok (.getfield 13, 3) := by decide +kernel
theorem d_7_13_13 : decode prog_7_method_13_code 13 = .ok (.isub, 1) := by decide +kernel
theorem d_7_13_14 : decode prog_7_method_13_code 14 = .ok (.ireturn, 1) := by decide +kernel
def y_Flo_power : MethodName := ⟨"NumberHouse$Floats", "power", "(J)I"⟩
theorem d_7_14_0 : decode prog_7_method_14_code 0 = .ok (.aload_n 0, 1) := by decide +kernel
theorem d_7_14_1 : decode prog_7_method_14_code 1 = .ok (.lload_n 1, 1) := by decide +kernel
theorem d_7_14_2 : decode prog_7_method_14_code 2 = .ok (.invokevirtual 52, 3) := by decide +kernel
set_option maxRecDepth 100000 in
theorem w_1179 : (Cond.code ({ cls := "NumberHouse$Floats", name := "power", desc := "(J)I" } : MethodName) prog_7_method_13_code (3 : Nat) (some .int)) ∈ q_tbl := q_of5 219 rfl (by decide +kernel)
set_option maxRecDepth 100000 in
theorem w_1176 : (Cond.methodLink "NumberHouse$Floats" (52 : Nat) ({ cls := "NumberHouse$Floats", name := "power", desc := "(J)I" } : MethodName)) ∈ q_tbl := q_of5 216 rfl (by decide +kernel)
set_option maxRecDepth 100000 in
theorem w_1177 : (Cond.instanceMethod ({ cls := "NumberHouse$Floats", name := "power", desc := "(J)I" } : MethodName)) ∈ q_tbl := q_of5 217 rfl (by decide +kernel)
set_option maxRecDepth 100000 in
theorem w_1178 : (Cond.selects "NumberHouse$Floats" ({ cls := "NumberHouse$Floats", name := "power", desc := "(J)I" } : MethodName) ({ cls := "NumberHouse$Floats", name := "power", desc := "(J)I" } : MethodName)) ∈ q_tbl := q_of5 218 rfl (by decide +kernel)
theorem LV_Flo_52 : q_LV "NumberHouse$Floats" 52 y_Flo_power prog_7_method_13_code 3 (some .int) 1 := ⟨w_1179, w_8, w_1176, w_1177, w_1178, ⟨by decide, by decide, by decide +kernel⟩⟩
theorem d_7_14_5 : decode prog_7_method_14_code 5 = .ok (.istore_n 3, 1) := by decide +kernel
theorem d_7_14_6 : decode prog_7_method_14_code 6 = .ok (.aload_n 0, 1) := by decide +kernel
theorem d_7_14_7 : decode prog_7_method_14_code 7 = .ok (.getfield 19, 3) := by decide +kernel
theorem d_7_14_10 : decode prog_7_method_14_code 10 = .ok (.getfield 55, 3) := by decide +kernel
set_option maxRecDepth 100000 in
theorem w_113 : (Cond.fieldLink "NumberHouse$Floats" (55 : Nat) "NumberHouse$Mill" "number" "LNumberHouse$Big;") ∈ q_tbl := q_of1 113 rfl (by decide +kernel)
theorem d_7_14_13 : decode prog_7_method_14_code 13 = .ok (.aload_n 0, 1) := by decide +kernel
theorem d_7_14_14 : decode prog_7_method_14_code 14 = .ok (.lload_n 1, 1) := by decide +kernel
theorem d_7_14_15 : decode prog_7_method_14_code 15 = .ok (.invokevirtual 61, 3) := by decide +kernel
set_option maxRecDepth 100000 in
theorem w_1183 : (Cond.code ({ cls := "NumberHouse$Floats", name := "number", desc := "(J)J" } : MethodName) prog_7_method_12_code (3 : Nat) (some .long)) ∈ q_tbl := q_of5 223 rfl (by decide +kernel)
set_option maxRecDepth 100000 in
theorem w_1180 : (Cond.methodLink "NumberHouse$Floats" (61 : Nat) ({ cls := "NumberHouse$Floats", name := "number", desc := "(J)J" } : MethodName)) ∈ q_tbl := q_of5 220 rfl (by decide +kernel)
set_option maxRecDepth 100000 in
theorem w_1181 : (Cond.instanceMethod ({ cls := "NumberHouse$Floats", name := "number", desc := "(J)J" } : MethodName)) ∈ q_tbl := q_of5 221 rfl (by decide +kernel)
set_option maxRecDepth 100000 in
theorem w_1182 : (Cond.selects "NumberHouse$Floats" ({ cls := "NumberHouse$Floats", name := "number", desc := "(J)J" } : MethodName) ({ cls := "NumberHouse$Floats", name := "number", desc := "(J)J" } : MethodName)) ∈ q_tbl := q_of5 222 rfl (by decide +kernel)
theorem LV_Flo_61 : q_LV "NumberHouse$Floats" 61 y_Flo_number prog_7_method_12_code 3 (some .long) 1 := ⟨w_1183, w_8, w_1180, w_1181, w_1182, ⟨by decide, by decide, by decide +kernel⟩⟩
theorem d_7_14_18 : decode prog_7_method_14_code 18 = .ok (.invokevirtual 63, 3) := by decide +kernel
set_option maxRecDepth 100000 in
theorem w_801 : (Cond.methodLink "NumberHouse$Floats" (63 : Nat) ({ cls := "NumberHouse$Big", name := "setLong", desc := "(J)V" } : MethodName)) ∈ q_tbl := q_of4 81 rfl (by decide +kernel)
theorem LV_Flo_63 : q_LV "NumberHouse$Floats" 63 y_Big_setLong prog_2_method_3_code 6 none 1 := ⟨w_193, w_4, w_801, w_191, w_192, ⟨by decide, by decide, by decide +kernel⟩⟩
theorem d_7_14_21 : decode prog_7_method_14_code 21 = .ok (.aload_n 0, 1) := by decide +kernel
theorem d_7_14_22 : decode prog_7_method_14_code 22 = .ok (.getfield 19, 3) := by decide +kernel
theorem d_7_14_25 : decode prog_7_method_14_code 25 = .ok (.getfield 55, 3) := by decide +kernel
theorem d_7_14_28 : decode prog_7_method_14_code 28 = .ok (.iload_n 3, 1) := by decide +kernel
theorem d_7_14_29 : decode prog_7_method_14_code 29 = .ok (.invokevirtual 69, 3) := by decide +kernel
set_option maxRecDepth 100000 in
theorem w_805 : (Cond.methodLink "NumberHouse$Floats" (69 : Nat) ({ cls := "NumberHouse$Big", name := "shiftLeft", desc := "(I)V" } : MethodName)) ∈ q_tbl := q_of4 85 rfl (by decide +kernel)
theorem LV_Flo_69 : q_LV "NumberHouse$Floats" 69 y_Big_shiftLeft prog_2_method_32_code 6 none 1 := ⟨w_808, w_4, w_805, w_806, w_807, ⟨by decide, by decide, by decide +kernel⟩⟩
theorem d_7_14_32 : decode prog_7_method_14_code 32 = .ok (.aload_n 0, 1) := by decide +kernel
theorem d_7_14_33 : decode prog_7_method_14_code 33 = .ok (.getfield 19, 3) := by decide +kernel
theorem d_7_14_36 : decode prog_7_method_14_code 36 = .ok (.getfield 55, 3) := by decide +kernel
theorem d_7_14_39 : decode prog_7_method_14_code 39 = .ok (.iload_n 3, 1) := by decide +kernel
theorem d_7_14_40 : decode prog_7_method_14_code 40 = .ok (.ineg, 1) := by decide +kernel
theorem d_7_14_41 : decode prog_7_method_14_code 41 = .ok (.invokevirtual 73, 3) := by decide +kernel
set_option maxRecDepth 100000 in
theorem w_1190 : (Cond.methodLink "NumberHouse$Floats" (73 : Nat) ({ cls := "NumberHouse$Big", name := "shiftRight", desc := "(I)Z" } : MethodName)) ∈ q_tbl := q_of5 230 rfl (by decide +kernel)
theorem LV_Flo_73 : q_LV "NumberHouse$Floats" 73 y_Big_shiftRight prog_2_method_33_code 7 (some .boolean) 1 := ⟨w_1062, w_4, w_1190, w_1060, w_1061, ⟨by decide, by decide, by decide +kernel⟩⟩
theorem d_7_14_44 : decode prog_7_method_14_code 44 = .ok (.pop, 1) := by decide +kernel
theorem d_7_14_45 : decode prog_7_method_14_code 45 = .ok (.aload_n 0, 1) := by decide +kernel
theorem d_7_14_46 : decode prog_7_method_14_code 46 = .ok (.getfield 19, 3) := by decide +kernel
theorem d_7_14_49 : decode prog_7_method_14_code 49 = .ok (.getfield 55, 3) := by decide +kernel
theorem d_7_14_52 : decode prog_7_method_14_code 52 = .ok (.aload_n 0, 1) := by decide +kernel
theorem d_7_14_53 : decode prog_7_method_14_code 53 = .ok (.getfield 19, 3) := by decide +kernel
theorem d_7_14_56 : decode prog_7_method_14_code 56 = .ok (.getfield 55, 3) := by decide +kernel
theorem d_7_14_59 : decode prog_7_method_14_code 59 = .ok (.getfield 77, 3) := by decide +kernel
set_option maxRecDepth 100000 in
theorem w_92 : (Cond.fieldLink "NumberHouse$Floats" (77 : Nat) "NumberHouse$Big" "size" "I") ∈ q_tbl := q_of1 92 rfl (by decide +kernel)
theorem d_7_14_62 : decode prog_7_method_14_code 62 = .ok (.ifCond .le 15, 3) := by decide +kernel
theorem d_7_14_77 : decode prog_7_method_14_code 77 = .ok (.iconst 0, 1) := by decide +kernel
theorem d_7_14_78 : decode prog_7_method_14_code 78 = .ok (.putfield 80, 3) := by decide +kernel
set_option maxRecDepth 100000 in
theorem w_99 : (Cond.fieldLink "NumberHouse$Floats" (80 : Nat) "NumberHouse$Big" "negative" "Z") ∈ q_tbl := q_of1 99 rfl (by decide +kernel)
theorem d_7_14_81 : decode prog_7_method_14_code 81 = .ok (.return_, 1) := by decide +kernel
theorem d_7_14_65 : decode prog_7_method_14_code 65 = .ok (.aload_n 0, 1) := by decide +kernel
theorem d_7_14_66 : decode prog_7_method_14_code 66 = .ok (.lload_n 1, 1) := by decide +kernel
theorem d_7_14_67 : decode prog_7_method_14_code 67 = .ok (.invokevirtual 43, 3) := by decide +kernel
theorem d_7_14_70 : decode prog_7_method_14_code 70 = .ok (.ifCond .eq 7, 3) := by decide +kernel
theorem d_7_14_73 : decode prog_7_method_14_code 73 = .ok (.iconst 1, 1) := by decide +kernel
theorem d_7_14_74 : decode prog_7_method_14_code 74 = .ok (.goto 4, 3) := by decide +kernel
def y_Flo_towardsZero : MethodName := ⟨"NumberHouse$Floats", "towardsZero", "(J)V"⟩
theorem d_7_15_0 : decode prog_7_method_15_code 0 = .ok (.aload_n 0, 1) := by decide +kernel
theorem d_7_15_1 : decode prog_7_method_15_code 1 = .ok (.lload_n 1, 1) := by decide +kernel
theorem d_7_15_2 : decode prog_7_method_15_code 2 = .ok (.invokevirtual 52, 3) := by decide +kernel
theorem d_7_15_5 : decode prog_7_method_15_code 5 = .ok (.istore_n 3, 1) := by decide +kernel
theorem d_7_15_6 : decode prog_7_method_15_code 6 = .ok (.aload_n 0, 1) := by decide +kernel
theorem d_7_15_7 : decode prog_7_method_15_code 7 = .ok (.getfield 19, 3) := by decide +kernel
theorem d_7_15_10 : decode prog_7_method_15_code 10 = .ok (.getfield 55, 3) := by decide +kernel
theorem d_7_15_13 : decode prog_7_method_15_code 13 = .ok (.astore 4, 2) := by decide +kernel
theorem d_7_15_15 : decode prog_7_method_15_code 15 = .ok (.aload 4, 2) := by decide +kernel
theorem d_7_15_17 : decode prog_7_method_15_code 17 = .ok (.aload_n 0, 1) := by decide +kernel
theorem d_7_15_18 : decode prog_7_method_15_code 18 = .ok (.lload_n 1, 1) := by decide +kernel
theorem d_7_15_19 : decode prog_7_method_15_code 19 = .ok (.invokevirtual 61, 3) := by decide +kernel
theorem d_7_15_22 : decode prog_7_method_15_code 22 = .ok (.invokevirtual 63, 3) := by decide +kernel
theorem d_7_15_25 : decode prog_7_method_15_code 25 = .ok (.aload 4, 2) := by decide +kernel
theorem d_7_15_27 : decode prog_7_method_15_code 27 = .ok (.getfield 77, 3) := by decide +kernel
theorem d_7_15_30 : decode prog_7_method_15_code 30 = .ok (.ifCond .ne 5, 3) := by decide +kernel
theorem d_7_15_35 : decode prog_7_method_15_code 35 = .ok (.aload 4, 2) := by decide +kernel
theorem d_7_15_37 : decode prog_7_method_15_code 37 = .ok (.invokevirtual 84, 3) := by decide +kernel
set_option maxRecDepth 100000 in
theorem w_751 : (Cond.methodLink "NumberHouse$Floats" (84 : Nat) ({ cls := "NumberHouse$Big", name := "lowestOne", desc := "()I" } : MethodName)) ∈ q_tbl := q_of4 31 rfl (by decide +kernel)
theorem LV_Flo_84 : q_LV "NumberHouse$Floats" 84 y_Big_lowestOne prog_2_method_15_code 2 (some .int) 0 := ⟨w_754, w_4, w_751, w_752, w_753, ⟨by decide, by decide, by decide +kernel⟩⟩
theorem d_7_15_40 : decode prog_7_method_15_code 40 = .ok (.iconst 0, 1) := by decide +kernel
theorem d_7_15_41 : decode prog_7_method_15_code 41 = .ok (.iload_n 3, 1) := by decide +kernel
theorem d_7_15_42 : decode prog_7_method_15_code 42 = .ok (.ineg, 1) := by decide +kernel
theorem d_7_15_43 : decode prog_7_method_15_code 43 = .ok (.invokestatic 46, 3) := by decide +kernel
theorem d_7_15_46 : decode prog_7_method_15_code 46 = .ok (.invokestatic 88, 3) := by decide +kernel
set_option maxRecDepth 100000 in
theorem w_1516 : (Cond.methodLink "NumberHouse$Floats" (88 : Nat) ({ cls := "java/lang/Math", name := "min", desc := "(II)I" } : MethodName)) ∈ q_tbl := q_of7 76 rfl (by decide +kernel)
theorem d_7_15_49 : decode prog_7_method_15_code 49 = .ok (.istore 5, 2) := by decide +kernel
theorem d_7_15_51 : decode prog_7_method_15_code 51 = .ok (.aload 4, 2) := by decide +kernel
theorem d_7_15_53 : decode prog_7_method_15_code 53 = .ok (.iload 5, 2) := by decide +kernel
theorem d_7_15_55 : decode prog_7_method_15_code 55 = .ok (.invokevirtual 73, 3) := by decide +kernel
theorem d_7_15_58 : decode prog_7_method_15_code 58 = .ok (.pop, 1) := by decide +kernel
theorem d_7_15_59 : decode prog_7_method_15_code 59 = .ok (.aload 4, 2) := by decide +kernel
theorem d_7_15_61 : decode prog_7_method_15_code 61 = .ok (.iload_n 3, 1) := by decide +kernel
theorem d_7_15_62 : decode prog_7_method_15_code 62 = .ok (.invokevirtual 69, 3) := by decide +kernel
theorem d_7_15_65 : decode prog_7_method_15_code 65 = .ok (.iconst 0, 1) := by decide +kernel
theorem d_7_15_66 : decode prog_7_method_15_code 66 = .ok (.iload_n 3, 1) := by decide +kernel
theorem d_7_15_67 : decode prog_7_method_15_code 67 = .ok (.ineg, 1) := by decide +kernel
theorem d_7_15_68 : decode prog_7_method_15_code 68 = .ok (.iload 5, 2) := by decide +kernel
theorem d_7_15_70 : decode prog_7_method_15_code 70 = .ok (.isub, 1) := by decide +kernel
theorem d_7_15_71 : decode prog_7_method_15_code 71 = .ok (.invokestatic 46, 3) := by decide +kernel
theorem d_7_15_74 : decode prog_7_method_15_code 74 = .ok (.istore 6, 2) := by decide +kernel
theorem d_7_15_76 : decode prog_7_method_15_code 76 = .ok (.aload 4, 2) := by decide +kernel
theorem d_7_15_78 : decode prog_7_method_15_code 78 = .ok (.iload 6, 2) := by decide +kernel
theorem d_7_15_80 : decode prog_7_method_15_code 80 = .ok (.invokevirtual 91, 3) := by decide +kernel
set_option maxRecDepth 100000 in
theorem w_797 : (Cond.code ({ cls := "NumberHouse$Big", name := "timesFive", desc := "(I)V" } : MethodName) prog_2_method_29_code (3 : Nat) (none : Option ClassFile.FieldType)) ∈ q_tbl := q_of4 77 rfl (by decide +kernel)
set_option maxRecDepth 100000 in
theorem w_794 : (Cond.methodLink "NumberHouse$Floats" (91 : Nat) ({ cls := "NumberHouse$Big", name := "timesFive", desc := "(I)V" } : MethodName)) ∈ q_tbl := q_of4 74 rfl (by decide +kernel)
set_option maxRecDepth 100000 in
theorem w_795 : (Cond.instanceMethod ({ cls := "NumberHouse$Big", name := "timesFive", desc := "(I)V" } : MethodName)) ∈ q_tbl := q_of4 75 rfl (by decide +kernel)
set_option maxRecDepth 100000 in
theorem w_796 : (Cond.selects "NumberHouse$Big" ({ cls := "NumberHouse$Big", name := "timesFive", desc := "(I)V" } : MethodName) ({ cls := "NumberHouse$Big", name := "timesFive", desc := "(I)V" } : MethodName)) ∈ q_tbl := q_of4 76 rfl (by decide +kernel)
theorem LV_Flo_91 : q_LV "NumberHouse$Floats" 91 y_Big_timesFive prog_2_method_29_code 3 none 1 := ⟨w_797, w_4, w_794, w_795, w_796, ⟨by decide, by decide, by decide +kernel⟩⟩
theorem d_7_15_83 : decode prog_7_method_15_code 83 = .ok (.aload 4, 2) := by decide +kernel
theorem d_7_15_85 : decode prog_7_method_15_code 85 = .ok (.aload_n 0, 1) := by decide +kernel
theorem d_7_15_86 : decode prog_7_method_15_code 86 = .ok (.lload_n 1, 1) := by decide +kernel
theorem d_7_15_87 : decode prog_7_method_15_code 87 = .ok (.invokevirtual 43, 3) := by decide +kernel
theorem d_7_15_90 : decode prog_7_method_15_code 90 = .ok (.putfield 80, 3) := by decide +kernel
theorem d_7_15_93 : decode prog_7_method_15_code 93 = .ok (.iload 6, 2) := by decide +kernel
theorem d_7_15_95 : decode prog_7_method_15_code 95 = .ok (.ireturn, 1) := by decide +kernel
theorem d_7_15_33 : decode prog_7_method_15_code 33 = .ok (.iconst 0, 1) := by decide +kernel
theorem d_7_15_34 : decode prog_7_method_15_code 34 = .ok (.ireturn, 1) := by decide +kernel
def y_Flo_exactly : MethodName := ⟨"NumberHouse$Floats", "exactly", "(J)I"⟩
theorem d_7_17_0 : decode prog_7_method_17_code 0 = .ok (.aload_n 1, 1) := by decide +kernel
theorem d_7_17_1 : decode prog_7_method_17_code 1 = .ok (.invokevirtual 104, 3) := by decide +kernel
set_option maxRecDepth 100000 in
theorem w_738 : (Cond.methodLink "NumberHouse$Floats" (104 : Nat) ({ cls := "NumberHouse$Big", name := "bitLength", desc := "()I" } : MethodName)) ∈ q_tbl := q_of4 18 rfl (by decide +kernel)
theorem LV_Flo_104 : q_LV "NumberHouse$Floats" 104 y_Big_bitLength prog_2_method_12_code 1 (some .int) 0 := ⟨w_610, w_4, w_738, w_608, w_609, ⟨by decide, by decide, by decide +kernel⟩⟩
theorem d_7_17_4 : decode prog_7_method_17_code 4 = .ok (.istore 5, 2) := by decide +kernel
theorem d_7_17_6 : decode prog_7_method_17_code 6 = .ok (.iload 5, 2) := by decide +kernel
theorem d_7_17_8 : decode prog_7_method_17_code 8 = .ok (.ifCond .eq 15, 3) := by decide +kernel
theorem d_7_17_23 : decode prog_7_method_17_code 23 = .ok (.lconst 0, 1) := by decide +kernel
theorem d_7_17_24 : decode prog_7_method_17_code 24 = .ok (.lreturn, 1) := by decide +kernel
theorem d_7_17_11 : decode prog_7_method_17_code 11 = .ok (.iload 5, 2) := by decide +kernel
theorem d_7_17_13 : decode prog_7_method_17_code 13 = .ok (.i2l, 1) := by decide +kernel
theorem d_7_17_14 : decode prog_7_method_17_code 14 = .ok (.lload_n 2, 1) := by decide +kernel
theorem d_7_17_15 : decode prog_7_method_17_code 15 = .ok (.ladd, 1) := by decide +kernel
theorem d_7_17_16 : decode prog_7_method_17_code 16 = .ok (.ldc2_w 107, 3) := by decide +kernel
set_option maxRecDepth 100000 in
theorem w_739 : (Cond.constantLong "NumberHouse$Floats" (107 : Nat) (-3000 : Int64)) ∈ q_tbl := q_of4 19 rfl (by decide +kernel)
theorem d_7_17_19 : decode prog_7_method_17_code 19 = .ok (.lcmp, 1) := by decide +kernel
theorem d_7_17_20 : decode prog_7_method_17_code 20 = .ok (.ifCond .ge 5, 3) := by decide +kernel
theorem d_7_17_25 : decode prog_7_method_17_code 25 = .ok (.iload 5, 2) := by decide +kernel
theorem d_7_17_27 : decode prog_7_method_17_code 27 = .ok (.i2l, 1) := by decide +kernel
theorem d_7_17_28 : decode prog_7_method_17_code 28 = .ok (.lload_n 2, 1) := by decide +kernel
theorem d_7_17_29 : decode prog_7_method_17_code 29 = .ok (.ladd, 1) := by decide +kernel
theorem d_7_17_30 : decode prog_7_method_17_code 30 = .ok (.aload_n 0, 1) := by decide +kernel
theorem d_7_17_31 : decode prog_7_method_17_code 31 = .ok (.getfield 7, 3) := by decide +kernel
theorem d_7_17_34 : decode prog_7_method_17_code 34 = .ok (.i2l, 1) := by decide +kernel
theorem d_7_17_35 : decode prog_7_method_17_code 35 = .ok (.lsub, 1) := by decide +kernel
theorem d_7_17_36 : decode prog_7_method_17_code 36 = .ok (.lconst 1, 1) := by decide +kernel
theorem d_7_17_37 : decode prog_7_method_17_code 37 = .ok (.lsub, 1) := by decide +kernel
theorem d_7_17_38 : decode prog_7_method_17_code 38 = .ok (.aload_n 0, 1) := by decide +kernel
theorem d_7_17_39 : decode prog_7_method_17_code 39 = .ok (.getfield 16, 3) := by decide +kernel
theorem d_7_17_42 : decode prog_7_method_17_code 42 = .ok (.aload_n 0, 1) := by decide +kernel
theorem d_7_17_43 : decode prog_7_method_17_code 43 = .ok (.getfield 13, 3) := by decide +kernel
theorem d_7_17_46 : decode prog_7_method_17_code 46 = .ok (.isub, 1) := by decide +kernel
theorem d_7_17_47 : decode prog_7_method_17_code 47 = .ok (.i2l, 1) := by decide +kernel
theorem d_7_17_48 : decode prog_7_method_17_code 48 = .ok (.lcmp, 1) := by decide +kernel
theorem d_7_17_49 : decode prog_7_method_17_code 49 = .ok (.ifCond .lt 8, 3) := by decide +kernel
theorem d_7_17_57 : decode prog_7_method_17_code 57 = .ok (.iload 5, 2) := by decide +kernel
theorem d_7_17_59 : decode prog_7_method_17_code 59 = .ok (.i2l, 1) := by decide +kernel
theorem d_7_17_60 : decode prog_7_method_17_code 60 = .ok (.lload_n 2, 1) := by decide +kernel
theorem d_7_17_61 : decode prog_7_method_17_code 61 = .ok (.ladd, 1) := by decide +kernel
theorem d_7_17_62 : decode prog_7_method_17_code 62 = .ok (.aload_n 0, 1) := by decide +kernel
theorem d_7_17_63 : decode prog_7_method_17_code 63 = .ok (.getfield 7, 3) := by decide +kernel
theorem d_7_17_66 : decode prog_7_method_17_code 66 = .ok (.i2l, 1) := by decide +kernel
theorem d_7_17_67 : decode prog_7_method_17_code 67 = .ok (.lsub, 1) := by decide +kernel
theorem d_7_17_68 : decode prog_7_method_17_code 68 = .ok (.lconst 1, 1) := by decide +kernel
theorem d_7_17_69 : decode prog_7_method_17_code 69 = .ok (.lsub, 1) := by decide +kernel
theorem d_7_17_70 : decode prog_7_method_17_code 70 = .ok (.iconst 1, 1) := by decide +kernel
theorem d_7_17_71 : decode prog_7_method_17_code 71 = .ok (.aload_n 0, 1) := by decide +kernel
theorem d_7_17_72 : decode prog_7_method_17_code 72 = .ok (.getfield 13, 3) := by decide +kernel
theorem d_7_17_75 : decode prog_7_method_17_code 75 = .ok (.isub, 1) := by decide +kernel
theorem d_7_17_76 : decode prog_7_method_17_code 76 = .ok (.i2l, 1) := by decide +kernel
theorem d_7_17_77 : decode prog_7_method_17_code 77 = .ok (.invokestatic 109, 3) := by decide +kernel
set_option maxRecDepth 100000 in
theorem w_740 : (Cond.methodLink "NumberHouse$Floats" (109 : Nat) ({ cls := "java/lang/Math", name := "max", desc := "(JJ)J" } : MethodName)) ∈ q_tbl := q_of4 20 rfl (by decide +kernel)
theorem LS_Flo_109 : q_LS "NumberHouse$Floats" 109 y_jMath_max_JJJ prog_29_method_66_code 4 (some .long) 2 := ⟨w_742, w_7, w_740, w_741, ⟨by decide, by decide, by decide +kernel⟩⟩
theorem d_7_17_80 : decode prog_7_method_17_code 80 = .ok (.l2i, 1) := by decide +kernel
theorem d_7_17_81 : decode prog_7_method_17_code 81 = .ok (.istore 6, 2) := by decide +kernel
theorem d_7_17_83 : decode prog_7_method_17_code 83 = .ok (.iload 6, 2) := by decide +kernel
theorem d_7_17_85 : decode prog_7_method_17_code 85 = .ok (.i2l, 1) := by decide +kernel
theorem d_7_17_86 : decode prog_7_method_17_code 86 = .ok (.lload_n 2, 1) := by decide +kernel
theorem d_7_17_87 : decode prog_7_method_17_code 87 = .ok (.lsub, 1) := by decide +kernel
theorem d_7_17_88 : decode prog_7_method_17_code 88 = .ok (.l2i, 1) := by decide +kernel
theorem d_7_17_89 : decode prog_7_method_17_code 89 = .ok (.istore 7, 2) := by decide +kernel
theorem d_7_17_91 : decode prog_7_method_17_code 91 = .ok (.lconst 0, 1) := by decide +kernel
theorem d_7_17_92 : decode prog_7_method_17_code 92 = .ok (.lstore 8, 2) := by decide +kernel
theorem d_7_17_94 : decode prog_7_method_17_code 94 = .ok (.aload_n 0, 1) := by decide +kernel
theorem d_7_17_95 : decode prog_7_method_17_code 95 = .ok (.getfield 7, 3) := by decide +kernel
theorem d_7_17_98 : decode prog_7_method_17_code 98 = .ok (.iconst 1, 1) := by decide +kernel
theorem d_7_17_99 : decode prog_7_method_17_code 99 = .ok (.iadd, 1) := by decide +kernel
theorem d_7_17_100 : decode prog_7_method_17_code 100 = .ok (.istore 10, 2) := by decide +kernel
theorem d_7_17_102 : decode prog_7_method_17_code 102 = .ok (.iload 10, 2) := by decide +kernel
theorem d_7_17_104 : decode prog_7_method_17_code 104 = .ok (.ifCond .lt 38, 3) := by decide +kernel
theorem d_7_17_142 : decode prog_7_method_17_code 142 = .ok (.iload 7, 2) := by decide +kernel
theorem d_7_17_164 : decode prog_7_method_17_code 164 = .ok (.istore 10, 2) := by decide +kernel
theorem d_7_17_166 : decode prog_7_method_17_code 166 = .ok (.iload 4, 2) := by decide +kernel
theorem d_7_17_187 : decode prog_7_method_17_code 187 = .ok (.istore 11, 2) := by decide +kernel
theorem d_7_17_189 : decode prog_7_method_17_code 189 = .ok (.iload 10, 2) := by decide +kernel
theorem d_7_17_191 : decode prog_7_method_17_code 191 = .ok (.ifCond .eq 23, 3) := by decide +kernel
theorem d_7_17_214 : decode prog_7_method_17_code 214 = .ok (.iload 6, 2) := by decide +kernel
theorem d_7_17_216 : decode prog_7_method_17_code 216 = .ok (.aload_n 0, 1) := by decide +kernel
theorem d_7_17_217 : decode prog_7_method_17_code 217 = .ok (.getfield 13, 3) := by decide +kernel
theorem d_7_17_220 : decode prog_7_method_17_code 220 = .ok (.iadd, 1) := by decide +kernel
theorem d_7_17_221 : decode prog_7_method_17_code 221 = .ok (.iconst 1, 1) := by decide +kernel
theorem d_7_17_222 : decode prog_7_method_17_code 222 = .ok (.isub, 1) := by decide +kernel
theorem d_7_17_223 : decode prog_7_method_17_code 223 = .ok (.i2l, 1) := by decide +kernel
theorem d_7_17_224 : decode prog_7_method_17_code 224 = .ok (.aload_n 0, 1) := by decide +kernel
theorem d_7_17_225 : decode prog_7_method_17_code 225 = .ok (.getfield 7, 3) := by decide +kernel
theorem d_7_17_228 : decode prog_7_method_17_code 228 = .ok (.lshl, 1) := by decide +kernel
theorem d_7_17_229 : decode prog_7_method_17_code 229 = .ok (.lload 8, 2) := by decide +kernel
theorem d_7_17_231 : decode prog_7_method_17_code 231 = .ok (.ladd, 1) := by decide +kernel
theorem d_7_17_232 : decode prog_7_method_17_code 232 = .ok (.lreturn, 1) := by decide +kernel
theorem d_7_17_194 : decode prog_7_method_17_code 194 = .ok (.iload 11, 2) := by decide +kernel
theorem d_7_17_208 : decode prog_7_method_17_code 208 = .ok (.lload 8, 2) := by decide +kernel
theorem d_7_17_210 : decode prog_7_method_17_code 210 = .ok (.lconst 1, 1) := by decide +kernel
theorem d_7_17_211 : decode prog_7_method_17_code 211 = .ok (.ladd, 1) := by decide +kernel
theorem d_7_17_212 : decode prog_7_method_17_code 212 = .ok (.lstore 8, 2) := by decide +kernel
theorem d_7_17_196 : decode prog_7_method_17_code 196 = .ok (.ifCond .ne 12, 3) := by decide +kernel
theorem d_7_17_199 : decode prog_7_method_17_code 199 = .ok (.lload 8, 2) := by decide +kernel
theorem d_7_17_201 : decode prog_7_method_17_code 201 = .ok (.lconst 1, 1) := by decide +kernel
theorem d_7_17_202 : decode prog_7_method_17_code 202 = .ok (.land, 1) := by decide +kernel
theorem d_7_17_203 : decode prog_7_method_17_code 203 = .ok (.lconst 1, 1) := by decide +kernel
theorem d_7_17_204 : decode prog_7_method_17_code 204 = .ok (.lcmp, 1) := by decide +kernel
theorem d_7_17_205 : decode prog_7_method_17_code 205 = .ok (.ifCond .ne 9, 3) := by decide +kernel
theorem d_7_17_182 : decode prog_7_method_17_code 182 = .ok (.iconst 1, 1) := by decide +kernel
theorem d_7_17_183 : decode prog_7_method_17_code 183 = .ok (.goto 4, 3) := by decide +kernel
theorem d_7_17_168 : decode prog_7_method_17_code 168 = .ok (.ifCond .ne 14, 3) := by decide +kernel
theorem d_7_17_171 : decode prog_7_method_17_code 171 = .ok (.aload_n 1, 1) := by decide +kernel
theorem d_7_17_172 : decode prog_7_method_17_code 172 = .ok (.invokevirtual 84, 3) := by decide +kernel
theorem d_7_17_175 : decode prog_7_method_17_code 175 = .ok (.iload 7, 2) := by decide +kernel
theorem d_7_17_177 : decode prog_7_method_17_code 177 = .ok (.iconst 1, 1) := by decide +kernel
theorem d_7_17_178 : decode prog_7_method_17_code 178 = .ok (.isub, 1) := by decide +kernel
theorem d_7_17_179 : decode prog_7_method_17_code 179 = .ok (.if_icmp .ge 7, 3) := by decide +kernel
theorem d_7_17_186 : decode prog_7_method_17_code 186 = .ok (.iconst 0, 1) := by decide +kernel
theorem d_7_17_163 : decode prog_7_method_17_code 163 = .ok (.iconst 0, 1) := by decide +kernel
theorem d_7_17_144 : decode prog_7_method_17_code 144 = .ok (.ifCond .le 19, 3) := by decide +kernel
theorem d_7_17_147 : decode prog_7_method_17_code 147 = .ok (.aload_n 1, 1) := by decide +kernel
theorem d_7_17_148 : decode prog_7_method_17_code 148 = .ok (.iload 7, 2) := by decide +kernel
theorem d_7_17_150 : decode prog_7_method_17_code 150 = .ok (.iconst 1, 1) := by decide +kernel
theorem d_7_17_151 : decode prog_7_method_17_code 151 = .ok (.isub, 1) := by decide +kernel
theorem d_7_17_152 : decode prog_7_method_17_code 152 = .ok (.invokevirtual 112, 3) := by decide +kernel
set_option maxRecDepth 100000 in
theorem w_746 : (Cond.code ({ cls := "NumberHouse$Big", name := "bit", desc := "(I)I" } : MethodName) prog_2_method_17_code (2 : Nat) (some .int)) ∈ q_tbl := q_of4 26 rfl (by decide +kernel)
set_option maxRecDepth 100000 in
theorem w_743 : (Cond.methodLink "NumberHouse$Floats" (112 : Nat) ({ cls := "NumberHouse$Big", name := "bit", desc := "(I)I" } : MethodName)) ∈ q_tbl := q_of4 23 rfl (by decide +kernel)
set_option maxRecDepth 100000 in
theorem w_744 : (Cond.instanceMethod ({ cls := "NumberHouse$Big", name := "bit", desc := "(I)I" } : MethodName)) ∈ q_tbl := q_of4 24 rfl (by decide +kernel)
set_option maxRecDepth 100000 in
theorem w_745 : (Cond.selects "NumberHouse$Big" ({ cls := "NumberHouse$Big", name := "bit", desc := "(I)I" } : MethodName) ({ cls := "NumberHouse$Big", name := "bit", desc := "(I)I" } : MethodName)) ∈ q_tbl := q_of4 25 rfl (by decide +kernel)
theorem LV_Flo_112 : q_LV "NumberHouse$Floats" 112 y_Big_bit prog_2_method_17_code 2 (some .int) 1 := ⟨w_746, w_4, w_743, w_744, w_745, ⟨by decide, by decide, by decide +kernel⟩⟩
theorem d_7_17_155 : decode prog_7_method_17_code 155 = .ok (.iconst 1, 1) := by decide +kernel
theorem d_7_17_156 : decode prog_7_method_17_code 156 = .ok (.if_icmp .ne 7, 3) := by decide +kernel
theorem d_7_17_159 : decode prog_7_method_17_code 159 = .ok (.iconst 1, 1) := by decide +kernel
theorem d_7_17_160 : decode prog_7_method_17_code 160 = .ok (.goto 4, 3) := by decide +kernel
theorem d_7_17_107 : decode prog_7_method_17_code 107 = .ok (.lload 8, 2) := by decide +kernel
theorem d_7_17_109 : decode prog_7_method_17_code 109 = .ok (.iconst 1, 1) := by decide +kernel
theorem d_7_17_110 : decode prog_7_method_17_code 110 = .ok (.lshl, 1) := by decide +kernel
theorem d_7_17_111 : decode prog_7_method_17_code 111 = .ok (.iload 7, 2) := by decide +kernel
theorem d_7_17_113 : decode prog_7_method_17_code 113 = .ok (.iload 10, 2) := by decide +kernel
theorem d_7_17_115 : decode prog_7_method_17_code 115 = .ok (.iadd, 1) := by decide +kernel
theorem d_7_17_116 : decode prog_7_method_17_code 116 = .ok (.ifCond .lt 15, 3) := by decide +kernel
theorem d_7_17_131 : decode prog_7_method_17_code 131 = .ok (.iconst 0, 1) := by decide +kernel
theorem d_7_17_132 : decode prog_7_method_17_code 132 = .ok (.i2l, 1) := by decide +kernel
theorem d_7_17_133 : decode prog_7_method_17_code 133 = .ok (.lor, 1) := by decide +kernel
theorem d_7_17_134 : decode prog_7_method_17_code 134 = .ok (.lstore 8, 2) := by decide +kernel
theorem d_7_17_136 : decode prog_7_method_17_code 136 = .ok (.iinc 10 (-1), 3) := by decide +kernel
theorem d_7_17_139 : decode prog_7_method_17_code 139 = .ok (.goto (-37), 3) := by decide +kernel
theorem d_7_17_119 : decode prog_7_method_17_code 119 = .ok (.aload_n 1, 1) := by decide +kernel
theorem d_7_17_120 : decode prog_7_method_17_code 120 = .ok (.iload 7, 2) := by decide +kernel
theorem d_7_17_122 : decode prog_7_method_17_code 122 = .ok (.iload 10, 2) := by decide +kernel
theorem d_7_17_124 : decode prog_7_method_17_code 124 = .ok (.iadd, 1) := by decide +kernel
theorem d_7_17_125 : decode prog_7_method_17_code 125 = .ok (.invokevirtual 112, 3) := by decide +kernel
theorem d_7_17_128 : decode prog_7_method_17_code 128 = .ok (.goto 4, 3) := by decide +kernel
theorem d_7_17_52 : decode prog_7_method_17_code 52 = .ok (.aload_n 0, 1) := by decide +kernel
theorem d_7_17_53 : decode prog_7_method_17_code 53 = .ok (.invokevirtual 39, 3) := by decide +kernel
theorem d_7_17_56 : decode prog_7_method_17_code 56 = .ok (.lreturn, 1) := by decide +kernel
def y_Flo_nearest : MethodName := ⟨"NumberHouse$Floats", "nearest", "(LNumberHouse$Big;JZ)J"⟩
theorem d_7_16_0 : decode prog_7_method_16_code 0 = .ok (.aload_n 3, 1) := by decide +kernel
theorem d_7_16_1 : decode prog_7_method_16_code 1 = .ok (.aload_n 0, 1) := by decide +kernel
theorem d_7_16_2 : decode prog_7_method_16_code 2 = .ok (.if_acmp .ne 5, 3) := by decide +kernel
theorem d_7_16_7 : decode prog_7_method_16_code 7 = .ok (.aload_n 3, 1) := by decide +kernel
theorem d_7_16_8 : decode prog_7_method_16_code 8 = .ok (.lload_n 1, 1) := by decide +kernel
theorem d_7_16_9 : decode prog_7_method_16_code 9 = .ok (.invokevirtual 94, 3) := by decide +kernel
set_option maxRecDepth 100000 in
theorem w_1234 : (Cond.code ({ cls := "NumberHouse$Floats", name := "isNoNumber", desc := "(J)Z" } : MethodName) prog_7_method_6_code (3 : Nat) (some .boolean)) ∈ q_tbl := q_of6 34 rfl (by decide +kernel)
set_option maxRecDepth 100000 in
theorem w_1528 : (Cond.methodLink "NumberHouse$Floats" (94 : Nat) ({ cls := "NumberHouse$Floats", name := "isNoNumber", desc := "(J)Z" } : MethodName)) ∈ q_tbl := q_of7 88 rfl (by decide +kernel)
set_option maxRecDepth 100000 in
theorem w_1232 : (Cond.instanceMethod ({ cls := "NumberHouse$Floats", name := "isNoNumber", desc := "(J)Z" } : MethodName)) ∈ q_tbl := q_of6 32 rfl (by decide +kernel)
set_option maxRecDepth 100000 in
theorem w_1233 : (Cond.selects "NumberHouse$Floats" ({ cls := "NumberHouse$Floats", name := "isNoNumber", desc := "(J)Z" } : MethodName) ({ cls := "NumberHouse$Floats", name := "isNoNumber", desc := "(J)Z" } : MethodName)) ∈ q_tbl := q_of6 33 rfl (by decide +kernel)
theorem LV_Flo_94 : q_LV "NumberHouse$Floats" 94 y_Flo_isNoNumber prog_7_method_6_code 3 (some .boolean) 1 := ⟨w_1234, w_8, w_1528, w_1232, w_1233, ⟨by decide, by decide, by decide +kernel⟩⟩
theorem d_7_16_12 : decode prog_7_method_16_code 12 = .ok (.ifCond .eq 8, 3) := by decide +kernel
theorem d_7_16_20 : decode prog_7_method_16_code 20 = .ok (.aload_n 0, 1) := by decide +kernel
theorem d_7_16_21 : decode prog_7_method_16_code 21 = .ok (.aload_n 3, 1) := by decide +kernel
theorem d_7_16_22 : decode prog_7_method_16_code 22 = .ok (.lload_n 1, 1) := by decide +kernel
theorem d_7_16_23 : decode prog_7_method_16_code 23 = .ok (.invokevirtual 43, 3) := by decide +kernel
theorem d_7_16_26 : decode prog_7_method_16_code 26 = .ok (.invokevirtual 23, 3) := by decide +kernel
theorem d_7_16_29 : decode prog_7_method_16_code 29 = .ok (.lstore 4, 2) := by decide +kernel
theorem d_7_16_31 : decode prog_7_method_16_code 31 = .ok (.aload_n 3, 1) := by decide +kernel
theorem d_7_16_32 : decode prog_7_method_16_code 32 = .ok (.lload_n 1, 1) := by decide +kernel
theorem d_7_16_33 : decode prog_7_method_16_code 33 = .ok (.invokevirtual 31, 3) := by decide +kernel
theorem d_7_16_36 : decode prog_7_method_16_code 36 = .ok (.ifCond .ne 11, 3) := by decide +kernel
theorem d_7_16_47 : decode prog_7_method_16_code 47 = .ok (.aload_n 0, 1) := by decide +kernel
theorem d_7_16_48 : decode prog_7_method_16_code 48 = .ok (.getfield 19, 3) := by decide +kernel
theorem d_7_16_51 : decode prog_7_method_16_code 51 = .ok (.getfield 55, 3) := by decide +kernel
theorem d_7_16_54 : decode prog_7_method_16_code 54 = .ok (.aload_n 3, 1) := by decide +kernel
theorem d_7_16_55 : decode prog_7_method_16_code 55 = .ok (.lload_n 1, 1) := by decide +kernel
theorem d_7_16_56 : decode prog_7_method_16_code 56 = .ok (.invokevirtual 61, 3) := by decide +kernel
theorem d_7_16_59 : decode prog_7_method_16_code 59 = .ok (.invokevirtual 63, 3) := by decide +kernel
theorem d_7_16_62 : decode prog_7_method_16_code 62 = .ok (.aload_n 0, 1) := by decide +kernel
theorem d_7_16_63 : decode prog_7_method_16_code 63 = .ok (.aload_n 0, 1) := by decide +kernel
theorem d_7_16_64 : decode prog_7_method_16_code 64 = .ok (.getfield 19, 3) := by decide +kernel
theorem d_7_16_67 : decode prog_7_method_16_code 67 = .ok (.getfield 55, 3) := by decide +kernel
theorem d_7_16_70 : decode prog_7_method_16_code 70 = .ok (.aload_n 3, 1) := by decide +kernel
theorem d_7_16_71 : decode prog_7_method_16_code 71 = .ok (.lload_n 1, 1) := by decide +kernel
theorem d_7_16_72 : decode prog_7_method_16_code 72 = .ok (.invokevirtual 52, 3) := by decide +kernel
theorem d_7_16_75 : decode prog_7_method_16_code 75 = .ok (.i2l, 1) := by decide +kernel
theorem d_7_16_76 : decode prog_7_method_16_code 76 = .ok (.iconst 0, 1) := by decide +kernel
theorem d_7_16_77 : decode prog_7_method_16_code 77 = .ok (.invokevirtual 100, 3) := by decide +kernel
set_option maxRecDepth 100000 in
theorem w_737 : (Cond.code ({ cls := "NumberHouse$Floats", name := "nearest", desc := "(LNumberHouse$Big;JZ)J" } : MethodName) prog_7_method_17_code (12 : Nat) (some .long)) ∈ q_tbl := q_of4 17 rfl (by decide +kernel)
set_option maxRecDepth 100000 in
theorem w_800 : (Cond.methodLink "NumberHouse$Floats" (100 : Nat) ({ cls := "NumberHouse$Floats", name := "nearest", desc := "(LNumberHouse$Big;JZ)J" } : MethodName)) ∈ q_tbl := q_of4 80 rfl (by decide +kernel)
set_option maxRecDepth 100000 in
theorem w_735 : (Cond.instanceMethod ({ cls := "NumberHouse$Floats", name := "nearest", desc := "(LNumberHouse$Big;JZ)J" } : MethodName)) ∈ q_tbl := q_of4 15 rfl (by decide +kernel)
set_option maxRecDepth 100000 in
theorem w_736 : (Cond.selects "NumberHouse$Floats" ({ cls := "NumberHouse$Floats", name := "nearest", desc := "(LNumberHouse$Big;JZ)J" } : MethodName) ({ cls := "NumberHouse$Floats", name := "nearest", desc := "(LNumberHouse$Big;JZ)J" } : MethodName)) ∈ q_tbl := q_of4 16 rfl (by decide +kernel)
theorem LV_Flo_100 : q_LV "NumberHouse$Floats" 100 y_Flo_nearest prog_7_method_17_code 12 (some .long) 3 := ⟨w_737, w_8, w_800, w_735, w_736, ⟨by decide, by decide, by decide +kernel⟩⟩
theorem d_7_16_80 : decode prog_7_method_16_code 80 = .ok (.lload 4, 2) := by decide +kernel
theorem d_7_16_82 : decode prog_7_method_16_code 82 = .ok (.lor, 1) := by decide +kernel
theorem d_7_16_83 : decode prog_7_method_16_code 83 = .ok (.lreturn, 1) := by decide +kernel
theorem d_7_16_39 : decode prog_7_method_16_code 39 = .ok (.aload_n 0, 1) := by decide +kernel
theorem d_7_16_40 : decode prog_7_method_16_code 40 = .ok (.invokevirtual 39, 3) := by decide +kernel
theorem d_7_16_43 : decode prog_7_method_16_code 43 = .ok (.lload 4, 2) := by decide +kernel
theorem d_7_16_45 : decode prog_7_method_16_code 45 = .ok (.lor, 1) := by decide +kernel
theorem d_7_16_46 : decode prog_7_method_16_code 46 = .ok (.lreturn, 1) := by decide +kernel
theorem d_7_16_15 : decode prog_7_method_16_code 15 = .ok (.aload_n 0, 1) := by decide +kernel
theorem d_7_16_16 : decode prog_7_method_16_code 16 = .ok (.invokevirtual 97, 3) := by decide +kernel
set_option maxRecDepth 100000 in
theorem w_706 : (Cond.code ({ cls := "NumberHouse$Floats", name := "noNumber", desc := "()J" } : MethodName) prog_7_method_10_code (1 : Nat) (some .long)) ∈ q_tbl := q_of3 226 rfl (by decide +kernel)
set_option maxRecDepth 100000 in
theorem w_1529 : (Cond.methodLink "NumberHouse$Floats" (97 : Nat) ({ cls := "NumberHouse$Floats", name := "noNumber", desc := "()J" } : MethodName)) ∈ q_tbl := q_of7 89 rfl (by decide +kernel)
set_option maxRecDepth 100000 in
theorem w_704 : (Cond.instanceMethod ({ cls := "NumberHouse$Floats", name := "noNumber", desc := "()J" } : MethodName)) ∈ q_tbl := q_of3 224 rfl (by decide +kernel)
set_option maxRecDepth 100000 in
theorem w_705 : (Cond.selects "NumberHouse$Floats" ({ cls := "NumberHouse$Floats", name := "noNumber", desc := "()J" } : MethodName) ({ cls := "NumberHouse$Floats", name := "noNumber", desc := "()J" } : MethodName)) ∈ q_tbl := q_of3 225 rfl (by decide +kernel)
theorem LV_Flo_97 : q_LV "NumberHouse$Floats" 97 y_Flo_noNumber prog_7_method_10_code 1 (some .long) 0 := ⟨w_706, w_8, w_1529, w_704, w_705, ⟨by decide, by decide, by decide +kernel⟩⟩
theorem d_7_16_19 : decode prog_7_method_16_code 19 = .ok (.lreturn, 1) := by decide +kernel
theorem d_7_16_5 : decode prog_7_method_16_code 5 = .ok (.lload_n 1, 1) := by decide +kernel
theorem d_7_16_6 : decode prog_7_method_16_code 6 = .ok (.lreturn, 1) := by decide +kernel
def y_Flo_changed : MethodName := ⟨"NumberHouse$Floats", "changed", "(JLNumberHouse$Floats;)J"⟩
theorem d_7_21_0 : decode prog_7_method_21_code 0 = .ok (.aload_n 0, 1) := by decide +kernel
theorem d_7_21_1 : decode prog_7_method_21_code 1 = .ok (.getfield 19, 3) := by decide +kernel
theorem d_7_21_4 : decode prog_7_method_21_code 4 = .ok (.getfield 124, 3) := by decide +kernel
set_option maxRecDepth 100000 in
theorem w_127 : (Cond.fieldLink "NumberHouse$Floats" (124 : Nat) "NumberHouse$Mill" "one" "LNumberHouse$Big;") ∈ q_tbl := q_of1 127 rfl (by decide +kernel)
theorem d_7_21_7 : decode prog_7_method_21_code 7 = .ok (.bipush 10, 2) := by decide +kernel
theorem d_7_21_9 : decode prog_7_method_21_code 9 = .ok (.iconst 0, 1) := by decide +kernel
theorem d_7_21_10 : decode prog_7_method_21_code 10 = .ok (.invokevirtual 190, 3) := by decide +kernel
set_option maxRecDepth 100000 in
theorem w_1193 : (Cond.methodLink "NumberHouse$Floats" (190 : Nat) ({ cls := "NumberHouse$Big", name := "multiplySmall", desc := "(II)V" } : MethodName)) ∈ q_tbl := q_of5 233 rfl (by decide +kernel)
theorem LV_Flo_190 : q_LV "NumberHouse$Floats" 190 y_Big_multiplySmall prog_2_method_26_code 8 none 2 := ⟨w_606, w_4, w_1193, w_604, w_605, ⟨by decide, by decide, by decide +kernel⟩⟩
theorem d_7_21_13 : decode prog_7_method_21_code 13 = .ok (.aload_n 0, 1) := by decide +kernel
theorem d_7_21_14 : decode prog_7_method_21_code 14 = .ok (.getfield 19, 3) := by decide +kernel
theorem d_7_21_17 : decode prog_7_method_21_code 17 = .ok (.getfield 165, 3) := by decide +kernel
set_option maxRecDepth 100000 in
theorem w_132 : (Cond.fieldLink "NumberHouse$Floats" (165 : Nat) "NumberHouse$Mill" "three" "LNumberHouse$Big;") ∈ q_tbl := q_of1 132 rfl (by decide +kernel)
theorem d_7_21_20 : decode prog_7_method_21_code 20 = .ok (.bipush 10, 2) := by decide +kernel
theorem d_7_21_22 : decode prog_7_method_21_code 22 = .ok (.iconst 0, 1) := by decide +kernel
theorem d_7_21_23 : decode prog_7_method_21_code 23 = .ok (.invokevirtual 190, 3) := by decide +kernel
theorem d_7_21_26 : decode prog_7_method_21_code 26 = .ok (.aload_n 0, 1) := by decide +kernel
theorem d_7_21_27 : decode prog_7_method_21_code 27 = .ok (.getfield 19, 3) := by decide +kernel
theorem d_7_21_30 : decode prog_7_method_21_code 30 = .ok (.getfield 159, 3) := by decide +kernel
set_option maxRecDepth 100000 in
theorem w_134 : (Cond.fieldLink "NumberHouse$Floats" (159 : Nat) "NumberHouse$Mill" "four" "LNumberHouse$Big;") ∈ q_tbl := q_of1 134 rfl (by decide +kernel)
theorem d_7_21_33 : decode prog_7_method_21_code 33 = .ok (.bipush 10, 2) := by decide +kernel
theorem d_7_21_35 : decode prog_7_method_21_code 35 = .ok (.iconst 0, 1) := by decide +kernel
theorem d_7_21_36 : decode prog_7_method_21_code 36 = .ok (.invokevirtual 190, 3) := by decide +kernel
theorem d_7_21_39 : decode prog_7_method_21_code 39 = .ok (.iconst 0, 1) := by decide +kernel
theorem d_7_21_40 : decode prog_7_method_21_code 40 = .ok (.istore_n 1, 1) := by decide +kernel
theorem d_7_21_41 : decode prog_7_method_21_code 41 = .ok (.iload_n 1, 1) := by decide +kernel
theorem d_7_21_42 : decode prog_7_method_21_code 42 = .ok (.bipush 9, 2) := by decide +kernel
theorem d_7_21_44 : decode prog_7_method_21_code 44 = .ok (.if_icmp .ge 46, 3) := by decide +kernel
theorem d_7_21_90 : decode prog_7_method_21_code 90 = .ok (.iload_n 1, 1) := by decide +kernel
theorem d_7_21_91 : decode prog_7_method_21_code 91 = .ok (.ireturn, 1) := by decide +kernel
theorem d_7_21_47 : decode prog_7_method_21_code 47 = .ok (.aload_n 0, 1) := by decide +kernel
theorem d_7_21_48 : decode prog_7_method_21_code 48 = .ok (.getfield 19, 3) := by decide +kernel
theorem d_7_21_51 : decode prog_7_method_21_code 51 = .ok (.getfield 124, 3) := by decide +kernel
theorem d_7_21_54 : decode prog_7_method_21_code 54 = .ok (.aload_n 0, 1) := by decide +kernel
theorem d_7_21_55 : decode prog_7_method_21_code 55 = .ok (.getfield 19, 3) := by decide +kernel
theorem d_7_21_58 : decode prog_7_method_21_code 58 = .ok (.getfield 131, 3) := by decide +kernel
set_option maxRecDepth 100000 in
theorem w_130 : (Cond.fieldLink "NumberHouse$Floats" (131 : Nat) "NumberHouse$Mill" "two" "LNumberHouse$Big;") ∈ q_tbl := q_of1 130 rfl (by decide +kernel)
theorem d_7_21_61 : decode prog_7_method_21_code 61 = .ok (.invokevirtual 162, 3) := by decide +kernel
set_option maxRecDepth 100000 in
theorem w_1192 : (Cond.methodLink "NumberHouse$Floats" (162 : Nat) ({ cls := "NumberHouse$Big", name := "compareSize", desc := "(LNumberHouse$Big;)I" } : MethodName)) ∈ q_tbl := q_of5 232 rfl (by decide +kernel)
theorem LV_Flo_162 : q_LV "NumberHouse$Floats" 162 y_Big_compareSize prog_2_method_21_code 3 (some .int) 1 := ⟨w_780, w_4, w_1192, w_778, w_779, ⟨by decide, by decide, by decide +kernel⟩⟩
theorem d_7_21_64 : decode prog_7_method_21_code 64 = .ok (.ifCond .lt 26, 3) := by decide +kernel
theorem d_7_21_67 : decode prog_7_method_21_code 67 = .ok (.aload_n 0, 1) := by decide +kernel
theorem d_7_21_68 : decode prog_7_method_21_code 68 = .ok (.getfield 19, 3) := by decide +kernel
theorem d_7_21_71 : decode prog_7_method_21_code 71 = .ok (.getfield 124, 3) := by decide +kernel
theorem d_7_21_74 : decode prog_7_method_21_code 74 = .ok (.aload_n 0, 1) := by decide +kernel
theorem d_7_21_75 : decode prog_7_method_21_code 75 = .ok (.getfield 19, 3) := by decide +kernel
theorem d_7_21_78 : decode prog_7_method_21_code 78 = .ok (.getfield 131, 3) := by decide +kernel
theorem d_7_21_81 : decode prog_7_method_21_code 81 = .ok (.invokevirtual 194, 3) := by decide +kernel
set_option maxRecDepth 100000 in
theorem w_1199 : (Cond.methodLink "NumberHouse$Floats" (194 : Nat) ({ cls := "NumberHouse$Big", name := "subtractSize", desc := "(LNumberHouse$Big;)V" } : MethodName)) ∈ q_tbl := q_of5 239 rfl (by decide +kernel)
theorem LV_Flo_194 : q_LV "NumberHouse$Floats" 194 y_Big_subtractSize prog_2_method_24_code 5 none 1 := ⟨w_1202, w_4, w_1199, w_1200, w_1201, ⟨by decide, by decide, by decide +kernel⟩⟩
theorem d_7_21_84 : decode prog_7_method_21_code 84 = .ok (.iinc 1 1, 3) := by decide +kernel
theorem d_7_21_87 : decode prog_7_method_21_code 87 = .ok (.goto (-46), 3) := by decide +kernel
def y_Flo_nextFigure : MethodName := ⟨"NumberHouse$Floats", "nextFigure", "()I"⟩
theorem d_7_22_0 : decode prog_7_method_22_code 0 = .ok (.iload_n 2, 1) := by decide +kernel
theorem d_7_22_1 : decode prog_7_method_22_code 1 = .ok (.istore 4, 2) := by decide +kernel
theorem d_7_22_3 : decode prog_7_method_22_code 3 = .ok (.iload_n 1, 1) := by decide +kernel
theorem d_7_22_69 : decode prog_7_method_22_code 69 = .ok (.aload_n 0, 1) := by decide +kernel
theorem d_7_22_70 : decode prog_7_method_22_code 70 = .ok (.iload_n 3, 1) := by decide +kernel
theorem d_7_22_71 : decode prog_7_method_22_code 71 = .ok (.putfield 145, 3) := by decide +kernel
set_option maxRecDepth 100000 in
theorem w_240 : (Cond.fieldLink "NumberHouse$Floats" (145 : Nat) "NumberHouse$Floats" "shortPower" "I") ∈ q_tbl := q_of2 0 rfl (by decide +kernel)
theorem d_7_22_74 : decode prog_7_method_22_code 74 = .ok (.iload 4, 2) := by decide +kernel
theorem d_7_22_89 : decode prog_7_method_22_code 89 = .ok (.iconst 0, 1) := by decide +kernel
theorem d_7_22_90 : decode prog_7_method_22_code 90 = .ok (.istore 5, 2) := by decide +kernel
theorem d_7_22_92 : decode prog_7_method_22_code 92 = .ok (.iload 5, 2) := by decide +kernel
theorem d_7_22_94 : decode prog_7_method_22_code 94 = .ok (.bipush 20, 2) := by decide +kernel
theorem d_7_22_96 : decode prog_7_method_22_code 96 = .ok (.if_icmp .ge 44, 3) := by decide +kernel
theorem d_7_22_140 : decode prog_7_method_22_code 140 = .ok (.return_, 1) := by decide +kernel
theorem d_7_22_99 : decode prog_7_method_22_code 99 = .ok (.aload_n 0, 1) := by decide +kernel
theorem d_7_22_100 : decode prog_7_method_22_code 100 = .ok (.getfield 141, 3) := by decide +kernel
set_option maxRecDepth 100000 in
theorem w_237 : (Cond.fieldLink "NumberHouse$Floats" (141 : Nat) "NumberHouse$Floats" "shortNumber" "J") ∈ q_tbl := q_of1 237 rfl (by decide +kernel)
theorem d_7_22_103 : decode prog_7_method_22_code 103 = .ok (.ldc2_w 154, 3) := by decide +kernel
set_option maxRecDepth 100000 in
theorem w_1194 : (Cond.constantLong "NumberHouse$Floats" (154 : Nat) (10 : Int64)) ∈ q_tbl := q_of5 234 rfl (by decide +kernel)
theorem d_7_22_106 : decode prog_7_method_22_code 106 = .ok (.lrem, 1) := by decide +kernel
theorem d_7_22_107 : decode prog_7_method_22_code 107 = .ok (.lconst 0, 1) := by decide +kernel
theorem d_7_22_108 : decode prog_7_method_22_code 108 = .ok (.lcmp, 1) := by decide +kernel
theorem d_7_22_109 : decode prog_7_method_22_code 109 = .ok (.ifCond .ne 31, 3) := by decide +kernel
theorem d_7_22_112 : decode prog_7_method_22_code 112 = .ok (.aload_n 0, 1) := by decide +kernel
theorem d_7_22_113 : decode prog_7_method_22_code 113 = .ok (.dup, 1) := by decide +kernel
theorem d_7_22_114 : decode prog_7_method_22_code 114 = .ok (.getfield 141, 3) := by decide +kernel
theorem d_7_22_117 : decode prog_7_method_22_code 117 = .ok (.ldc2_w 154, 3) := by decide +kernel
theorem d_7_22_120 : decode prog_7_method_22_code 120 = .ok (.ldiv, 1) := by decide +kernel
theorem d_7_22_121 : decode prog_7_method_22_code 121 = .ok (.putfield 141, 3) := by decide +kernel
theorem d_7_22_124 : decode prog_7_method_22_code 124 = .ok (.aload_n 0, 1) := by decide +kernel
theorem d_7_22_125 : decode prog_7_method_22_code 125 = .ok (.dup, 1) := by decide +kernel
theorem d_7_22_126 : decode prog_7_method_22_code 126 = .ok (.getfield 145, 3) := by decide +kernel
theorem d_7_22_129 : decode prog_7_method_22_code 129 = .ok (.iconst 1, 1) := by decide +kernel
theorem d_7_22_130 : decode prog_7_method_22_code 130 = .ok (.iadd, 1) := by decide +kernel
theorem d_7_22_131 : decode prog_7_method_22_code 131 = .ok (.putfield 145, 3) := by decide +kernel
theorem d_7_22_134 : decode prog_7_method_22_code 134 = .ok (.iinc 5 1, 3) := by decide +kernel
theorem d_7_22_137 : decode prog_7_method_22_code 137 = .ok (.goto (-45), 3) := by decide +kernel
theorem d_7_22_76 : decode prog_7_method_22_code 76 = .ok (.ifCond .eq 13, 3) := by decide +kernel
theorem d_7_22_79 : decode prog_7_method_22_code 79 = .ok (.aload_n 0, 1) := by decide +kernel
theorem d_7_22_80 : decode prog_7_method_22_code 80 = .ok (.dup, 1) := by decide +kernel
theorem d_7_22_81 : decode prog_7_method_22_code 81 = .ok (.getfield 141, 3) := by decide +kernel
theorem d_7_22_84 : decode prog_7_method_22_code 84 = .ok (.lconst 1, 1) := by decide +kernel
theorem d_7_22_85 : decode prog_7_method_22_code 85 = .ok (.ladd, 1) := by decide +kernel
theorem d_7_22_86 : decode prog_7_method_22_code 86 = .ok (.putfield 141, 3) := by decide +kernel
theorem d_7_22_4 : decode prog_7_method_22_code 4 = .ok (.ifCond .eq 65, 3) := by decide +kernel
theorem d_7_22_7 : decode prog_7_method_22_code 7 = .ok (.iload_n 2, 1) := by decide +kernel
theorem d_7_22_8 : decode prog_7_method_22_code 8 = .ok (.ifCond .eq 61, 3) := by decide +kernel
theorem d_7_22_11 : decode prog_7_method_22_code 11 = .ok (.aload_n 0, 1) := by decide +kernel
theorem d_7_22_12 : decode prog_7_method_22_code 12 = .ok (.getfield 19, 3) := by decide +kernel
theorem d_7_22_15 : decode prog_7_method_22_code 15 = .ok (.getfield 124, 3) := by decide +kernel
theorem d_7_22_18 : decode prog_7_method_22_code 18 = .ok (.iconst 1, 1) := by decide +kernel
theorem d_7_22_19 : decode prog_7_method_22_code 19 = .ok (.invokevirtual 69, 3) := by decide +kernel
theorem d_7_22_22 : decode prog_7_method_22_code 22 = .ok (.aload_n 0, 1) := by decide +kernel
theorem d_7_22_23 : decode prog_7_method_22_code 23 = .ok (.getfield 19, 3) := by decide +kernel
theorem d_7_22_26 : decode prog_7_method_22_code 26 = .ok (.getfield 124, 3) := by decide +kernel
theorem d_7_22_29 : decode prog_7_method_22_code 29 = .ok (.aload_n 0, 1) := by decide +kernel
theorem d_7_22_30 : decode prog_7_method_22_code 30 = .ok (.getfield 19, 3) := by decide +kernel
theorem d_7_22_33 : decode prog_7_method_22_code 33 = .ok (.getfield 131, 3) := by decide +kernel
theorem d_7_22_36 : decode prog_7_method_22_code 36 = .ok (.invokevirtual 162, 3) := by decide +kernel
theorem d_7_22_39 : decode prog_7_method_22_code 39 = .ok (.istore 5, 2) := by decide +kernel
theorem d_7_22_41 : decode prog_7_method_22_code 41 = .ok (.iload 5, 2) := by decide +kernel
theorem d_7_22_67 : decode prog_7_method_22_code 67 = .ok (.istore 4, 2) := by decide +kernel
theorem d_7_22_62 : decode prog_7_method_22_code 62 = .ok (.iconst 1, 1) := by decide +kernel
theorem d_7_22_63 : decode prog_7_method_22_code 63 = .ok (.goto 4, 3) := by decide +kernel
theorem d_7_22_43 : decode prog_7_method_22_code 43 = .ok (.ifCond .gt 19, 3) := by decide +kernel
theorem d_7_22_46 : decode prog_7_method_22_code 46 = .ok (.iload 5, 2) := by decide +kernel
theorem d_7_22_66 : decode prog_7_method_22_code 66 = .ok (.iconst 0, 1) := by decide +kernel
theorem d_7_22_48 : decode prog_7_method_22_code 48 = .ok (.ifCond .ne 18, 3) := by decide +kernel
theorem d_7_22_51 : decode prog_7_method_22_code 51 = .ok (.aload_n 0, 1) := by decide +kernel
theorem d_7_22_52 : decode prog_7_method_22_code 52 = .ok (.getfield 141, 3) := by decide +kernel
theorem d_7_22_55 : decode prog_7_method_22_code 55 = .ok (.lconst 1, 1) := by decide +kernel
theorem d_7_22_56 : decode prog_7_method_22_code 56 = .ok (.land, 1) := by decide +kernel
theorem d_7_22_57 : decode prog_7_method_22_code 57 = .ok (.lconst 1, 1) := by decide +kernel
theorem d_7_22_58 : decode prog_7_method_22_code 58 = .ok (.lcmp, 1) := by decide +kernel
theorem d_7_22_59 : decode prog_7_method_22_code 59 = .ok (.ifCond .ne 7, 3) := by decide +kernel
def y_Flo_chooseEnd : MethodName := ⟨"NumberHouse$Floats", "chooseEnd", "(ZZI)V"⟩
theorem d_7_20_0 : decode prog_7_method_20_code 0 = .ok (.aload_n 0, 1) := by decide +kernel
theorem d_7_20_1 : decode prog_7_method_20_code 1 = .ok (.lload_n 1, 1) := by decide +kernel
theorem d_7_20_2 : decode prog_7_method_20_code 2 = .ok (.invokevirtual 52, 3) := by decide +kernel
theorem d_7_20_5 : decode prog_7_method_20_code 5 = .ok (.istore_n 3, 1) := by decide +kernel
theorem d_7_20_6 : decode prog_7_method_20_code 6 = .ok (.aload_n 0, 1) := by decide +kernel
theorem d_7_20_7 : decode prog_7_method_20_code 7 = .ok (.getfield 19, 3) := by decide +kernel
theorem d_7_20_10 : decode prog_7_method_20_code 10 = .ok (.getfield 124, 3) := by decide +kernel
theorem d_7_20_13 : decode prog_7_method_20_code 13 = .ok (.astore 4, 2) := by decide +kernel
theorem d_7_20_15 : decode prog_7_method_20_code 15 = .ok (.aload_n 0, 1) := by decide +kernel
theorem d_7_20_16 : decode prog_7_method_20_code 16 = .ok (.getfield 19, 3) := by decide +kernel
theorem d_7_20_19 : decode prog_7_method_20_code 19 = .ok (.getfield 131, 3) := by decide +kernel
theorem d_7_20_22 : decode prog_7_method_20_code 22 = .ok (.astore 5, 2) := by decide +kernel
theorem d_7_20_24 : decode prog_7_method_20_code 24 = .ok (.aload 4, 2) := by decide +kernel
theorem d_7_20_26 : decode prog_7_method_20_code 26 = .ok (.aload_n 0, 1) := by decide +kernel
theorem d_7_20_27 : decode prog_7_method_20_code 27 = .ok (.lload_n 1, 1) := by decide +kernel
theorem d_7_20_28 : decode prog_7_method_20_code 28 = .ok (.invokevirtual 61, 3) := by decide +kernel
theorem d_7_20_31 : decode prog_7_method_20_code 31 = .ok (.invokevirtual 63, 3) := by decide +kernel
theorem d_7_20_34 : decode prog_7_method_20_code 34 = .ok (.aload_n 0, 1) := by decide +kernel
theorem d_7_20_35 : decode prog_7_method_20_code 35 = .ok (.aload 4, 2) := by decide +kernel
theorem d_7_20_37 : decode prog_7_method_20_code 37 = .ok (.invokevirtual 104, 3) := by decide +kernel
theorem d_7_20_40 : decode prog_7_method_20_code 40 = .ok (.iconst 1, 1) := by decide +kernel
theorem d_7_20_41 : decode prog_7_method_20_code 41 = .ok (.isub, 1) := by decide +kernel
theorem d_7_20_42 : decode prog_7_method_20_code 42 = .ok (.iload_n 3, 1) := by decide +kernel
theorem d_7_20_43 : decode prog_7_method_20_code 43 = .ok (.iadd, 1) := by decide +kernel
theorem d_7_20_44 : decode prog_7_method_20_code 44 = .ok (.i2l, 1) := by decide +kernel
theorem d_7_20_45 : decode prog_7_method_20_code 45 = .ok (.ldc2_w 178, 3) := by decide +kernel
set_option maxRecDepth 100000 in
theorem w_1184 : (Cond.constantLong "NumberHouse$Floats" (178 : Nat) (301029995 : Int64)) ∈ q_tbl := q_of5 224 rfl (by decide +kernel)
theorem d_7_20_48 : decode prog_7_method_20_code 48 = .ok (.lmul, 1) := by decide +kernel
theorem d_7_20_49 : decode prog_7_method_20_code 49 = .ok (.ldc2_w 180, 3) := by decide +kernel
set_option maxRecDepth 100000 in
theorem w_1185 : (Cond.constantLong "NumberHouse$Floats" (180 : Nat) (1000000000 : Int64)) ∈ q_tbl := q_of5 225 rfl (by decide +kernel)
theorem d_7_20_52 : decode prog_7_method_20_code 52 = .ok (.invokestatic 182, 3) := by decide +kernel
set_option maxRecDepth 100000 in
theorem w_1188 : (Cond.code ({ cls := "java/lang/Math", name := "floorDiv", desc := "(JJ)J" } : MethodName) prog_29_method_49_code (6 : Nat) (some .long)) ∈ q_tbl := q_of5 228 rfl (by decide +kernel)
set_option maxRecDepth 100000 in
theorem w_1186 : (Cond.methodLink "NumberHouse$Floats" (182 : Nat) ({ cls := "java/lang/Math", name := "floorDiv", desc := "(JJ)J" } : MethodName)) ∈ q_tbl := q_of5 226 rfl (by decide +kernel)
set_option maxRecDepth 100000 in
theorem w_1187 : (Cond.static ({ cls := "java/lang/Math", name := "floorDiv", desc := "(JJ)J" } : MethodName)) ∈ q_tbl := q_of5 227 rfl (by decide +kernel)
theorem LS_Flo_182 : q_LS "NumberHouse$Floats" 182 y_jMath_floorDiv_JJJ prog_29_method_49_code 6 (some .long) 2 := ⟨w_1188, w_7, w_1186, w_1187, ⟨by decide, by decide, by decide +kernel⟩⟩
theorem d_7_20_55 : decode prog_7_method_20_code 55 = .ok (.l2i, 1) := by decide +kernel
theorem d_7_20_56 : decode prog_7_method_20_code 56 = .ok (.putfield 171, 3) := by decide +kernel
set_option maxRecDepth 100000 in
theorem w_242 : (Cond.fieldLink "NumberHouse$Floats" (171 : Nat) "NumberHouse$Floats" "estimate" "I") ∈ q_tbl := q_of2 2 rfl (by decide +kernel)
theorem d_7_20_59 : decode prog_7_method_20_code 59 = .ok (.aload 4, 2) := by decide +kernel
theorem d_7_20_61 : decode prog_7_method_20_code 61 = .ok (.iconst 2, 1) := by decide +kernel
theorem d_7_20_62 : decode prog_7_method_20_code 62 = .ok (.iconst 0, 1) := by decide +kernel
theorem d_7_20_63 : decode prog_7_method_20_code 63 = .ok (.iload_n 3, 1) := by decide +kernel
theorem d_7_20_64 : decode prog_7_method_20_code 64 = .ok (.invokestatic 46, 3) := by decide +kernel
theorem d_7_20_67 : decode prog_7_method_20_code 67 = .ok (.iadd, 1) := by decide +kernel
theorem d_7_20_68 : decode prog_7_method_20_code 68 = .ok (.invokevirtual 69, 3) := by decide +kernel
theorem d_7_20_71 : decode prog_7_method_20_code 71 = .ok (.aload 5, 2) := by decide +kernel
theorem d_7_20_73 : decode prog_7_method_20_code 73 = .ok (.lconst 1, 1) := by decide +kernel
theorem d_7_20_74 : decode prog_7_method_20_code 74 = .ok (.invokevirtual 63, 3) := by decide +kernel
theorem d_7_20_77 : decode prog_7_method_20_code 77 = .ok (.aload 5, 2) := by decide +kernel
theorem d_7_20_79 : decode prog_7_method_20_code 79 = .ok (.iconst 2, 1) := by decide +kernel
theorem d_7_20_80 : decode prog_7_method_20_code 80 = .ok (.iconst 0, 1) := by decide +kernel
theorem d_7_20_81 : decode prog_7_method_20_code 81 = .ok (.iload_n 3, 1) := by decide +kernel
theorem d_7_20_82 : decode prog_7_method_20_code 82 = .ok (.ineg, 1) := by decide +kernel
theorem d_7_20_83 : decode prog_7_method_20_code 83 = .ok (.invokestatic 46, 3) := by decide +kernel
theorem d_7_20_86 : decode prog_7_method_20_code 86 = .ok (.iadd, 1) := by decide +kernel
theorem d_7_20_87 : decode prog_7_method_20_code 87 = .ok (.invokevirtual 69, 3) := by decide +kernel
theorem d_7_20_90 : decode prog_7_method_20_code 90 = .ok (.aload_n 0, 1) := by decide +kernel
theorem d_7_20_91 : decode prog_7_method_20_code 91 = .ok (.getfield 19, 3) := by decide +kernel
theorem d_7_20_94 : decode prog_7_method_20_code 94 = .ok (.getfield 165, 3) := by decide +kernel
theorem d_7_20_97 : decode prog_7_method_20_code 97 = .ok (.ldc2_w 185, 3) := by decide +kernel
set_option maxRecDepth 100000 in
theorem w_1189 : (Cond.constantLong "NumberHouse$Floats" (185 : Nat) (2 : Int64)) ∈ q_tbl := q_of5 229 rfl (by decide +kernel)
theorem d_7_20_100 : decode prog_7_method_20_code 100 = .ok (.invokevirtual 63, 3) := by decide +kernel
theorem d_7_20_103 : decode prog_7_method_20_code 103 = .ok (.aload_n 0, 1) := by decide +kernel
theorem d_7_20_104 : decode prog_7_method_20_code 104 = .ok (.getfield 19, 3) := by decide +kernel
theorem d_7_20_107 : decode prog_7_method_20_code 107 = .ok (.getfield 165, 3) := by decide +kernel
theorem d_7_20_110 : decode prog_7_method_20_code 110 = .ok (.iconst 0, 1) := by decide +kernel
theorem d_7_20_111 : decode prog_7_method_20_code 111 = .ok (.iload_n 3, 1) := by decide +kernel
theorem d_7_20_112 : decode prog_7_method_20_code 112 = .ok (.invokestatic 46, 3) := by decide +kernel
theorem d_7_20_115 : decode prog_7_method_20_code 115 = .ok (.invokevirtual 69, 3) := by decide +kernel
theorem d_7_20_118 : decode prog_7_method_20_code 118 = .ok (.aload_n 0, 1) := by decide +kernel
theorem d_7_20_119 : decode prog_7_method_20_code 119 = .ok (.getfield 19, 3) := by decide +kernel
theorem d_7_20_122 : decode prog_7_method_20_code 122 = .ok (.getfield 159, 3) := by decide +kernel
theorem d_7_20_125 : decode prog_7_method_20_code 125 = .ok (.aload_n 0, 1) := by decide +kernel
theorem d_7_20_126 : decode prog_7_method_20_code 126 = .ok (.getfield 19, 3) := by decide +kernel
theorem d_7_20_129 : decode prog_7_method_20_code 129 = .ok (.getfield 165, 3) := by decide +kernel
theorem d_7_20_132 : decode prog_7_method_20_code 132 = .ok (.invokevirtual 127, 3) := by decide +kernel
set_option maxRecDepth 100000 in
theorem w_787 : (Cond.methodLink "NumberHouse$Floats" (127 : Nat) ({ cls := "NumberHouse$Big", name := "copy", desc := "(LNumberHouse$Big;)V" } : MethodName)) ∈ q_tbl := q_of4 67 rfl (by decide +kernel)
theorem LV_Flo_127 : q_LV "NumberHouse$Floats" 127 y_Big_copy prog_2_method_4_code 2 none 1 := ⟨w_790, w_4, w_787, w_788, w_789, ⟨by decide, by decide, by decide +kernel⟩⟩
theorem d_7_20_135 : decode prog_7_method_20_code 135 = .ok (.aload_n 0, 1) := by decide +kernel
theorem d_7_20_136 : decode prog_7_method_20_code 136 = .ok (.lload_n 1, 1) := by decide +kernel
theorem d_7_20_137 : decode prog_7_method_20_code 137 = .ok (.invokevirtual 35, 3) := by decide +kernel
theorem d_7_20_140 : decode prog_7_method_20_code 140 = .ok (.lconst 0, 1) := by decide +kernel
theorem d_7_20_141 : decode prog_7_method_20_code 141 = .ok (.lcmp, 1) := by decide +kernel
theorem d_7_20_166 : decode prog_7_method_20_code 166 = .ok (.aload 5, 2) := by decide +kernel
theorem d_7_20_168 : decode prog_7_method_20_code 168 = .ok (.aload_n 0, 1) := by decide +kernel
theorem d_7_20_169 : decode prog_7_method_20_code 169 = .ok (.getfield 171, 3) := by decide +kernel
theorem d_7_20_172 : decode prog_7_method_20_code 172 = .ok (.invokevirtual 187, 3) := by decide +kernel
set_option maxRecDepth 100000 in
theorem w_1191 : (Cond.methodLink "NumberHouse$Floats" (187 : Nat) ({ cls := "NumberHouse$Big", name := "timesTen", desc := "(I)V" } : MethodName)) ∈ q_tbl := q_of5 231 rfl (by decide +kernel)
theorem LV_Flo_187 : q_LV "NumberHouse$Floats" 187 y_Big_timesTen prog_2_method_28_code 3 none 1 := ⟨w_770, w_4, w_1191, w_768, w_769, ⟨by decide, by decide, by decide +kernel⟩⟩
theorem d_7_20_175 : decode prog_7_method_20_code 175 = .ok (.aload 4, 2) := by decide +kernel
theorem d_7_20_177 : decode prog_7_method_20_code 177 = .ok (.aload_n 0, 1) := by decide +kernel
theorem d_7_20_178 : decode prog_7_method_20_code 178 = .ok (.getfield 171, 3) := by decide +kernel
theorem d_7_20_181 : decode prog_7_method_20_code 181 = .ok (.ineg, 1) := by decide +kernel
theorem d_7_20_182 : decode prog_7_method_20_code 182 = .ok (.invokevirtual 187, 3) := by decide +kernel
theorem d_7_20_185 : decode prog_7_method_20_code 185 = .ok (.aload_n 0, 1) := by decide +kernel
theorem d_7_20_186 : decode prog_7_method_20_code 186 = .ok (.getfield 19, 3) := by decide +kernel
theorem d_7_20_189 : decode prog_7_method_20_code 189 = .ok (.getfield 165, 3) := by decide +kernel
theorem d_7_20_192 : decode prog_7_method_20_code 192 = .ok (.aload_n 0, 1) := by decide +kernel
theorem d_7_20_193 : decode prog_7_method_20_code 193 = .ok (.getfield 171, 3) := by decide +kernel
theorem d_7_20_196 : decode prog_7_method_20_code 196 = .ok (.ineg, 1) := by decide +kernel
theorem d_7_20_197 : decode prog_7_method_20_code 197 = .ok (.invokevirtual 187, 3) := by decide +kernel
theorem d_7_20_200 : decode prog_7_method_20_code 200 = .ok (.aload_n 0, 1) := by decide +kernel
theorem d_7_20_201 : decode prog_7_method_20_code 201 = .ok (.getfield 19, 3) := by decide +kernel
theorem d_7_20_204 : decode prog_7_method_20_code 204 = .ok (.getfield 159, 3) := by decide +kernel
theorem d_7_20_207 : decode prog_7_method_20_code 207 = .ok (.aload_n 0, 1) := by decide +kernel
theorem d_7_20_208 : decode prog_7_method_20_code 208 = .ok (.getfield 171, 3) := by decide +kernel
theorem d_7_20_211 : decode prog_7_method_20_code 211 = .ok (.ineg, 1) := by decide +kernel
theorem d_7_20_212 : decode prog_7_method_20_code 212 = .ok (.invokevirtual 187, 3) := by decide +kernel
theorem d_7_20_215 : decode prog_7_method_20_code 215 = .ok (.iconst 0, 1) := by decide +kernel
theorem d_7_20_216 : decode prog_7_method_20_code 216 = .ok (.istore 6, 2) := by decide +kernel
theorem d_7_20_218 : decode prog_7_method_20_code 218 = .ok (.iload 6, 2) := by decide +kernel
theorem d_7_20_220 : decode prog_7_method_20_code 220 = .ok (.iconst 3, 1) := by decide +kernel
theorem d_7_20_221 : decode prog_7_method_20_code 221 = .ok (.if_icmp .ge 37, 3) := by decide +kernel
theorem d_7_20_258 : decode prog_7_method_20_code 258 = .ok (.return_, 1) := by decide +kernel
theorem d_7_20_224 : decode prog_7_method_20_code 224 = .ok (.aload 4, 2) := by decide +kernel
theorem d_7_20_226 : decode prog_7_method_20_code 226 = .ok (.aload 5, 2) := by decide +kernel
theorem d_7_20_228 : decode prog_7_method_20_code 228 = .ok (.invokevirtual 162, 3) := by decide +kernel
theorem d_7_20_231 : decode prog_7_method_20_code 231 = .ok (.ifCond .lt 27, 3) := by decide +kernel
theorem d_7_20_234 : decode prog_7_method_20_code 234 = .ok (.aload 5, 2) := by decide +kernel
theorem d_7_20_236 : decode prog_7_method_20_code 236 = .ok (.bipush 10, 2) := by decide +kernel
theorem d_7_20_238 : decode prog_7_method_20_code 238 = .ok (.iconst 0, 1) := by decide +kernel
theorem d_7_20_239 : decode prog_7_method_20_code 239 = .ok (.invokevirtual 190, 3) := by decide +kernel
theorem d_7_20_242 : decode prog_7_method_20_code 242 = .ok (.aload_n 0, 1) := by decide +kernel
theorem d_7_20_243 : decode prog_7_method_20_code 243 = .ok (.dup, 1) := by decide +kernel
theorem d_7_20_244 : decode prog_7_method_20_code 244 = .ok (.getfield 171, 3) := by decide +kernel
theorem d_7_20_247 : decode prog_7_method_20_code 247 = .ok (.iconst 1, 1) := by decide +kernel
theorem d_7_20_248 : decode prog_7_method_20_code 248 = .ok (.iadd, 1) := by decide +kernel
theorem d_7_20_249 : decode prog_7_method_20_code 249 = .ok (.putfield 171, 3) := by decide +kernel
theorem d_7_20_252 : decode prog_7_method_20_code 252 = .ok (.iinc 6 1, 3) := by decide +kernel
theorem d_7_20_255 : decode prog_7_method_20_code 255 = .ok (.goto (-37), 3) := by decide +kernel
theorem d_7_20_142 : decode prog_7_method_20_code 142 = .ok (.ifCond .ne 24, 3) := by decide +kernel
theorem d_7_20_145 : decode prog_7_method_20_code 145 = .ok (.aload_n 0, 1) := by decide +kernel
theorem d_7_20_146 : decode prog_7_method_20_code 146 = .ok (.lload_n 1, 1) := by decide +kernel
theorem d_7_20_147 : decode prog_7_method_20_code 147 = .ok (.invokevirtual 27, 3) := by decide +kernel
theorem d_7_20_150 : decode prog_7_method_20_code 150 = .ok (.iconst 1, 1) := by decide +kernel
theorem d_7_20_151 : decode prog_7_method_20_code 151 = .ok (.if_icmp .le 15, 3) := by decide +kernel
theorem d_7_20_154 : decode prog_7_method_20_code 154 = .ok (.aload_n 0, 1) := by decide +kernel
theorem d_7_20_155 : decode prog_7_method_20_code 155 = .ok (.getfield 19, 3) := by decide +kernel
theorem d_7_20_158 : decode prog_7_method_20_code 158 = .ok (.getfield 159, 3) := by decide +kernel
theorem d_7_20_161 : decode prog_7_method_20_code 161 = .ok (.iconst 1, 1) := by decide +kernel
theorem d_7_20_162 : decode prog_7_method_20_code 162 = .ok (.invokevirtual 73, 3) := by decide +kernel
theorem d_7_20_165 : decode prog_7_method_20_code 165 = .ok (.pop, 1) := by decide +kernel
def y_Flo_prepare : MethodName := ⟨"NumberHouse$Floats", "prepare", "(J)V"⟩
theorem d_7_19_0 : decode prog_7_method_19_code 0 = .ok (.aload_n 0, 1) := by decide +kernel
theorem d_7_19_1 : decode prog_7_method_19_code 1 = .ok (.lconst 0, 1) := by decide +kernel
theorem d_7_19_2 : decode prog_7_method_19_code 2 = .ok (.putfield 141, 3) := by decide +kernel
theorem d_7_19_5 : decode prog_7_method_19_code 5 = .ok (.aload_n 0, 1) := by decide +kernel
theorem d_7_19_6 : decode prog_7_method_19_code 6 = .ok (.iconst 0, 1) := by decide +kernel
theorem d_7_19_7 : decode prog_7_method_19_code 7 = .ok (.putfield 145, 3) := by decide +kernel
theorem d_7_19_10 : decode prog_7_method_19_code 10 = .ok (.aload_n 0, 1) := by decide +kernel
theorem d_7_19_11 : decode prog_7_method_19_code 11 = .ok (.lload_n 1, 1) := by decide +kernel
theorem d_7_19_12 : decode prog_7_method_19_code 12 = .ok (.invokevirtual 148, 3) := by decide +kernel
set_option maxRecDepth 100000 in
theorem w_1167 : (Cond.code ({ cls := "NumberHouse$Floats", name := "isZero", desc := "(J)Z" } : MethodName) prog_7_method_7_code (3 : Nat) (some .boolean)) ∈ q_tbl := q_of5 207 rfl (by decide +kernel)
set_option maxRecDepth 100000 in
theorem w_1164 : (Cond.methodLink "NumberHouse$Floats" (148 : Nat) ({ cls := "NumberHouse$Floats", name := "isZero", desc := "(J)Z" } : MethodName)) ∈ q_tbl := q_of5 204 rfl (by decide +kernel)
set_option maxRecDepth 100000 in
theorem w_1165 : (Cond.instanceMethod ({ cls := "NumberHouse$Floats", name := "isZero", desc := "(J)Z" } : MethodName)) ∈ q_tbl := q_of5 205 rfl (by decide +kernel)
set_option maxRecDepth 100000 in
theorem w_1166 : (Cond.selects "NumberHouse$Floats" ({ cls := "NumberHouse$Floats", name := "isZero", desc := "(J)Z" } : MethodName) ({ cls := "NumberHouse$Floats", name := "isZero", desc := "(J)Z" } : MethodName)) ∈ q_tbl := q_of5 206 rfl (by decide +kernel)
theorem LV_Flo_148 : q_LV "NumberHouse$Floats" 148 y_Flo_isZero prog_7_method_7_code 3 (some .boolean) 1 := ⟨w_1167, w_8, w_1164, w_1165, w_1166, ⟨by decide, by decide, by decide +kernel⟩⟩
theorem d_7_19_15 : decode prog_7_method_19_code 15 = .ok (.ifCond .eq 4, 3) := by decide +kernel
theorem d_7_19_19 : decode prog_7_method_19_code 19 = .ok (.aload_n 0, 1) := by decide +kernel
theorem d_7_19_20 : decode prog_7_method_19_code 20 = .ok (.lload_n 1, 1) := by decide +kernel
theorem d_7_19_21 : decode prog_7_method_19_code 21 = .ok (.invokevirtual 151, 3) := by decide +kernel
set_option maxRecDepth 100000 in
theorem w_1175 : (Cond.code ({ cls := "NumberHouse$Floats", name := "prepare", desc := "(J)V" } : MethodName) prog_7_method_20_code (7 : Nat) (none : Option ClassFile.FieldType)) ∈ q_tbl := q_of5 215 rfl (by decide +kernel)
set_option maxRecDepth 100000 in
theorem w_1172 : (Cond.methodLink "NumberHouse$Floats" (151 : Nat) ({ cls := "NumberHouse$Floats", name := "prepare", desc := "(J)V" } : MethodName)) ∈ q_tbl := q_of5 212 rfl (by decide +kernel)
set_option maxRecDepth 100000 in
theorem w_1174 : (Cond.instanceMethod ({ cls := "NumberHouse$Floats", name := "prepare", desc := "(J)V" } : MethodName)) ∈ q_tbl := q_of5 214 rfl (by decide +kernel)
theorem ws_23 : Cond.selects "NumberHouse$Floats" (⟨"NumberHouse$Floats", "prepare", "(J)V"⟩ : MethodName) (⟨"NumberHouse$Floats", "prepare", "(J)V"⟩ : MethodName) ∈ q_tbl := q_ofs 23 (by decide +kernel) (by decide +kernel)
theorem LV_Flo_151 : q_LV "NumberHouse$Floats" 151 y_Flo_prepare prog_7_method_20_code 7 none 1 := ⟨w_1175, w_8, w_1172, w_1174, ws_23, ⟨by decide, by decide, by decide +kernel⟩⟩
theorem d_7_19_24 : decode prog_7_method_19_code 24 = .ok (.aload_n 0, 1) := by decide +kernel
theorem d_7_19_25 : decode prog_7_method_19_code 25 = .ok (.getfield 19, 3) := by decide +kernel
theorem d_7_19_28 : decode prog_7_method_19_code 28 = .ok (.getfield 124, 3) := by decide +kernel
theorem d_7_19_31 : decode prog_7_method_19_code 31 = .ok (.astore_n 3, 1) := by decide +kernel
theorem d_7_19_32 : decode prog_7_method_19_code 32 = .ok (.aload_n 0, 1) := by decide +kernel
theorem d_7_19_33 : decode prog_7_method_19_code 33 = .ok (.getfield 19, 3) := by decide +kernel
theorem d_7_19_36 : decode prog_7_method_19_code 36 = .ok (.getfield 131, 3) := by decide +kernel
theorem d_7_19_39 : decode prog_7_method_19_code 39 = .ok (.astore 4, 2) := by decide +kernel
theorem d_7_19_41 : decode prog_7_method_19_code 41 = .ok (.lload_n 1, 1) := by decide +kernel
theorem d_7_19_42 : decode prog_7_method_19_code 42 = .ok (.lconst 1, 1) := by decide +kernel
theorem d_7_19_43 : decode prog_7_method_19_code 43 = .ok (.land, 1) := by decide +kernel
theorem d_7_19_44 : decode prog_7_method_19_code 44 = .ok (.lconst 0, 1) := by decide +kernel
theorem d_7_19_45 : decode prog_7_method_19_code 45 = .ok (.lcmp, 1) := by decide +kernel
theorem d_7_19_54 : decode prog_7_method_19_code 54 = .ok (.istore 5, 2) := by decide +kernel
theorem d_7_19_56 : decode prog_7_method_19_code 56 = .ok (.iconst 1, 1) := by decide +kernel
theorem d_7_19_57 : decode prog_7_method_19_code 57 = .ok (.istore 6, 2) := by decide +kernel
theorem d_7_19_59 : decode prog_7_method_19_code 59 = .ok (.iload 6, 2) := by decide +kernel
theorem d_7_19_61 : decode prog_7_method_19_code 61 = .ok (.bipush 20, 2) := by decide +kernel
theorem d_7_19_63 : decode prog_7_method_19_code 63 = .ok (.if_icmp .gt 153, 3) := by decide +kernel
theorem d_7_19_216 : decode prog_7_method_19_code 216 = .ok (.return_, 1) := by decide +kernel
theorem d_7_19_66 : decode prog_7_method_19_code 66 = .ok (.aload_n 0, 1) := by decide +kernel
theorem d_7_19_67 : decode prog_7_method_19_code 67 = .ok (.aload_n 0, 1) := by decide +kernel
theorem d_7_19_68 : decode prog_7_method_19_code 68 = .ok (.getfield 141, 3) := by decide +kernel
theorem d_7_19_71 : decode prog_7_method_19_code 71 = .ok (.ldc2_w 154, 3) := by decide +kernel
theorem d_7_19_74 : decode prog_7_method_19_code 74 = .ok (.lmul, 1) := by decide +kernel
theorem d_7_19_75 : decode prog_7_method_19_code 75 = .ok (.aload_n 0, 1) := by decide +kernel
theorem d_7_19_76 : decode prog_7_method_19_code 76 = .ok (.invokevirtual 156, 3) := by decide +kernel
set_option maxRecDepth 100000 in
theorem w_1198 : (Cond.code ({ cls := "NumberHouse$Floats", name := "nextFigure", desc := "()I" } : MethodName) prog_7_method_21_code (2 : Nat) (some .int)) ∈ q_tbl := q_of5 238 rfl (by decide +kernel)
set_option maxRecDepth 100000 in
theorem w_1195 : (Cond.methodLink "NumberHouse$Floats" (156 : Nat) ({ cls := "NumberHouse$Floats", name := "nextFigure", desc := "()I" } : MethodName)) ∈ q_tbl := q_of5 235 rfl (by decide +kernel)
set_option maxRecDepth 100000 in
theorem w_1197 : (Cond.instanceMethod ({ cls := "NumberHouse$Floats", name := "nextFigure", desc := "()I" } : MethodName)) ∈ q_tbl := q_of5 237 rfl (by decide +kernel)
theorem ws_24 : Cond.selects "NumberHouse$Floats" (⟨"NumberHouse$Floats", "nextFigure", "()I"⟩ : MethodName) (⟨"NumberHouse$Floats", "nextFigure", "()I"⟩ : MethodName) ∈ q_tbl := q_ofs 24 (by decide +kernel) (by decide +kernel)
theorem LV_Flo_156 : q_LV "NumberHouse$Floats" 156 y_Flo_nextFigure prog_7_method_21_code 2 (some .int) 0 := ⟨w_1198, w_8, w_1195, w_1197, ws_24, ⟨by decide, by decide, by decide +kernel⟩⟩
theorem d_7_19_79 : decode prog_7_method_19_code 79 = .ok (.i2l, 1) := by decide +kernel
theorem d_7_19_80 : decode prog_7_method_19_code 80 = .ok (.ladd, 1) := by decide +kernel
theorem d_7_19_81 : decode prog_7_method_19_code 81 = .ok (.putfield 141, 3) := by decide +kernel
theorem d_7_19_84 : decode prog_7_method_19_code 84 = .ok (.iload 6, 2) := by decide +kernel
theorem d_7_19_86 : decode prog_7_method_19_code 86 = .ok (.iconst 1, 1) := by decide +kernel
theorem d_7_19_87 : decode prog_7_method_19_code 87 = .ok (.if_icmp .ne 6, 3) := by decide +kernel
theorem d_7_19_93 : decode prog_7_method_19_code 93 = .ok (.aload_n 3, 1) := by decide +kernel
theorem d_7_19_94 : decode prog_7_method_19_code 94 = .ok (.aload_n 0, 1) := by decide +kernel
theorem d_7_19_95 : decode prog_7_method_19_code 95 = .ok (.getfield 19, 3) := by decide +kernel
theorem d_7_19_98 : decode prog_7_method_19_code 98 = .ok (.getfield 159, 3) := by decide +kernel
theorem d_7_19_101 : decode prog_7_method_19_code 101 = .ok (.invokevirtual 162, 3) := by decide +kernel
theorem d_7_19_104 : decode prog_7_method_19_code 104 = .ok (.iload 5, 2) := by decide +kernel
theorem d_7_19_122 : decode prog_7_method_19_code 122 = .ok (.istore 7, 2) := by decide +kernel
theorem d_7_19_124 : decode prog_7_method_19_code 124 = .ok (.aload_n 0, 1) := by decide +kernel
theorem d_7_19_125 : decode prog_7_method_19_code 125 = .ok (.getfield 19, 3) := by decide +kernel
theorem d_7_19_128 : decode prog_7_method_19_code 128 = .ok (.getfield 55, 3) := by decide +kernel
theorem d_7_19_131 : decode prog_7_method_19_code 131 = .ok (.aload_n 3, 1) := by decide +kernel
theorem d_7_19_132 : decode prog_7_method_19_code 132 = .ok (.invokevirtual 127, 3) := by decide +kernel
theorem d_7_19_135 : decode prog_7_method_19_code 135 = .ok (.aload_n 0, 1) := by decide +kernel
theorem d_7_19_136 : decode prog_7_method_19_code 136 = .ok (.getfield 19, 3) := by decide +kernel
theorem d_7_19_139 : decode prog_7_method_19_code 139 = .ok (.getfield 55, 3) := by decide +kernel
theorem d_7_19_142 : decode prog_7_method_19_code 142 = .ok (.aload_n 0, 1) := by decide +kernel
theorem d_7_19_143 : decode prog_7_method_19_code 143 = .ok (.getfield 19, 3) := by decide +kernel
theorem d_7_19_146 : decode prog_7_method_19_code 146 = .ok (.getfield 165, 3) := by decide +kernel
theorem d_7_19_149 : decode prog_7_method_19_code 149 = .ok (.invokevirtual 168, 3) := by decide +kernel
set_option maxRecDepth 100000 in
theorem w_1203 : (Cond.methodLink "NumberHouse$Floats" (168 : Nat) ({ cls := "NumberHouse$Big", name := "addSize", desc := "(LNumberHouse$Big;)V" } : MethodName)) ∈ q_tbl := q_of6 3 rfl (by decide +kernel)
theorem LV_Flo_168 : q_LV "NumberHouse$Floats" 168 y_Big_addSize prog_2_method_23_code 6 none 1 := ⟨w_1206, w_4, w_1203, w_1204, w_1205, ⟨by decide, by decide, by decide +kernel⟩⟩
theorem d_7_19_152 : decode prog_7_method_19_code 152 = .ok (.aload_n 0, 1) := by decide +kernel
theorem d_7_19_153 : decode prog_7_method_19_code 153 = .ok (.getfield 19, 3) := by decide +kernel
theorem d_7_19_156 : decode prog_7_method_19_code 156 = .ok (.getfield 55, 3) := by decide +kernel
theorem d_7_19_159 : decode prog_7_method_19_code 159 = .ok (.aload 4, 2) := by decide +kernel
theorem d_7_19_161 : decode prog_7_method_19_code 161 = .ok (.invokevirtual 162, 3) := by decide +kernel
theorem d_7_19_164 : decode prog_7_method_19_code 164 = .ok (.iload 5, 2) := by decide +kernel
theorem d_7_19_182 : decode prog_7_method_19_code 182 = .ok (.istore 8, 2) := by decide +kernel
theorem d_7_19_184 : decode prog_7_method_19_code 184 = .ok (.iload 7, 2) := by decide +kernel
theorem d_7_19_186 : decode prog_7_method_19_code 186 = .ok (.ifCond .ne 8, 3) := by decide +kernel
theorem d_7_19_194 : decode prog_7_method_19_code 194 = .ok (.aload_n 0, 1) := by decide +kernel
theorem d_7_19_195 : decode prog_7_method_19_code 195 = .ok (.iload 7, 2) := by decide +kernel
theorem d_7_19_197 : decode prog_7_method_19_code 197 = .ok (.iload 8, 2) := by decide +kernel
theorem d_7_19_199 : decode prog_7_method_19_code 199 = .ok (.aload_n 0, 1) := by decide +kernel
theorem d_7_19_200 : decode prog_7_method_19_code 200 = .ok (.getfield 171, 3) := by decide +kernel
theorem d_7_19_203 : decode prog_7_method_19_code 203 = .ok (.iload 6, 2) := by decide +kernel
theorem d_7_19_205 : decode prog_7_method_19_code 205 = .ok (.isub, 1) := by decide +kernel
theorem d_7_19_206 : decode prog_7_method_19_code 206 = .ok (.invokevirtual 174, 3) := by decide +kernel
set_option maxRecDepth 100000 in
theorem w_1210 : (Cond.code ({ cls := "NumberHouse$Floats", name := "chooseEnd", desc := "(ZZI)V" } : MethodName) prog_7_method_22_code (6 : Nat) (none : Option ClassFile.FieldType)) ∈ q_tbl := q_of6 10 rfl (by decide +kernel)
set_option maxRecDepth 100000 in
theorem w_1207 : (Cond.methodLink "NumberHouse$Floats" (174 : Nat) ({ cls := "NumberHouse$Floats", name := "chooseEnd", desc := "(ZZI)V" } : MethodName)) ∈ q_tbl := q_of6 7 rfl (by decide +kernel)
set_option maxRecDepth 100000 in
theorem w_1209 : (Cond.instanceMethod ({ cls := "NumberHouse$Floats", name := "chooseEnd", desc := "(ZZI)V" } : MethodName)) ∈ q_tbl := q_of6 9 rfl (by decide +kernel)
theorem ws_25 : Cond.selects "NumberHouse$Floats" (⟨"NumberHouse$Floats", "chooseEnd", "(ZZI)V"⟩ : MethodName) (⟨"NumberHouse$Floats", "chooseEnd", "(ZZI)V"⟩ : MethodName) ∈ q_tbl := q_ofs 25 (by decide +kernel) (by decide +kernel)
theorem LV_Flo_174 : q_LV "NumberHouse$Floats" 174 y_Flo_chooseEnd prog_7_method_22_code 6 none 3 := ⟨w_1210, w_8, w_1207, w_1209, ws_25, ⟨by decide, by decide, by decide +kernel⟩⟩
theorem d_7_19_209 : decode prog_7_method_19_code 209 = .ok (.return_, 1) := by decide +kernel
theorem d_7_19_189 : decode prog_7_method_19_code 189 = .ok (.iload 8, 2) := by decide +kernel
theorem d_7_19_191 : decode prog_7_method_19_code 191 = .ok (.ifCond .eq 19, 3) := by decide +kernel
theorem d_7_19_210 : decode prog_7_method_19_code 210 = .ok (.iinc 6 1, 3) := by decide +kernel
theorem d_7_19_213 : decode prog_7_method_19_code 213 = .ok (.goto (-154), 3) := by decide +kernel
theorem d_7_19_174 : decode prog_7_method_19_code 174 = .ok (.if_icmp .le 7, 3) := by decide +kernel
theorem d_7_19_181 : decode prog_7_method_19_code 181 = .ok (.iconst 0, 1) := by decide +kernel
theorem d_7_19_177 : decode prog_7_method_19_code 177 = .ok (.iconst 1, 1) := by decide +kernel
theorem d_7_19_178 : decode prog_7_method_19_code 178 = .ok (.goto 4, 3) := by decide +kernel
theorem d_7_19_166 : decode prog_7_method_19_code 166 = .ok (.ifCond .eq 7, 3) := by decide +kernel
theorem d_7_19_173 : decode prog_7_method_19_code 173 = .ok (.iconst 0, 1) := by decide +kernel
theorem d_7_19_169 : decode prog_7_method_19_code 169 = .ok (.iconst (-1), 1) := by decide +kernel
theorem d_7_19_170 : decode prog_7_method_19_code 170 = .ok (.goto 4, 3) := by decide +kernel
theorem d_7_19_114 : decode prog_7_method_19_code 114 = .ok (.if_icmp .ge 7, 3) := by decide +kernel
theorem d_7_19_121 : decode prog_7_method_19_code 121 = .ok (.iconst 0, 1) := by decide +kernel
theorem d_7_19_117 : decode prog_7_method_19_code 117 = .ok (.iconst 1, 1) := by decide +kernel
theorem d_7_19_118 : decode prog_7_method_19_code 118 = .ok (.goto 4, 3) := by decide +kernel
theorem d_7_19_106 : decode prog_7_method_19_code 106 = .ok (.ifCond .eq 7, 3) := by decide +kernel
theorem d_7_19_113 : decode prog_7_method_19_code 113 = .ok (.iconst 0, 1) := by decide +kernel
theorem d_7_19_109 : decode prog_7_method_19_code 109 = .ok (.iconst 1, 1) := by decide +kernel
theorem d_7_19_110 : decode prog_7_method_19_code 110 = .ok (.goto 4, 3) := by decide +kernel
theorem d_7_19_90 : decode prog_7_method_19_code 90 = .ok (.goto 120, 3) := by decide +kernel
theorem d_7_19_46 : decode prog_7_method_19_code 46 = .ok (.ifCond .ne 7, 3) := by decide +kernel
theorem d_7_19_53 : decode prog_7_method_19_code 53 = .ok (.iconst 0, 1) := by decide +kernel
theorem d_7_19_49 : decode prog_7_method_19_code 49 = .ok (.iconst 1, 1) := by decide +kernel
theorem d_7_19_50 : decode prog_7_method_19_code 50 = .ok (.goto 4, 3) := by decide +kernel
theorem d_7_19_18 : decode prog_7_method_19_code 18 = .ok (.return_, 1) := by decide +kernel
def y_Flo_findShortest : MethodName := ⟨"NumberHouse$Floats", "findShortest", "(J)V"⟩
/-! Printer -/
theorem d_11_4_0 : decode prog_11_method_4_code 0 = .ok (.iconst 0, 1) := by decide +kernel
theorem d_11_4_1 : decode prog_11_method_4_code 1 = .ok (.istore_n 2, 1) := by decide +kernel
theorem d_11_4_2 : decode prog_11_method_4_code 2 = .ok (.iload_n 2, 1) := by decide +kernel
theorem d_11_4_3 : decode prog_11_method_4_code 3 = .ok (.aload_n 1, 1) := by decide +kernel
theorem d_11_4_4 : decode prog_11_method_4_code 4 = .ok (.invokevirtual 24, 3) := by decide +kernel
set_option maxRecDepth 100000 in
theorem w_1609 : (Cond.methodLink "NumberHouse$Sheet" (24 : Nat) ({ cls := "java/lang/String", name := "length", desc := "()I" } : MethodName)) ∈ q_tbl := q_of7 169 rfl (by decide +kernel)
theorem LV_She_24 : q_LV "NumberHouse$Sheet" 24 y_jStr_length prog_31_method_54_code 1 (some .int) 0 := ⟨w_658, w_25, w_1609, w_656, w_657, ⟨by decide, by decide, by decide +kernel⟩⟩
theorem d_11_4_7 : decode prog_11_method_4_code 7 = .ok (.if_icmp .ge 18, 3) := by decide +kernel
theorem d_11_4_25 : decode prog_11_method_4_code 25 = .ok (.return_, 1) := by decide +kernel
theorem d_11_4_10 : decode prog_11_method_4_code 10 = .ok (.aload_n 0, 1) := by decide +kernel
theorem d_11_4_11 : decode prog_11_method_4_code 11 = .ok (.aload_n 1, 1) := by decide +kernel
theorem d_11_4_12 : decode prog_11_method_4_code 12 = .ok (.iload_n 2, 1) := by decide +kernel
theorem d_11_4_13 : decode prog_11_method_4_code 13 = .ok (.invokevirtual 30, 3) := by decide +kernel
set_option maxRecDepth 100000 in
theorem w_1610 : (Cond.methodLink "NumberHouse$Sheet" (30 : Nat) ({ cls := "java/lang/String", name := "charAt", desc := "(I)C" } : MethodName)) ∈ q_tbl := q_of7 170 rfl (by decide +kernel)
theorem LV_She_30 : q_LV "NumberHouse$Sheet" 30 y_jStr_charAt prog_31_method_56_code 2 (some .char) 1 := ⟨w_668, w_25, w_1610, w_666, w_667, ⟨by decide, by decide, by decide +kernel⟩⟩
theorem d_11_4_16 : decode prog_11_method_4_code 16 = .ok (.invokevirtual 34, 3) := by decide +kernel
theorem d_11_4_19 : decode prog_11_method_4_code 19 = .ok (.iinc 2 1, 3) := by decide +kernel
theorem d_11_4_22 : decode prog_11_method_4_code 22 = .ok (.goto (-20), 3) := by decide +kernel
def y_She_addText : MethodName := ⟨"NumberHouse$Sheet", "addText", "(Ljava/lang/String;)V"⟩
theorem d_9_16_0 : decode prog_9_method_16_code 0 = .ok (.iload_n 2, 1) := by decide +kernel
theorem d_9_16_1 : decode prog_9_method_16_code 1 = .ok (.istore 4, 2) := by decide +kernel
theorem d_9_16_3 : decode prog_9_method_16_code 3 = .ok (.iload 4, 2) := by decide +kernel
theorem d_9_16_5 : decode prog_9_method_16_code 5 = .ok (.iload_n 3, 1) := by decide +kernel
theorem d_9_16_6 : decode prog_9_method_16_code 6 = .ok (.if_icmp .ge 20, 3) := by decide +kernel
theorem d_9_16_26 : decode prog_9_method_16_code 26 = .ok (.return_, 1) := by decide +kernel
theorem d_9_16_9 : decode prog_9_method_16_code 9 = .ok (.aload_n 0, 1) := by decide +kernel
theorem d_9_16_10 : decode prog_9_method_16_code 10 = .ok (.aload_n 1, 1) := by decide +kernel
theorem d_9_16_11 : decode prog_9_method_16_code 11 = .ok (.iload 4, 2) := by decide +kernel
theorem d_9_16_13 : decode prog_9_method_16_code 13 = .ok (.i2l, 1) := by decide +kernel
theorem d_9_16_14 : decode prog_9_method_16_code 14 = .ok (.invokevirtual 93, 3) := by decide +kernel
set_option maxRecDepth 100000 in
theorem w_1720 : (Cond.methodLink "NumberHouse$Printer" (93 : Nat) ({ cls := "NumberHouse$Sheet", name := "at", desc := "(J)I" } : MethodName)) ∈ q_tbl := q_of8 40 rfl (by decide +kernel)
theorem LV_Pri_93 : q_LV "NumberHouse$Printer" 93 y_She_at prog_11_method_8_code 3 (some .int) 1 := ⟨w_482, w_2, w_1720, w_480, w_481, ⟨by decide, by decide, by decide +kernel⟩⟩
theorem d_9_16_17 : decode prog_9_method_16_code 17 = .ok (.invokevirtual 113, 3) := by decide +kernel
set_option maxRecDepth 100000 in
theorem w_1721 : (Cond.methodLink "NumberHouse$Printer" (113 : Nat) ({ cls := "NumberHouse$Sheet", name := "add", desc := "(I)V" } : MethodName)) ∈ q_tbl := q_of8 41 rfl (by decide +kernel)
theorem LV_Pri_113 : q_LV "NumberHouse$Printer" 113 y_She_add prog_11_method_3_code 3 none 1 := ⟨w_564, w_2, w_1721, w_562, w_563, ⟨by decide, by decide, by decide +kernel⟩⟩
theorem d_9_16_20 : decode prog_9_method_16_code 20 = .ok (.iinc 4 1, 3) := by decide +kernel
theorem d_9_16_23 : decode prog_9_method_16_code 23 = .ok (.goto (-20), 3) := by decide +kernel
def y_Pri_copyInto : MethodName := ⟨"NumberHouse$Printer", "copyInto", "(LNumberHouse$Sheet;LNumberHouse$Sheet;II)V"⟩
theorem d_9_17_0 : decode prog_9_method_17_code 0 = .ok (.iload_n 1, 1) := by decide +kernel
theorem d_9_17_1 : decode prog_9_method_17_code 1 = .ok (.istore_n 2, 1) := by decide +kernel
theorem d_9_17_2 : decode prog_9_method_17_code 2 = .ok (.iload_n 2, 1) := by decide +kernel
theorem d_9_17_3 : decode prog_9_method_17_code 3 = .ok (.aload_n 0, 1) := by decide +kernel
theorem d_9_17_4 : decode prog_9_method_17_code 4 = .ok (.getfield 73, 3) := by decide +kernel
set_option maxRecDepth 100000 in
theorem w_58 : (Cond.fieldLink "NumberHouse$Printer" (73 : Nat) "NumberHouse$Sheet" "size" "I") ∈ q_tbl := q_of1 58 rfl (by decide +kernel)
theorem d_9_17_7 : decode prog_9_method_17_code 7 = .ok (.if_icmp .ge 37, 3) := by decide +kernel
theorem d_9_17_44 : decode prog_9_method_17_code 44 = .ok (.return_, 1) := by decide +kernel
theorem d_9_17_10 : decode prog_9_method_17_code 10 = .ok (.aload_n 0, 1) := by decide +kernel
theorem d_9_17_11 : decode prog_9_method_17_code 11 = .ok (.iload_n 2, 1) := by decide +kernel
theorem d_9_17_12 : decode prog_9_method_17_code 12 = .ok (.i2l, 1) := by decide +kernel
theorem d_9_17_13 : decode prog_9_method_17_code 13 = .ok (.invokevirtual 93, 3) := by decide +kernel
theorem d_9_17_16 : decode prog_9_method_17_code 16 = .ok (.istore_n 3, 1) := by decide +kernel
theorem d_9_17_17 : decode prog_9_method_17_code 17 = .ok (.iload_n 3, 1) := by decide +kernel
theorem d_9_17_18 : decode prog_9_method_17_code 18 = .ok (.bipush 97, 2) := by decide +kernel
theorem d_9_17_20 : decode prog_9_method_17_code 20 = .ok (.if_icmp .lt 18, 3) := by decide +kernel
theorem d_9_17_38 : decode prog_9_method_17_code 38 = .ok (.iinc 2 1, 3) := by decide +kernel
theorem d_9_17_41 : decode prog_9_method_17_code 41 = .ok (.goto (-39), 3) := by decide +kernel
theorem d_9_17_23 : decode prog_9_method_17_code 23 = .ok (.iload_n 3, 1) := by decide +kernel
theorem d_9_17_24 : decode prog_9_method_17_code 24 = .ok (.bipush 122, 2) := by decide +kernel
theorem d_9_17_26 : decode prog_9_method_17_code 26 = .ok (.if_icmp .gt 12, 3) := by decide +kernel
theorem d_9_17_29 : decode prog_9_method_17_code 29 = .ok (.aload_n 0, 1) := by decide +kernel
theorem d_9_17_30 : decode prog_9_method_17_code 30 = .ok (.iload_n 2, 1) := by decide +kernel
theorem d_9_17_31 : decode prog_9_method_17_code 31 = .ok (.iload_n 3, 1) := by decide +kernel
theorem d_9_17_32 : decode prog_9_method_17_code 32 = .ok (.bipush 32, 2) := by decide +kernel
theorem d_9_17_34 : decode prog_9_method_17_code 34 = .ok (.isub, 1) := by decide +kernel
theorem d_9_17_35 : decode prog_9_method_17_code 35 = .ok (.invokevirtual 243, 3) := by decide +kernel
set_option maxRecDepth 100000 in
theorem w_1908 : (Cond.methodLink "NumberHouse$Printer" (243 : Nat) ({ cls := "NumberHouse$Sheet", name := "replace", desc := "(II)V" } : MethodName)) ∈ q_tbl := q_of8 228 rfl (by decide +kernel)
theorem LV_Pri_243 : q_LV "NumberHouse$Printer" 243 y_She_replace prog_11_method_9_code 3 none 2 := ⟨w_1560, w_2, w_1908, w_1558, w_1559, ⟨by decide, by decide, by decide +kernel⟩⟩
def y_Pri_enlarge : MethodName := ⟨"NumberHouse$Printer", "enlarge", "(LNumberHouse$Sheet;I)V"⟩
theorem d_9_2_0 : decode prog_9_method_2_code 0 = .ok (.aload_n 1, 1) := by decide +kernel
theorem d_9_2_1 : decode prog_9_method_2_code 1 = .ok (.getfield 51, 3) := by decide +kernel
set_option maxRecDepth 100000 in
theorem w_172 : (Cond.fieldLink "NumberHouse$Printer" (51 : Nat) "NumberHouse$Dec" "number" "LNumberHouse$Big;") ∈ q_tbl := q_of1 172 rfl (by decide +kernel)
theorem d_9_2_4 : decode prog_9_method_2_code 4 = .ok (.invokevirtual 57, 3) := by decide +kernel
set_option maxRecDepth 100000 in
theorem w_1681 : (Cond.code ({ cls := "NumberHouse$Big", name := "fitsLong", desc := "()Z" } : MethodName) prog_2_method_11_code (1 : Nat) (some .boolean)) ∈ q_tbl := q_of8 1 rfl (by decide +kernel)
set_option maxRecDepth 100000 in
theorem w_1687 : (Cond.methodLink "NumberHouse$Printer" (57 : Nat) ({ cls := "NumberHouse$Big", name := "fitsLong", desc := "()Z" } : MethodName)) ∈ q_tbl := q_of8 7 rfl (by decide +kernel)
set_option maxRecDepth 100000 in
theorem w_1679 : (Cond.instanceMethod ({ cls := "NumberHouse$Big", name := "fitsLong", desc := "()Z" } : MethodName)) ∈ q_tbl := q_of7 239 rfl (by decide +kernel)
set_option maxRecDepth 100000 in
theorem w_1680 : (Cond.selects "NumberHouse$Big" ({ cls := "NumberHouse$Big", name := "fitsLong", desc := "()Z" } : MethodName) ({ cls := "NumberHouse$Big", name := "fitsLong", desc := "()Z" } : MethodName)) ∈ q_tbl := q_of8 0 rfl (by decide +kernel)
theorem LV_Pri_57 : q_LV "NumberHouse$Printer" 57 y_Big_fitsLong prog_2_method_11_code 1 (some .boolean) 0 := ⟨w_1681, w_4, w_1687, w_1679, w_1680, ⟨by decide, by decide, by decide +kernel⟩⟩
theorem d_9_2_7 : decode prog_9_method_2_code 7 = .ok (.ifCond .eq 23, 3) := by decide +kernel
theorem d_9_2_30 : decode prog_9_method_2_code 30 = .ok (.iconst 0, 1) := by decide +kernel
theorem d_9_2_31 : decode prog_9_method_2_code 31 = .ok (.ireturn, 1) := by decide +kernel
theorem d_9_2_10 : decode prog_9_method_2_code 10 = .ok (.aload_n 1, 1) := by decide +kernel
theorem d_9_2_11 : decode prog_9_method_2_code 11 = .ok (.getfield 63, 3) := by decide +kernel
set_option maxRecDepth 100000 in
theorem w_175 : (Cond.fieldLink "NumberHouse$Printer" (63 : Nat) "NumberHouse$Dec" "scale" "I") ∈ q_tbl := q_of1 175 rfl (by decide +kernel)
theorem d_9_2_14 : decode prog_9_method_2_code 14 = .ok (.ifCond .lt 16, 3) := by decide +kernel
theorem d_9_2_17 : decode prog_9_method_2_code 17 = .ok (.aload_n 1, 1) := by decide +kernel
theorem d_9_2_18 : decode prog_9_method_2_code 18 = .ok (.getfield 63, 3) := by decide +kernel
theorem d_9_2_21 : decode prog_9_method_2_code 21 = .ok (.bipush 40, 2) := by decide +kernel
theorem d_9_2_23 : decode prog_9_method_2_code 23 = .ok (.if_icmp .gt 7, 3) := by decide +kernel
theorem d_9_2_26 : decode prog_9_method_2_code 26 = .ok (.iconst 1, 1) := by decide +kernel
theorem d_9_2_27 : decode prog_9_method_2_code 27 = .ok (.goto 4, 3) := by decide +kernel
def y_Pri_canTake : MethodName := ⟨"NumberHouse$Printer", "canTake", "(LNumberHouse$Dec;)Z"⟩
theorem d_9_3_0 : decode prog_9_method_3_code 0 = .ok (.aload_n 0, 1) := by decide +kernel
theorem d_9_3_1 : decode prog_9_method_3_code 1 = .ok (.getfield 67, 3) := by decide +kernel
set_option maxRecDepth 100000 in
theorem w_384 : (Cond.fieldLink "NumberHouse$Printer" (67 : Nat) "NumberHouse$Printer" "count" "I") ∈ q_tbl := q_of2 144 rfl (by decide +kernel)
theorem d_9_3_4 : decode prog_9_method_3_code 4 = .ok (.bipush 9, 2) := by decide +kernel
theorem d_9_3_6 : decode prog_9_method_3_code 6 = .ok (.if_icmp .ge 44, 3) := by decide +kernel
theorem d_9_3_50 : decode prog_9_method_3_code 50 = .ok (.return_, 1) := by decide +kernel
theorem d_9_3_9 : decode prog_9_method_3_code 9 = .ok (.aload_n 0, 1) := by decide +kernel
theorem d_9_3_10 : decode prog_9_method_3_code 10 = .ok (.getfield 11, 3) := by decide +kernel
theorem d_9_3_13 : decode prog_9_method_3_code 13 = .ok (.aload_n 0, 1) := by decide +kernel
theorem d_9_3_14 : decode prog_9_method_3_code 14 = .ok (.getfield 67, 3) := by decide +kernel
theorem d_9_3_17 : decode prog_9_method_3_code 17 = .ok (.iload_n 1, 1) := by decide +kernel
theorem d_9_3_18 : decode prog_9_method_3_code 18 = .ok (.iastore, 1) := by decide +kernel
theorem d_9_3_19 : decode prog_9_method_3_code 19 = .ok (.aload_n 0, 1) := by decide +kernel
theorem d_9_3_20 : decode prog_9_method_3_code 20 = .ok (.getfield 15, 3) := by decide +kernel
theorem d_9_3_23 : decode prog_9_method_3_code 23 = .ok (.aload_n 0, 1) := by decide +kernel
theorem d_9_3_24 : decode prog_9_method_3_code 24 = .ok (.getfield 67, 3) := by decide +kernel
theorem d_9_3_27 : decode prog_9_method_3_code 27 = .ok (.lload_n 2, 1) := by decide +kernel
theorem d_9_3_28 : decode prog_9_method_3_code 28 = .ok (.lastore, 1) := by decide +kernel
theorem d_9_3_29 : decode prog_9_method_3_code 29 = .ok (.aload_n 0, 1) := by decide +kernel
theorem d_9_3_30 : decode prog_9_method_3_code 30 = .ok (.getfield 19, 3) := by decide +kernel
theorem d_9_3_33 : decode prog_9_method_3_code 33 = .ok (.aload_n 0, 1) := by decide +kernel
theorem d_9_3_34 : decode prog_9_method_3_code 34 = .ok (.getfield 67, 3) := by decide +kernel
theorem d_9_3_37 : decode prog_9_method_3_code 37 = .ok (.iload 4, 2) := by decide +kernel
theorem d_9_3_39 : decode prog_9_method_3_code 39 = .ok (.iastore, 1) := by decide +kernel
theorem d_9_3_40 : decode prog_9_method_3_code 40 = .ok (.aload_n 0, 1) := by decide +kernel
theorem d_9_3_41 : decode prog_9_method_3_code 41 = .ok (.dup, 1) := by decide +kernel
theorem d_9_3_42 : decode prog_9_method_3_code 42 = .ok (.getfield 67, 3) := by decide +kernel
theorem d_9_3_45 : decode prog_9_method_3_code 45 = .ok (.iconst 1, 1) := by decide +kernel
theorem d_9_3_46 : decode prog_9_method_3_code 46 = .ok (.iadd, 1) := by decide +kernel
theorem d_9_3_47 : decode prog_9_method_3_code 47 = .ok (.putfield 67, 3) := by decide +kernel
def y_Pri_addNumber : MethodName := ⟨"NumberHouse$Printer", "addNumber", "(IJI)V"⟩
theorem d_9_4_0 : decode prog_9_method_4_code 0 = .ok (.aload_n 0, 1) := by decide +kernel
theorem d_9_4_1 : decode prog_9_method_4_code 1 = .ok (.getfield 67, 3) := by decide +kernel
theorem d_9_4_4 : decode prog_9_method_4_code 4 = .ok (.bipush 9, 2) := by decide +kernel
theorem d_9_4_6 : decode prog_9_method_4_code 6 = .ok (.if_icmp .ge 46, 3) := by decide +kernel
theorem d_9_4_52 : decode prog_9_method_4_code 52 = .ok (.return_, 1) := by decide +kernel
theorem d_9_4_9 : decode prog_9_method_4_code 9 = .ok (.aload_n 0, 1) := by decide +kernel
theorem d_9_4_10 : decode prog_9_method_4_code 10 = .ok (.getfield 24, 3) := by decide +kernel
theorem d_9_4_13 : decode prog_9_method_4_code 13 = .ok (.aload_n 0, 1) := by decide +kernel
theorem d_9_4_14 : decode prog_9_method_4_code 14 = .ok (.getfield 67, 3) := by decide +kernel
theorem d_9_4_17 : decode prog_9_method_4_code 17 = .ok (.aaload, 1) := by decide +kernel
theorem d_9_4_18 : decode prog_9_method_4_code 18 = .ok (.invokevirtual 70, 3) := by decide +kernel
set_option maxRecDepth 100000 in
theorem w_474 : (Cond.code ({ cls := "NumberHouse$Sheet", name := "clear", desc := "()V" } : MethodName) prog_11_method_2_code (1 : Nat) (none : Option ClassFile.FieldType)) ∈ q_tbl := q_of2 234 rfl (by decide +kernel)
set_option maxRecDepth 100000 in
theorem w_1716 : (Cond.methodLink "NumberHouse$Printer" (70 : Nat) ({ cls := "NumberHouse$Sheet", name := "clear", desc := "()V" } : MethodName)) ∈ q_tbl := q_of8 36 rfl (by decide +kernel)
set_option maxRecDepth 100000 in
theorem w_472 : (Cond.instanceMethod ({ cls := "NumberHouse$Sheet", name := "clear", desc := "()V" } : MethodName)) ∈ q_tbl := q_of2 232 rfl (by decide +kernel)
set_option maxRecDepth 100000 in
theorem w_473 : (Cond.selects "NumberHouse$Sheet" ({ cls := "NumberHouse$Sheet", name := "clear", desc := "()V" } : MethodName) ({ cls := "NumberHouse$Sheet", name := "clear", desc := "()V" } : MethodName)) ∈ q_tbl := q_of2 233 rfl (by decide +kernel)
theorem LV_Pri_70 : q_LV "NumberHouse$Printer" 70 y_She_clear prog_11_method_2_code 1 none 0 := ⟨w_474, w_2, w_1716, w_472, w_473, ⟨by decide, by decide, by decide +kernel⟩⟩
theorem d_9_4_21 : decode prog_9_method_4_code 21 = .ok (.aload_n 0, 1) := by decide +kernel
theorem d_9_4_22 : decode prog_9_method_4_code 22 = .ok (.getfield 24, 3) := by decide +kernel
theorem d_9_4_25 : decode prog_9_method_4_code 25 = .ok (.aload_n 0, 1) := by decide +kernel
theorem d_9_4_26 : decode prog_9_method_4_code 26 = .ok (.getfield 67, 3) := by decide +kernel
theorem d_9_4_29 : decode prog_9_method_4_code 29 = .ok (.aaload, 1) := by decide +kernel
theorem d_9_4_30 : decode prog_9_method_4_code 30 = .ok (.aload_n 0, 1) := by decide +kernel
theorem d_9_4_31 : decode prog_9_method_4_code 31 = .ok (.getfield 35, 3) := by decide +kernel
theorem d_9_4_34 : decode prog_9_method_4_code 34 = .ok (.iconst 0, 1) := by decide +kernel
theorem d_9_4_35 : decode prog_9_method_4_code 35 = .ok (.aload_n 0, 1) := by decide +kernel
theorem d_9_4_36 : decode prog_9_method_4_code 36 = .ok (.getfield 35, 3) := by decide +kernel
theorem d_9_4_39 : decode prog_9_method_4_code 39 = .ok (.getfield 73, 3) := by decide +kernel
theorem d_9_4_42 : decode prog_9_method_4_code 42 = .ok (.invokestatic 76, 3) := by decide +kernel
set_option maxRecDepth 100000 in
theorem w_1719 : (Cond.code ({ cls := "NumberHouse$Printer", name := "copyInto", desc := "(LNumberHouse$Sheet;LNumberHouse$Sheet;II)V" } : MethodName) prog_9_method_16_code (5 : Nat) (none : Option ClassFile.FieldType)) ∈ q_tbl := q_of8 39 rfl (by decide +kernel)
set_option maxRecDepth 100000 in
theorem w_1717 : (Cond.methodLink "NumberHouse$Printer" (76 : Nat) ({ cls := "NumberHouse$Printer", name := "copyInto", desc := "(LNumberHouse$Sheet;LNumberHouse$Sheet;II)V" } : MethodName)) ∈ q_tbl := q_of8 37 rfl (by decide +kernel)
set_option maxRecDepth 100000 in
theorem w_1718 : (Cond.static ({ cls := "NumberHouse$Printer", name := "copyInto", desc := "(LNumberHouse$Sheet;LNumberHouse$Sheet;II)V" } : MethodName)) ∈ q_tbl := q_of8 38 rfl (by decide +kernel)
theorem LS_Pri_76 : q_LS "NumberHouse$Printer" 76 y_Pri_copyInto prog_9_method_16_code 5 none 4 := ⟨w_1719, w_12, w_1717, w_1718, ⟨by decide, by decide, by decide +kernel⟩⟩
theorem d_9_4_45 : decode prog_9_method_4_code 45 = .ok (.aload_n 0, 1) := by decide +kernel
theorem d_9_4_46 : decode prog_9_method_4_code 46 = .ok (.iconst 4, 1) := by decide +kernel
theorem d_9_4_47 : decode prog_9_method_4_code 47 = .ok (.lconst 0, 1) := by decide +kernel
theorem d_9_4_48 : decode prog_9_method_4_code 48 = .ok (.iconst 0, 1) := by decide +kernel
theorem d_9_4_49 : decode prog_9_method_4_code 49 = .ok (.invokevirtual 80, 3) := by decide +kernel
set_option maxRecDepth 100000 in
theorem w_1711 : (Cond.code ({ cls := "NumberHouse$Printer", name := "addNumber", desc := "(IJI)V" } : MethodName) prog_9_method_3_code (5 : Nat) (none : Option ClassFile.FieldType)) ∈ q_tbl := q_of8 31 rfl (by decide +kernel)
set_option maxRecDepth 100000 in
theorem w_1722 : (Cond.methodLink "NumberHouse$Printer" (80 : Nat) ({ cls := "NumberHouse$Printer", name := "addNumber", desc := "(IJI)V" } : MethodName)) ∈ q_tbl := q_of8 42 rfl (by decide +kernel)
set_option maxRecDepth 100000 in
theorem w_1709 : (Cond.instanceMethod ({ cls := "NumberHouse$Printer", name := "addNumber", desc := "(IJI)V" } : MethodName)) ∈ q_tbl := q_of8 29 rfl (by decide +kernel)
set_option maxRecDepth 100000 in
theorem w_1710 : (Cond.selects "NumberHouse$Printer" ({ cls := "NumberHouse$Printer", name := "addNumber", desc := "(IJI)V" } : MethodName) ({ cls := "NumberHouse$Printer", name := "addNumber", desc := "(IJI)V" } : MethodName)) ∈ q_tbl := q_of8 30 rfl (by decide +kernel)
theorem LV_Pri_80 : q_LV "NumberHouse$Printer" 80 y_Pri_addNumber prog_9_method_3_code 5 none 3 := ⟨w_1711, w_12, w_1722, w_1709, w_1710, ⟨by decide, by decide, by decide +kernel⟩⟩
def y_Pri_addText : MethodName := ⟨"NumberHouse$Printer", "addText", "()V"⟩
theorem d_9_7_0 : decode prog_9_method_7_code 0 = .ok (.aload_n 0, 1) := by decide +kernel
theorem d_9_7_1 : decode prog_9_method_7_code 1 = .ok (.getfield 47, 3) := by decide +kernel
theorem d_9_7_4 : decode prog_9_method_7_code 4 = .ok (.bipush 64, 2) := by decide +kernel
theorem d_9_7_6 : decode prog_9_method_7_code 6 = .ok (.invokevirtual 144, 3) := by decide +kernel
set_option maxRecDepth 100000 in
theorem w_1836 : (Cond.methodLink "NumberHouse$Printer" (144 : Nat) ({ cls := "NumberHouse$Directive", name := "has", desc := "(I)Z" } : MethodName)) ∈ q_tbl := q_of8 156 rfl (by decide +kernel)
theorem LV_Pri_144 : q_LV "NumberHouse$Printer" 144 y_Dir_has prog_6_method_8_code 2 (some .boolean) 1 := ⟨w_1807, w_13, w_1836, w_1805, w_1806, ⟨by decide, by decide, by decide +kernel⟩⟩
theorem d_9_7_9 : decode prog_9_method_7_code 9 = .ok (.ifCond .eq 8, 3) := by decide +kernel
theorem d_9_7_17 : decode prog_9_method_7_code 17 = .ok (.aload_n 0, 1) := by decide +kernel
theorem d_9_7_18 : decode prog_9_method_7_code 18 = .ok (.getfield 47, 3) := by decide +kernel
theorem d_9_7_21 : decode prog_9_method_7_code 21 = .ok (.getfield 147, 3) := by decide +kernel
set_option maxRecDepth 100000 in
theorem w_355 : (Cond.fieldLink "NumberHouse$Printer" (147 : Nat) "NumberHouse$Directive" "index" "I") ∈ q_tbl := q_of2 115 rfl (by decide +kernel)
theorem d_9_7_24 : decode prog_9_method_7_code 24 = .ok (.iconst (-1), 1) := by decide +kernel
theorem d_9_7_25 : decode prog_9_method_7_code 25 = .ok (.if_icmp .eq 13, 3) := by decide +kernel
theorem d_9_7_38 : decode prog_9_method_7_code 38 = .ok (.aload_n 0, 1) := by decide +kernel
theorem d_9_7_39 : decode prog_9_method_7_code 39 = .ok (.dup, 1) := by decide +kernel
theorem d_9_7_40 : decode prog_9_method_7_code 40 = .ok (.getfield 84, 3) := by decide +kernel
set_option maxRecDepth 100000 in
theorem w_395 : (Cond.fieldLink "NumberHouse$Printer" (84 : Nat) "NumberHouse$Printer" "ordinary" "I") ∈ q_tbl := q_of2 155 rfl (by decide +kernel)
theorem d_9_7_43 : decode prog_9_method_7_code 43 = .ok (.iconst 1, 1) := by decide +kernel
theorem d_9_7_44 : decode prog_9_method_7_code 44 = .ok (.iadd, 1) := by decide +kernel
theorem d_9_7_45 : decode prog_9_method_7_code 45 = .ok (.putfield 84, 3) := by decide +kernel
theorem d_9_7_48 : decode prog_9_method_7_code 48 = .ok (.aload_n 0, 1) := by decide +kernel
theorem d_9_7_49 : decode prog_9_method_7_code 49 = .ok (.getfield 84, 3) := by decide +kernel
theorem d_9_7_52 : decode prog_9_method_7_code 52 = .ok (.iconst 1, 1) := by decide +kernel
theorem d_9_7_53 : decode prog_9_method_7_code 53 = .ok (.isub, 1) := by decide +kernel
theorem d_9_7_54 : decode prog_9_method_7_code 54 = .ok (.ireturn, 1) := by decide +kernel
theorem d_9_7_28 : decode prog_9_method_7_code 28 = .ok (.aload_n 0, 1) := by decide +kernel
theorem d_9_7_29 : decode prog_9_method_7_code 29 = .ok (.getfield 47, 3) := by decide +kernel
theorem d_9_7_32 : decode prog_9_method_7_code 32 = .ok (.getfield 147, 3) := by decide +kernel
theorem d_9_7_35 : decode prog_9_method_7_code 35 = .ok (.iconst 1, 1) := by decide +kernel
theorem d_9_7_36 : decode prog_9_method_7_code 36 = .ok (.isub, 1) := by decide +kernel
theorem d_9_7_37 : decode prog_9_method_7_code 37 = .ok (.ireturn, 1) := by decide +kernel
theorem d_9_7_12 : decode prog_9_method_7_code 12 = .ok (.aload_n 0, 1) := by decide +kernel
theorem d_9_7_13 : decode prog_9_method_7_code 13 = .ok (.getfield 87, 3) := by decide +kernel
set_option maxRecDepth 100000 in
theorem w_396 : (Cond.fieldLink "NumberHouse$Printer" (87 : Nat) "NumberHouse$Printer" "last" "I") ∈ q_tbl := q_of2 156 rfl (by decide +kernel)
theorem d_9_7_16 : decode prog_9_method_7_code 16 = .ok (.ireturn, 1) := by decide +kernel
def y_Pri_chooseArgument : MethodName := ⟨"NumberHouse$Printer", "chooseArgument", "()I"⟩
theorem d_9_8_0 : decode prog_9_method_8_code 0 = .ok (.iload_n 1, 1) := by decide +kernel
theorem d_9_8_1 : decode prog_9_method_8_code 1 = .ok (.ifCond .eq 15, 3) := by decide +kernel
theorem d_9_8_16 : decode prog_9_method_8_code 16 = .ok (.iconst 1, 1) := by decide +kernel
theorem d_9_8_17 : decode prog_9_method_8_code 17 = .ok (.ireturn, 1) := by decide +kernel
theorem d_9_8_4 : decode prog_9_method_8_code 4 = .ok (.aload_n 0, 1) := by decide +kernel
theorem d_9_8_5 : decode prog_9_method_8_code 5 = .ok (.getfield 47, 3) := by decide +kernel
theorem d_9_8_8 : decode prog_9_method_8_code 8 = .ok (.ldc 150, 2) := by decide +kernel
theorem d_9_8_10 : decode prog_9_method_8_code 10 = .ok (.invokevirtual 133, 3) := by decide +kernel
set_option maxRecDepth 100000 in
theorem w_1831 : (Cond.methodLink "NumberHouse$Printer" (133 : Nat) ({ cls := "NumberHouse$Directive", name := "isOneOf", desc := "(Ljava/lang/String;)Z" } : MethodName)) ∈ q_tbl := q_of8 151 rfl (by decide +kernel)
theorem LV_Pri_133 : q_LV "NumberHouse$Printer" 133 y_Dir_isOneOf prog_6_method_9_code 2 (some .boolean) 1 := ⟨w_1820, w_13, w_1831, w_1818, w_1819, ⟨by decide, by decide, by decide +kernel⟩⟩
theorem d_9_8_13 : decode prog_9_method_8_code 13 = .ok (.ifCond .eq 5, 3) := by decide +kernel
theorem d_9_8_18 : decode prog_9_method_8_code 18 = .ok (.aload_n 0, 1) := by decide +kernel
theorem d_9_8_19 : decode prog_9_method_8_code 19 = .ok (.getfield 47, 3) := by decide +kernel
theorem d_9_8_22 : decode prog_9_method_8_code 22 = .ok (.ldc 152, 2) := by decide +kernel
theorem d_9_8_24 : decode prog_9_method_8_code 24 = .ok (.invokevirtual 133, 3) := by decide +kernel
theorem d_9_8_27 : decode prog_9_method_8_code 27 = .ok (.ifCond .eq 14, 3) := by decide +kernel
theorem d_9_8_41 : decode prog_9_method_8_code 41 = .ok (.iload_n 1, 1) := by decide +kernel
theorem d_9_8_42 : decode prog_9_method_8_code 42 = .ok (.aload_n 0, 1) := by decide +kernel
theorem d_9_8_43 : decode prog_9_method_8_code 43 = .ok (.getfield 47, 3) := by decide +kernel
theorem d_9_8_46 : decode prog_9_method_8_code 46 = .ok (.ldc 154, 2) := by decide +kernel
theorem d_9_8_48 : decode prog_9_method_8_code 48 = .ok (.invokevirtual 133, 3) := by decide +kernel
theorem d_9_8_51 : decode prog_9_method_8_code 51 = .ok (.ifCond .eq 7, 3) := by decide +kernel
theorem d_9_8_58 : decode prog_9_method_8_code 58 = .ok (.iconst 5, 1) := by decide +kernel
theorem d_9_8_59 : decode prog_9_method_8_code 59 = .ok (.if_icmp .ne 7, 3) := by decide +kernel
theorem d_9_8_66 : decode prog_9_method_8_code 66 = .ok (.iconst 0, 1) := by decide +kernel
theorem d_9_8_67 : decode prog_9_method_8_code 67 = .ok (.ireturn, 1) := by decide +kernel
theorem d_9_8_62 : decode prog_9_method_8_code 62 = .ok (.iconst 1, 1) := by decide +kernel
theorem d_9_8_63 : decode prog_9_method_8_code 63 = .ok (.goto 4, 3) := by decide +kernel
theorem d_9_8_54 : decode prog_9_method_8_code 54 = .ok (.iconst 3, 1) := by decide +kernel
theorem d_9_8_55 : decode prog_9_method_8_code 55 = .ok (.goto 4, 3) := by decide +kernel
theorem d_9_8_30 : decode prog_9_method_8_code 30 = .ok (.iload_n 1, 1) := by decide +kernel
theorem d_9_8_31 : decode prog_9_method_8_code 31 = .ok (.iconst 2, 1) := by decide +kernel
theorem d_9_8_32 : decode prog_9_method_8_code 32 = .ok (.if_icmp .ne 7, 3) := by decide +kernel
theorem d_9_8_39 : decode prog_9_method_8_code 39 = .ok (.iconst 0, 1) := by decide +kernel
theorem d_9_8_40 : decode prog_9_method_8_code 40 = .ok (.ireturn, 1) := by decide +kernel
theorem d_9_8_35 : decode prog_9_method_8_code 35 = .ok (.iconst 1, 1) := by decide +kernel
theorem d_9_8_36 : decode prog_9_method_8_code 36 = .ok (.goto 4, 3) := by decide +kernel
def y_Pri_takesKind : MethodName := ⟨"NumberHouse$Printer", "takesKind", "(I)Z"⟩
theorem d_9_6_0 : decode prog_9_method_6_code 0 = .ok (.aload_n 0, 1) := by decide +kernel
theorem d_9_6_1 : decode prog_9_method_6_code 1 = .ok (.getfield 47, 3) := by decide +kernel
theorem d_9_6_4 : decode prog_9_method_6_code 4 = .ok (.invokevirtual 128, 3) := by decide +kernel
set_option maxRecDepth 100000 in
theorem w_1815 : (Cond.code ({ cls := "NumberHouse$Directive", name := "fault", desc := "()I" } : MethodName) prog_6_method_11_code (2 : Nat) (some .int)) ∈ q_tbl := q_of8 135 rfl (by decide +kernel)
set_option maxRecDepth 100000 in
theorem w_1812 : (Cond.methodLink "NumberHouse$Printer" (128 : Nat) ({ cls := "NumberHouse$Directive", name := "fault", desc := "()I" } : MethodName)) ∈ q_tbl := q_of8 132 rfl (by decide +kernel)
set_option maxRecDepth 100000 in
theorem w_1813 : (Cond.instanceMethod ({ cls := "NumberHouse$Directive", name := "fault", desc := "()I" } : MethodName)) ∈ q_tbl := q_of8 133 rfl (by decide +kernel)
set_option maxRecDepth 100000 in
theorem w_1814 : (Cond.selects "NumberHouse$Directive" ({ cls := "NumberHouse$Directive", name := "fault", desc := "()I" } : MethodName) ({ cls := "NumberHouse$Directive", name := "fault", desc := "()I" } : MethodName)) ∈ q_tbl := q_of8 134 rfl (by decide +kernel)
theorem LV_Pri_128 : q_LV "NumberHouse$Printer" 128 y_Dir_fault prog_6_method_11_code 2 (some .int) 0 := ⟨w_1815, w_13, w_1812, w_1813, w_1814, ⟨by decide, by decide, by decide +kernel⟩⟩
theorem d_9_6_7 : decode prog_9_method_6_code 7 = .ok (.istore_n 1, 1) := by decide +kernel
theorem d_9_6_8 : decode prog_9_method_6_code 8 = .ok (.iload_n 1, 1) := by decide +kernel
theorem d_9_6_9 : decode prog_9_method_6_code 9 = .ok (.ifCond .ne 15, 3) := by decide +kernel
theorem d_9_6_24 : decode prog_9_method_6_code 24 = .ok (.iload_n 1, 1) := by decide +kernel
theorem d_9_6_25 : decode prog_9_method_6_code 25 = .ok (.ireturn, 1) := by decide +kernel
theorem d_9_6_12 : decode prog_9_method_6_code 12 = .ok (.aload_n 0, 1) := by decide +kernel
theorem d_9_6_13 : decode prog_9_method_6_code 13 = .ok (.getfield 47, 3) := by decide +kernel
theorem d_9_6_16 : decode prog_9_method_6_code 16 = .ok (.ldc 131, 2) := by decide +kernel
theorem d_9_6_18 : decode prog_9_method_6_code 18 = .ok (.invokevirtual 133, 3) := by decide +kernel
theorem d_9_6_21 : decode prog_9_method_6_code 21 = .ok (.ifCond .eq 5, 3) := by decide +kernel
theorem d_9_6_26 : decode prog_9_method_6_code 26 = .ok (.aload_n 0, 1) := by decide +kernel
theorem d_9_6_27 : decode prog_9_method_6_code 27 = .ok (.invokevirtual 137, 3) := by decide +kernel
set_option maxRecDepth 100000 in
theorem w_1835 : (Cond.code ({ cls := "NumberHouse$Printer", name := "chooseArgument", desc := "()I" } : MethodName) prog_9_method_7_code (1 : Nat) (some .int)) ∈ q_tbl := q_of8 155 rfl (by decide +kernel)
set_option maxRecDepth 100000 in
theorem w_1832 : (Cond.methodLink "NumberHouse$Printer" (137 : Nat) ({ cls := "NumberHouse$Printer", name := "chooseArgument", desc := "()I" } : MethodName)) ∈ q_tbl := q_of8 152 rfl (by decide +kernel)
set_option maxRecDepth 100000 in
theorem w_1834 : (Cond.instanceMethod ({ cls := "NumberHouse$Printer", name := "chooseArgument", desc := "()I" } : MethodName)) ∈ q_tbl := q_of8 154 rfl (by decide +kernel)
theorem ws_51 : Cond.selects "NumberHouse$Printer" (⟨"NumberHouse$Printer", "chooseArgument", "()I"⟩ : MethodName) (⟨"NumberHouse$Printer", "chooseArgument", "()I"⟩ : MethodName) ∈ q_tbl := q_ofs 51 (by decide +kernel) (by decide +kernel)
theorem LV_Pri_137 : q_LV "NumberHouse$Printer" 137 y_Pri_chooseArgument prog_9_method_7_code 1 (some .int) 0 := ⟨w_1835, w_12, w_1832, w_1834, ws_51, ⟨by decide, by decide, by decide +kernel⟩⟩
theorem d_9_6_30 : decode prog_9_method_6_code 30 = .ok (.istore_n 2, 1) := by decide +kernel
theorem d_9_6_31 : decode prog_9_method_6_code 31 = .ok (.iload_n 2, 1) := by decide +kernel
theorem d_9_6_32 : decode prog_9_method_6_code 32 = .ok (.ifCond .lt 11, 3) := by decide +kernel
theorem d_9_6_43 : decode prog_9_method_6_code 43 = .ok (.bipush 9, 2) := by decide +kernel
theorem d_9_6_45 : decode prog_9_method_6_code 45 = .ok (.ireturn, 1) := by decide +kernel
theorem d_9_6_35 : decode prog_9_method_6_code 35 = .ok (.iload_n 2, 1) := by decide +kernel
theorem d_9_6_36 : decode prog_9_method_6_code 36 = .ok (.aload_n 0, 1) := by decide +kernel
theorem d_9_6_37 : decode prog_9_method_6_code 37 = .ok (.getfield 67, 3) := by decide +kernel
theorem d_9_6_40 : decode prog_9_method_6_code 40 = .ok (.if_icmp .lt 6, 3) := by decide +kernel
theorem d_9_6_46 : decode prog_9_method_6_code 46 = .ok (.aload_n 0, 1) := by decide +kernel
theorem d_9_6_47 : decode prog_9_method_6_code 47 = .ok (.iload_n 2, 1) := by decide +kernel
theorem d_9_6_48 : decode prog_9_method_6_code 48 = .ok (.putfield 87, 3) := by decide +kernel
theorem d_9_6_51 : decode prog_9_method_6_code 51 = .ok (.aload_n 0, 1) := by decide +kernel
theorem d_9_6_52 : decode prog_9_method_6_code 52 = .ok (.aload_n 0, 1) := by decide +kernel
theorem d_9_6_53 : decode prog_9_method_6_code 53 = .ok (.getfield 11, 3) := by decide +kernel
theorem d_9_6_56 : decode prog_9_method_6_code 56 = .ok (.iload_n 2, 1) := by decide +kernel
theorem d_9_6_57 : decode prog_9_method_6_code 57 = .ok (.iaload, 1) := by decide +kernel
theorem d_9_6_58 : decode prog_9_method_6_code 58 = .ok (.invokevirtual 140, 3) := by decide +kernel
set_option maxRecDepth 100000 in
theorem w_1840 : (Cond.code ({ cls := "NumberHouse$Printer", name := "takesKind", desc := "(I)Z" } : MethodName) prog_9_method_8_code (2 : Nat) (some .boolean)) ∈ q_tbl := q_of8 160 rfl (by decide +kernel)
set_option maxRecDepth 100000 in
theorem w_1837 : (Cond.methodLink "NumberHouse$Printer" (140 : Nat) ({ cls := "NumberHouse$Printer", name := "takesKind", desc := "(I)Z" } : MethodName)) ∈ q_tbl := q_of8 157 rfl (by decide +kernel)
set_option maxRecDepth 100000 in
theorem w_1839 : (Cond.instanceMethod ({ cls := "NumberHouse$Printer", name := "takesKind", desc := "(I)Z" } : MethodName)) ∈ q_tbl := q_of8 159 rfl (by decide +kernel)
theorem ws_52 : Cond.selects "NumberHouse$Printer" (⟨"NumberHouse$Printer", "takesKind", "(I)Z"⟩ : MethodName) (⟨"NumberHouse$Printer", "takesKind", "(I)Z"⟩ : MethodName) ∈ q_tbl := q_ofs 52 (by decide +kernel) (by decide +kernel)
theorem LV_Pri_140 : q_LV "NumberHouse$Printer" 140 y_Pri_takesKind prog_9_method_8_code 2 (some .boolean) 1 := ⟨w_1840, w_12, w_1837, w_1839, ws_52, ⟨by decide, by decide, by decide +kernel⟩⟩
theorem d_9_6_61 : decode prog_9_method_6_code 61 = .ok (.ifCond .eq 7, 3) := by decide +kernel
theorem d_9_6_68 : decode prog_9_method_6_code 68 = .ok (.bipush 10, 2) := by decide +kernel
theorem d_9_6_70 : decode prog_9_method_6_code 70 = .ok (.ireturn, 1) := by decide +kernel
theorem d_9_6_64 : decode prog_9_method_6_code 64 = .ok (.iconst 0, 1) := by decide +kernel
theorem d_9_6_65 : decode prog_9_method_6_code 65 = .ok (.goto 5, 3) := by decide +kernel
def y_Pri_findFault : MethodName := ⟨"NumberHouse$Printer", "findFault", "()I"⟩
theorem d_9_10_0 : decode prog_9_method_10_code 0 = .ok (.aload_n 0, 1) := by decide +kernel
theorem d_9_10_1 : decode prog_9_method_10_code 1 = .ok (.getfield 47, 3) := by decide +kernel
theorem d_9_10_4 : decode prog_9_method_10_code 4 = .ok (.getfield 198, 3) := by decide +kernel
set_option maxRecDepth 100000 in
theorem w_360 : (Cond.fieldLink "NumberHouse$Printer" (198 : Nat) "NumberHouse$Directive" "precision" "I") ∈ q_tbl := q_of2 120 rfl (by decide +kernel)
theorem d_9_10_7 : decode prog_9_method_10_code 7 = .ok (.iconst (-1), 1) := by decide +kernel
theorem d_9_10_8 : decode prog_9_method_10_code 8 = .ok (.if_icmp .eq 17, 3) := by decide +kernel
theorem d_9_10_25 : decode prog_9_method_10_code 25 = .ok (.return_, 1) := by decide +kernel
theorem d_9_10_11 : decode prog_9_method_10_code 11 = .ok (.aload_n 0, 1) := by decide +kernel
theorem d_9_10_12 : decode prog_9_method_10_code 12 = .ok (.getfield 31, 3) := by decide +kernel
theorem d_9_10_15 : decode prog_9_method_10_code 15 = .ok (.aload_n 0, 1) := by decide +kernel
theorem d_9_10_16 : decode prog_9_method_10_code 16 = .ok (.getfield 47, 3) := by decide +kernel
theorem d_9_10_19 : decode prog_9_method_10_code 19 = .ok (.getfield 198, 3) := by decide +kernel
theorem d_9_10_22 : decode prog_9_method_10_code 22 = .ok (.invokevirtual 201, 3) := by decide +kernel
set_option maxRecDepth 100000 in
theorem w_1859 : (Cond.code ({ cls := "NumberHouse$Sheet", name := "cut", desc := "(I)V" } : MethodName) prog_11_method_10_code (2 : Nat) (none : Option ClassFile.FieldType)) ∈ q_tbl := q_of8 179 rfl (by decide +kernel)
set_option maxRecDepth 100000 in
theorem w_1856 : (Cond.methodLink "NumberHouse$Printer" (201 : Nat) ({ cls := "NumberHouse$Sheet", name := "cut", desc := "(I)V" } : MethodName)) ∈ q_tbl := q_of8 176 rfl (by decide +kernel)
set_option maxRecDepth 100000 in
theorem w_1857 : (Cond.instanceMethod ({ cls := "NumberHouse$Sheet", name := "cut", desc := "(I)V" } : MethodName)) ∈ q_tbl := q_of8 177 rfl (by decide +kernel)
set_option maxRecDepth 100000 in
theorem w_1858 : (Cond.selects "NumberHouse$Sheet" ({ cls := "NumberHouse$Sheet", name := "cut", desc := "(I)V" } : MethodName) ({ cls := "NumberHouse$Sheet", name := "cut", desc := "(I)V" } : MethodName)) ∈ q_tbl := q_of8 178 rfl (by decide +kernel)
theorem LV_Pri_201 : q_LV "NumberHouse$Printer" 201 y_She_cut prog_11_method_10_code 2 none 1 := ⟨w_1859, w_2, w_1856, w_1857, w_1858, ⟨by decide, by decide, by decide +kernel⟩⟩
def y_Pri_cutBody : MethodName := ⟨"NumberHouse$Printer", "cutBody", "()V"⟩
theorem d_9_13_0 : decode prog_9_method_13_code 0 = .ok (.iload_n 1, 1) := by decide +kernel
theorem d_9_13_1 : decode prog_9_method_13_code 1 = .ok (.ifCond .eq 32, 3) := by decide +kernel
theorem d_9_13_33 : decode prog_9_method_13_code 33 = .ok (.aload_n 0, 1) := by decide +kernel
theorem d_9_13_34 : decode prog_9_method_13_code 34 = .ok (.getfield 47, 3) := by decide +kernel
theorem d_9_13_37 : decode prog_9_method_13_code 37 = .ok (.iconst 4, 1) := by decide +kernel
theorem d_9_13_38 : decode prog_9_method_13_code 38 = .ok (.invokevirtual 144, 3) := by decide +kernel
theorem d_9_13_41 : decode prog_9_method_13_code 41 = .ok (.ifCond .eq 15, 3) := by decide +kernel
theorem d_9_13_56 : decode prog_9_method_13_code 56 = .ok (.aload_n 0, 1) := by decide +kernel
theorem d_9_13_57 : decode prog_9_method_13_code 57 = .ok (.getfield 47, 3) := by decide +kernel
theorem d_9_13_60 : decode prog_9_method_13_code 60 = .ok (.sipush 128, 3) := by decide +kernel
theorem d_9_13_63 : decode prog_9_method_13_code 63 = .ok (.invokevirtual 144, 3) := by decide +kernel
theorem d_9_13_66 : decode prog_9_method_13_code 66 = .ok (.ifCond .eq 12, 3) := by decide +kernel
theorem d_9_13_78 : decode prog_9_method_13_code 78 = .ok (.aload_n 0, 1) := by decide +kernel
theorem d_9_13_79 : decode prog_9_method_13_code 79 = .ok (.aload_n 0, 1) := by decide +kernel
theorem d_9_13_80 : decode prog_9_method_13_code 80 = .ok (.getfield 31, 3) := by decide +kernel
theorem d_9_13_83 : decode prog_9_method_13_code 83 = .ok (.getfield 73, 3) := by decide +kernel
theorem d_9_13_86 : decode prog_9_method_13_code 86 = .ok (.putfield 90, 3) := by decide +kernel
set_option maxRecDepth 100000 in
theorem w_394 : (Cond.fieldLink "NumberHouse$Printer" (90 : Nat) "NumberHouse$Printer" "zerosAt" "I") ∈ q_tbl := q_of2 154 rfl (by decide +kernel)
theorem d_9_13_89 : decode prog_9_method_13_code 89 = .ok (.return_, 1) := by decide +kernel
theorem d_9_13_69 : decode prog_9_method_13_code 69 = .ok (.aload_n 0, 1) := by decide +kernel
theorem d_9_13_70 : decode prog_9_method_13_code 70 = .ok (.getfield 31, 3) := by decide +kernel
theorem d_9_13_73 : decode prog_9_method_13_code 73 = .ok (.bipush 32, 2) := by decide +kernel
theorem d_9_13_75 : decode prog_9_method_13_code 75 = .ok (.invokevirtual 113, 3) := by decide +kernel
theorem d_9_13_44 : decode prog_9_method_13_code 44 = .ok (.aload_n 0, 1) := by decide +kernel
theorem d_9_13_45 : decode prog_9_method_13_code 45 = .ok (.getfield 31, 3) := by decide +kernel
theorem d_9_13_48 : decode prog_9_method_13_code 48 = .ok (.bipush 43, 2) := by decide +kernel
theorem d_9_13_50 : decode prog_9_method_13_code 50 = .ok (.invokevirtual 113, 3) := by decide +kernel
theorem d_9_13_53 : decode prog_9_method_13_code 53 = .ok (.goto 25, 3) := by decide +kernel
theorem d_9_13_4 : decode prog_9_method_13_code 4 = .ok (.aload_n 0, 1) := by decide +kernel
theorem d_9_13_5 : decode prog_9_method_13_code 5 = .ok (.getfield 31, 3) := by decide +kernel
theorem d_9_13_8 : decode prog_9_method_13_code 8 = .ok (.aload_n 0, 1) := by decide +kernel
theorem d_9_13_9 : decode prog_9_method_13_code 9 = .ok (.getfield 47, 3) := by decide +kernel
theorem d_9_13_12 : decode prog_9_method_13_code 12 = .ok (.bipush 32, 2) := by decide +kernel
theorem d_9_13_14 : decode prog_9_method_13_code 14 = .ok (.invokevirtual 144, 3) := by decide +kernel
theorem d_9_13_17 : decode prog_9_method_13_code 17 = .ok (.ifCond .eq 8, 3) := by decide +kernel
theorem d_9_13_25 : decode prog_9_method_13_code 25 = .ok (.bipush 45, 2) := by decide +kernel
theorem d_9_13_27 : decode prog_9_method_13_code 27 = .ok (.invokevirtual 113, 3) := by decide +kernel
theorem d_9_13_30 : decode prog_9_method_13_code 30 = .ok (.goto 48, 3) := by decide +kernel
theorem d_9_13_20 : decode prog_9_method_13_code 20 = .ok (.bipush 40, 2) := by decide +kernel
theorem d_9_13_22 : decode prog_9_method_13_code 22 = .ok (.goto 5, 3) := by decide +kernel
def y_Pri_writeSign : MethodName := ⟨"NumberHouse$Printer", "writeSign", "(Z)V"⟩
theorem d_9_12_0 : decode prog_9_method_12_code 0 = .ok (.aload_n 0, 1) := by decide +kernel
theorem d_9_12_1 : decode prog_9_method_12_code 1 = .ok (.getfield 47, 3) := by decide +kernel
theorem d_9_12_4 : decode prog_9_method_12_code 4 = .ok (.getfield 156, 3) := by decide +kernel
set_option maxRecDepth 100000 in
theorem w_362 : (Cond.fieldLink "NumberHouse$Printer" (156 : Nat) "NumberHouse$Directive" "conversion" "I") ∈ q_tbl := q_of2 122 rfl (by decide +kernel)
theorem d_9_12_7 : decode prog_9_method_12_code 7 = .ok (.bipush 111, 2) := by decide +kernel
theorem d_9_12_17 : decode prog_9_method_12_code 17 = .ok (.istore_n 3, 1) := by decide +kernel
theorem d_9_12_18 : decode prog_9_method_12_code 18 = .ok (.aload_n 0, 1) := by decide +kernel
theorem d_9_12_19 : decode prog_9_method_12_code 19 = .ok (.getfield 47, 3) := by decide +kernel
theorem d_9_12_22 : decode prog_9_method_12_code 22 = .ok (.iconst 2, 1) := by decide +kernel
theorem d_9_12_23 : decode prog_9_method_12_code 23 = .ok (.invokevirtual 144, 3) := by decide +kernel
theorem d_9_12_47 : decode prog_9_method_12_code 47 = .ok (.aload_n 0, 1) := by decide +kernel
theorem d_9_12_48 : decode prog_9_method_12_code 48 = .ok (.aload_n 0, 1) := by decide +kernel
theorem d_9_12_49 : decode prog_9_method_12_code 49 = .ok (.getfield 31, 3) := by decide +kernel
theorem d_9_12_52 : decode prog_9_method_12_code 52 = .ok (.getfield 73, 3) := by decide +kernel
theorem d_9_12_55 : decode prog_9_method_12_code 55 = .ok (.putfield 90, 3) := by decide +kernel
theorem d_9_12_58 : decode prog_9_method_12_code 58 = .ok (.iload_n 3, 1) := by decide +kernel
theorem d_9_12_67 : decode prog_9_method_12_code 67 = .ok (.istore 4, 2) := by decide +kernel
theorem d_9_12_69 : decode prog_9_method_12_code 69 = .ok (.bipush 63, 2) := by decide +kernel
theorem d_9_12_71 : decode prog_9_method_12_code 71 = .ok (.iload 4, 2) := by decide +kernel
theorem d_9_12_73 : decode prog_9_method_12_code 73 = .ok (.idiv, 1) := by decide +kernel
theorem d_9_12_74 : decode prog_9_method_12_code 74 = .ok (.iconst 1, 1) := by decide +kernel
theorem d_9_12_75 : decode prog_9_method_12_code 75 = .ok (.iadd, 1) := by decide +kernel
theorem d_9_12_76 : decode prog_9_method_12_code 76 = .ok (.istore 5, 2) := by decide +kernel
theorem d_9_12_78 : decode prog_9_method_12_code 78 = .ok (.iload 5, 2) := by decide +kernel
theorem d_9_12_80 : decode prog_9_method_12_code 80 = .ok (.iconst 1, 1) := by decide +kernel
theorem d_9_12_104 : decode prog_9_method_12_code 104 = .ok (.iload 5, 2) := by decide +kernel
theorem d_9_12_106 : decode prog_9_method_12_code 106 = .ok (.iconst 1, 1) := by decide +kernel
theorem d_9_12_107 : decode prog_9_method_12_code 107 = .ok (.isub, 1) := by decide +kernel
theorem d_9_12_108 : decode prog_9_method_12_code 108 = .ok (.istore 6, 2) := by decide +kernel
theorem d_9_12_110 : decode prog_9_method_12_code 110 = .ok (.iload 6, 2) := by decide +kernel
theorem d_9_12_112 : decode prog_9_method_12_code 112 = .ok (.ifCond .lt 36, 3) := by decide +kernel
theorem d_9_12_148 : decode prog_9_method_12_code 148 = .ok (.return_, 1) := by decide +kernel
theorem d_9_12_115 : decode prog_9_method_12_code 115 = .ok (.aload_n 0, 1) := by decide +kernel
theorem d_9_12_116 : decode prog_9_method_12_code 116 = .ok (.getfield 31, 3) := by decide +kernel
theorem d_9_12_119 : decode prog_9_method_12_code 119 = .ok (.ldc 214, 2) := by decide +kernel
theorem d_9_12_121 : decode prog_9_method_12_code 121 = .ok (.lload_n 1, 1) := by decide +kernel
theorem d_9_12_122 : decode prog_9_method_12_code 122 = .ok (.iload 4, 2) := by decide +kernel
theorem d_9_12_124 : decode prog_9_method_12_code 124 = .ok (.iload 6, 2) := by decide +kernel
theorem d_9_12_126 : decode prog_9_method_12_code 126 = .ok (.imul, 1) := by decide +kernel
theorem d_9_12_127 : decode prog_9_method_12_code 127 = .ok (.lushr, 1) := by decide +kernel
theorem d_9_12_128 : decode prog_9_method_12_code 128 = .ok (.l2i, 1) := by decide +kernel
theorem d_9_12_129 : decode prog_9_method_12_code 129 = .ok (.iconst 1, 1) := by decide +kernel
theorem d_9_12_130 : decode prog_9_method_12_code 130 = .ok (.iload 4, 2) := by decide +kernel
theorem d_9_12_132 : decode prog_9_method_12_code 132 = .ok (.ishl, 1) := by decide +kernel
theorem d_9_12_133 : decode prog_9_method_12_code 133 = .ok (.iconst 1, 1) := by decide +kernel
theorem d_9_12_134 : decode prog_9_method_12_code 134 = .ok (.isub, 1) := by decide +kernel
theorem d_9_12_135 : decode prog_9_method_12_code 135 = .ok (.iand, 1) := by decide +kernel
theorem d_9_12_136 : decode prog_9_method_12_code 136 = .ok (.invokevirtual 216, 3) := by decide +kernel
set_option maxRecDepth 100000 in
theorem w_1877 : (Cond.methodLink "NumberHouse$Printer" (216 : Nat) ({ cls := "java/lang/String", name := "charAt", desc := "(I)C" } : MethodName)) ∈ q_tbl := q_of8 197 rfl (by decide +kernel)
theorem LV_Pri_216 : q_LV "NumberHouse$Printer" 216 y_jStr_charAt prog_31_method_56_code 2 (some .char) 1 := ⟨w_668, w_25, w_1877, w_666, w_667, ⟨by decide, by decide, by decide +kernel⟩⟩
theorem d_9_12_139 : decode prog_9_method_12_code 139 = .ok (.invokevirtual 113, 3) := by decide +kernel
theorem d_9_12_142 : decode prog_9_method_12_code 142 = .ok (.iinc 6 (-1), 3) := by decide +kernel
theorem d_9_12_145 : decode prog_9_method_12_code 145 = .ok (.goto (-35), 3) := by decide +kernel
theorem d_9_12_81 : decode prog_9_method_12_code 81 = .ok (.if_icmp .le 23, 3) := by decide +kernel
theorem d_9_12_84 : decode prog_9_method_12_code 84 = .ok (.lload_n 1, 1) := by decide +kernel
theorem d_9_12_85 : decode prog_9_method_12_code 85 = .ok (.iload 4, 2) := by decide +kernel
theorem d_9_12_87 : decode prog_9_method_12_code 87 = .ok (.iload 5, 2) := by decide +kernel
theorem d_9_12_89 : decode prog_9_method_12_code 89 = .ok (.iconst 1, 1) := by decide +kernel
theorem d_9_12_90 : decode prog_9_method_12_code 90 = .ok (.isub, 1) := by decide +kernel
theorem d_9_12_91 : decode prog_9_method_12_code 91 = .ok (.imul, 1) := by decide +kernel
theorem d_9_12_92 : decode prog_9_method_12_code 92 = .ok (.lushr, 1) := by decide +kernel
theorem d_9_12_93 : decode prog_9_method_12_code 93 = .ok (.lconst 0, 1) := by decide +kernel
theorem d_9_12_94 : decode prog_9_method_12_code 94 = .ok (.lcmp, 1) := by decide +kernel
theorem d_9_12_95 : decode prog_9_method_12_code 95 = .ok (.ifCond .ne 9, 3) := by decide +kernel
theorem d_9_12_98 : decode prog_9_method_12_code 98 = .ok (.iinc 5 (-1), 3) := by decide +kernel
theorem d_9_12_101 : decode prog_9_method_12_code 101 = .ok (.goto (-23), 3) := by decide +kernel
theorem d_9_12_59 : decode prog_9_method_12_code 59 = .ok (.ifCond .eq 7, 3) := by decide +kernel
theorem d_9_12_66 : decode prog_9_method_12_code 66 = .ok (.iconst 4, 1) := by decide +kernel
theorem d_9_12_62 : decode prog_9_method_12_code 62 = .ok (.iconst 3, 1) := by decide +kernel
theorem d_9_12_63 : decode prog_9_method_12_code 63 = .ok (.goto 4, 3) := by decide +kernel
theorem d_9_12_26 : decode prog_9_method_12_code 26 = .ok (.ifCond .eq 21, 3) := by decide +kernel
theorem d_9_12_29 : decode prog_9_method_12_code 29 = .ok (.aload_n 0, 1) := by decide +kernel
theorem d_9_12_30 : decode prog_9_method_12_code 30 = .ok (.getfield 31, 3) := by decide +kernel
theorem d_9_12_33 : decode prog_9_method_12_code 33 = .ok (.iload_n 3, 1) := by decide +kernel
theorem d_9_12_34 : decode prog_9_method_12_code 34 = .ok (.ifCond .eq 8, 3) := by decide +kernel
theorem d_9_12_42 : decode prog_9_method_12_code 42 = .ok (.ldc 210, 2) := by decide +kernel
theorem d_9_12_44 : decode prog_9_method_12_code 44 = .ok (.invokevirtual 165, 3) := by decide +kernel
set_option maxRecDepth 100000 in
theorem w_1608 : (Cond.code ({ cls := "NumberHouse$Sheet", name := "addText", desc := "(Ljava/lang/String;)V" } : MethodName) prog_11_method_4_code (3 : Nat) (none : Option ClassFile.FieldType)) ∈ q_tbl := q_of7 168 rfl (by decide +kernel)
set_option maxRecDepth 100000 in
theorem w_1851 : (Cond.methodLink "NumberHouse$Printer" (165 : Nat) ({ cls := "NumberHouse$Sheet", name := "addText", desc := "(Ljava/lang/String;)V" } : MethodName)) ∈ q_tbl := q_of8 171 rfl (by decide +kernel)
set_option maxRecDepth 100000 in
theorem w_1606 : (Cond.instanceMethod ({ cls := "NumberHouse$Sheet", name := "addText", desc := "(Ljava/lang/String;)V" } : MethodName)) ∈ q_tbl := q_of7 166 rfl (by decide +kernel)
set_option maxRecDepth 100000 in
theorem w_1607 : (Cond.selects "NumberHouse$Sheet" ({ cls := "NumberHouse$Sheet", name := "addText", desc := "(Ljava/lang/String;)V" } : MethodName) ({ cls := "NumberHouse$Sheet", name := "addText", desc := "(Ljava/lang/String;)V" } : MethodName)) ∈ q_tbl := q_of7 167 rfl (by decide +kernel)
theorem LV_Pri_165 : q_LV "NumberHouse$Printer" 165 y_She_addText prog_11_method_4_code 3 none 1 := ⟨w_1608, w_2, w_1851, w_1606, w_1607, ⟨by decide, by decide, by decide +kernel⟩⟩
theorem d_9_12_37 : decode prog_9_method_12_code 37 = .ok (.ldc 208, 2) := by decide +kernel
theorem d_9_12_39 : decode prog_9_method_12_code 39 = .ok (.goto 5, 3) := by decide +kernel
theorem d_9_12_9 : decode prog_9_method_12_code 9 = .ok (.if_icmp .ne 7, 3) := by decide +kernel
theorem d_9_12_16 : decode prog_9_method_12_code 16 = .ok (.iconst 0, 1) := by decide +kernel
theorem d_9_12_12 : decode prog_9_method_12_code 12 = .ok (.iconst 1, 1) := by decide +kernel
theorem d_9_12_13 : decode prog_9_method_12_code 13 = .ok (.goto 4, 3) := by decide +kernel
def y_Pri_writeToBase : MethodName := ⟨"NumberHouse$Printer", "writeToBase", "(J)V"⟩
theorem d_9_14_0 : decode prog_9_method_14_code 0 = .ok (.aload_n 0, 1) := by decide +kernel
theorem d_9_14_1 : decode prog_9_method_14_code 1 = .ok (.getfield 47, 3) := by decide +kernel
theorem d_9_14_4 : decode prog_9_method_14_code 4 = .ok (.invokevirtual 222, 3) := by decide +kernel
set_option maxRecDepth 100000 in
theorem w_1889 : (Cond.code ({ cls := "NumberHouse$Directive", name := "isLarge", desc := "()Z" } : MethodName) prog_6_method_10_code (1 : Nat) (some .boolean)) ∈ q_tbl := q_of8 209 rfl (by decide +kernel)
set_option maxRecDepth 100000 in
theorem w_1886 : (Cond.methodLink "NumberHouse$Printer" (222 : Nat) ({ cls := "NumberHouse$Directive", name := "isLarge", desc := "()Z" } : MethodName)) ∈ q_tbl := q_of8 206 rfl (by decide +kernel)
set_option maxRecDepth 100000 in
theorem w_1887 : (Cond.instanceMethod ({ cls := "NumberHouse$Directive", name := "isLarge", desc := "()Z" } : MethodName)) ∈ q_tbl := q_of8 207 rfl (by decide +kernel)
set_option maxRecDepth 100000 in
theorem w_1888 : (Cond.selects "NumberHouse$Directive" ({ cls := "NumberHouse$Directive", name := "isLarge", desc := "()Z" } : MethodName) ({ cls := "NumberHouse$Directive", name := "isLarge", desc := "()Z" } : MethodName)) ∈ q_tbl := q_of8 208 rfl (by decide +kernel)
theorem LV_Pri_222 : q_LV "NumberHouse$Printer" 222 y_Dir_isLarge prog_6_method_10_code 1 (some .boolean) 0 := ⟨w_1889, w_13, w_1886, w_1887, w_1888, ⟨by decide, by decide, by decide +kernel⟩⟩
theorem d_9_14_30 : decode prog_9_method_14_code 30 = .ok (.istore_n 1, 1) := by decide +kernel
theorem d_9_14_31 : decode prog_9_method_14_code 31 = .ok (.aload_n 0, 1) := by decide +kernel
theorem d_9_14_32 : decode prog_9_method_14_code 32 = .ok (.getfield 47, 3) := by decide +kernel
theorem d_9_14_35 : decode prog_9_method_14_code 35 = .ok (.getfield 198, 3) := by decide +kernel
theorem d_9_14_38 : decode prog_9_method_14_code 38 = .ok (.iconst (-1), 1) := by decide +kernel
theorem d_9_14_54 : decode prog_9_method_14_code 54 = .ok (.istore_n 2, 1) := by decide +kernel
theorem d_9_14_55 : decode prog_9_method_14_code 55 = .ok (.iload_n 1, 1) := by decide +kernel
theorem d_9_14_56 : decode prog_9_method_14_code 56 = .ok (.bipush 100, 2) := by decide +kernel
theorem d_9_14_156 : decode prog_9_method_14_code 156 = .ok (.aload_n 0, 1) := by decide +kernel
theorem d_9_14_157 : decode prog_9_method_14_code 157 = .ok (.getfield 47, 3) := by decide +kernel
theorem d_9_14_160 : decode prog_9_method_14_code 160 = .ok (.iconst 2, 1) := by decide +kernel
theorem d_9_14_161 : decode prog_9_method_14_code 161 = .ok (.invokevirtual 144, 3) := by decide +kernel
theorem d_9_14_164 : decode prog_9_method_14_code 164 = .ok (.istore_n 3, 1) := by decide +kernel
theorem d_9_14_165 : decode prog_9_method_14_code 165 = .ok (.iload_n 1, 1) := by decide +kernel
theorem d_9_14_166 : decode prog_9_method_14_code 166 = .ok (.bipush 102, 2) := by decide +kernel
theorem d_9_14_168 : decode prog_9_method_14_code 168 = .ok (.if_icmp .ne 47, 3) := by decide +kernel
theorem d_9_14_215 : decode prog_9_method_14_code 215 = .ok (.aload_n 0, 1) := by decide +kernel
theorem d_9_14_216 : decode prog_9_method_14_code 216 = .ok (.getfield 38, 3) := by decide +kernel
theorem d_9_14_219 : decode prog_9_method_14_code 219 = .ok (.iload_n 2, 1) := by decide +kernel
theorem d_9_14_220 : decode prog_9_method_14_code 220 = .ok (.iconst 1, 1) := by decide +kernel
theorem d_9_14_221 : decode prog_9_method_14_code 221 = .ok (.iadd, 1) := by decide +kernel
theorem d_9_14_222 : decode prog_9_method_14_code 222 = .ok (.iconst 2, 1) := by decide +kernel
theorem d_9_14_223 : decode prog_9_method_14_code 223 = .ok (.invokevirtual 225, 3) := by decide +kernel
set_option maxRecDepth 100000 in
theorem w_1655 : (Cond.code ({ cls := "NumberHouse$Digits", name := "round", desc := "(II)V" } : MethodName) prog_5_method_6_code (4 : Nat) (none : Option ClassFile.FieldType)) ∈ q_tbl := q_of7 215 rfl (by decide +kernel)
set_option maxRecDepth 100000 in
theorem w_1891 : (Cond.methodLink "NumberHouse$Printer" (225 : Nat) ({ cls := "NumberHouse$Digits", name := "round", desc := "(II)V" } : MethodName)) ∈ q_tbl := q_of8 211 rfl (by decide +kernel)
set_option maxRecDepth 100000 in
theorem w_1653 : (Cond.instanceMethod ({ cls := "NumberHouse$Digits", name := "round", desc := "(II)V" } : MethodName)) ∈ q_tbl := q_of7 213 rfl (by decide +kernel)
set_option maxRecDepth 100000 in
theorem w_1654 : (Cond.selects "NumberHouse$Digits" ({ cls := "NumberHouse$Digits", name := "round", desc := "(II)V" } : MethodName) ({ cls := "NumberHouse$Digits", name := "round", desc := "(II)V" } : MethodName)) ∈ q_tbl := q_of7 214 rfl (by decide +kernel)
theorem LV_Pri_225 : q_LV "NumberHouse$Printer" 225 y_Dig_round prog_5_method_6_code 4 none 2 := ⟨w_1655, w_9, w_1891, w_1653, w_1654, ⟨by decide, by decide, by decide +kernel⟩⟩
theorem d_9_14_226 : decode prog_9_method_14_code 226 = .ok (.aload_n 0, 1) := by decide +kernel
theorem d_9_14_227 : decode prog_9_method_14_code 227 = .ok (.getfield 38, 3) := by decide +kernel
theorem d_9_14_230 : decode prog_9_method_14_code 230 = .ok (.aload_n 0, 1) := by decide +kernel
theorem d_9_14_231 : decode prog_9_method_14_code 231 = .ok (.getfield 31, 3) := by decide +kernel
theorem d_9_14_234 : decode prog_9_method_14_code 234 = .ok (.iload_n 2, 1) := by decide +kernel
theorem d_9_14_235 : decode prog_9_method_14_code 235 = .ok (.iconst 1, 1) := by decide +kernel
theorem d_9_14_236 : decode prog_9_method_14_code 236 = .ok (.iadd, 1) := by decide +kernel
theorem d_9_14_237 : decode prog_9_method_14_code 237 = .ok (.iload_n 3, 1) := by decide +kernel
theorem d_9_14_238 : decode prog_9_method_14_code 238 = .ok (.invokevirtual 232, 3) := by decide +kernel
set_option maxRecDepth 100000 in
theorem w_1667 : (Cond.code ({ cls := "NumberHouse$Digits", name := "writeScience", desc := "(LNumberHouse$Sheet;IZ)V" } : MethodName) prog_5_method_10_code (4 : Nat) (none : Option ClassFile.FieldType)) ∈ q_tbl := q_of7 227 rfl (by decide +kernel)
set_option maxRecDepth 100000 in
theorem w_1892 : (Cond.methodLink "NumberHouse$Printer" (232 : Nat) ({ cls := "NumberHouse$Digits", name := "writeScience", desc := "(LNumberHouse$Sheet;IZ)V" } : MethodName)) ∈ q_tbl := q_of8 212 rfl (by decide +kernel)
set_option maxRecDepth 100000 in
theorem w_1665 : (Cond.instanceMethod ({ cls := "NumberHouse$Digits", name := "writeScience", desc := "(LNumberHouse$Sheet;IZ)V" } : MethodName)) ∈ q_tbl := q_of7 225 rfl (by decide +kernel)
set_option maxRecDepth 100000 in
theorem w_1666 : (Cond.selects "NumberHouse$Digits" ({ cls := "NumberHouse$Digits", name := "writeScience", desc := "(LNumberHouse$Sheet;IZ)V" } : MethodName) ({ cls := "NumberHouse$Digits", name := "writeScience", desc := "(LNumberHouse$Sheet;IZ)V" } : MethodName)) ∈ q_tbl := q_of7 226 rfl (by decide +kernel)
theorem LV_Pri_232 : q_LV "NumberHouse$Printer" 232 y_Dig_writeScience prog_5_method_10_code 4 none 3 := ⟨w_1667, w_9, w_1892, w_1665, w_1666, ⟨by decide, by decide, by decide +kernel⟩⟩
theorem d_9_14_241 : decode prog_9_method_14_code 241 = .ok (.return_, 1) := by decide +kernel
theorem d_9_14_171 : decode prog_9_method_14_code 171 = .ok (.aload_n 0, 1) := by decide +kernel
theorem d_9_14_172 : decode prog_9_method_14_code 172 = .ok (.getfield 38, 3) := by decide +kernel
theorem d_9_14_175 : decode prog_9_method_14_code 175 = .ok (.aload_n 0, 1) := by decide +kernel
theorem d_9_14_176 : decode prog_9_method_14_code 176 = .ok (.getfield 38, 3) := by decide +kernel
theorem d_9_14_179 : decode prog_9_method_14_code 179 = .ok (.getfield 229, 3) := by decide +kernel
set_option maxRecDepth 100000 in
theorem w_268 : (Cond.fieldLink "NumberHouse$Printer" (229 : Nat) "NumberHouse$Digits" "power" "I") ∈ q_tbl := q_of2 28 rfl (by decide +kernel)
theorem d_9_14_182 : decode prog_9_method_14_code 182 = .ok (.iconst 1, 1) := by decide +kernel
theorem d_9_14_183 : decode prog_9_method_14_code 183 = .ok (.iadd, 1) := by decide +kernel
theorem d_9_14_184 : decode prog_9_method_14_code 184 = .ok (.iload_n 2, 1) := by decide +kernel
theorem d_9_14_185 : decode prog_9_method_14_code 185 = .ok (.iadd, 1) := by decide +kernel
theorem d_9_14_186 : decode prog_9_method_14_code 186 = .ok (.iconst 2, 1) := by decide +kernel
theorem d_9_14_187 : decode prog_9_method_14_code 187 = .ok (.invokevirtual 225, 3) := by decide +kernel
theorem d_9_14_190 : decode prog_9_method_14_code 190 = .ok (.aload_n 0, 1) := by decide +kernel
theorem d_9_14_191 : decode prog_9_method_14_code 191 = .ok (.getfield 38, 3) := by decide +kernel
theorem d_9_14_194 : decode prog_9_method_14_code 194 = .ok (.aload_n 0, 1) := by decide +kernel
theorem d_9_14_195 : decode prog_9_method_14_code 195 = .ok (.getfield 31, 3) := by decide +kernel
theorem d_9_14_198 : decode prog_9_method_14_code 198 = .ok (.iload_n 2, 1) := by decide +kernel
theorem d_9_14_199 : decode prog_9_method_14_code 199 = .ok (.aload_n 0, 1) := by decide +kernel
theorem d_9_14_200 : decode prog_9_method_14_code 200 = .ok (.getfield 47, 3) := by decide +kernel
theorem d_9_14_203 : decode prog_9_method_14_code 203 = .ok (.bipush 16, 2) := by decide +kernel
theorem d_9_14_205 : decode prog_9_method_14_code 205 = .ok (.invokevirtual 144, 3) := by decide +kernel
theorem d_9_14_208 : decode prog_9_method_14_code 208 = .ok (.iload_n 3, 1) := by decide +kernel
theorem d_9_14_209 : decode prog_9_method_14_code 209 = .ok (.invokevirtual 204, 3) := by decide +kernel
set_option maxRecDepth 100000 in
theorem w_1570 : (Cond.code ({ cls := "NumberHouse$Digits", name := "writePlain", desc := "(LNumberHouse$Sheet;IZZ)V" } : MethodName) prog_5_method_9_code (6 : Nat) (none : Option ClassFile.FieldType)) ∈ q_tbl := q_of7 130 rfl (by decide +kernel)
set_option maxRecDepth 100000 in
theorem w_1868 : (Cond.methodLink "NumberHouse$Printer" (204 : Nat) ({ cls := "NumberHouse$Digits", name := "writePlain", desc := "(LNumberHouse$Sheet;IZZ)V" } : MethodName)) ∈ q_tbl := q_of8 188 rfl (by decide +kernel)
set_option maxRecDepth 100000 in
theorem w_1568 : (Cond.instanceMethod ({ cls := "NumberHouse$Digits", name := "writePlain", desc := "(LNumberHouse$Sheet;IZZ)V" } : MethodName)) ∈ q_tbl := q_of7 128 rfl (by decide +kernel)
set_option maxRecDepth 100000 in
theorem w_1569 : (Cond.selects "NumberHouse$Digits" ({ cls := "NumberHouse$Digits", name := "writePlain", desc := "(LNumberHouse$Sheet;IZZ)V" } : MethodName) ({ cls := "NumberHouse$Digits", name := "writePlain", desc := "(LNumberHouse$Sheet;IZZ)V" } : MethodName)) ∈ q_tbl := q_of7 129 rfl (by decide +kernel)
theorem LV_Pri_204 : q_LV "NumberHouse$Printer" 204 y_Dig_writePlain prog_5_method_9_code 6 none 4 := ⟨w_1570, w_9, w_1868, w_1568, w_1569, ⟨by decide, by decide, by decide +kernel⟩⟩
theorem d_9_14_212 : decode prog_9_method_14_code 212 = .ok (.goto 29, 3) := by decide +kernel
theorem d_9_14_58 : decode prog_9_method_14_code 58 = .ok (.if_icmp .ne 11, 3) := by decide +kernel
theorem d_9_14_69 : decode prog_9_method_14_code 69 = .ok (.iload_n 1, 1) := by decide +kernel
theorem d_9_14_70 : decode prog_9_method_14_code 70 = .ok (.bipush 103, 2) := by decide +kernel
theorem d_9_14_72 : decode prog_9_method_14_code 72 = .ok (.if_icmp .ne 84, 3) := by decide +kernel
theorem d_9_14_75 : decode prog_9_method_14_code 75 = .ok (.iload_n 2, 1) := by decide +kernel
theorem d_9_14_76 : decode prog_9_method_14_code 76 = .ok (.iconst 1, 1) := by decide +kernel
theorem d_9_14_77 : decode prog_9_method_14_code 77 = .ok (.invokestatic 119, 3) := by decide +kernel
set_option maxRecDepth 100000 in
theorem w_1890 : (Cond.methodLink "NumberHouse$Printer" (119 : Nat) ({ cls := "java/lang/Math", name := "max", desc := "(II)I" } : MethodName)) ∈ q_tbl := q_of8 210 rfl (by decide +kernel)
theorem d_9_14_80 : decode prog_9_method_14_code 80 = .ok (.istore_n 3, 1) := by decide +kernel
theorem d_9_14_81 : decode prog_9_method_14_code 81 = .ok (.aload_n 0, 1) := by decide +kernel
theorem d_9_14_82 : decode prog_9_method_14_code 82 = .ok (.getfield 38, 3) := by decide +kernel
theorem d_9_14_85 : decode prog_9_method_14_code 85 = .ok (.iload_n 3, 1) := by decide +kernel
theorem d_9_14_86 : decode prog_9_method_14_code 86 = .ok (.iconst 2, 1) := by decide +kernel
theorem d_9_14_87 : decode prog_9_method_14_code 87 = .ok (.invokevirtual 225, 3) := by decide +kernel
theorem d_9_14_90 : decode prog_9_method_14_code 90 = .ok (.aload_n 0, 1) := by decide +kernel
theorem d_9_14_91 : decode prog_9_method_14_code 91 = .ok (.getfield 38, 3) := by decide +kernel
theorem d_9_14_94 : decode prog_9_method_14_code 94 = .ok (.getfield 229, 3) := by decide +kernel
theorem d_9_14_97 : decode prog_9_method_14_code 97 = .ok (.bipush (-4), 2) := by decide +kernel
theorem d_9_14_117 : decode prog_9_method_14_code 117 = .ok (.iconst 0, 1) := by decide +kernel
theorem d_9_14_118 : decode prog_9_method_14_code 118 = .ok (.istore 4, 2) := by decide +kernel
theorem d_9_14_120 : decode prog_9_method_14_code 120 = .ok (.iload 4, 2) := by decide +kernel
theorem d_9_14_122 : decode prog_9_method_14_code 122 = .ok (.ifCond .eq 8, 3) := by decide +kernel
theorem d_9_14_130 : decode prog_9_method_14_code 130 = .ok (.bipush 101, 2) := by decide +kernel
theorem d_9_14_132 : decode prog_9_method_14_code 132 = .ok (.istore_n 1, 1) := by decide +kernel
theorem d_9_14_133 : decode prog_9_method_14_code 133 = .ok (.iload 4, 2) := by decide +kernel
theorem d_9_14_135 : decode prog_9_method_14_code 135 = .ok (.ifCond .eq 17, 3) := by decide +kernel
theorem d_9_14_152 : decode prog_9_method_14_code 152 = .ok (.iload_n 3, 1) := by decide +kernel
theorem d_9_14_153 : decode prog_9_method_14_code 153 = .ok (.iconst 1, 1) := by decide +kernel
theorem d_9_14_154 : decode prog_9_method_14_code 154 = .ok (.isub, 1) := by decide +kernel
theorem d_9_14_155 : decode prog_9_method_14_code 155 = .ok (.istore_n 2, 1) := by decide +kernel
theorem d_9_14_99 : decode prog_9_method_14_code 99 = .ok (.if_icmp .lt 18, 3) := by decide +kernel
theorem d_9_14_102 : decode prog_9_method_14_code 102 = .ok (.aload_n 0, 1) := by decide +kernel
theorem d_9_14_103 : decode prog_9_method_14_code 103 = .ok (.getfield 38, 3) := by decide +kernel
theorem d_9_14_106 : decode prog_9_method_14_code 106 = .ok (.getfield 229, 3) := by decide +kernel
theorem d_9_14_109 : decode prog_9_method_14_code 109 = .ok (.iload_n 3, 1) := by decide +kernel
theorem d_9_14_110 : decode prog_9_method_14_code 110 = .ok (.if_icmp .ge 7, 3) := by decide +kernel
theorem d_9_14_113 : decode prog_9_method_14_code 113 = .ok (.iconst 1, 1) := by decide +kernel
theorem d_9_14_114 : decode prog_9_method_14_code 114 = .ok (.goto 4, 3) := by decide +kernel
theorem d_9_14_125 : decode prog_9_method_14_code 125 = .ok (.bipush 102, 2) := by decide +kernel
theorem d_9_14_127 : decode prog_9_method_14_code 127 = .ok (.goto 5, 3) := by decide +kernel
theorem d_9_14_138 : decode prog_9_method_14_code 138 = .ok (.iload_n 3, 1) := by decide +kernel
theorem d_9_14_139 : decode prog_9_method_14_code 139 = .ok (.iconst 1, 1) := by decide +kernel
theorem d_9_14_140 : decode prog_9_method_14_code 140 = .ok (.isub, 1) := by decide +kernel
theorem d_9_14_141 : decode prog_9_method_14_code 141 = .ok (.aload_n 0, 1) := by decide +kernel
theorem d_9_14_142 : decode prog_9_method_14_code 142 = .ok (.getfield 38, 3) := by decide +kernel
theorem d_9_14_145 : decode prog_9_method_14_code 145 = .ok (.getfield 229, 3) := by decide +kernel
theorem d_9_14_148 : decode prog_9_method_14_code 148 = .ok (.isub, 1) := by decide +kernel
theorem d_9_14_149 : decode prog_9_method_14_code 149 = .ok (.goto 6, 3) := by decide +kernel
theorem d_9_14_61 : decode prog_9_method_14_code 61 = .ok (.bipush 102, 2) := by decide +kernel
theorem d_9_14_63 : decode prog_9_method_14_code 63 = .ok (.istore_n 1, 1) := by decide +kernel
theorem d_9_14_64 : decode prog_9_method_14_code 64 = .ok (.iconst 0, 1) := by decide +kernel
theorem d_9_14_65 : decode prog_9_method_14_code 65 = .ok (.istore_n 2, 1) := by decide +kernel
theorem d_9_14_66 : decode prog_9_method_14_code 66 = .ok (.goto 90, 3) := by decide +kernel
theorem d_9_14_39 : decode prog_9_method_14_code 39 = .ok (.if_icmp .ne 8, 3) := by decide +kernel
theorem d_9_14_47 : decode prog_9_method_14_code 47 = .ok (.aload_n 0, 1) := by decide +kernel
theorem d_9_14_48 : decode prog_9_method_14_code 48 = .ok (.getfield 47, 3) := by decide +kernel
theorem d_9_14_51 : decode prog_9_method_14_code 51 = .ok (.getfield 198, 3) := by decide +kernel
theorem d_9_14_42 : decode prog_9_method_14_code 42 = .ok (.bipush 6, 2) := by decide +kernel
theorem d_9_14_44 : decode prog_9_method_14_code 44 = .ok (.goto 10, 3) := by decide +kernel
theorem d_9_14_7 : decode prog_9_method_14_code 7 = .ok (.ifCond .eq 16, 3) := by decide +kernel
theorem d_9_14_23 : decode prog_9_method_14_code 23 = .ok (.aload_n 0, 1) := by decide +kernel
theorem d_9_14_24 : decode prog_9_method_14_code 24 = .ok (.getfield 47, 3) := by decide +kernel
theorem d_9_14_27 : decode prog_9_method_14_code 27 = .ok (.getfield 156, 3) := by decide +kernel
theorem d_9_14_10 : decode prog_9_method_14_code 10 = .ok (.aload_n 0, 1) := by decide +kernel
theorem d_9_14_11 : decode prog_9_method_14_code 11 = .ok (.getfield 47, 3) := by decide +kernel
theorem d_9_14_14 : decode prog_9_method_14_code 14 = .ok (.getfield 156, 3) := by decide +kernel
theorem d_9_14_17 : decode prog_9_method_14_code 17 = .ok (.bipush 32, 2) := by decide +kernel
theorem d_9_14_19 : decode prog_9_method_14_code 19 = .ok (.iadd, 1) := by decide +kernel
theorem d_9_14_20 : decode prog_9_method_14_code 20 = .ok (.goto 10, 3) := by decide +kernel
def y_Pri_writeNumber : MethodName := ⟨"NumberHouse$Printer", "writeNumber", "()V"⟩
theorem d_9_11_0 : decode prog_9_method_11_code 0 = .ok (.aload_n 0, 1) := by decide +kernel
theorem d_9_11_1 : decode prog_9_method_11_code 1 = .ok (.getfield 11, 3) := by decide +kernel
theorem d_9_11_4 : decode prog_9_method_11_code 4 = .ok (.iload_n 1, 1) := by decide +kernel
theorem d_9_11_5 : decode prog_9_method_11_code 5 = .ok (.iaload, 1) := by decide +kernel
theorem d_9_11_6 : decode prog_9_method_11_code 6 = .ok (.tableswitch 117 0 4 #[34, 46, 74, 117, 91], 34) := by decide +kernel
theorem d_9_11_40 : decode prog_9_method_11_code 40 = .ok (.aload_n 0, 1) := by decide +kernel
theorem d_9_11_41 : decode prog_9_method_11_code 41 = .ok (.getfield 31, 3) := by decide +kernel
theorem d_9_11_44 : decode prog_9_method_11_code 44 = .ok (.ldc 177, 2) := by decide +kernel
theorem d_9_11_46 : decode prog_9_method_11_code 46 = .ok (.invokevirtual 165, 3) := by decide +kernel
theorem d_9_11_49 : decode prog_9_method_11_code 49 = .ok (.goto 132, 3) := by decide +kernel
theorem d_9_11_181 : decode prog_9_method_11_code 181 = .ok (.return_, 1) := by decide +kernel
theorem d_9_11_52 : decode prog_9_method_11_code 52 = .ok (.aload_n 0, 1) := by decide +kernel
theorem d_9_11_53 : decode prog_9_method_11_code 53 = .ok (.getfield 31, 3) := by decide +kernel
theorem d_9_11_56 : decode prog_9_method_11_code 56 = .ok (.aload_n 0, 1) := by decide +kernel
theorem d_9_11_57 : decode prog_9_method_11_code 57 = .ok (.getfield 15, 3) := by decide +kernel
theorem d_9_11_60 : decode prog_9_method_11_code 60 = .ok (.iload_n 1, 1) := by decide +kernel
theorem d_9_11_61 : decode prog_9_method_11_code 61 = .ok (.laload, 1) := by decide +kernel
theorem d_9_11_62 : decode prog_9_method_11_code 62 = .ok (.lconst 0, 1) := by decide +kernel
theorem d_9_11_63 : decode prog_9_method_11_code 63 = .ok (.lcmp, 1) := by decide +kernel
theorem d_9_11_64 : decode prog_9_method_11_code 64 = .ok (.ifCond .ne 8, 3) := by decide +kernel
theorem d_9_11_72 : decode prog_9_method_11_code 72 = .ok (.ldc 163, 2) := by decide +kernel
theorem d_9_11_74 : decode prog_9_method_11_code 74 = .ok (.invokevirtual 165, 3) := by decide +kernel
theorem d_9_11_77 : decode prog_9_method_11_code 77 = .ok (.goto 104, 3) := by decide +kernel
theorem d_9_11_67 : decode prog_9_method_11_code 67 = .ok (.ldc 161, 2) := by decide +kernel
theorem d_9_11_69 : decode prog_9_method_11_code 69 = .ok (.goto 5, 3) := by decide +kernel
theorem d_9_11_80 : decode prog_9_method_11_code 80 = .ok (.aload_n 0, 1) := by decide +kernel
theorem d_9_11_81 : decode prog_9_method_11_code 81 = .ok (.getfield 31, 3) := by decide +kernel
theorem d_9_11_84 : decode prog_9_method_11_code 84 = .ok (.aload_n 0, 1) := by decide +kernel
theorem d_9_11_85 : decode prog_9_method_11_code 85 = .ok (.getfield 15, 3) := by decide +kernel
theorem d_9_11_88 : decode prog_9_method_11_code 88 = .ok (.iload_n 1, 1) := by decide +kernel
theorem d_9_11_89 : decode prog_9_method_11_code 89 = .ok (.laload, 1) := by decide +kernel
theorem d_9_11_90 : decode prog_9_method_11_code 90 = .ok (.l2i, 1) := by decide +kernel
theorem d_9_11_91 : decode prog_9_method_11_code 91 = .ok (.invokevirtual 113, 3) := by decide +kernel
theorem d_9_11_94 : decode prog_9_method_11_code 94 = .ok (.goto 87, 3) := by decide +kernel
theorem d_9_11_123 : decode prog_9_method_11_code 123 = .ok (.aload_n 0, 1) := by decide +kernel
theorem d_9_11_124 : decode prog_9_method_11_code 124 = .ok (.getfield 15, 3) := by decide +kernel
theorem d_9_11_127 : decode prog_9_method_11_code 127 = .ok (.iload_n 1, 1) := by decide +kernel
theorem d_9_11_128 : decode prog_9_method_11_code 128 = .ok (.laload, 1) := by decide +kernel
theorem d_9_11_129 : decode prog_9_method_11_code 129 = .ok (.lconst 0, 1) := by decide +kernel
theorem d_9_11_130 : decode prog_9_method_11_code 130 = .ok (.lcmp, 1) := by decide +kernel
theorem d_9_11_143 : decode prog_9_method_11_code 143 = .ok (.aload_n 0, 1) := by decide +kernel
theorem d_9_11_144 : decode prog_9_method_11_code 144 = .ok (.getfield 38, 3) := by decide +kernel
theorem d_9_11_147 : decode prog_9_method_11_code 147 = .ok (.aload_n 0, 1) := by decide +kernel
theorem d_9_11_148 : decode prog_9_method_11_code 148 = .ok (.getfield 15, 3) := by decide +kernel
theorem d_9_11_151 : decode prog_9_method_11_code 151 = .ok (.iload_n 1, 1) := by decide +kernel
theorem d_9_11_152 : decode prog_9_method_11_code 152 = .ok (.laload, 1) := by decide +kernel
theorem d_9_11_153 : decode prog_9_method_11_code 153 = .ok (.aload_n 0, 1) := by decide +kernel
theorem d_9_11_154 : decode prog_9_method_11_code 154 = .ok (.getfield 19, 3) := by decide +kernel
theorem d_9_11_157 : decode prog_9_method_11_code 157 = .ok (.iload_n 1, 1) := by decide +kernel
theorem d_9_11_158 : decode prog_9_method_11_code 158 = .ok (.iaload, 1) := by decide +kernel
theorem d_9_11_159 : decode prog_9_method_11_code 159 = .ok (.invokevirtual 189, 3) := by decide +kernel
set_option maxRecDepth 100000 in
theorem w_1638 : (Cond.code ({ cls := "NumberHouse$Digits", name := "fillLong", desc := "(JI)V" } : MethodName) prog_5_method_3_code (7 : Nat) (none : Option ClassFile.FieldType)) ∈ q_tbl := q_of7 198 rfl (by decide +kernel)
set_option maxRecDepth 100000 in
theorem w_1867 : (Cond.methodLink "NumberHouse$Printer" (189 : Nat) ({ cls := "NumberHouse$Digits", name := "fillLong", desc := "(JI)V" } : MethodName)) ∈ q_tbl := q_of8 187 rfl (by decide +kernel)
set_option maxRecDepth 100000 in
theorem w_1636 : (Cond.instanceMethod ({ cls := "NumberHouse$Digits", name := "fillLong", desc := "(JI)V" } : MethodName)) ∈ q_tbl := q_of7 196 rfl (by decide +kernel)
set_option maxRecDepth 100000 in
theorem w_1637 : (Cond.selects "NumberHouse$Digits" ({ cls := "NumberHouse$Digits", name := "fillLong", desc := "(JI)V" } : MethodName) ({ cls := "NumberHouse$Digits", name := "fillLong", desc := "(JI)V" } : MethodName)) ∈ q_tbl := q_of7 197 rfl (by decide +kernel)
theorem LV_Pri_189 : q_LV "NumberHouse$Printer" 189 y_Dig_fillLong prog_5_method_3_code 7 none 2 := ⟨w_1638, w_9, w_1867, w_1636, w_1637, ⟨by decide, by decide, by decide +kernel⟩⟩
theorem d_9_11_162 : decode prog_9_method_11_code 162 = .ok (.aload_n 0, 1) := by decide +kernel
theorem d_9_11_163 : decode prog_9_method_11_code 163 = .ok (.getfield 38, 3) := by decide +kernel
theorem d_9_11_166 : decode prog_9_method_11_code 166 = .ok (.aload_n 0, 1) := by decide +kernel
theorem d_9_11_167 : decode prog_9_method_11_code 167 = .ok (.getfield 31, 3) := by decide +kernel
theorem d_9_11_170 : decode prog_9_method_11_code 170 = .ok (.aload_n 0, 1) := by decide +kernel
theorem d_9_11_171 : decode prog_9_method_11_code 171 = .ok (.getfield 19, 3) := by decide +kernel
theorem d_9_11_174 : decode prog_9_method_11_code 174 = .ok (.iload_n 1, 1) := by decide +kernel
theorem d_9_11_175 : decode prog_9_method_11_code 175 = .ok (.iaload, 1) := by decide +kernel
theorem d_9_11_176 : decode prog_9_method_11_code 176 = .ok (.iconst 0, 1) := by decide +kernel
theorem d_9_11_177 : decode prog_9_method_11_code 177 = .ok (.iconst 0, 1) := by decide +kernel
theorem d_9_11_178 : decode prog_9_method_11_code 178 = .ok (.invokevirtual 204, 3) := by decide +kernel
theorem d_9_11_131 : decode prog_9_method_11_code 131 = .ok (.ifCond .ge 12, 3) := by decide +kernel
theorem d_9_11_134 : decode prog_9_method_11_code 134 = .ok (.aload_n 0, 1) := by decide +kernel
theorem d_9_11_135 : decode prog_9_method_11_code 135 = .ok (.getfield 31, 3) := by decide +kernel
theorem d_9_11_138 : decode prog_9_method_11_code 138 = .ok (.bipush 45, 2) := by decide +kernel
theorem d_9_11_140 : decode prog_9_method_11_code 140 = .ok (.invokevirtual 113, 3) := by decide +kernel
theorem d_9_11_97 : decode prog_9_method_11_code 97 = .ok (.aload_n 0, 1) := by decide +kernel
theorem d_9_11_98 : decode prog_9_method_11_code 98 = .ok (.getfield 31, 3) := by decide +kernel
theorem d_9_11_101 : decode prog_9_method_11_code 101 = .ok (.aload_n 0, 1) := by decide +kernel
theorem d_9_11_102 : decode prog_9_method_11_code 102 = .ok (.getfield 24, 3) := by decide +kernel
theorem d_9_11_105 : decode prog_9_method_11_code 105 = .ok (.iload_n 1, 1) := by decide +kernel
theorem d_9_11_106 : decode prog_9_method_11_code 106 = .ok (.aaload, 1) := by decide +kernel
theorem d_9_11_107 : decode prog_9_method_11_code 107 = .ok (.iconst 0, 1) := by decide +kernel
theorem d_9_11_108 : decode prog_9_method_11_code 108 = .ok (.aload_n 0, 1) := by decide +kernel
theorem d_9_11_109 : decode prog_9_method_11_code 109 = .ok (.getfield 24, 3) := by decide +kernel
theorem d_9_11_112 : decode prog_9_method_11_code 112 = .ok (.iload_n 1, 1) := by decide +kernel
theorem d_9_11_113 : decode prog_9_method_11_code 113 = .ok (.aaload, 1) := by decide +kernel
theorem d_9_11_114 : decode prog_9_method_11_code 114 = .ok (.getfield 73, 3) := by decide +kernel
theorem d_9_11_117 : decode prog_9_method_11_code 117 = .ok (.invokestatic 76, 3) := by decide +kernel
theorem d_9_11_120 : decode prog_9_method_11_code 120 = .ok (.goto 61, 3) := by decide +kernel
def y_Pri_writeAnything : MethodName := ⟨"NumberHouse$Printer", "writeAnything", "(I)V"⟩
theorem d_9_9_0 : decode prog_9_method_9_code 0 = .ok (.aload_n 0, 1) := by decide +kernel
theorem d_9_9_1 : decode prog_9_method_9_code 1 = .ok (.getfield 47, 3) := by decide +kernel
theorem d_9_9_4 : decode prog_9_method_9_code 4 = .ok (.ldc 131, 2) := by decide +kernel
theorem d_9_9_6 : decode prog_9_method_9_code 6 = .ok (.invokevirtual 133, 3) := by decide +kernel
theorem d_9_9_9 : decode prog_9_method_9_code 9 = .ok (.ifCond .eq 30, 3) := by decide +kernel
theorem d_9_9_39 : decode prog_9_method_9_code 39 = .ok (.aload_n 0, 1) := by decide +kernel
theorem d_9_9_40 : decode prog_9_method_9_code 40 = .ok (.getfield 11, 3) := by decide +kernel
theorem d_9_9_43 : decode prog_9_method_9_code 43 = .ok (.aload_n 0, 1) := by decide +kernel
theorem d_9_9_44 : decode prog_9_method_9_code 44 = .ok (.getfield 87, 3) := by decide +kernel
theorem d_9_9_47 : decode prog_9_method_9_code 47 = .ok (.iaload, 1) := by decide +kernel
theorem d_9_9_48 : decode prog_9_method_9_code 48 = .ok (.istore_n 1, 1) := by decide +kernel
theorem d_9_9_49 : decode prog_9_method_9_code 49 = .ok (.aload_n 0, 1) := by decide +kernel
theorem d_9_9_50 : decode prog_9_method_9_code 50 = .ok (.getfield 47, 3) := by decide +kernel
theorem d_9_9_53 : decode prog_9_method_9_code 53 = .ok (.ldc 159, 2) := by decide +kernel
theorem d_9_9_55 : decode prog_9_method_9_code 55 = .ok (.invokevirtual 133, 3) := by decide +kernel
theorem d_9_9_58 : decode prog_9_method_9_code 58 = .ok (.ifCond .eq 57, 3) := by decide +kernel
theorem d_9_9_115 : decode prog_9_method_9_code 115 = .ok (.aload_n 0, 1) := by decide +kernel
theorem d_9_9_116 : decode prog_9_method_9_code 116 = .ok (.getfield 47, 3) := by decide +kernel
theorem d_9_9_119 : decode prog_9_method_9_code 119 = .ok (.ldc 172, 2) := by decide +kernel
theorem d_9_9_121 : decode prog_9_method_9_code 121 = .ok (.invokevirtual 133, 3) := by decide +kernel
theorem d_9_9_124 : decode prog_9_method_9_code 124 = .ok (.ifCond .eq 18, 3) := by decide +kernel
theorem d_9_9_142 : decode prog_9_method_9_code 142 = .ok (.iload_n 1, 1) := by decide +kernel
theorem d_9_9_143 : decode prog_9_method_9_code 143 = .ok (.ifCond .ne 15, 3) := by decide +kernel
theorem d_9_9_158 : decode prog_9_method_9_code 158 = .ok (.iload_n 1, 1) := by decide +kernel
theorem d_9_9_159 : decode prog_9_method_9_code 159 = .ok (.iconst 2, 1) := by decide +kernel
theorem d_9_9_160 : decode prog_9_method_9_code 160 = .ok (.if_icmp .ne 23, 3) := by decide +kernel
theorem d_9_9_183 : decode prog_9_method_9_code 183 = .ok (.aload_n 0, 1) := by decide +kernel
theorem d_9_9_184 : decode prog_9_method_9_code 184 = .ok (.getfield 47, 3) := by decide +kernel
theorem d_9_9_187 : decode prog_9_method_9_code 187 = .ok (.ldc 179, 2) := by decide +kernel
theorem d_9_9_189 : decode prog_9_method_9_code 189 = .ok (.invokevirtual 133, 3) := by decide +kernel
theorem d_9_9_192 : decode prog_9_method_9_code 192 = .ok (.ifCond .eq 19, 3) := by decide +kernel
theorem d_9_9_211 : decode prog_9_method_9_code 211 = .ok (.aload_n 0, 1) := by decide +kernel
theorem d_9_9_212 : decode prog_9_method_9_code 212 = .ok (.aload_n 0, 1) := by decide +kernel
theorem d_9_9_213 : decode prog_9_method_9_code 213 = .ok (.getfield 15, 3) := by decide +kernel
theorem d_9_9_216 : decode prog_9_method_9_code 216 = .ok (.aload_n 0, 1) := by decide +kernel
theorem d_9_9_217 : decode prog_9_method_9_code 217 = .ok (.getfield 87, 3) := by decide +kernel
theorem d_9_9_220 : decode prog_9_method_9_code 220 = .ok (.laload, 1) := by decide +kernel
theorem d_9_9_221 : decode prog_9_method_9_code 221 = .ok (.lconst 0, 1) := by decide +kernel
theorem d_9_9_222 : decode prog_9_method_9_code 222 = .ok (.lcmp, 1) := by decide +kernel
theorem d_9_9_231 : decode prog_9_method_9_code 231 = .ok (.invokevirtual 185, 3) := by decide +kernel
set_option maxRecDepth 100000 in
theorem w_1881 : (Cond.code ({ cls := "NumberHouse$Printer", name := "writeSign", desc := "(Z)V" } : MethodName) prog_9_method_13_code (2 : Nat) (none : Option ClassFile.FieldType)) ∈ q_tbl := q_of8 201 rfl (by decide +kernel)
set_option maxRecDepth 100000 in
theorem w_1878 : (Cond.methodLink "NumberHouse$Printer" (185 : Nat) ({ cls := "NumberHouse$Printer", name := "writeSign", desc := "(Z)V" } : MethodName)) ∈ q_tbl := q_of8 198 rfl (by decide +kernel)
set_option maxRecDepth 100000 in
theorem w_1880 : (Cond.instanceMethod ({ cls := "NumberHouse$Printer", name := "writeSign", desc := "(Z)V" } : MethodName)) ∈ q_tbl := q_of8 200 rfl (by decide +kernel)
theorem ws_57 : Cond.selects "NumberHouse$Printer" (⟨"NumberHouse$Printer", "writeSign", "(Z)V"⟩ : MethodName) (⟨"NumberHouse$Printer", "writeSign", "(Z)V"⟩ : MethodName) ∈ q_tbl := q_ofs 57 (by decide +kernel) (by decide +kernel)
theorem LV_Pri_185 : q_LV "NumberHouse$Printer" 185 y_Pri_writeSign prog_9_method_13_code 2 none 1 := ⟨w_1881, w_12, w_1878, w_1880, ws_57, ⟨by decide, by decide, by decide +kernel⟩⟩
theorem d_9_9_234 : decode prog_9_method_9_code 234 = .ok (.aload_n 0, 1) := by decide +kernel
theorem d_9_9_235 : decode prog_9_method_9_code 235 = .ok (.getfield 38, 3) := by decide +kernel
theorem d_9_9_238 : decode prog_9_method_9_code 238 = .ok (.aload_n 0, 1) := by decide +kernel
theorem d_9_9_239 : decode prog_9_method_9_code 239 = .ok (.getfield 15, 3) := by decide +kernel
theorem d_9_9_242 : decode prog_9_method_9_code 242 = .ok (.aload_n 0, 1) := by decide +kernel
theorem d_9_9_243 : decode prog_9_method_9_code 243 = .ok (.getfield 87, 3) := by decide +kernel
theorem d_9_9_246 : decode prog_9_method_9_code 246 = .ok (.laload, 1) := by decide +kernel
theorem d_9_9_247 : decode prog_9_method_9_code 247 = .ok (.aload_n 0, 1) := by decide +kernel
theorem d_9_9_248 : decode prog_9_method_9_code 248 = .ok (.getfield 19, 3) := by decide +kernel
theorem d_9_9_251 : decode prog_9_method_9_code 251 = .ok (.aload_n 0, 1) := by decide +kernel
theorem d_9_9_252 : decode prog_9_method_9_code 252 = .ok (.getfield 87, 3) := by decide +kernel
theorem d_9_9_255 : decode prog_9_method_9_code 255 = .ok (.iaload, 1) := by decide +kernel
theorem d_9_9_256 : decode prog_9_method_9_code 256 = .ok (.invokevirtual 189, 3) := by decide +kernel
theorem d_9_9_259 : decode prog_9_method_9_code 259 = .ok (.aload_n 0, 1) := by decide +kernel
theorem d_9_9_260 : decode prog_9_method_9_code 260 = .ok (.invokevirtual 195, 3) := by decide +kernel
set_option maxRecDepth 100000 in
theorem w_1885 : (Cond.code ({ cls := "NumberHouse$Printer", name := "writeNumber", desc := "()V" } : MethodName) prog_9_method_14_code (5 : Nat) (none : Option ClassFile.FieldType)) ∈ q_tbl := q_of8 205 rfl (by decide +kernel)
set_option maxRecDepth 100000 in
theorem w_1882 : (Cond.methodLink "NumberHouse$Printer" (195 : Nat) ({ cls := "NumberHouse$Printer", name := "writeNumber", desc := "()V" } : MethodName)) ∈ q_tbl := q_of8 202 rfl (by decide +kernel)
set_option maxRecDepth 100000 in
theorem w_1884 : (Cond.instanceMethod ({ cls := "NumberHouse$Printer", name := "writeNumber", desc := "()V" } : MethodName)) ∈ q_tbl := q_of8 204 rfl (by decide +kernel)
theorem ws_58 : Cond.selects "NumberHouse$Printer" (⟨"NumberHouse$Printer", "writeNumber", "()V"⟩ : MethodName) (⟨"NumberHouse$Printer", "writeNumber", "()V"⟩ : MethodName) ∈ q_tbl := q_ofs 58 (by decide +kernel) (by decide +kernel)
theorem LV_Pri_195 : q_LV "NumberHouse$Printer" 195 y_Pri_writeNumber prog_9_method_14_code 5 none 0 := ⟨w_1885, w_12, w_1882, w_1884, ws_58, ⟨by decide, by decide, by decide +kernel⟩⟩
theorem d_9_9_263 : decode prog_9_method_9_code 263 = .ok (.aload_n 0, 1) := by decide +kernel
theorem d_9_9_264 : decode prog_9_method_9_code 264 = .ok (.getfield 15, 3) := by decide +kernel
theorem d_9_9_267 : decode prog_9_method_9_code 267 = .ok (.aload_n 0, 1) := by decide +kernel
theorem d_9_9_268 : decode prog_9_method_9_code 268 = .ok (.getfield 87, 3) := by decide +kernel
theorem d_9_9_271 : decode prog_9_method_9_code 271 = .ok (.laload, 1) := by decide +kernel
theorem d_9_9_272 : decode prog_9_method_9_code 272 = .ok (.lconst 0, 1) := by decide +kernel
theorem d_9_9_273 : decode prog_9_method_9_code 273 = .ok (.lcmp, 1) := by decide +kernel
theorem d_9_9_274 : decode prog_9_method_9_code 274 = .ok (.ifCond .ge 24, 3) := by decide +kernel
theorem d_9_9_298 : decode prog_9_method_9_code 298 = .ok (.return_, 1) := by decide +kernel
theorem d_9_9_277 : decode prog_9_method_9_code 277 = .ok (.aload_n 0, 1) := by decide +kernel
theorem d_9_9_278 : decode prog_9_method_9_code 278 = .ok (.getfield 47, 3) := by decide +kernel
theorem d_9_9_281 : decode prog_9_method_9_code 281 = .ok (.bipush 32, 2) := by decide +kernel
theorem d_9_9_283 : decode prog_9_method_9_code 283 = .ok (.invokevirtual 144, 3) := by decide +kernel
theorem d_9_9_286 : decode prog_9_method_9_code 286 = .ok (.ifCond .eq 12, 3) := by decide +kernel
theorem d_9_9_289 : decode prog_9_method_9_code 289 = .ok (.aload_n 0, 1) := by decide +kernel
theorem d_9_9_290 : decode prog_9_method_9_code 290 = .ok (.getfield 31, 3) := by decide +kernel
theorem d_9_9_293 : decode prog_9_method_9_code 293 = .ok (.bipush 41, 2) := by decide +kernel
theorem d_9_9_295 : decode prog_9_method_9_code 295 = .ok (.invokevirtual 113, 3) := by decide +kernel
theorem d_9_9_223 : decode prog_9_method_9_code 223 = .ok (.ifCond .ge 7, 3) := by decide +kernel
theorem d_9_9_230 : decode prog_9_method_9_code 230 = .ok (.iconst 0, 1) := by decide +kernel
theorem d_9_9_226 : decode prog_9_method_9_code 226 = .ok (.iconst 1, 1) := by decide +kernel
theorem d_9_9_227 : decode prog_9_method_9_code 227 = .ok (.goto 4, 3) := by decide +kernel
theorem d_9_9_195 : decode prog_9_method_9_code 195 = .ok (.aload_n 0, 1) := by decide +kernel
theorem d_9_9_196 : decode prog_9_method_9_code 196 = .ok (.aload_n 0, 1) := by decide +kernel
theorem d_9_9_197 : decode prog_9_method_9_code 197 = .ok (.getfield 15, 3) := by decide +kernel
theorem d_9_9_200 : decode prog_9_method_9_code 200 = .ok (.aload_n 0, 1) := by decide +kernel
theorem d_9_9_201 : decode prog_9_method_9_code 201 = .ok (.getfield 87, 3) := by decide +kernel
theorem d_9_9_204 : decode prog_9_method_9_code 204 = .ok (.laload, 1) := by decide +kernel
theorem d_9_9_205 : decode prog_9_method_9_code 205 = .ok (.invokevirtual 181, 3) := by decide +kernel
set_option maxRecDepth 100000 in
theorem w_1873 : (Cond.code ({ cls := "NumberHouse$Printer", name := "writeToBase", desc := "(J)V" } : MethodName) prog_9_method_12_code (7 : Nat) (none : Option ClassFile.FieldType)) ∈ q_tbl := q_of8 193 rfl (by decide +kernel)
set_option maxRecDepth 100000 in
theorem w_1870 : (Cond.methodLink "NumberHouse$Printer" (181 : Nat) ({ cls := "NumberHouse$Printer", name := "writeToBase", desc := "(J)V" } : MethodName)) ∈ q_tbl := q_of8 190 rfl (by decide +kernel)
set_option maxRecDepth 100000 in
theorem w_1872 : (Cond.instanceMethod ({ cls := "NumberHouse$Printer", name := "writeToBase", desc := "(J)V" } : MethodName)) ∈ q_tbl := q_of8 192 rfl (by decide +kernel)
theorem ws_56 : Cond.selects "NumberHouse$Printer" (⟨"NumberHouse$Printer", "writeToBase", "(J)V"⟩ : MethodName) (⟨"NumberHouse$Printer", "writeToBase", "(J)V"⟩ : MethodName) ∈ q_tbl := q_ofs 56 (by decide +kernel) (by decide +kernel)
theorem LV_Pri_181 : q_LV "NumberHouse$Printer" 181 y_Pri_writeToBase prog_9_method_12_code 7 none 1 := ⟨w_1873, w_12, w_1870, w_1872, ws_56, ⟨by decide, by decide, by decide +kernel⟩⟩
theorem d_9_9_208 : decode prog_9_method_9_code 208 = .ok (.goto 90, 3) := by decide +kernel
theorem d_9_9_163 : decode prog_9_method_9_code 163 = .ok (.aload_n 0, 1) := by decide +kernel
theorem d_9_9_164 : decode prog_9_method_9_code 164 = .ok (.getfield 31, 3) := by decide +kernel
theorem d_9_9_167 : decode prog_9_method_9_code 167 = .ok (.aload_n 0, 1) := by decide +kernel
theorem d_9_9_168 : decode prog_9_method_9_code 168 = .ok (.getfield 15, 3) := by decide +kernel
theorem d_9_9_171 : decode prog_9_method_9_code 171 = .ok (.aload_n 0, 1) := by decide +kernel
theorem d_9_9_172 : decode prog_9_method_9_code 172 = .ok (.getfield 87, 3) := by decide +kernel
theorem d_9_9_175 : decode prog_9_method_9_code 175 = .ok (.laload, 1) := by decide +kernel
theorem d_9_9_176 : decode prog_9_method_9_code 176 = .ok (.l2i, 1) := by decide +kernel
theorem d_9_9_177 : decode prog_9_method_9_code 177 = .ok (.invokevirtual 113, 3) := by decide +kernel
theorem d_9_9_180 : decode prog_9_method_9_code 180 = .ok (.goto 118, 3) := by decide +kernel
theorem d_9_9_146 : decode prog_9_method_9_code 146 = .ok (.aload_n 0, 1) := by decide +kernel
theorem d_9_9_147 : decode prog_9_method_9_code 147 = .ok (.getfield 31, 3) := by decide +kernel
theorem d_9_9_150 : decode prog_9_method_9_code 150 = .ok (.ldc 177, 2) := by decide +kernel
theorem d_9_9_152 : decode prog_9_method_9_code 152 = .ok (.invokevirtual 165, 3) := by decide +kernel
theorem d_9_9_155 : decode prog_9_method_9_code 155 = .ok (.goto 143, 3) := by decide +kernel
theorem d_9_9_127 : decode prog_9_method_9_code 127 = .ok (.aload_n 0, 1) := by decide +kernel
theorem d_9_9_128 : decode prog_9_method_9_code 128 = .ok (.aload_n 0, 1) := by decide +kernel
theorem d_9_9_129 : decode prog_9_method_9_code 129 = .ok (.getfield 87, 3) := by decide +kernel
theorem d_9_9_132 : decode prog_9_method_9_code 132 = .ok (.invokevirtual 174, 3) := by decide +kernel
set_option maxRecDepth 100000 in
theorem w_1865 : (Cond.code ({ cls := "NumberHouse$Printer", name := "writeAnything", desc := "(I)V" } : MethodName) prog_9_method_11_code (2 : Nat) (none : Option ClassFile.FieldType)) ∈ q_tbl := q_of8 185 rfl (by decide +kernel)
set_option maxRecDepth 100000 in
theorem w_1862 : (Cond.methodLink "NumberHouse$Printer" (174 : Nat) ({ cls := "NumberHouse$Printer", name := "writeAnything", desc := "(I)V" } : MethodName)) ∈ q_tbl := q_of8 182 rfl (by decide +kernel)
set_option maxRecDepth 100000 in
theorem w_1864 : (Cond.instanceMethod ({ cls := "NumberHouse$Printer", name := "writeAnything", desc := "(I)V" } : MethodName)) ∈ q_tbl := q_of8 184 rfl (by decide +kernel)
theorem ws_55 : Cond.selects "NumberHouse$Printer" (⟨"NumberHouse$Printer", "writeAnything", "(I)V"⟩ : MethodName) (⟨"NumberHouse$Printer", "writeAnything", "(I)V"⟩ : MethodName) ∈ q_tbl := q_ofs 55 (by decide +kernel) (by decide +kernel)
theorem LV_Pri_174 : q_LV "NumberHouse$Printer" 174 y_Pri_writeAnything prog_9_method_11_code 2 none 1 := ⟨w_1865, w_12, w_1862, w_1864, ws_55, ⟨by decide, by decide, by decide +kernel⟩⟩
theorem d_9_9_135 : decode prog_9_method_9_code 135 = .ok (.aload_n 0, 1) := by decide +kernel
theorem d_9_9_136 : decode prog_9_method_9_code 136 = .ok (.invokevirtual 169, 3) := by decide +kernel
set_option maxRecDepth 100000 in
theorem w_1855 : (Cond.code ({ cls := "NumberHouse$Printer", name := "cutBody", desc := "()V" } : MethodName) prog_9_method_10_code (1 : Nat) (none : Option ClassFile.FieldType)) ∈ q_tbl := q_of8 175 rfl (by decide +kernel)
set_option maxRecDepth 100000 in
theorem w_1852 : (Cond.methodLink "NumberHouse$Printer" (169 : Nat) ({ cls := "NumberHouse$Printer", name := "cutBody", desc := "()V" } : MethodName)) ∈ q_tbl := q_of8 172 rfl (by decide +kernel)
set_option maxRecDepth 100000 in
theorem w_1854 : (Cond.instanceMethod ({ cls := "NumberHouse$Printer", name := "cutBody", desc := "()V" } : MethodName)) ∈ q_tbl := q_of8 174 rfl (by decide +kernel)
theorem ws_54 : Cond.selects "NumberHouse$Printer" (⟨"NumberHouse$Printer", "cutBody", "()V"⟩ : MethodName) (⟨"NumberHouse$Printer", "cutBody", "()V"⟩ : MethodName) ∈ q_tbl := q_ofs 54 (by decide +kernel) (by decide +kernel)
theorem LV_Pri_169 : q_LV "NumberHouse$Printer" 169 y_Pri_cutBody prog_9_method_10_code 1 none 0 := ⟨w_1855, w_12, w_1852, w_1854, ws_54, ⟨by decide, by decide, by decide +kernel⟩⟩
theorem d_9_9_139 : decode prog_9_method_9_code 139 = .ok (.goto 159, 3) := by decide +kernel
theorem d_9_9_61 : decode prog_9_method_9_code 61 = .ok (.iload_n 1, 1) := by decide +kernel
theorem d_9_9_89 : decode prog_9_method_9_code 89 = .ok (.istore_n 2, 1) := by decide +kernel
theorem d_9_9_90 : decode prog_9_method_9_code 90 = .ok (.aload_n 0, 1) := by decide +kernel
theorem d_9_9_91 : decode prog_9_method_9_code 91 = .ok (.getfield 31, 3) := by decide +kernel
theorem d_9_9_94 : decode prog_9_method_9_code 94 = .ok (.iload_n 2, 1) := by decide +kernel
theorem d_9_9_95 : decode prog_9_method_9_code 95 = .ok (.ifCond .eq 8, 3) := by decide +kernel
theorem d_9_9_103 : decode prog_9_method_9_code 103 = .ok (.ldc 163, 2) := by decide +kernel
theorem d_9_9_105 : decode prog_9_method_9_code 105 = .ok (.invokevirtual 165, 3) := by decide +kernel
theorem d_9_9_108 : decode prog_9_method_9_code 108 = .ok (.aload_n 0, 1) := by decide +kernel
theorem d_9_9_109 : decode prog_9_method_9_code 109 = .ok (.invokevirtual 169, 3) := by decide +kernel
theorem d_9_9_112 : decode prog_9_method_9_code 112 = .ok (.goto 186, 3) := by decide +kernel
theorem d_9_9_98 : decode prog_9_method_9_code 98 = .ok (.ldc 161, 2) := by decide +kernel
theorem d_9_9_100 : decode prog_9_method_9_code 100 = .ok (.goto 5, 3) := by decide +kernel
theorem d_9_9_84 : decode prog_9_method_9_code 84 = .ok (.iconst 1, 1) := by decide +kernel
theorem d_9_9_85 : decode prog_9_method_9_code 85 = .ok (.goto 4, 3) := by decide +kernel
theorem d_9_9_62 : decode prog_9_method_9_code 62 = .ok (.ifCond .eq 22, 3) := by decide +kernel
theorem d_9_9_65 : decode prog_9_method_9_code 65 = .ok (.iload_n 1, 1) := by decide +kernel
theorem d_9_9_66 : decode prog_9_method_9_code 66 = .ok (.iconst 1, 1) := by decide +kernel
theorem d_9_9_88 : decode prog_9_method_9_code 88 = .ok (.iconst 0, 1) := by decide +kernel
theorem d_9_9_67 : decode prog_9_method_9_code 67 = .ok (.if_icmp .ne 21, 3) := by decide +kernel
theorem d_9_9_70 : decode prog_9_method_9_code 70 = .ok (.aload_n 0, 1) := by decide +kernel
theorem d_9_9_71 : decode prog_9_method_9_code 71 = .ok (.getfield 15, 3) := by decide +kernel
theorem d_9_9_74 : decode prog_9_method_9_code 74 = .ok (.aload_n 0, 1) := by decide +kernel
theorem d_9_9_75 : decode prog_9_method_9_code 75 = .ok (.getfield 87, 3) := by decide +kernel
theorem d_9_9_78 : decode prog_9_method_9_code 78 = .ok (.laload, 1) := by decide +kernel
theorem d_9_9_79 : decode prog_9_method_9_code 79 = .ok (.lconst 0, 1) := by decide +kernel
theorem d_9_9_80 : decode prog_9_method_9_code 80 = .ok (.lcmp, 1) := by decide +kernel
theorem d_9_9_81 : decode prog_9_method_9_code 81 = .ok (.ifCond .ne 7, 3) := by decide +kernel
theorem d_9_9_12 : decode prog_9_method_9_code 12 = .ok (.aload_n 0, 1) := by decide +kernel
theorem d_9_9_13 : decode prog_9_method_9_code 13 = .ok (.getfield 31, 3) := by decide +kernel
theorem d_9_9_16 : decode prog_9_method_9_code 16 = .ok (.aload_n 0, 1) := by decide +kernel
theorem d_9_9_17 : decode prog_9_method_9_code 17 = .ok (.getfield 47, 3) := by decide +kernel
theorem d_9_9_20 : decode prog_9_method_9_code 20 = .ok (.getfield 156, 3) := by decide +kernel
theorem d_9_9_23 : decode prog_9_method_9_code 23 = .ok (.bipush 110, 2) := by decide +kernel
theorem d_9_9_25 : decode prog_9_method_9_code 25 = .ok (.if_icmp .ne 8, 3) := by decide +kernel
theorem d_9_9_33 : decode prog_9_method_9_code 33 = .ok (.bipush 37, 2) := by decide +kernel
theorem d_9_9_35 : decode prog_9_method_9_code 35 = .ok (.invokevirtual 113, 3) := by decide +kernel
theorem d_9_9_38 : decode prog_9_method_9_code 38 = .ok (.return_, 1) := by decide +kernel
theorem d_9_9_28 : decode prog_9_method_9_code 28 = .ok (.bipush 10, 2) := by decide +kernel
theorem d_9_9_30 : decode prog_9_method_9_code 30 = .ok (.goto 5, 3) := by decide +kernel
def y_Pri_writeBody : MethodName := ⟨"NumberHouse$Printer", "writeBody", "()V"⟩
theorem d_9_15_0 : decode prog_9_method_15_code 0 = .ok (.aload_n 1, 1) := by decide +kernel
theorem d_9_15_1 : decode prog_9_method_15_code 1 = .ok (.getfield 73, 3) := by decide +kernel
theorem d_9_15_4 : decode prog_9_method_15_code 4 = .ok (.istore_n 2, 1) := by decide +kernel
theorem d_9_15_5 : decode prog_9_method_15_code 5 = .ok (.aload_n 0, 1) := by decide +kernel
theorem d_9_15_6 : decode prog_9_method_15_code 6 = .ok (.getfield 47, 3) := by decide +kernel
theorem d_9_15_9 : decode prog_9_method_15_code 9 = .ok (.getfield 116, 3) := by decide +kernel
set_option maxRecDepth 100000 in
theorem w_358 : (Cond.fieldLink "NumberHouse$Printer" (116 : Nat) "NumberHouse$Directive" "width" "I") ∈ q_tbl := q_of2 118 rfl (by decide +kernel)
theorem d_9_15_12 : decode prog_9_method_15_code 12 = .ok (.aload_n 0, 1) := by decide +kernel
theorem d_9_15_13 : decode prog_9_method_15_code 13 = .ok (.getfield 31, 3) := by decide +kernel
theorem d_9_15_16 : decode prog_9_method_15_code 16 = .ok (.getfield 73, 3) := by decide +kernel
theorem d_9_15_19 : decode prog_9_method_15_code 19 = .ok (.isub, 1) := by decide +kernel
theorem d_9_15_20 : decode prog_9_method_15_code 20 = .ok (.istore_n 3, 1) := by decide +kernel
theorem d_9_15_21 : decode prog_9_method_15_code 21 = .ok (.aload_n 0, 1) := by decide +kernel
theorem d_9_15_22 : decode prog_9_method_15_code 22 = .ok (.getfield 47, 3) := by decide +kernel
theorem d_9_15_25 : decode prog_9_method_15_code 25 = .ok (.bipush 8, 2) := by decide +kernel
theorem d_9_15_27 : decode prog_9_method_15_code 27 = .ok (.invokevirtual 144, 3) := by decide +kernel
theorem d_9_15_83 : decode prog_9_method_15_code 83 = .ok (.aload_n 0, 1) := by decide +kernel
theorem d_9_15_84 : decode prog_9_method_15_code 84 = .ok (.getfield 47, 3) := by decide +kernel
theorem d_9_15_87 : decode prog_9_method_15_code 87 = .ok (.iconst 1, 1) := by decide +kernel
theorem d_9_15_88 : decode prog_9_method_15_code 88 = .ok (.invokevirtual 144, 3) := by decide +kernel
theorem d_9_15_91 : decode prog_9_method_15_code 91 = .ok (.ifCond .eq 29, 3) := by decide +kernel
theorem d_9_15_120 : decode prog_9_method_15_code 120 = .ok (.aload_n 1, 1) := by decide +kernel
theorem d_9_15_121 : decode prog_9_method_15_code 121 = .ok (.bipush 32, 2) := by decide +kernel
theorem d_9_15_123 : decode prog_9_method_15_code 123 = .ok (.iload_n 3, 1) := by decide +kernel
theorem d_9_15_124 : decode prog_9_method_15_code 124 = .ok (.invokevirtual 236, 3) := by decide +kernel
set_option maxRecDepth 100000 in
theorem w_1904 : (Cond.code ({ cls := "NumberHouse$Sheet", name := "addTimes", desc := "(II)V" } : MethodName) prog_11_method_5_code (4 : Nat) (none : Option ClassFile.FieldType)) ∈ q_tbl := q_of8 224 rfl (by decide +kernel)
set_option maxRecDepth 100000 in
theorem w_1901 : (Cond.methodLink "NumberHouse$Printer" (236 : Nat) ({ cls := "NumberHouse$Sheet", name := "addTimes", desc := "(II)V" } : MethodName)) ∈ q_tbl := q_of8 221 rfl (by decide +kernel)
set_option maxRecDepth 100000 in
theorem w_1902 : (Cond.instanceMethod ({ cls := "NumberHouse$Sheet", name := "addTimes", desc := "(II)V" } : MethodName)) ∈ q_tbl := q_of8 222 rfl (by decide +kernel)
set_option maxRecDepth 100000 in
theorem w_1903 : (Cond.selects "NumberHouse$Sheet" ({ cls := "NumberHouse$Sheet", name := "addTimes", desc := "(II)V" } : MethodName) ({ cls := "NumberHouse$Sheet", name := "addTimes", desc := "(II)V" } : MethodName)) ∈ q_tbl := q_of8 223 rfl (by decide +kernel)
theorem LV_Pri_236 : q_LV "NumberHouse$Printer" 236 y_She_addTimes prog_11_method_5_code 4 none 2 := ⟨w_1904, w_2, w_1901, w_1902, w_1903, ⟨by decide, by decide, by decide +kernel⟩⟩
theorem d_9_15_127 : decode prog_9_method_15_code 127 = .ok (.aload_n 1, 1) := by decide +kernel
theorem d_9_15_128 : decode prog_9_method_15_code 128 = .ok (.aload_n 0, 1) := by decide +kernel
theorem d_9_15_129 : decode prog_9_method_15_code 129 = .ok (.getfield 31, 3) := by decide +kernel
theorem d_9_15_132 : decode prog_9_method_15_code 132 = .ok (.iconst 0, 1) := by decide +kernel
theorem d_9_15_133 : decode prog_9_method_15_code 133 = .ok (.aload_n 0, 1) := by decide +kernel
theorem d_9_15_134 : decode prog_9_method_15_code 134 = .ok (.getfield 31, 3) := by decide +kernel
theorem d_9_15_137 : decode prog_9_method_15_code 137 = .ok (.getfield 73, 3) := by decide +kernel
theorem d_9_15_140 : decode prog_9_method_15_code 140 = .ok (.invokestatic 76, 3) := by decide +kernel
theorem d_9_15_143 : decode prog_9_method_15_code 143 = .ok (.aload_n 0, 1) := by decide +kernel
theorem d_9_15_144 : decode prog_9_method_15_code 144 = .ok (.getfield 47, 3) := by decide +kernel
theorem d_9_15_147 : decode prog_9_method_15_code 147 = .ok (.invokevirtual 222, 3) := by decide +kernel
theorem d_9_15_150 : decode prog_9_method_15_code 150 = .ok (.ifCond .eq 8, 3) := by decide +kernel
theorem d_9_15_158 : decode prog_9_method_15_code 158 = .ok (.return_, 1) := by decide +kernel
theorem d_9_15_153 : decode prog_9_method_15_code 153 = .ok (.aload_n 1, 1) := by decide +kernel
theorem d_9_15_154 : decode prog_9_method_15_code 154 = .ok (.iload_n 2, 1) := by decide +kernel
theorem d_9_15_155 : decode prog_9_method_15_code 155 = .ok (.invokestatic 239, 3) := by decide +kernel
set_option maxRecDepth 100000 in
theorem w_1907 : (Cond.code ({ cls := "NumberHouse$Printer", name := "enlarge", desc := "(LNumberHouse$Sheet;I)V" } : MethodName) prog_9_method_17_code (4 : Nat) (none : Option ClassFile.FieldType)) ∈ q_tbl := q_of8 227 rfl (by decide +kernel)
set_option maxRecDepth 100000 in
theorem w_1905 : (Cond.methodLink "NumberHouse$Printer" (239 : Nat) ({ cls := "NumberHouse$Printer", name := "enlarge", desc := "(LNumberHouse$Sheet;I)V" } : MethodName)) ∈ q_tbl := q_of8 225 rfl (by decide +kernel)
set_option maxRecDepth 100000 in
theorem w_1906 : (Cond.static ({ cls := "NumberHouse$Printer", name := "enlarge", desc := "(LNumberHouse$Sheet;I)V" } : MethodName)) ∈ q_tbl := q_of8 226 rfl (by decide +kernel)
theorem LS_Pri_239 : q_LS "NumberHouse$Printer" 239 y_Pri_enlarge prog_9_method_17_code 4 none 2 := ⟨w_1907, w_12, w_1905, w_1906, ⟨by decide, by decide, by decide +kernel⟩⟩
theorem d_9_15_94 : decode prog_9_method_15_code 94 = .ok (.aload_n 1, 1) := by decide +kernel
theorem d_9_15_95 : decode prog_9_method_15_code 95 = .ok (.aload_n 0, 1) := by decide +kernel
theorem d_9_15_96 : decode prog_9_method_15_code 96 = .ok (.getfield 31, 3) := by decide +kernel
theorem d_9_15_99 : decode prog_9_method_15_code 99 = .ok (.iconst 0, 1) := by decide +kernel
theorem d_9_15_100 : decode prog_9_method_15_code 100 = .ok (.aload_n 0, 1) := by decide +kernel
theorem d_9_15_101 : decode prog_9_method_15_code 101 = .ok (.getfield 31, 3) := by decide +kernel
theorem d_9_15_104 : decode prog_9_method_15_code 104 = .ok (.getfield 73, 3) := by decide +kernel
theorem d_9_15_107 : decode prog_9_method_15_code 107 = .ok (.invokestatic 76, 3) := by decide +kernel
theorem d_9_15_110 : decode prog_9_method_15_code 110 = .ok (.aload_n 1, 1) := by decide +kernel
theorem d_9_15_111 : decode prog_9_method_15_code 111 = .ok (.bipush 32, 2) := by decide +kernel
theorem d_9_15_113 : decode prog_9_method_15_code 113 = .ok (.iload_n 3, 1) := by decide +kernel
theorem d_9_15_114 : decode prog_9_method_15_code 114 = .ok (.invokevirtual 236, 3) := by decide +kernel
theorem d_9_15_117 : decode prog_9_method_15_code 117 = .ok (.goto 26, 3) := by decide +kernel
theorem d_9_15_30 : decode prog_9_method_15_code 30 = .ok (.ifCond .eq 53, 3) := by decide +kernel
theorem d_9_15_33 : decode prog_9_method_15_code 33 = .ok (.aload_n 0, 1) := by decide +kernel
theorem d_9_15_34 : decode prog_9_method_15_code 34 = .ok (.getfield 90, 3) := by decide +kernel
theorem d_9_15_37 : decode prog_9_method_15_code 37 = .ok (.iconst (-1), 1) := by decide +kernel
theorem d_9_15_38 : decode prog_9_method_15_code 38 = .ok (.if_icmp .eq 45, 3) := by decide +kernel
theorem d_9_15_41 : decode prog_9_method_15_code 41 = .ok (.aload_n 1, 1) := by decide +kernel
theorem d_9_15_42 : decode prog_9_method_15_code 42 = .ok (.aload_n 0, 1) := by decide +kernel
theorem d_9_15_43 : decode prog_9_method_15_code 43 = .ok (.getfield 31, 3) := by decide +kernel
theorem d_9_15_46 : decode prog_9_method_15_code 46 = .ok (.iconst 0, 1) := by decide +kernel
theorem d_9_15_47 : decode prog_9_method_15_code 47 = .ok (.aload_n 0, 1) := by decide +kernel
theorem d_9_15_48 : decode prog_9_method_15_code 48 = .ok (.getfield 90, 3) := by decide +kernel
theorem d_9_15_51 : decode prog_9_method_15_code 51 = .ok (.invokestatic 76, 3) := by decide +kernel
theorem d_9_15_54 : decode prog_9_method_15_code 54 = .ok (.aload_n 1, 1) := by decide +kernel
theorem d_9_15_55 : decode prog_9_method_15_code 55 = .ok (.bipush 48, 2) := by decide +kernel
theorem d_9_15_57 : decode prog_9_method_15_code 57 = .ok (.iload_n 3, 1) := by decide +kernel
theorem d_9_15_58 : decode prog_9_method_15_code 58 = .ok (.invokevirtual 236, 3) := by decide +kernel
theorem d_9_15_61 : decode prog_9_method_15_code 61 = .ok (.aload_n 1, 1) := by decide +kernel
theorem d_9_15_62 : decode prog_9_method_15_code 62 = .ok (.aload_n 0, 1) := by decide +kernel
theorem d_9_15_63 : decode prog_9_method_15_code 63 = .ok (.getfield 31, 3) := by decide +kernel
theorem d_9_15_66 : decode prog_9_method_15_code 66 = .ok (.aload_n 0, 1) := by decide +kernel
theorem d_9_15_67 : decode prog_9_method_15_code 67 = .ok (.getfield 90, 3) := by decide +kernel
theorem d_9_15_70 : decode prog_9_method_15_code 70 = .ok (.aload_n 0, 1) := by decide +kernel
theorem d_9_15_71 : decode prog_9_method_15_code 71 = .ok (.getfield 31, 3) := by decide +kernel
theorem d_9_15_74 : decode prog_9_method_15_code 74 = .ok (.getfield 73, 3) := by decide +kernel
theorem d_9_15_77 : decode prog_9_method_15_code 77 = .ok (.invokestatic 76, 3) := by decide +kernel
theorem d_9_15_80 : decode prog_9_method_15_code 80 = .ok (.goto 63, 3) := by decide +kernel
def y_Pri_widen : MethodName := ⟨"NumberHouse$Printer", "widen", "(LNumberHouse$Sheet;)V"⟩
theorem d_9_5_0 : decode prog_9_method_5_code 0 = .ok (.aload_n 1, 1) := by decide +kernel
theorem d_9_5_1 : decode prog_9_method_5_code 1 = .ok (.invokevirtual 70, 3) := by decide +kernel
theorem d_9_5_4 : decode prog_9_method_5_code 4 = .ok (.aload_n 0, 1) := by decide +kernel
theorem d_9_5_5 : decode prog_9_method_5_code 5 = .ok (.iconst 0, 1) := by decide +kernel
theorem d_9_5_6 : decode prog_9_method_5_code 6 = .ok (.putfield 84, 3) := by decide +kernel
theorem d_9_5_9 : decode prog_9_method_5_code 9 = .ok (.aload_n 0, 1) := by decide +kernel
theorem d_9_5_10 : decode prog_9_method_5_code 10 = .ok (.iconst (-1), 1) := by decide +kernel
theorem d_9_5_11 : decode prog_9_method_5_code 11 = .ok (.putfield 87, 3) := by decide +kernel
theorem d_9_5_14 : decode prog_9_method_5_code 14 = .ok (.iconst 0, 1) := by decide +kernel
theorem d_9_5_15 : decode prog_9_method_5_code 15 = .ok (.istore_n 2, 1) := by decide +kernel
theorem d_9_5_16 : decode prog_9_method_5_code 16 = .ok (.iconst 0, 1) := by decide +kernel
theorem d_9_5_17 : decode prog_9_method_5_code 17 = .ok (.istore_n 3, 1) := by decide +kernel
theorem d_9_5_18 : decode prog_9_method_5_code 18 = .ok (.iload_n 3, 1) := by decide +kernel
theorem d_9_5_19 : decode prog_9_method_5_code 19 = .ok (.sipush 256, 3) := by decide +kernel
theorem d_9_5_22 : decode prog_9_method_5_code 22 = .ok (.if_icmp .gt 175, 3) := by decide +kernel
theorem d_9_5_197 : decode prog_9_method_5_code 197 = .ok (.aload_n 1, 1) := by decide +kernel
theorem d_9_5_198 : decode prog_9_method_5_code 198 = .ok (.getfield 73, 3) := by decide +kernel
theorem d_9_5_201 : decode prog_9_method_5_code 201 = .ok (.ireturn, 1) := by decide +kernel
theorem d_9_5_25 : decode prog_9_method_5_code 25 = .ok (.iload_n 2, 1) := by decide +kernel
theorem d_9_5_26 : decode prog_9_method_5_code 26 = .ok (.aload_n 0, 1) := by decide +kernel
theorem d_9_5_27 : decode prog_9_method_5_code 27 = .ok (.getfield 35, 3) := by decide +kernel
theorem d_9_5_30 : decode prog_9_method_5_code 30 = .ok (.getfield 73, 3) := by decide +kernel
theorem d_9_5_33 : decode prog_9_method_5_code 33 = .ok (.if_icmp .ge 164, 3) := by decide +kernel
theorem d_9_5_36 : decode prog_9_method_5_code 36 = .ok (.aload_n 0, 1) := by decide +kernel
theorem d_9_5_37 : decode prog_9_method_5_code 37 = .ok (.getfield 31, 3) := by decide +kernel
theorem d_9_5_40 : decode prog_9_method_5_code 40 = .ok (.invokevirtual 70, 3) := by decide +kernel
theorem d_9_5_43 : decode prog_9_method_5_code 43 = .ok (.aload_n 0, 1) := by decide +kernel
theorem d_9_5_44 : decode prog_9_method_5_code 44 = .ok (.iconst (-1), 1) := by decide +kernel
theorem d_9_5_45 : decode prog_9_method_5_code 45 = .ok (.putfield 90, 3) := by decide +kernel
theorem d_9_5_48 : decode prog_9_method_5_code 48 = .ok (.iload_n 2, 1) := by decide +kernel
theorem d_9_5_49 : decode prog_9_method_5_code 49 = .ok (.iconst 1, 1) := by decide +kernel
theorem d_9_5_50 : decode prog_9_method_5_code 50 = .ok (.iadd, 1) := by decide +kernel
theorem d_9_5_51 : decode prog_9_method_5_code 51 = .ok (.istore 4, 2) := by decide +kernel
theorem d_9_5_53 : decode prog_9_method_5_code 53 = .ok (.iconst 0, 1) := by decide +kernel
theorem d_9_5_54 : decode prog_9_method_5_code 54 = .ok (.istore 5, 2) := by decide +kernel
theorem d_9_5_56 : decode prog_9_method_5_code 56 = .ok (.aload_n 0, 1) := by decide +kernel
theorem d_9_5_57 : decode prog_9_method_5_code 57 = .ok (.getfield 35, 3) := by decide +kernel
theorem d_9_5_60 : decode prog_9_method_5_code 60 = .ok (.iload_n 2, 1) := by decide +kernel
theorem d_9_5_61 : decode prog_9_method_5_code 61 = .ok (.i2l, 1) := by decide +kernel
theorem d_9_5_62 : decode prog_9_method_5_code 62 = .ok (.invokevirtual 93, 3) := by decide +kernel
theorem d_9_5_65 : decode prog_9_method_5_code 65 = .ok (.bipush 37, 2) := by decide +kernel
theorem d_9_5_128 : decode prog_9_method_5_code 128 = .ok (.iload 5, 2) := by decide +kernel
theorem d_9_5_130 : decode prog_9_method_5_code 130 = .ok (.ifCond .ne 35, 3) := by decide +kernel
theorem d_9_5_165 : decode prog_9_method_5_code 165 = .ok (.iload 5, 2) := by decide +kernel
theorem d_9_5_167 : decode prog_9_method_5_code 167 = .ok (.ifCond .eq 16, 3) := by decide +kernel
theorem d_9_5_170 : decode prog_9_method_5_code 170 = .ok (.aload_n 1, 1) := by decide +kernel
theorem d_9_5_171 : decode prog_9_method_5_code 171 = .ok (.invokevirtual 70, 3) := by decide +kernel
theorem d_9_5_174 : decode prog_9_method_5_code 174 = .ok (.sipush (-1000), 3) := by decide +kernel
theorem d_9_5_177 : decode prog_9_method_5_code 177 = .ok (.iload 5, 2) := by decide +kernel
theorem d_9_5_179 : decode prog_9_method_5_code 179 = .ok (.imul, 1) := by decide +kernel
theorem d_9_5_180 : decode prog_9_method_5_code 180 = .ok (.iload_n 2, 1) := by decide +kernel
theorem d_9_5_181 : decode prog_9_method_5_code 181 = .ok (.isub, 1) := by decide +kernel
theorem d_9_5_182 : decode prog_9_method_5_code 182 = .ok (.ireturn, 1) := by decide +kernel
theorem d_9_5_133 : decode prog_9_method_5_code 133 = .ok (.aload_n 1, 1) := by decide +kernel
theorem d_9_5_134 : decode prog_9_method_5_code 134 = .ok (.getfield 73, 3) := by decide +kernel
theorem d_9_5_137 : decode prog_9_method_5_code 137 = .ok (.aload_n 0, 1) := by decide +kernel
theorem d_9_5_138 : decode prog_9_method_5_code 138 = .ok (.getfield 31, 3) := by decide +kernel
theorem d_9_5_141 : decode prog_9_method_5_code 141 = .ok (.getfield 73, 3) := by decide +kernel
theorem d_9_5_144 : decode prog_9_method_5_code 144 = .ok (.aload_n 0, 1) := by decide +kernel
theorem d_9_5_145 : decode prog_9_method_5_code 145 = .ok (.getfield 47, 3) := by decide +kernel
theorem d_9_5_148 : decode prog_9_method_5_code 148 = .ok (.getfield 116, 3) := by decide +kernel
theorem d_9_5_151 : decode prog_9_method_5_code 151 = .ok (.invokestatic 119, 3) := by decide +kernel
theorem d_9_5_154 : decode prog_9_method_5_code 154 = .ok (.iadd, 1) := by decide +kernel
theorem d_9_5_155 : decode prog_9_method_5_code 155 = .ok (.sipush 4096, 3) := by decide +kernel
theorem d_9_5_158 : decode prog_9_method_5_code 158 = .ok (.if_icmp .le 7, 3) := by decide +kernel
theorem d_9_5_183 : decode prog_9_method_5_code 183 = .ok (.aload_n 0, 1) := by decide +kernel
theorem d_9_5_184 : decode prog_9_method_5_code 184 = .ok (.aload_n 1, 1) := by decide +kernel
theorem d_9_5_185 : decode prog_9_method_5_code 185 = .ok (.invokevirtual 125, 3) := by decide +kernel
set_option maxRecDepth 100000 in
theorem w_1900 : (Cond.code ({ cls := "NumberHouse$Printer", name := "widen", desc := "(LNumberHouse$Sheet;)V" } : MethodName) prog_9_method_15_code (4 : Nat) (none : Option ClassFile.FieldType)) ∈ q_tbl := q_of8 220 rfl (by decide +kernel)
set_option maxRecDepth 100000 in
theorem w_1897 : (Cond.methodLink "NumberHouse$Printer" (125 : Nat) ({ cls := "NumberHouse$Printer", name := "widen", desc := "(LNumberHouse$Sheet;)V" } : MethodName)) ∈ q_tbl := q_of8 217 rfl (by decide +kernel)
set_option maxRecDepth 100000 in
theorem w_1899 : (Cond.instanceMethod ({ cls := "NumberHouse$Printer", name := "widen", desc := "(LNumberHouse$Sheet;)V" } : MethodName)) ∈ q_tbl := q_of8 219 rfl (by decide +kernel)
theorem ws_59 : Cond.selects "NumberHouse$Printer" (⟨"NumberHouse$Printer", "widen", "(LNumberHouse$Sheet;)V"⟩ : MethodName) (⟨"NumberHouse$Printer", "widen", "(LNumberHouse$Sheet;)V"⟩ : MethodName) ∈ q_tbl := q_ofs 59 (by decide +kernel) (by decide +kernel)
theorem LV_Pri_125 : q_LV "NumberHouse$Printer" 125 y_Pri_widen prog_9_method_15_code 4 none 1 := ⟨w_1900, w_12, w_1897, w_1899, ws_59, ⟨by decide, by decide, by decide +kernel⟩⟩
theorem d_9_5_188 : decode prog_9_method_5_code 188 = .ok (.iload 4, 2) := by decide +kernel
theorem d_9_5_190 : decode prog_9_method_5_code 190 = .ok (.istore_n 2, 1) := by decide +kernel
theorem d_9_5_191 : decode prog_9_method_5_code 191 = .ok (.iinc 3 1, 3) := by decide +kernel
theorem d_9_5_194 : decode prog_9_method_5_code 194 = .ok (.goto (-176), 3) := by decide +kernel
theorem d_9_5_161 : decode prog_9_method_5_code 161 = .ok (.bipush 12, 2) := by decide +kernel
theorem d_9_5_163 : decode prog_9_method_5_code 163 = .ok (.istore 5, 2) := by decide +kernel
theorem d_9_5_67 : decode prog_9_method_5_code 67 = .ok (.if_icmp .ne 38, 3) := by decide +kernel
theorem d_9_5_105 : decode prog_9_method_5_code 105 = .ok (.aload_n 0, 1) := by decide +kernel
theorem d_9_5_106 : decode prog_9_method_5_code 106 = .ok (.getfield 47, 3) := by decide +kernel
theorem d_9_5_109 : decode prog_9_method_5_code 109 = .ok (.invokevirtual 110, 3) := by decide +kernel
set_option maxRecDepth 100000 in
theorem w_1896 : (Cond.code ({ cls := "NumberHouse$Directive", name := "setPlain", desc := "()V" } : MethodName) prog_6_method_3_code (1 : Nat) (none : Option ClassFile.FieldType)) ∈ q_tbl := q_of8 216 rfl (by decide +kernel)
set_option maxRecDepth 100000 in
theorem w_1893 : (Cond.methodLink "NumberHouse$Printer" (110 : Nat) ({ cls := "NumberHouse$Directive", name := "setPlain", desc := "()V" } : MethodName)) ∈ q_tbl := q_of8 213 rfl (by decide +kernel)
set_option maxRecDepth 100000 in
theorem w_1894 : (Cond.instanceMethod ({ cls := "NumberHouse$Directive", name := "setPlain", desc := "()V" } : MethodName)) ∈ q_tbl := q_of8 214 rfl (by decide +kernel)
set_option maxRecDepth 100000 in
theorem w_1895 : (Cond.selects "NumberHouse$Directive" ({ cls := "NumberHouse$Directive", name := "setPlain", desc := "()V" } : MethodName) ({ cls := "NumberHouse$Directive", name := "setPlain", desc := "()V" } : MethodName)) ∈ q_tbl := q_of8 215 rfl (by decide +kernel)
theorem LV_Pri_110 : q_LV "NumberHouse$Printer" 110 y_Dir_setPlain prog_6_method_3_code 1 none 0 := ⟨w_1896, w_13, w_1893, w_1894, w_1895, ⟨by decide, by decide, by decide +kernel⟩⟩
theorem d_9_5_112 : decode prog_9_method_5_code 112 = .ok (.aload_n 0, 1) := by decide +kernel
theorem d_9_5_113 : decode prog_9_method_5_code 113 = .ok (.getfield 31, 3) := by decide +kernel
theorem d_9_5_116 : decode prog_9_method_5_code 116 = .ok (.aload_n 0, 1) := by decide +kernel
theorem d_9_5_117 : decode prog_9_method_5_code 117 = .ok (.getfield 35, 3) := by decide +kernel
theorem d_9_5_120 : decode prog_9_method_5_code 120 = .ok (.iload_n 2, 1) := by decide +kernel
theorem d_9_5_121 : decode prog_9_method_5_code 121 = .ok (.i2l, 1) := by decide +kernel
theorem d_9_5_122 : decode prog_9_method_5_code 122 = .ok (.invokevirtual 93, 3) := by decide +kernel
theorem d_9_5_125 : decode prog_9_method_5_code 125 = .ok (.invokevirtual 113, 3) := by decide +kernel
theorem d_9_5_70 : decode prog_9_method_5_code 70 = .ok (.aload_n 0, 1) := by decide +kernel
theorem d_9_5_71 : decode prog_9_method_5_code 71 = .ok (.getfield 47, 3) := by decide +kernel
theorem d_9_5_74 : decode prog_9_method_5_code 74 = .ok (.iload_n 2, 1) := by decide +kernel
theorem d_9_5_75 : decode prog_9_method_5_code 75 = .ok (.invokevirtual 97, 3) := by decide +kernel
set_option maxRecDepth 100000 in
theorem w_1738 : (Cond.code ({ cls := "NumberHouse$Directive", name := "parse", desc := "(I)V" } : MethodName) prog_6_method_2_code (2 : Nat) (none : Option ClassFile.FieldType)) ∈ q_tbl := q_of8 58 rfl (by decide +kernel)
set_option maxRecDepth 100000 in
theorem w_1735 : (Cond.methodLink "NumberHouse$Printer" (97 : Nat) ({ cls := "NumberHouse$Directive", name := "parse", desc := "(I)V" } : MethodName)) ∈ q_tbl := q_of8 55 rfl (by decide +kernel)
set_option maxRecDepth 100000 in
theorem w_1736 : (Cond.instanceMethod ({ cls := "NumberHouse$Directive", name := "parse", desc := "(I)V" } : MethodName)) ∈ q_tbl := q_of8 56 rfl (by decide +kernel)
set_option maxRecDepth 100000 in
theorem w_1737 : (Cond.selects "NumberHouse$Directive" ({ cls := "NumberHouse$Directive", name := "parse", desc := "(I)V" } : MethodName) ({ cls := "NumberHouse$Directive", name := "parse", desc := "(I)V" } : MethodName)) ∈ q_tbl := q_of8 57 rfl (by decide +kernel)
theorem LV_Pri_97 : q_LV "NumberHouse$Printer" 97 y_Dir_parse prog_6_method_2_code 2 none 1 := ⟨w_1738, w_13, w_1735, w_1736, w_1737, ⟨by decide, by decide, by decide +kernel⟩⟩
theorem d_9_5_78 : decode prog_9_method_5_code 78 = .ok (.aload_n 0, 1) := by decide +kernel
theorem d_9_5_79 : decode prog_9_method_5_code 79 = .ok (.getfield 47, 3) := by decide +kernel
theorem d_9_5_82 : decode prog_9_method_5_code 82 = .ok (.getfield 100, 3) := by decide +kernel
set_option maxRecDepth 100000 in
theorem w_364 : (Cond.fieldLink "NumberHouse$Printer" (100 : Nat) "NumberHouse$Directive" "place" "I") ∈ q_tbl := q_of2 124 rfl (by decide +kernel)
theorem d_9_5_85 : decode prog_9_method_5_code 85 = .ok (.istore 4, 2) := by decide +kernel
theorem d_9_5_87 : decode prog_9_method_5_code 87 = .ok (.aload_n 0, 1) := by decide +kernel
theorem d_9_5_88 : decode prog_9_method_5_code 88 = .ok (.invokevirtual 103, 3) := by decide +kernel
set_option maxRecDepth 100000 in
theorem w_1811 : (Cond.code ({ cls := "NumberHouse$Printer", name := "findFault", desc := "()I" } : MethodName) prog_9_method_6_code (3 : Nat) (some .int)) ∈ q_tbl := q_of8 131 rfl (by decide +kernel)
set_option maxRecDepth 100000 in
theorem w_1808 : (Cond.methodLink "NumberHouse$Printer" (103 : Nat) ({ cls := "NumberHouse$Printer", name := "findFault", desc := "()I" } : MethodName)) ∈ q_tbl := q_of8 128 rfl (by decide +kernel)
set_option maxRecDepth 100000 in
theorem w_1810 : (Cond.instanceMethod ({ cls := "NumberHouse$Printer", name := "findFault", desc := "()I" } : MethodName)) ∈ q_tbl := q_of8 130 rfl (by decide +kernel)
theorem ws_49 : Cond.selects "NumberHouse$Printer" (⟨"NumberHouse$Printer", "findFault", "()I"⟩ : MethodName) (⟨"NumberHouse$Printer", "findFault", "()I"⟩ : MethodName) ∈ q_tbl := q_ofs 49 (by decide +kernel) (by decide +kernel)
theorem LV_Pri_103 : q_LV "NumberHouse$Printer" 103 y_Pri_findFault prog_9_method_6_code 3 (some .int) 0 := ⟨w_1811, w_12, w_1808, w_1810, ws_49, ⟨by decide, by decide, by decide +kernel⟩⟩
theorem d_9_5_91 : decode prog_9_method_5_code 91 = .ok (.istore 5, 2) := by decide +kernel
theorem d_9_5_93 : decode prog_9_method_5_code 93 = .ok (.iload 5, 2) := by decide +kernel
theorem d_9_5_95 : decode prog_9_method_5_code 95 = .ok (.ifCond .ne 33, 3) := by decide +kernel
theorem d_9_5_98 : decode prog_9_method_5_code 98 = .ok (.aload_n 0, 1) := by decide +kernel
theorem d_9_5_99 : decode prog_9_method_5_code 99 = .ok (.invokevirtual 107, 3) := by decide +kernel
set_option maxRecDepth 100000 in
theorem w_1847 : (Cond.code ({ cls := "NumberHouse$Printer", name := "writeBody", desc := "()V" } : MethodName) prog_9_method_9_code (3 : Nat) (none : Option ClassFile.FieldType)) ∈ q_tbl := q_of8 167 rfl (by decide +kernel)
set_option maxRecDepth 100000 in
theorem w_1844 : (Cond.methodLink "NumberHouse$Printer" (107 : Nat) ({ cls := "NumberHouse$Printer", name := "writeBody", desc := "()V" } : MethodName)) ∈ q_tbl := q_of8 164 rfl (by decide +kernel)
set_option maxRecDepth 100000 in
theorem w_1846 : (Cond.instanceMethod ({ cls := "NumberHouse$Printer", name := "writeBody", desc := "()V" } : MethodName)) ∈ q_tbl := q_of8 166 rfl (by decide +kernel)
theorem ws_53 : Cond.selects "NumberHouse$Printer" (⟨"NumberHouse$Printer", "writeBody", "()V"⟩ : MethodName) (⟨"NumberHouse$Printer", "writeBody", "()V"⟩ : MethodName) ∈ q_tbl := q_ofs 53 (by decide +kernel) (by decide +kernel)
theorem LV_Pri_107 : q_LV "NumberHouse$Printer" 107 y_Pri_writeBody prog_9_method_9_code 3 none 0 := ⟨w_1847, w_12, w_1844, w_1846, ws_53, ⟨by decide, by decide, by decide +kernel⟩⟩
theorem d_9_5_102 : decode prog_9_method_5_code 102 = .ok (.goto 26, 3) := by decide +kernel
def y_Pri_run : MethodName := ⟨"NumberHouse$Printer", "run", "(LNumberHouse$Sheet;)I"⟩
