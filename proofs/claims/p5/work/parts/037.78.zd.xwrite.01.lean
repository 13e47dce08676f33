theorem d_12_7_0 : decode prog_12_method_7_code 0 = .ok (.aload_n 1, 1) := by decide +kernel
theorem d_12_7_1 : decode prog_12_method_7_code 1 = .ok (.lload_n 2, 1) := by decide +kernel
theorem d_12_7_2 : decode prog_12_method_7_code 2 = .ok (.invokevirtual 152, 3) := by decide +kernel
set_option maxRecDepth 100000 in
theorem w_1163 : (Cond.code ({ cls := "NumberHouse$Floats", name := "findShortest", desc := "(J)V" } : MethodName) prog_7_method_19_code (9 : Nat) (none : Option ClassFile.FieldType)) ∈ q_tbl := q_of5 203 rfl (by decide +kernel)
set_option maxRecDepth 100000 in
theorem w_1634 : (Cond.methodLink "NumberHouse$Writer" (152 : Nat) ({ cls := "NumberHouse$Floats", name := "findShortest", desc := "(J)V" } : MethodName)) ∈ q_tbl := q_of7 194 rfl (by decide +kernel)
set_option maxRecDepth 100000 in
theorem w_1161 : (Cond.instanceMethod ({ cls := "NumberHouse$Floats", name := "findShortest", desc := "(J)V" } : MethodName)) ∈ q_tbl := q_of5 201 rfl (by decide +kernel)
set_option maxRecDepth 100000 in
theorem w_1162 : (Cond.selects "NumberHouse$Floats" ({ cls := "NumberHouse$Floats", name := "findShortest", desc := "(J)V" } : MethodName) ({ cls := "NumberHouse$Floats", name := "findShortest", desc := "(J)V" } : MethodName)) ∈ q_tbl := q_of5 202 rfl (by decide +kernel)
theorem LV_Wri_152 : q_LV "NumberHouse$Writer" 152 y_Flo_findShortest prog_7_method_19_code 9 none 1 := ⟨w_1163, w_8, w_1634, w_1161, w_1162, ⟨by decide, by decide, by decide +kernel⟩⟩
theorem d_12_7_5 : decode prog_12_method_7_code 5 = .ok (.aload_n 0, 1) := by decide +kernel
theorem d_12_7_6 : decode prog_12_method_7_code 6 = .ok (.getfield 17, 3) := by decide +kernel
theorem d_12_7_9 : decode prog_12_method_7_code 9 = .ok (.aload_n 1, 1) := by decide +kernel
theorem d_12_7_10 : decode prog_12_method_7_code 10 = .ok (.getfield 156, 3) := by decide +kernel
set_option maxRecDepth 100000 in
theorem w_236 : (Cond.fieldLink "NumberHouse$Writer" (156 : Nat) "NumberHouse$Floats" "shortNumber" "J") ∈ q_tbl := q_of1 236 rfl (by decide +kernel)
theorem d_12_7_13 : decode prog_12_method_7_code 13 = .ok (.aload_n 1, 1) := by decide +kernel
theorem d_12_7_14 : decode prog_12_method_7_code 14 = .ok (.getfield 160, 3) := by decide +kernel
set_option maxRecDepth 100000 in
theorem w_239 : (Cond.fieldLink "NumberHouse$Writer" (160 : Nat) "NumberHouse$Floats" "shortPower" "I") ∈ q_tbl := q_of1 239 rfl (by decide +kernel)
theorem d_12_7_17 : decode prog_12_method_7_code 17 = .ok (.ineg, 1) := by decide +kernel
theorem d_12_7_18 : decode prog_12_method_7_code 18 = .ok (.invokevirtual 163, 3) := by decide +kernel
set_option maxRecDepth 100000 in
theorem w_1635 : (Cond.methodLink "NumberHouse$Writer" (163 : Nat) ({ cls := "NumberHouse$Digits", name := "fillLong", desc := "(JI)V" } : MethodName)) ∈ q_tbl := q_of7 195 rfl (by decide +kernel)
theorem LV_Wri_163 : q_LV "NumberHouse$Writer" 163 y_Dig_fillLong prog_5_method_3_code 7 none 2 := ⟨w_1638, w_9, w_1635, w_1636, w_1637, ⟨by decide, by decide, by decide +kernel⟩⟩
theorem d_12_7_21 : decode prog_12_method_7_code 21 = .ok (.aload_n 0, 1) := by decide +kernel
theorem d_12_7_22 : decode prog_12_method_7_code 22 = .ok (.getfield 17, 3) := by decide +kernel
theorem d_12_7_25 : decode prog_12_method_7_code 25 = .ok (.getfield 167, 3) := by decide +kernel
set_option maxRecDepth 100000 in
theorem w_267 : (Cond.fieldLink "NumberHouse$Writer" (167 : Nat) "NumberHouse$Digits" "power" "I") ∈ q_tbl := q_of2 27 rfl (by decide +kernel)
theorem d_12_7_28 : decode prog_12_method_7_code 28 = .ok (.bipush (-3), 2) := by decide +kernel
theorem d_12_7_68 : decode prog_12_method_7_code 68 = .ok (.aload_n 0, 1) := by decide +kernel
theorem d_12_7_69 : decode prog_12_method_7_code 69 = .ok (.getfield 17, 3) := by decide +kernel
theorem d_12_7_72 : decode prog_12_method_7_code 72 = .ok (.aload_n 0, 1) := by decide +kernel
theorem d_12_7_73 : decode prog_12_method_7_code 73 = .ok (.getfield 7, 3) := by decide +kernel
theorem d_12_7_76 : decode prog_12_method_7_code 76 = .ok (.iconst 2, 1) := by decide +kernel
theorem d_12_7_77 : decode prog_12_method_7_code 77 = .ok (.aload_n 0, 1) := by decide +kernel
theorem d_12_7_78 : decode prog_12_method_7_code 78 = .ok (.getfield 17, 3) := by decide +kernel
theorem d_12_7_81 : decode prog_12_method_7_code 81 = .ok (.getfield 105, 3) := by decide +kernel
theorem d_12_7_84 : decode prog_12_method_7_code 84 = .ok (.invokestatic 81, 3) := by decide +kernel
theorem d_12_7_87 : decode prog_12_method_7_code 87 = .ok (.iconst 0, 1) := by decide +kernel
theorem d_12_7_88 : decode prog_12_method_7_code 88 = .ok (.invokevirtual 94, 3) := by decide +kernel
theorem d_12_7_91 : decode prog_12_method_7_code 91 = .ok (.aload_n 0, 1) := by decide +kernel
theorem d_12_7_92 : decode prog_12_method_7_code 92 = .ok (.getfield 7, 3) := by decide +kernel
theorem d_12_7_95 : decode prog_12_method_7_code 95 = .ok (.bipush 69, 2) := by decide +kernel
theorem d_12_7_97 : decode prog_12_method_7_code 97 = .ok (.invokevirtual 62, 3) := by decide +kernel
theorem d_12_7_100 : decode prog_12_method_7_code 100 = .ok (.aload_n 0, 1) := by decide +kernel
theorem d_12_7_101 : decode prog_12_method_7_code 101 = .ok (.aload_n 0, 1) := by decide +kernel
theorem d_12_7_102 : decode prog_12_method_7_code 102 = .ok (.getfield 17, 3) := by decide +kernel
theorem d_12_7_105 : decode prog_12_method_7_code 105 = .ok (.getfield 167, 3) := by decide +kernel
theorem d_12_7_108 : decode prog_12_method_7_code 108 = .ok (.invokevirtual 170, 3) := by decide +kernel
set_option maxRecDepth 100000 in
theorem w_1629 : (Cond.code ({ cls := "NumberHouse$Writer", name := "writeSigned", desc := "(I)V" } : MethodName) prog_12_method_9_code (2 : Nat) (none : Option ClassFile.FieldType)) ∈ q_tbl := q_of7 189 rfl (by decide +kernel)
set_option maxRecDepth 100000 in
theorem w_1626 : (Cond.methodLink "NumberHouse$Writer" (170 : Nat) ({ cls := "NumberHouse$Writer", name := "writeSigned", desc := "(I)V" } : MethodName)) ∈ q_tbl := q_of7 186 rfl (by decide +kernel)
set_option maxRecDepth 100000 in
theorem w_1628 : (Cond.instanceMethod ({ cls := "NumberHouse$Writer", name := "writeSigned", desc := "(I)V" } : MethodName)) ∈ q_tbl := q_of7 188 rfl (by decide +kernel)
theorem ws_40 : Cond.selects "NumberHouse$Writer" (⟨"NumberHouse$Writer", "writeSigned", "(I)V"⟩ : MethodName) (⟨"NumberHouse$Writer", "writeSigned", "(I)V"⟩ : MethodName) ∈ q_tbl := q_ofs 40 (by decide +kernel) (by decide +kernel)
theorem LV_Wri_170 : q_LV "NumberHouse$Writer" 170 y_Wri_writeSigned prog_12_method_9_code 2 none 1 := ⟨w_1629, w_11, w_1626, w_1628, ws_40, ⟨by decide, by decide, by decide +kernel⟩⟩
theorem d_12_7_111 : decode prog_12_method_7_code 111 = .ok (.return_, 1) := by decide +kernel
theorem d_12_7_30 : decode prog_12_method_7_code 30 = .ok (.if_icmp .lt 38, 3) := by decide +kernel
theorem d_12_7_33 : decode prog_12_method_7_code 33 = .ok (.aload_n 0, 1) := by decide +kernel
theorem d_12_7_34 : decode prog_12_method_7_code 34 = .ok (.getfield 17, 3) := by decide +kernel
theorem d_12_7_37 : decode prog_12_method_7_code 37 = .ok (.getfield 167, 3) := by decide +kernel
theorem d_12_7_40 : decode prog_12_method_7_code 40 = .ok (.bipush 7, 2) := by decide +kernel
theorem d_12_7_42 : decode prog_12_method_7_code 42 = .ok (.if_icmp .ge 26, 3) := by decide +kernel
theorem d_12_7_45 : decode prog_12_method_7_code 45 = .ok (.aload_n 0, 1) := by decide +kernel
theorem d_12_7_46 : decode prog_12_method_7_code 46 = .ok (.getfield 17, 3) := by decide +kernel
theorem d_12_7_49 : decode prog_12_method_7_code 49 = .ok (.aload_n 0, 1) := by decide +kernel
theorem d_12_7_50 : decode prog_12_method_7_code 50 = .ok (.getfield 7, 3) := by decide +kernel
theorem d_12_7_53 : decode prog_12_method_7_code 53 = .ok (.iconst 1, 1) := by decide +kernel
theorem d_12_7_54 : decode prog_12_method_7_code 54 = .ok (.aload_n 1, 1) := by decide +kernel
theorem d_12_7_55 : decode prog_12_method_7_code 55 = .ok (.getfield 160, 3) := by decide +kernel
theorem d_12_7_58 : decode prog_12_method_7_code 58 = .ok (.ineg, 1) := by decide +kernel
theorem d_12_7_59 : decode prog_12_method_7_code 59 = .ok (.invokestatic 81, 3) := by decide +kernel
theorem d_12_7_62 : decode prog_12_method_7_code 62 = .ok (.iconst 0, 1) := by decide +kernel
theorem d_12_7_63 : decode prog_12_method_7_code 63 = .ok (.iconst 0, 1) := by decide +kernel
theorem d_12_7_64 : decode prog_12_method_7_code 64 = .ok (.invokevirtual 90, 3) := by decide +kernel
theorem d_12_7_67 : decode prog_12_method_7_code 67 = .ok (.return_, 1) := by decide +kernel
def y_Wri_writeShort : MethodName := ⟨"NumberHouse$Writer", "writeShort", "(LNumberHouse$Floats;J)V"⟩
def F_Wri_writeShort_c108 (A : Int32) (B : Int32) (C : Int32) (x3 : Int64) (t0_0 : Int32) (t1_0 : (Nat → Int64)) (t2_0 : Int32) (t2_1 : Int32) (t3_0 : (Nat → Int32)) (t4_0 : Int32) (t4_1 : Int32) (t5_0 : (Nat → Int32)) (t6_0 : Int32) (t6_1 : Int32) (t7_0 : (Nat → Int32)) (t8_0 : Int32) (t8_1 : Int32) (t9_0 : (Nat → Int32)) (t10_0 : Int32) (t10_1 : Int32) (t11_0 : (Nat → Int32)) (t12_0 : Int32) (t12_1 : Int32) (t13_0 : (Nat → Int32)) (t14_0 : Int64) (t14_1 : Int32) (t14_2 : Int32) (p111 : (Int64 × Int32 × Int32 × Int32 × Int32 × (Nat → Int32) × Int32 × Int32 × (Nat → Int32) × Int32 × Int32 × (Nat → Int32) × Int32 × Int32 × (Nat → Int32) × Int32 × Int32 × (Nat → Int32))) (y65 : Int32) (y66 : Int32) (f67 : (Nat → Int32)) (y70 : Int32) (y71 : Int32) (f72 : (Nat → Int32)) (y75 : Int32) (y76 : Int32) (f77 : (Nat → Int32)) (y80 : Int32) (y81 : Int32) (f82 : (Nat → Int32)) (y85 : Int32) (y86 : Int32) (f87 : (Nat → Int32)) (y61 : Int64) (y62 : Int32) (y63 : Int32) (p157 : (Int32 × Int32 × (Nat → Int32))) (y144 : Int32) (y145 : Int32) (f146 : (Nat → Int32)) (p203 : (Int32 × (Nat → Int64))) (p222 : (Int32 × (Nat → Int64))) (p241 : (Int32 × (Nat → Int64))) : Int32 × (Nat → Int64) × Int32 × Int32 × (Nat → Int32) × Int32 × Int32 × (Nat → Int32) × Int32 × Int32 × (Nat → Int32) × Int32 × Int32 × (Nat → Int32) × Int32 × Int32 × (Nat → Int32) × Int32 × Int32 × (Nat → Int32) × Int64 × Int32 × Int32 := ((p241.1 : Int32), (p241.2 : (Nat → Int64)), y144, y145, f146, y65, y66, f67, y70, y71, f72, y75, y76, f77, y80, y81, f82, y85, y86, f87, y61, y62, y63)
def F_Wri_writeShort_c97 (A : Int32) (B : Int32) (C : Int32) (x3 : Int64) (t0_0 : Int32) (t1_0 : (Nat → Int64)) (t2_0 : Int32) (t2_1 : Int32) (t3_0 : (Nat → Int32)) (t4_0 : Int32) (t4_1 : Int32) (t5_0 : (Nat → Int32)) (t6_0 : Int32) (t6_1 : Int32) (t7_0 : (Nat → Int32)) (t8_0 : Int32) (t8_1 : Int32) (t9_0 : (Nat → Int32)) (t10_0 : Int32) (t10_1 : Int32) (t11_0 : (Nat → Int32)) (t12_0 : Int32) (t12_1 : Int32) (t13_0 : (Nat → Int32)) (t14_0 : Int64) (t14_1 : Int32) (t14_2 : Int32) (p111 : (Int64 × Int32 × Int32 × Int32 × Int32 × (Nat → Int32) × Int32 × Int32 × (Nat → Int32) × Int32 × Int32 × (Nat → Int32) × Int32 × Int32 × (Nat → Int32) × Int32 × Int32 × (Nat → Int32))) (y65 : Int32) (y66 : Int32) (f67 : (Nat → Int32)) (y70 : Int32) (y71 : Int32) (f72 : (Nat → Int32)) (y75 : Int32) (y76 : Int32) (f77 : (Nat → Int32)) (y80 : Int32) (y81 : Int32) (f82 : (Nat → Int32)) (y85 : Int32) (y86 : Int32) (f87 : (Nat → Int32)) (y61 : Int64) (y62 : Int32) (y63 : Int32) (p157 : (Int32 × Int32 × (Nat → Int32))) (y144 : Int32) (y145 : Int32) (f146 : (Nat → Int32)) (p203 : (Int32 × (Nat → Int64))) (p222 : (Int32 × (Nat → Int64))) : Int32 × (Nat → Int64) × Int32 × Int32 × (Nat → Int32) × Int32 × Int32 × (Nat → Int32) × Int32 × Int32 × (Nat → Int32) × Int32 × Int32 × (Nat → Int32) × Int32 × Int32 × (Nat → Int32) × Int32 × Int32 × (Nat → Int32) × Int64 × Int32 × Int32 := F_Wri_writeShort_c108 A B C x3 t0_0 t1_0 t2_0 t2_1 t3_0 t4_0 t4_1 t5_0 t6_0 t6_1 t7_0 t8_0 t8_1 t9_0 t10_0 t10_1 t11_0 t12_0 t12_1 t13_0 t14_0 t14_1 t14_2 p111 y65 y66 f67 y70 y71 f72 y75 y76 f77 y80 y81 f82 y85 y86 f87 y61 y62 y63 p157 y144 y145 f146 p203 p222 ((F_Wri_writeSigned y145 (p222.1 : Int32) (p222.2 : (Nat → Int64))) : (Int32 × (Nat → Int64)))
def F_Wri_writeShort_c88 (A : Int32) (B : Int32) (C : Int32) (x3 : Int64) (t0_0 : Int32) (t1_0 : (Nat → Int64)) (t2_0 : Int32) (t2_1 : Int32) (t3_0 : (Nat → Int32)) (t4_0 : Int32) (t4_1 : Int32) (t5_0 : (Nat → Int32)) (t6_0 : Int32) (t6_1 : Int32) (t7_0 : (Nat → Int32)) (t8_0 : Int32) (t8_1 : Int32) (t9_0 : (Nat → Int32)) (t10_0 : Int32) (t10_1 : Int32) (t11_0 : (Nat → Int32)) (t12_0 : Int32) (t12_1 : Int32) (t13_0 : (Nat → Int32)) (t14_0 : Int64) (t14_1 : Int32) (t14_2 : Int32) (p111 : (Int64 × Int32 × Int32 × Int32 × Int32 × (Nat → Int32) × Int32 × Int32 × (Nat → Int32) × Int32 × Int32 × (Nat → Int32) × Int32 × Int32 × (Nat → Int32) × Int32 × Int32 × (Nat → Int32))) (y65 : Int32) (y66 : Int32) (f67 : (Nat → Int32)) (y70 : Int32) (y71 : Int32) (f72 : (Nat → Int32)) (y75 : Int32) (y76 : Int32) (f77 : (Nat → Int32)) (y80 : Int32) (y81 : Int32) (f82 : (Nat → Int32)) (y85 : Int32) (y86 : Int32) (f87 : (Nat → Int32)) (y61 : Int64) (y62 : Int32) (y63 : Int32) (p157 : (Int32 × Int32 × (Nat → Int32))) (y144 : Int32) (y145 : Int32) (f146 : (Nat → Int32)) (p203 : (Int32 × (Nat → Int64))) : Int32 × (Nat → Int64) × Int32 × Int32 × (Nat → Int32) × Int32 × Int32 × (Nat → Int32) × Int32 × Int32 × (Nat → Int32) × Int32 × Int32 × (Nat → Int32) × Int32 × Int32 × (Nat → Int32) × Int32 × Int32 × (Nat → Int32) × Int64 × Int32 × Int32 := F_Wri_writeShort_c97 A B C x3 t0_0 t1_0 t2_0 t2_1 t3_0 t4_0 t4_1 t5_0 t6_0 t6_1 t7_0 t8_0 t8_1 t9_0 t10_0 t10_1 t11_0 t12_0 t12_1 t13_0 t14_0 t14_1 t14_2 p111 y65 y66 f67 y70 y71 f72 y75 y76 f77 y80 y81 f82 y85 y86 f87 y61 y62 y63 p157 y144 y145 f146 p203 ((F_She_add_p (11008 : Int32) (1376 : Int32) (1000000 : Int32) (69 : Int32) (p203.1 : Int32) (p203.2 : (Nat → Int64))) : (Int32 × (Nat → Int64)))
def F_Wri_writeShort_J68 (A : Int32) (B : Int32) (C : Int32) (x3 : Int64) (t0_0 : Int32) (t1_0 : (Nat → Int64)) (t2_0 : Int32) (t2_1 : Int32) (t3_0 : (Nat → Int32)) (t4_0 : Int32) (t4_1 : Int32) (t5_0 : (Nat → Int32)) (t6_0 : Int32) (t6_1 : Int32) (t7_0 : (Nat → Int32)) (t8_0 : Int32) (t8_1 : Int32) (t9_0 : (Nat → Int32)) (t10_0 : Int32) (t10_1 : Int32) (t11_0 : (Nat → Int32)) (t12_0 : Int32) (t12_1 : Int32) (t13_0 : (Nat → Int32)) (t14_0 : Int64) (t14_1 : Int32) (t14_2 : Int32) (p111 : (Int64 × Int32 × Int32 × Int32 × Int32 × (Nat → Int32) × Int32 × Int32 × (Nat → Int32) × Int32 × Int32 × (Nat → Int32) × Int32 × Int32 × (Nat → Int32) × Int32 × Int32 × (Nat → Int32))) (y65 : Int32) (y66 : Int32) (f67 : (Nat → Int32)) (y70 : Int32) (y71 : Int32) (f72 : (Nat → Int32)) (y75 : Int32) (y76 : Int32) (f77 : (Nat → Int32)) (y80 : Int32) (y81 : Int32) (f82 : (Nat → Int32)) (y85 : Int32) (y86 : Int32) (f87 : (Nat → Int32)) (y61 : Int64) (y62 : Int32) (y63 : Int32) (p157 : (Int32 × Int32 × (Nat → Int32))) (y144 : Int32) (y145 : Int32) (f146 : (Nat → Int32)) : Int32 × (Nat → Int64) × Int32 × Int32 × (Nat → Int32) × Int32 × Int32 × (Nat → Int32) × Int32 × Int32 × (Nat → Int32) × Int32 × Int32 × (Nat → Int32) × Int32 × Int32 × (Nat → Int32) × Int32 × Int32 × (Nat → Int32) × Int64 × Int32 × Int32 := F_Wri_writeShort_c88 A B C x3 t0_0 t1_0 t2_0 t2_1 t3_0 t4_0 t4_1 t5_0 t6_0 t6_1 t7_0 t8_0 t8_1 t9_0 t10_0 t10_1 t11_0 t12_0 t12_1 t13_0 t14_0 t14_1 t14_2 p111 y65 y66 f67 y70 y71 f72 y75 y76 f77 y80 y81 f82 y85 y86 f87 y61 y62 y63 p157 y144 y145 f146 ((F_Dig_writeHead (11008 : Int32) (1376 : Int32) (1000000 : Int32) (if 2 < y144 then y144 else 2 : Int32) (0 : Int32) y144 y145 f146 t0_0 t1_0) : (Int32 × (Nat → Int64)))
def F_Wri_writeShort_c64 (A : Int32) (B : Int32) (C : Int32) (x3 : Int64) (t0_0 : Int32) (t1_0 : (Nat → Int64)) (t2_0 : Int32) (t2_1 : Int32) (t3_0 : (Nat → Int32)) (t4_0 : Int32) (t4_1 : Int32) (t5_0 : (Nat → Int32)) (t6_0 : Int32) (t6_1 : Int32) (t7_0 : (Nat → Int32)) (t8_0 : Int32) (t8_1 : Int32) (t9_0 : (Nat → Int32)) (t10_0 : Int32) (t10_1 : Int32) (t11_0 : (Nat → Int32)) (t12_0 : Int32) (t12_1 : Int32) (t13_0 : (Nat → Int32)) (t14_0 : Int64) (t14_1 : Int32) (t14_2 : Int32) (p111 : (Int64 × Int32 × Int32 × Int32 × Int32 × (Nat → Int32) × Int32 × Int32 × (Nat → Int32) × Int32 × Int32 × (Nat → Int32) × Int32 × Int32 × (Nat → Int32) × Int32 × Int32 × (Nat → Int32))) (y65 : Int32) (y66 : Int32) (f67 : (Nat → Int32)) (y70 : Int32) (y71 : Int32) (f72 : (Nat → Int32)) (y75 : Int32) (y76 : Int32) (f77 : (Nat → Int32)) (y80 : Int32) (y81 : Int32) (f82 : (Nat → Int32)) (y85 : Int32) (y86 : Int32) (f87 : (Nat → Int32)) (y61 : Int64) (y62 : Int32) (y63 : Int32) (p157 : (Int32 × Int32 × (Nat → Int32))) (y144 : Int32) (y145 : Int32) (f146 : (Nat → Int32)) (p276 : (Int32 × (Nat → Int64))) : Int32 × (Nat → Int64) × Int32 × Int32 × (Nat → Int32) × Int32 × Int32 × (Nat → Int32) × Int32 × Int32 × (Nat → Int32) × Int32 × Int32 × (Nat → Int32) × Int32 × Int32 × (Nat → Int32) × Int32 × Int32 × (Nat → Int32) × Int64 × Int32 × Int32 := ((p276.1 : Int32), (p276.2 : (Nat → Int64)), y144, y145, f146, y65, y66, f67, y70, y71, f72, y75, y76, f77, y80, y81, f82, y85, y86, f87, y61, y62, y63)
def F_Wri_writeShort_c18 (A : Int32) (B : Int32) (C : Int32) (x3 : Int64) (t0_0 : Int32) (t1_0 : (Nat → Int64)) (t2_0 : Int32) (t2_1 : Int32) (t3_0 : (Nat → Int32)) (t4_0 : Int32) (t4_1 : Int32) (t5_0 : (Nat → Int32)) (t6_0 : Int32) (t6_1 : Int32) (t7_0 : (Nat → Int32)) (t8_0 : Int32) (t8_1 : Int32) (t9_0 : (Nat → Int32)) (t10_0 : Int32) (t10_1 : Int32) (t11_0 : (Nat → Int32)) (t12_0 : Int32) (t12_1 : Int32) (t13_0 : (Nat → Int32)) (t14_0 : Int64) (t14_1 : Int32) (t14_2 : Int32) (p111 : (Int64 × Int32 × Int32 × Int32 × Int32 × (Nat → Int32) × Int32 × Int32 × (Nat → Int32) × Int32 × Int32 × (Nat → Int32) × Int32 × Int32 × (Nat → Int32) × Int32 × Int32 × (Nat → Int32))) (y65 : Int32) (y66 : Int32) (f67 : (Nat → Int32)) (y70 : Int32) (y71 : Int32) (f72 : (Nat → Int32)) (y75 : Int32) (y76 : Int32) (f77 : (Nat → Int32)) (y80 : Int32) (y81 : Int32) (f82 : (Nat → Int32)) (y85 : Int32) (y86 : Int32) (f87 : (Nat → Int32)) (y61 : Int64) (y62 : Int32) (y63 : Int32) (p157 : (Int32 × Int32 × (Nat → Int32))) : Int32 × (Nat → Int64) × Int32 × Int32 × (Nat → Int32) × Int32 × Int32 × (Nat → Int32) × Int32 × Int32 × (Nat → Int32) × Int32 × Int32 × (Nat → Int32) × Int32 × Int32 × (Nat → Int32) × Int32 × Int32 × (Nat → Int32) × Int64 × Int32 × Int32 := if (p157.2.1 : Int32) < (-3 : Int32) then (F_Wri_writeShort_J68 A B C x3 t0_0 t1_0 t2_0 t2_1 t3_0 t4_0 t4_1 t5_0 t6_0 t6_1 t7_0 t8_0 t8_1 t9_0 t10_0 t10_1 t11_0 t12_0 t12_1 t13_0 t14_0 t14_1 t14_2 p111 y65 y66 f67 y70 y71 f72 y75 y76 f77 y80 y81 f82 y85 y86 f87 y61 y62 y63 p157 (p157.1 : Int32) (p157.2.1 : Int32) (p157.2.2 : (Nat → Int32))) else (if (7 : Int32) ≤ (p157.2.1 : Int32) then (F_Wri_writeShort_J68 A B C x3 t0_0 t1_0 t2_0 t2_1 t3_0 t4_0 t4_1 t5_0 t6_0 t6_1 t7_0 t8_0 t8_1 t9_0 t10_0 t10_1 t11_0 t12_0 t12_1 t13_0 t14_0 t14_1 t14_2 p111 y65 y66 f67 y70 y71 f72 y75 y76 f77 y80 y81 f82 y85 y86 f87 y61 y62 y63 p157 (p157.1 : Int32) (p157.2.1 : Int32) (p157.2.2 : (Nat → Int32))) else (F_Wri_writeShort_c64 A B C x3 t0_0 t1_0 t2_0 t2_1 t3_0 t4_0 t4_1 t5_0 t6_0 t6_1 t7_0 t8_0 t8_1 t9_0 t10_0 t10_1 t11_0 t12_0 t12_1 t13_0 t14_0 t14_1 t14_2 p111 y65 y66 f67 y70 y71 f72 y75 y76 f77 y80 y81 f82 y85 y86 f87 y61 y62 y63 p157 (p157.1 : Int32) (p157.2.1 : Int32) (p157.2.2 : (Nat → Int32)) ((F_Dig_writePlain (11008 : Int32) (1376 : Int32) (1000000 : Int32) (if 1 < (-y62 : Int32) then (-y62 : Int32) else 1 : Int32) (0 : Int32) (0 : Int32) (p157.1 : Int32) (p157.2.1 : Int32) (p157.2.2 : (Nat → Int32)) t0_0 t1_0) : (Int32 × (Nat → Int64)))))
def F_Wri_writeShort_c2 (A : Int32) (B : Int32) (C : Int32) (x3 : Int64) (t0_0 : Int32) (t1_0 : (Nat → Int64)) (t2_0 : Int32) (t2_1 : Int32) (t3_0 : (Nat → Int32)) (t4_0 : Int32) (t4_1 : Int32) (t5_0 : (Nat → Int32)) (t6_0 : Int32) (t6_1 : Int32) (t7_0 : (Nat → Int32)) (t8_0 : Int32) (t8_1 : Int32) (t9_0 : (Nat → Int32)) (t10_0 : Int32) (t10_1 : Int32) (t11_0 : (Nat → Int32)) (t12_0 : Int32) (t12_1 : Int32) (t13_0 : (Nat → Int32)) (t14_0 : Int64) (t14_1 : Int32) (t14_2 : Int32) (p111 : (Int64 × Int32 × Int32 × Int32 × Int32 × (Nat → Int32) × Int32 × Int32 × (Nat → Int32) × Int32 × Int32 × (Nat → Int32) × Int32 × Int32 × (Nat → Int32) × Int32 × Int32 × (Nat → Int32))) : Int32 × (Nat → Int64) × Int32 × Int32 × (Nat → Int32) × Int32 × Int32 × (Nat → Int32) × Int32 × Int32 × (Nat → Int32) × Int32 × Int32 × (Nat → Int32) × Int32 × Int32 × (Nat → Int32) × Int32 × Int32 × (Nat → Int32) × Int64 × Int32 × Int32 := F_Wri_writeShort_c18 A B C x3 t0_0 t1_0 t2_0 t2_1 t3_0 t4_0 t4_1 t5_0 t6_0 t6_1 t7_0 t8_0 t8_1 t9_0 t10_0 t10_1 t11_0 t12_0 t12_1 t13_0 t14_0 t14_1 t14_2 p111 (p111.2.2.2.1 : Int32) (p111.2.2.2.2.1 : Int32) (p111.2.2.2.2.2.1 : (Nat → Int32)) (p111.2.2.2.2.2.2.1 : Int32) (p111.2.2.2.2.2.2.2.1 : Int32) (p111.2.2.2.2.2.2.2.2.1 : (Nat → Int32)) (p111.2.2.2.2.2.2.2.2.2.1 : Int32) (p111.2.2.2.2.2.2.2.2.2.2.1 : Int32) (p111.2.2.2.2.2.2.2.2.2.2.2.1 : (Nat → Int32)) (p111.2.2.2.2.2.2.2.2.2.2.2.2.1 : Int32) (p111.2.2.2.2.2.2.2.2.2.2.2.2.2.1 : Int32) (p111.2.2.2.2.2.2.2.2.2.2.2.2.2.2.1 : (Nat → Int32)) (p111.2.2.2.2.2.2.2.2.2.2.2.2.2.2.2.1 : Int32) (p111.2.2.2.2.2.2.2.2.2.2.2.2.2.2.2.2.1 : Int32) (p111.2.2.2.2.2.2.2.2.2.2.2.2.2.2.2.2.2 : (Nat → Int32)) (p111.1 : Int64) (p111.2.1 : Int32) (p111.2.2.1 : Int32) ((F_Dig_fillLong (p111.1 : Int64) (-(p111.2.1 : Int32) : Int32) t2_0 t2_1 t3_0) : (Int32 × Int32 × (Nat → Int32)))
def F_Wri_writeShort (A : Int32) (B : Int32) (C : Int32) (x3 : Int64) (t0_0 : Int32) (t1_0 : (Nat → Int64)) (t2_0 : Int32) (t2_1 : Int32) (t3_0 : (Nat → Int32)) (t4_0 : Int32) (t4_1 : Int32) (t5_0 : (Nat → Int32)) (t6_0 : Int32) (t6_1 : Int32) (t7_0 : (Nat → Int32)) (t8_0 : Int32) (t8_1 : Int32) (t9_0 : (Nat → Int32)) (t10_0 : Int32) (t10_1 : Int32) (t11_0 : (Nat → Int32)) (t12_0 : Int32) (t12_1 : Int32) (t13_0 : (Nat → Int32)) (t14_0 : Int64) (t14_1 : Int32) (t14_2 : Int32) : Int32 × (Nat → Int64) × Int32 × Int32 × (Nat → Int32) × Int32 × Int32 × (Nat → Int32) × Int32 × Int32 × (Nat → Int32) × Int32 × Int32 × (Nat → Int32) × Int32 × Int32 × (Nat → Int32) × Int32 × Int32 × (Nat → Int32) × Int64 × Int32 × Int32 := F_Wri_writeShort_c2 A B C x3 t0_0 t1_0 t2_0 t2_1 t3_0 t4_0 t4_1 t5_0 t6_0 t6_1 t7_0 t8_0 t8_1 t9_0 t10_0 t10_1 t11_0 t12_0 t12_1 t13_0 t14_0 t14_1 t14_2 ((F_Flo_findShortest A B C x3 t14_0 t14_1 t14_2 t4_0 t4_1 t5_0 t6_0 t6_1 t7_0 t8_0 t8_1 t9_0 t10_0 t10_1 t11_0 t12_0 t12_1 t13_0) : (Int64 × Int32 × Int32 × Int32 × Int32 × (Nat → Int32) × Int32 × Int32 × (Nat → Int32) × Int32 × Int32 × (Nat → Int32) × Int32 × Int32 × (Nat → Int32) × Int32 × Int32 × (Nat → Int32)))
def S_Wri_writeShort_c108 (A : Int32) (B : Int32) (C : Int32) (x3 : Int64) (t0_0 : Int32) (t1_0 : (Nat → Int64)) (t2_0 : Int32) (t2_1 : Int32) (t3_0 : (Nat → Int32)) (t4_0 : Int32) (t4_1 : Int32) (t5_0 : (Nat → Int32)) (t6_0 : Int32) (t6_1 : Int32) (t7_0 : (Nat → Int32)) (t8_0 : Int32) (t8_1 : Int32) (t9_0 : (Nat → Int32)) (t10_0 : Int32) (t10_1 : Int32) (t11_0 : (Nat → Int32)) (t12_0 : Int32) (t12_1 : Int32) (t13_0 : (Nat → Int32)) (t14_0 : Int64) (t14_1 : Int32) (t14_2 : Int32) (p111 : (Int64 × Int32 × Int32 × Int32 × Int32 × (Nat → Int32) × Int32 × Int32 × (Nat → Int32) × Int32 × Int32 × (Nat → Int32) × Int32 × Int32 × (Nat → Int32) × Int32 × Int32 × (Nat → Int32))) (y65 : Int32) (y66 : Int32) (f67 : (Nat → Int32)) (y70 : Int32) (y71 : Int32) (f72 : (Nat → Int32)) (y75 : Int32) (y76 : Int32) (f77 : (Nat → Int32)) (y80 : Int32) (y81 : Int32) (f82 : (Nat → Int32)) (y85 : Int32) (y86 : Int32) (f87 : (Nat → Int32)) (y61 : Int64) (y62 : Int32) (y63 : Int32) (p157 : (Int32 × Int32 × (Nat → Int32))) (y144 : Int32) (y145 : Int32) (f146 : (Nat → Int32)) (p203 : (Int32 × (Nat → Int64))) (p222 : (Int32 × (Nat → Int64))) (p241 : (Int32 × (Nat → Int64))) : Prop := True
def S_Wri_writeShort_c97 (A : Int32) (B : Int32) (C : Int32) (x3 : Int64) (t0_0 : Int32) (t1_0 : (Nat → Int64)) (t2_0 : Int32) (t2_1 : Int32) (t3_0 : (Nat → Int32)) (t4_0 : Int32) (t4_1 : Int32) (t5_0 : (Nat → Int32)) (t6_0 : Int32) (t6_1 : Int32) (t7_0 : (Nat → Int32)) (t8_0 : Int32) (t8_1 : Int32) (t9_0 : (Nat → Int32)) (t10_0 : Int32) (t10_1 : Int32) (t11_0 : (Nat → Int32)) (t12_0 : Int32) (t12_1 : Int32) (t13_0 : (Nat → Int32)) (t14_0 : Int64) (t14_1 : Int32) (t14_2 : Int32) (p111 : (Int64 × Int32 × Int32 × Int32 × Int32 × (Nat → Int32) × Int32 × Int32 × (Nat → Int32) × Int32 × Int32 × (Nat → Int32) × Int32 × Int32 × (Nat → Int32) × Int32 × Int32 × (Nat → Int32))) (y65 : Int32) (y66 : Int32) (f67 : (Nat → Int32)) (y70 : Int32) (y71 : Int32) (f72 : (Nat → Int32)) (y75 : Int32) (y76 : Int32) (f77 : (Nat → Int32)) (y80 : Int32) (y81 : Int32) (f82 : (Nat → Int32)) (y85 : Int32) (y86 : Int32) (f87 : (Nat → Int32)) (y61 : Int64) (y62 : Int32) (y63 : Int32) (p157 : (Int32 × Int32 × (Nat → Int32))) (y144 : Int32) (y145 : Int32) (f146 : (Nat → Int32)) (p203 : (Int32 × (Nat → Int64))) (p222 : (Int32 × (Nat → Int64))) : Prop := S_Wri_writeShort_c108 A B C x3 t0_0 t1_0 t2_0 t2_1 t3_0 t4_0 t4_1 t5_0 t6_0 t6_1 t7_0 t8_0 t8_1 t9_0 t10_0 t10_1 t11_0 t12_0 t12_1 t13_0 t14_0 t14_1 t14_2 p111 y65 y66 f67 y70 y71 f72 y75 y76 f77 y80 y81 f82 y85 y86 f87 y61 y62 y63 p157 y144 y145 f146 p203 p222 ((F_Wri_writeSigned y145 (p222.1 : Int32) (p222.2 : (Nat → Int64))) : (Int32 × (Nat → Int64)))
def S_Wri_writeShort_c88 (A : Int32) (B : Int32) (C : Int32) (x3 : Int64) (t0_0 : Int32) (t1_0 : (Nat → Int64)) (t2_0 : Int32) (t2_1 : Int32) (t3_0 : (Nat → Int32)) (t4_0 : Int32) (t4_1 : Int32) (t5_0 : (Nat → Int32)) (t6_0 : Int32) (t6_1 : Int32) (t7_0 : (Nat → Int32)) (t8_0 : Int32) (t8_1 : Int32) (t9_0 : (Nat → Int32)) (t10_0 : Int32) (t10_1 : Int32) (t11_0 : (Nat → Int32)) (t12_0 : Int32) (t12_1 : Int32) (t13_0 : (Nat → Int32)) (t14_0 : Int64) (t14_1 : Int32) (t14_2 : Int32) (p111 : (Int64 × Int32 × Int32 × Int32 × Int32 × (Nat → Int32) × Int32 × Int32 × (Nat → Int32) × Int32 × Int32 × (Nat → Int32) × Int32 × Int32 × (Nat → Int32) × Int32 × Int32 × (Nat → Int32))) (y65 : Int32) (y66 : Int32) (f67 : (Nat → Int32)) (y70 : Int32) (y71 : Int32) (f72 : (Nat → Int32)) (y75 : Int32) (y76 : Int32) (f77 : (Nat → Int32)) (y80 : Int32) (y81 : Int32) (f82 : (Nat → Int32)) (y85 : Int32) (y86 : Int32) (f87 : (Nat → Int32)) (y61 : Int64) (y62 : Int32) (y63 : Int32) (p157 : (Int32 × Int32 × (Nat → Int32))) (y144 : Int32) (y145 : Int32) (f146 : (Nat → Int32)) (p203 : (Int32 × (Nat → Int64))) : Prop := S_Wri_writeShort_c97 A B C x3 t0_0 t1_0 t2_0 t2_1 t3_0 t4_0 t4_1 t5_0 t6_0 t6_1 t7_0 t8_0 t8_1 t9_0 t10_0 t10_1 t11_0 t12_0 t12_1 t13_0 t14_0 t14_1 t14_2 p111 y65 y66 f67 y70 y71 f72 y75 y76 f77 y80 y81 f82 y85 y86 f87 y61 y62 y63 p157 y144 y145 f146 p203 ((F_She_add_p (11008 : Int32) (1376 : Int32) (1000000 : Int32) (69 : Int32) (p203.1 : Int32) (p203.2 : (Nat → Int64))) : (Int32 × (Nat → Int64)))
def S_Wri_writeShort_J68 (A : Int32) (B : Int32) (C : Int32) (x3 : Int64) (t0_0 : Int32) (t1_0 : (Nat → Int64)) (t2_0 : Int32) (t2_1 : Int32) (t3_0 : (Nat → Int32)) (t4_0 : Int32) (t4_1 : Int32) (t5_0 : (Nat → Int32)) (t6_0 : Int32) (t6_1 : Int32) (t7_0 : (Nat → Int32)) (t8_0 : Int32) (t8_1 : Int32) (t9_0 : (Nat → Int32)) (t10_0 : Int32) (t10_1 : Int32) (t11_0 : (Nat → Int32)) (t12_0 : Int32) (t12_1 : Int32) (t13_0 : (Nat → Int32)) (t14_0 : Int64) (t14_1 : Int32) (t14_2 : Int32) (p111 : (Int64 × Int32 × Int32 × Int32 × Int32 × (Nat → Int32) × Int32 × Int32 × (Nat → Int32) × Int32 × Int32 × (Nat → Int32) × Int32 × Int32 × (Nat → Int32) × Int32 × Int32 × (Nat → Int32))) (y65 : Int32) (y66 : Int32) (f67 : (Nat → Int32)) (y70 : Int32) (y71 : Int32) (f72 : (Nat → Int32)) (y75 : Int32) (y76 : Int32) (f77 : (Nat → Int32)) (y80 : Int32) (y81 : Int32) (f82 : (Nat → Int32)) (y85 : Int32) (y86 : Int32) (f87 : (Nat → Int32)) (y61 : Int64) (y62 : Int32) (y63 : Int32) (p157 : (Int32 × Int32 × (Nat → Int32))) (y144 : Int32) (y145 : Int32) (f146 : (Nat → Int32)) : Prop := S_Wri_writeShort_c88 A B C x3 t0_0 t1_0 t2_0 t2_1 t3_0 t4_0 t4_1 t5_0 t6_0 t6_1 t7_0 t8_0 t8_1 t9_0 t10_0 t10_1 t11_0 t12_0 t12_1 t13_0 t14_0 t14_1 t14_2 p111 y65 y66 f67 y70 y71 f72 y75 y76 f77 y80 y81 f82 y85 y86 f87 y61 y62 y63 p157 y144 y145 f146 ((F_Dig_writeHead (11008 : Int32) (1376 : Int32) (1000000 : Int32) (if 2 < y144 then y144 else 2 : Int32) (0 : Int32) y144 y145 f146 t0_0 t1_0) : (Int32 × (Nat → Int64)))
def S_Wri_writeShort_c64 (A : Int32) (B : Int32) (C : Int32) (x3 : Int64) (t0_0 : Int32) (t1_0 : (Nat → Int64)) (t2_0 : Int32) (t2_1 : Int32) (t3_0 : (Nat → Int32)) (t4_0 : Int32) (t4_1 : Int32) (t5_0 : (Nat → Int32)) (t6_0 : Int32) (t6_1 : Int32) (t7_0 : (Nat → Int32)) (t8_0 : Int32) (t8_1 : Int32) (t9_0 : (Nat → Int32)) (t10_0 : Int32) (t10_1 : Int32) (t11_0 : (Nat → Int32)) (t12_0 : Int32) (t12_1 : Int32) (t13_0 : (Nat → Int32)) (t14_0 : Int64) (t14_1 : Int32) (t14_2 : Int32) (p111 : (Int64 × Int32 × Int32 × Int32 × Int32 × (Nat → Int32) × Int32 × Int32 × (Nat → Int32) × Int32 × Int32 × (Nat → Int32) × Int32 × Int32 × (Nat → Int32) × Int32 × Int32 × (Nat → Int32))) (y65 : Int32) (y66 : Int32) (f67 : (Nat → Int32)) (y70 : Int32) (y71 : Int32) (f72 : (Nat → Int32)) (y75 : Int32) (y76 : Int32) (f77 : (Nat → Int32)) (y80 : Int32) (y81 : Int32) (f82 : (Nat → Int32)) (y85 : Int32) (y86 : Int32) (f87 : (Nat → Int32)) (y61 : Int64) (y62 : Int32) (y63 : Int32) (p157 : (Int32 × Int32 × (Nat → Int32))) (y144 : Int32) (y145 : Int32) (f146 : (Nat → Int32)) (p276 : (Int32 × (Nat → Int64))) : Prop := True
def S_Wri_writeShort_c18 (A : Int32) (B : Int32) (C : Int32) (x3 : Int64) (t0_0 : Int32) (t1_0 : (Nat → Int64)) (t2_0 : Int32) (t2_1 : Int32) (t3_0 : (Nat → Int32)) (t4_0 : Int32) (t4_1 : Int32) (t5_0 : (Nat → Int32)) (t6_0 : Int32) (t6_1 : Int32) (t7_0 : (Nat → Int32)) (t8_0 : Int32) (t8_1 : Int32) (t9_0 : (Nat → Int32)) (t10_0 : Int32) (t10_1 : Int32) (t11_0 : (Nat → Int32)) (t12_0 : Int32) (t12_1 : Int32) (t13_0 : (Nat → Int32)) (t14_0 : Int64) (t14_1 : Int32) (t14_2 : Int32) (p111 : (Int64 × Int32 × Int32 × Int32 × Int32 × (Nat → Int32) × Int32 × Int32 × (Nat → Int32) × Int32 × Int32 × (Nat → Int32) × Int32 × Int32 × (Nat → Int32) × Int32 × Int32 × (Nat → Int32))) (y65 : Int32) (y66 : Int32) (f67 : (Nat → Int32)) (y70 : Int32) (y71 : Int32) (f72 : (Nat → Int32)) (y75 : Int32) (y76 : Int32) (f77 : (Nat → Int32)) (y80 : Int32) (y81 : Int32) (f82 : (Nat → Int32)) (y85 : Int32) (y86 : Int32) (f87 : (Nat → Int32)) (y61 : Int64) (y62 : Int32) (y63 : Int32) (p157 : (Int32 × Int32 × (Nat → Int32))) : Prop := if (p157.2.1 : Int32) < (-3 : Int32) then (S_Wri_writeShort_J68 A B C x3 t0_0 t1_0 t2_0 t2_1 t3_0 t4_0 t4_1 t5_0 t6_0 t6_1 t7_0 t8_0 t8_1 t9_0 t10_0 t10_1 t11_0 t12_0 t12_1 t13_0 t14_0 t14_1 t14_2 p111 y65 y66 f67 y70 y71 f72 y75 y76 f77 y80 y81 f82 y85 y86 f87 y61 y62 y63 p157 (p157.1 : Int32) (p157.2.1 : Int32) (p157.2.2 : (Nat → Int32))) else (if (7 : Int32) ≤ (p157.2.1 : Int32) then (S_Wri_writeShort_J68 A B C x3 t0_0 t1_0 t2_0 t2_1 t3_0 t4_0 t4_1 t5_0 t6_0 t6_1 t7_0 t8_0 t8_1 t9_0 t10_0 t10_1 t11_0 t12_0 t12_1 t13_0 t14_0 t14_1 t14_2 p111 y65 y66 f67 y70 y71 f72 y75 y76 f77 y80 y81 f82 y85 y86 f87 y61 y62 y63 p157 (p157.1 : Int32) (p157.2.1 : Int32) (p157.2.2 : (Nat → Int32))) else (((if 1 < (-y62 : Int32) then (-y62 : Int32) else 1 : Int32).toInt ≤ 20000) ∧ (S_Wri_writeShort_c64 A B C x3 t0_0 t1_0 t2_0 t2_1 t3_0 t4_0 t4_1 t5_0 t6_0 t6_1 t7_0 t8_0 t8_1 t9_0 t10_0 t10_1 t11_0 t12_0 t12_1 t13_0 t14_0 t14_1 t14_2 p111 y65 y66 f67 y70 y71 f72 y75 y76 f77 y80 y81 f82 y85 y86 f87 y61 y62 y63 p157 (p157.1 : Int32) (p157.2.1 : Int32) (p157.2.2 : (Nat → Int32)) ((F_Dig_writePlain (11008 : Int32) (1376 : Int32) (1000000 : Int32) (if 1 < (-y62 : Int32) then (-y62 : Int32) else 1 : Int32) (0 : Int32) (0 : Int32) (p157.1 : Int32) (p157.2.1 : Int32) (p157.2.2 : (Nat → Int32)) t0_0 t1_0) : (Int32 × (Nat → Int64))))))
def S_Wri_writeShort_c2 (A : Int32) (B : Int32) (C : Int32) (x3 : Int64) (t0_0 : Int32) (t1_0 : (Nat → Int64)) (t2_0 : Int32) (t2_1 : Int32) (t3_0 : (Nat → Int32)) (t4_0 : Int32) (t4_1 : Int32) (t5_0 : (Nat → Int32)) (t6_0 : Int32) (t6_1 : Int32) (t7_0 : (Nat → Int32)) (t8_0 : Int32) (t8_1 : Int32) (t9_0 : (Nat → Int32)) (t10_0 : Int32) (t10_1 : Int32) (t11_0 : (Nat → Int32)) (t12_0 : Int32) (t12_1 : Int32) (t13_0 : (Nat → Int32)) (t14_0 : Int64) (t14_1 : Int32) (t14_2 : Int32) (p111 : (Int64 × Int32 × Int32 × Int32 × Int32 × (Nat → Int32) × Int32 × Int32 × (Nat → Int32) × Int32 × Int32 × (Nat → Int32) × Int32 × Int32 × (Nat → Int32) × Int32 × Int32 × (Nat → Int32))) : Prop := (0 ≤ (-(p111.2.1 : Int32) : Int32).toInt + 20000) ∧ (((-(p111.2.1 : Int32) : Int32).toInt ≤ 20000) ∧ (S_Wri_writeShort_c18 A B C x3 t0_0 t1_0 t2_0 t2_1 t3_0 t4_0 t4_1 t5_0 t6_0 t6_1 t7_0 t8_0 t8_1 t9_0 t10_0 t10_1 t11_0 t12_0 t12_1 t13_0 t14_0 t14_1 t14_2 p111 (p111.2.2.2.1 : Int32) (p111.2.2.2.2.1 : Int32) (p111.2.2.2.2.2.1 : (Nat → Int32)) (p111.2.2.2.2.2.2.1 : Int32) (p111.2.2.2.2.2.2.2.1 : Int32) (p111.2.2.2.2.2.2.2.2.1 : (Nat → Int32)) (p111.2.2.2.2.2.2.2.2.2.1 : Int32) (p111.2.2.2.2.2.2.2.2.2.2.1 : Int32) (p111.2.2.2.2.2.2.2.2.2.2.2.1 : (Nat → Int32)) (p111.2.2.2.2.2.2.2.2.2.2.2.2.1 : Int32) (p111.2.2.2.2.2.2.2.2.2.2.2.2.2.1 : Int32) (p111.2.2.2.2.2.2.2.2.2.2.2.2.2.2.1 : (Nat → Int32)) (p111.2.2.2.2.2.2.2.2.2.2.2.2.2.2.2.1 : Int32) (p111.2.2.2.2.2.2.2.2.2.2.2.2.2.2.2.2.1 : Int32) (p111.2.2.2.2.2.2.2.2.2.2.2.2.2.2.2.2.2 : (Nat → Int32)) (p111.1 : Int64) (p111.2.1 : Int32) (p111.2.2.1 : Int32) ((F_Dig_fillLong (p111.1 : Int64) (-(p111.2.1 : Int32) : Int32) t2_0 t2_1 t3_0) : (Int32 × Int32 × (Nat → Int32)))))
def S_Wri_writeShort (A : Int32) (B : Int32) (C : Int32) (x3 : Int64) (t0_0 : Int32) (t1_0 : (Nat → Int64)) (t2_0 : Int32) (t2_1 : Int32) (t3_0 : (Nat → Int32)) (t4_0 : Int32) (t4_1 : Int32) (t5_0 : (Nat → Int32)) (t6_0 : Int32) (t6_1 : Int32) (t7_0 : (Nat → Int32)) (t8_0 : Int32) (t8_1 : Int32) (t9_0 : (Nat → Int32)) (t10_0 : Int32) (t10_1 : Int32) (t11_0 : (Nat → Int32)) (t12_0 : Int32) (t12_1 : Int32) (t13_0 : (Nat → Int32)) (t14_0 : Int64) (t14_1 : Int32) (t14_2 : Int32) : Prop := S_Wri_writeShort_c2 A B C x3 t0_0 t1_0 t2_0 t2_1 t3_0 t4_0 t4_1 t5_0 t6_0 t6_1 t7_0 t8_0 t8_1 t9_0 t10_0 t10_1 t11_0 t12_0 t12_1 t13_0 t14_0 t14_1 t14_2 ((F_Flo_findShortest A B C x3 t14_0 t14_1 t14_2 t4_0 t4_1 t5_0 t6_0 t6_1 t7_0 t8_0 t8_1 t9_0 t10_0 t10_1 t11_0 t12_0 t12_1 t13_0) : (Int64 × Int32 × Int32 × Int32 × Int32 × (Nat → Int32) × Int32 × Int32 × (Nat → Int32) × Int32 × Int32 × (Nat → Int32) × Int32 × Int32 × (Nat → Int32) × Int32 × Int32 × (Nat → Int32)))
set_option maxRecDepth 100000 in
set_option maxHeartbeats 4000000 in
theorem X_Wri_writeShort (l : Launch) (D : va_G) (g : Nat → ClassId) (q : Nat → Nat) (ws : va_W) (k2 : Nat) (A B C : Int32) (hB2 : q_isFlo (nsh g q) q k2 A B C) (x3 : Int64) (hI : q_I (nsh g q) q ws) (t0_0 : Int32) (hT0 : ws[3]? = (some (q 3, .inr (1, [.ref (q 4), .int 11008, .int t0_0])) : Option (Nat × va_E))) (t1_0 : (Nat → Int64)) (hT1 : ws[4]? = (some (q 4, .inl (g 1, (1376 : Int32).toNatClampNeg, .inr (.inl t1_0))) : Option (Nat × va_E))) (t2_0 : Int32) (t2_1 : Int32) (hT2 : ws[36]? = (some (q 36, .inr (7, [.int t2_0, .int t2_1, .ref (q 37)])) : Option (Nat × va_E))) (t3_0 : (Nat → Int32)) (hT3 : ws[37]? = (some (q 37, .inl (g 2, 1026, .inl t3_0)) : Option (Nat × va_E))) (t4_0 : Int32) (t4_1 : Int32) (hT4 : ws[10]? = (some (q 10, .inr (2, [.ref (q 11), .int t4_0, .int t4_1])) : Option (Nat × va_E))) (t5_0 : (Nat → Int32)) (hT5 : ws[11]? = (some (q 11, .inl (g 0, (220 : Int32).toNatClampNeg, .inl t5_0)) : Option (Nat × va_E))) (t6_0 : Int32) (t6_1 : Int32) (hT6 : ws[22]? = (some (q 22, .inr (2, [.ref (q 23), .int t6_0, .int t6_1])) : Option (Nat × va_E))) (t7_0 : (Nat → Int32)) (hT7 : ws[23]? = (some (q 23, .inl (g 0, (220 : Int32).toNatClampNeg, .inl t7_0)) : Option (Nat × va_E))) (t8_0 : Int32) (t8_1 : Int32) (hT8 : ws[24]? = (some (q 24, .inr (2, [.ref (q 25), .int t8_0, .int t8_1])) : Option (Nat × va_E))) (t9_0 : (Nat → Int32)) (hT9 : ws[25]? = (some (q 25, .inl (g 0, (220 : Int32).toNatClampNeg, .inl t9_0)) : Option (Nat × va_E))) (t10_0 : Int32) (t10_1 : Int32) (hT10 : ws[26]? = (some (q 26, .inr (2, [.ref (q 27), .int t10_0, .int t10_1])) : Option (Nat × va_E))) (t11_0 : (Nat → Int32)) (hT11 : ws[27]? = (some (q 27, .inl (g 0, (220 : Int32).toNatClampNeg, .inl t11_0)) : Option (Nat × va_E))) (t12_0 : Int32) (t12_1 : Int32) (hT12 : ws[28]? = (some (q 28, .inr (2, [.ref (q 29), .int t12_0, .int t12_1])) : Option (Nat × va_E))) (t13_0 : (Nat → Int32)) (hT13 : ws[29]? = (some (q 29, .inl (g 0, (220 : Int32).toNatClampNeg, .inl t13_0)) : Option (Nat × va_E))) (t14_0 : Int64) (t14_1 : Int32) (t14_2 : Int32) (hT14 : ws[k2]? = (some (q k2, .inr (6, [.int A, .int B, .int C, .long t14_0, .int t14_1, .ref (q 9), .int t14_2])) : Option (Nat × va_E))) (pre0 : t0_0.toInt ≤ 10) (hS : True ∧ S_Wri_writeShort A B C x3 t0_0 t1_0 t2_0 t2_1 t3_0 t4_0 t4_1 t5_0 t6_0 t6_1 t7_0 t8_0 t8_1 t9_0 t10_0 t10_1 t11_0 t12_0 t12_1 t13_0 t14_0 t14_1 t14_2) : q_mV l y_Wri_writeShort prog_12_method_7_code 4 6 0 0 D g [.ref (q 39), .ref (q k2), .long x3] ws (fun u => q_I (nsh g q) q u ∧ q_un ws u [3, 4, 10, 11, 22, 23, 24, 25, 26, 27, 28, 29, 36, 37, k2] ∧ ∃ (u0_0 : Int32) (u1_0 : (Nat → Int64)) (u2_0 : Int32) (u2_1 : Int32) (u3_0 : (Nat → Int32)) (u4_0 : Int32) (u4_1 : Int32) (u5_0 : (Nat → Int32)) (u6_0 : Int32) (u6_1 : Int32) (u7_0 : (Nat → Int32)) (u8_0 : Int32) (u8_1 : Int32) (u9_0 : (Nat → Int32)) (u10_0 : Int32) (u10_1 : Int32) (u11_0 : (Nat → Int32)) (u12_0 : Int32) (u12_1 : Int32) (u13_0 : (Nat → Int32)) (u14_0 : Int64) (u14_1 : Int32) (u14_2 : Int32), u[3]? = (some (q 3, .inr (1, [.ref (q 4), .int 11008, .int u0_0])) : Option (Nat × va_E)) ∧ u[4]? = (some (q 4, .inl (g 1, (1376 : Int32).toNatClampNeg, .inr (.inl u1_0))) : Option (Nat × va_E)) ∧ u[36]? = (some (q 36, .inr (7, [.int u2_0, .int u2_1, .ref (q 37)])) : Option (Nat × va_E)) ∧ u[37]? = (some (q 37, .inl (g 2, 1026, .inl u3_0)) : Option (Nat × va_E)) ∧ u[10]? = (some (q 10, .inr (2, [.ref (q 11), .int u4_0, .int u4_1])) : Option (Nat × va_E)) ∧ u[11]? = (some (q 11, .inl (g 0, (220 : Int32).toNatClampNeg, .inl u5_0)) : Option (Nat × va_E)) ∧ u[22]? = (some (q 22, .inr (2, [.ref (q 23), .int u6_0, .int u6_1])) : Option (Nat × va_E)) ∧ u[23]? = (some (q 23, .inl (g 0, (220 : Int32).toNatClampNeg, .inl u7_0)) : Option (Nat × va_E)) ∧ u[24]? = (some (q 24, .inr (2, [.ref (q 25), .int u8_0, .int u8_1])) : Option (Nat × va_E)) ∧ u[25]? = (some (q 25, .inl (g 0, (220 : Int32).toNatClampNeg, .inl u9_0)) : Option (Nat × va_E)) ∧ u[26]? = (some (q 26, .inr (2, [.ref (q 27), .int u10_0, .int u10_1])) : Option (Nat × va_E)) ∧ u[27]? = (some (q 27, .inl (g 0, (220 : Int32).toNatClampNeg, .inl u11_0)) : Option (Nat × va_E)) ∧ u[28]? = (some (q 28, .inr (2, [.ref (q 29), .int u12_0, .int u12_1])) : Option (Nat × va_E)) ∧ u[29]? = (some (q 29, .inl (g 0, (220 : Int32).toNatClampNeg, .inl u13_0)) : Option (Nat × va_E)) ∧ u[k2]? = (some (q k2, .inr (6, [.int A, .int B, .int C, .long u14_0, .int u14_1, .ref (q 9), .int u14_2])) : Option (Nat × va_E)) ∧ (2 ≤ u0_0.toInt) ∧ (0 ≤ u2_0.toInt) ∧ (u2_0.toInt ≤ 20) ∧ (0 ≤ u2_1.toInt + 20000) ∧ (u2_1.toInt ≤ 20019) ∧ (0 ≤ u4_0.toInt) ∧ (u4_0.toInt ≤ 220) ∧ (0 ≤ u4_1.toInt) ∧ (u4_1.toInt ≤ 21) ∧ (0 ≤ u6_0.toInt) ∧ (u6_0.toInt ≤ 220) ∧ (0 ≤ u6_1.toInt) ∧ (u6_1.toInt ≤ 2) ∧ (0 ≤ u8_0.toInt) ∧ (u8_0.toInt ≤ 220) ∧ (0 ≤ u8_1.toInt) ∧ (u8_1.toInt ≤ 1) ∧ (0 ≤ u10_0.toInt) ∧ (u10_0.toInt ≤ 220) ∧ (0 ≤ u10_1.toInt) ∧ (u10_1.toInt ≤ 1) ∧ (0 ≤ u12_0.toInt) ∧ (u12_0.toInt ≤ 220) ∧ (0 ≤ u12_1.toInt) ∧ (t0_0.toInt + 1 ≤ u0_0.toInt) ∧ (u0_0.toInt ≤ t0_0.toInt + 420003) ∧ (u4_1.toInt ≤ t4_1.toInt + 20) ∧ (u6_1.toInt ≤ t4_1.toInt + 1) ∧ (u2_1.toInt ≤ u0_0.toInt + 19998) ∧ (u2_1.toInt ≤ u2_0.toInt + 19999) ∧ (u2_0.toInt ≤ u2_1.toInt + 20001) ∧ (u6_1.toInt ≤ u4_1.toInt + 1) ∧ (u0_0, u1_0, u2_0, u2_1, u3_0, u4_0, u4_1, u5_0, u6_0, u6_1, u7_0, u8_0, u8_1, u9_0, u10_0, u10_1, u11_0, u12_0, u12_1, u13_0, u14_0, u14_1, u14_2) = (F_Wri_writeShort A B C x3 t0_0 t1_0 t2_0 t2_1 t3_0 t4_0 t4_1 t5_0 t6_0 t6_1 t7_0 t8_0 t8_1 t9_0 t10_0 t10_1 t11_0 t12_0 t12_1 t13_0 t14_0 t14_1 t14_2)) := by
  intro sz
  refine q_into (by decide) (Nat.le_of_ble_eq_true rfl) ?_
  intro p e s m below meth c ls hsz C0 V hl
  have hx := C0.1
  have hb := C0.2.1
  have btt0_0 := n_shW hI (n_h3 g q) hT0
  clear btt0_0
  have btt2_1 := (n_w36 hI hT2).2
  clear btt2_1
  have btt4_1 := (q_bigW hI (n_b10 g q) hT4).2
  replace btt4_1 : q_F (0 ≤ t4_1.toInt ∧ t4_1.toInt ≤ 1) := btt4_1
  have btt6_1 := (q_bigW hI (n_b22 g q) hT6).2
  clear btt6_1
  have btt8_1 := (q_bigW hI (n_b24 g q) hT8).2
  clear btt8_1
  have btt10_1 := (q_bigW hI (n_b26 g q) hT10).2
  clear btt10_1
  have btt12_1 := (q_bigW hI (n_b28 g q) hT12).2
  clear btt12_1
  replace pre0 : q_F (t0_0.toInt ≤ 10) := pre0
  have hF : q_un ws ws [3, 4, 10, 11, 22, 23, 24, 25, 26, 27, 28, 29, 36, 37, k2] := q_u0
  have hl : lv_has ls 4 [(0, .ref (q 39)), (1, .ref (q k2)), (2, .long x3)] := hl
  refine lv_aload_n hx hb d_12_7_0 rfl (lv_at hl 1 rfl) ?_
  refine lv_lload_n hx hb d_12_7_1 rfl (lv_at hl 2 rfl) ?_
  refine q_gov V (q_runV (As := [.long x3]) (rest := []) (d := 5) (mc := 0) (ms := 0) (ci := 6) C0 V rfl LV_Wri_152 (X_Flo_findShortest l D g q ws k2 A B C hB2 x3 hI t14_0 t14_1 t14_2 hT14 t4_0 t4_1 hT4 t5_0 hT5 t6_0 t6_1 hT6 t7_0 hT7 t8_0 t8_1 hT8 t9_0 hT9 t10_0 t10_1 hT10 t11_0 hT11 t12_0 t12_1 hT12 t13_0 hT13  _) rfl rfl hT14 rfl hl.1 rfl (Nat.le_of_ble_eq_true rfl) ⟨by decide, by decide⟩ ⟨Nat.le_of_ble_eq_true rfl, Nat.le_of_ble_eq_true rfl⟩ d_12_7_2) (fun u58 H locs hp59 V => ?_)
  obtain ⟨hI, hZ9⟩ := hp59
  obtain ⟨hu110, hZ9⟩ := hZ9
  obtain ⟨y61, hZ9⟩ := hZ9
  obtain ⟨y62, hZ9⟩ := hZ9
  obtain ⟨y63, hZ9⟩ := hZ9
  obtain ⟨y65, hZ9⟩ := hZ9
  obtain ⟨y66, hZ9⟩ := hZ9
  obtain ⟨f67, hZ9⟩ := hZ9
  obtain ⟨y70, hZ9⟩ := hZ9
  obtain ⟨y71, hZ9⟩ := hZ9
  obtain ⟨f72, hZ9⟩ := hZ9
  obtain ⟨y75, hZ9⟩ := hZ9
  obtain ⟨y76, hZ9⟩ := hZ9
  obtain ⟨f77, hZ9⟩ := hZ9
  obtain ⟨y80, hZ9⟩ := hZ9
  obtain ⟨y81, hZ9⟩ := hZ9
  obtain ⟨f82, hZ9⟩ := hZ9
  obtain ⟨y85, hZ9⟩ := hZ9
  obtain ⟨y86, hZ9⟩ := hZ9
  obtain ⟨f87, hZ9⟩ := hZ9
  obtain ⟨hO60, hZ9⟩ := hZ9
  obtain ⟨hO64, hZ9⟩ := hZ9
  obtain ⟨hA68, hZ9⟩ := hZ9
  obtain ⟨hO69, hZ9⟩ := hZ9
  obtain ⟨hA73, hZ9⟩ := hZ9
  obtain ⟨hO74, hZ9⟩ := hZ9
  obtain ⟨hA78, hZ9⟩ := hZ9
  obtain ⟨hO79, hZ9⟩ := hZ9
  obtain ⟨hA83, hZ9⟩ := hZ9
  obtain ⟨hO84, hZ9⟩ := hZ9
  obtain ⟨hA88, hZ9⟩ := hZ9
  obtain ⟨b89, hZ9⟩ := hZ9
  obtain ⟨b90, hZ9⟩ := hZ9
  obtain ⟨b91, hZ9⟩ := hZ9
  obtain ⟨b92, hZ9⟩ := hZ9
  obtain ⟨b93, hZ9⟩ := hZ9
  obtain ⟨b94, hZ9⟩ := hZ9
  obtain ⟨b95, hZ9⟩ := hZ9
  obtain ⟨b96, hZ9⟩ := hZ9
  obtain ⟨b97, hZ9⟩ := hZ9
  obtain ⟨b98, hZ9⟩ := hZ9
  obtain ⟨b99, hZ9⟩ := hZ9
  obtain ⟨b100, hZ9⟩ := hZ9
  obtain ⟨b101, hZ9⟩ := hZ9
  obtain ⟨b102, hZ9⟩ := hZ9
  obtain ⟨b103, hZ9⟩ := hZ9
  obtain ⟨b104, hZ9⟩ := hZ9
  obtain ⟨b105, hZ9⟩ := hZ9
  obtain ⟨b106, hZ9⟩ := hZ9
  obtain ⟨b107, hZ9⟩ := hZ9
  obtain ⟨b108, hE109⟩ := hZ9
  replace hO60 : u58[k2]? = (some (q k2, .inr (6, [.int A, .int B, .int C, .long y61, .int y62, .ref (q 9), .int y63])) : Option (Nat × va_E)) := hO60
  replace hO64 : u58[10]? = (some (q 10, .inr (2, [.ref (q 11), .int y65, .int y66])) : Option (Nat × va_E)) := hO64
  replace hA68 : u58[11]? = (some (q 11, .inl (g 0, (220 : Int32).toNatClampNeg, .inl f67)) : Option (Nat × va_E)) := hA68
  replace hO69 : u58[22]? = (some (q 22, .inr (2, [.ref (q 23), .int y70, .int y71])) : Option (Nat × va_E)) := hO69
  replace hA73 : u58[23]? = (some (q 23, .inl (g 0, (220 : Int32).toNatClampNeg, .inl f72)) : Option (Nat × va_E)) := hA73
  replace hO74 : u58[24]? = (some (q 24, .inr (2, [.ref (q 25), .int y75, .int y76])) : Option (Nat × va_E)) := hO74
  replace hA78 : u58[25]? = (some (q 25, .inl (g 0, (220 : Int32).toNatClampNeg, .inl f77)) : Option (Nat × va_E)) := hA78
  replace hO79 : u58[26]? = (some (q 26, .inr (2, [.ref (q 27), .int y80, .int y81])) : Option (Nat × va_E)) := hO79
  replace hA83 : u58[27]? = (some (q 27, .inl (g 0, (220 : Int32).toNatClampNeg, .inl f82)) : Option (Nat × va_E)) := hA83
  replace hO84 : u58[28]? = (some (q 28, .inr (2, [.ref (q 29), .int y85, .int y86])) : Option (Nat × va_E)) := hO84
  replace hA88 : u58[29]? = (some (q 29, .inl (g 0, (220 : Int32).toNatClampNeg, .inl f87)) : Option (Nat × va_E)) := hA88
  obtain ⟨p111, e112⟩ : ∃ z, z = (F_Flo_findShortest A B C x3 t14_0 t14_1 t14_2 t4_0 t4_1 t5_0 t6_0 t6_1 t7_0 t8_0 t8_1 t9_0 t10_0 t10_1 t11_0 t12_0 t12_1 t13_0) := ⟨_, rfl⟩
  have e113 : y61 = p111.1 := congrArg (fun z => z.1) (hE109.trans e112.symm)
  have e114 : y62 = p111.2.1 := congrArg (fun z => z.2.1) (hE109.trans e112.symm)
  have e115 : y63 = p111.2.2.1 := congrArg (fun z => z.2.2.1) (hE109.trans e112.symm)
  have e116 : y65 = p111.2.2.2.1 := congrArg (fun z => z.2.2.2.1) (hE109.trans e112.symm)
  have e117 : y66 = p111.2.2.2.2.1 := congrArg (fun z => z.2.2.2.2.1) (hE109.trans e112.symm)
  have e118 : f67 = p111.2.2.2.2.2.1 := congrArg (fun z => z.2.2.2.2.2.1) (hE109.trans e112.symm)
  have e119 : y70 = p111.2.2.2.2.2.2.1 := congrArg (fun z => z.2.2.2.2.2.2.1) (hE109.trans e112.symm)
  have e120 : y71 = p111.2.2.2.2.2.2.2.1 := congrArg (fun z => z.2.2.2.2.2.2.2.1) (hE109.trans e112.symm)
  have e121 : f72 = p111.2.2.2.2.2.2.2.2.1 := congrArg (fun z => z.2.2.2.2.2.2.2.2.1) (hE109.trans e112.symm)
  have e122 : y75 = p111.2.2.2.2.2.2.2.2.2.1 := congrArg (fun z => z.2.2.2.2.2.2.2.2.2.1) (hE109.trans e112.symm)
  have e123 : y76 = p111.2.2.2.2.2.2.2.2.2.2.1 := congrArg (fun z => z.2.2.2.2.2.2.2.2.2.2.1) (hE109.trans e112.symm)
  have e124 : f77 = p111.2.2.2.2.2.2.2.2.2.2.2.1 := congrArg (fun z => z.2.2.2.2.2.2.2.2.2.2.2.1) (hE109.trans e112.symm)
  have e125 : y80 = p111.2.2.2.2.2.2.2.2.2.2.2.2.1 := congrArg (fun z => z.2.2.2.2.2.2.2.2.2.2.2.2.1) (hE109.trans e112.symm)
  have e126 : y81 = p111.2.2.2.2.2.2.2.2.2.2.2.2.2.1 := congrArg (fun z => z.2.2.2.2.2.2.2.2.2.2.2.2.2.1) (hE109.trans e112.symm)
  have e127 : f82 = p111.2.2.2.2.2.2.2.2.2.2.2.2.2.2.1 := congrArg (fun z => z.2.2.2.2.2.2.2.2.2.2.2.2.2.2.1) (hE109.trans e112.symm)
  have e128 : y85 = p111.2.2.2.2.2.2.2.2.2.2.2.2.2.2.2.1 := congrArg (fun z => z.2.2.2.2.2.2.2.2.2.2.2.2.2.2.2.1) (hE109.trans e112.symm)
  have e129 : y86 = p111.2.2.2.2.2.2.2.2.2.2.2.2.2.2.2.2.1 := congrArg (fun z => z.2.2.2.2.2.2.2.2.2.2.2.2.2.2.2.2.1) (hE109.trans e112.symm)
  have e130 : f87 = p111.2.2.2.2.2.2.2.2.2.2.2.2.2.2.2.2.2 := congrArg (fun z => z.2.2.2.2.2.2.2.2.2.2.2.2.2.2.2.2.2) (hE109.trans e112.symm)
  replace b89 : q_F (0 ≤ y65.toInt) := b89
  replace b90 : q_F (y65.toInt ≤ 220) := b90
  replace b91 : q_F (0 ≤ y66.toInt) := b91
  replace b92 : q_F (0 ≤ y70.toInt) := b92
  replace b93 : q_F (y70.toInt ≤ 220) := b93
  replace b94 : q_F (0 ≤ y71.toInt) := b94
  replace b95 : q_F (0 ≤ y75.toInt) := b95
  replace b96 : q_F (y75.toInt ≤ 220) := b96
  replace b97 : q_F (0 ≤ y76.toInt) := b97
  replace b98 : q_F (y76.toInt ≤ 1) := b98
  replace b99 : q_F (0 ≤ y80.toInt) := b99
  replace b100 : q_F (y80.toInt ≤ 220) := b100
  replace b101 : q_F (0 ≤ y81.toInt) := b101
  replace b102 : q_F (y81.toInt ≤ 1) := b102
  replace b103 : q_F (0 ≤ y85.toInt) := b103
  replace b104 : q_F (y85.toInt ≤ 220) := b104
  replace b105 : q_F (0 ≤ y86.toInt) := b105
  replace b106 : q_F (y66.toInt ≤ t4_1.toInt + 20) := b106
  replace b107 : q_F (y71.toInt ≤ t4_1.toInt + 1) := b107
  replace b108 : q_F (y71.toInt ≤ y66.toInt + 1) := b108
  replace hT0 := (hu110 _ (by have z0 := hB2.2.2.2.2; simp only [List.mem_cons, List.not_mem_nil, or_false, not_or]; omega)).trans hT0
  replace hT1 := (hu110 _ (by have z0 := hB2.2.2.2.2; simp only [List.mem_cons, List.not_mem_nil, or_false, not_or]; omega)).trans hT1
  replace hT2 := (hu110 _ (by have z0 := hB2.2.2.2.2; simp only [List.mem_cons, List.not_mem_nil, or_false, not_or]; omega)).trans hT2
  replace hT3 := (hu110 _ (by have z0 := hB2.2.2.2.2; simp only [List.mem_cons, List.not_mem_nil, or_false, not_or]; omega)).trans hT3
  replace hF := q_uc hF hu110 (by first | exact (q_sk (q_mi 2 rfl) (q_sk (q_mi 3 rfl) (q_sk (q_mi 4 rfl) (q_sk (q_mi 5 rfl) (q_sk (q_mi 6 rfl) (q_sk (q_mi 7 rfl) (q_sk (q_mi 8 rfl) (q_sk (q_mi 9 rfl) (q_sk (q_mi 10 rfl) (q_sk (q_mi 11 rfl) (q_sk (q_mi 14 rfl) q_s0))))))))))) | simp)
  have hR131 := (show F_Wri_writeShort_c2 A B C x3 t0_0 t1_0 t2_0 t2_1 t3_0 t4_0 t4_1 t5_0 t6_0 t6_1 t7_0 t8_0 t8_1 t9_0 t10_0 t10_1 t11_0 t12_0 t12_1 t13_0 t14_0 t14_1 t14_2 p111 = (F_Wri_writeShort A B C x3 t0_0 t1_0 t2_0 t2_1 t3_0 t4_0 t4_1 t5_0 t6_0 t6_1 t7_0 t8_0 t8_1 t9_0 t10_0 t10_1 t11_0 t12_0 t12_1 t13_0 t14_0 t14_1 t14_2) from (by rw [e112, F_Wri_writeShort.eq_1]))
  have hS132 := (show True ∧ S_Wri_writeShort_c2 A B C x3 t0_0 t1_0 t2_0 t2_1 t3_0 t4_0 t4_1 t5_0 t6_0 t6_1 t7_0 t8_0 t8_1 t9_0 t10_0 t10_1 t11_0 t12_0 t12_1 t13_0 t14_0 t14_1 t14_2 p111 from (by rw [e112]; have h := hS; rw [S_Wri_writeShort.eq_1] at h; with_reducible exact h))
  refine lv_aload_n hx hb d_12_7_5 rfl (lv_at hl 0 rfl) ?_
  have hO136 := n_o39 hI
  refine q_get (ci := 9) (j := 2) (v := .ref (q 36)) C0 V i_Wri rfl rfl hO136 (by decide) w_331 rfl d_12_7_6 ?_
  refine lv_aload_n hx hb d_12_7_9 rfl (lv_at hl 1 rfl) ?_
  refine q_get (ci := 6) (j := 3) (v := .long y61) C0 V i_Flo rfl rfl hO60 (by decide) w_236 rfl d_12_7_10 ?_
  refine lv_aload_n hx hb d_12_7_13 rfl (lv_at hl 1 rfl) ?_
  refine q_get (ci := 6) (j := 4) (v := .int y62) C0 V i_Flo rfl rfl hO60 (by decide) w_239 rfl d_12_7_14 ?_
  refine lv_ineg hx hb d_12_7_17 ?_
  obtain ⟨a137, e138⟩ := q_nm (-y62 : Int32)
  refine q_ti (v := a137) e138 ?_
  have ob139 : q_F (0 ≤ a137.toInt + 20000) := (by rw [← e138, e114]; have h := hS132; rw [S_Wri_writeShort_c2.eq_1] at h; exact h.2.1)
  have ob140 : q_F (a137.toInt ≤ 20000) := (by rw [← e138, e114]; have h := hS132; rw [S_Wri_writeShort_c2.eq_1] at h; replace h := q_s2 h; exact h.2.1)
  refine q_gov V (q_runV (As := [.long y61, .int a137]) (rest := []) (d := 2) (mc := 0) (ms := 0) (ci := 7) C0 V rfl LV_Wri_163 (X_Dig_fillLong l D g q u58  y61 a137 hI t2_0 t2_1 hT2 t3_0 hT3 (by first | with_reducible exact q_fe ob139 | (have t1 : 0 ≤ a137.toInt + 20000 := ob139; omega)) (by first | with_reducible exact q_fe ob140 | (have t1 : a137.toInt ≤ 20000 := ob140; omega)) _) rfl rfl hT2 rfl hl.1 rfl (Nat.le_of_ble_eq_true rfl) ⟨by decide, by decide⟩ ⟨Nat.le_of_ble_eq_true rfl, Nat.le_of_ble_eq_true rfl⟩ d_12_7_18) (fun u141 H locs hp142 V => ?_)
  obtain ⟨hI, hZ9⟩ := hp142
  obtain ⟨hu156, hZ9⟩ := hZ9
  obtain ⟨y144, hZ9⟩ := hZ9
  obtain ⟨y145, hZ9⟩ := hZ9
  obtain ⟨f146, hZ9⟩ := hZ9
  obtain ⟨hO143, hZ9⟩ := hZ9
  obtain ⟨hA147, hZ9⟩ := hZ9
  obtain ⟨b148, hZ9⟩ := hZ9
  obtain ⟨b149, hZ9⟩ := hZ9
  obtain ⟨b150, hZ9⟩ := hZ9
  obtain ⟨b151, hZ9⟩ := hZ9
  obtain ⟨b152, hZ9⟩ := hZ9
  replace hZ9 := hZ9.2
  obtain ⟨-, hE155⟩ := hZ9
  replace hO143 : u141[36]? = (some (q 36, .inr (7, [.int y144, .int y145, .ref (q 37)])) : Option (Nat × va_E)) := hO143
  replace hA147 : u141[37]? = (some (q 37, .inl (g 2, 1026, .inl f146)) : Option (Nat × va_E)) := hA147
  obtain ⟨p157, e158⟩ : ∃ z, z = (F_Dig_fillLong y61 a137 t2_0 t2_1 t3_0) := ⟨_, rfl⟩
  have e159 : y144 = p157.1 := congrArg (fun z => z.1) (hE155.trans e158.symm)
  have e160 : y145 = p157.2.1 := congrArg (fun z => z.2.1) (hE155.trans e158.symm)
  have e161 : f146 = p157.2.2 := congrArg (fun z => z.2.2) (hE155.trans e158.symm)
  replace b148 : q_F (0 ≤ y144.toInt) := b148
  replace b149 : q_F (y144.toInt ≤ 20) := b149
  replace b150 : q_F (0 ≤ y145.toInt + 20000) := b150
  replace b151 : q_F (y145.toInt ≤ y144.toInt + 19999) := b151
  replace b152 : q_F (y144.toInt ≤ y145.toInt + 20001) := b152
  replace hT0 := (hu156 _ (by decide)).trans hT0
  replace hT1 := (hu156 _ (by decide)).trans hT1
  replace hO64 := (hu156 _ (by decide)).trans hO64
  replace hA68 := (hu156 _ (by decide)).trans hA68
  replace hO69 := (hu156 _ (by decide)).trans hO69
  replace hA73 := (hu156 _ (by decide)).trans hA73
  replace hO74 := (hu156 _ (by decide)).trans hO74
  replace hA78 := (hu156 _ (by decide)).trans hA78
  replace hO79 := (hu156 _ (by decide)).trans hO79
  replace hA83 := (hu156 _ (by decide)).trans hA83
  replace hO84 := (hu156 _ (by decide)).trans hO84
  replace hA88 := (hu156 _ (by decide)).trans hA88
  replace hO60 := (hu156 _ (by have z0 := hB2.2.2.2.2; simp only [List.mem_cons, List.not_mem_nil, or_false, not_or]; omega)).trans hO60
  replace hO136 := (hu156 _ (by decide)).trans hO136
  replace hF := q_uc hF hu156 (by first | exact (q_sk (q_mi 12 rfl) (q_sk (q_mi 13 rfl) q_s0)) | simp)
  have hR162 := (show F_Wri_writeShort_c18 A B C x3 t0_0 t1_0 t2_0 t2_1 t3_0 t4_0 t4_1 t5_0 t6_0 t6_1 t7_0 t8_0 t8_1 t9_0 t10_0 t10_1 t11_0 t12_0 t12_1 t13_0 t14_0 t14_1 t14_2 p111 y65 y66 f67 y70 y71 f72 y75 y76 f77 y80 y81 f82 y85 y86 f87 y61 y62 y63 p157 = (F_Wri_writeShort A B C x3 t0_0 t1_0 t2_0 t2_1 t3_0 t4_0 t4_1 t5_0 t6_0 t6_1 t7_0 t8_0 t8_1 t9_0 t10_0 t10_1 t11_0 t12_0 t12_1 t13_0 t14_0 t14_1 t14_2) from Eq.trans (by rw [e158, ← e138, e130, e129, e128, e127, e126, e125, e124, e123, e122, e121, e120, e119, e118, e117, e116, e115, e114, e113, F_Wri_writeShort_c2.eq_1]) hR131)
  have hS163 := (show True ∧ S_Wri_writeShort_c18 A B C x3 t0_0 t1_0 t2_0 t2_1 t3_0 t4_0 t4_1 t5_0 t6_0 t6_1 t7_0 t8_0 t8_1 t9_0 t10_0 t10_1 t11_0 t12_0 t12_1 t13_0 t14_0 t14_1 t14_2 p111 y65 y66 f67 y70 y71 f72 y75 y76 f77 y80 y81 f82 y85 y86 f87 y61 y62 y63 p157 from (by rw [e158, ← e138, e130, e129, e128, e127, e126, e125, e124, e123, e122, e121, e120, e119, e118, e117, e116, e115, e114, e113]; have h := hS132; rw [S_Wri_writeShort_c2.eq_1] at h; replace h := q_s2 h; replace h := q_s2 h; with_reducible exact h))
  refine lv_aload_n hx hb d_12_7_21 rfl (lv_at hl 0 rfl) ?_
  refine q_get (ci := 9) (j := 2) (v := .ref (q 36)) C0 V i_Wri rfl rfl hO136 (by decide) w_331 rfl d_12_7_22 ?_
  refine q_get (ci := 7) (j := 1) (v := .int y145) C0 V i_Dig rfl rfl hO143 (by decide) w_267 rfl d_12_7_25 ?_
  refine lv_bipush (v := (-3)) hx hb d_12_7_28 (by decide) ?_
  refine q_join (X := Unit) (fun z H locs ls _ => q_Wd D g (va_A ws sz) s u141 H locs ∧ lv_has ls 4 [(0, .ref (q 39))] ∧ F_Wri_writeShort_J68 A B C x3 t0_0 t1_0 t2_0 t2_1 t3_0 t4_0 t4_1 t5_0 t6_0 t6_1 t7_0 t8_0 t8_1 t9_0 t10_0 t10_1 t11_0 t12_0 t12_1 t13_0 t14_0 t14_1 t14_2 p111 y65 y66 f67 y70 y71 f72 y75 y76 f77 y80 y81 f82 y85 y86 f87 y61 y62 y63 p157 y144 y145 f146 = (F_Wri_writeShort A B C x3 t0_0 t1_0 t2_0 t2_1 t3_0 t4_0 t4_1 t5_0 t6_0 t6_1 t7_0 t8_0 t8_1 t9_0 t10_0 t10_1 t11_0 t12_0 t12_1 t13_0 t14_0 t14_1 t14_2) ∧ True ∧ S_Wri_writeShort_J68 A B C x3 t0_0 t1_0 t2_0 t2_1 t3_0 t4_0 t4_1 t5_0 t6_0 t6_1 t7_0 t8_0 t8_1 t9_0 t10_0 t10_1 t11_0 t12_0 t12_1 t13_0 t14_0 t14_1 t14_2 p111 y65 y66 f67 y70 y71 f72 y75 y76 f77 y80 y81 f82 y85 y86 f87 y61 y62 y63 p157 y144 y145 f146) (fun z => []) 68 0 0 ?_ ?_
  ·
    rintro _ H locs ls _ ⟨V, hl, hR183, hS184⟩
    replace hl : lv_has ls 4 [(0, .ref (q 39))] := hl
    refine lv_aload_n hx hb d_12_7_68 rfl (lv_at hl 0 rfl) ?_
    refine q_get (ci := 9) (j := 2) (v := .ref (q 36)) C0 V i_Wri rfl rfl hO136 (by decide) w_331 rfl d_12_7_69 ?_
    refine lv_aload_n hx hb d_12_7_72 rfl (lv_at hl 0 rfl) ?_
    refine q_get (ci := 9) (j := 0) (v := .ref (q 3)) C0 V i_Wri rfl rfl hO136 (by decide) w_329 rfl d_12_7_73 ?_
    refine lv_iconst (v := 2) hx hb d_12_7_76 (by decide) ?_
    refine lv_aload_n hx hb d_12_7_77 rfl (lv_at hl 0 rfl) ?_
    refine q_get (ci := 9) (j := 2) (v := .ref (q 36)) C0 V i_Wri rfl rfl hO136 (by decide) w_331 rfl d_12_7_78 ?_
    refine q_get (ci := 7) (j := 0) (v := .int y144) C0 V i_Dig rfl rfl hO143 (by decide) w_265 rfl d_12_7_81 ?_
    refine q_max C0 hl.1 rfl w_1566 w_803 w_7 w_804 ⟨Nat.le_of_ble_eq_true rfl, Nat.le_of_ble_eq_true rfl⟩ ⟨Nat.le_of_ble_eq_true rfl, Nat.le_of_ble_eq_true rfl⟩ d_12_7_84 ?_
    obtain ⟨a188, e189⟩ := q_nm (if 2 < y144 then y144 else 2 : Int32)
    refine q_ti (v := a188) e189 ?_
    have b190 : q_F (2 ≤ a188.toInt ∧ y144.toInt ≤ a188.toInt ∧ (a188.toInt = 2 ∨ a188.toInt = y144.toInt)) := (by rw [← e189]; show 2 ≤ (if 2 < y144 then y144 else 2 : Int32).toInt ∧ y144.toInt ≤ (if 2 < y144 then y144 else 2 : Int32).toInt ∧ ((if 2 < y144 then y144 else 2 : Int32).toInt = 2 ∨ (if 2 < y144 then y144 else 2 : Int32).toInt = y144.toInt); exact (by have y0 : (2 : Int32).toInt = 2 := rfl; have z := s_max (a := 2) (b := y144); omega))
    refine lv_iconst (v := 0) hx hb d_12_7_87 (by decide) ?_
    refine q_gov V (q_runV (As := [.ref (q 3), .int a188, .int 0]) (rest := []) (d := 2) (mc := 0) (ms := 0) (ci := 7) C0 V rfl LV_Wri_94 (X_Dig_writeHead l D g q u141 3 11008 1376 1000000 (n_h3 g q) a188 0 hI y144 y145 hO143 f146 hA147 t0_0 hT0 t1_0 hT1 ⟨(by have y0 : (11008 : Int32).toInt = 11008 := rfl; have y1 : (1376 : Int32).toInt = 1376 := rfl; have y2 : (1000000 : Int32).toInt = 1000000 := rfl; have y3 : (0 : Int32).toInt = 0 := rfl; omega), (by have y0 : (11008 : Int32).toInt = 11008 := rfl; have y1 : (1376 : Int32).toInt = 1376 := rfl; have y2 : (1000000 : Int32).toInt = 1000000 := rfl; have y3 : (0 : Int32).toInt = 0 := rfl; omega)⟩ (by have y0 : (11008 : Int32).toInt = 11008 := rfl; have y1 : (1376 : Int32).toInt = 1376 := rfl; have y2 : (1000000 : Int32).toInt = 1000000 := rfl; have y3 : (0 : Int32).toInt = 0 := rfl; have t1 : y144.toInt ≤ 20 := b149; have t2 : 2 ≤ a188.toInt ∧ y144.toInt ≤ a188.toInt ∧ (a188.toInt = 2 ∨ a188.toInt = y144.toInt) := b190; omega) (by have y0 : (11008 : Int32).toInt = 11008 := rfl; have y1 : (1376 : Int32).toInt = 1376 := rfl; have y2 : (1000000 : Int32).toInt = 1000000 := rfl; have y3 : (0 : Int32).toInt = 0 := rfl; have t1 : t0_0.toInt ≤ 10 := pre0; omega) (by have y0 : (11008 : Int32).toInt = 11008 := rfl; have y1 : (1376 : Int32).toInt = 1376 := rfl; have y2 : (1000000 : Int32).toInt = 1000000 := rfl; have y3 : (0 : Int32).toInt = 0 := rfl; omega) _) rfl rfl hO143 rfl hl.1 rfl (Nat.le_of_ble_eq_true rfl) ⟨by decide, by decide⟩ ⟨Nat.le_of_ble_eq_true rfl, Nat.le_of_ble_eq_true rfl⟩ d_12_7_88) (fun u191 H locs hp192 V => ?_)
    obtain ⟨hI, hZ9⟩ := hp192
    obtain ⟨hu202, hZ9⟩ := hZ9
    obtain ⟨y194, hZ9⟩ := hZ9
    obtain ⟨f195, hZ9⟩ := hZ9
    obtain ⟨hO193, hZ9⟩ := hZ9
    obtain ⟨hA196, hZ9⟩ := hZ9
    obtain ⟨b197, hZ9⟩ := hZ9
    obtain ⟨b198, hZ9⟩ := hZ9
    obtain ⟨b199, hZ9⟩ := hZ9
    obtain ⟨b200, hE201⟩ := hZ9
    replace hO193 : u191[3]? = (some (q 3, .inr (1, [.ref (q 4), .int 11008, .int y194])) : Option (Nat × va_E)) := hO193
    replace hA196 : u191[4]? = (some (q 4, .inl (g 1, (1376 : Int32).toNatClampNeg, .inr (.inl f195))) : Option (Nat × va_E)) := hA196
    obtain ⟨p203, e204⟩ : ∃ z, z = (F_Dig_writeHead (11008 : Int32) (1376 : Int32) (1000000 : Int32) a188 (0 : Int32) y144 y145 f146 t0_0 t1_0) := ⟨_, rfl⟩
    have e205 : y194 = p203.1 := congrArg (fun z => z.1) (hE201.trans e204.symm)
    have e206 : f195 = p203.2 := congrArg (fun z => z.2) (hE201.trans e204.symm)
    replace b197 : q_F (a188.toInt ≤ y194.toInt) := b197
    replace b198 : q_F (0 + 1 ≤ y194.toInt) := b198
    replace b199 : q_F (t0_0.toInt + 1 ≤ y194.toInt) := b199
    replace b200 : q_F (y194.toInt ≤ t0_0.toInt + 20001) := b200
    replace hO143 := (hu202 _ (by decide)).trans hO143
    replace hA147 := (hu202 _ (by decide)).trans hA147
    replace hO64 := (hu202 _ (by decide)).trans hO64
    replace hA68 := (hu202 _ (by decide)).trans hA68
    replace hO69 := (hu202 _ (by decide)).trans hO69
    replace hA73 := (hu202 _ (by decide)).trans hA73
    replace hO74 := (hu202 _ (by decide)).trans hO74
    replace hA78 := (hu202 _ (by decide)).trans hA78
    replace hO79 := (hu202 _ (by decide)).trans hO79
    replace hA83 := (hu202 _ (by decide)).trans hA83
    replace hO84 := (hu202 _ (by decide)).trans hO84
    replace hA88 := (hu202 _ (by decide)).trans hA88
    replace hO60 := (hu202 _ (by have z0 := hB2.2.2.2.2; simp only [List.mem_cons, List.not_mem_nil, or_false, not_or]; omega)).trans hO60
    replace hO136 := (hu202 _ (by decide)).trans hO136
    replace hF := q_uc hF hu202 (by first | exact (q_sk (q_mi 0 rfl) (q_sk (q_mi 1 rfl) q_s0)) | simp)
    have hR207 := (show F_Wri_writeShort_c88 A B C x3 t0_0 t1_0 t2_0 t2_1 t3_0 t4_0 t4_1 t5_0 t6_0 t6_1 t7_0 t8_0 t8_1 t9_0 t10_0 t10_1 t11_0 t12_0 t12_1 t13_0 t14_0 t14_1 t14_2 p111 y65 y66 f67 y70 y71 f72 y75 y76 f77 y80 y81 f82 y85 y86 f87 y61 y62 y63 p157 y144 y145 f146 p203 = (F_Wri_writeShort A B C x3 t0_0 t1_0 t2_0 t2_1 t3_0 t4_0 t4_1 t5_0 t6_0 t6_1 t7_0 t8_0 t8_1 t9_0 t10_0 t10_1 t11_0 t12_0 t12_1 t13_0 t14_0 t14_1 t14_2) from Eq.trans (by rw [e204, ← e189, F_Wri_writeShort_J68.eq_1]) hR183)
    have hS208 := (show True ∧ S_Wri_writeShort_c88 A B C x3 t0_0 t1_0 t2_0 t2_1 t3_0 t4_0 t4_1 t5_0 t6_0 t6_1 t7_0 t8_0 t8_1 t9_0 t10_0 t10_1 t11_0 t12_0 t12_1 t13_0 t14_0 t14_1 t14_2 p111 y65 y66 f67 y70 y71 f72 y75 y76 f77 y80 y81 f82 y85 y86 f87 y61 y62 y63 p157 y144 y145 f146 p203 from (by rw [e204, ← e189]; have h := hS184; rw [S_Wri_writeShort_J68.eq_1] at h; with_reducible exact h))
    refine lv_aload_n hx hb d_12_7_91 rfl (lv_at hl 0 rfl) ?_
    refine q_get (ci := 9) (j := 0) (v := .ref (q 3)) C0 V i_Wri rfl rfl hO136 (by decide) w_329 rfl d_12_7_92 ?_
    refine lv_bipush (v := 69) hx hb d_12_7_95 (by decide) ?_
    refine q_gov V (q_runV (As := [.int 69]) (rest := []) (d := 1) (mc := 0) (ms := 0) (ci := 1) C0 V rfl LV_Wri_62 (X_She_add_p l D g q u191 3 11008 1376 1000000 (n_h3 g q) 69 hI y194 hO193 f195 hA196 (by have y0 : (11008 : Int32).toInt = 11008 := rfl; have y1 : (1376 : Int32).toInt = 1376 := rfl; have y2 : (1000000 : Int32).toInt = 1000000 := rfl; have y3 : (69 : Int32).toInt = 69 := rfl; have t1 : t0_0.toInt ≤ 10 := pre0; have t2 : y194.toInt ≤ t0_0.toInt + 20001 := b200; omega) _) rfl rfl hO193 rfl hl.1 rfl (Nat.le_of_ble_eq_true rfl) ⟨by decide, by decide⟩ ⟨Nat.le_of_ble_eq_true rfl, Nat.le_of_ble_eq_true rfl⟩ d_12_7_97) (fun u212 H locs hp213 V => ?_)
    obtain ⟨hI, hZ9⟩ := hp213
    obtain ⟨hu221, hZ9⟩ := hZ9
    obtain ⟨y215, hZ9⟩ := hZ9
    obtain ⟨f216, hZ9⟩ := hZ9
    obtain ⟨hO214, hZ9⟩ := hZ9
    obtain ⟨hA217, hZ9⟩ := hZ9
    obtain ⟨b218, hZ9⟩ := hZ9
    obtain ⟨b219, hE220⟩ := hZ9
    replace hO214 : u212[3]? = (some (q 3, .inr (1, [.ref (q 4), .int 11008, .int y215])) : Option (Nat × va_E)) := hO214
    replace hA217 : u212[4]? = (some (q 4, .inl (g 1, (1376 : Int32).toNatClampNeg, .inr (.inl f216))) : Option (Nat × va_E)) := hA217
    obtain ⟨p222, e223⟩ : ∃ z, z = (F_She_add_p (11008 : Int32) (1376 : Int32) (1000000 : Int32) (69 : Int32) y194 f195) := ⟨_, rfl⟩
    have e224 : y215 = p222.1 := congrArg (fun z => z.1) (hE220.trans e223.symm)
    have e225 : f216 = p222.2 := congrArg (fun z => z.2) (hE220.trans e223.symm)
    replace b218 : q_F (y194.toInt + 1 ≤ y215.toInt) := b218
    replace b219 : q_F (y215.toInt ≤ y194.toInt + 1) := b219
    replace hO143 := (hu221 _ (by decide)).trans hO143
    replace hA147 := (hu221 _ (by decide)).trans hA147
    replace hO64 := (hu221 _ (by decide)).trans hO64
    replace hA68 := (hu221 _ (by decide)).trans hA68
    replace hO69 := (hu221 _ (by decide)).trans hO69
    replace hA73 := (hu221 _ (by decide)).trans hA73
    replace hO74 := (hu221 _ (by decide)).trans hO74
    replace hA78 := (hu221 _ (by decide)).trans hA78
    replace hO79 := (hu221 _ (by decide)).trans hO79
    replace hA83 := (hu221 _ (by decide)).trans hA83
    replace hO84 := (hu221 _ (by decide)).trans hO84
    replace hA88 := (hu221 _ (by decide)).trans hA88
    replace hO60 := (hu221 _ (by have z0 := hB2.2.2.2.2; simp only [List.mem_cons, List.not_mem_nil, or_false, not_or]; omega)).trans hO60
    replace hO136 := (hu221 _ (by decide)).trans hO136
    replace hF := q_uc hF hu221 (by first | exact (q_sk (q_mi 0 rfl) (q_sk (q_mi 1 rfl) q_s0)) | simp)
    have hR226 := (show F_Wri_writeShort_c97 A B C x3 t0_0 t1_0 t2_0 t2_1 t3_0 t4_0 t4_1 t5_0 t6_0 t6_1 t7_0 t8_0 t8_1 t9_0 t10_0 t10_1 t11_0 t12_0 t12_1 t13_0 t14_0 t14_1 t14_2 p111 y65 y66 f67 y70 y71 f72 y75 y76 f77 y80 y81 f82 y85 y86 f87 y61 y62 y63 p157 y144 y145 f146 p203 p222 = (F_Wri_writeShort A B C x3 t0_0 t1_0 t2_0 t2_1 t3_0 t4_0 t4_1 t5_0 t6_0 t6_1 t7_0 t8_0 t8_1 t9_0 t10_0 t10_1 t11_0 t12_0 t12_1 t13_0 t14_0 t14_1 t14_2) from Eq.trans (by rw [e223, e206, e205, F_Wri_writeShort_c88.eq_1]) hR207)
    have hS227 := (show True ∧ S_Wri_writeShort_c97 A B C x3 t0_0 t1_0 t2_0 t2_1 t3_0 t4_0 t4_1 t5_0 t6_0 t6_1 t7_0 t8_0 t8_1 t9_0 t10_0 t10_1 t11_0 t12_0 t12_1 t13_0 t14_0 t14_1 t14_2 p111 y65 y66 f67 y70 y71 f72 y75 y76 f77 y80 y81 f82 y85 y86 f87 y61 y62 y63 p157 y144 y145 f146 p203 p222 from (by rw [e223, e206, e205]; have h := hS208; rw [S_Wri_writeShort_c88.eq_1] at h; with_reducible exact h))
    refine lv_aload_n hx hb d_12_7_100 rfl (lv_at hl 0 rfl) ?_
    refine lv_aload_n hx hb d_12_7_101 rfl (lv_at hl 0 rfl) ?_
    refine q_get (ci := 9) (j := 2) (v := .ref (q 36)) C0 V i_Wri rfl rfl hO136 (by decide) w_331 rfl d_12_7_102 ?_
    refine q_get (ci := 7) (j := 1) (v := .int y145) C0 V i_Dig rfl rfl hO143 (by decide) w_267 rfl d_12_7_105 ?_
    refine q_gov V (q_runV (As := [.int y145]) (rest := []) (d := 3) (mc := 0) (ms := 0) (ci := 9) C0 V rfl LV_Wri_170 (X_Wri_writeSigned l D g q u212  y145 hI y215 hO214 f216 hA217 (by have t1 : t0_0.toInt ≤ 10 := pre0; have t2 : y194.toInt ≤ t0_0.toInt + 20001 := b200; have t3 : y215.toInt ≤ y194.toInt + 1 := b219; omega) (by first | with_reducible exact q_fe b150 | (have t1 : 0 ≤ y145.toInt + 20000 := b150; omega)) _) rfl rfl hO136 rfl hl.1 rfl (Nat.le_of_ble_eq_true rfl) ⟨by decide, by decide⟩ ⟨Nat.le_of_ble_eq_true rfl, Nat.le_of_ble_eq_true rfl⟩ d_12_7_108) (fun u231 H locs hp232 V => ?_)
    obtain ⟨hI, hZ9⟩ := hp232
    obtain ⟨hu240, hZ9⟩ := hZ9
    obtain ⟨y234, hZ9⟩ := hZ9
    obtain ⟨f235, hZ9⟩ := hZ9
    obtain ⟨hO233, hZ9⟩ := hZ9
    obtain ⟨hA236, hZ9⟩ := hZ9
    obtain ⟨b237, hZ9⟩ := hZ9
    obtain ⟨b238, hE239⟩ := hZ9
    replace hO233 : u231[3]? = (some (q 3, .inr (1, [.ref (q 4), .int 11008, .int y234])) : Option (Nat × va_E)) := hO233
    replace hA236 : u231[4]? = (some (q 4, .inl (g 1, (1376 : Int32).toNatClampNeg, .inr (.inl f235))) : Option (Nat × va_E)) := hA236
    obtain ⟨p241, e242⟩ : ∃ z, z = (F_Wri_writeSigned y145 y215 f216) := ⟨_, rfl⟩
    have e243 : y234 = p241.1 := congrArg (fun z => z.1) (hE239.trans e242.symm)
    have e244 : f235 = p241.2 := congrArg (fun z => z.2) (hE239.trans e242.symm)
    replace b237 : q_F (y215.toInt ≤ y234.toInt) := b237
    replace b238 : q_F (y234.toInt ≤ y215.toInt + 6) := b238
    replace hO143 := (hu240 _ (by decide)).trans hO143
    replace hA147 := (hu240 _ (by decide)).trans hA147
    replace hO64 := (hu240 _ (by decide)).trans hO64
    replace hA68 := (hu240 _ (by decide)).trans hA68
    replace hO69 := (hu240 _ (by decide)).trans hO69
    replace hA73 := (hu240 _ (by decide)).trans hA73
    replace hO74 := (hu240 _ (by decide)).trans hO74
    replace hA78 := (hu240 _ (by decide)).trans hA78
    replace hO79 := (hu240 _ (by decide)).trans hO79
    replace hA83 := (hu240 _ (by decide)).trans hA83
    replace hO84 := (hu240 _ (by decide)).trans hO84
    replace hA88 := (hu240 _ (by decide)).trans hA88
    replace hO60 := (hu240 _ (by have z0 := hB2.2.2.2.2; simp only [List.mem_cons, List.not_mem_nil, or_false, not_or]; omega)).trans hO60
    replace hF := q_uc hF hu240 (by first | exact (q_sk (q_mi 0 rfl) (q_sk (q_mi 1 rfl) q_s0)) | simp)
    have hR245 := (show F_Wri_writeShort_c108 A B C x3 t0_0 t1_0 t2_0 t2_1 t3_0 t4_0 t4_1 t5_0 t6_0 t6_1 t7_0 t8_0 t8_1 t9_0 t10_0 t10_1 t11_0 t12_0 t12_1 t13_0 t14_0 t14_1 t14_2 p111 y65 y66 f67 y70 y71 f72 y75 y76 f77 y80 y81 f82 y85 y86 f87 y61 y62 y63 p157 y144 y145 f146 p203 p222 p241 = (F_Wri_writeShort A B C x3 t0_0 t1_0 t2_0 t2_1 t3_0 t4_0 t4_1 t5_0 t6_0 t6_1 t7_0 t8_0 t8_1 t9_0 t10_0 t10_1 t11_0 t12_0 t12_1 t13_0 t14_0 t14_1 t14_2) from Eq.trans (by rw [e242, e225, e224, F_Wri_writeShort_c97.eq_1]) hR226)
    have hS246 := (show True ∧ S_Wri_writeShort_c108 A B C x3 t0_0 t1_0 t2_0 t2_1 t3_0 t4_0 t4_1 t5_0 t6_0 t6_1 t7_0 t8_0 t8_1 t9_0 t10_0 t10_1 t11_0 t12_0 t12_1 t13_0 t14_0 t14_1 t14_2 p111 y65 y66 f67 y70 y71 f72 y75 y76 f77 y80 y81 f82 y85 y86 f87 y61 y62 y63 p157 y144 y145 f146 p203 p222 p241 from (by rw [e242, e225, e224]; have h := hS227; rw [S_Wri_writeShort_c97.eq_1] at h; with_reducible exact h))
    exact q_retv C0 V (⟨hI, hF, y234, f235, y144, y145, f146, y65, y66, f67, y70, y71, f72, y75, y76, f77, y80, y81, f82, y85, y86, f87, y61, y62, y63, hO233, hA236, hO143, hA147, hO64, hA68, hO69, hA73, hO74, hA78, hO79, hA83, hO84, hA88, hO60, (show 2 ≤ y234.toInt from (by have t1 : 0 + 1 ≤ y194.toInt := b198; have t2 : y194.toInt + 1 ≤ y215.toInt := b218; have t3 : y215.toInt ≤ y234.toInt := b237; omega)), (show 0 ≤ y144.toInt from (by first | with_reducible exact q_fe b148 | (have t1 : 0 ≤ y144.toInt := b148; omega))), (show y144.toInt ≤ 20 from (by first | with_reducible exact q_fe b149 | (have t1 : y144.toInt ≤ 20 := b149; omega))), (show 0 ≤ y145.toInt + 20000 from (by first | with_reducible exact q_fe b150 | (have t1 : 0 ≤ y145.toInt + 20000 := b150; omega))), (show y145.toInt ≤ 20019 from (by have t1 : y144.toInt ≤ 20 := b149; have t2 : y145.toInt ≤ y144.toInt + 19999 := b151; omega)), (show 0 ≤ y65.toInt from (by first | with_reducible exact q_fe b89 | (have t1 : 0 ≤ y65.toInt := b89; omega))), (show y65.toInt ≤ 220 from (by first | with_reducible exact q_fe b90 | (have t1 : y65.toInt ≤ 220 := b90; omega))), (show 0 ≤ y66.toInt from (by first | with_reducible exact q_fe b91 | (have t1 : 0 ≤ y66.toInt := b91; omega))), (show y66.toInt ≤ 21 from (by have t1 : 0 ≤ t4_1.toInt ∧ t4_1.toInt ≤ 1 := btt4_1; have t2 : y66.toInt ≤ t4_1.toInt + 20 := b106; omega)), (show 0 ≤ y70.toInt from (by first | with_reducible exact q_fe b92 | (have t1 : 0 ≤ y70.toInt := b92; omega))), (show y70.toInt ≤ 220 from (by first | with_reducible exact q_fe b93 | (have t1 : y70.toInt ≤ 220 := b93; omega))), (show 0 ≤ y71.toInt from (by first | with_reducible exact q_fe b94 | (have t1 : 0 ≤ y71.toInt := b94; omega))), (show y71.toInt ≤ 2 from (by have t1 : 0 ≤ t4_1.toInt ∧ t4_1.toInt ≤ 1 := btt4_1; have t2 : y71.toInt ≤ t4_1.toInt + 1 := b107; omega)), (show 0 ≤ y75.toInt from (by first | with_reducible exact q_fe b95 | (have t1 : 0 ≤ y75.toInt := b95; omega))), (show y75.toInt ≤ 220 from (by first | with_reducible exact q_fe b96 | (have t1 : y75.toInt ≤ 220 := b96; omega))), (show 0 ≤ y76.toInt from (by first | with_reducible exact q_fe b97 | (have t1 : 0 ≤ y76.toInt := b97; omega))), (show y76.toInt ≤ 1 from (by first | with_reducible exact q_fe b98 | (have t1 : y76.toInt ≤ 1 := b98; omega))), (show 0 ≤ y80.toInt from (by first | with_reducible exact q_fe b99 | (have t1 : 0 ≤ y80.toInt := b99; omega))), (show y80.toInt ≤ 220 from (by first | with_reducible exact q_fe b100 | (have t1 : y80.toInt ≤ 220 := b100; omega))), (show 0 ≤ y81.toInt from (by first | with_reducible exact q_fe b101 | (have t1 : 0 ≤ y81.toInt := b101; omega))), (show y81.toInt ≤ 1 from (by first | with_reducible exact q_fe b102 | (have t1 : y81.toInt ≤ 1 := b102; omega))), (show 0 ≤ y85.toInt from (by first | with_reducible exact q_fe b103 | (have t1 : 0 ≤ y85.toInt := b103; omega))), (show y85.toInt ≤ 220 from (by first | with_reducible exact q_fe b104 | (have t1 : y85.toInt ≤ 220 := b104; omega))), (show 0 ≤ y86.toInt from (by first | with_reducible exact q_fe b105 | (have t1 : 0 ≤ y86.toInt := b105; omega))), (show t0_0.toInt + 1 ≤ y234.toInt from (by have t1 : t0_0.toInt + 1 ≤ y194.toInt := b199; have t2 : y194.toInt + 1 ≤ y215.toInt := b218; have t3 : y215.toInt ≤ y234.toInt := b237; omega)), (show y234.toInt ≤ t0_0.toInt + 420003 from (by have t1 : y194.toInt ≤ t0_0.toInt + 20001 := b200; have t2 : y215.toInt ≤ y194.toInt + 1 := b219; have t3 : y234.toInt ≤ y215.toInt + 6 := b238; omega)), (show y66.toInt ≤ t4_1.toInt + 20 from (by first | with_reducible exact q_fe b106 | (have t1 : y66.toInt ≤ t4_1.toInt + 20 := b106; omega))), (show y71.toInt ≤ t4_1.toInt + 1 from (by first | with_reducible exact q_fe b107 | (have t1 : y71.toInt ≤ t4_1.toInt + 1 := b107; omega))), (show y145.toInt ≤ y234.toInt + 19998 from (by have t1 : y145.toInt ≤ y144.toInt + 19999 := b151; have t2 : 2 ≤ a188.toInt ∧ y144.toInt ≤ a188.toInt ∧ (a188.toInt = 2 ∨ a188.toInt = y144.toInt) := b190; have t3 : a188.toInt ≤ y194.toInt := b197; have t4 : y194.toInt + 1 ≤ y215.toInt := b218; have t5 : y215.toInt ≤ y234.toInt := b237; omega)), (show y145.toInt ≤ y144.toInt + 19999 from (by first | with_reducible exact q_fe b151 | (have t1 : y145.toInt ≤ y144.toInt + 19999 := b151; omega))), (show y144.toInt ≤ y145.toInt + 20001 from (by first | with_reducible exact q_fe b152 | (have t1 : y144.toInt ≤ y145.toInt + 20001 := b152; omega))), (show y71.toInt ≤ y66.toInt + 1 from (by first | with_reducible exact q_fe b108 | (have t1 : y71.toInt ≤ y66.toInt + 1 := b108; omega))), (show (y234, f235, y144, y145, f146, y65, y66, f67, y70, y71, f72, y75, y76, f77, y80, y81, f82, y85, y86, f87, y61, y62, y63) = (F_Wri_writeShort A B C x3 t0_0 t1_0 t2_0 t2_1 t3_0 t4_0 t4_1 t5_0 t6_0 t6_1 t7_0 t8_0 t8_1 t9_0 t10_0 t10_1 t11_0 t12_0 t12_1 t13_0 t14_0 t14_1 t14_2) from Eq.trans (by rw [e244, e243, F_Wri_writeShort_c108.eq_1]) hR245)⟩) d_12_7_111
  ·
    intro J182
    refine lv_icmp_lt (tgt := 68) hx hb d_12_7_30 (by decide) (fun c250 => ?_) (fun c250 => ?_)
    ·
      exact J182 (()) _ _ _ u141 ⟨V, q_lw hl (q_lw1 0 rfl q_lw0), (show F_Wri_writeShort_J68 A B C x3 t0_0 t1_0 t2_0 t2_1 t3_0 t4_0 t4_1 t5_0 t6_0 t6_1 t7_0 t8_0 t8_1 t9_0 t10_0 t10_1 t11_0 t12_0 t12_1 t13_0 t14_0 t14_1 t14_2 p111 y65 y66 f67 y70 y71 f72 y75 y76 f77 y80 y81 f82 y85 y86 f87 y61 y62 y63 p157 y144 y145 f146 = (F_Wri_writeShort A B C x3 t0_0 t1_0 t2_0 t2_1 t3_0 t4_0 t4_1 t5_0 t6_0 t6_1 t7_0 t8_0 t8_1 t9_0 t10_0 t10_1 t11_0 t12_0 t12_1 t13_0 t14_0 t14_1 t14_2) from Eq.trans (by have c250x := c250; rw [e160] at c250x; rw [e161, e160, e159, F_Wri_writeShort_c18.eq_1, if_pos c250x]) hR162), (show True ∧ S_Wri_writeShort_J68 A B C x3 t0_0 t1_0 t2_0 t2_1 t3_0 t4_0 t4_1 t5_0 t6_0 t6_1 t7_0 t8_0 t8_1 t9_0 t10_0 t10_1 t11_0 t12_0 t12_1 t13_0 t14_0 t14_1 t14_2 p111 y65 y66 f67 y70 y71 f72 y75 y76 f77 y80 y81 f82 y85 y86 f87 y61 y62 y63 p157 y144 y145 f146 from (by rw [e161, e160, e159]; have h := hS163; rw [S_Wri_writeShort_c18.eq_1] at h; have c250x := c250; rw [e160] at c250x; rw [if_pos c250x] at h; with_reducible exact h))⟩
    ·
      refine lv_aload_n hx hb d_12_7_33 rfl (lv_at hl 0 rfl) ?_
      refine q_get (ci := 9) (j := 2) (v := .ref (q 36)) C0 V i_Wri rfl rfl hO136 (by decide) w_331 rfl d_12_7_34 ?_
      refine q_get (ci := 7) (j := 1) (v := .int y145) C0 V i_Dig rfl rfl hO143 (by decide) w_267 rfl d_12_7_37 ?_
      refine lv_bipush (v := 7) hx hb d_12_7_40 (by decide) ?_
      refine lv_icmp_ge (tgt := 68) hx hb d_12_7_42 (by decide) (fun c253 => ?_) (fun c253 => ?_)
      ·
        exact J182 (()) _ _ _ u141 ⟨V, q_lw hl (q_lw1 0 rfl q_lw0), (show F_Wri_writeShort_J68 A B C x3 t0_0 t1_0 t2_0 t2_1 t3_0 t4_0 t4_1 t5_0 t6_0 t6_1 t7_0 t8_0 t8_1 t9_0 t10_0 t10_1 t11_0 t12_0 t12_1 t13_0 t14_0 t14_1 t14_2 p111 y65 y66 f67 y70 y71 f72 y75 y76 f77 y80 y81 f82 y85 y86 f87 y61 y62 y63 p157 y144 y145 f146 = (F_Wri_writeShort A B C x3 t0_0 t1_0 t2_0 t2_1 t3_0 t4_0 t4_1 t5_0 t6_0 t6_1 t7_0 t8_0 t8_1 t9_0 t10_0 t10_1 t11_0 t12_0 t12_1 t13_0 t14_0 t14_1 t14_2) from Eq.trans (by have c250x := c250; rw [e160] at c250x; have c253x := c253; rw [e160] at c253x; rw [e161, e160, e159, F_Wri_writeShort_c18.eq_1, if_neg c250x, if_pos c253x]) hR162), (show True ∧ S_Wri_writeShort_J68 A B C x3 t0_0 t1_0 t2_0 t2_1 t3_0 t4_0 t4_1 t5_0 t6_0 t6_1 t7_0 t8_0 t8_1 t9_0 t10_0 t10_1 t11_0 t12_0 t12_1 t13_0 t14_0 t14_1 t14_2 p111 y65 y66 f67 y70 y71 f72 y75 y76 f77 y80 y81 f82 y85 y86 f87 y61 y62 y63 p157 y144 y145 f146 from (by rw [e161, e160, e159]; have h := hS163; rw [S_Wri_writeShort_c18.eq_1] at h; have c250x := c250; rw [e160] at c250x; rw [if_neg c250x] at h; have c253x := c253; rw [e160] at c253x; rw [if_pos c253x] at h; with_reducible exact h))⟩
      ·
        have b255 : q_F (y145.toInt < 7) := (q_nleI c253)
        refine lv_aload_n hx hb d_12_7_45 rfl (lv_at hl 0 rfl) ?_
        refine q_get (ci := 9) (j := 2) (v := .ref (q 36)) C0 V i_Wri rfl rfl hO136 (by decide) w_331 rfl d_12_7_46 ?_
        refine lv_aload_n hx hb d_12_7_49 rfl (lv_at hl 0 rfl) ?_
        refine q_get (ci := 9) (j := 0) (v := .ref (q 3)) C0 V i_Wri rfl rfl hO136 (by decide) w_329 rfl d_12_7_50 ?_
        refine lv_iconst (v := 1) hx hb d_12_7_53 (by decide) ?_
        refine lv_aload_n hx hb d_12_7_54 rfl (lv_at hl 1 rfl) ?_
        refine q_get (ci := 6) (j := 4) (v := .int y62) C0 V i_Flo rfl rfl hO60 (by decide) w_239 rfl d_12_7_55 ?_
        refine lv_ineg hx hb d_12_7_58 ?_
        obtain ⟨a256, e257⟩ := q_nm (-y62 : Int32)
        refine q_ti (v := a256) e257 ?_
        refine q_max C0 hl.1 rfl w_1566 w_803 w_7 w_804 ⟨Nat.le_of_ble_eq_true rfl, Nat.le_of_ble_eq_true rfl⟩ ⟨Nat.le_of_ble_eq_true rfl, Nat.le_of_ble_eq_true rfl⟩ d_12_7_59 ?_
        obtain ⟨a258, e259⟩ := q_nm (if 1 < a256 then a256 else 1 : Int32)
        refine q_ti (v := a258) e259 ?_
        have b260 : q_F (1 ≤ a258.toInt ∧ a256.toInt ≤ a258.toInt ∧ (a258.toInt = 1 ∨ a258.toInt = a256.toInt)) := (by rw [← e259]; show 1 ≤ (if 1 < a256 then a256 else 1 : Int32).toInt ∧ a256.toInt ≤ (if 1 < a256 then a256 else 1 : Int32).toInt ∧ ((if 1 < a256 then a256 else 1 : Int32).toInt = 1 ∨ (if 1 < a256 then a256 else 1 : Int32).toInt = a256.toInt); exact (by have y0 : (1 : Int32).toInt = 1 := rfl; have z := s_max (a := 1) (b := a256); omega))
        refine lv_iconst (v := 0) hx hb d_12_7_62 (by decide) ?_
        refine lv_iconst (v := 0) hx hb d_12_7_63 (by decide) ?_
        have ob261 : q_F (a258.toInt ≤ 20000) := (by rw [← e259, ← e257]; have h := hS163; rw [S_Wri_writeShort_c18.eq_1] at h; have c250x := c250; rw [e160] at c250x; rw [if_neg c250x] at h; have c253x := c253; rw [e160] at c253x; rw [if_neg c253x] at h; exact h.2.1)
        refine q_gov V (q_runV (As := [.ref (q 3), .int a258, .int 0, .int 0]) (rest := []) (d := 2) (mc := 0) (ms := 0) (ci := 7) C0 V rfl LV_Wri_90 (X_Dig_writePlain l D g q u141 3 11008 1376 1000000 (n_h3 g q) a258 0 0 hI y144 y145 hO143 f146 hA147 t0_0 hT0 t1_0 hT1 ⟨(by have y0 : (11008 : Int32).toInt = 11008 := rfl; have y1 : (1376 : Int32).toInt = 1376 := rfl; have y2 : (1000000 : Int32).toInt = 1000000 := rfl; have y3 : (0 : Int32).toInt = 0 := rfl; have y4 : (0 : Int32).toInt = 0 := rfl; omega), (by have y0 : (11008 : Int32).toInt = 11008 := rfl; have y1 : (1376 : Int32).toInt = 1376 := rfl; have y2 : (1000000 : Int32).toInt = 1000000 := rfl; have y3 : (0 : Int32).toInt = 0 := rfl; have y4 : (0 : Int32).toInt = 0 := rfl; omega)⟩ ⟨(by have y0 : (11008 : Int32).toInt = 11008 := rfl; have y1 : (1376 : Int32).toInt = 1376 := rfl; have y2 : (1000000 : Int32).toInt = 1000000 := rfl; have y3 : (0 : Int32).toInt = 0 := rfl; have y4 : (0 : Int32).toInt = 0 := rfl; omega), (by have y0 : (11008 : Int32).toInt = 11008 := rfl; have y1 : (1376 : Int32).toInt = 1376 := rfl; have y2 : (1000000 : Int32).toInt = 1000000 := rfl; have y3 : (0 : Int32).toInt = 0 := rfl; have y4 : (0 : Int32).toInt = 0 := rfl; omega)⟩ (by have y0 : (11008 : Int32).toInt = 11008 := rfl; have y1 : (1376 : Int32).toInt = 1376 := rfl; have y2 : (1000000 : Int32).toInt = 1000000 := rfl; have y3 : (0 : Int32).toInt = 0 := rfl; have y4 : (0 : Int32).toInt = 0 := rfl; have t1 : y145.toInt < 7 := b255; omega) (by have y0 : (11008 : Int32).toInt = 11008 := rfl; have y1 : (1376 : Int32).toInt = 1376 := rfl; have y2 : (1000000 : Int32).toInt = 1000000 := rfl; have y3 : (0 : Int32).toInt = 0 := rfl; have y4 : (0 : Int32).toInt = 0 := rfl; have t1 : a258.toInt ≤ 20000 := ob261; omega) (by have y0 : (11008 : Int32).toInt = 11008 := rfl; have y1 : (1376 : Int32).toInt = 1376 := rfl; have y2 : (1000000 : Int32).toInt = 1000000 := rfl; have y3 : (0 : Int32).toInt = 0 := rfl; have y4 : (0 : Int32).toInt = 0 := rfl; have t1 : t0_0.toInt ≤ 10 := pre0; omega) (by have y0 : (11008 : Int32).toInt = 11008 := rfl; have y1 : (1376 : Int32).toInt = 1376 := rfl; have y2 : (1000000 : Int32).toInt = 1000000 := rfl; have y3 : (0 : Int32).toInt = 0 := rfl; have y4 : (0 : Int32).toInt = 0 := rfl; omega) _) rfl rfl hO143 rfl hl.1 rfl (Nat.le_of_ble_eq_true rfl) ⟨by decide, by decide⟩ ⟨Nat.le_of_ble_eq_true rfl, Nat.le_of_ble_eq_true rfl⟩ d_12_7_64) (fun u262 H locs hp263 V => ?_)
        obtain ⟨hI, hZ9⟩ := hp263
        obtain ⟨hu275, hZ9⟩ := hZ9
        obtain ⟨y265, hZ9⟩ := hZ9
        obtain ⟨f266, hZ9⟩ := hZ9
        obtain ⟨hO264, hZ9⟩ := hZ9
        obtain ⟨hA267, hZ9⟩ := hZ9
        obtain ⟨b268, hZ9⟩ := hZ9
        obtain ⟨b269, hZ9⟩ := hZ9
        replace hZ9 := hZ9.2.2
        obtain ⟨b272, hZ9⟩ := hZ9
        obtain ⟨b273, hE274⟩ := hZ9
        replace hO264 : u262[3]? = (some (q 3, .inr (1, [.ref (q 4), .int 11008, .int y265])) : Option (Nat × va_E)) := hO264
        replace hA267 : u262[4]? = (some (q 4, .inl (g 1, (1376 : Int32).toNatClampNeg, .inr (.inl f266))) : Option (Nat × va_E)) := hA267
        obtain ⟨p276, e277⟩ : ∃ z, z = (F_Dig_writePlain (11008 : Int32) (1376 : Int32) (1000000 : Int32) a258 (0 : Int32) (0 : Int32) y144 y145 f146 t0_0 t1_0) := ⟨_, rfl⟩
        have e278 : y265 = p276.1 := congrArg (fun z => z.1) (hE274.trans e277.symm)
        have e279 : f266 = p276.2 := congrArg (fun z => z.2) (hE274.trans e277.symm)
        replace b268 : q_F (a258.toInt + 1 ≤ y265.toInt) := b268
        replace b269 : q_F (0 + 1 ≤ y265.toInt) := b269
        replace b272 : q_F (t0_0.toInt + 1 ≤ y265.toInt) := b272
        replace b273 : q_F (y265.toInt ≤ t0_0.toInt + 420003) := b273
        replace hO143 := (hu275 _ (by decide)).trans hO143
        replace hA147 := (hu275 _ (by decide)).trans hA147
        replace hO64 := (hu275 _ (by decide)).trans hO64
        replace hA68 := (hu275 _ (by decide)).trans hA68
        replace hO69 := (hu275 _ (by decide)).trans hO69
        replace hA73 := (hu275 _ (by decide)).trans hA73
        replace hO74 := (hu275 _ (by decide)).trans hO74
        replace hA78 := (hu275 _ (by decide)).trans hA78
        replace hO79 := (hu275 _ (by decide)).trans hO79
        replace hA83 := (hu275 _ (by decide)).trans hA83
        replace hO84 := (hu275 _ (by decide)).trans hO84
        replace hA88 := (hu275 _ (by decide)).trans hA88
        replace hO60 := (hu275 _ (by have z0 := hB2.2.2.2.2; simp only [List.mem_cons, List.not_mem_nil, or_false, not_or]; omega)).trans hO60
        replace hF := q_uc hF hu275 (by first | exact (q_sk (q_mi 0 rfl) (q_sk (q_mi 1 rfl) q_s0)) | simp)
        have hR280 := (show F_Wri_writeShort_c64 A B C x3 t0_0 t1_0 t2_0 t2_1 t3_0 t4_0 t4_1 t5_0 t6_0 t6_1 t7_0 t8_0 t8_1 t9_0 t10_0 t10_1 t11_0 t12_0 t12_1 t13_0 t14_0 t14_1 t14_2 p111 y65 y66 f67 y70 y71 f72 y75 y76 f77 y80 y81 f82 y85 y86 f87 y61 y62 y63 p157 y144 y145 f146 p276 = (F_Wri_writeShort A B C x3 t0_0 t1_0 t2_0 t2_1 t3_0 t4_0 t4_1 t5_0 t6_0 t6_1 t7_0 t8_0 t8_1 t9_0 t10_0 t10_1 t11_0 t12_0 t12_1 t13_0 t14_0 t14_1 t14_2) from Eq.trans (by have c250x := c250; rw [e160] at c250x; have c253x := c253; rw [e160] at c253x; rw [e277, ← e259, ← e257, e161, e160, e159, F_Wri_writeShort_c18.eq_1, if_neg c250x, if_neg c253x]) hR162)
        have hS281 := (show True ∧ S_Wri_writeShort_c64 A B C x3 t0_0 t1_0 t2_0 t2_1 t3_0 t4_0 t4_1 t5_0 t6_0 t6_1 t7_0 t8_0 t8_1 t9_0 t10_0 t10_1 t11_0 t12_0 t12_1 t13_0 t14_0 t14_1 t14_2 p111 y65 y66 f67 y70 y71 f72 y75 y76 f77 y80 y81 f82 y85 y86 f87 y61 y62 y63 p157 y144 y145 f146 p276 from (by rw [e277, ← e259, ← e257, e161, e160, e159]; have h := hS163; rw [S_Wri_writeShort_c18.eq_1] at h; have c250x := c250; rw [e160] at c250x; rw [if_neg c250x] at h; have c253x := c253; rw [e160] at c253x; rw [if_neg c253x] at h; replace h := q_s2 h; with_reducible exact h))
        exact q_retv C0 V (⟨hI, hF, y265, f266, y144, y145, f146, y65, y66, f67, y70, y71, f72, y75, y76, f77, y80, y81, f82, y85, y86, f87, y61, y62, y63, hO264, hA267, hO143, hA147, hO64, hA68, hO69, hA73, hO74, hA78, hO79, hA83, hO84, hA88, hO60, (show 2 ≤ y265.toInt from (by have t1 : 1 ≤ a258.toInt ∧ a256.toInt ≤ a258.toInt ∧ (a258.toInt = 1 ∨ a258.toInt = a256.toInt) := b260; have t2 : a258.toInt + 1 ≤ y265.toInt := b268; omega)), (show 0 ≤ y144.toInt from (by first | with_reducible exact q_fe b148 | (have t1 : 0 ≤ y144.toInt := b148; omega))), (show y144.toInt ≤ 20 from (by first | with_reducible exact q_fe b149 | (have t1 : y144.toInt ≤ 20 := b149; omega))), (show 0 ≤ y145.toInt + 20000 from (by first | with_reducible exact q_fe b150 | (have t1 : 0 ≤ y145.toInt + 20000 := b150; omega))), (show y145.toInt ≤ 20019 from (by first | with_reducible exact q_fe b255 | (have t1 : y145.toInt < 7 := b255; omega))), (show 0 ≤ y65.toInt from (by first | with_reducible exact q_fe b89 | (have t1 : 0 ≤ y65.toInt := b89; omega))), (show y65.toInt ≤ 220 from (by first | with_reducible exact q_fe b90 | (have t1 : y65.toInt ≤ 220 := b90; omega))), (show 0 ≤ y66.toInt from (by first | with_reducible exact q_fe b91 | (have t1 : 0 ≤ y66.toInt := b91; omega))), (show y66.toInt ≤ 21 from (by have t1 : 0 ≤ t4_1.toInt ∧ t4_1.toInt ≤ 1 := btt4_1; have t2 : y66.toInt ≤ t4_1.toInt + 20 := b106; omega)), (show 0 ≤ y70.toInt from (by first | with_reducible exact q_fe b92 | (have t1 : 0 ≤ y70.toInt := b92; omega))), (show y70.toInt ≤ 220 from (by first | with_reducible exact q_fe b93 | (have t1 : y70.toInt ≤ 220 := b93; omega))), (show 0 ≤ y71.toInt from (by first | with_reducible exact q_fe b94 | (have t1 : 0 ≤ y71.toInt := b94; omega))), (show y71.toInt ≤ 2 from (by have t1 : 0 ≤ t4_1.toInt ∧ t4_1.toInt ≤ 1 := btt4_1; have t2 : y71.toInt ≤ t4_1.toInt + 1 := b107; omega)), (show 0 ≤ y75.toInt from (by first | with_reducible exact q_fe b95 | (have t1 : 0 ≤ y75.toInt := b95; omega))), (show y75.toInt ≤ 220 from (by first | with_reducible exact q_fe b96 | (have t1 : y75.toInt ≤ 220 := b96; omega))), (show 0 ≤ y76.toInt from (by first | with_reducible exact q_fe b97 | (have t1 : 0 ≤ y76.toInt := b97; omega))), (show y76.toInt ≤ 1 from (by first | with_reducible exact q_fe b98 | (have t1 : y76.toInt ≤ 1 := b98; omega))), (show 0 ≤ y80.toInt from (by first | with_reducible exact q_fe b99 | (have t1 : 0 ≤ y80.toInt := b99; omega))), (show y80.toInt ≤ 220 from (by first | with_reducible exact q_fe b100 | (have t1 : y80.toInt ≤ 220 := b100; omega))), (show 0 ≤ y81.toInt from (by first | with_reducible exact q_fe b101 | (have t1 : 0 ≤ y81.toInt := b101; omega))), (show y81.toInt ≤ 1 from (by first | with_reducible exact q_fe b102 | (have t1 : y81.toInt ≤ 1 := b102; omega))), (show 0 ≤ y85.toInt from (by first | with_reducible exact q_fe b103 | (have t1 : 0 ≤ y85.toInt := b103; omega))), (show y85.toInt ≤ 220 from (by first | with_reducible exact q_fe b104 | (have t1 : y85.toInt ≤ 220 := b104; omega))), (show 0 ≤ y86.toInt from (by first | with_reducible exact q_fe b105 | (have t1 : 0 ≤ y86.toInt := b105; omega))), (show t0_0.toInt + 1 ≤ y265.toInt from (by first | with_reducible exact q_fe b272 | (have t1 : t0_0.toInt + 1 ≤ y265.toInt := b272; omega))), (show y265.toInt ≤ t0_0.toInt + 420003 from (by first | with_reducible exact q_fe b273 | (have t1 : y265.toInt ≤ t0_0.toInt + 420003 := b273; omega))), (show y66.toInt ≤ t4_1.toInt + 20 from (by first | with_reducible exact q_fe b106 | (have t1 : y66.toInt ≤ t4_1.toInt + 20 := b106; omega))), (show y71.toInt ≤ t4_1.toInt + 1 from (by first | with_reducible exact q_fe b107 | (have t1 : y71.toInt ≤ t4_1.toInt + 1 := b107; omega))), (show y145.toInt ≤ y265.toInt + 19998 from (by have t1 : y145.toInt < 7 := b255; have t2 : 0 + 1 ≤ y265.toInt := b269; omega)), (show y145.toInt ≤ y144.toInt + 19999 from (by first | with_reducible exact q_fe b151 | (have t1 : y145.toInt ≤ y144.toInt + 19999 := b151; omega))), (show y144.toInt ≤ y145.toInt + 20001 from (by first | with_reducible exact q_fe b152 | (have t1 : y144.toInt ≤ y145.toInt + 20001 := b152; omega))), (show y71.toInt ≤ y66.toInt + 1 from (by first | with_reducible exact q_fe b108 | (have t1 : y71.toInt ≤ y66.toInt + 1 := b108; omega))), (show (y265, f266, y144, y145, f146, y65, y66, f67, y70, y71, f72, y75, y76, f77, y80, y81, f82, y85, y86, f87, y61, y62, y63) = (F_Wri_writeShort A B C x3 t0_0 t1_0 t2_0 t2_1 t3_0 t4_0 t4_1 t5_0 t6_0 t6_1 t7_0 t8_0 t8_1 t9_0 t10_0 t10_1 t11_0 t12_0 t12_1 t13_0 t14_0 t14_1 t14_2) from Eq.trans (by rw [e279, e278, F_Wri_writeShort_c64.eq_1]) hR280)⟩) d_12_7_67
theorem d_12_8_0 : decode prog_12_method_8_code 0 = .ok (.aload_n 0, 1) := by decide +kernel
theorem d_12_8_1 : decode prog_12_method_8_code 1 = .ok (.getfield 7, 3) := by decide +kernel
theorem d_12_8_4 : decode prog_12_method_8_code 4 = .ok (.aload_n 1, 1) := by decide +kernel
theorem d_12_8_5 : decode prog_12_method_8_code 5 = .ok (.lload_n 2, 1) := by decide +kernel
theorem d_12_8_6 : decode prog_12_method_8_code 6 = .ok (.invokevirtual 173, 3) := by decide +kernel
set_option maxRecDepth 100000 in
theorem w_1620 : (Cond.methodLink "NumberHouse$Writer" (173 : Nat) ({ cls := "NumberHouse$Floats", name := "exponent", desc := "(J)I" } : MethodName)) ∈ q_tbl := q_of7 180 rfl (by decide +kernel)
theorem LV_Wri_173 : q_LV "NumberHouse$Writer" 173 y_Flo_exponent prog_7_method_2_code 3 (some .int) 1 := ⟨w_1159, w_8, w_1620, w_1157, w_1158, ⟨by decide, by decide, by decide +kernel⟩⟩
theorem d_12_8_9 : decode prog_12_method_8_code 9 = .ok (.ifCond .le 8, 3) := by decide +kernel
theorem d_12_8_17 : decode prog_12_method_8_code 17 = .ok (.ldc 179, 2) := by decide +kernel
theorem d_12_8_19 : decode prog_12_method_8_code 19 = .ok (.invokevirtual 129, 3) := by decide +kernel
set_option maxRecDepth 100000 in
theorem w_1605 : (Cond.methodLink "NumberHouse$Writer" (129 : Nat) ({ cls := "NumberHouse$Sheet", name := "addText", desc := "(Ljava/lang/String;)V" } : MethodName)) ∈ q_tbl := q_of7 165 rfl (by decide +kernel)
theorem LV_Wri_129 : q_LV "NumberHouse$Writer" 129 y_She_addText prog_11_method_4_code 3 none 1 := ⟨w_1608, w_2, w_1605, w_1606, w_1607, ⟨by decide, by decide, by decide +kernel⟩⟩
theorem d_12_8_22 : decode prog_12_method_8_code 22 = .ok (.aload_n 1, 1) := by decide +kernel
theorem d_12_8_23 : decode prog_12_method_8_code 23 = .ok (.getfield 181, 3) := by decide +kernel
set_option maxRecDepth 100000 in
theorem w_232 : (Cond.fieldLink "NumberHouse$Writer" (181 : Nat) "NumberHouse$Floats" "fractionBits" "I") ∈ q_tbl := q_of1 232 rfl (by decide +kernel)
theorem d_12_8_26 : decode prog_12_method_8_code 26 = .ok (.iconst 3, 1) := by decide +kernel
theorem d_12_8_27 : decode prog_12_method_8_code 27 = .ok (.iadd, 1) := by decide +kernel
theorem d_12_8_28 : decode prog_12_method_8_code 28 = .ok (.iconst 4, 1) := by decide +kernel
theorem d_12_8_29 : decode prog_12_method_8_code 29 = .ok (.idiv, 1) := by decide +kernel
theorem d_12_8_30 : decode prog_12_method_8_code 30 = .ok (.istore 4, 2) := by decide +kernel
theorem d_12_8_32 : decode prog_12_method_8_code 32 = .ok (.aload_n 1, 1) := by decide +kernel
theorem d_12_8_33 : decode prog_12_method_8_code 33 = .ok (.lload_n 2, 1) := by decide +kernel
theorem d_12_8_34 : decode prog_12_method_8_code 34 = .ok (.invokevirtual 184, 3) := by decide +kernel
set_option maxRecDepth 100000 in
theorem w_1623 : (Cond.methodLink "NumberHouse$Writer" (184 : Nat) ({ cls := "NumberHouse$Floats", name := "fraction", desc := "(J)J" } : MethodName)) ∈ q_tbl := q_of7 183 rfl (by decide +kernel)
theorem LV_Wri_184 : q_LV "NumberHouse$Writer" 184 y_Flo_fraction prog_7_method_3_code 3 (some .long) 1 := ⟨w_1171, w_8, w_1623, w_1169, w_1170, ⟨by decide, by decide, by decide +kernel⟩⟩
theorem d_12_8_37 : decode prog_12_method_8_code 37 = .ok (.iconst 4, 1) := by decide +kernel
theorem d_12_8_38 : decode prog_12_method_8_code 38 = .ok (.iload 4, 2) := by decide +kernel
theorem d_12_8_40 : decode prog_12_method_8_code 40 = .ok (.imul, 1) := by decide +kernel
theorem d_12_8_41 : decode prog_12_method_8_code 41 = .ok (.aload_n 1, 1) := by decide +kernel
theorem d_12_8_42 : decode prog_12_method_8_code 42 = .ok (.getfield 181, 3) := by decide +kernel
theorem d_12_8_45 : decode prog_12_method_8_code 45 = .ok (.isub, 1) := by decide +kernel
theorem d_12_8_46 : decode prog_12_method_8_code 46 = .ok (.lshl, 1) := by decide +kernel
theorem d_12_8_47 : decode prog_12_method_8_code 47 = .ok (.lstore 5, 2) := by decide +kernel
theorem d_12_8_49 : decode prog_12_method_8_code 49 = .ok (.iconst 0, 1) := by decide +kernel
theorem d_12_8_50 : decode prog_12_method_8_code 50 = .ok (.istore 7, 2) := by decide +kernel
theorem d_12_8_52 : decode prog_12_method_8_code 52 = .ok (.iload 7, 2) := by decide +kernel
theorem d_12_8_54 : decode prog_12_method_8_code 54 = .ok (.iload 4, 2) := by decide +kernel
theorem d_12_8_56 : decode prog_12_method_8_code 56 = .ok (.iconst 1, 1) := by decide +kernel
theorem d_12_8_57 : decode prog_12_method_8_code 57 = .ok (.isub, 1) := by decide +kernel
theorem d_12_8_83 : decode prog_12_method_8_code 83 = .ok (.iload 4, 2) := by decide +kernel
theorem d_12_8_85 : decode prog_12_method_8_code 85 = .ok (.iconst 1, 1) := by decide +kernel
theorem d_12_8_86 : decode prog_12_method_8_code 86 = .ok (.isub, 1) := by decide +kernel
theorem d_12_8_87 : decode prog_12_method_8_code 87 = .ok (.istore 8, 2) := by decide +kernel
theorem d_12_8_89 : decode prog_12_method_8_code 89 = .ok (.iload 8, 2) := by decide +kernel
theorem d_12_8_91 : decode prog_12_method_8_code 91 = .ok (.iload 7, 2) := by decide +kernel
theorem d_12_8_93 : decode prog_12_method_8_code 93 = .ok (.if_icmp .lt 32, 3) := by decide +kernel
theorem d_12_8_125 : decode prog_12_method_8_code 125 = .ok (.aload_n 0, 1) := by decide +kernel
theorem d_12_8_126 : decode prog_12_method_8_code 126 = .ok (.getfield 7, 3) := by decide +kernel
theorem d_12_8_129 : decode prog_12_method_8_code 129 = .ok (.bipush 112, 2) := by decide +kernel
theorem d_12_8_131 : decode prog_12_method_8_code 131 = .ok (.invokevirtual 62, 3) := by decide +kernel
theorem d_12_8_134 : decode prog_12_method_8_code 134 = .ok (.aload_n 0, 1) := by decide +kernel
theorem d_12_8_135 : decode prog_12_method_8_code 135 = .ok (.aload_n 1, 1) := by decide +kernel
theorem d_12_8_136 : decode prog_12_method_8_code 136 = .ok (.lload_n 2, 1) := by decide +kernel
theorem d_12_8_137 : decode prog_12_method_8_code 137 = .ok (.invokevirtual 190, 3) := by decide +kernel
set_option maxRecDepth 100000 in
theorem w_1625 : (Cond.methodLink "NumberHouse$Writer" (190 : Nat) ({ cls := "NumberHouse$Floats", name := "power", desc := "(J)I" } : MethodName)) ∈ q_tbl := q_of7 185 rfl (by decide +kernel)
theorem LV_Wri_190 : q_LV "NumberHouse$Writer" 190 y_Flo_power prog_7_method_13_code 3 (some .int) 1 := ⟨w_1179, w_8, w_1625, w_1177, w_1178, ⟨by decide, by decide, by decide +kernel⟩⟩
theorem d_12_8_140 : decode prog_12_method_8_code 140 = .ok (.aload_n 1, 1) := by decide +kernel
theorem d_12_8_141 : decode prog_12_method_8_code 141 = .ok (.getfield 181, 3) := by decide +kernel
theorem d_12_8_144 : decode prog_12_method_8_code 144 = .ok (.iadd, 1) := by decide +kernel
theorem d_12_8_145 : decode prog_12_method_8_code 145 = .ok (.invokevirtual 170, 3) := by decide +kernel
theorem d_12_8_148 : decode prog_12_method_8_code 148 = .ok (.return_, 1) := by decide +kernel
theorem d_12_8_96 : decode prog_12_method_8_code 96 = .ok (.aload_n 0, 1) := by decide +kernel
theorem d_12_8_97 : decode prog_12_method_8_code 97 = .ok (.getfield 7, 3) := by decide +kernel
theorem d_12_8_100 : decode prog_12_method_8_code 100 = .ok (.ldc 54, 2) := by decide +kernel
theorem d_12_8_102 : decode prog_12_method_8_code 102 = .ok (.lload 5, 2) := by decide +kernel
theorem d_12_8_104 : decode prog_12_method_8_code 104 = .ok (.iconst 4, 1) := by decide +kernel
theorem d_12_8_105 : decode prog_12_method_8_code 105 = .ok (.iload 8, 2) := by decide +kernel
theorem d_12_8_107 : decode prog_12_method_8_code 107 = .ok (.imul, 1) := by decide +kernel
theorem d_12_8_108 : decode prog_12_method_8_code 108 = .ok (.lushr, 1) := by decide +kernel
theorem d_12_8_109 : decode prog_12_method_8_code 109 = .ok (.l2i, 1) := by decide +kernel
theorem d_12_8_110 : decode prog_12_method_8_code 110 = .ok (.bipush 15, 2) := by decide +kernel
theorem d_12_8_112 : decode prog_12_method_8_code 112 = .ok (.iand, 1) := by decide +kernel
theorem d_12_8_113 : decode prog_12_method_8_code 113 = .ok (.invokevirtual 56, 3) := by decide +kernel
theorem d_12_8_116 : decode prog_12_method_8_code 116 = .ok (.invokevirtual 62, 3) := by decide +kernel
theorem d_12_8_119 : decode prog_12_method_8_code 119 = .ok (.iinc 8 (-1), 3) := by decide +kernel
theorem d_12_8_122 : decode prog_12_method_8_code 122 = .ok (.goto (-33), 3) := by decide +kernel
theorem d_12_8_58 : decode prog_12_method_8_code 58 = .ok (.if_icmp .ge 25, 3) := by decide +kernel
theorem d_12_8_61 : decode prog_12_method_8_code 61 = .ok (.lload 5, 2) := by decide +kernel
theorem d_12_8_63 : decode prog_12_method_8_code 63 = .ok (.iconst 4, 1) := by decide +kernel
theorem d_12_8_64 : decode prog_12_method_8_code 64 = .ok (.iload 7, 2) := by decide +kernel
theorem d_12_8_66 : decode prog_12_method_8_code 66 = .ok (.imul, 1) := by decide +kernel
theorem d_12_8_67 : decode prog_12_method_8_code 67 = .ok (.lushr, 1) := by decide +kernel
theorem d_12_8_68 : decode prog_12_method_8_code 68 = .ok (.ldc2_w 188, 3) := by decide +kernel
set_option maxRecDepth 100000 in
theorem w_1624 : (Cond.constantLong "NumberHouse$Writer" (188 : Nat) (15 : Int64)) ∈ q_tbl := q_of7 184 rfl (by decide +kernel)
theorem d_12_8_71 : decode prog_12_method_8_code 71 = .ok (.land, 1) := by decide +kernel
theorem d_12_8_72 : decode prog_12_method_8_code 72 = .ok (.lconst 0, 1) := by decide +kernel
theorem d_12_8_73 : decode prog_12_method_8_code 73 = .ok (.lcmp, 1) := by decide +kernel
theorem d_12_8_74 : decode prog_12_method_8_code 74 = .ok (.ifCond .ne 9, 3) := by decide +kernel
theorem d_12_8_77 : decode prog_12_method_8_code 77 = .ok (.iinc 7 1, 3) := by decide +kernel
theorem d_12_8_80 : decode prog_12_method_8_code 80 = .ok (.goto (-28), 3) := by decide +kernel
theorem d_12_8_12 : decode prog_12_method_8_code 12 = .ok (.ldc 177, 2) := by decide +kernel
theorem d_12_8_14 : decode prog_12_method_8_code 14 = .ok (.goto 5, 3) := by decide +kernel
def y_Wri_writeHexadecimal : MethodName := ⟨"NumberHouse$Writer", "writeHexadecimal", "(LNumberHouse$Floats;J)V"⟩
def F_Wri_writeHexadecimal_c145 (K_F_Wri_writeHexadecimal_L52 : Int32 → (Int32 × (Nat → Int64))) (K_F_Wri_writeHexadecimal_L89 : Int32 → Int32 → (Nat → Int64) → (Int32 × (Nat → Int64))) (A : Int32) (B : Int32) (C : Int32) (x3 : Int64) (t0_0 : Int32) (t1_0 : (Nat → Int64)) (t2_0 : Int64) (t2_1 : Int32) (t2_2 : Int32) (p30 : (Int32 × (Nat → Int64))) (j56 : Int64) (a42 : Int32) (y23 : Int32) (f24 : (Nat → Int64)) (lx59 : Int32) (lx84 : Int32) (lx85 : Int32) (lx86 : (Nat → Int64)) (p115 : (Int32 × (Nat → Int64))) (p144 : (Int32 × (Nat → Int64))) : Int32 × (Nat → Int64) := ((p144.1 : Int32), (p144.2 : (Nat → Int64)))
def F_Wri_writeHexadecimal_c131 (K_F_Wri_writeHexadecimal_L52 : Int32 → (Int32 × (Nat → Int64))) (K_F_Wri_writeHexadecimal_L89 : Int32 → Int32 → (Nat → Int64) → (Int32 × (Nat → Int64))) (A : Int32) (B : Int32) (C : Int32) (x3 : Int64) (t0_0 : Int32) (t1_0 : (Nat → Int64)) (t2_0 : Int64) (t2_1 : Int32) (t2_2 : Int32) (p30 : (Int32 × (Nat → Int64))) (j56 : Int64) (a42 : Int32) (y23 : Int32) (f24 : (Nat → Int64)) (lx59 : Int32) (lx84 : Int32) (lx85 : Int32) (lx86 : (Nat → Int64)) (p115 : (Int32 × (Nat → Int64))) : Int32 × (Nat → Int64) := F_Wri_writeHexadecimal_c145 K_F_Wri_writeHexadecimal_L52 K_F_Wri_writeHexadecimal_L89 A B C x3 t0_0 t1_0 t2_0 t2_1 t2_2 p30 j56 a42 y23 f24 lx59 lx84 lx85 lx86 p115 ((F_Wri_writeSigned (((F_Flo_power A B C x3) : Int32) + A : Int32) (p115.1 : Int32) (p115.2 : (Nat → Int64))) : (Int32 × (Nat → Int64)))
def F_Wri_writeHexadecimal_c116 (K_F_Wri_writeHexadecimal_L52 : Int32 → (Int32 × (Nat → Int64))) (K_F_Wri_writeHexadecimal_L89 : Int32 → Int32 → (Nat → Int64) → (Int32 × (Nat → Int64))) (A : Int32) (B : Int32) (C : Int32) (x3 : Int64) (t0_0 : Int32) (t1_0 : (Nat → Int64)) (t2_0 : Int64) (t2_1 : Int32) (t2_2 : Int32) (p30 : (Int32 × (Nat → Int64))) (j56 : Int64) (a42 : Int32) (y23 : Int32) (f24 : (Nat → Int64)) (lx59 : Int32) (lx84 : Int32) (lx85 : Int32) (lx86 : (Nat → Int64)) (p182 : (Int32 × (Nat → Int64))) : Int32 × (Nat → Int64) := K_F_Wri_writeHexadecimal_L89 (lx84 + (-1) : Int32) (p182.1 : Int32) (p182.2 : (Nat → Int64))
def F_Wri_writeHexadecimal_L89 (K_F_Wri_writeHexadecimal_L52 : Int32 → (Int32 × (Nat → Int64))) (A : Int32) (B : Int32) (C : Int32) (x3 : Int64) (t0_0 : Int32) (t1_0 : (Nat → Int64)) (t2_0 : Int64) (t2_1 : Int32) (t2_2 : Int32) (p30 : (Int32 × (Nat → Int64))) (j56 : Int64) (a42 : Int32) (y23 : Int32) (f24 : (Nat → Int64)) (lx59 : Int32) : Nat → Int32 → Int32 → (Nat → Int64) → (Int32 × (Nat → Int64))
  | 0, _, _, _ => default
  | fm + 1, lx84, lx85, lx86 => if lx84 < lx59 then (F_Wri_writeHexadecimal_c131 K_F_Wri_writeHexadecimal_L52 (F_Wri_writeHexadecimal_L89 K_F_Wri_writeHexadecimal_L52 A B C x3 t0_0 t1_0 t2_0 t2_1 t2_2 p30 j56 a42 y23 f24 lx59 fm) A B C x3 t0_0 t1_0 t2_0 t2_1 t2_2 p30 j56 a42 y23 f24 lx59 lx84 lx85 lx86 ((F_She_add_p (11008 : Int32) (1376 : Int32) (1000000 : Int32) (112 : Int32) lx85 lx86) : (Int32 × (Nat → Int64)))) else (F_Wri_writeHexadecimal_c116 K_F_Wri_writeHexadecimal_L52 (F_Wri_writeHexadecimal_L89 K_F_Wri_writeHexadecimal_L52 A B C x3 t0_0 t1_0 t2_0 t2_1 t2_2 p30 j56 a42 y23 f24 lx59 fm) A B C x3 t0_0 t1_0 t2_0 t2_1 t2_2 p30 j56 a42 y23 f24 lx59 lx84 lx85 lx86 ((F_She_add_p (11008 : Int32) (1376 : Int32) (1000000 : Int32) ((F_jStr_charAt_22 ((((j56.toUInt64 >>> ((4 * lx84 : Int32).toInt64.toUInt64 &&& Int64.toUInt64 63)).toInt64 : Int64).toInt32 : Int32) &&& 15 : Int32)) : Int32) lx85 lx86) : (Int32 × (Nat → Int64))))
def F_Wri_writeHexadecimal_J83 (K_F_Wri_writeHexadecimal_L52 : Int32 → (Int32 × (Nat → Int64))) (A : Int32) (B : Int32) (C : Int32) (x3 : Int64) (t0_0 : Int32) (t1_0 : (Nat → Int64)) (t2_0 : Int64) (t2_1 : Int32) (t2_2 : Int32) (p30 : (Int32 × (Nat → Int64))) (j56 : Int64) (a42 : Int32) (y23 : Int32) (f24 : (Nat → Int64)) (lx59 : Int32) : Int32 × (Nat → Int64) := F_Wri_writeHexadecimal_L89 K_F_Wri_writeHexadecimal_L52 A B C x3 t0_0 t1_0 t2_0 t2_1 t2_2 p30 j56 a42 y23 f24 lx59 (((a42 - 1 : Int32).toInt - ((-1))).toNat + 1) (a42 - 1 : Int32) y23 f24
def F_Wri_writeHexadecimal_L52 (A : Int32) (B : Int32) (C : Int32) (x3 : Int64) (t0_0 : Int32) (t1_0 : (Nat → Int64)) (t2_0 : Int64) (t2_1 : Int32) (t2_2 : Int32) (p30 : (Int32 × (Nat → Int64))) (j56 : Int64) (a42 : Int32) (y23 : Int32) (f24 : (Nat → Int64)) : Nat → Int32 → (Int32 × (Nat → Int64))
  | 0, _ => default
  | fm + 1, lx59 => if (a42 - 1 : Int32) ≤ lx59 then (F_Wri_writeHexadecimal_J83 (F_Wri_writeHexadecimal_L52 A B C x3 t0_0 t1_0 t2_0 t2_1 t2_2 p30 j56 a42 y23 f24 fm) A B C x3 t0_0 t1_0 t2_0 t2_1 t2_2 p30 j56 a42 y23 f24 lx59) else (if (lg_cmp (((j56.toUInt64 >>> ((4 * lx59 : Int32).toInt64.toUInt64 &&& Int64.toUInt64 63)).toInt64 : Int64) &&& 15 : Int64) 0 : Int32) = (0 : Int32) then (F_Wri_writeHexadecimal_L52 A B C x3 t0_0 t1_0 t2_0 t2_1 t2_2 p30 j56 a42 y23 f24 fm (lx59 + 1 : Int32)) else (F_Wri_writeHexadecimal_J83 (F_Wri_writeHexadecimal_L52 A B C x3 t0_0 t1_0 t2_0 t2_1 t2_2 p30 j56 a42 y23 f24 fm) A B C x3 t0_0 t1_0 t2_0 t2_1 t2_2 p30 j56 a42 y23 f24 lx59))
def F_Wri_writeHexadecimal_c19 (A : Int32) (B : Int32) (C : Int32) (x3 : Int64) (t0_0 : Int32) (t1_0 : (Nat → Int64)) (t2_0 : Int64) (t2_1 : Int32) (t2_2 : Int32) (p30 : (Int32 × (Nat → Int64))) : Int32 × (Nat → Int64) := F_Wri_writeHexadecimal_L52 A B C x3 t0_0 t1_0 t2_0 t2_1 t2_2 p30 (((F_Flo_fraction A B C x3) : Int64) <<< (((4 * ((A + 3 : Int32) / 4 : Int32) : Int32) - A : Int32).toInt64 &&& 63) : Int64) ((A + 3 : Int32) / 4 : Int32) (p30.1 : Int32) (p30.2 : (Nat → Int64)) ((13 - (0 : Int32).toInt).toNat + 1) 0
def F_Wri_writeHexadecimal_c145_13 (K_F_Wri_writeHexadecimal_L52_9 : Int32 → (Int32 × (Nat → Int64))) (K_F_Wri_writeHexadecimal_L89_11 : Int32 → Int32 → (Nat → Int64) → (Int32 × (Nat → Int64))) (A : Int32) (B : Int32) (C : Int32) (x3 : Int64) (t0_0 : Int32) (t1_0 : (Nat → Int64)) (t2_0 : Int64) (t2_1 : Int32) (t2_2 : Int32) (p225 : (Int32 × (Nat → Int64))) (j251 : Int64) (a237 : Int32) (y218 : Int32) (f219 : (Nat → Int64)) (lx254 : Int32) (lx279 : Int32) (lx280 : Int32) (lx281 : (Nat → Int64)) (p310 : (Int32 × (Nat → Int64))) (p339 : (Int32 × (Nat → Int64))) : Int32 × (Nat → Int64) := ((p339.1 : Int32), (p339.2 : (Nat → Int64)))
def F_Wri_writeHexadecimal_c131_12 (K_F_Wri_writeHexadecimal_L52_9 : Int32 → (Int32 × (Nat → Int64))) (K_F_Wri_writeHexadecimal_L89_11 : Int32 → Int32 → (Nat → Int64) → (Int32 × (Nat → Int64))) (A : Int32) (B : Int32) (C : Int32) (x3 : Int64) (t0_0 : Int32) (t1_0 : (Nat → Int64)) (t2_0 : Int64) (t2_1 : Int32) (t2_2 : Int32) (p225 : (Int32 × (Nat → Int64))) (j251 : Int64) (a237 : Int32) (y218 : Int32) (f219 : (Nat → Int64)) (lx254 : Int32) (lx279 : Int32) (lx280 : Int32) (lx281 : (Nat → Int64)) (p310 : (Int32 × (Nat → Int64))) : Int32 × (Nat → Int64) := F_Wri_writeHexadecimal_c145_13 K_F_Wri_writeHexadecimal_L52_9 K_F_Wri_writeHexadecimal_L89_11 A B C x3 t0_0 t1_0 t2_0 t2_1 t2_2 p225 j251 a237 y218 f219 lx254 lx279 lx280 lx281 p310 ((F_Wri_writeSigned (((F_Flo_power A B C x3) : Int32) + A : Int32) (p310.1 : Int32) (p310.2 : (Nat → Int64))) : (Int32 × (Nat → Int64)))
def F_Wri_writeHexadecimal_c116_14 (K_F_Wri_writeHexadecimal_L52_9 : Int32 → (Int32 × (Nat → Int64))) (K_F_Wri_writeHexadecimal_L89_11 : Int32 → Int32 → (Nat → Int64) → (Int32 × (Nat → Int64))) (A : Int32) (B : Int32) (C : Int32) (x3 : Int64) (t0_0 : Int32) (t1_0 : (Nat → Int64)) (t2_0 : Int64) (t2_1 : Int32) (t2_2 : Int32) (p225 : (Int32 × (Nat → Int64))) (j251 : Int64) (a237 : Int32) (y218 : Int32) (f219 : (Nat → Int64)) (lx254 : Int32) (lx279 : Int32) (lx280 : Int32) (lx281 : (Nat → Int64)) (p377 : (Int32 × (Nat → Int64))) : Int32 × (Nat → Int64) := K_F_Wri_writeHexadecimal_L89_11 (lx279 + (-1) : Int32) (p377.1 : Int32) (p377.2 : (Nat → Int64))
def F_Wri_writeHexadecimal_L89_11 (K_F_Wri_writeHexadecimal_L52_9 : Int32 → (Int32 × (Nat → Int64))) (A : Int32) (B : Int32) (C : Int32) (x3 : Int64) (t0_0 : Int32) (t1_0 : (Nat → Int64)) (t2_0 : Int64) (t2_1 : Int32) (t2_2 : Int32) (p225 : (Int32 × (Nat → Int64))) (j251 : Int64) (a237 : Int32) (y218 : Int32) (f219 : (Nat → Int64)) (lx254 : Int32) : Nat → Int32 → Int32 → (Nat → Int64) → (Int32 × (Nat → Int64))
  | 0, _, _, _ => default
  | fm + 1, lx279, lx280, lx281 => if lx279 < lx254 then (F_Wri_writeHexadecimal_c131_12 K_F_Wri_writeHexadecimal_L52_9 (F_Wri_writeHexadecimal_L89_11 K_F_Wri_writeHexadecimal_L52_9 A B C x3 t0_0 t1_0 t2_0 t2_1 t2_2 p225 j251 a237 y218 f219 lx254 fm) A B C x3 t0_0 t1_0 t2_0 t2_1 t2_2 p225 j251 a237 y218 f219 lx254 lx279 lx280 lx281 ((F_She_add_p (11008 : Int32) (1376 : Int32) (1000000 : Int32) (112 : Int32) lx280 lx281) : (Int32 × (Nat → Int64)))) else (F_Wri_writeHexadecimal_c116_14 K_F_Wri_writeHexadecimal_L52_9 (F_Wri_writeHexadecimal_L89_11 K_F_Wri_writeHexadecimal_L52_9 A B C x3 t0_0 t1_0 t2_0 t2_1 t2_2 p225 j251 a237 y218 f219 lx254 fm) A B C x3 t0_0 t1_0 t2_0 t2_1 t2_2 p225 j251 a237 y218 f219 lx254 lx279 lx280 lx281 ((F_She_add_p (11008 : Int32) (1376 : Int32) (1000000 : Int32) ((F_jStr_charAt_22 ((((j251.toUInt64 >>> ((4 * lx279 : Int32).toInt64.toUInt64 &&& Int64.toUInt64 63)).toInt64 : Int64).toInt32 : Int32) &&& 15 : Int32)) : Int32) lx280 lx281) : (Int32 × (Nat → Int64))))
def F_Wri_writeHexadecimal_J83_10 (K_F_Wri_writeHexadecimal_L52_9 : Int32 → (Int32 × (Nat → Int64))) (A : Int32) (B : Int32) (C : Int32) (x3 : Int64) (t0_0 : Int32) (t1_0 : (Nat → Int64)) (t2_0 : Int64) (t2_1 : Int32) (t2_2 : Int32) (p225 : (Int32 × (Nat → Int64))) (j251 : Int64) (a237 : Int32) (y218 : Int32) (f219 : (Nat → Int64)) (lx254 : Int32) : Int32 × (Nat → Int64) := F_Wri_writeHexadecimal_L89_11 K_F_Wri_writeHexadecimal_L52_9 A B C x3 t0_0 t1_0 t2_0 t2_1 t2_2 p225 j251 a237 y218 f219 lx254 (((a237 - 1 : Int32).toInt - ((-1))).toNat + 1) (a237 - 1 : Int32) y218 f219
def F_Wri_writeHexadecimal_L52_9 (A : Int32) (B : Int32) (C : Int32) (x3 : Int64) (t0_0 : Int32) (t1_0 : (Nat → Int64)) (t2_0 : Int64) (t2_1 : Int32) (t2_2 : Int32) (p225 : (Int32 × (Nat → Int64))) (j251 : Int64) (a237 : Int32) (y218 : Int32) (f219 : (Nat → Int64)) : Nat → Int32 → (Int32 × (Nat → Int64))
  | 0, _ => default
  | fm + 1, lx254 => if (a237 - 1 : Int32) ≤ lx254 then (F_Wri_writeHexadecimal_J83_10 (F_Wri_writeHexadecimal_L52_9 A B C x3 t0_0 t1_0 t2_0 t2_1 t2_2 p225 j251 a237 y218 f219 fm) A B C x3 t0_0 t1_0 t2_0 t2_1 t2_2 p225 j251 a237 y218 f219 lx254) else (if (lg_cmp (((j251.toUInt64 >>> ((4 * lx254 : Int32).toInt64.toUInt64 &&& Int64.toUInt64 63)).toInt64 : Int64) &&& 15 : Int64) 0 : Int32) = (0 : Int32) then (F_Wri_writeHexadecimal_L52_9 A B C x3 t0_0 t1_0 t2_0 t2_1 t2_2 p225 j251 a237 y218 f219 fm (lx254 + 1 : Int32)) else (F_Wri_writeHexadecimal_J83_10 (F_Wri_writeHexadecimal_L52_9 A B C x3 t0_0 t1_0 t2_0 t2_1 t2_2 p225 j251 a237 y218 f219 fm) A B C x3 t0_0 t1_0 t2_0 t2_1 t2_2 p225 j251 a237 y218 f219 lx254))
def F_Wri_writeHexadecimal_c19_8 (A : Int32) (B : Int32) (C : Int32) (x3 : Int64) (t0_0 : Int32) (t1_0 : (Nat → Int64)) (t2_0 : Int64) (t2_1 : Int32) (t2_2 : Int32) (p225 : (Int32 × (Nat → Int64))) : Int32 × (Nat → Int64) := F_Wri_writeHexadecimal_L52_9 A B C x3 t0_0 t1_0 t2_0 t2_1 t2_2 p225 (((F_Flo_fraction A B C x3) : Int64) <<< (((4 * ((A + 3 : Int32) / 4 : Int32) : Int32) - A : Int32).toInt64 &&& 63) : Int64) ((A + 3 : Int32) / 4 : Int32) (p225.1 : Int32) (p225.2 : (Nat → Int64)) ((13 - (0 : Int32).toInt).toNat + 1) 0
def F_Wri_writeHexadecimal (A : Int32) (B : Int32) (C : Int32) (x3 : Int64) (t0_0 : Int32) (t1_0 : (Nat → Int64)) (t2_0 : Int64) (t2_1 : Int32) (t2_2 : Int32) : Int32 × (Nat → Int64) := if ((F_Flo_exponent A B C x3) : Int32) ≤ (0 : Int32) then (F_Wri_writeHexadecimal_c19 A B C x3 t0_0 t1_0 t2_0 t2_1 t2_2 ((F_She_addText_28 (11008 : Int32) (1376 : Int32) (1000000 : Int32) t0_0 t1_0) : (Int32 × (Nat → Int64)))) else (F_Wri_writeHexadecimal_c19_8 A B C x3 t0_0 t1_0 t2_0 t2_1 t2_2 ((F_She_addText_27 (11008 : Int32) (1376 : Int32) (1000000 : Int32) t0_0 t1_0) : (Int32 × (Nat → Int64))))
set_option maxRecDepth 100000 in
set_option maxHeartbeats 4000000 in
theorem X_Wri_writeHexadecimal (l : Launch) (D : va_G) (g : Nat → ClassId) (q : Nat → Nat) (ws : va_W) (k2 : Nat) (A B C : Int32) (hB2 : q_isFlo (nsh g q) q k2 A B C) (x3 : Int64) (hI : q_I (nsh g q) q ws) (t0_0 : Int32) (hT0 : ws[3]? = (some (q 3, .inr (1, [.ref (q 4), .int 11008, .int t0_0])) : Option (Nat × va_E))) (t1_0 : (Nat → Int64)) (hT1 : ws[4]? = (some (q 4, .inl (g 1, (1376 : Int32).toNatClampNeg, .inr (.inl t1_0))) : Option (Nat × va_E))) (t2_0 : Int64) (t2_1 : Int32) (t2_2 : Int32) (hT2 : ws[k2]? = (some (q k2, .inr (6, [.int A, .int B, .int C, .long t2_0, .int t2_1, .ref (q 9), .int t2_2])) : Option (Nat × va_E))) (pre0 : t0_0.toInt ≤ 10) : q_mV l y_Wri_writeHexadecimal prog_12_method_8_code 9 6 0 0 D g [.ref (q 39), .ref (q k2), .long x3] ws (fun u => q_I (nsh g q) q u ∧ q_un ws u [3, 4] ∧ ∃ (u0_0 : Int32) (u1_0 : (Nat → Int64)), u[3]? = (some (q 3, .inr (1, [.ref (q 4), .int 11008, .int u0_0])) : Option (Nat × va_E)) ∧ u[4]? = (some (q 4, .inl (g 1, (1376 : Int32).toNatClampNeg, .inr (.inl u1_0))) : Option (Nat × va_E)) ∧ (t0_0.toInt + 5 ≤ u0_0.toInt) ∧ (u0_0.toInt ≤ t0_0.toInt + 24) ∧ (u0_0.toInt ≤ A.toInt + 4) ∧ (u0_0, u1_0) = (F_Wri_writeHexadecimal A B C x3 t0_0 t1_0 t2_0 t2_1 t2_2)) := by
  intro sz
  refine q_into (by decide) (Nat.le_of_ble_eq_true rfl) ?_
  intro p e s m below meth c ls hsz C0 V hl
  have hx := C0.1
  have hb := C0.2.1
  have hfk20 : q_F (23 ≤ A.toInt ∧ A.toInt ≤ 52) := hB2.2.1
  have btt0_0 := n_shW hI (n_h3 g q) hT0
  clear btt0_0
  replace pre0 : q_F (t0_0.toInt ≤ 10) := pre0
  have hF : q_un ws ws [3, 4] := q_u0
  have hl : lv_has ls 9 [(0, .ref (q 39)), (1, .ref (q k2)), (2, .long x3)] := hl
  refine lv_aload_n hx hb d_12_8_0 rfl (lv_at hl 0 rfl) ?_
  have hO10 := n_o39 hI
  refine q_get (ci := 9) (j := 0) (v := .ref (q 3)) C0 V i_Wri rfl rfl hO10 (by decide) w_329 rfl d_12_8_1 ?_
  refine lv_aload_n hx hb d_12_8_4 rfl (lv_at hl 1 rfl) ?_
  refine lv_lload_n hx hb d_12_8_5 rfl (lv_at hl 2 rfl) ?_
  refine q_goi V (q_runV (As := [.long x3]) (rest := [.ref (q 3)]) (d := 1) (mc := 0) (ms := 0) (ci := 6) C0 V rfl LV_Wri_173 (X_Flo_exponent l D g q ws k2 A B C hB2 x3 hI   _) rfl rfl hT2 rfl hl.1 rfl (Nat.le_of_ble_eq_true rfl) ⟨by decide, by decide⟩ ⟨Nat.le_of_ble_eq_true rfl, Nat.le_of_ble_eq_true rfl⟩ d_12_8_6) (fun a13 u11 H locs hp12 V => ?_)
  obtain ⟨rfl, b14, b15, hE16⟩ := hp12
  have e17 : a13 = (F_Flo_exponent A B C x3) := hE16
  clear b14
  clear b15
  refine lv_if_le (tgt := 17) hx hb d_12_8_9 (by decide) (fun c18 => ?_) (fun c18 => ?_)
  ·
    refine q_ldcs (i := 28) C0 V rfl rfl d_12_8_17 ?_
    refine q_gov V (q_runV (As := [.ref (g (8 + 2 * 28))]) (rest := []) (d := 5) (mc := 0) (ms := 0) (ci := 1) C0 V rfl LV_Wri_129 (X_She_addText_28 l D g q ws 3 11008 1376 1000000 (n_h3 g q)  hI t0_0 hT0 t1_0 hT1 (by have y0 : (11008 : Int32).toInt = 11008 := rfl; have y1 : (1376 : Int32).toInt = 1376 := rfl; have y2 : (1000000 : Int32).toInt = 1000000 := rfl; have t1 : t0_0.toInt ≤ 10 := pre0; omega) _) rfl rfl hT0 rfl hl.1 rfl (Nat.le_of_ble_eq_true rfl) ⟨by decide, by decide⟩ ⟨Nat.le_of_ble_eq_true rfl, Nat.le_of_ble_eq_true rfl⟩ d_12_8_19) (fun u20 H locs hp21 V => ?_)
    obtain ⟨hI, hZ9⟩ := hp21
    obtain ⟨hu29, hZ9⟩ := hZ9
    obtain ⟨y23, hZ9⟩ := hZ9
    obtain ⟨f24, hZ9⟩ := hZ9
    obtain ⟨hO22, hZ9⟩ := hZ9
    obtain ⟨hA25, hZ9⟩ := hZ9
    obtain ⟨b26, hZ9⟩ := hZ9
    obtain ⟨b27, hE28⟩ := hZ9
    replace hO22 : u20[3]? = (some (q 3, .inr (1, [.ref (q 4), .int 11008, .int y23])) : Option (Nat × va_E)) := hO22
    replace hA25 : u20[4]? = (some (q 4, .inl (g 1, (1376 : Int32).toNatClampNeg, .inr (.inl f24))) : Option (Nat × va_E)) := hA25
    obtain ⟨p30, e31⟩ : ∃ z, z = (F_She_addText_28 (11008 : Int32) (1376 : Int32) (1000000 : Int32) t0_0 t1_0) := ⟨_, rfl⟩
    have e32 : y23 = p30.1 := congrArg (fun z => z.1) (hE28.trans e31.symm)
    have e33 : f24 = p30.2 := congrArg (fun z => z.2) (hE28.trans e31.symm)
    replace b26 : q_F (t0_0.toInt + 4 ≤ y23.toInt) := b26
    replace b27 : q_F (y23.toInt ≤ t0_0.toInt + 4) := b27
    replace hT2 := (hu29 _ (by have z0 := hB2.2.2.2.2; simp only [List.mem_cons, List.not_mem_nil, or_false, not_or]; omega)).trans hT2
    replace hF := q_uc hF hu29 (by first | exact (q_sk (q_mi 0 rfl) (q_sk (q_mi 1 rfl) q_s0)) | simp)
    have hR34 := (show F_Wri_writeHexadecimal_c19 A B C x3 t0_0 t1_0 t2_0 t2_1 t2_2 p30 = (F_Wri_writeHexadecimal A B C x3 t0_0 t1_0 t2_0 t2_1 t2_2) from (by have c18x := c18; rw [e17] at c18x; rw [e31, F_Wri_writeHexadecimal.eq_1, if_pos c18x]))
    refine lv_aload_n hx hb d_12_8_22 rfl (lv_at hl 1 rfl) ?_
    refine q_get (ci := 6) (j := 0) (v := .int A) C0 V i_Flo rfl rfl hT2 (by decide) w_232 rfl d_12_8_23 ?_
    refine lv_iconst (v := 3) hx hb d_12_8_26 (by decide) ?_
    refine lv_iadd hx hb d_12_8_27 ?_
    obtain ⟨a39, e40⟩ := q_nm (A + 3 : Int32)
    refine q_ti (v := a39) e40 ?_
    have b41 : q_F (a39.toInt = A.toInt + 3) := (by rw [← e40]; show (A + 3 : Int32).toInt = A.toInt + 3; exact q_addI (x := A.toInt) (y := 3) rfl (by decide) (by first | with_reducible exact (q_fe hfk20).2 | with_reducible exact (q_fe hfk20).1 | (have t1 : 23 ≤ A.toInt ∧ A.toInt ≤ 52 := hfk20; omega)) (by first | with_reducible exact (q_fe hfk20).2 | with_reducible exact (q_fe hfk20).1 | (have t1 : 23 ≤ A.toInt ∧ A.toInt ≤ 52 := hfk20; omega)))
    refine lv_iconst (v := 4) hx hb d_12_8_28 (by decide) ?_
    refine lv_idiv hx hb d_12_8_29 (by decide) ?_
    obtain ⟨a42, e43⟩ := q_nm (a39 / 4 : Int32)
    refine q_ti (v := a42) e43 ?_
    have b44 : q_F (4 * a42.toInt ≤ a39.toInt ∧ a39.toInt ≤ 4 * a42.toInt + 3) := (by rw [← e43]; show 4 * (a39 / 4 : Int32).toInt ≤ a39.toInt ∧ a39.toInt ≤ 4 * (a39 / 4 : Int32).toInt + 3; exact (by have z := q_divI (y := 4) (rfl : a39.toInt = _) (by decide : (4 : Int32).toInt = 4) (by have t1 : 23 ≤ A.toInt ∧ A.toInt ≤ 52 := hfk20; have t2 : a39.toInt = A.toInt + 3 := b41; omega) (by decide); omega))
    refine lv_istore (lv' := [(4, .int a42), (0, .ref (q 39)), (1, .ref (q k2)), (2, .long x3)]) hx hb d_12_8_30 hl (by decide) rfl (fun ls hl => ?_)
    refine lv_aload_n hx hb d_12_8_32 rfl (lv_at hl 2 rfl) ?_
    refine lv_lload_n hx hb d_12_8_33 rfl (lv_at hl 3 rfl) ?_
    refine q_gol V (q_runV (As := [.long x3]) (rest := []) (d := 1) (mc := 0) (ms := 0) (ci := 6) C0 V rfl LV_Wri_184 (X_Flo_fraction l D g q u20 k2 A B C hB2 x3 hI   _) rfl rfl hT2 rfl hl.1 rfl (Nat.le_of_ble_eq_true rfl) ⟨by decide, by decide⟩ ⟨Nat.le_of_ble_eq_true rfl, Nat.le_of_ble_eq_true rfl⟩ d_12_8_34) (fun j47 u45 H locs hp46 V => ?_)
    obtain ⟨rfl, hE48⟩ := hp46
    have e49 : j47 = (F_Flo_fraction A B C x3) := hE48
    refine lv_iconst (v := 4) hx hb d_12_8_37 (by decide) ?_
    refine lv_iload hx hb d_12_8_38 (lv_at hl 0 rfl) ?_
    refine lv_imul hx hb d_12_8_40 ?_
    obtain ⟨a50, e51⟩ := q_nm (4 * a42 : Int32)
    refine q_ti (v := a50) e51 ?_
    refine lv_aload_n hx hb d_12_8_41 rfl (lv_at hl 2 rfl) ?_
    refine q_get (ci := 6) (j := 0) (v := .int A) C0 V i_Flo rfl rfl hT2 (by decide) w_232 rfl d_12_8_42 ?_
    refine lv_isub hx hb d_12_8_45 ?_
    obtain ⟨a53, e54⟩ := q_nm (a50 - A : Int32)
    refine q_ti (v := a53) e54 ?_
    refine lv_lshl hx hb d_12_8_46 rfl ?_
    obtain ⟨j56, e57⟩ := q_nm (j47 <<< (a53.toInt64 &&& 63) : Int64)
    refine q_tl (v := j56) e57 ?_
    refine lv_lstore (lv' := [(5, .long j56), (4, .int a42), (0, .ref (q 39)), (1, .ref (q k2)), (2, .long x3)]) hx hb d_12_8_47 hl (by decide) rfl (fun ls hl => ?_)
    refine lv_iconst (v := 0) hx hb d_12_8_49 (by decide) ?_
    refine lv_istore (lv' := [(7, .int 0), (5, .long j56), (4, .int a42), (0, .ref (q 39)), (1, .ref (q k2)), (2, .long x3)]) hx hb d_12_8_50 hl (by decide) rfl (fun ls hl => ?_)
    refine q_loop (X := Int32) (fun z H locs ls _ => q_F (0 ≤ z.toInt) ∧ q_F (z.toInt ≤ 13) ∧ q_Wd D g (va_A ws sz) s u20 H locs ∧ lv_has ls 9 [(7, .int z), (5, .long j56), (4, .int a42), (0, .ref (q 39)), (1, .ref (q k2)), (2, .long x3)] ∧ (∃ n, (13 - z.toInt).toNat < n ∧ F_Wri_writeHexadecimal_L52 A B C x3 t0_0 t1_0 t2_0 t2_1 t2_2 p30 j56 a42 y23 f24 n z = (F_Wri_writeHexadecimal A B C x3 t0_0 t1_0 t2_0 t2_1 t2_2))) (fun z => (13 - z.toInt).toNat) ?_ ((0 : Int32)) _ _ _ u20 ⟨(show q_F (0 ≤ 0) from (show 0 ≤ 0 from by omega)), (show q_F (0 ≤ 13) from (show 0 ≤ 13 from by omega)), V, q_lw hl (q_lw1 0 rfl (q_lw1 1 rfl (q_lw1 2 rfl (q_lw1 3 rfl (q_lw1 4 rfl (q_lw1 5 rfl q_lw0)))))), ⟨((13 - (0 : Int32).toInt).toNat + 1), Nat.lt_succ_self _, (show F_Wri_writeHexadecimal_L52 A B C x3 t0_0 t1_0 t2_0 t2_1 t2_2 p30 j56 a42 y23 f24 ((13 - (0 : Int32).toInt).toNat + 1) 0 = (F_Wri_writeHexadecimal A B C x3 t0_0 t1_0 t2_0 t2_1 t2_2) from Eq.trans (by rw [← e57, ← e54, ← e51, e49, ← e43, ← e40, e33, e32, F_Wri_writeHexadecimal_c19.eq_1]) hR34)⟩⟩
    rintro lx59 H locs ls _ ⟨i60, i61, V, hl, ⟨fu65, hf66, hR63⟩⟩ ih62
    obtain ⟨fm67, rfl⟩ : ∃ m, fu65 = m + 1 := ⟨fu65 - 1, by omega⟩
    replace i60 : q_F (0 ≤ lx59.toInt) := i60
    replace i61 : q_F (lx59.toInt ≤ 13) := i61
    replace hl : lv_has ls 9 [(7, .int lx59), (5, .long j56), (4, .int a42), (0, .ref (q 39)), (1, .ref (q k2)), (2, .long x3)] := hl
    refine lv_iload hx hb d_12_8_52 (lv_at hl 0 rfl) ?_
    refine lv_iload hx hb d_12_8_54 (lv_at hl 2 rfl) ?_
    refine lv_iconst (v := 1) hx hb d_12_8_56 (by decide) ?_
    refine lv_isub hx hb d_12_8_57 ?_
    obtain ⟨a68, e69⟩ := q_nm (a42 - 1 : Int32)
    refine q_ti (v := a68) e69 ?_
    have b70 : q_F (a68.toInt = a42.toInt - 1) := (by rw [← e69]; show (a42 - 1 : Int32).toInt = a42.toInt - 1; exact q_subI (x := a42.toInt) (y := 1) rfl (by decide) (by have t1 : 4 * a42.toInt ≤ a39.toInt ∧ a39.toInt ≤ 4 * a42.toInt + 3 := b44; have _ := q_lo32 (x := a39); have _ := q_hi32 (x := a39); omega) (by have t1 : 4 * a42.toInt ≤ a39.toInt ∧ a39.toInt ≤ 4 * a42.toInt + 3 := b44; have _ := q_lo32 (x := a39); have _ := q_hi32 (x := a39); omega))
    refine q_join (X := Unit) (fun z H locs ls _ => q_Wd D g (va_A ws sz) s u20 H locs ∧ lv_has ls 9 [(7, .int lx59), (5, .long j56), (4, .int a42), (0, .ref (q 39)), (1, .ref (q k2)), (2, .long x3)] ∧ F_Wri_writeHexadecimal_J83 (F_Wri_writeHexadecimal_L52 A B C x3 t0_0 t1_0 t2_0 t2_1 t2_2 p30 j56 a42 y23 f24 fm67) A B C x3 t0_0 t1_0 t2_0 t2_1 t2_2 p30 j56 a42 y23 f24 lx59 = (F_Wri_writeHexadecimal A B C x3 t0_0 t1_0 t2_0 t2_1 t2_2)) (fun z => []) 83 0 0 ?_ ?_
    ·
      rintro _ H locs ls _ ⟨V, hl, hR75⟩
      replace hl : lv_has ls 9 [(7, .int lx59), (5, .long j56), (4, .int a42), (0, .ref (q 39)), (1, .ref (q k2)), (2, .long x3)] := hl
      refine lv_iload hx hb d_12_8_83 (lv_at hl 2 rfl) ?_
      refine lv_iconst (v := 1) hx hb d_12_8_85 (by decide) ?_
      refine lv_isub hx hb d_12_8_86 ?_
      obtain ⟨a80, e81⟩ := q_nm (a42 - 1 : Int32)
      refine q_ti (v := a80) e81 ?_
      have b82 : q_F (a80.toInt = a42.toInt - 1) := (by rw [← e81]; show (a42 - 1 : Int32).toInt = a42.toInt - 1; exact q_subI (x := a42.toInt) (y := 1) rfl (by decide) (by have t1 : 4 * a42.toInt ≤ a39.toInt ∧ a39.toInt ≤ 4 * a42.toInt + 3 := b44; have _ := q_lo32 (x := a39); have _ := q_hi32 (x := a39); omega) (by have t1 : 4 * a42.toInt ≤ a39.toInt ∧ a39.toInt ≤ 4 * a42.toInt + 3 := b44; have _ := q_lo32 (x := a39); have _ := q_hi32 (x := a39); omega))
      refine lv_istore (lv' := [(8, .int a80), (7, .int lx59), (5, .long j56), (4, .int a42), (0, .ref (q 39)), (1, .ref (q k2)), (2, .long x3)]) hx hb d_12_8_87 hl (by decide) rfl (fun ls hl => ?_)
      refine q_loop (X := Int32 × Int32 × (Nat → Int64)) (fun z H locs ls w93 => q_F (0 ≤ z.1.toInt + 1) ∧ q_F (lx59.toInt ≤ z.1.toInt + 8) ∧ q_F (a80.toInt + y23.toInt ≤ z.1.toInt + z.2.1.toInt) ∧ q_F (z.1.toInt + z.2.1.toInt ≤ a80.toInt + y23.toInt) ∧ q_F (z.1.toInt + y23.toInt ≤ z.2.1.toInt + a80.toInt) ∧ q_Wd D g (va_A ws sz) s w93 H locs ∧ lv_has ls 9 [(8, .int z.1), (7, .int lx59), (5, .long j56), (0, .ref (q 39)), (1, .ref (q k2)), (2, .long x3)] ∧ q_I (nsh g q) q w93 ∧ q_un ws w93 [3, 4] ∧ w93[3]? = (some (q 3, .inr (1, [.ref (q 4), .int 11008, .int z.2.1])) : Option (Nat × va_E)) ∧ w93[4]? = (some (q 4, .inl (g 1, (1376 : Int32).toNatClampNeg, .inr (.inl z.2.2))) : Option (Nat × va_E)) ∧ w93[k2]? = (some (q k2, .inr (6, [.int A, .int B, .int C, .long t2_0, .int t2_1, .ref (q 9), .int t2_2])) : Option (Nat × va_E)) ∧ (∃ n, (z.1.toInt - ((-1))).toNat < n ∧ F_Wri_writeHexadecimal_L89 (F_Wri_writeHexadecimal_L52 A B C x3 t0_0 t1_0 t2_0 t2_1 t2_2 p30 j56 a42 y23 f24 fm67) A B C x3 t0_0 t1_0 t2_0 t2_1 t2_2 p30 j56 a42 y23 f24 lx59 n z.1 z.2.1 z.2.2 = (F_Wri_writeHexadecimal A B C x3 t0_0 t1_0 t2_0 t2_1 t2_2))) (fun z => (z.1.toInt - ((-1))).toNat) ?_ ((a80 : Int32), (y23 : Int32), (f24 : (Nat → Int64))) _ _ _ u20 ⟨(show q_F (0 ≤ a80.toInt + 1) from (show 0 ≤ a80.toInt + 1 from by have t1 : 23 ≤ A.toInt ∧ A.toInt ≤ 52 := hfk20; have t2 : a39.toInt = A.toInt + 3 := b41; have t3 : 4 * a42.toInt ≤ a39.toInt ∧ a39.toInt ≤ 4 * a42.toInt + 3 := b44; have t4 : a80.toInt = a42.toInt - 1 := b82; omega)), (show q_F (lx59.toInt ≤ a80.toInt + 8) from (show lx59.toInt ≤ a80.toInt + 8 from by have t1 : 23 ≤ A.toInt ∧ A.toInt ≤ 52 := hfk20; have t2 : a39.toInt = A.toInt + 3 := b41; have t3 : 4 * a42.toInt ≤ a39.toInt ∧ a39.toInt ≤ 4 * a42.toInt + 3 := b44; have t4 : lx59.toInt ≤ 13 := i61; have t5 : a80.toInt = a42.toInt - 1 := b82; omega)), (show q_F (a80.toInt + y23.toInt ≤ a80.toInt + y23.toInt) from (show a80.toInt + y23.toInt ≤ a80.toInt + y23.toInt from by omega)), (show q_F (a80.toInt + y23.toInt ≤ a80.toInt + y23.toInt) from (show a80.toInt + y23.toInt ≤ a80.toInt + y23.toInt from by omega)), (show q_F (a80.toInt + y23.toInt ≤ y23.toInt + a80.toInt) from (show a80.toInt + y23.toInt ≤ y23.toInt + a80.toInt from by omega)), V, q_lw hl (q_lw1 0 rfl (q_lw1 1 rfl (q_lw1 2 rfl (q_lw1 4 rfl (q_lw1 5 rfl (q_lw1 6 rfl q_lw0)))))), hI, hF, hO22, hA25, hT2, ⟨((a80.toInt - ((-1))).toNat + 1), Nat.lt_succ_self _, (show F_Wri_writeHexadecimal_L89 (F_Wri_writeHexadecimal_L52 A B C x3 t0_0 t1_0 t2_0 t2_1 t2_2 p30 j56 a42 y23 f24 fm67) A B C x3 t0_0 t1_0 t2_0 t2_1 t2_2 p30 j56 a42 y23 f24 lx59 ((a80.toInt - ((-1))).toNat + 1) a80 y23 f24 = (F_Wri_writeHexadecimal A B C x3 t0_0 t1_0 t2_0 t2_1 t2_2) from Eq.trans (by rw [← e81, F_Wri_writeHexadecimal_J83.eq_1]) hR75)⟩⟩
      rintro ⟨lx84, lx85, lx86⟩ H locs ls w93 ⟨i87, i88, i89, i90, i91, V, hl, hI, hF, hO94, hO95, hO96, ⟨fu99, hf100, hR97⟩⟩ ih92
      obtain ⟨fm101, rfl⟩ : ∃ m, fu99 = m + 1 := ⟨fu99 - 1, by omega⟩
      replace i87 : q_F (0 ≤ lx84.toInt + 1) := i87
      clear i88
      replace i89 : q_F (a80.toInt + y23.toInt ≤ lx84.toInt + lx85.toInt) := i89
      replace i90 : q_F (lx84.toInt + lx85.toInt ≤ a80.toInt + y23.toInt) := i90
      replace i91 : q_F (lx84.toInt + y23.toInt ≤ lx85.toInt + a80.toInt) := i91
      replace hl : lv_has ls 9 [(8, .int lx84), (7, .int lx59), (5, .long j56), (0, .ref (q 39)), (1, .ref (q k2)), (2, .long x3)] := hl
      replace hO94 : w93[3]? = (some (q 3, .inr (1, [.ref (q 4), .int 11008, .int lx85])) : Option (Nat × va_E)) := hO94
      replace hO95 : w93[4]? = (some (q 4, .inl (g 1, (1376 : Int32).toNatClampNeg, .inr (.inl lx86))) : Option (Nat × va_E)) := hO95
      replace hO96 : w93[k2]? = (some (q k2, .inr (6, [.int A, .int B, .int C, .long t2_0, .int t2_1, .ref (q 9), .int t2_2])) : Option (Nat × va_E)) := hO96
      refine lv_iload hx hb d_12_8_89 (lv_at hl 0 rfl) ?_
      refine lv_iload hx hb d_12_8_91 (lv_at hl 1 rfl) ?_
      refine lv_icmp_lt (tgt := 125) hx hb d_12_8_93 (by decide) (fun c102 => ?_) (fun c102 => ?_)
      ·
        refine lv_aload_n hx hb d_12_8_125 rfl (lv_at hl 3 rfl) ?_
        have hO104 := n_o39 hI
        refine q_get (ci := 9) (j := 0) (v := .ref (q 3)) C0 V i_Wri rfl rfl hO104 (by decide) w_329 rfl d_12_8_126 ?_
        refine lv_bipush (v := 112) hx hb d_12_8_129 (by decide) ?_
        refine q_gov V (q_runV (As := [.int 112]) (rest := []) (d := 1) (mc := 0) (ms := 0) (ci := 1) C0 V rfl LV_Wri_62 (X_She_add_p l D g q w93 3 11008 1376 1000000 (n_h3 g q) 112 hI lx85 hO94 lx86 hO95 (by have y0 : (11008 : Int32).toInt = 11008 := rfl; have y1 : (1376 : Int32).toInt = 1376 := rfl; have y2 : (1000000 : Int32).toInt = 1000000 := rfl; have y3 : (112 : Int32).toInt = 112 := rfl; have t1 : 23 ≤ A.toInt ∧ A.toInt ≤ 52 := hfk20; have t2 : t0_0.toInt ≤ 10 := pre0; have t3 : y23.toInt ≤ t0_0.toInt + 4 := b27; have t4 : a39.toInt = A.toInt + 3 := b41; have t5 : 4 * a42.toInt ≤ a39.toInt ∧ a39.toInt ≤ 4 * a42.toInt + 3 := b44; have t6 : a80.toInt = a42.toInt - 1 := b82; have t7 : 0 ≤ lx84.toInt + 1 := i87; have t8 : lx84.toInt + lx85.toInt ≤ a80.toInt + y23.toInt := i90; omega) _) rfl rfl hO94 rfl hl.1 rfl (Nat.le_of_ble_eq_true rfl) ⟨by decide, by decide⟩ ⟨Nat.le_of_ble_eq_true rfl, Nat.le_of_ble_eq_true rfl⟩ d_12_8_131) (fun u105 H locs hp106 V => ?_)
        obtain ⟨hI, hZ9⟩ := hp106
        obtain ⟨hu114, hZ9⟩ := hZ9
        obtain ⟨y108, hZ9⟩ := hZ9
        obtain ⟨f109, hZ9⟩ := hZ9
        obtain ⟨hO107, hZ9⟩ := hZ9
        obtain ⟨hA110, hZ9⟩ := hZ9
        obtain ⟨b111, hZ9⟩ := hZ9
        obtain ⟨b112, hE113⟩ := hZ9
        replace hO107 : u105[3]? = (some (q 3, .inr (1, [.ref (q 4), .int 11008, .int y108])) : Option (Nat × va_E)) := hO107
        replace hA110 : u105[4]? = (some (q 4, .inl (g 1, (1376 : Int32).toNatClampNeg, .inr (.inl f109))) : Option (Nat × va_E)) := hA110
        obtain ⟨p115, e116⟩ : ∃ z, z = (F_She_add_p (11008 : Int32) (1376 : Int32) (1000000 : Int32) (112 : Int32) lx85 lx86) := ⟨_, rfl⟩
        have e117 : y108 = p115.1 := congrArg (fun z => z.1) (hE113.trans e116.symm)
        have e118 : f109 = p115.2 := congrArg (fun z => z.2) (hE113.trans e116.symm)
        replace b111 : q_F (lx85.toInt + 1 ≤ y108.toInt) := b111
        replace b112 : q_F (y108.toInt ≤ lx85.toInt + 1) := b112
        replace hO96 := (hu114 _ (by have z0 := hB2.2.2.2.2; simp only [List.mem_cons, List.not_mem_nil, or_false, not_or]; omega)).trans hO96
        replace hO104 := (hu114 _ (by decide)).trans hO104
        replace hF := q_uc hF hu114 (by first | exact (q_sk (q_mi 0 rfl) (q_sk (q_mi 1 rfl) q_s0)) | simp)
        have hR119 := (show F_Wri_writeHexadecimal_c131 (F_Wri_writeHexadecimal_L52 A B C x3 t0_0 t1_0 t2_0 t2_1 t2_2 p30 j56 a42 y23 f24 fm67) (F_Wri_writeHexadecimal_L89 (F_Wri_writeHexadecimal_L52 A B C x3 t0_0 t1_0 t2_0 t2_1 t2_2 p30 j56 a42 y23 f24 fm67) A B C x3 t0_0 t1_0 t2_0 t2_1 t2_2 p30 j56 a42 y23 f24 lx59 fm101) A B C x3 t0_0 t1_0 t2_0 t2_1 t2_2 p30 j56 a42 y23 f24 lx59 lx84 lx85 lx86 p115 = (F_Wri_writeHexadecimal A B C x3 t0_0 t1_0 t2_0 t2_1 t2_2) from Eq.trans (by rw [e116, F_Wri_writeHexadecimal_L89.eq_2, if_pos c102]) hR97)
        refine lv_aload_n hx hb d_12_8_134 rfl (lv_at hl 3 rfl) ?_
        refine lv_aload_n hx hb d_12_8_135 rfl (lv_at hl 4 rfl) ?_
        refine lv_lload_n hx hb d_12_8_136 rfl (lv_at hl 5 rfl) ?_
        refine q_goi V (q_runV (As := [.long x3]) (rest := [.ref (q 39)]) (d := 2) (mc := 0) (ms := 0) (ci := 6) C0 V rfl LV_Wri_190 (X_Flo_power l D g q u105 k2 A B C hB2 x3 hI   _) rfl rfl hO96 rfl hl.1 rfl (Nat.le_of_ble_eq_true rfl) ⟨by decide, by decide⟩ ⟨Nat.le_of_ble_eq_true rfl, Nat.le_of_ble_eq_true rfl⟩ d_12_8_137) (fun a126 u124 H locs hp125 V => ?_)
        obtain ⟨rfl, b127, b128, hE129⟩ := hp125
        have e130 : a126 = (F_Flo_power A B C x3) := hE129
        replace b127 : q_F (0 ≤ a126.toInt + 1074) := b127
        replace b128 : q_F (a126.toInt + 150 ≤ C.toInt) := b128
        refine lv_aload_n hx hb d_12_8_140 rfl (lv_at hl 4 rfl) ?_
        refine q_get (ci := 6) (j := 0) (v := .int A) C0 V i_Flo rfl rfl hO96 (by decide) w_232 rfl d_12_8_141 ?_
        refine lv_iadd hx hb d_12_8_144 ?_
        obtain ⟨a131, e132⟩ := q_nm (a126 + A : Int32)
        refine q_ti (v := a131) e132 ?_
        have b133 : q_F (a131.toInt = a126.toInt + A.toInt) := (by rw [← e132]; show (a126 + A : Int32).toInt = a126.toInt + A.toInt; exact q_addI (x := a126.toInt) (y := A.toInt) rfl rfl (by have t1 : 23 ≤ A.toInt ∧ A.toInt ≤ 52 := hfk20; have t2 : 0 ≤ a126.toInt + 1074 := b127; have t3 : a126.toInt + 150 ≤ C.toInt := b128; have _ := q_lo32 (x := C); have _ := q_hi32 (x := C); omega) (by have t1 : 23 ≤ A.toInt ∧ A.toInt ≤ 52 := hfk20; have t2 : 0 ≤ a126.toInt + 1074 := b127; have t3 : a126.toInt + 150 ≤ C.toInt := b128; have _ := q_lo32 (x := C); have _ := q_hi32 (x := C); omega))
        refine q_gov V (q_runV (As := [.int a131]) (rest := []) (d := 3) (mc := 0) (ms := 0) (ci := 9) C0 V rfl LV_Wri_170 (X_Wri_writeSigned l D g q u105  a131 hI y108 hO107 f109 hA110 (by have t1 : 23 ≤ A.toInt ∧ A.toInt ≤ 52 := hfk20; have t2 : t0_0.toInt ≤ 10 := pre0; have t3 : y23.toInt ≤ t0_0.toInt + 4 := b27; have t4 : a39.toInt = A.toInt + 3 := b41; have t5 : 4 * a42.toInt ≤ a39.toInt ∧ a39.toInt ≤ 4 * a42.toInt + 3 := b44; have t6 : a80.toInt = a42.toInt - 1 := b82; have t7 : 0 ≤ lx84.toInt + 1 := i87; have t8 : lx84.toInt + lx85.toInt ≤ a80.toInt + y23.toInt := i90; have t9 : y108.toInt ≤ lx85.toInt + 1 := b112; omega) (by have t1 : 23 ≤ A.toInt ∧ A.toInt ≤ 52 := hfk20; have t2 : 0 ≤ a126.toInt + 1074 := b127; have t3 : a131.toInt = a126.toInt + A.toInt := b133; omega) _) rfl rfl hO104 rfl hl.1 rfl (Nat.le_of_ble_eq_true rfl) ⟨by decide, by decide⟩ ⟨Nat.le_of_ble_eq_true rfl, Nat.le_of_ble_eq_true rfl⟩ d_12_8_145) (fun u134 H locs hp135 V => ?_)
        obtain ⟨hI, hZ9⟩ := hp135
        obtain ⟨hu143, hZ9⟩ := hZ9
        obtain ⟨y137, hZ9⟩ := hZ9
        obtain ⟨f138, hZ9⟩ := hZ9
        obtain ⟨hO136, hZ9⟩ := hZ9
        obtain ⟨hA139, hZ9⟩ := hZ9
        obtain ⟨b140, hZ9⟩ := hZ9
        obtain ⟨b141, hE142⟩ := hZ9
        replace hO136 : u134[3]? = (some (q 3, .inr (1, [.ref (q 4), .int 11008, .int y137])) : Option (Nat × va_E)) := hO136
        replace hA139 : u134[4]? = (some (q 4, .inl (g 1, (1376 : Int32).toNatClampNeg, .inr (.inl f138))) : Option (Nat × va_E)) := hA139
        obtain ⟨p144, e145⟩ : ∃ z, z = (F_Wri_writeSigned a131 y108 f109) := ⟨_, rfl⟩
        have e146 : y137 = p144.1 := congrArg (fun z => z.1) (hE142.trans e145.symm)
        have e147 : f138 = p144.2 := congrArg (fun z => z.2) (hE142.trans e145.symm)
        replace b140 : q_F (y108.toInt ≤ y137.toInt) := b140
        replace b141 : q_F (y137.toInt ≤ y108.toInt + 6) := b141
        replace hF := q_uc hF hu143 (by first | exact (q_sk (q_mi 0 rfl) (q_sk (q_mi 1 rfl) q_s0)) | simp)
        have hR148 := (show F_Wri_writeHexadecimal_c145 (F_Wri_writeHexadecimal_L52 A B C x3 t0_0 t1_0 t2_0 t2_1 t2_2 p30 j56 a42 y23 f24 fm67) (F_Wri_writeHexadecimal_L89 (F_Wri_writeHexadecimal_L52 A B C x3 t0_0 t1_0 t2_0 t2_1 t2_2 p30 j56 a42 y23 f24 fm67) A B C x3 t0_0 t1_0 t2_0 t2_1 t2_2 p30 j56 a42 y23 f24 lx59 fm101) A B C x3 t0_0 t1_0 t2_0 t2_1 t2_2 p30 j56 a42 y23 f24 lx59 lx84 lx85 lx86 p115 p144 = (F_Wri_writeHexadecimal A B C x3 t0_0 t1_0 t2_0 t2_1 t2_2) from Eq.trans (by rw [e145, ← e132, e130, e118, e117, F_Wri_writeHexadecimal_c131.eq_1]) hR119)
        exact q_retv C0 V (⟨hI, hF, y137, f138, hO136, hA139, (show t0_0.toInt + 5 ≤ y137.toInt from (by have t1 : t0_0.toInt + 4 ≤ y23.toInt := b26; have t2 : a80.toInt + y23.toInt ≤ lx84.toInt + lx85.toInt := i89; have t3 : lx84.toInt + y23.toInt ≤ lx85.toInt + a80.toInt := i91; have t4 : lx85.toInt + 1 ≤ y108.toInt := b111; have t5 : y108.toInt ≤ y137.toInt := b140; omega)), (show y137.toInt ≤ t0_0.toInt + 24 from (by have t1 : 23 ≤ A.toInt ∧ A.toInt ≤ 52 := hfk20; have t2 : y23.toInt ≤ t0_0.toInt + 4 := b27; have t3 : a39.toInt = A.toInt + 3 := b41; have t4 : 4 * a42.toInt ≤ a39.toInt ∧ a39.toInt ≤ 4 * a42.toInt + 3 := b44; have t5 : a80.toInt = a42.toInt - 1 := b82; have t6 : 0 ≤ lx84.toInt + 1 := i87; have t7 : lx84.toInt + lx85.toInt ≤ a80.toInt + y23.toInt := i90; have t8 : y108.toInt ≤ lx85.toInt + 1 := b112; have t9 : y137.toInt ≤ y108.toInt + 6 := b141; omega)), (show y137.toInt ≤ A.toInt + 4 from (by have t1 : 23 ≤ A.toInt ∧ A.toInt ≤ 52 := hfk20; have t2 : t0_0.toInt ≤ 10 := pre0; have t3 : y23.toInt ≤ t0_0.toInt + 4 := b27; have t4 : a39.toInt = A.toInt + 3 := b41; have t5 : 4 * a42.toInt ≤ a39.toInt ∧ a39.toInt ≤ 4 * a42.toInt + 3 := b44; have t6 : a80.toInt = a42.toInt - 1 := b82; have t7 : 0 ≤ lx84.toInt + 1 := i87; have t8 : lx84.toInt + lx85.toInt ≤ a80.toInt + y23.toInt := i90; have t9 : y108.toInt ≤ lx85.toInt + 1 := b112; have t10 : y137.toInt ≤ y108.toInt + 6 := b141; omega)), (show (y137, f138) = (F_Wri_writeHexadecimal A B C x3 t0_0 t1_0 t2_0 t2_1 t2_2) from Eq.trans (by rw [e147, e146, F_Wri_writeHexadecimal_c145.eq_1]) hR148)⟩) d_12_8_148
      ·
        have b153 : q_F (lx59.toInt ≤ lx84.toInt) := (q_nltI c102)
        refine lv_aload_n hx hb d_12_8_96 rfl (lv_at hl 3 rfl) ?_
        have hO154 := n_o39 hI
        refine q_get (ci := 9) (j := 0) (v := .ref (q 3)) C0 V i_Wri rfl rfl hO154 (by decide) w_329 rfl d_12_8_97 ?_
        refine q_ldcs (i := 22) C0 V rfl rfl d_12_8_100 ?_
        refine lv_lload hx hb d_12_8_102 (lv_at hl 2 rfl) ?_
        refine lv_iconst (v := 4) hx hb d_12_8_104 (by decide) ?_
        refine lv_iload hx hb d_12_8_105 (lv_at hl 0 rfl) ?_
        refine lv_imul hx hb d_12_8_107 ?_
        obtain ⟨a155, e156⟩ := q_nm (4 * lx84 : Int32)
        refine q_ti (v := a155) e156 ?_
        have b157 : q_F (a155.toInt = 4 * lx84.toInt) := (by rw [← e156]; show (4 * lx84 : Int32).toInt = 4 * lx84.toInt; exact q_mulI (x := 4) (y := lx84.toInt) (by decide) rfl (by have t1 : 0 ≤ lx84.toInt + 1 := i87; have t2 : 4 * a42.toInt ≤ a39.toInt ∧ a39.toInt ≤ 4 * a42.toInt + 3 := b44; have t3 : a80.toInt = a42.toInt - 1 := b82; have t4 : lx84.toInt + lx85.toInt ≤ a80.toInt + y23.toInt := i90; have t5 : lx84.toInt + y23.toInt ≤ lx85.toInt + a80.toInt := i91; have _ := q_lo32 (x := a39); have _ := q_hi32 (x := a39); omega) (by have t1 : 0 ≤ lx84.toInt + 1 := i87; have t2 : 4 * a42.toInt ≤ a39.toInt ∧ a39.toInt ≤ 4 * a42.toInt + 3 := b44; have t3 : a80.toInt = a42.toInt - 1 := b82; have t4 : lx84.toInt + lx85.toInt ≤ a80.toInt + y23.toInt := i90; have t5 : lx84.toInt + y23.toInt ≤ lx85.toInt + a80.toInt := i91; have _ := q_lo32 (x := a39); have _ := q_hi32 (x := a39); omega))
        refine lv_lushr hx hb d_12_8_108 rfl ?_
        obtain ⟨j158, e159⟩ := q_nm ((j56.toUInt64 >>> (a155.toInt64.toUInt64 &&& Int64.toUInt64 63)).toInt64 : Int64)
        refine q_tl (v := j158) e159 ?_
        refine lv_l2i hx hb d_12_8_109 rfl ?_
        obtain ⟨a160, e161⟩ := q_nm (j158.toInt32 : Int32)
        refine q_ti (v := a160) e161 ?_
        refine lv_bipush (v := 15) hx hb d_12_8_110 (by decide) ?_
        refine lv_iand hx hb d_12_8_112 ?_
        obtain ⟨a162, e163⟩ := q_nm (a160 &&& 15 : Int32)
        refine q_ti (v := a162) e163 ?_
        have b164 : q_F (0 ≤ a162.toInt ∧ a162.toInt ≤ 15) := (by rw [← e163]; show 0 ≤ (a160 &&& 15 : Int32).toInt ∧ (a160 &&& 15 : Int32).toInt ≤ 15; exact s_and (by decide))
        refine q_goi V (q_runVs (As := [.int a162]) (rest := [.ref (q 3)]) (d := 4) (mc := 0) (ms := 0) (i := 22) C0 V rfl LV_Wri_56 (X_jStr_charAt_22 l D g q w93  a162 hI  (by first | with_reducible exact (q_fe b164).2 | with_reducible exact (q_fe b164).1 | (have t1 : 0 ≤ a162.toInt ∧ a162.toInt ≤ 15 := b164; omega)) (by first | with_reducible exact (q_fe b164).2 | with_reducible exact (q_fe b164).1 | (have t1 : 0 ≤ a162.toInt ∧ a162.toInt ≤ 15 := b164; omega)) _) rfl rfl rfl hl.1 rfl (Nat.le_of_ble_eq_true rfl) ⟨by decide, by decide⟩ ⟨Nat.le_of_ble_eq_true rfl, Nat.le_of_ble_eq_true rfl⟩ d_12_8_113) (fun a167 u165 H locs hp166 V => ?_)
        obtain ⟨rfl, b168, b169, hE170⟩ := hp166
        have e171 : a167 = (F_jStr_charAt_22 a162) := hE170
        clear b168
        clear b169
        refine q_gov V (q_runV (As := [.int a167]) (rest := []) (d := 1) (mc := 0) (ms := 0) (ci := 1) C0 V rfl LV_Wri_62 (X_She_add_p l D g q w93 3 11008 1376 1000000 (n_h3 g q) a167 hI lx85 hO94 lx86 hO95 (by have y0 : (11008 : Int32).toInt = 11008 := rfl; have y1 : (1376 : Int32).toInt = 1376 := rfl; have y2 : (1000000 : Int32).toInt = 1000000 := rfl; have t1 : 23 ≤ A.toInt ∧ A.toInt ≤ 52 := hfk20; have t2 : t0_0.toInt ≤ 10 := pre0; have t3 : y23.toInt ≤ t0_0.toInt + 4 := b27; have t4 : a39.toInt = A.toInt + 3 := b41; have t5 : 4 * a42.toInt ≤ a39.toInt ∧ a39.toInt ≤ 4 * a42.toInt + 3 := b44; have t6 : a80.toInt = a42.toInt - 1 := b82; have t7 : 0 ≤ lx84.toInt + 1 := i87; have t8 : lx84.toInt + lx85.toInt ≤ a80.toInt + y23.toInt := i90; omega) _) rfl rfl hO94 rfl hl.1 rfl (Nat.le_of_ble_eq_true rfl) ⟨by decide, by decide⟩ ⟨Nat.le_of_ble_eq_true rfl, Nat.le_of_ble_eq_true rfl⟩ d_12_8_116) (fun u172 H locs hp173 V => ?_)
        obtain ⟨hI, hZ9⟩ := hp173
        obtain ⟨hu181, hZ9⟩ := hZ9
        obtain ⟨y175, hZ9⟩ := hZ9
        obtain ⟨f176, hZ9⟩ := hZ9
        obtain ⟨hO174, hZ9⟩ := hZ9
        obtain ⟨hA177, hZ9⟩ := hZ9
        obtain ⟨b178, hZ9⟩ := hZ9
        obtain ⟨b179, hE180⟩ := hZ9
        replace hO174 : u172[3]? = (some (q 3, .inr (1, [.ref (q 4), .int 11008, .int y175])) : Option (Nat × va_E)) := hO174
        replace hA177 : u172[4]? = (some (q 4, .inl (g 1, (1376 : Int32).toNatClampNeg, .inr (.inl f176))) : Option (Nat × va_E)) := hA177
        obtain ⟨p182, e183⟩ : ∃ z, z = (F_She_add_p (11008 : Int32) (1376 : Int32) (1000000 : Int32) a167 lx85 lx86) := ⟨_, rfl⟩
        have e184 : y175 = p182.1 := congrArg (fun z => z.1) (hE180.trans e183.symm)
        have e185 : f176 = p182.2 := congrArg (fun z => z.2) (hE180.trans e183.symm)
        replace b178 : q_F (lx85.toInt + 1 ≤ y175.toInt) := b178
        replace b179 : q_F (y175.toInt ≤ lx85.toInt + 1) := b179
        replace hO96 := (hu181 _ (by have z0 := hB2.2.2.2.2; simp only [List.mem_cons, List.not_mem_nil, or_false, not_or]; omega)).trans hO96
        replace hF := q_uc hF hu181 (by first | exact (q_sk (q_mi 0 rfl) (q_sk (q_mi 1 rfl) q_s0)) | simp)
        have hR186 := (show F_Wri_writeHexadecimal_c116 (F_Wri_writeHexadecimal_L52 A B C x3 t0_0 t1_0 t2_0 t2_1 t2_2 p30 j56 a42 y23 f24 fm67) (F_Wri_writeHexadecimal_L89 (F_Wri_writeHexadecimal_L52 A B C x3 t0_0 t1_0 t2_0 t2_1 t2_2 p30 j56 a42 y23 f24 fm67) A B C x3 t0_0 t1_0 t2_0 t2_1 t2_2 p30 j56 a42 y23 f24 lx59 fm101) A B C x3 t0_0 t1_0 t2_0 t2_1 t2_2 p30 j56 a42 y23 f24 lx59 lx84 lx85 lx86 p182 = (F_Wri_writeHexadecimal A B C x3 t0_0 t1_0 t2_0 t2_1 t2_2) from Eq.trans (by rw [e183, e171, ← e163, ← e161, ← e159, ← e156, F_Wri_writeHexadecimal_L89.eq_2, if_neg c102]) hR97)
        obtain ⟨a191, e192⟩ := q_nm (lx84 + (-1) : Int32)
        have b193 : q_F (a191.toInt = lx84.toInt + (-1)) := (by rw [← e192]; exact q_addI (y := (-1)) rfl (by decide) (by have t1 : 0 ≤ lx84.toInt + 1 := i87; have t2 : a155.toInt = 4 * lx84.toInt := b157; have _ := q_lo32 (x := a155); have _ := q_hi32 (x := a155); omega) (by have t1 : 0 ≤ lx84.toInt + 1 := i87; have t2 : a155.toInt = 4 * lx84.toInt := b157; have _ := q_lo32 (x := a155); have _ := q_hi32 (x := a155); omega))
        refine lv_iinc (v := a191) (lv' := [(8, .int a191), (7, .int lx59), (5, .long j56), (0, .ref (q 39)), (1, .ref (q k2)), (2, .long x3)]) hx hb d_12_8_119 hl (k := 0) rfl (e192) (by decide) rfl (fun ls hl => ?_)
        refine lv_goto (tgt := 89) hx hb d_12_8_122 (by decide) ?_
        exact ih92 ((a191 : Int32), (y175 : Int32), (f176 : (Nat → Int64))) _ _ _ _ (show (a191.toInt - ((-1))).toNat < (lx84.toInt - ((-1))).toNat from by have t1 : a191.toInt = lx84.toInt + (-1) := b193; have t2 : 0 ≤ lx84.toInt + 1 := i87; have t3 : 0 ≤ lx59.toInt := i60; have t4 : lx59.toInt ≤ lx84.toInt := b153; omega) ⟨(show q_F (0 ≤ a191.toInt + 1) from (show 0 ≤ a191.toInt + 1 from by have t1 : 0 ≤ lx59.toInt := i60; have t2 : lx59.toInt ≤ lx84.toInt := b153; have t3 : a191.toInt = lx84.toInt + (-1) := b193; omega)), (show q_F (lx59.toInt ≤ a191.toInt + 8) from (show lx59.toInt ≤ a191.toInt + 8 from by have t1 : lx59.toInt ≤ lx84.toInt := b153; have t2 : a191.toInt = lx84.toInt + (-1) := b193; omega)), (show q_F (a80.toInt + y23.toInt ≤ a191.toInt + y175.toInt) from (show a80.toInt + y23.toInt ≤ a191.toInt + y175.toInt from by have t1 : a80.toInt + y23.toInt ≤ lx84.toInt + lx85.toInt := i89; have t2 : lx85.toInt + 1 ≤ y175.toInt := b178; have t3 : a191.toInt = lx84.toInt + (-1) := b193; omega)), (show q_F (a191.toInt + y175.toInt ≤ a80.toInt + y23.toInt) from (show a191.toInt + y175.toInt ≤ a80.toInt + y23.toInt from by have t1 : lx84.toInt + lx85.toInt ≤ a80.toInt + y23.toInt := i90; have t2 : y175.toInt ≤ lx85.toInt + 1 := b179; have t3 : a191.toInt = lx84.toInt + (-1) := b193; omega)), (show q_F (a191.toInt + y23.toInt ≤ y175.toInt + a80.toInt) from (show a191.toInt + y23.toInt ≤ y175.toInt + a80.toInt from by have t1 : lx84.toInt + y23.toInt ≤ lx85.toInt + a80.toInt := i91; have t2 : lx85.toInt + 1 ≤ y175.toInt := b178; have t3 : a191.toInt = lx84.toInt + (-1) := b193; omega)), V, q_lw hl (q_lw1 0 rfl (q_lw1 1 rfl (q_lw1 2 rfl (q_lw1 3 rfl (q_lw1 4 rfl (q_lw1 5 rfl q_lw0)))))), hI, hF, hO174, hA177, hO96, ⟨fm101, Nat.lt_of_lt_of_le (show (a191.toInt - ((-1))).toNat < (lx84.toInt - ((-1))).toNat from by have t1 : a191.toInt = lx84.toInt + (-1) := b193; have t2 : 0 ≤ lx84.toInt + 1 := i87; have t3 : 0 ≤ lx59.toInt := i60; have t4 : lx59.toInt ≤ lx84.toInt := b153; omega) (Nat.le_of_lt_succ hf100), (show F_Wri_writeHexadecimal_L89 (F_Wri_writeHexadecimal_L52 A B C x3 t0_0 t1_0 t2_0 t2_1 t2_2 p30 j56 a42 y23 f24 fm67) A B C x3 t0_0 t1_0 t2_0 t2_1 t2_2 p30 j56 a42 y23 f24 lx59 fm101 a191 y175 f176 = (F_Wri_writeHexadecimal A B C x3 t0_0 t1_0 t2_0 t2_1 t2_2) from Eq.trans (by rw [← e192, e185, e184, F_Wri_writeHexadecimal_c116.eq_1]) hR186)⟩⟩
    ·
      intro J74
      refine lv_icmp_ge (tgt := 83) hx hb d_12_8_58 (by decide) (fun c194 => ?_) (fun c194 => ?_)
      ·
        exact J74 (()) _ _ _ u20 ⟨V, q_lw hl (q_lw1 0 rfl (q_lw1 1 rfl (q_lw1 2 rfl (q_lw1 3 rfl (q_lw1 4 rfl (q_lw1 5 rfl q_lw0)))))), (show F_Wri_writeHexadecimal_J83 (F_Wri_writeHexadecimal_L52 A B C x3 t0_0 t1_0 t2_0 t2_1 t2_2 p30 j56 a42 y23 f24 fm67) A B C x3 t0_0 t1_0 t2_0 t2_1 t2_2 p30 j56 a42 y23 f24 lx59 = (F_Wri_writeHexadecimal A B C x3 t0_0 t1_0 t2_0 t2_1 t2_2) from Eq.trans (by have c194x := c194; rw [← e69] at c194x; rw [F_Wri_writeHexadecimal_L52.eq_2, if_pos c194x]) hR63)⟩
      ·
        have b196 : q_F (lx59.toInt < a68.toInt) := (q_nleI c194)
        refine lv_lload hx hb d_12_8_61 (lv_at hl 1 rfl) ?_
        refine lv_iconst (v := 4) hx hb d_12_8_63 (by decide) ?_
        refine lv_iload hx hb d_12_8_64 (lv_at hl 0 rfl) ?_
        refine lv_imul hx hb d_12_8_66 ?_
        obtain ⟨a197, e198⟩ := q_nm (4 * lx59 : Int32)
        refine q_ti (v := a197) e198 ?_
        refine lv_lushr hx hb d_12_8_67 rfl ?_
        obtain ⟨j200, e201⟩ := q_nm ((j56.toUInt64 >>> (a197.toInt64.toUInt64 &&& Int64.toUInt64 63)).toInt64 : Int64)
        refine q_tl (v := j200) e201 ?_
        refine q_ldc2 C0 rfl w_1624 d_12_8_68 ?_
        refine lv_land hx hb d_12_8_71 ?_
        obtain ⟨j202, e203⟩ := q_nm (j200 &&& 15 : Int64)
        refine q_tl (v := j202) e203 ?_
        refine lv_lconst (v := 0) hx hb d_12_8_72 (by decide) ?_
        refine W.lcmp hx hb d_12_8_73 ?_
        obtain ⟨a205, e206⟩ := q_nm (lg_cmp j202 0 : Int32)
        refine q_ti (v := a205) e206 ?_
        refine lv_if_ne (tgt := 83) hx hb d_12_8_74 (by decide) (fun c208 => ?_) (fun c208 => ?_)
        ·
          exact J74 (()) _ _ _ u20 ⟨V, q_lw hl (q_lw1 0 rfl (q_lw1 1 rfl (q_lw1 2 rfl (q_lw1 3 rfl (q_lw1 4 rfl (q_lw1 5 rfl q_lw0)))))), (show F_Wri_writeHexadecimal_J83 (F_Wri_writeHexadecimal_L52 A B C x3 t0_0 t1_0 t2_0 t2_1 t2_2 p30 j56 a42 y23 f24 fm67) A B C x3 t0_0 t1_0 t2_0 t2_1 t2_2 p30 j56 a42 y23 f24 lx59 = (F_Wri_writeHexadecimal A B C x3 t0_0 t1_0 t2_0 t2_1 t2_2) from Eq.trans (by have c194x := c194; rw [← e69] at c194x; have c208x := c208; rw [← e206, ← e203, ← e201, ← e198] at c208x; rw [F_Wri_writeHexadecimal_L52.eq_2, if_neg c194x, if_neg c208x]) hR63)⟩
        ·
          obtain ⟨a211, e212⟩ := q_nm (lx59 + 1 : Int32)
          have b213 : q_F (a211.toInt = lx59.toInt + 1) := (by rw [← e212]; exact q_addI (y := 1) rfl (by decide) (by have t1 : 0 ≤ lx59.toInt := i60; have t2 : lx59.toInt ≤ 13 := i61; omega) (by have t1 : 0 ≤ lx59.toInt := i60; have t2 : lx59.toInt ≤ 13 := i61; omega))
          refine lv_iinc (v := a211) (lv' := [(7, .int a211), (5, .long j56), (4, .int a42), (0, .ref (q 39)), (1, .ref (q k2)), (2, .long x3)]) hx hb d_12_8_77 hl (k := 0) rfl (e212) (by decide) rfl (fun ls hl => ?_)
          refine lv_goto (tgt := 52) hx hb d_12_8_80 (by decide) ?_
          exact ih62 ((a211 : Int32)) _ _ _ u20 (show (13 - a211.toInt).toNat < (13 - lx59.toInt).toNat from by have t1 : a211.toInt = lx59.toInt + 1 := b213; have t2 : lx59.toInt ≤ 13 := i61; have t3 : 23 ≤ A.toInt ∧ A.toInt ≤ 52 := hfk20; have t4 : a39.toInt = A.toInt + 3 := b41; have t5 : 4 * a42.toInt ≤ a39.toInt ∧ a39.toInt ≤ 4 * a42.toInt + 3 := b44; have t6 : a68.toInt = a42.toInt - 1 := b70; have t7 : lx59.toInt < a68.toInt := b196; omega) ⟨(show q_F (0 ≤ a211.toInt) from (show 0 ≤ a211.toInt from by have t1 : 0 ≤ lx59.toInt := i60; have t2 : a211.toInt = lx59.toInt + 1 := b213; omega)), (show q_F (a211.toInt ≤ 13) from (show a211.toInt ≤ 13 from by have t1 : 23 ≤ A.toInt ∧ A.toInt ≤ 52 := hfk20; have t2 : a39.toInt = A.toInt + 3 := b41; have t3 : 4 * a42.toInt ≤ a39.toInt ∧ a39.toInt ≤ 4 * a42.toInt + 3 := b44; have t4 : a68.toInt = a42.toInt - 1 := b70; have t5 : lx59.toInt < a68.toInt := b196; have t6 : a211.toInt = lx59.toInt + 1 := b213; omega)), V, q_lw hl (q_lw1 0 rfl (q_lw1 1 rfl (q_lw1 2 rfl (q_lw1 3 rfl (q_lw1 4 rfl (q_lw1 5 rfl q_lw0)))))), ⟨fm67, Nat.lt_of_lt_of_le (show (13 - a211.toInt).toNat < (13 - lx59.toInt).toNat from by have t1 : a211.toInt = lx59.toInt + 1 := b213; have t2 : lx59.toInt ≤ 13 := i61; have t3 : 23 ≤ A.toInt ∧ A.toInt ≤ 52 := hfk20; have t4 : a39.toInt = A.toInt + 3 := b41; have t5 : 4 * a42.toInt ≤ a39.toInt ∧ a39.toInt ≤ 4 * a42.toInt + 3 := b44; have t6 : a68.toInt = a42.toInt - 1 := b70; have t7 : lx59.toInt < a68.toInt := b196; omega) (Nat.le_of_lt_succ hf66), (show F_Wri_writeHexadecimal_L52 A B C x3 t0_0 t1_0 t2_0 t2_1 t2_2 p30 j56 a42 y23 f24 fm67 a211 = (F_Wri_writeHexadecimal A B C x3 t0_0 t1_0 t2_0 t2_1 t2_2) from Eq.trans (by have c194x := c194; rw [← e69] at c194x; have c208x := c208; rw [← e206, ← e203, ← e201, ← e198] at c208x; rw [← e212, F_Wri_writeHexadecimal_L52.eq_2, if_neg c194x, if_pos c208x]) hR63)⟩⟩
  ·
    refine q_ldcs (i := 27) C0 V rfl rfl d_12_8_12 ?_
    refine lv_goto (tgt := 19) hx hb d_12_8_14 (by decide) ?_
    refine q_gov V (q_runV (As := [.ref (g (8 + 2 * 27))]) (rest := []) (d := 5) (mc := 0) (ms := 0) (ci := 1) C0 V rfl LV_Wri_129 (X_She_addText_27 l D g q ws 3 11008 1376 1000000 (n_h3 g q)  hI t0_0 hT0 t1_0 hT1 (by have y0 : (11008 : Int32).toInt = 11008 := rfl; have y1 : (1376 : Int32).toInt = 1376 := rfl; have y2 : (1000000 : Int32).toInt = 1000000 := rfl; have t1 : t0_0.toInt ≤ 10 := pre0; omega) _) rfl rfl hT0 rfl hl.1 rfl (Nat.le_of_ble_eq_true rfl) ⟨by decide, by decide⟩ ⟨Nat.le_of_ble_eq_true rfl, Nat.le_of_ble_eq_true rfl⟩ d_12_8_19) (fun u215 H locs hp216 V => ?_)
    obtain ⟨hI, hZ9⟩ := hp216
    obtain ⟨hu224, hZ9⟩ := hZ9
    obtain ⟨y218, hZ9⟩ := hZ9
    obtain ⟨f219, hZ9⟩ := hZ9
    obtain ⟨hO217, hZ9⟩ := hZ9
    obtain ⟨hA220, hZ9⟩ := hZ9
    obtain ⟨b221, hZ9⟩ := hZ9
    obtain ⟨b222, hE223⟩ := hZ9
    replace hO217 : u215[3]? = (some (q 3, .inr (1, [.ref (q 4), .int 11008, .int y218])) : Option (Nat × va_E)) := hO217
    replace hA220 : u215[4]? = (some (q 4, .inl (g 1, (1376 : Int32).toNatClampNeg, .inr (.inl f219))) : Option (Nat × va_E)) := hA220
    obtain ⟨p225, e226⟩ : ∃ z, z = (F_She_addText_27 (11008 : Int32) (1376 : Int32) (1000000 : Int32) t0_0 t1_0) := ⟨_, rfl⟩
    have e227 : y218 = p225.1 := congrArg (fun z => z.1) (hE223.trans e226.symm)
    have e228 : f219 = p225.2 := congrArg (fun z => z.2) (hE223.trans e226.symm)
    replace b221 : q_F (t0_0.toInt + 4 ≤ y218.toInt) := b221
    replace b222 : q_F (y218.toInt ≤ t0_0.toInt + 4) := b222
    replace hT2 := (hu224 _ (by have z0 := hB2.2.2.2.2; simp only [List.mem_cons, List.not_mem_nil, or_false, not_or]; omega)).trans hT2
    replace hF := q_uc hF hu224 (by first | exact (q_sk (q_mi 0 rfl) (q_sk (q_mi 1 rfl) q_s0)) | simp)
    have hR229 := (show F_Wri_writeHexadecimal_c19_8 A B C x3 t0_0 t1_0 t2_0 t2_1 t2_2 p225 = (F_Wri_writeHexadecimal A B C x3 t0_0 t1_0 t2_0 t2_1 t2_2) from (by have c18x := c18; rw [e17] at c18x; rw [e226, F_Wri_writeHexadecimal.eq_1, if_neg c18x]))
    refine lv_aload_n hx hb d_12_8_22 rfl (lv_at hl 1 rfl) ?_
    refine q_get (ci := 6) (j := 0) (v := .int A) C0 V i_Flo rfl rfl hT2 (by decide) w_232 rfl d_12_8_23 ?_
    refine lv_iconst (v := 3) hx hb d_12_8_26 (by decide) ?_
    refine lv_iadd hx hb d_12_8_27 ?_
    obtain ⟨a234, e235⟩ := q_nm (A + 3 : Int32)
    refine q_ti (v := a234) e235 ?_
    have b236 : q_F (a234.toInt = A.toInt + 3) := (by rw [← e235]; show (A + 3 : Int32).toInt = A.toInt + 3; exact q_addI (x := A.toInt) (y := 3) rfl (by decide) (by first | with_reducible exact (q_fe hfk20).2 | with_reducible exact (q_fe hfk20).1 | (have t1 : 23 ≤ A.toInt ∧ A.toInt ≤ 52 := hfk20; omega)) (by first | with_reducible exact (q_fe hfk20).2 | with_reducible exact (q_fe hfk20).1 | (have t1 : 23 ≤ A.toInt ∧ A.toInt ≤ 52 := hfk20; omega)))
    refine lv_iconst (v := 4) hx hb d_12_8_28 (by decide) ?_
    refine lv_idiv hx hb d_12_8_29 (by decide) ?_
    obtain ⟨a237, e238⟩ := q_nm (a234 / 4 : Int32)
    refine q_ti (v := a237) e238 ?_
    have b239 : q_F (4 * a237.toInt ≤ a234.toInt ∧ a234.toInt ≤ 4 * a237.toInt + 3) := (by rw [← e238]; show 4 * (a234 / 4 : Int32).toInt ≤ a234.toInt ∧ a234.toInt ≤ 4 * (a234 / 4 : Int32).toInt + 3; exact (by have z := q_divI (y := 4) (rfl : a234.toInt = _) (by decide : (4 : Int32).toInt = 4) (by have t1 : 23 ≤ A.toInt ∧ A.toInt ≤ 52 := hfk20; have t2 : a234.toInt = A.toInt + 3 := b236; omega) (by decide); omega))
    refine lv_istore (lv' := [(4, .int a237), (0, .ref (q 39)), (1, .ref (q k2)), (2, .long x3)]) hx hb d_12_8_30 hl (by decide) rfl (fun ls hl => ?_)
    refine lv_aload_n hx hb d_12_8_32 rfl (lv_at hl 2 rfl) ?_
    refine lv_lload_n hx hb d_12_8_33 rfl (lv_at hl 3 rfl) ?_
    refine q_gol V (q_runV (As := [.long x3]) (rest := []) (d := 1) (mc := 0) (ms := 0) (ci := 6) C0 V rfl LV_Wri_184 (X_Flo_fraction l D g q u215 k2 A B C hB2 x3 hI   _) rfl rfl hT2 rfl hl.1 rfl (Nat.le_of_ble_eq_true rfl) ⟨by decide, by decide⟩ ⟨Nat.le_of_ble_eq_true rfl, Nat.le_of_ble_eq_true rfl⟩ d_12_8_34) (fun j242 u240 H locs hp241 V => ?_)
    obtain ⟨rfl, hE243⟩ := hp241
    have e244 : j242 = (F_Flo_fraction A B C x3) := hE243
    refine lv_iconst (v := 4) hx hb d_12_8_37 (by decide) ?_
    refine lv_iload hx hb d_12_8_38 (lv_at hl 0 rfl) ?_
    refine lv_imul hx hb d_12_8_40 ?_
    obtain ⟨a245, e246⟩ := q_nm (4 * a237 : Int32)
    refine q_ti (v := a245) e246 ?_
    refine lv_aload_n hx hb d_12_8_41 rfl (lv_at hl 2 rfl) ?_
    refine q_get (ci := 6) (j := 0) (v := .int A) C0 V i_Flo rfl rfl hT2 (by decide) w_232 rfl d_12_8_42 ?_
    refine lv_isub hx hb d_12_8_45 ?_
    obtain ⟨a248, e249⟩ := q_nm (a245 - A : Int32)
    refine q_ti (v := a248) e249 ?_
    refine lv_lshl hx hb d_12_8_46 rfl ?_
    obtain ⟨j251, e252⟩ := q_nm (j242 <<< (a248.toInt64 &&& 63) : Int64)
    refine q_tl (v := j251) e252 ?_
    refine lv_lstore (lv' := [(5, .long j251), (4, .int a237), (0, .ref (q 39)), (1, .ref (q k2)), (2, .long x3)]) hx hb d_12_8_47 hl (by decide) rfl (fun ls hl => ?_)
    refine lv_iconst (v := 0) hx hb d_12_8_49 (by decide) ?_
    refine lv_istore (lv' := [(7, .int 0), (5, .long j251), (4, .int a237), (0, .ref (q 39)), (1, .ref (q k2)), (2, .long x3)]) hx hb d_12_8_50 hl (by decide) rfl (fun ls hl => ?_)
    refine q_loop (X := Int32) (fun z H locs ls _ => q_F (0 ≤ z.toInt) ∧ q_F (z.toInt ≤ 13) ∧ q_Wd D g (va_A ws sz) s u215 H locs ∧ lv_has ls 9 [(7, .int z), (5, .long j251), (4, .int a237), (0, .ref (q 39)), (1, .ref (q k2)), (2, .long x3)] ∧ (∃ n, (13 - z.toInt).toNat < n ∧ F_Wri_writeHexadecimal_L52_9 A B C x3 t0_0 t1_0 t2_0 t2_1 t2_2 p225 j251 a237 y218 f219 n z = (F_Wri_writeHexadecimal A B C x3 t0_0 t1_0 t2_0 t2_1 t2_2))) (fun z => (13 - z.toInt).toNat) ?_ ((0 : Int32)) _ _ _ u215 ⟨(show q_F (0 ≤ 0) from (show 0 ≤ 0 from by omega)), (show q_F (0 ≤ 13) from (show 0 ≤ 13 from by omega)), V, q_lw hl (q_lw1 0 rfl (q_lw1 1 rfl (q_lw1 2 rfl (q_lw1 3 rfl (q_lw1 4 rfl (q_lw1 5 rfl q_lw0)))))), ⟨((13 - (0 : Int32).toInt).toNat + 1), Nat.lt_succ_self _, (show F_Wri_writeHexadecimal_L52_9 A B C x3 t0_0 t1_0 t2_0 t2_1 t2_2 p225 j251 a237 y218 f219 ((13 - (0 : Int32).toInt).toNat + 1) 0 = (F_Wri_writeHexadecimal A B C x3 t0_0 t1_0 t2_0 t2_1 t2_2) from Eq.trans (by rw [← e252, ← e249, ← e246, e244, ← e238, ← e235, e228, e227, F_Wri_writeHexadecimal_c19_8.eq_1]) hR229)⟩⟩
    rintro lx254 H locs ls _ ⟨i255, i256, V, hl, ⟨fu260, hf261, hR258⟩⟩ ih257
    obtain ⟨fm262, rfl⟩ : ∃ m, fu260 = m + 1 := ⟨fu260 - 1, by omega⟩
    replace i255 : q_F (0 ≤ lx254.toInt) := i255
    replace i256 : q_F (lx254.toInt ≤ 13) := i256
    replace hl : lv_has ls 9 [(7, .int lx254), (5, .long j251), (4, .int a237), (0, .ref (q 39)), (1, .ref (q k2)), (2, .long x3)] := hl
    refine lv_iload hx hb d_12_8_52 (lv_at hl 0 rfl) ?_
    refine lv_iload hx hb d_12_8_54 (lv_at hl 2 rfl) ?_
    refine lv_iconst (v := 1) hx hb d_12_8_56 (by decide) ?_
    refine lv_isub hx hb d_12_8_57 ?_
    obtain ⟨a263, e264⟩ := q_nm (a237 - 1 : Int32)
    refine q_ti (v := a263) e264 ?_
    have b265 : q_F (a263.toInt = a237.toInt - 1) := (by rw [← e264]; show (a237 - 1 : Int32).toInt = a237.toInt - 1; exact q_subI (x := a237.toInt) (y := 1) rfl (by decide) (by have t1 : 4 * a237.toInt ≤ a234.toInt ∧ a234.toInt ≤ 4 * a237.toInt + 3 := b239; have _ := q_lo32 (x := a234); have _ := q_hi32 (x := a234); omega) (by have t1 : 4 * a237.toInt ≤ a234.toInt ∧ a234.toInt ≤ 4 * a237.toInt + 3 := b239; have _ := q_lo32 (x := a234); have _ := q_hi32 (x := a234); omega))
    refine q_join (X := Unit) (fun z H locs ls _ => q_Wd D g (va_A ws sz) s u215 H locs ∧ lv_has ls 9 [(7, .int lx254), (5, .long j251), (4, .int a237), (0, .ref (q 39)), (1, .ref (q k2)), (2, .long x3)] ∧ F_Wri_writeHexadecimal_J83_10 (F_Wri_writeHexadecimal_L52_9 A B C x3 t0_0 t1_0 t2_0 t2_1 t2_2 p225 j251 a237 y218 f219 fm262) A B C x3 t0_0 t1_0 t2_0 t2_1 t2_2 p225 j251 a237 y218 f219 lx254 = (F_Wri_writeHexadecimal A B C x3 t0_0 t1_0 t2_0 t2_1 t2_2)) (fun z => []) 83 0 0 ?_ ?_
    ·
      rintro _ H locs ls _ ⟨V, hl, hR270⟩
      replace hl : lv_has ls 9 [(7, .int lx254), (5, .long j251), (4, .int a237), (0, .ref (q 39)), (1, .ref (q k2)), (2, .long x3)] := hl
      refine lv_iload hx hb d_12_8_83 (lv_at hl 2 rfl) ?_
      refine lv_iconst (v := 1) hx hb d_12_8_85 (by decide) ?_
      refine lv_isub hx hb d_12_8_86 ?_
      obtain ⟨a275, e276⟩ := q_nm (a237 - 1 : Int32)
      refine q_ti (v := a275) e276 ?_
      have b277 : q_F (a275.toInt = a237.toInt - 1) := (by rw [← e276]; show (a237 - 1 : Int32).toInt = a237.toInt - 1; exact q_subI (x := a237.toInt) (y := 1) rfl (by decide) (by have t1 : 4 * a237.toInt ≤ a234.toInt ∧ a234.toInt ≤ 4 * a237.toInt + 3 := b239; have _ := q_lo32 (x := a234); have _ := q_hi32 (x := a234); omega) (by have t1 : 4 * a237.toInt ≤ a234.toInt ∧ a234.toInt ≤ 4 * a237.toInt + 3 := b239; have _ := q_lo32 (x := a234); have _ := q_hi32 (x := a234); omega))
      refine lv_istore (lv' := [(8, .int a275), (7, .int lx254), (5, .long j251), (4, .int a237), (0, .ref (q 39)), (1, .ref (q k2)), (2, .long x3)]) hx hb d_12_8_87 hl (by decide) rfl (fun ls hl => ?_)
      refine q_loop (X := Int32 × Int32 × (Nat → Int64)) (fun z H locs ls w288 => q_F (0 ≤ z.1.toInt + 1) ∧ q_F (lx254.toInt ≤ z.1.toInt + 8) ∧ q_F (a275.toInt + y218.toInt ≤ z.1.toInt + z.2.1.toInt) ∧ q_F (z.1.toInt + z.2.1.toInt ≤ a275.toInt + y218.toInt) ∧ q_F (z.1.toInt + y218.toInt ≤ z.2.1.toInt + a275.toInt) ∧ q_Wd D g (va_A ws sz) s w288 H locs ∧ lv_has ls 9 [(8, .int z.1), (7, .int lx254), (5, .long j251), (0, .ref (q 39)), (1, .ref (q k2)), (2, .long x3)] ∧ q_I (nsh g q) q w288 ∧ q_un ws w288 [3, 4] ∧ w288[3]? = (some (q 3, .inr (1, [.ref (q 4), .int 11008, .int z.2.1])) : Option (Nat × va_E)) ∧ w288[4]? = (some (q 4, .inl (g 1, (1376 : Int32).toNatClampNeg, .inr (.inl z.2.2))) : Option (Nat × va_E)) ∧ w288[k2]? = (some (q k2, .inr (6, [.int A, .int B, .int C, .long t2_0, .int t2_1, .ref (q 9), .int t2_2])) : Option (Nat × va_E)) ∧ (∃ n, (z.1.toInt - ((-1))).toNat < n ∧ F_Wri_writeHexadecimal_L89_11 (F_Wri_writeHexadecimal_L52_9 A B C x3 t0_0 t1_0 t2_0 t2_1 t2_2 p225 j251 a237 y218 f219 fm262) A B C x3 t0_0 t1_0 t2_0 t2_1 t2_2 p225 j251 a237 y218 f219 lx254 n z.1 z.2.1 z.2.2 = (F_Wri_writeHexadecimal A B C x3 t0_0 t1_0 t2_0 t2_1 t2_2))) (fun z => (z.1.toInt - ((-1))).toNat) ?_ ((a275 : Int32), (y218 : Int32), (f219 : (Nat → Int64))) _ _ _ u215 ⟨(show q_F (0 ≤ a275.toInt + 1) from (show 0 ≤ a275.toInt + 1 from by have t1 : 23 ≤ A.toInt ∧ A.toInt ≤ 52 := hfk20; have t2 : a234.toInt = A.toInt + 3 := b236; have t3 : 4 * a237.toInt ≤ a234.toInt ∧ a234.toInt ≤ 4 * a237.toInt + 3 := b239; have t4 : a275.toInt = a237.toInt - 1 := b277; omega)), (show q_F (lx254.toInt ≤ a275.toInt + 8) from (show lx254.toInt ≤ a275.toInt + 8 from by have t1 : 23 ≤ A.toInt ∧ A.toInt ≤ 52 := hfk20; have t2 : a234.toInt = A.toInt + 3 := b236; have t3 : 4 * a237.toInt ≤ a234.toInt ∧ a234.toInt ≤ 4 * a237.toInt + 3 := b239; have t4 : lx254.toInt ≤ 13 := i256; have t5 : a275.toInt = a237.toInt - 1 := b277; omega)), (show q_F (a275.toInt + y218.toInt ≤ a275.toInt + y218.toInt) from (show a275.toInt + y218.toInt ≤ a275.toInt + y218.toInt from by omega)), (show q_F (a275.toInt + y218.toInt ≤ a275.toInt + y218.toInt) from (show a275.toInt + y218.toInt ≤ a275.toInt + y218.toInt from by omega)), (show q_F (a275.toInt + y218.toInt ≤ y218.toInt + a275.toInt) from (show a275.toInt + y218.toInt ≤ y218.toInt + a275.toInt from by omega)), V, q_lw hl (q_lw1 0 rfl (q_lw1 1 rfl (q_lw1 2 rfl (q_lw1 4 rfl (q_lw1 5 rfl (q_lw1 6 rfl q_lw0)))))), hI, hF, hO217, hA220, hT2, ⟨((a275.toInt - ((-1))).toNat + 1), Nat.lt_succ_self _, (show F_Wri_writeHexadecimal_L89_11 (F_Wri_writeHexadecimal_L52_9 A B C x3 t0_0 t1_0 t2_0 t2_1 t2_2 p225 j251 a237 y218 f219 fm262) A B C x3 t0_0 t1_0 t2_0 t2_1 t2_2 p225 j251 a237 y218 f219 lx254 ((a275.toInt - ((-1))).toNat + 1) a275 y218 f219 = (F_Wri_writeHexadecimal A B C x3 t0_0 t1_0 t2_0 t2_1 t2_2) from Eq.trans (by rw [← e276, F_Wri_writeHexadecimal_J83_10.eq_1]) hR270)⟩⟩
      rintro ⟨lx279, lx280, lx281⟩ H locs ls w288 ⟨i282, i283, i284, i285, i286, V, hl, hI, hF, hO289, hO290, hO291, ⟨fu294, hf295, hR292⟩⟩ ih287
      obtain ⟨fm296, rfl⟩ : ∃ m, fu294 = m + 1 := ⟨fu294 - 1, by omega⟩
      replace i282 : q_F (0 ≤ lx279.toInt + 1) := i282
      clear i283
      replace i284 : q_F (a275.toInt + y218.toInt ≤ lx279.toInt + lx280.toInt) := i284
      replace i285 : q_F (lx279.toInt + lx280.toInt ≤ a275.toInt + y218.toInt) := i285
      replace i286 : q_F (lx279.toInt + y218.toInt ≤ lx280.toInt + a275.toInt) := i286
      replace hl : lv_has ls 9 [(8, .int lx279), (7, .int lx254), (5, .long j251), (0, .ref (q 39)), (1, .ref (q k2)), (2, .long x3)] := hl
      replace hO289 : w288[3]? = (some (q 3, .inr (1, [.ref (q 4), .int 11008, .int lx280])) : Option (Nat × va_E)) := hO289
      replace hO290 : w288[4]? = (some (q 4, .inl (g 1, (1376 : Int32).toNatClampNeg, .inr (.inl lx281))) : Option (Nat × va_E)) := hO290
      replace hO291 : w288[k2]? = (some (q k2, .inr (6, [.int A, .int B, .int C, .long t2_0, .int t2_1, .ref (q 9), .int t2_2])) : Option (Nat × va_E)) := hO291
      refine lv_iload hx hb d_12_8_89 (lv_at hl 0 rfl) ?_
      refine lv_iload hx hb d_12_8_91 (lv_at hl 1 rfl) ?_
      refine lv_icmp_lt (tgt := 125) hx hb d_12_8_93 (by decide) (fun c297 => ?_) (fun c297 => ?_)
      ·
        refine lv_aload_n hx hb d_12_8_125 rfl (lv_at hl 3 rfl) ?_
        have hO299 := n_o39 hI
        refine q_get (ci := 9) (j := 0) (v := .ref (q 3)) C0 V i_Wri rfl rfl hO299 (by decide) w_329 rfl d_12_8_126 ?_
        refine lv_bipush (v := 112) hx hb d_12_8_129 (by decide) ?_
        refine q_gov V (q_runV (As := [.int 112]) (rest := []) (d := 1) (mc := 0) (ms := 0) (ci := 1) C0 V rfl LV_Wri_62 (X_She_add_p l D g q w288 3 11008 1376 1000000 (n_h3 g q) 112 hI lx280 hO289 lx281 hO290 (by have y0 : (11008 : Int32).toInt = 11008 := rfl; have y1 : (1376 : Int32).toInt = 1376 := rfl; have y2 : (1000000 : Int32).toInt = 1000000 := rfl; have y3 : (112 : Int32).toInt = 112 := rfl; have t1 : 23 ≤ A.toInt ∧ A.toInt ≤ 52 := hfk20; have t2 : t0_0.toInt ≤ 10 := pre0; have t3 : y218.toInt ≤ t0_0.toInt + 4 := b222; have t4 : a234.toInt = A.toInt + 3 := b236; have t5 : 4 * a237.toInt ≤ a234.toInt ∧ a234.toInt ≤ 4 * a237.toInt + 3 := b239; have t6 : a275.toInt = a237.toInt - 1 := b277; have t7 : 0 ≤ lx279.toInt + 1 := i282; have t8 : lx279.toInt + lx280.toInt ≤ a275.toInt + y218.toInt := i285; omega) _) rfl rfl hO289 rfl hl.1 rfl (Nat.le_of_ble_eq_true rfl) ⟨by decide, by decide⟩ ⟨Nat.le_of_ble_eq_true rfl, Nat.le_of_ble_eq_true rfl⟩ d_12_8_131) (fun u300 H locs hp301 V => ?_)
        obtain ⟨hI, hZ9⟩ := hp301
        obtain ⟨hu309, hZ9⟩ := hZ9
        obtain ⟨y303, hZ9⟩ := hZ9
        obtain ⟨f304, hZ9⟩ := hZ9
        obtain ⟨hO302, hZ9⟩ := hZ9
        obtain ⟨hA305, hZ9⟩ := hZ9
        obtain ⟨b306, hZ9⟩ := hZ9
        obtain ⟨b307, hE308⟩ := hZ9
        replace hO302 : u300[3]? = (some (q 3, .inr (1, [.ref (q 4), .int 11008, .int y303])) : Option (Nat × va_E)) := hO302
        replace hA305 : u300[4]? = (some (q 4, .inl (g 1, (1376 : Int32).toNatClampNeg, .inr (.inl f304))) : Option (Nat × va_E)) := hA305
        obtain ⟨p310, e311⟩ : ∃ z, z = (F_She_add_p (11008 : Int32) (1376 : Int32) (1000000 : Int32) (112 : Int32) lx280 lx281) := ⟨_, rfl⟩
        have e312 : y303 = p310.1 := congrArg (fun z => z.1) (hE308.trans e311.symm)
        have e313 : f304 = p310.2 := congrArg (fun z => z.2) (hE308.trans e311.symm)
        replace b306 : q_F (lx280.toInt + 1 ≤ y303.toInt) := b306
        replace b307 : q_F (y303.toInt ≤ lx280.toInt + 1) := b307
        replace hO291 := (hu309 _ (by have z0 := hB2.2.2.2.2; simp only [List.mem_cons, List.not_mem_nil, or_false, not_or]; omega)).trans hO291
        replace hO299 := (hu309 _ (by decide)).trans hO299
        replace hF := q_uc hF hu309 (by first | exact (q_sk (q_mi 0 rfl) (q_sk (q_mi 1 rfl) q_s0)) | simp)
        have hR314 := (show F_Wri_writeHexadecimal_c131_12 (F_Wri_writeHexadecimal_L52_9 A B C x3 t0_0 t1_0 t2_0 t2_1 t2_2 p225 j251 a237 y218 f219 fm262) (F_Wri_writeHexadecimal_L89_11 (F_Wri_writeHexadecimal_L52_9 A B C x3 t0_0 t1_0 t2_0 t2_1 t2_2 p225 j251 a237 y218 f219 fm262) A B C x3 t0_0 t1_0 t2_0 t2_1 t2_2 p225 j251 a237 y218 f219 lx254 fm296) A B C x3 t0_0 t1_0 t2_0 t2_1 t2_2 p225 j251 a237 y218 f219 lx254 lx279 lx280 lx281 p310 = (F_Wri_writeHexadecimal A B C x3 t0_0 t1_0 t2_0 t2_1 t2_2) from Eq.trans (by rw [e311, F_Wri_writeHexadecimal_L89_11.eq_2, if_pos c297]) hR292)
        refine lv_aload_n hx hb d_12_8_134 rfl (lv_at hl 3 rfl) ?_
        refine lv_aload_n hx hb d_12_8_135 rfl (lv_at hl 4 rfl) ?_
        refine lv_lload_n hx hb d_12_8_136 rfl (lv_at hl 5 rfl) ?_
        refine q_goi V (q_runV (As := [.long x3]) (rest := [.ref (q 39)]) (d := 2) (mc := 0) (ms := 0) (ci := 6) C0 V rfl LV_Wri_190 (X_Flo_power l D g q u300 k2 A B C hB2 x3 hI   _) rfl rfl hO291 rfl hl.1 rfl (Nat.le_of_ble_eq_true rfl) ⟨by decide, by decide⟩ ⟨Nat.le_of_ble_eq_true rfl, Nat.le_of_ble_eq_true rfl⟩ d_12_8_137) (fun a321 u319 H locs hp320 V => ?_)
        obtain ⟨rfl, b322, b323, hE324⟩ := hp320
        have e325 : a321 = (F_Flo_power A B C x3) := hE324
        replace b322 : q_F (0 ≤ a321.toInt + 1074) := b322
        replace b323 : q_F (a321.toInt + 150 ≤ C.toInt) := b323
        refine lv_aload_n hx hb d_12_8_140 rfl (lv_at hl 4 rfl) ?_
        refine q_get (ci := 6) (j := 0) (v := .int A) C0 V i_Flo rfl rfl hO291 (by decide) w_232 rfl d_12_8_141 ?_
        refine lv_iadd hx hb d_12_8_144 ?_
        obtain ⟨a326, e327⟩ := q_nm (a321 + A : Int32)
        refine q_ti (v := a326) e327 ?_
        have b328 : q_F (a326.toInt = a321.toInt + A.toInt) := (by rw [← e327]; show (a321 + A : Int32).toInt = a321.toInt + A.toInt; exact q_addI (x := a321.toInt) (y := A.toInt) rfl rfl (by have t1 : 23 ≤ A.toInt ∧ A.toInt ≤ 52 := hfk20; have t2 : 0 ≤ a321.toInt + 1074 := b322; have t3 : a321.toInt + 150 ≤ C.toInt := b323; have _ := q_lo32 (x := C); have _ := q_hi32 (x := C); omega) (by have t1 : 23 ≤ A.toInt ∧ A.toInt ≤ 52 := hfk20; have t2 : 0 ≤ a321.toInt + 1074 := b322; have t3 : a321.toInt + 150 ≤ C.toInt := b323; have _ := q_lo32 (x := C); have _ := q_hi32 (x := C); omega))
        refine q_gov V (q_runV (As := [.int a326]) (rest := []) (d := 3) (mc := 0) (ms := 0) (ci := 9) C0 V rfl LV_Wri_170 (X_Wri_writeSigned l D g q u300  a326 hI y303 hO302 f304 hA305 (by have t1 : 23 ≤ A.toInt ∧ A.toInt ≤ 52 := hfk20; have t2 : t0_0.toInt ≤ 10 := pre0; have t3 : y218.toInt ≤ t0_0.toInt + 4 := b222; have t4 : a234.toInt = A.toInt + 3 := b236; have t5 : 4 * a237.toInt ≤ a234.toInt ∧ a234.toInt ≤ 4 * a237.toInt + 3 := b239; have t6 : a275.toInt = a237.toInt - 1 := b277; have t7 : 0 ≤ lx279.toInt + 1 := i282; have t8 : lx279.toInt + lx280.toInt ≤ a275.toInt + y218.toInt := i285; have t9 : y303.toInt ≤ lx280.toInt + 1 := b307; omega) (by have t1 : 23 ≤ A.toInt ∧ A.toInt ≤ 52 := hfk20; have t2 : 0 ≤ a321.toInt + 1074 := b322; have t3 : a326.toInt = a321.toInt + A.toInt := b328; omega) _) rfl rfl hO299 rfl hl.1 rfl (Nat.le_of_ble_eq_true rfl) ⟨by decide, by decide⟩ ⟨Nat.le_of_ble_eq_true rfl, Nat.le_of_ble_eq_true rfl⟩ d_12_8_145) (fun u329 H locs hp330 V => ?_)
        obtain ⟨hI, hZ9⟩ := hp330
        obtain ⟨hu338, hZ9⟩ := hZ9
        obtain ⟨y332, hZ9⟩ := hZ9
        obtain ⟨f333, hZ9⟩ := hZ9
        obtain ⟨hO331, hZ9⟩ := hZ9
        obtain ⟨hA334, hZ9⟩ := hZ9
        obtain ⟨b335, hZ9⟩ := hZ9
        obtain ⟨b336, hE337⟩ := hZ9
        replace hO331 : u329[3]? = (some (q 3, .inr (1, [.ref (q 4), .int 11008, .int y332])) : Option (Nat × va_E)) := hO331
        replace hA334 : u329[4]? = (some (q 4, .inl (g 1, (1376 : Int32).toNatClampNeg, .inr (.inl f333))) : Option (Nat × va_E)) := hA334
        obtain ⟨p339, e340⟩ : ∃ z, z = (F_Wri_writeSigned a326 y303 f304) := ⟨_, rfl⟩
        have e341 : y332 = p339.1 := congrArg (fun z => z.1) (hE337.trans e340.symm)
        have e342 : f333 = p339.2 := congrArg (fun z => z.2) (hE337.trans e340.symm)
        replace b335 : q_F (y303.toInt ≤ y332.toInt) := b335
        replace b336 : q_F (y332.toInt ≤ y303.toInt + 6) := b336
        replace hF := q_uc hF hu338 (by first | exact (q_sk (q_mi 0 rfl) (q_sk (q_mi 1 rfl) q_s0)) | simp)
        have hR343 := (show F_Wri_writeHexadecimal_c145_13 (F_Wri_writeHexadecimal_L52_9 A B C x3 t0_0 t1_0 t2_0 t2_1 t2_2 p225 j251 a237 y218 f219 fm262) (F_Wri_writeHexadecimal_L89_11 (F_Wri_writeHexadecimal_L52_9 A B C x3 t0_0 t1_0 t2_0 t2_1 t2_2 p225 j251 a237 y218 f219 fm262) A B C x3 t0_0 t1_0 t2_0 t2_1 t2_2 p225 j251 a237 y218 f219 lx254 fm296) A B C x3 t0_0 t1_0 t2_0 t2_1 t2_2 p225 j251 a237 y218 f219 lx254 lx279 lx280 lx281 p310 p339 = (F_Wri_writeHexadecimal A B C x3 t0_0 t1_0 t2_0 t2_1 t2_2) from Eq.trans (by rw [e340, ← e327, e325, e313, e312, F_Wri_writeHexadecimal_c131_12.eq_1]) hR314)
        exact q_retv C0 V (⟨hI, hF, y332, f333, hO331, hA334, (show t0_0.toInt + 5 ≤ y332.toInt from (by have t1 : t0_0.toInt + 4 ≤ y218.toInt := b221; have t2 : a275.toInt + y218.toInt ≤ lx279.toInt + lx280.toInt := i284; have t3 : lx279.toInt + y218.toInt ≤ lx280.toInt + a275.toInt := i286; have t4 : lx280.toInt + 1 ≤ y303.toInt := b306; have t5 : y303.toInt ≤ y332.toInt := b335; omega)), (show y332.toInt ≤ t0_0.toInt + 24 from (by have t1 : 23 ≤ A.toInt ∧ A.toInt ≤ 52 := hfk20; have t2 : y218.toInt ≤ t0_0.toInt + 4 := b222; have t3 : a234.toInt = A.toInt + 3 := b236; have t4 : 4 * a237.toInt ≤ a234.toInt ∧ a234.toInt ≤ 4 * a237.toInt + 3 := b239; have t5 : a275.toInt = a237.toInt - 1 := b277; have t6 : 0 ≤ lx279.toInt + 1 := i282; have t7 : lx279.toInt + lx280.toInt ≤ a275.toInt + y218.toInt := i285; have t8 : y303.toInt ≤ lx280.toInt + 1 := b307; have t9 : y332.toInt ≤ y303.toInt + 6 := b336; omega)), (show y332.toInt ≤ A.toInt + 4 from (by have t1 : 23 ≤ A.toInt ∧ A.toInt ≤ 52 := hfk20; have t2 : t0_0.toInt ≤ 10 := pre0; have t3 : y218.toInt ≤ t0_0.toInt + 4 := b222; have t4 : a234.toInt = A.toInt + 3 := b236; have t5 : 4 * a237.toInt ≤ a234.toInt ∧ a234.toInt ≤ 4 * a237.toInt + 3 := b239; have t6 : a275.toInt = a237.toInt - 1 := b277; have t7 : 0 ≤ lx279.toInt + 1 := i282; have t8 : lx279.toInt + lx280.toInt ≤ a275.toInt + y218.toInt := i285; have t9 : y303.toInt ≤ lx280.toInt + 1 := b307; have t10 : y332.toInt ≤ y303.toInt + 6 := b336; omega)), (show (y332, f333) = (F_Wri_writeHexadecimal A B C x3 t0_0 t1_0 t2_0 t2_1 t2_2) from Eq.trans (by rw [e342, e341, F_Wri_writeHexadecimal_c145_13.eq_1]) hR343)⟩) d_12_8_148
      ·
        have b348 : q_F (lx254.toInt ≤ lx279.toInt) := (q_nltI c297)
        refine lv_aload_n hx hb d_12_8_96 rfl (lv_at hl 3 rfl) ?_
        have hO349 := n_o39 hI
        refine q_get (ci := 9) (j := 0) (v := .ref (q 3)) C0 V i_Wri rfl rfl hO349 (by decide) w_329 rfl d_12_8_97 ?_
        refine q_ldcs (i := 22) C0 V rfl rfl d_12_8_100 ?_
        refine lv_lload hx hb d_12_8_102 (lv_at hl 2 rfl) ?_
        refine lv_iconst (v := 4) hx hb d_12_8_104 (by decide) ?_
        refine lv_iload hx hb d_12_8_105 (lv_at hl 0 rfl) ?_
        refine lv_imul hx hb d_12_8_107 ?_
        obtain ⟨a350, e351⟩ := q_nm (4 * lx279 : Int32)
        refine q_ti (v := a350) e351 ?_
        refine lv_lushr hx hb d_12_8_108 rfl ?_
        obtain ⟨j353, e354⟩ := q_nm ((j251.toUInt64 >>> (a350.toInt64.toUInt64 &&& Int64.toUInt64 63)).toInt64 : Int64)
        refine q_tl (v := j353) e354 ?_
        refine lv_l2i hx hb d_12_8_109 rfl ?_
        obtain ⟨a355, e356⟩ := q_nm (j353.toInt32 : Int32)
        refine q_ti (v := a355) e356 ?_
        refine lv_bipush (v := 15) hx hb d_12_8_110 (by decide) ?_
        refine lv_iand hx hb d_12_8_112 ?_
        obtain ⟨a357, e358⟩ := q_nm (a355 &&& 15 : Int32)
        refine q_ti (v := a357) e358 ?_
        have b359 : q_F (0 ≤ a357.toInt ∧ a357.toInt ≤ 15) := (by rw [← e358]; show 0 ≤ (a355 &&& 15 : Int32).toInt ∧ (a355 &&& 15 : Int32).toInt ≤ 15; exact s_and (by decide))
        refine q_goi V (q_runVs (As := [.int a357]) (rest := [.ref (q 3)]) (d := 4) (mc := 0) (ms := 0) (i := 22) C0 V rfl LV_Wri_56 (X_jStr_charAt_22 l D g q w288  a357 hI  (by first | with_reducible exact (q_fe b359).2 | with_reducible exact (q_fe b359).1 | (have t1 : 0 ≤ a357.toInt ∧ a357.toInt ≤ 15 := b359; omega)) (by first | with_reducible exact (q_fe b359).2 | with_reducible exact (q_fe b359).1 | (have t1 : 0 ≤ a357.toInt ∧ a357.toInt ≤ 15 := b359; omega)) _) rfl rfl rfl hl.1 rfl (Nat.le_of_ble_eq_true rfl) ⟨by decide, by decide⟩ ⟨Nat.le_of_ble_eq_true rfl, Nat.le_of_ble_eq_true rfl⟩ d_12_8_113) (fun a362 u360 H locs hp361 V => ?_)
        obtain ⟨rfl, b363, b364, hE365⟩ := hp361
        have e366 : a362 = (F_jStr_charAt_22 a357) := hE365
        clear b363
        clear b364
        refine q_gov V (q_runV (As := [.int a362]) (rest := []) (d := 1) (mc := 0) (ms := 0) (ci := 1) C0 V rfl LV_Wri_62 (X_She_add_p l D g q w288 3 11008 1376 1000000 (n_h3 g q) a362 hI lx280 hO289 lx281 hO290 (by have y0 : (11008 : Int32).toInt = 11008 := rfl; have y1 : (1376 : Int32).toInt = 1376 := rfl; have y2 : (1000000 : Int32).toInt = 1000000 := rfl; have t1 : 23 ≤ A.toInt ∧ A.toInt ≤ 52 := hfk20; have t2 : t0_0.toInt ≤ 10 := pre0; have t3 : y218.toInt ≤ t0_0.toInt + 4 := b222; have t4 : a234.toInt = A.toInt + 3 := b236; have t5 : 4 * a237.toInt ≤ a234.toInt ∧ a234.toInt ≤ 4 * a237.toInt + 3 := b239; have t6 : a275.toInt = a237.toInt - 1 := b277; have t7 : 0 ≤ lx279.toInt + 1 := i282; have t8 : lx279.toInt + lx280.toInt ≤ a275.toInt + y218.toInt := i285; omega) _) rfl rfl hO289 rfl hl.1 rfl (Nat.le_of_ble_eq_true rfl) ⟨by decide, by decide⟩ ⟨Nat.le_of_ble_eq_true rfl, Nat.le_of_ble_eq_true rfl⟩ d_12_8_116) (fun u367 H locs hp368 V => ?_)
        obtain ⟨hI, hZ9⟩ := hp368
        obtain ⟨hu376, hZ9⟩ := hZ9
        obtain ⟨y370, hZ9⟩ := hZ9
        obtain ⟨f371, hZ9⟩ := hZ9
        obtain ⟨hO369, hZ9⟩ := hZ9
        obtain ⟨hA372, hZ9⟩ := hZ9
        obtain ⟨b373, hZ9⟩ := hZ9
        obtain ⟨b374, hE375⟩ := hZ9
        replace hO369 : u367[3]? = (some (q 3, .inr (1, [.ref (q 4), .int 11008, .int y370])) : Option (Nat × va_E)) := hO369
        replace hA372 : u367[4]? = (some (q 4, .inl (g 1, (1376 : Int32).toNatClampNeg, .inr (.inl f371))) : Option (Nat × va_E)) := hA372
        obtain ⟨p377, e378⟩ : ∃ z, z = (F_She_add_p (11008 : Int32) (1376 : Int32) (1000000 : Int32) a362 lx280 lx281) := ⟨_, rfl⟩
        have e379 : y370 = p377.1 := congrArg (fun z => z.1) (hE375.trans e378.symm)
        have e380 : f371 = p377.2 := congrArg (fun z => z.2) (hE375.trans e378.symm)
        replace b373 : q_F (lx280.toInt + 1 ≤ y370.toInt) := b373
        replace b374 : q_F (y370.toInt ≤ lx280.toInt + 1) := b374
        replace hO291 := (hu376 _ (by have z0 := hB2.2.2.2.2; simp only [List.mem_cons, List.not_mem_nil, or_false, not_or]; omega)).trans hO291
        replace hF := q_uc hF hu376 (by first | exact (q_sk (q_mi 0 rfl) (q_sk (q_mi 1 rfl) q_s0)) | simp)
        have hR381 := (show F_Wri_writeHexadecimal_c116_14 (F_Wri_writeHexadecimal_L52_9 A B C x3 t0_0 t1_0 t2_0 t2_1 t2_2 p225 j251 a237 y218 f219 fm262) (F_Wri_writeHexadecimal_L89_11 (F_Wri_writeHexadecimal_L52_9 A B C x3 t0_0 t1_0 t2_0 t2_1 t2_2 p225 j251 a237 y218 f219 fm262) A B C x3 t0_0 t1_0 t2_0 t2_1 t2_2 p225 j251 a237 y218 f219 lx254 fm296) A B C x3 t0_0 t1_0 t2_0 t2_1 t2_2 p225 j251 a237 y218 f219 lx254 lx279 lx280 lx281 p377 = (F_Wri_writeHexadecimal A B C x3 t0_0 t1_0 t2_0 t2_1 t2_2) from Eq.trans (by rw [e378, e366, ← e358, ← e356, ← e354, ← e351, F_Wri_writeHexadecimal_L89_11.eq_2, if_neg c297]) hR292)
        obtain ⟨a386, e387⟩ := q_nm (lx279 + (-1) : Int32)
        have b388 : q_F (a386.toInt = lx279.toInt + (-1)) := (by rw [← e387]; exact q_addI (y := (-1)) rfl (by decide) (by have t1 : 0 ≤ lx279.toInt + 1 := i282; have t2 : lx279.toInt + lx280.toInt ≤ a275.toInt + y218.toInt := i285; have t3 : lx279.toInt + y218.toInt ≤ lx280.toInt + a275.toInt := i286; have _ := q_lo32 (x := a275); have _ := q_hi32 (x := a275); omega) (by have t1 : 0 ≤ lx279.toInt + 1 := i282; have t2 : lx279.toInt + lx280.toInt ≤ a275.toInt + y218.toInt := i285; have t3 : lx279.toInt + y218.toInt ≤ lx280.toInt + a275.toInt := i286; have _ := q_lo32 (x := a275); have _ := q_hi32 (x := a275); omega))
        refine lv_iinc (v := a386) (lv' := [(8, .int a386), (7, .int lx254), (5, .long j251), (0, .ref (q 39)), (1, .ref (q k2)), (2, .long x3)]) hx hb d_12_8_119 hl (k := 0) rfl (e387) (by decide) rfl (fun ls hl => ?_)
        refine lv_goto (tgt := 89) hx hb d_12_8_122 (by decide) ?_
        exact ih287 ((a386 : Int32), (y370 : Int32), (f371 : (Nat → Int64))) _ _ _ _ (show (a386.toInt - ((-1))).toNat < (lx279.toInt - ((-1))).toNat from by have t1 : a386.toInt = lx279.toInt + (-1) := b388; have t2 : 0 ≤ lx279.toInt + 1 := i282; have t3 : 0 ≤ lx254.toInt := i255; have t4 : lx254.toInt ≤ lx279.toInt := b348; omega) ⟨(show q_F (0 ≤ a386.toInt + 1) from (show 0 ≤ a386.toInt + 1 from by have t1 : 0 ≤ lx254.toInt := i255; have t2 : lx254.toInt ≤ lx279.toInt := b348; have t3 : a386.toInt = lx279.toInt + (-1) := b388; omega)), (show q_F (lx254.toInt ≤ a386.toInt + 8) from (show lx254.toInt ≤ a386.toInt + 8 from by have t1 : lx254.toInt ≤ lx279.toInt := b348; have t2 : a386.toInt = lx279.toInt + (-1) := b388; omega)), (show q_F (a275.toInt + y218.toInt ≤ a386.toInt + y370.toInt) from (show a275.toInt + y218.toInt ≤ a386.toInt + y370.toInt from by have t1 : a275.toInt + y218.toInt ≤ lx279.toInt + lx280.toInt := i284; have t2 : lx280.toInt + 1 ≤ y370.toInt := b373; have t3 : a386.toInt = lx279.toInt + (-1) := b388; omega)), (show q_F (a386.toInt + y370.toInt ≤ a275.toInt + y218.toInt) from (show a386.toInt + y370.toInt ≤ a275.toInt + y218.toInt from by have t1 : lx279.toInt + lx280.toInt ≤ a275.toInt + y218.toInt := i285; have t2 : y370.toInt ≤ lx280.toInt + 1 := b374; have t3 : a386.toInt = lx279.toInt + (-1) := b388; omega)), (show q_F (a386.toInt + y218.toInt ≤ y370.toInt + a275.toInt) from (show a386.toInt + y218.toInt ≤ y370.toInt + a275.toInt from by have t1 : lx279.toInt + y218.toInt ≤ lx280.toInt + a275.toInt := i286; have t2 : lx280.toInt + 1 ≤ y370.toInt := b373; have t3 : a386.toInt = lx279.toInt + (-1) := b388; omega)), V, q_lw hl (q_lw1 0 rfl (q_lw1 1 rfl (q_lw1 2 rfl (q_lw1 3 rfl (q_lw1 4 rfl (q_lw1 5 rfl q_lw0)))))), hI, hF, hO369, hA372, hO291, ⟨fm296, Nat.lt_of_lt_of_le (show (a386.toInt - ((-1))).toNat < (lx279.toInt - ((-1))).toNat from by have t1 : a386.toInt = lx279.toInt + (-1) := b388; have t2 : 0 ≤ lx279.toInt + 1 := i282; have t3 : 0 ≤ lx254.toInt := i255; have t4 : lx254.toInt ≤ lx279.toInt := b348; omega) (Nat.le_of_lt_succ hf295), (show F_Wri_writeHexadecimal_L89_11 (F_Wri_writeHexadecimal_L52_9 A B C x3 t0_0 t1_0 t2_0 t2_1 t2_2 p225 j251 a237 y218 f219 fm262) A B C x3 t0_0 t1_0 t2_0 t2_1 t2_2 p225 j251 a237 y218 f219 lx254 fm296 a386 y370 f371 = (F_Wri_writeHexadecimal A B C x3 t0_0 t1_0 t2_0 t2_1 t2_2) from Eq.trans (by rw [← e387, e380, e379, F_Wri_writeHexadecimal_c116_14.eq_1]) hR381)⟩⟩
    ·
      intro J269
      refine lv_icmp_ge (tgt := 83) hx hb d_12_8_58 (by decide) (fun c389 => ?_) (fun c389 => ?_)
      ·
        exact J269 (()) _ _ _ u215 ⟨V, q_lw hl (q_lw1 0 rfl (q_lw1 1 rfl (q_lw1 2 rfl (q_lw1 3 rfl (q_lw1 4 rfl (q_lw1 5 rfl q_lw0)))))), (show F_Wri_writeHexadecimal_J83_10 (F_Wri_writeHexadecimal_L52_9 A B C x3 t0_0 t1_0 t2_0 t2_1 t2_2 p225 j251 a237 y218 f219 fm262) A B C x3 t0_0 t1_0 t2_0 t2_1 t2_2 p225 j251 a237 y218 f219 lx254 = (F_Wri_writeHexadecimal A B C x3 t0_0 t1_0 t2_0 t2_1 t2_2) from Eq.trans (by have c389x := c389; rw [← e264] at c389x; rw [F_Wri_writeHexadecimal_L52_9.eq_2, if_pos c389x]) hR258)⟩
      ·
        have b391 : q_F (lx254.toInt < a263.toInt) := (q_nleI c389)
        refine lv_lload hx hb d_12_8_61 (lv_at hl 1 rfl) ?_
        refine lv_iconst (v := 4) hx hb d_12_8_63 (by decide) ?_
        refine lv_iload hx hb d_12_8_64 (lv_at hl 0 rfl) ?_
        refine lv_imul hx hb d_12_8_66 ?_
        obtain ⟨a392, e393⟩ := q_nm (4 * lx254 : Int32)
        refine q_ti (v := a392) e393 ?_
        refine lv_lushr hx hb d_12_8_67 rfl ?_
        obtain ⟨j395, e396⟩ := q_nm ((j251.toUInt64 >>> (a392.toInt64.toUInt64 &&& Int64.toUInt64 63)).toInt64 : Int64)
        refine q_tl (v := j395) e396 ?_
        refine q_ldc2 C0 rfl w_1624 d_12_8_68 ?_
        refine lv_land hx hb d_12_8_71 ?_
        obtain ⟨j397, e398⟩ := q_nm (j395 &&& 15 : Int64)
        refine q_tl (v := j397) e398 ?_
        refine lv_lconst (v := 0) hx hb d_12_8_72 (by decide) ?_
        refine W.lcmp hx hb d_12_8_73 ?_
        obtain ⟨a400, e401⟩ := q_nm (lg_cmp j397 0 : Int32)
        refine q_ti (v := a400) e401 ?_
        refine lv_if_ne (tgt := 83) hx hb d_12_8_74 (by decide) (fun c403 => ?_) (fun c403 => ?_)
        ·
          exact J269 (()) _ _ _ u215 ⟨V, q_lw hl (q_lw1 0 rfl (q_lw1 1 rfl (q_lw1 2 rfl (q_lw1 3 rfl (q_lw1 4 rfl (q_lw1 5 rfl q_lw0)))))), (show F_Wri_writeHexadecimal_J83_10 (F_Wri_writeHexadecimal_L52_9 A B C x3 t0_0 t1_0 t2_0 t2_1 t2_2 p225 j251 a237 y218 f219 fm262) A B C x3 t0_0 t1_0 t2_0 t2_1 t2_2 p225 j251 a237 y218 f219 lx254 = (F_Wri_writeHexadecimal A B C x3 t0_0 t1_0 t2_0 t2_1 t2_2) from Eq.trans (by have c389x := c389; rw [← e264] at c389x; have c403x := c403; rw [← e401, ← e398, ← e396, ← e393] at c403x; rw [F_Wri_writeHexadecimal_L52_9.eq_2, if_neg c389x, if_neg c403x]) hR258)⟩
        ·
          obtain ⟨a406, e407⟩ := q_nm (lx254 + 1 : Int32)
          have b408 : q_F (a406.toInt = lx254.toInt + 1) := (by rw [← e407]; exact q_addI (y := 1) rfl (by decide) (by have t1 : 0 ≤ lx254.toInt := i255; have t2 : lx254.toInt ≤ 13 := i256; omega) (by have t1 : 0 ≤ lx254.toInt := i255; have t2 : lx254.toInt ≤ 13 := i256; omega))
          refine lv_iinc (v := a406) (lv' := [(7, .int a406), (5, .long j251), (4, .int a237), (0, .ref (q 39)), (1, .ref (q k2)), (2, .long x3)]) hx hb d_12_8_77 hl (k := 0) rfl (e407) (by decide) rfl (fun ls hl => ?_)
          refine lv_goto (tgt := 52) hx hb d_12_8_80 (by decide) ?_
          exact ih257 ((a406 : Int32)) _ _ _ u215 (show (13 - a406.toInt).toNat < (13 - lx254.toInt).toNat from by have t1 : a406.toInt = lx254.toInt + 1 := b408; have t2 : lx254.toInt ≤ 13 := i256; have t3 : 23 ≤ A.toInt ∧ A.toInt ≤ 52 := hfk20; have t4 : a234.toInt = A.toInt + 3 := b236; have t5 : 4 * a237.toInt ≤ a234.toInt ∧ a234.toInt ≤ 4 * a237.toInt + 3 := b239; have t6 : a263.toInt = a237.toInt - 1 := b265; have t7 : lx254.toInt < a263.toInt := b391; omega) ⟨(show q_F (0 ≤ a406.toInt) from (show 0 ≤ a406.toInt from by have t1 : 0 ≤ lx254.toInt := i255; have t2 : a406.toInt = lx254.toInt + 1 := b408; omega)), (show q_F (a406.toInt ≤ 13) from (show a406.toInt ≤ 13 from by have t1 : 23 ≤ A.toInt ∧ A.toInt ≤ 52 := hfk20; have t2 : a234.toInt = A.toInt + 3 := b236; have t3 : 4 * a237.toInt ≤ a234.toInt ∧ a234.toInt ≤ 4 * a237.toInt + 3 := b239; have t4 : a263.toInt = a237.toInt - 1 := b265; have t5 : lx254.toInt < a263.toInt := b391; have t6 : a406.toInt = lx254.toInt + 1 := b408; omega)), V, q_lw hl (q_lw1 0 rfl (q_lw1 1 rfl (q_lw1 2 rfl (q_lw1 3 rfl (q_lw1 4 rfl (q_lw1 5 rfl q_lw0)))))), ⟨fm262, Nat.lt_of_lt_of_le (show (13 - a406.toInt).toNat < (13 - lx254.toInt).toNat from by have t1 : a406.toInt = lx254.toInt + 1 := b408; have t2 : lx254.toInt ≤ 13 := i256; have t3 : 23 ≤ A.toInt ∧ A.toInt ≤ 52 := hfk20; have t4 : a234.toInt = A.toInt + 3 := b236; have t5 : 4 * a237.toInt ≤ a234.toInt ∧ a234.toInt ≤ 4 * a237.toInt + 3 := b239; have t6 : a263.toInt = a237.toInt - 1 := b265; have t7 : lx254.toInt < a263.toInt := b391; omega) (Nat.le_of_lt_succ hf261), (show F_Wri_writeHexadecimal_L52_9 A B C x3 t0_0 t1_0 t2_0 t2_1 t2_2 p225 j251 a237 y218 f219 fm262 a406 = (F_Wri_writeHexadecimal A B C x3 t0_0 t1_0 t2_0 t2_1 t2_2) from Eq.trans (by have c389x := c389; rw [← e264] at c389x; have c403x := c403; rw [← e401, ← e398, ← e396, ← e393] at c403x; rw [← e407, F_Wri_writeHexadecimal_L52_9.eq_2, if_neg c389x, if_pos c403x]) hR258)⟩⟩

