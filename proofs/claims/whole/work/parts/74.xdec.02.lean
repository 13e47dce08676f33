theorem d_4_7_0 : decode prog_4_method_7_code 0 = .ok (.aload_n 0, 1) := by decide +kernel
theorem d_4_7_1 : decode prog_4_method_7_code 1 = .ok (.aload_n 1, 1) := by decide +kernel
theorem d_4_7_2 : decode prog_4_method_7_code 2 = .ok (.getfield 48, 3) := by decide +kernel
theorem d_4_7_5 : decode prog_4_method_7_code 5 = .ok (.aload_n 2, 1) := by decide +kernel
theorem d_4_7_6 : decode prog_4_method_7_code 6 = .ok (.getfield 48, 3) := by decide +kernel
theorem d_4_7_9 : decode prog_4_method_7_code 9 = .ok (.invokestatic 83, 3) := by decide +kernel
theorem d_4_7_12 : decode prog_4_method_7_code 12 = .ok (.i2l, 1) := by decide +kernel
theorem d_4_7_13 : decode prog_4_method_7_code 13 = .ok (.putfield 56, 3) := by decide +kernel
theorem d_4_7_16 : decode prog_4_method_7_code 16 = .ok (.aload_n 1, 1) := by decide +kernel
theorem d_4_7_17 : decode prog_4_method_7_code 17 = .ok (.getfield 48, 3) := by decide +kernel
theorem d_4_7_20 : decode prog_4_method_7_code 20 = .ok (.aload_n 2, 1) := by decide +kernel
theorem d_4_7_21 : decode prog_4_method_7_code 21 = .ok (.getfield 48, 3) := by decide +kernel
theorem d_4_7_24 : decode prog_4_method_7_code 24 = .ok (.isub, 1) := by decide +kernel
theorem d_4_7_25 : decode prog_4_method_7_code 25 = .ok (.invokestatic 98, 3) := by decide +kernel
set_option maxRecDepth 100000 in
theorem w_1382 : (Cond.methodLink "NumberHouse$DecimalWork" (98 : Nat) ({ cls := "java/lang/Math", name := "abs", desc := "(I)I" } : MethodName)) ∈ q_tbl := q_of6 182 rfl (by decide +kernel)
theorem LS_DW_98 : q_LS "NumberHouse$DecimalWork" 98 y_jMath_abs_II prog_29_method_59_code 1 (some .int) 1 := ⟨w_1384, w_7, w_1382, w_1383, ⟨by decide, by decide, by decide +kernel⟩⟩
theorem d_4_7_28 : decode prog_4_method_7_code 28 = .ok (.istore_n 3, 1) := by decide +kernel
theorem d_4_7_29 : decode prog_4_method_7_code 29 = .ok (.aload_n 0, 1) := by decide +kernel
theorem d_4_7_30 : decode prog_4_method_7_code 30 = .ok (.getfield 20, 3) := by decide +kernel
theorem d_4_7_33 : decode prog_4_method_7_code 33 = .ok (.getfield 55, 3) := by decide +kernel
theorem d_4_7_36 : decode prog_4_method_7_code 36 = .ok (.aload_n 1, 1) := by decide +kernel
theorem d_4_7_37 : decode prog_4_method_7_code 37 = .ok (.getfield 24, 3) := by decide +kernel
theorem d_4_7_40 : decode prog_4_method_7_code 40 = .ok (.invokevirtual 44, 3) := by decide +kernel
theorem d_4_7_43 : decode prog_4_method_7_code 43 = .ok (.aload_n 1, 1) := by decide +kernel
theorem d_4_7_44 : decode prog_4_method_7_code 44 = .ok (.getfield 48, 3) := by decide +kernel
theorem d_4_7_47 : decode prog_4_method_7_code 47 = .ok (.aload_n 2, 1) := by decide +kernel
theorem d_4_7_48 : decode prog_4_method_7_code 48 = .ok (.getfield 48, 3) := by decide +kernel
theorem d_4_7_51 : decode prog_4_method_7_code 51 = .ok (.if_icmp .ge 15, 3) := by decide +kernel
theorem d_4_7_66 : decode prog_4_method_7_code 66 = .ok (.aload_n 1, 1) := by decide +kernel
theorem d_4_7_67 : decode prog_4_method_7_code 67 = .ok (.getfield 52, 3) := by decide +kernel
theorem d_4_7_70 : decode prog_4_method_7_code 70 = .ok (.aload_n 2, 1) := by decide +kernel
theorem d_4_7_71 : decode prog_4_method_7_code 71 = .ok (.getfield 52, 3) := by decide +kernel
theorem d_4_7_74 : decode prog_4_method_7_code 74 = .ok (.iload_n 3, 1) := by decide +kernel
theorem d_4_7_75 : decode prog_4_method_7_code 75 = .ok (.iadd, 1) := by decide +kernel
theorem d_4_7_76 : decode prog_4_method_7_code 76 = .ok (.if_icmp .lt 52, 3) := by decide +kernel
theorem d_4_7_128 : decode prog_4_method_7_code 128 = .ok (.return_, 1) := by decide +kernel
theorem d_4_7_79 : decode prog_4_method_7_code 79 = .ok (.aload_n 0, 1) := by decide +kernel
theorem d_4_7_80 : decode prog_4_method_7_code 80 = .ok (.getfield 20, 3) := by decide +kernel
theorem d_4_7_83 : decode prog_4_method_7_code 83 = .ok (.getfield 72, 3) := by decide +kernel
theorem d_4_7_86 : decode prog_4_method_7_code 86 = .ok (.aload_n 2, 1) := by decide +kernel
theorem d_4_7_87 : decode prog_4_method_7_code 87 = .ok (.getfield 24, 3) := by decide +kernel
theorem d_4_7_90 : decode prog_4_method_7_code 90 = .ok (.invokevirtual 44, 3) := by decide +kernel
theorem d_4_7_93 : decode prog_4_method_7_code 93 = .ok (.aload_n 0, 1) := by decide +kernel
theorem d_4_7_94 : decode prog_4_method_7_code 94 = .ok (.getfield 20, 3) := by decide +kernel
theorem d_4_7_97 : decode prog_4_method_7_code 97 = .ok (.getfield 72, 3) := by decide +kernel
theorem d_4_7_100 : decode prog_4_method_7_code 100 = .ok (.iload_n 3, 1) := by decide +kernel
theorem d_4_7_101 : decode prog_4_method_7_code 101 = .ok (.invokevirtual 77, 3) := by decide +kernel
theorem d_4_7_104 : decode prog_4_method_7_code 104 = .ok (.aload_n 0, 1) := by decide +kernel
theorem d_4_7_105 : decode prog_4_method_7_code 105 = .ok (.getfield 20, 3) := by decide +kernel
theorem d_4_7_108 : decode prog_4_method_7_code 108 = .ok (.getfield 55, 3) := by decide +kernel
theorem d_4_7_111 : decode prog_4_method_7_code 111 = .ok (.aload_n 0, 1) := by decide +kernel
theorem d_4_7_112 : decode prog_4_method_7_code 112 = .ok (.getfield 20, 3) := by decide +kernel
theorem d_4_7_115 : decode prog_4_method_7_code 115 = .ok (.getfield 72, 3) := by decide +kernel
theorem d_4_7_118 : decode prog_4_method_7_code 118 = .ok (.aload_n 0, 1) := by decide +kernel
theorem d_4_7_119 : decode prog_4_method_7_code 119 = .ok (.getfield 20, 3) := by decide +kernel
theorem d_4_7_122 : decode prog_4_method_7_code 122 = .ok (.getfield 106, 3) := by decide +kernel
theorem d_4_7_125 : decode prog_4_method_7_code 125 = .ok (.invokevirtual 109, 3) := by decide +kernel
theorem d_4_7_54 : decode prog_4_method_7_code 54 = .ok (.aload_n 0, 1) := by decide +kernel
theorem d_4_7_55 : decode prog_4_method_7_code 55 = .ok (.iload_n 3, 1) := by decide +kernel
theorem d_4_7_56 : decode prog_4_method_7_code 56 = .ok (.aload_n 2, 1) := by decide +kernel
theorem d_4_7_57 : decode prog_4_method_7_code 57 = .ok (.getfield 24, 3) := by decide +kernel
theorem d_4_7_60 : decode prog_4_method_7_code 60 = .ok (.invokevirtual 102, 3) := by decide +kernel
set_option maxRecDepth 100000 in
theorem w_1388 : (Cond.code ({ cls := "NumberHouse$DecimalWork", name := "raiseBelow", desc := "(ILNumberHouse$Big;)V" } : MethodName) prog_4_method_8_code (5 : Nat) (none : Option ClassFile.FieldType)) ∈ q_tbl := q_of6 188 rfl (by decide +kernel)
set_option maxRecDepth 100000 in
theorem w_1385 : (Cond.methodLink "NumberHouse$DecimalWork" (102 : Nat) ({ cls := "NumberHouse$DecimalWork", name := "raiseBelow", desc := "(ILNumberHouse$Big;)V" } : MethodName)) ∈ q_tbl := q_of6 185 rfl (by decide +kernel)
set_option maxRecDepth 100000 in
theorem w_1387 : (Cond.instanceMethod ({ cls := "NumberHouse$DecimalWork", name := "raiseBelow", desc := "(ILNumberHouse$Big;)V" } : MethodName)) ∈ q_tbl := q_of6 187 rfl (by decide +kernel)
theorem ws_27 : Cond.selects "NumberHouse$DecimalWork" (⟨"NumberHouse$DecimalWork", "raiseBelow", "(ILNumberHouse$Big;)V"⟩ : MethodName) (⟨"NumberHouse$DecimalWork", "raiseBelow", "(ILNumberHouse$Big;)V"⟩ : MethodName) ∈ q_tbl := q_ofs 27 (by decide +kernel) (by decide +kernel)
theorem LV_DW_102 : q_LV "NumberHouse$DecimalWork" 102 y_DW_raiseBelow prog_4_method_8_code 5 none 2 := ⟨w_1388, w_5, w_1385, w_1387, ws_27, ⟨by decide, by decide, by decide +kernel⟩⟩
theorem d_4_7_63 : decode prog_4_method_7_code 63 = .ok (.goto 65, 3) := by decide +kernel
def y_DW_rest : MethodName := ⟨"NumberHouse$DecimalWork", "rest", "(LNumberHouse$Dec;LNumberHouse$Dec;)V"⟩
def F_DW_rest_c125 (R : Int32) (R2 : Int32) (t0_0 : Int64) (t0_1 : Int32) (t1_0 : Int32) (t1_1 : Int32) (t2_0 : (Nat → Int32)) (t3_0 : Int32) (t3_1 : Int32) (t4_0 : (Nat → Int32)) (t5_0 : Int32) (t5_1 : Int32) (t6_0 : (Nat → Int32)) (t7_0 : Int32) (t7_1 : Int32) (t8_0 : (Nat → Int32)) (t9_0 : Int32) (t9_1 : Int32) (t10_0 : Int32) (t10_1 : Int32) (t11_0 : (Nat → Int32)) (t12_0 : Int32) (t12_1 : Int32) (t13_0 : Int32) (t13_1 : Int32) (t14_0 : (Nat → Int32)) (a76 : Int32) (j66 : Int64) (p96 : (Int32 × Int32 × (Nat → Int32))) (y85 : Int32) (y86 : Int32) (f87 : (Nat → Int32)) (p127 : (Int32 × Int32 × (Nat → Int32))) (p150 : (Int32 × Int32 × (Nat → Int32))) (p195 : (Int32 × Int32 × (Nat → Int32) × Int32 × Int32 × (Nat → Int32) × Int32 × Int32 × (Nat → Int32))) : Int64 × Int32 × Int32 × Int32 × (Nat → Int32) × Int32 × Int32 × (Nat → Int32) × Int32 × Int32 × (Nat → Int32) × Int32 × Int32 × (Nat → Int32) × Int32 × Int32 × (Nat → Int32) := (j66, t0_1, (p195.1 : Int32), (p195.2.1 : Int32), (p195.2.2.1 : (Nat → Int32)), (p195.2.2.2.2.2.2.1 : Int32), (p195.2.2.2.2.2.2.2.1 : Int32), (p195.2.2.2.2.2.2.2.2 : (Nat → Int32)), (p195.2.2.2.1 : Int32), (p195.2.2.2.2.1 : Int32), (p195.2.2.2.2.2.1 : (Nat → Int32)), t7_0, t7_1, t8_0, t13_0, t13_1, t14_0)
def F_DW_rest_c101 (R : Int32) (R2 : Int32) (t0_0 : Int64) (t0_1 : Int32) (t1_0 : Int32) (t1_1 : Int32) (t2_0 : (Nat → Int32)) (t3_0 : Int32) (t3_1 : Int32) (t4_0 : (Nat → Int32)) (t5_0 : Int32) (t5_1 : Int32) (t6_0 : (Nat → Int32)) (t7_0 : Int32) (t7_1 : Int32) (t8_0 : (Nat → Int32)) (t9_0 : Int32) (t9_1 : Int32) (t10_0 : Int32) (t10_1 : Int32) (t11_0 : (Nat → Int32)) (t12_0 : Int32) (t12_1 : Int32) (t13_0 : Int32) (t13_1 : Int32) (t14_0 : (Nat → Int32)) (a76 : Int32) (j66 : Int64) (p96 : (Int32 × Int32 × (Nat → Int32))) (y85 : Int32) (y86 : Int32) (f87 : (Nat → Int32)) (p127 : (Int32 × Int32 × (Nat → Int32))) (p150 : (Int32 × Int32 × (Nat → Int32))) : Int64 × Int32 × Int32 × Int32 × (Nat → Int32) × Int32 × Int32 × (Nat → Int32) × Int32 × Int32 × (Nat → Int32) × Int32 × Int32 × (Nat → Int32) × Int32 × Int32 × (Nat → Int32) := F_DW_rest_c125 R R2 t0_0 t0_1 t1_0 t1_1 t2_0 t3_0 t3_1 t4_0 t5_0 t5_1 t6_0 t7_0 t7_1 t8_0 t9_0 t9_1 t10_0 t10_1 t11_0 t12_0 t12_1 t13_0 t13_1 t14_0 a76 j66 p96 y85 y86 f87 p127 p150 ((F_Big_divideBy (220 : Int32) (220 : Int32) (220 : Int32) y85 y86 f87 (p150.1 : Int32) (p150.2.1 : Int32) (p150.2.2 : (Nat → Int32)) t3_0 t3_1 t4_0) : (Int32 × Int32 × (Nat → Int32) × Int32 × Int32 × (Nat → Int32) × Int32 × Int32 × (Nat → Int32)))
def F_DW_rest_c90 (R : Int32) (R2 : Int32) (t0_0 : Int64) (t0_1 : Int32) (t1_0 : Int32) (t1_1 : Int32) (t2_0 : (Nat → Int32)) (t3_0 : Int32) (t3_1 : Int32) (t4_0 : (Nat → Int32)) (t5_0 : Int32) (t5_1 : Int32) (t6_0 : (Nat → Int32)) (t7_0 : Int32) (t7_1 : Int32) (t8_0 : (Nat → Int32)) (t9_0 : Int32) (t9_1 : Int32) (t10_0 : Int32) (t10_1 : Int32) (t11_0 : (Nat → Int32)) (t12_0 : Int32) (t12_1 : Int32) (t13_0 : Int32) (t13_1 : Int32) (t14_0 : (Nat → Int32)) (a76 : Int32) (j66 : Int64) (p96 : (Int32 × Int32 × (Nat → Int32))) (y85 : Int32) (y86 : Int32) (f87 : (Nat → Int32)) (p127 : (Int32 × Int32 × (Nat → Int32))) : Int64 × Int32 × Int32 × Int32 × (Nat → Int32) × Int32 × Int32 × (Nat → Int32) × Int32 × Int32 × (Nat → Int32) × Int32 × Int32 × (Nat → Int32) × Int32 × Int32 × (Nat → Int32) := F_DW_rest_c101 R R2 t0_0 t0_1 t1_0 t1_1 t2_0 t3_0 t3_1 t4_0 t5_0 t5_1 t6_0 t7_0 t7_1 t8_0 t9_0 t9_1 t10_0 t10_1 t11_0 t12_0 t12_1 t13_0 t13_1 t14_0 a76 j66 p96 y85 y86 f87 p127 ((F_Big_timesTen (220 : Int32) a76 (p127.1 : Int32) (p127.2.1 : Int32) (p127.2.2 : (Nat → Int32))) : (Int32 × Int32 × (Nat → Int32)))
def F_DW_rest_c60 (R : Int32) (R2 : Int32) (t0_0 : Int64) (t0_1 : Int32) (t1_0 : Int32) (t1_1 : Int32) (t2_0 : (Nat → Int32)) (t3_0 : Int32) (t3_1 : Int32) (t4_0 : (Nat → Int32)) (t5_0 : Int32) (t5_1 : Int32) (t6_0 : (Nat → Int32)) (t7_0 : Int32) (t7_1 : Int32) (t8_0 : (Nat → Int32)) (t9_0 : Int32) (t9_1 : Int32) (t10_0 : Int32) (t10_1 : Int32) (t11_0 : (Nat → Int32)) (t12_0 : Int32) (t12_1 : Int32) (t13_0 : Int32) (t13_1 : Int32) (t14_0 : (Nat → Int32)) (a76 : Int32) (j66 : Int64) (p96 : (Int32 × Int32 × (Nat → Int32))) (p262 : (Int32 × Int32 × (Nat → Int32) × Int32 × Int32 × (Nat → Int32) × Int32 × Int32 × (Nat → Int32) × Int32 × Int32 × (Nat → Int32) × Int32 × Int32 × (Nat → Int32))) : Int64 × Int32 × Int32 × Int32 × (Nat → Int32) × Int32 × Int32 × (Nat → Int32) × Int32 × Int32 × (Nat → Int32) × Int32 × Int32 × (Nat → Int32) × Int32 × Int32 × (Nat → Int32) := (j66, t0_1, (p262.1 : Int32), (p262.2.1 : Int32), (p262.2.2.1 : (Nat → Int32)), (p262.2.2.2.1 : Int32), (p262.2.2.2.2.1 : Int32), (p262.2.2.2.2.2.1 : (Nat → Int32)), (p262.2.2.2.2.2.2.1 : Int32), (p262.2.2.2.2.2.2.2.1 : Int32), (p262.2.2.2.2.2.2.2.2.1 : (Nat → Int32)), (p262.2.2.2.2.2.2.2.2.2.1 : Int32), (p262.2.2.2.2.2.2.2.2.2.2.1 : Int32), (p262.2.2.2.2.2.2.2.2.2.2.2.1 : (Nat → Int32)), (p262.2.2.2.2.2.2.2.2.2.2.2.2.1 : Int32), (p262.2.2.2.2.2.2.2.2.2.2.2.2.2.1 : Int32), (p262.2.2.2.2.2.2.2.2.2.2.2.2.2.2 : (Nat → Int32)))
def F_DW_rest_c40 (R : Int32) (R2 : Int32) (t0_0 : Int64) (t0_1 : Int32) (t1_0 : Int32) (t1_1 : Int32) (t2_0 : (Nat → Int32)) (t3_0 : Int32) (t3_1 : Int32) (t4_0 : (Nat → Int32)) (t5_0 : Int32) (t5_1 : Int32) (t6_0 : (Nat → Int32)) (t7_0 : Int32) (t7_1 : Int32) (t8_0 : (Nat → Int32)) (t9_0 : Int32) (t9_1 : Int32) (t10_0 : Int32) (t10_1 : Int32) (t11_0 : (Nat → Int32)) (t12_0 : Int32) (t12_1 : Int32) (t13_0 : Int32) (t13_1 : Int32) (t14_0 : (Nat → Int32)) (a76 : Int32) (j66 : Int64) (p96 : (Int32 × Int32 × (Nat → Int32))) : Int64 × Int32 × Int32 × Int32 × (Nat → Int32) × Int32 × Int32 × (Nat → Int32) × Int32 × Int32 × (Nat → Int32) × Int32 × Int32 × (Nat → Int32) × Int32 × Int32 × (Nat → Int32) := if t12_0 ≤ t9_0 then (if t9_1 < (t12_1 + a76 : Int32) then ((j66, t0_1, (p96.1 : Int32), (p96.2.1 : Int32), (p96.2.2 : (Nat → Int32)), t3_0, t3_1, t4_0, t5_0, t5_1, t6_0, t7_0, t7_1, t8_0, t13_0, t13_1, t14_0)) else (F_DW_rest_c90 R R2 t0_0 t0_1 t1_0 t1_1 t2_0 t3_0 t3_1 t4_0 t5_0 t5_1 t6_0 t7_0 t7_1 t8_0 t9_0 t9_1 t10_0 t10_1 t11_0 t12_0 t12_1 t13_0 t13_1 t14_0 a76 j66 p96 (p96.1 : Int32) (p96.2.1 : Int32) (p96.2.2 : (Nat → Int32)) ((F_Big_copy (220 : Int32) R2 t5_0 t5_1 t6_0 t13_0 t13_1 t14_0) : (Int32 × Int32 × (Nat → Int32))))) else (F_DW_rest_c60 R R2 t0_0 t0_1 t1_0 t1_1 t2_0 t3_0 t3_1 t4_0 t5_0 t5_1 t6_0 t7_0 t7_1 t8_0 t9_0 t9_1 t10_0 t10_1 t11_0 t12_0 t12_1 t13_0 t13_1 t14_0 a76 j66 p96 ((F_DW_raiseBelow a76 R2 (p96.1 : Int32) (p96.2.1 : Int32) (p96.2.2 : (Nat → Int32)) t3_0 t3_1 t4_0 t5_0 t5_1 t6_0 t7_0 t7_1 t8_0 t13_0 t13_1 t14_0) : (Int32 × Int32 × (Nat → Int32) × Int32 × Int32 × (Nat → Int32) × Int32 × Int32 × (Nat → Int32) × Int32 × Int32 × (Nat → Int32) × Int32 × Int32 × (Nat → Int32))))
def F_DW_rest (R : Int32) (R2 : Int32) (t0_0 : Int64) (t0_1 : Int32) (t1_0 : Int32) (t1_1 : Int32) (t2_0 : (Nat → Int32)) (t3_0 : Int32) (t3_1 : Int32) (t4_0 : (Nat → Int32)) (t5_0 : Int32) (t5_1 : Int32) (t6_0 : (Nat → Int32)) (t7_0 : Int32) (t7_1 : Int32) (t8_0 : (Nat → Int32)) (t9_0 : Int32) (t9_1 : Int32) (t10_0 : Int32) (t10_1 : Int32) (t11_0 : (Nat → Int32)) (t12_0 : Int32) (t12_1 : Int32) (t13_0 : Int32) (t13_1 : Int32) (t14_0 : (Nat → Int32)) : Int64 × Int32 × Int32 × Int32 × (Nat → Int32) × Int32 × Int32 × (Nat → Int32) × Int32 × Int32 × (Nat → Int32) × Int32 × Int32 × (Nat → Int32) × Int32 × Int32 × (Nat → Int32) := F_DW_rest_c40 R R2 t0_0 t0_1 t1_0 t1_1 t2_0 t3_0 t3_1 t4_0 t5_0 t5_1 t6_0 t7_0 t7_1 t8_0 t9_0 t9_1 t10_0 t10_1 t11_0 t12_0 t12_1 t13_0 t13_1 t14_0 ((F_jMath_abs_II (t9_0 - t12_0 : Int32)) : Int32) ((if t9_0 < t12_0 then t12_0 else t9_0 : Int32).toInt64 : Int64) ((F_Big_copy (220 : Int32) R t1_0 t1_1 t2_0 t10_0 t10_1 t11_0) : (Int32 × Int32 × (Nat → Int32)))
def S_DW_rest_c125 (R : Int32) (R2 : Int32) (t0_0 : Int64) (t0_1 : Int32) (t1_0 : Int32) (t1_1 : Int32) (t2_0 : (Nat → Int32)) (t3_0 : Int32) (t3_1 : Int32) (t4_0 : (Nat → Int32)) (t5_0 : Int32) (t5_1 : Int32) (t6_0 : (Nat → Int32)) (t7_0 : Int32) (t7_1 : Int32) (t8_0 : (Nat → Int32)) (t9_0 : Int32) (t9_1 : Int32) (t10_0 : Int32) (t10_1 : Int32) (t11_0 : (Nat → Int32)) (t12_0 : Int32) (t12_1 : Int32) (t13_0 : Int32) (t13_1 : Int32) (t14_0 : (Nat → Int32)) (a76 : Int32) (j66 : Int64) (p96 : (Int32 × Int32 × (Nat → Int32))) (y85 : Int32) (y86 : Int32) (f87 : (Nat → Int32)) (p127 : (Int32 × Int32 × (Nat → Int32))) (p150 : (Int32 × Int32 × (Nat → Int32))) (p195 : (Int32 × Int32 × (Nat → Int32) × Int32 × Int32 × (Nat → Int32) × Int32 × Int32 × (Nat → Int32))) : Prop := True
def S_DW_rest_c101 (R : Int32) (R2 : Int32) (t0_0 : Int64) (t0_1 : Int32) (t1_0 : Int32) (t1_1 : Int32) (t2_0 : (Nat → Int32)) (t3_0 : Int32) (t3_1 : Int32) (t4_0 : (Nat → Int32)) (t5_0 : Int32) (t5_1 : Int32) (t6_0 : (Nat → Int32)) (t7_0 : Int32) (t7_1 : Int32) (t8_0 : (Nat → Int32)) (t9_0 : Int32) (t9_1 : Int32) (t10_0 : Int32) (t10_1 : Int32) (t11_0 : (Nat → Int32)) (t12_0 : Int32) (t12_1 : Int32) (t13_0 : Int32) (t13_1 : Int32) (t14_0 : (Nat → Int32)) (a76 : Int32) (j66 : Int64) (p96 : (Int32 × Int32 × (Nat → Int32))) (y85 : Int32) (y86 : Int32) (f87 : (Nat → Int32)) (p127 : (Int32 × Int32 × (Nat → Int32))) (p150 : (Int32 × Int32 × (Nat → Int32))) : Prop := (True ∧ S_Big_divideBy (220 : Int32) (220 : Int32) (220 : Int32) y85 y86 f87 (p150.1 : Int32) (p150.2.1 : Int32) (p150.2.2 : (Nat → Int32)) t3_0 t3_1 t4_0) ∧ (S_DW_rest_c125 R R2 t0_0 t0_1 t1_0 t1_1 t2_0 t3_0 t3_1 t4_0 t5_0 t5_1 t6_0 t7_0 t7_1 t8_0 t9_0 t9_1 t10_0 t10_1 t11_0 t12_0 t12_1 t13_0 t13_1 t14_0 a76 j66 p96 y85 y86 f87 p127 p150 ((F_Big_divideBy (220 : Int32) (220 : Int32) (220 : Int32) y85 y86 f87 (p150.1 : Int32) (p150.2.1 : Int32) (p150.2.2 : (Nat → Int32)) t3_0 t3_1 t4_0) : (Int32 × Int32 × (Nat → Int32) × Int32 × Int32 × (Nat → Int32) × Int32 × Int32 × (Nat → Int32))))
def S_DW_rest_c90 (R : Int32) (R2 : Int32) (t0_0 : Int64) (t0_1 : Int32) (t1_0 : Int32) (t1_1 : Int32) (t2_0 : (Nat → Int32)) (t3_0 : Int32) (t3_1 : Int32) (t4_0 : (Nat → Int32)) (t5_0 : Int32) (t5_1 : Int32) (t6_0 : (Nat → Int32)) (t7_0 : Int32) (t7_1 : Int32) (t8_0 : (Nat → Int32)) (t9_0 : Int32) (t9_1 : Int32) (t10_0 : Int32) (t10_1 : Int32) (t11_0 : (Nat → Int32)) (t12_0 : Int32) (t12_1 : Int32) (t13_0 : Int32) (t13_1 : Int32) (t14_0 : (Nat → Int32)) (a76 : Int32) (j66 : Int64) (p96 : (Int32 × Int32 × (Nat → Int32))) (y85 : Int32) (y86 : Int32) (f87 : (Nat → Int32)) (p127 : (Int32 × Int32 × (Nat → Int32))) : Prop := S_DW_rest_c101 R R2 t0_0 t0_1 t1_0 t1_1 t2_0 t3_0 t3_1 t4_0 t5_0 t5_1 t6_0 t7_0 t7_1 t8_0 t9_0 t9_1 t10_0 t10_1 t11_0 t12_0 t12_1 t13_0 t13_1 t14_0 a76 j66 p96 y85 y86 f87 p127 ((F_Big_timesTen (220 : Int32) a76 (p127.1 : Int32) (p127.2.1 : Int32) (p127.2.2 : (Nat → Int32))) : (Int32 × Int32 × (Nat → Int32)))
def S_DW_rest_c60 (R : Int32) (R2 : Int32) (t0_0 : Int64) (t0_1 : Int32) (t1_0 : Int32) (t1_1 : Int32) (t2_0 : (Nat → Int32)) (t3_0 : Int32) (t3_1 : Int32) (t4_0 : (Nat → Int32)) (t5_0 : Int32) (t5_1 : Int32) (t6_0 : (Nat → Int32)) (t7_0 : Int32) (t7_1 : Int32) (t8_0 : (Nat → Int32)) (t9_0 : Int32) (t9_1 : Int32) (t10_0 : Int32) (t10_1 : Int32) (t11_0 : (Nat → Int32)) (t12_0 : Int32) (t12_1 : Int32) (t13_0 : Int32) (t13_1 : Int32) (t14_0 : (Nat → Int32)) (a76 : Int32) (j66 : Int64) (p96 : (Int32 × Int32 × (Nat → Int32))) (p262 : (Int32 × Int32 × (Nat → Int32) × Int32 × Int32 × (Nat → Int32) × Int32 × Int32 × (Nat → Int32) × Int32 × Int32 × (Nat → Int32) × Int32 × Int32 × (Nat → Int32))) : Prop := True
def S_DW_rest_c40 (R : Int32) (R2 : Int32) (t0_0 : Int64) (t0_1 : Int32) (t1_0 : Int32) (t1_1 : Int32) (t2_0 : (Nat → Int32)) (t3_0 : Int32) (t3_1 : Int32) (t4_0 : (Nat → Int32)) (t5_0 : Int32) (t5_1 : Int32) (t6_0 : (Nat → Int32)) (t7_0 : Int32) (t7_1 : Int32) (t8_0 : (Nat → Int32)) (t9_0 : Int32) (t9_1 : Int32) (t10_0 : Int32) (t10_1 : Int32) (t11_0 : (Nat → Int32)) (t12_0 : Int32) (t12_1 : Int32) (t13_0 : Int32) (t13_1 : Int32) (t14_0 : (Nat → Int32)) (a76 : Int32) (j66 : Int64) (p96 : (Int32 × Int32 × (Nat → Int32))) : Prop := if t12_0 ≤ t9_0 then (if t9_1 < (t12_1 + a76 : Int32) then (True) else (S_DW_rest_c90 R R2 t0_0 t0_1 t1_0 t1_1 t2_0 t3_0 t3_1 t4_0 t5_0 t5_1 t6_0 t7_0 t7_1 t8_0 t9_0 t9_1 t10_0 t10_1 t11_0 t12_0 t12_1 t13_0 t13_1 t14_0 a76 j66 p96 (p96.1 : Int32) (p96.2.1 : Int32) (p96.2.2 : (Nat → Int32)) ((F_Big_copy (220 : Int32) R2 t5_0 t5_1 t6_0 t13_0 t13_1 t14_0) : (Int32 × Int32 × (Nat → Int32))))) else ((True ∧ S_DW_raiseBelow a76 R2 (p96.1 : Int32) (p96.2.1 : Int32) (p96.2.2 : (Nat → Int32)) t3_0 t3_1 t4_0 t5_0 t5_1 t6_0 t7_0 t7_1 t8_0 t13_0 t13_1 t14_0) ∧ (S_DW_rest_c60 R R2 t0_0 t0_1 t1_0 t1_1 t2_0 t3_0 t3_1 t4_0 t5_0 t5_1 t6_0 t7_0 t7_1 t8_0 t9_0 t9_1 t10_0 t10_1 t11_0 t12_0 t12_1 t13_0 t13_1 t14_0 a76 j66 p96 ((F_DW_raiseBelow a76 R2 (p96.1 : Int32) (p96.2.1 : Int32) (p96.2.2 : (Nat → Int32)) t3_0 t3_1 t4_0 t5_0 t5_1 t6_0 t7_0 t7_1 t8_0 t13_0 t13_1 t14_0) : (Int32 × Int32 × (Nat → Int32) × Int32 × Int32 × (Nat → Int32) × Int32 × Int32 × (Nat → Int32) × Int32 × Int32 × (Nat → Int32) × Int32 × Int32 × (Nat → Int32)))))
def S_DW_rest (R : Int32) (R2 : Int32) (t0_0 : Int64) (t0_1 : Int32) (t1_0 : Int32) (t1_1 : Int32) (t2_0 : (Nat → Int32)) (t3_0 : Int32) (t3_1 : Int32) (t4_0 : (Nat → Int32)) (t5_0 : Int32) (t5_1 : Int32) (t6_0 : (Nat → Int32)) (t7_0 : Int32) (t7_1 : Int32) (t8_0 : (Nat → Int32)) (t9_0 : Int32) (t9_1 : Int32) (t10_0 : Int32) (t10_1 : Int32) (t11_0 : (Nat → Int32)) (t12_0 : Int32) (t12_1 : Int32) (t13_0 : Int32) (t13_1 : Int32) (t14_0 : (Nat → Int32)) : Prop := S_DW_rest_c40 R R2 t0_0 t0_1 t1_0 t1_1 t2_0 t3_0 t3_1 t4_0 t5_0 t5_1 t6_0 t7_0 t7_1 t8_0 t9_0 t9_1 t10_0 t10_1 t11_0 t12_0 t12_1 t13_0 t13_1 t14_0 ((F_jMath_abs_II (t9_0 - t12_0 : Int32)) : Int32) ((if t9_0 < t12_0 then t12_0 else t9_0 : Int32).toInt64 : Int64) ((F_Big_copy (220 : Int32) R t1_0 t1_1 t2_0 t10_0 t10_1 t11_0) : (Int32 × Int32 × (Nat → Int32)))
set_option maxRecDepth 100000 in
set_option maxHeartbeats 4000000 in
theorem X_DW_rest (l : Launch) (D : va_G) (g : Nat → ClassId) (q : Nat → Nat) (ws : va_W) (k2 : Nat) (R : Int32) (hB2 : q_isDec (nsh g q) g q k2 R) (zk2 : (10 ≤ k2 ∧ k2 ≤ 31) ∨ 66 ≤ k2) (k3 : Nat) (R2 : Int32) (hB3 : q_isDec (nsh g q) g q k3 R2) (zk3 : (10 ≤ k3 ∧ k3 ≤ 31) ∨ 66 ≤ k3) (ne_k2_10 : k2 ≠ 10) (ne_k2_11 : k2 ≠ 11) (ne_k2_9 : k2 ≠ 9) (ne_k2_8 : k2 ≠ 8) (ne_k2_12 : k2 ≠ 12) (ne_k2_13 : k2 ≠ 13) (ne_k2_22 : k2 ≠ 22) (ne_k2_23 : k2 ≠ 23) (ne_k2_21 : k2 ≠ 21) (ne_k2_20 : k2 ≠ 20) (ne_k2_24 : k2 ≠ 24) (ne_k2_25 : k2 ≠ 25) (ne_k2_30 : k2 ≠ 30) (ne_k2_31 : k2 ≠ 31) (ne_k2_29 : k2 ≠ 29) (ne_k2_28 : k2 ≠ 28) (ne_k3_10 : k3 ≠ 10) (ne_k3_11 : k3 ≠ 11) (ne_k3_9 : k3 ≠ 9) (ne_k3_8 : k3 ≠ 8) (ne_k3_12 : k3 ≠ 12) (ne_k3_13 : k3 ≠ 13) (ne_k3_22 : k3 ≠ 22) (ne_k3_23 : k3 ≠ 23) (ne_k3_21 : k3 ≠ 21) (ne_k3_20 : k3 ≠ 20) (ne_k3_24 : k3 ≠ 24) (ne_k3_25 : k3 ≠ 25) (ne_k3_30 : k3 ≠ 30) (ne_k3_31 : k3 ≠ 31) (ne_k3_29 : k3 ≠ 29) (ne_k3_28 : k3 ≠ 28) (ne_k2_k3 : k2 ≠ k3) (ne_k2_k3p1 : k2 ≠ k3 + 1) (ne_k2_k3p2 : k2 ≠ k3 + 2) (ne_k3_k2p1 : k3 ≠ k2 + 1) (ne_k3_k2p2 : k3 ≠ k2 + 2) (hI : q_I (nsh g q) q ws) (t0_0 : Int64) (t0_1 : Int32) (hT0 : ws[30]? = (some (q 30, .inr (5, [.ref (q 31), .long t0_0, .ref (q 9), .int t0_1])) : Option (Nat × va_E))) (t1_0 : Int32) (t1_1 : Int32) (hT1 : ws[10]? = (some (q 10, .inr (2, [.ref (q 11), .int t1_0, .int t1_1])) : Option (Nat × va_E))) (t2_0 : (Nat → Int32)) (hT2 : ws[11]? = (some (q 11, .inl (g 0, (220 : Int32).toNatClampNeg, .inl t2_0)) : Option (Nat × va_E))) (t3_0 : Int32) (t3_1 : Int32) (hT3 : ws[12]? = (some (q 12, .inr (2, [.ref (q 13), .int t3_0, .int t3_1])) : Option (Nat × va_E))) (t4_0 : (Nat → Int32)) (hT4 : ws[13]? = (some (q 13, .inl (g 0, (220 : Int32).toNatClampNeg, .inl t4_0)) : Option (Nat × va_E))) (t5_0 : Int32) (t5_1 : Int32) (hT5 : ws[22]? = (some (q 22, .inr (2, [.ref (q 23), .int t5_0, .int t5_1])) : Option (Nat × va_E))) (t6_0 : (Nat → Int32)) (hT6 : ws[23]? = (some (q 23, .inl (g 0, (220 : Int32).toNatClampNeg, .inl t6_0)) : Option (Nat × va_E))) (t7_0 : Int32) (t7_1 : Int32) (hT7 : ws[24]? = (some (q 24, .inr (2, [.ref (q 25), .int t7_0, .int t7_1])) : Option (Nat × va_E))) (t8_0 : (Nat → Int32)) (hT8 : ws[25]? = (some (q 25, .inl (g 0, (220 : Int32).toNatClampNeg, .inl t8_0)) : Option (Nat × va_E))) (t9_0 : Int32) (t9_1 : Int32) (hT9 : ws[k2]? = (some (q k2, .inr (3, [.ref (q (k2 + 1)), .int t9_0, .int t9_1])) : Option (Nat × va_E))) (t10_0 : Int32) (t10_1 : Int32) (hT10 : ws[k2 + 1]? = (some (q (k2 + 1), .inr (2, [.ref (q (k2 + 2)), .int t10_0, .int t10_1])) : Option (Nat × va_E))) (t11_0 : (Nat → Int32)) (hT11 : ws[k2 + 2]? = (some (q (k2 + 2), .inl (g 0, R.toNatClampNeg, .inl t11_0)) : Option (Nat × va_E))) (t12_0 : Int32) (t12_1 : Int32) (hT12 : ws[k3]? = (some (q k3, .inr (3, [.ref (q (k3 + 1)), .int t12_0, .int t12_1])) : Option (Nat × va_E))) (t13_0 : Int32) (t13_1 : Int32) (hT13 : ws[k3 + 1]? = (some (q (k3 + 1), .inr (2, [.ref (q (k3 + 2)), .int t13_0, .int t13_1])) : Option (Nat × va_E))) (t14_0 : (Nat → Int32)) (hT14 : ws[k3 + 2]? = (some (q (k3 + 2), .inl (g 0, R2.toNatClampNeg, .inl t14_0)) : Option (Nat × va_E))) (hS : True ∧ S_DW_rest R R2 t0_0 t0_1 t1_0 t1_1 t2_0 t3_0 t3_1 t4_0 t5_0 t5_1 t6_0 t7_0 t7_1 t8_0 t9_0 t9_1 t10_0 t10_1 t11_0 t12_0 t12_1 t13_0 t13_1 t14_0) : q_mV l y_DW_rest prog_4_method_7_code 4 6 0 0 D g [.ref (q 30), .ref (q k2), .ref (q k3)] ws (fun u => q_I (nsh g q) q u ∧ q_un ws u [10, 11, 12, 13, 22, 23, 24, 25, 30, k3 + 1, k3 + 2] ∧ ∃ (u0_0 : Int64) (u0_1 : Int32) (u1_0 : Int32) (u1_1 : Int32) (u2_0 : (Nat → Int32)) (u3_0 : Int32) (u3_1 : Int32) (u4_0 : (Nat → Int32)) (u5_0 : Int32) (u5_1 : Int32) (u6_0 : (Nat → Int32)) (u7_0 : Int32) (u7_1 : Int32) (u8_0 : (Nat → Int32)) (u13_0 : Int32) (u13_1 : Int32) (u14_0 : (Nat → Int32)), u[30]? = (some (q 30, .inr (5, [.ref (q 31), .long u0_0, .ref (q 9), .int u0_1])) : Option (Nat × va_E)) ∧ u[10]? = (some (q 10, .inr (2, [.ref (q 11), .int u1_0, .int u1_1])) : Option (Nat × va_E)) ∧ u[11]? = (some (q 11, .inl (g 0, (220 : Int32).toNatClampNeg, .inl u2_0)) : Option (Nat × va_E)) ∧ u[12]? = (some (q 12, .inr (2, [.ref (q 13), .int u3_0, .int u3_1])) : Option (Nat × va_E)) ∧ u[13]? = (some (q 13, .inl (g 0, (220 : Int32).toNatClampNeg, .inl u4_0)) : Option (Nat × va_E)) ∧ u[22]? = (some (q 22, .inr (2, [.ref (q 23), .int u5_0, .int u5_1])) : Option (Nat × va_E)) ∧ u[23]? = (some (q 23, .inl (g 0, (220 : Int32).toNatClampNeg, .inl u6_0)) : Option (Nat × va_E)) ∧ u[24]? = (some (q 24, .inr (2, [.ref (q 25), .int u7_0, .int u7_1])) : Option (Nat × va_E)) ∧ u[25]? = (some (q 25, .inl (g 0, (220 : Int32).toNatClampNeg, .inl u8_0)) : Option (Nat × va_E)) ∧ u[k3 + 1]? = (some (q (k3 + 1), .inr (2, [.ref (q (k3 + 2)), .int u13_0, .int u13_1])) : Option (Nat × va_E)) ∧ u[k3 + 2]? = (some (q (k3 + 2), .inl (g 0, R2.toNatClampNeg, .inl u14_0)) : Option (Nat × va_E)) ∧ (0 ≤ u0_0.toInt + 10000) ∧ (u0_0.toInt ≤ 10000) ∧ (0 ≤ u0_1.toInt) ∧ (u0_1.toInt ≤ 1) ∧ (0 ≤ u1_0.toInt) ∧ (u1_0.toInt ≤ 220) ∧ (0 ≤ u1_1.toInt) ∧ (u1_1.toInt ≤ 1) ∧ (0 ≤ u3_0.toInt) ∧ (u3_0.toInt ≤ 220) ∧ (0 ≤ u3_1.toInt) ∧ (u3_1.toInt ≤ 1) ∧ (0 ≤ u5_0.toInt) ∧ (u5_0.toInt ≤ 220) ∧ (0 ≤ u5_1.toInt) ∧ (0 ≤ u7_0.toInt) ∧ (u7_0.toInt ≤ 220) ∧ (0 ≤ u7_1.toInt) ∧ (u7_1.toInt ≤ 1) ∧ (0 ≤ u13_0.toInt) ∧ (u13_0.toInt ≤ 220) ∧ (0 ≤ u13_1.toInt) ∧ (u13_1.toInt ≤ 1) ∧ (t9_0.toInt ≤ u0_0.toInt) ∧ (t12_0.toInt ≤ u0_0.toInt) ∧ (t0_1.toInt ≤ u0_1.toInt) ∧ (u0_1.toInt ≤ t0_1.toInt) ∧ (u1_1.toInt ≤ t10_1.toInt) ∧ (u3_1.toInt ≤ t3_1.toInt) ∧ (u13_0.toInt ≤ R2.toInt) ∧ (u13_1.toInt ≤ t13_1.toInt) ∧ (u0_0, u0_1, u1_0, u1_1, u2_0, u3_0, u3_1, u4_0, u5_0, u5_1, u6_0, u7_0, u7_1, u8_0, u13_0, u13_1, u14_0) = (F_DW_rest R R2 t0_0 t0_1 t1_0 t1_1 t2_0 t3_0 t3_1 t4_0 t5_0 t5_1 t6_0 t7_0 t7_1 t8_0 t9_0 t9_1 t10_0 t10_1 t11_0 t12_0 t12_1 t13_0 t13_1 t14_0)) := by
  intro sz
  refine q_into (by decide) (Nat.le_of_ble_eq_true rfl) ?_
  intro p e s m below meth c ls hsz C0 V hl
  have hx := C0.1
  have hb := C0.2.1
  have hfk20 : q_F (0 ≤ R.toInt ∧ R.toInt ≤ 220) := hB2.2.2.2
  have hfk30 : q_F (0 ≤ R2.toInt ∧ R2.toInt ≤ 220) := hB3.2.2.2
  obtain ⟨yy0_0, yy0_1, hh0, btt0_1⟩ := n_o30 hI
  obtain ⟨rfl, rfl⟩ : t0_0 = yy0_0 ∧ t0_1 = yy0_1 := by have z := Option.some.inj (hT0.symm.trans hh0); simpa using z
  replace btt0_1 : q_F (0 ≤ t0_1.toInt ∧ t0_1.toInt ≤ 1) := btt0_1
  obtain ⟨yy1_0, yy1_1, hh1, btt1_0, btt1_1⟩ := q_bigO hI (n_b10 g q)
  obtain ⟨rfl, rfl⟩ : t1_0 = yy1_0 ∧ t1_1 = yy1_1 := by have z := Option.some.inj (hT1.symm.trans hh1); simpa using z
  replace btt1_0 : q_F (0 ≤ t1_0.toInt ∧ t1_0.toInt ≤ 220) := btt1_0
  replace btt1_1 : q_F (0 ≤ t1_1.toInt ∧ t1_1.toInt ≤ 1) := btt1_1
  obtain ⟨yy3_0, yy3_1, hh3, btt3_0, btt3_1⟩ := q_bigO hI (n_b12 g q)
  obtain ⟨rfl, rfl⟩ : t3_0 = yy3_0 ∧ t3_1 = yy3_1 := by have z := Option.some.inj (hT3.symm.trans hh3); simpa using z
  replace btt3_0 : q_F (0 ≤ t3_0.toInt ∧ t3_0.toInt ≤ 220) := btt3_0
  replace btt3_1 : q_F (0 ≤ t3_1.toInt ∧ t3_1.toInt ≤ 1) := btt3_1
  obtain ⟨yy5_0, yy5_1, hh5, btt5_0, btt5_1⟩ := q_bigO hI (n_b22 g q)
  obtain ⟨rfl, rfl⟩ : t5_0 = yy5_0 ∧ t5_1 = yy5_1 := by have z := Option.some.inj (hT5.symm.trans hh5); simpa using z
  replace btt5_0 : q_F (0 ≤ t5_0.toInt ∧ t5_0.toInt ≤ 220) := btt5_0
  replace btt5_1 : q_F (0 ≤ t5_1.toInt ∧ t5_1.toInt ≤ 1) := btt5_1
  obtain ⟨yy7_0, yy7_1, hh7, btt7_0, btt7_1⟩ := q_bigO hI (n_b24 g q)
  obtain ⟨rfl, rfl⟩ : t7_0 = yy7_0 ∧ t7_1 = yy7_1 := by have z := Option.some.inj (hT7.symm.trans hh7); simpa using z
  replace btt7_0 : q_F (0 ≤ t7_0.toInt ∧ t7_0.toInt ≤ 220) := btt7_0
  replace btt7_1 : q_F (0 ≤ t7_1.toInt ∧ t7_1.toInt ≤ 1) := btt7_1
  obtain ⟨yy9_0, yy9_1, hh9, btt9_0, btt9_1⟩ := n_deO hI hB2
  obtain ⟨rfl, rfl⟩ : t9_0 = yy9_0 ∧ t9_1 = yy9_1 := by have z := Option.some.inj (hT9.symm.trans hh9); simpa using z
  replace btt9_0 : q_F (-10000 ≤ t9_0.toInt ∧ t9_0.toInt ≤ 10000) := btt9_0
  replace btt9_1 : q_F (1 ≤ t9_1.toInt ∧ t9_1.toInt ≤ 1000) := btt9_1
  obtain ⟨yy10_0, yy10_1, hh10, btt10_0, btt10_1⟩ := q_bigO hI hB2.2
  obtain ⟨rfl, rfl⟩ : t10_0 = yy10_0 ∧ t10_1 = yy10_1 := by have z := Option.some.inj (hT10.symm.trans hh10); simpa using z
  replace btt10_0 : q_F (0 ≤ t10_0.toInt ∧ t10_0.toInt ≤ R.toInt) := btt10_0
  replace btt10_1 : q_F (0 ≤ t10_1.toInt ∧ t10_1.toInt ≤ 1) := btt10_1
  obtain ⟨yy12_0, yy12_1, hh12, btt12_0, btt12_1⟩ := n_deO hI hB3
  obtain ⟨rfl, rfl⟩ : t12_0 = yy12_0 ∧ t12_1 = yy12_1 := by have z := Option.some.inj (hT12.symm.trans hh12); simpa using z
  replace btt12_0 : q_F (-10000 ≤ t12_0.toInt ∧ t12_0.toInt ≤ 10000) := btt12_0
  replace btt12_1 : q_F (1 ≤ t12_1.toInt ∧ t12_1.toInt ≤ 1000) := btt12_1
  obtain ⟨yy13_0, yy13_1, hh13, btt13_0, btt13_1⟩ := q_bigO hI hB3.2
  obtain ⟨rfl, rfl⟩ : t13_0 = yy13_0 ∧ t13_1 = yy13_1 := by have z := Option.some.inj (hT13.symm.trans hh13); simpa using z
  replace btt13_0 : q_F (0 ≤ t13_0.toInt ∧ t13_0.toInt ≤ R2.toInt) := btt13_0
  replace btt13_1 : q_F (0 ≤ t13_1.toInt ∧ t13_1.toInt ≤ 1) := btt13_1
  have hF : q_un ws ws [10, 11, 12, 13, 22, 23, 24, 25, 30, k3 + 1, k3 + 2] := q_u0
  have hl : lv_has ls 4 [(0, .ref (q 30)), (1, .ref (q k2)), (2, .ref (q k3))] := hl
  refine lv_aload_n hx hb d_4_7_0 rfl (lv_at hl 0 rfl) ?_
  refine lv_aload_n hx hb d_4_7_1 rfl (lv_at hl 1 rfl) ?_
  refine q_get (ci := 3) (j := 1) (v := .int t9_0) C0 V i_Dec rfl rfl hT9 (by decide) w_176 rfl d_4_7_2 ?_
  refine lv_aload_n hx hb d_4_7_5 rfl (lv_at hl 2 rfl) ?_
  refine q_get (ci := 3) (j := 1) (v := .int t12_0) C0 V i_Dec rfl rfl hT12 (by decide) w_176 rfl d_4_7_6 ?_
  refine q_max C0 hl.1 rfl w_1370 w_803 w_7 w_804 ⟨Nat.le_of_ble_eq_true rfl, Nat.le_of_ble_eq_true rfl⟩ ⟨Nat.le_of_ble_eq_true rfl, Nat.le_of_ble_eq_true rfl⟩ d_4_7_9 ?_
  obtain ⟨a63, e64⟩ := q_nm (if t9_0 < t12_0 then t12_0 else t9_0 : Int32)
  refine q_ti (v := a63) e64 ?_
  have b65 : q_F (t9_0.toInt ≤ a63.toInt ∧ t12_0.toInt ≤ a63.toInt ∧ (a63.toInt = t9_0.toInt ∨ a63.toInt = t12_0.toInt)) := (by rw [← e64]; show t9_0.toInt ≤ (if t9_0 < t12_0 then t12_0 else t9_0 : Int32).toInt ∧ t12_0.toInt ≤ (if t9_0 < t12_0 then t12_0 else t9_0 : Int32).toInt ∧ ((if t9_0 < t12_0 then t12_0 else t9_0 : Int32).toInt = t9_0.toInt ∨ (if t9_0 < t12_0 then t12_0 else t9_0 : Int32).toInt = t12_0.toInt); exact s_max (a := t9_0) (b := t12_0))
  refine lv_i2l hx hb d_4_7_12 rfl ?_
  obtain ⟨j66, e67⟩ := q_nm (a63.toInt64 : Int64)
  refine q_tl (v := j66) e67 ?_
  have b68 : q_F (j66.toInt = a63.toInt) := (by rw [← e67]; show (a63.toInt64 : Int64).toInt = a63.toInt; exact q_i2l rfl)
  refine q_put (ci := 5) (j := 1) (v := .long j66) (ty := .long) C0 V i_DW o_DW n_DW rfl rfl hT0 (by decide) w_212 rfl rfl rfl rfl (Nat.le_of_ble_eq_true rfl) d_4_7_13 (fun H locs w69 hu70 hT0 V => ?_)
  replace hT0 : w69[30]? = (some (q 30, .inr (5, [.ref (q 31), .long j66, .ref (q 9), .int t0_1])) : Option (Nat × va_E)) := hT0
  replace hI := n_p30 hI hu70 hT0 ⟨(by have t1 : 0 ≤ t0_1.toInt ∧ t0_1.toInt ≤ 1 := btt0_1; omega), (by have t1 : 0 ≤ t0_1.toInt ∧ t0_1.toInt ≤ 1 := btt0_1; omega)⟩
  replace hT1 := (hu70 _ (by decide)).trans hT1
  replace hT2 := (hu70 _ (by decide)).trans hT2
  replace hT3 := (hu70 _ (by decide)).trans hT3
  replace hT4 := (hu70 _ (by decide)).trans hT4
  replace hT5 := (hu70 _ (by decide)).trans hT5
  replace hT6 := (hu70 _ (by decide)).trans hT6
  replace hT7 := (hu70 _ (by decide)).trans hT7
  replace hT8 := (hu70 _ (by decide)).trans hT8
  replace hT9 := (hu70 _ (by have z := ne_k2_30; omega)).trans hT9
  replace hT10 := (hu70 _ (by have z := ne_k2_29; omega)).trans hT10
  replace hT11 := (hu70 _ (by have z := ne_k2_28; omega)).trans hT11
  replace hT12 := (hu70 _ (by have z := ne_k3_30; omega)).trans hT12
  replace hT13 := (hu70 _ (by have z := ne_k3_29; omega)).trans hT13
  replace hT14 := (hu70 _ (by have z := ne_k3_28; omega)).trans hT14
  replace hF := q_us hF hu70 (by simp)
  refine lv_aload_n hx hb d_4_7_16 rfl (lv_at hl 1 rfl) ?_
  refine q_get (ci := 3) (j := 1) (v := .int t9_0) C0 V i_Dec rfl rfl hT9 (by decide) w_176 rfl d_4_7_17 ?_
  refine lv_aload_n hx hb d_4_7_20 rfl (lv_at hl 2 rfl) ?_
  refine q_get (ci := 3) (j := 1) (v := .int t12_0) C0 V i_Dec rfl rfl hT12 (by decide) w_176 rfl d_4_7_21 ?_
  refine lv_isub hx hb d_4_7_24 ?_
  obtain ⟨a71, e72⟩ := q_nm (t9_0 - t12_0 : Int32)
  refine q_ti (v := a71) e72 ?_
  have b73 : q_F (a71.toInt = t9_0.toInt - t12_0.toInt) := (by rw [← e72]; show (t9_0 - t12_0 : Int32).toInt = t9_0.toInt - t12_0.toInt; exact q_subI (x := t9_0.toInt) (y := t12_0.toInt) rfl rfl (by have t1 : -10000 ≤ t9_0.toInt ∧ t9_0.toInt ≤ 10000 := btt9_0; have t2 : -10000 ≤ t12_0.toInt ∧ t12_0.toInt ≤ 10000 := btt12_0; omega) (by have t1 : -10000 ≤ t9_0.toInt ∧ t9_0.toInt ≤ 10000 := btt9_0; have t2 : -10000 ≤ t12_0.toInt ∧ t12_0.toInt ≤ 10000 := btt12_0; omega))
  refine q_goi V (q_runS (As := [.int a71]) (rest := []) (d := 1) (mc := 0) (ms := 0) C0 V rfl LS_DW_98 (X_jMath_abs_II l D g q w69  a71 hI  (by have t1 : -10000 ≤ t9_0.toInt ∧ t9_0.toInt ≤ 10000 := btt9_0; have t2 : -10000 ≤ t12_0.toInt ∧ t12_0.toInt ≤ 10000 := btt12_0; have t3 : a71.toInt = t9_0.toInt - t12_0.toInt := b73; omega) _) rfl hl.1 rfl (Nat.le_of_ble_eq_true rfl) ⟨by decide, by decide⟩ ⟨Nat.le_of_ble_eq_true rfl, Nat.le_of_ble_eq_true rfl⟩ d_4_7_25) (fun a76 u74 H locs hp75 V => ?_)
  obtain ⟨rfl, b77, b78, hE79⟩ := hp75
  have e80 : a76 = (F_jMath_abs_II a71) := hE79
  replace b77 : q_F (0 ≤ a76.toInt) := b77
  replace b78 : q_F (a71.toInt ≤ a76.toInt) := b78
  refine lv_istore_n (lv' := [(3, .int a76), (0, .ref (q 30)), (1, .ref (q k2)), (2, .ref (q k3))]) hx hb d_4_7_28 rfl hl (by decide) rfl (fun ls hl => ?_)
  refine lv_aload_n hx hb d_4_7_29 rfl (lv_at hl 1 rfl) ?_
  refine q_get (ci := 5) (j := 2) (v := .ref (q 9)) C0 V i_DW rfl rfl hT0 (by decide) w_214 rfl d_4_7_30 ?_
  have hO81 := n_o9 hI
  refine q_get (ci := 4) (j := 0) (v := .ref (q 10)) C0 V i_Mil rfl rfl hO81 (by decide) w_111 rfl d_4_7_33 ?_
  refine lv_aload_n hx hb d_4_7_36 rfl (lv_at hl 2 rfl) ?_
  refine q_get (ci := 3) (j := 0) (v := .ref (q (k2 + 1))) C0 V i_Dec rfl rfl hT9 (by decide) w_171 rfl d_4_7_37 ?_
  refine q_gov V (q_runV (As := [.ref (q (k2 + 1))]) (rest := []) (d := 2) (mc := 0) (ms := 0) (ci := 2) C0 V rfl LV_DW_44 (X_Big_copy l D g q w69 10 220 (n_b10 g q) (by decide) (k2 + 1) R hB2.2 (by have z := zk2; omega)  (by have z := ne_k2_9; omega) hI t1_0 t1_1 hT1 t2_0 hT2 t10_0 t10_1 hT10 t11_0 hT11  _) rfl rfl hT1 rfl hl.1 rfl (Nat.le_of_ble_eq_true rfl) ⟨by decide, by decide⟩ ⟨Nat.le_of_ble_eq_true rfl, Nat.le_of_ble_eq_true rfl⟩ d_4_7_40) (fun u82 H locs hp83 V => ?_)
  obtain ⟨hI, hu95, y85, y86, f87, hO84, hA88, b89, b90, b91, b92, b93, hE94⟩ := hp83
  replace hO84 : u82[10]? = (some (q 10, .inr (2, [.ref (q 11), .int y85, .int y86])) : Option (Nat × va_E)) := hO84
  replace hA88 : u82[11]? = (some (q 11, .inl (g 0, (220 : Int32).toNatClampNeg, .inl f87)) : Option (Nat × va_E)) := hA88
  obtain ⟨p96, e97⟩ : ∃ z, z = (F_Big_copy (220 : Int32) R t1_0 t1_1 t2_0 t10_0 t10_1 t11_0) := ⟨_, rfl⟩
  have e98 : y85 = p96.1 := congrArg (fun z => z.1) (hE94.trans e97.symm)
  have e99 : y86 = p96.2.1 := congrArg (fun z => z.2.1) (hE94.trans e97.symm)
  have e100 : f87 = p96.2.2 := congrArg (fun z => z.2.2) (hE94.trans e97.symm)
  replace b89 : q_F (0 ≤ y85.toInt) := b89
  replace b90 : q_F (y85.toInt ≤ t10_0.toInt) := b90
  replace b91 : q_F (y85.toInt ≤ 220) := b91
  replace b92 : q_F (t10_1.toInt ≤ y86.toInt) := b92
  replace b93 : q_F (y86.toInt ≤ t10_1.toInt) := b93
  replace hT0 := (hu95 _ (by decide)).trans hT0
  replace hT3 := (hu95 _ (by decide)).trans hT3
  replace hT4 := (hu95 _ (by decide)).trans hT4
  replace hT5 := (hu95 _ (by decide)).trans hT5
  replace hT6 := (hu95 _ (by decide)).trans hT6
  replace hT7 := (hu95 _ (by decide)).trans hT7
  replace hT8 := (hu95 _ (by decide)).trans hT8
  replace hT9 := (hu95 _ (by have z0 := zk2; simp only [List.mem_cons, List.not_mem_nil, or_false, not_or]; omega)).trans hT9
  replace hT10 := (hu95 _ (by have z0 := zk2; simp only [List.mem_cons, List.not_mem_nil, or_false, not_or]; omega)).trans hT10
  replace hT11 := (hu95 _ (by have z0 := zk2; simp only [List.mem_cons, List.not_mem_nil, or_false, not_or]; omega)).trans hT11
  replace hT12 := (hu95 _ (by have z0 := zk3; simp only [List.mem_cons, List.not_mem_nil, or_false, not_or]; omega)).trans hT12
  replace hT13 := (hu95 _ (by have z0 := zk3; simp only [List.mem_cons, List.not_mem_nil, or_false, not_or]; omega)).trans hT13
  replace hT14 := (hu95 _ (by have z0 := zk3; simp only [List.mem_cons, List.not_mem_nil, or_false, not_or]; omega)).trans hT14
  replace hO81 := (hu95 _ (by decide)).trans hO81
  replace hF := q_uc hF hu95 (by simp)
  have hR101 := (show F_DW_rest_c40 R R2 t0_0 t0_1 t1_0 t1_1 t2_0 t3_0 t3_1 t4_0 t5_0 t5_1 t6_0 t7_0 t7_1 t8_0 t9_0 t9_1 t10_0 t10_1 t11_0 t12_0 t12_1 t13_0 t13_1 t14_0 a76 j66 p96 = (F_DW_rest R R2 t0_0 t0_1 t1_0 t1_1 t2_0 t3_0 t3_1 t4_0 t5_0 t5_1 t6_0 t7_0 t7_1 t8_0 t9_0 t9_1 t10_0 t10_1 t11_0 t12_0 t12_1 t13_0 t13_1 t14_0) from (by rw [e97, e80, ← e72, ← e67, ← e64, F_DW_rest.eq_1]))
  have hS102 := (show True ∧ S_DW_rest_c40 R R2 t0_0 t0_1 t1_0 t1_1 t2_0 t3_0 t3_1 t4_0 t5_0 t5_1 t6_0 t7_0 t7_1 t8_0 t9_0 t9_1 t10_0 t10_1 t11_0 t12_0 t12_1 t13_0 t13_1 t14_0 a76 j66 p96 from (by rw [e97, e80, ← e72, ← e67, ← e64]; have h := hS; rw [S_DW_rest.eq_1] at h; with_reducible exact h))
  refine lv_aload_n hx hb d_4_7_43 rfl (lv_at hl 2 rfl) ?_
  refine q_get (ci := 3) (j := 1) (v := .int t9_0) C0 V i_Dec rfl rfl hT9 (by decide) w_176 rfl d_4_7_44 ?_
  refine lv_aload_n hx hb d_4_7_47 rfl (lv_at hl 3 rfl) ?_
  refine q_get (ci := 3) (j := 1) (v := .int t12_0) C0 V i_Dec rfl rfl hT12 (by decide) w_176 rfl d_4_7_48 ?_
  refine lv_icmp_ge (tgt := 66) hx hb d_4_7_51 (by decide) (fun c106 => ?_) (fun c106 => ?_)
  ·
    have b107 : q_F (t12_0.toInt ≤ t9_0.toInt) := (q_leI c106)
    refine lv_aload_n hx hb d_4_7_66 rfl (lv_at hl 2 rfl) ?_
    refine q_get (ci := 3) (j := 2) (v := .int t9_1) C0 V i_Dec rfl rfl hT9 (by decide) w_180 rfl d_4_7_67 ?_
    refine lv_aload_n hx hb d_4_7_70 rfl (lv_at hl 3 rfl) ?_
    refine q_get (ci := 3) (j := 2) (v := .int t12_1) C0 V i_Dec rfl rfl hT12 (by decide) w_180 rfl d_4_7_71 ?_
    refine lv_iload_n hx hb d_4_7_74 rfl (lv_at hl 0 rfl) ?_
    refine lv_iadd hx hb d_4_7_75 ?_
    obtain ⟨a108, e109⟩ := q_nm (t12_1 + a76 : Int32)
    refine q_ti (v := a108) e109 ?_
    refine lv_icmp_lt (tgt := 128) hx hb d_4_7_76 (by decide) (fun c110 => ?_) (fun c110 => ?_)
    ·
      have b111 : q_F (t9_1.toInt < a108.toInt) := (q_ltI c110)
      exact q_retv C0 V (⟨hI, hF, j66, t0_1, y85, y86, f87, t3_0, t3_1, t4_0, t5_0, t5_1, t6_0, t7_0, t7_1, t8_0, t13_0, t13_1, t14_0, hT0, hO84, hA88, hT3, hT4, hT5, hT6, hT7, hT8, hT13, hT14, (show 0 ≤ j66.toInt + 10000 from (by have t1 : -10000 ≤ t9_0.toInt ∧ t9_0.toInt ≤ 10000 := btt9_0; have t2 : t9_0.toInt ≤ a63.toInt ∧ t12_0.toInt ≤ a63.toInt ∧ (a63.toInt = t9_0.toInt ∨ a63.toInt = t12_0.toInt) := b65; have t3 : j66.toInt = a63.toInt := b68; omega)), (show j66.toInt ≤ 10000 from (by have t1 : -10000 ≤ t9_0.toInt ∧ t9_0.toInt ≤ 10000 := btt9_0; have t2 : -10000 ≤ t12_0.toInt ∧ t12_0.toInt ≤ 10000 := btt12_0; have t3 : t9_0.toInt ≤ a63.toInt ∧ t12_0.toInt ≤ a63.toInt ∧ (a63.toInt = t9_0.toInt ∨ a63.toInt = t12_0.toInt) := b65; have t4 : j66.toInt = a63.toInt := b68; omega)), (show 0 ≤ t0_1.toInt from (by have t1 : 0 ≤ t0_1.toInt ∧ t0_1.toInt ≤ 1 := btt0_1; omega)), (show t0_1.toInt ≤ 1 from (by have t1 : 0 ≤ t0_1.toInt ∧ t0_1.toInt ≤ 1 := btt0_1; omega)), (show 0 ≤ y85.toInt from (by have t1 : 0 ≤ y85.toInt := b89; omega)), (show y85.toInt ≤ 220 from (by have t1 : y85.toInt ≤ 220 := b91; omega)), (show 0 ≤ y86.toInt from (by have t1 : 0 ≤ t10_1.toInt ∧ t10_1.toInt ≤ 1 := btt10_1; have t2 : t10_1.toInt ≤ y86.toInt := b92; omega)), (show y86.toInt ≤ 1 from (by have t1 : 0 ≤ t10_1.toInt ∧ t10_1.toInt ≤ 1 := btt10_1; have t2 : y86.toInt ≤ t10_1.toInt := b93; omega)), (show 0 ≤ t3_0.toInt from (by have t1 : 0 ≤ t3_0.toInt ∧ t3_0.toInt ≤ 220 := btt3_0; omega)), (show t3_0.toInt ≤ 220 from (by have t1 : 0 ≤ t3_0.toInt ∧ t3_0.toInt ≤ 220 := btt3_0; omega)), (show 0 ≤ t3_1.toInt from (by have t1 : 0 ≤ t3_1.toInt ∧ t3_1.toInt ≤ 1 := btt3_1; omega)), (show t3_1.toInt ≤ 1 from (by have t1 : 0 ≤ t3_1.toInt ∧ t3_1.toInt ≤ 1 := btt3_1; omega)), (show 0 ≤ t5_0.toInt from (by have t1 : 0 ≤ t5_0.toInt ∧ t5_0.toInt ≤ 220 := btt5_0; omega)), (show t5_0.toInt ≤ 220 from (by have t1 : 0 ≤ t5_0.toInt ∧ t5_0.toInt ≤ 220 := btt5_0; omega)), (show 0 ≤ t5_1.toInt from (by have t1 : 0 ≤ t5_1.toInt ∧ t5_1.toInt ≤ 1 := btt5_1; omega)), (show 0 ≤ t7_0.toInt from (by have t1 : 0 ≤ t7_0.toInt ∧ t7_0.toInt ≤ 220 := btt7_0; omega)), (show t7_0.toInt ≤ 220 from (by have t1 : 0 ≤ t7_0.toInt ∧ t7_0.toInt ≤ 220 := btt7_0; omega)), (show 0 ≤ t7_1.toInt from (by have t1 : 0 ≤ t7_1.toInt ∧ t7_1.toInt ≤ 1 := btt7_1; omega)), (show t7_1.toInt ≤ 1 from (by have t1 : 0 ≤ t7_1.toInt ∧ t7_1.toInt ≤ 1 := btt7_1; omega)), (show 0 ≤ t13_0.toInt from (by have t1 : 0 ≤ t13_0.toInt ∧ t13_0.toInt ≤ R2.toInt := btt13_0; omega)), (show t13_0.toInt ≤ 220 from (by have t1 : 0 ≤ R2.toInt ∧ R2.toInt ≤ 220 := hfk30; have t2 : 0 ≤ t13_0.toInt ∧ t13_0.toInt ≤ R2.toInt := btt13_0; omega)), (show 0 ≤ t13_1.toInt from (by have t1 : 0 ≤ t13_1.toInt ∧ t13_1.toInt ≤ 1 := btt13_1; omega)), (show t13_1.toInt ≤ 1 from (by have t1 : 0 ≤ t13_1.toInt ∧ t13_1.toInt ≤ 1 := btt13_1; omega)), (show t9_0.toInt ≤ j66.toInt from (by have t1 : t9_0.toInt ≤ a63.toInt ∧ t12_0.toInt ≤ a63.toInt ∧ (a63.toInt = t9_0.toInt ∨ a63.toInt = t12_0.toInt) := b65; have t2 : j66.toInt = a63.toInt := b68; omega)), (show t12_0.toInt ≤ j66.toInt from (by have t1 : t9_0.toInt ≤ a63.toInt ∧ t12_0.toInt ≤ a63.toInt ∧ (a63.toInt = t9_0.toInt ∨ a63.toInt = t12_0.toInt) := b65; have t2 : j66.toInt = a63.toInt := b68; omega)), (show t0_1.toInt ≤ t0_1.toInt from (by omega)), (show t0_1.toInt ≤ t0_1.toInt from (by omega)), (show y86.toInt ≤ t10_1.toInt from (by have t1 : y86.toInt ≤ t10_1.toInt := b93; omega)), (show t3_1.toInt ≤ t3_1.toInt from (by omega)), (show t13_0.toInt ≤ R2.toInt from (by have t1 : 0 ≤ t13_0.toInt ∧ t13_0.toInt ≤ R2.toInt := btt13_0; omega)), (show t13_1.toInt ≤ t13_1.toInt from (by omega)), (show (j66, t0_1, y85, y86, f87, t3_0, t3_1, t4_0, t5_0, t5_1, t6_0, t7_0, t7_1, t8_0, t13_0, t13_1, t14_0) = (F_DW_rest R R2 t0_0 t0_1 t1_0 t1_1 t2_0 t3_0 t3_1 t4_0 t5_0 t5_1 t6_0 t7_0 t7_1 t8_0 t9_0 t9_1 t10_0 t10_1 t11_0 t12_0 t12_1 t13_0 t13_1 t14_0) from Eq.trans (by have c110x := c110; rw [← e109] at c110x; rw [e100, e99, e98, F_DW_rest_c40.eq_1, if_pos c106, if_pos c110x]) hR101)⟩) d_4_7_128
    ·
      have b112 : q_F (a108.toInt ≤ t9_1.toInt) := (q_nltI c110)
      refine lv_aload_n hx hb d_4_7_79 rfl (lv_at hl 1 rfl) ?_
      refine q_get (ci := 5) (j := 2) (v := .ref (q 9)) C0 V i_DW rfl rfl hT0 (by decide) w_214 rfl d_4_7_80 ?_
      refine q_get (ci := 4) (j := 6) (v := .ref (q 22)) C0 V i_Mil rfl rfl hO81 (by decide) w_126 rfl d_4_7_83 ?_
      refine lv_aload_n hx hb d_4_7_86 rfl (lv_at hl 3 rfl) ?_
      refine q_get (ci := 3) (j := 0) (v := .ref (q (k3 + 1))) C0 V i_Dec rfl rfl hT12 (by decide) w_171 rfl d_4_7_87 ?_
      refine q_gov V (q_runV (As := [.ref (q (k3 + 1))]) (rest := []) (d := 2) (mc := 0) (ms := 0) (ci := 2) C0 V rfl LV_DW_44 (X_Big_copy l D g q u82 22 220 (n_b22 g q) (by decide) (k3 + 1) R2 hB3.2 (by have z := zk3; omega)  (by have z := ne_k3_21; omega) hI t5_0 t5_1 hT5 t6_0 hT6 t13_0 t13_1 hT13 t14_0 hT14  _) rfl rfl hT5 rfl hl.1 rfl (Nat.le_of_ble_eq_true rfl) ⟨by decide, by decide⟩ ⟨Nat.le_of_ble_eq_true rfl, Nat.le_of_ble_eq_true rfl⟩ d_4_7_90) (fun u113 H locs hp114 V => ?_)
      obtain ⟨hI, hu126, y116, y117, f118, hO115, hA119, b120, b121, b122, b123, b124, hE125⟩ := hp114
      replace hO115 : u113[22]? = (some (q 22, .inr (2, [.ref (q 23), .int y116, .int y117])) : Option (Nat × va_E)) := hO115
      replace hA119 : u113[23]? = (some (q 23, .inl (g 0, (220 : Int32).toNatClampNeg, .inl f118)) : Option (Nat × va_E)) := hA119
      obtain ⟨p127, e128⟩ : ∃ z, z = (F_Big_copy (220 : Int32) R2 t5_0 t5_1 t6_0 t13_0 t13_1 t14_0) := ⟨_, rfl⟩
      have e129 : y116 = p127.1 := congrArg (fun z => z.1) (hE125.trans e128.symm)
      have e130 : y117 = p127.2.1 := congrArg (fun z => z.2.1) (hE125.trans e128.symm)
      have e131 : f118 = p127.2.2 := congrArg (fun z => z.2.2) (hE125.trans e128.symm)
      replace b120 : q_F (0 ≤ y116.toInt) := b120
      replace b121 : q_F (y116.toInt ≤ t13_0.toInt) := b121
      replace b122 : q_F (y116.toInt ≤ 220) := b122
      replace b123 : q_F (t13_1.toInt ≤ y117.toInt) := b123
      replace b124 : q_F (y117.toInt ≤ t13_1.toInt) := b124
      replace hT0 := (hu126 _ (by decide)).trans hT0
      replace hO84 := (hu126 _ (by decide)).trans hO84
      replace hA88 := (hu126 _ (by decide)).trans hA88
      replace hT3 := (hu126 _ (by decide)).trans hT3
      replace hT4 := (hu126 _ (by decide)).trans hT4
      replace hT7 := (hu126 _ (by decide)).trans hT7
      replace hT8 := (hu126 _ (by decide)).trans hT8
      replace hT9 := (hu126 _ (by have z0 := zk2; simp only [List.mem_cons, List.not_mem_nil, or_false, not_or]; omega)).trans hT9
      replace hT10 := (hu126 _ (by have z0 := zk2; simp only [List.mem_cons, List.not_mem_nil, or_false, not_or]; omega)).trans hT10
      replace hT11 := (hu126 _ (by have z0 := zk2; simp only [List.mem_cons, List.not_mem_nil, or_false, not_or]; omega)).trans hT11
      replace hT12 := (hu126 _ (by have z0 := zk3; simp only [List.mem_cons, List.not_mem_nil, or_false, not_or]; omega)).trans hT12
      replace hT13 := (hu126 _ (by have z0 := zk3; simp only [List.mem_cons, List.not_mem_nil, or_false, not_or]; omega)).trans hT13
      replace hT14 := (hu126 _ (by have z0 := zk3; simp only [List.mem_cons, List.not_mem_nil, or_false, not_or]; omega)).trans hT14
      replace hO81 := (hu126 _ (by decide)).trans hO81
      replace hF := q_uc hF hu126 (by simp)
      have hR132 := (show F_DW_rest_c90 R R2 t0_0 t0_1 t1_0 t1_1 t2_0 t3_0 t3_1 t4_0 t5_0 t5_1 t6_0 t7_0 t7_1 t8_0 t9_0 t9_1 t10_0 t10_1 t11_0 t12_0 t12_1 t13_0 t13_1 t14_0 a76 j66 p96 y85 y86 f87 p127 = (F_DW_rest R R2 t0_0 t0_1 t1_0 t1_1 t2_0 t3_0 t3_1 t4_0 t5_0 t5_1 t6_0 t7_0 t7_1 t8_0 t9_0 t9_1 t10_0 t10_1 t11_0 t12_0 t12_1 t13_0 t13_1 t14_0) from Eq.trans (by have c110x := c110; rw [← e109] at c110x; rw [e128, e100, e99, e98, F_DW_rest_c40.eq_1, if_pos c106, if_neg c110x]) hR101)
      have hS133 := (show True ∧ S_DW_rest_c90 R R2 t0_0 t0_1 t1_0 t1_1 t2_0 t3_0 t3_1 t4_0 t5_0 t5_1 t6_0 t7_0 t7_1 t8_0 t9_0 t9_1 t10_0 t10_1 t11_0 t12_0 t12_1 t13_0 t13_1 t14_0 a76 j66 p96 y85 y86 f87 p127 from (by rw [e128, e100, e99, e98]; have h := hS102; rw [S_DW_rest_c40.eq_1] at h; rw [if_pos c106] at h; have c110x := c110; rw [← e109] at c110x; rw [if_neg c110x] at h; with_reducible exact h))
      refine lv_aload_n hx hb d_4_7_93 rfl (lv_at hl 1 rfl) ?_
      refine q_get (ci := 5) (j := 2) (v := .ref (q 9)) C0 V i_DW rfl rfl hT0 (by decide) w_214 rfl d_4_7_94 ?_
      refine q_get (ci := 4) (j := 6) (v := .ref (q 22)) C0 V i_Mil rfl rfl hO81 (by decide) w_126 rfl d_4_7_97 ?_
      refine lv_iload_n hx hb d_4_7_100 rfl (lv_at hl 0 rfl) ?_
      refine q_gov V (q_runV (As := [.int a76]) (rest := []) (d := 2) (mc := 0) (ms := 0) (ci := 2) C0 V rfl LV_DW_77 (X_Big_timesTen l D g q u113 22 220 (n_b22 g q) (by decide) a76 hI y116 y117 hO115 f118 hA119  _) rfl rfl hO115 rfl hl.1 rfl (Nat.le_of_ble_eq_true rfl) ⟨by decide, by decide⟩ ⟨Nat.le_of_ble_eq_true rfl, Nat.le_of_ble_eq_true rfl⟩ d_4_7_101) (fun u137 H locs hp138 V => ?_)
      obtain ⟨hI, hu149, y140, y141, f142, hO139, hA143, b144, b145, b146, b147, hE148⟩ := hp138
      replace hO139 : u137[22]? = (some (q 22, .inr (2, [.ref (q 23), .int y140, .int y141])) : Option (Nat × va_E)) := hO139
      replace hA143 : u137[23]? = (some (q 23, .inl (g 0, (220 : Int32).toNatClampNeg, .inl f142)) : Option (Nat × va_E)) := hA143
      obtain ⟨p150, e151⟩ : ∃ z, z = (F_Big_timesTen (220 : Int32) a76 y116 y117 f118) := ⟨_, rfl⟩
      have e152 : y140 = p150.1 := congrArg (fun z => z.1) (hE148.trans e151.symm)
      have e153 : y141 = p150.2.1 := congrArg (fun z => z.2.1) (hE148.trans e151.symm)
      have e154 : f142 = p150.2.2 := congrArg (fun z => z.2.2) (hE148.trans e151.symm)
      replace b144 : q_F (y116.toInt ≤ y140.toInt) := b144
      replace b145 : q_F (y140.toInt ≤ 220) := b145
      replace b146 : q_F (y117.toInt ≤ y141.toInt) := b146
      replace b147 : q_F (y141.toInt ≤ y117.toInt) := b147
      replace hT0 := (hu149 _ (by decide)).trans hT0
      replace hO84 := (hu149 _ (by decide)).trans hO84
      replace hA88 := (hu149 _ (by decide)).trans hA88
      replace hT3 := (hu149 _ (by decide)).trans hT3
      replace hT4 := (hu149 _ (by decide)).trans hT4
      replace hT7 := (hu149 _ (by decide)).trans hT7
      replace hT8 := (hu149 _ (by decide)).trans hT8
      replace hT9 := (hu149 _ (by have z0 := zk2; simp only [List.mem_cons, List.not_mem_nil, or_false, not_or]; omega)).trans hT9
      replace hT10 := (hu149 _ (by have z0 := zk2; simp only [List.mem_cons, List.not_mem_nil, or_false, not_or]; omega)).trans hT10
      replace hT11 := (hu149 _ (by have z0 := zk2; simp only [List.mem_cons, List.not_mem_nil, or_false, not_or]; omega)).trans hT11
      replace hT12 := (hu149 _ (by have z0 := zk3; simp only [List.mem_cons, List.not_mem_nil, or_false, not_or]; omega)).trans hT12
      replace hT13 := (hu149 _ (by have z0 := zk3; simp only [List.mem_cons, List.not_mem_nil, or_false, not_or]; omega)).trans hT13
      replace hT14 := (hu149 _ (by have z0 := zk3; simp only [List.mem_cons, List.not_mem_nil, or_false, not_or]; omega)).trans hT14
      replace hO81 := (hu149 _ (by decide)).trans hO81
      replace hF := q_uc hF hu149 (by simp)
      have hR155 := (show F_DW_rest_c101 R R2 t0_0 t0_1 t1_0 t1_1 t2_0 t3_0 t3_1 t4_0 t5_0 t5_1 t6_0 t7_0 t7_1 t8_0 t9_0 t9_1 t10_0 t10_1 t11_0 t12_0 t12_1 t13_0 t13_1 t14_0 a76 j66 p96 y85 y86 f87 p127 p150 = (F_DW_rest R R2 t0_0 t0_1 t1_0 t1_1 t2_0 t3_0 t3_1 t4_0 t5_0 t5_1 t6_0 t7_0 t7_1 t8_0 t9_0 t9_1 t10_0 t10_1 t11_0 t12_0 t12_1 t13_0 t13_1 t14_0) from Eq.trans (by rw [e151, e131, e130, e129, F_DW_rest_c90.eq_1]) hR132)
      have hS156 := (show True ∧ S_DW_rest_c101 R R2 t0_0 t0_1 t1_0 t1_1 t2_0 t3_0 t3_1 t4_0 t5_0 t5_1 t6_0 t7_0 t7_1 t8_0 t9_0 t9_1 t10_0 t10_1 t11_0 t12_0 t12_1 t13_0 t13_1 t14_0 a76 j66 p96 y85 y86 f87 p127 p150 from (by rw [e151, e131, e130, e129]; have h := hS133; rw [S_DW_rest_c90.eq_1] at h; with_reducible exact h))
      refine lv_aload_n hx hb d_4_7_104 rfl (lv_at hl 1 rfl) ?_
      refine q_get (ci := 5) (j := 2) (v := .ref (q 9)) C0 V i_DW rfl rfl hT0 (by decide) w_214 rfl d_4_7_105 ?_
      refine q_get (ci := 4) (j := 0) (v := .ref (q 10)) C0 V i_Mil rfl rfl hO81 (by decide) w_111 rfl d_4_7_108 ?_
      refine lv_aload_n hx hb d_4_7_111 rfl (lv_at hl 1 rfl) ?_
      refine q_get (ci := 5) (j := 2) (v := .ref (q 9)) C0 V i_DW rfl rfl hT0 (by decide) w_214 rfl d_4_7_112 ?_
      refine q_get (ci := 4) (j := 6) (v := .ref (q 22)) C0 V i_Mil rfl rfl hO81 (by decide) w_126 rfl d_4_7_115 ?_
      refine lv_aload_n hx hb d_4_7_118 rfl (lv_at hl 1 rfl) ?_
      refine q_get (ci := 5) (j := 2) (v := .ref (q 9)) C0 V i_DW rfl rfl hT0 (by decide) w_214 rfl d_4_7_119 ?_
      refine q_get (ci := 4) (j := 1) (v := .ref (q 12)) C0 V i_Mil rfl rfl hO81 (by decide) w_115 rfl d_4_7_122 ?_
      have ob160 : True ∧ S_Big_divideBy (220 : Int32) (220 : Int32) (220 : Int32) y85 y86 f87 y140 y141 f142 t3_0 t3_1 t4_0 := (by rw [e154, e153, e152]; have h := hS156; rw [S_DW_rest_c101.eq_1] at h; with_reducible exact h.2.1)
      refine q_gov V (q_runV (As := [.ref (q 22), .ref (q 12)]) (rest := []) (d := 4) (mc := 0) (ms := 0) (ci := 2) C0 V rfl LV_DW_109 (X_Big_divideBy l D g q u137 10 220 (n_b10 g q) (by decide) 22 220 (n_b22 g q) (by decide) 12 220 (n_b12 g q) (by decide)  (by decide) (by decide) (by decide) hI y85 y86 hO84 f87 hA88 y140 y141 hO139 f142 hA143 t3_0 t3_1 hT3 t4_0 hT4 ob160 _) rfl rfl hO84 rfl hl.1 rfl (Nat.le_of_ble_eq_true rfl) ⟨by decide, by decide⟩ ⟨Nat.le_of_ble_eq_true rfl, Nat.le_of_ble_eq_true rfl⟩ d_4_7_125) (fun u161 H locs hp162 V => ?_)
      obtain ⟨hI, hu194, y164, y165, f166, y169, y170, f171, y174, y175, f176, hO163, hA167, hO168, hA172, hO173, hA177, b178, b179, b180, b181, b182, b183, b184, b185, b186, b187, b188, b189, b190, b191, b192, hE193⟩ := hp162
      replace hO163 : u161[10]? = (some (q 10, .inr (2, [.ref (q 11), .int y164, .int y165])) : Option (Nat × va_E)) := hO163
      replace hA167 : u161[11]? = (some (q 11, .inl (g 0, (220 : Int32).toNatClampNeg, .inl f166)) : Option (Nat × va_E)) := hA167
      replace hO168 : u161[22]? = (some (q 22, .inr (2, [.ref (q 23), .int y169, .int y170])) : Option (Nat × va_E)) := hO168
      replace hA172 : u161[23]? = (some (q 23, .inl (g 0, (220 : Int32).toNatClampNeg, .inl f171)) : Option (Nat × va_E)) := hA172
      replace hO173 : u161[12]? = (some (q 12, .inr (2, [.ref (q 13), .int y174, .int y175])) : Option (Nat × va_E)) := hO173
      replace hA177 : u161[13]? = (some (q 13, .inl (g 0, (220 : Int32).toNatClampNeg, .inl f176)) : Option (Nat × va_E)) := hA177
      obtain ⟨p195, e196⟩ : ∃ z, z = (F_Big_divideBy (220 : Int32) (220 : Int32) (220 : Int32) y85 y86 f87 y140 y141 f142 t3_0 t3_1 t4_0) := ⟨_, rfl⟩
      have e197 : y164 = p195.1 := congrArg (fun z => z.1) (hE193.trans e196.symm)
      have e198 : y165 = p195.2.1 := congrArg (fun z => z.2.1) (hE193.trans e196.symm)
      have e199 : f166 = p195.2.2.1 := congrArg (fun z => z.2.2.1) (hE193.trans e196.symm)
      have e200 : y169 = p195.2.2.2.1 := congrArg (fun z => z.2.2.2.1) (hE193.trans e196.symm)
      have e201 : y170 = p195.2.2.2.2.1 := congrArg (fun z => z.2.2.2.2.1) (hE193.trans e196.symm)
      have e202 : f171 = p195.2.2.2.2.2.1 := congrArg (fun z => z.2.2.2.2.2.1) (hE193.trans e196.symm)
      have e203 : y174 = p195.2.2.2.2.2.2.1 := congrArg (fun z => z.2.2.2.2.2.2.1) (hE193.trans e196.symm)
      have e204 : y175 = p195.2.2.2.2.2.2.2.1 := congrArg (fun z => z.2.2.2.2.2.2.2.1) (hE193.trans e196.symm)
      have e205 : f176 = p195.2.2.2.2.2.2.2.2 := congrArg (fun z => z.2.2.2.2.2.2.2.2) (hE193.trans e196.symm)
      replace b178 : q_F (0 ≤ y175.toInt) := b178
      replace b179 : q_F (y175.toInt ≤ 0) := b179
      replace b180 : q_F (y164.toInt ≤ 220) := b180
      replace b181 : q_F (y165.toInt ≤ y86.toInt) := b181
      replace b182 : q_F (y169.toInt ≤ y140.toInt + 218) := b182
      replace b183 : q_F (y169.toInt ≤ 220) := b183
      replace b184 : q_F (y170.toInt ≤ y141.toInt) := b184
      replace b185 : q_F (y174.toInt ≤ y140.toInt + 219) := b185
      replace b186 : q_F (y174.toInt ≤ 220 + 1) := b186
      replace b187 : q_F (y174.toInt ≤ 220) := b187
      replace b188 : q_F (y175.toInt ≤ y164.toInt) := b188
      replace b189 : q_F (y175.toInt ≤ y165.toInt) := b189
      replace b190 : q_F (y175.toInt ≤ y169.toInt) := b190
      replace b191 : q_F (y175.toInt ≤ y170.toInt) := b191
      replace b192 : q_F (y175.toInt ≤ y174.toInt) := b192
      replace hT0 := (hu194 _ (by decide)).trans hT0
      replace hT7 := (hu194 _ (by decide)).trans hT7
      replace hT8 := (hu194 _ (by decide)).trans hT8
      replace hT9 := (hu194 _ (by have z0 := zk2; simp only [List.mem_cons, List.not_mem_nil, or_false, not_or]; omega)).trans hT9
      replace hT10 := (hu194 _ (by have z0 := zk2; simp only [List.mem_cons, List.not_mem_nil, or_false, not_or]; omega)).trans hT10
      replace hT11 := (hu194 _ (by have z0 := zk2; simp only [List.mem_cons, List.not_mem_nil, or_false, not_or]; omega)).trans hT11
      replace hT12 := (hu194 _ (by have z0 := zk3; simp only [List.mem_cons, List.not_mem_nil, or_false, not_or]; omega)).trans hT12
      replace hT13 := (hu194 _ (by have z0 := zk3; simp only [List.mem_cons, List.not_mem_nil, or_false, not_or]; omega)).trans hT13
      replace hT14 := (hu194 _ (by have z0 := zk3; simp only [List.mem_cons, List.not_mem_nil, or_false, not_or]; omega)).trans hT14
      replace hO81 := (hu194 _ (by decide)).trans hO81
      replace hF := q_uc hF hu194 (by simp)
      have hR206 := (show F_DW_rest_c125 R R2 t0_0 t0_1 t1_0 t1_1 t2_0 t3_0 t3_1 t4_0 t5_0 t5_1 t6_0 t7_0 t7_1 t8_0 t9_0 t9_1 t10_0 t10_1 t11_0 t12_0 t12_1 t13_0 t13_1 t14_0 a76 j66 p96 y85 y86 f87 p127 p150 p195 = (F_DW_rest R R2 t0_0 t0_1 t1_0 t1_1 t2_0 t3_0 t3_1 t4_0 t5_0 t5_1 t6_0 t7_0 t7_1 t8_0 t9_0 t9_1 t10_0 t10_1 t11_0 t12_0 t12_1 t13_0 t13_1 t14_0) from Eq.trans (by rw [e196, e154, e153, e152, F_DW_rest_c101.eq_1]) hR155)
      have hS207 := (show True ∧ S_DW_rest_c125 R R2 t0_0 t0_1 t1_0 t1_1 t2_0 t3_0 t3_1 t4_0 t5_0 t5_1 t6_0 t7_0 t7_1 t8_0 t9_0 t9_1 t10_0 t10_1 t11_0 t12_0 t12_1 t13_0 t13_1 t14_0 a76 j66 p96 y85 y86 f87 p127 p150 p195 from (by rw [e196, e154, e153, e152]; have h := hS156; rw [S_DW_rest_c101.eq_1] at h; replace h := q_s2 h; with_reducible exact h))
      exact q_retv C0 V (⟨hI, hF, j66, t0_1, y164, y165, f166, y174, y175, f176, y169, y170, f171, t7_0, t7_1, t8_0, t13_0, t13_1, t14_0, hT0, hO163, hA167, hO173, hA177, hO168, hA172, hT7, hT8, hT13, hT14, (show 0 ≤ j66.toInt + 10000 from (by have t1 : -10000 ≤ t9_0.toInt ∧ t9_0.toInt ≤ 10000 := btt9_0; have t2 : t9_0.toInt ≤ a63.toInt ∧ t12_0.toInt ≤ a63.toInt ∧ (a63.toInt = t9_0.toInt ∨ a63.toInt = t12_0.toInt) := b65; have t3 : j66.toInt = a63.toInt := b68; omega)), (show j66.toInt ≤ 10000 from (by have t1 : -10000 ≤ t9_0.toInt ∧ t9_0.toInt ≤ 10000 := btt9_0; have t2 : -10000 ≤ t12_0.toInt ∧ t12_0.toInt ≤ 10000 := btt12_0; have t3 : t9_0.toInt ≤ a63.toInt ∧ t12_0.toInt ≤ a63.toInt ∧ (a63.toInt = t9_0.toInt ∨ a63.toInt = t12_0.toInt) := b65; have t4 : j66.toInt = a63.toInt := b68; omega)), (show 0 ≤ t0_1.toInt from (by have t1 : 0 ≤ t0_1.toInt ∧ t0_1.toInt ≤ 1 := btt0_1; omega)), (show t0_1.toInt ≤ 1 from (by have t1 : 0 ≤ t0_1.toInt ∧ t0_1.toInt ≤ 1 := btt0_1; omega)), (show 0 ≤ y164.toInt from (by have t1 : 0 ≤ y175.toInt := b178; have t2 : y175.toInt ≤ y164.toInt := b188; omega)), (show y164.toInt ≤ 220 from (by have t1 : y164.toInt ≤ 220 := b180; omega)), (show 0 ≤ y165.toInt from (by have t1 : 0 ≤ y175.toInt := b178; have t2 : y175.toInt ≤ y165.toInt := b189; omega)), (show y165.toInt ≤ 1 from (by have t1 : 0 ≤ t10_1.toInt ∧ t10_1.toInt ≤ 1 := btt10_1; have t2 : y86.toInt ≤ t10_1.toInt := b93; have t3 : y165.toInt ≤ y86.toInt := b181; omega)), (show 0 ≤ y174.toInt from (by have t1 : 0 ≤ y175.toInt := b178; have t2 : y175.toInt ≤ y174.toInt := b192; omega)), (show y174.toInt ≤ 220 from (by have t1 : y174.toInt ≤ 220 := b187; omega)), (show 0 ≤ y175.toInt from (by have t1 : 0 ≤ y175.toInt := b178; omega)), (show y175.toInt ≤ 1 from (by have t1 : y175.toInt ≤ 0 := b179; omega)), (show 0 ≤ y169.toInt from (by have t1 : 0 ≤ y175.toInt := b178; have t2 : y175.toInt ≤ y169.toInt := b190; omega)), (show y169.toInt ≤ 220 from (by have t1 : y169.toInt ≤ 220 := b183; omega)), (show 0 ≤ y170.toInt from (by have t1 : 0 ≤ y175.toInt := b178; have t2 : y175.toInt ≤ y170.toInt := b191; omega)), (show 0 ≤ t7_0.toInt from (by have t1 : 0 ≤ t7_0.toInt ∧ t7_0.toInt ≤ 220 := btt7_0; omega)), (show t7_0.toInt ≤ 220 from (by have t1 : 0 ≤ t7_0.toInt ∧ t7_0.toInt ≤ 220 := btt7_0; omega)), (show 0 ≤ t7_1.toInt from (by have t1 : 0 ≤ t7_1.toInt ∧ t7_1.toInt ≤ 1 := btt7_1; omega)), (show t7_1.toInt ≤ 1 from (by have t1 : 0 ≤ t7_1.toInt ∧ t7_1.toInt ≤ 1 := btt7_1; omega)), (show 0 ≤ t13_0.toInt from (by have t1 : 0 ≤ t13_0.toInt ∧ t13_0.toInt ≤ R2.toInt := btt13_0; omega)), (show t13_0.toInt ≤ 220 from (by have t1 : 0 ≤ R2.toInt ∧ R2.toInt ≤ 220 := hfk30; have t2 : 0 ≤ t13_0.toInt ∧ t13_0.toInt ≤ R2.toInt := btt13_0; omega)), (show 0 ≤ t13_1.toInt from (by have t1 : 0 ≤ t13_1.toInt ∧ t13_1.toInt ≤ 1 := btt13_1; omega)), (show t13_1.toInt ≤ 1 from (by have t1 : 0 ≤ t13_1.toInt ∧ t13_1.toInt ≤ 1 := btt13_1; omega)), (show t9_0.toInt ≤ j66.toInt from (by have t1 : t9_0.toInt ≤ a63.toInt ∧ t12_0.toInt ≤ a63.toInt ∧ (a63.toInt = t9_0.toInt ∨ a63.toInt = t12_0.toInt) := b65; have t2 : j66.toInt = a63.toInt := b68; omega)), (show t12_0.toInt ≤ j66.toInt from (by have t1 : t9_0.toInt ≤ a63.toInt ∧ t12_0.toInt ≤ a63.toInt ∧ (a63.toInt = t9_0.toInt ∨ a63.toInt = t12_0.toInt) := b65; have t2 : j66.toInt = a63.toInt := b68; omega)), (show t0_1.toInt ≤ t0_1.toInt from (by omega)), (show t0_1.toInt ≤ t0_1.toInt from (by omega)), (show y165.toInt ≤ t10_1.toInt from (by have t1 : y86.toInt ≤ t10_1.toInt := b93; have t2 : y165.toInt ≤ y86.toInt := b181; omega)), (show y175.toInt ≤ t3_1.toInt from (by have t1 : 0 ≤ t3_1.toInt ∧ t3_1.toInt ≤ 1 := btt3_1; have t2 : y175.toInt ≤ 0 := b179; omega)), (show t13_0.toInt ≤ R2.toInt from (by have t1 : 0 ≤ t13_0.toInt ∧ t13_0.toInt ≤ R2.toInt := btt13_0; omega)), (show t13_1.toInt ≤ t13_1.toInt from (by omega)), (show (j66, t0_1, y164, y165, f166, y174, y175, f176, y169, y170, f171, t7_0, t7_1, t8_0, t13_0, t13_1, t14_0) = (F_DW_rest R R2 t0_0 t0_1 t1_0 t1_1 t2_0 t3_0 t3_1 t4_0 t5_0 t5_1 t6_0 t7_0 t7_1 t8_0 t9_0 t9_1 t10_0 t10_1 t11_0 t12_0 t12_1 t13_0 t13_1 t14_0) from Eq.trans (by rw [e205, e204, e203, e202, e201, e200, e199, e198, e197, F_DW_rest_c125.eq_1]) hR206)⟩) d_4_7_128
  ·
    have b211 : q_F (t9_0.toInt < t12_0.toInt) := (q_nleI c106)
    refine lv_aload_n hx hb d_4_7_54 rfl (lv_at hl 1 rfl) ?_
    refine lv_iload_n hx hb d_4_7_55 rfl (lv_at hl 0 rfl) ?_
    refine lv_aload_n hx hb d_4_7_56 rfl (lv_at hl 3 rfl) ?_
    refine q_get (ci := 3) (j := 0) (v := .ref (q (k3 + 1))) C0 V i_Dec rfl rfl hT12 (by decide) w_171 rfl d_4_7_57 ?_
    have ob212 : True ∧ S_DW_raiseBelow a76 R2 y85 y86 f87 t3_0 t3_1 t4_0 t5_0 t5_1 t6_0 t7_0 t7_1 t8_0 t13_0 t13_1 t14_0 := (by rw [e100, e99, e98]; have h := hS102; rw [S_DW_rest_c40.eq_1] at h; rw [if_neg c106] at h; with_reducible exact h.2.1)
    refine q_gov V (q_runV (As := [.int a76, .ref (q (k3 + 1))]) (rest := []) (d := 5) (mc := 0) (ms := 0) (ci := 5) C0 V rfl LV_DW_102 (X_DW_raiseBelow l D g q u82 (k3 + 1) R2 hB3.2 (by have z := zk3; omega) a76 (by have z := ne_k3_9; omega) (by have z := ne_k3_10; omega) (by have z := ne_k3_8; omega) (by have z := ne_k3_11; omega) (by have z := ne_k3_12; omega) (by have z := ne_k3_10; omega) (by have z := ne_k3_21; omega) (by have z := ne_k3_22; omega) (by have z := ne_k3_20; omega) (by have z := ne_k3_23; omega) (by have z := ne_k3_24; omega) (by have z := ne_k3_22; omega) (by have z := ne_k3_29; omega) (by have z := ne_k3_28; omega) hI y85 y86 hO84 f87 hA88 t3_0 t3_1 hT3 t4_0 hT4 t5_0 t5_1 hT5 t6_0 hT6 t7_0 t7_1 hT7 t8_0 hT8 t13_0 t13_1 hT13 t14_0 hT14 ob212 _) rfl rfl hT0 rfl hl.1 rfl (Nat.le_of_ble_eq_true rfl) ⟨by decide, by decide⟩ ⟨Nat.le_of_ble_eq_true rfl, Nat.le_of_ble_eq_true rfl⟩ d_4_7_60) (fun u213 H locs hp214 V => ?_)
    obtain ⟨hI, hu261, y216, y217, f218, y221, y222, f223, y226, y227, f228, y231, y232, f233, y236, y237, f238, hO215, hA219, hO220, hA224, hO225, hA229, hO230, hA234, hO235, hA239, b240, b241, b242, b243, b244, b245, b246, b247, b248, b249, b250, b251, b252, b253, b254, b255, b256, b257, b258, b259, hE260⟩ := hp214
    replace hO215 : u213[10]? = (some (q 10, .inr (2, [.ref (q 11), .int y216, .int y217])) : Option (Nat × va_E)) := hO215
    replace hA219 : u213[11]? = (some (q 11, .inl (g 0, (220 : Int32).toNatClampNeg, .inl f218)) : Option (Nat × va_E)) := hA219
    replace hO220 : u213[12]? = (some (q 12, .inr (2, [.ref (q 13), .int y221, .int y222])) : Option (Nat × va_E)) := hO220
    replace hA224 : u213[13]? = (some (q 13, .inl (g 0, (220 : Int32).toNatClampNeg, .inl f223)) : Option (Nat × va_E)) := hA224
    replace hO225 : u213[22]? = (some (q 22, .inr (2, [.ref (q 23), .int y226, .int y227])) : Option (Nat × va_E)) := hO225
    replace hA229 : u213[23]? = (some (q 23, .inl (g 0, (220 : Int32).toNatClampNeg, .inl f228)) : Option (Nat × va_E)) := hA229
    replace hO230 : u213[24]? = (some (q 24, .inr (2, [.ref (q 25), .int y231, .int y232])) : Option (Nat × va_E)) := hO230
    replace hA234 : u213[25]? = (some (q 25, .inl (g 0, (220 : Int32).toNatClampNeg, .inl f233)) : Option (Nat × va_E)) := hA234
    replace hO235 : u213[k3 + 1]? = (some (q (k3 + 1), .inr (2, [.ref (q (k3 + 2)), .int y236, .int y237])) : Option (Nat × va_E)) := hO235
    replace hA239 : u213[k3 + 2]? = (some (q (k3 + 2), .inl (g 0, R2.toNatClampNeg, .inl f238)) : Option (Nat × va_E)) := hA239
    obtain ⟨p262, e263⟩ : ∃ z, z = (F_DW_raiseBelow a76 R2 y85 y86 f87 t3_0 t3_1 t4_0 t5_0 t5_1 t6_0 t7_0 t7_1 t8_0 t13_0 t13_1 t14_0) := ⟨_, rfl⟩
    have e264 : y216 = p262.1 := congrArg (fun z => z.1) (hE260.trans e263.symm)
    have e265 : y217 = p262.2.1 := congrArg (fun z => z.2.1) (hE260.trans e263.symm)
    have e266 : f218 = p262.2.2.1 := congrArg (fun z => z.2.2.1) (hE260.trans e263.symm)
    have e267 : y221 = p262.2.2.2.1 := congrArg (fun z => z.2.2.2.1) (hE260.trans e263.symm)
    have e268 : y222 = p262.2.2.2.2.1 := congrArg (fun z => z.2.2.2.2.1) (hE260.trans e263.symm)
    have e269 : f223 = p262.2.2.2.2.2.1 := congrArg (fun z => z.2.2.2.2.2.1) (hE260.trans e263.symm)
    have e270 : y226 = p262.2.2.2.2.2.2.1 := congrArg (fun z => z.2.2.2.2.2.2.1) (hE260.trans e263.symm)
    have e271 : y227 = p262.2.2.2.2.2.2.2.1 := congrArg (fun z => z.2.2.2.2.2.2.2.1) (hE260.trans e263.symm)
    have e272 : f228 = p262.2.2.2.2.2.2.2.2.1 := congrArg (fun z => z.2.2.2.2.2.2.2.2.1) (hE260.trans e263.symm)
    have e273 : y231 = p262.2.2.2.2.2.2.2.2.2.1 := congrArg (fun z => z.2.2.2.2.2.2.2.2.2.1) (hE260.trans e263.symm)
    have e274 : y232 = p262.2.2.2.2.2.2.2.2.2.2.1 := congrArg (fun z => z.2.2.2.2.2.2.2.2.2.2.1) (hE260.trans e263.symm)
    have e275 : f233 = p262.2.2.2.2.2.2.2.2.2.2.2.1 := congrArg (fun z => z.2.2.2.2.2.2.2.2.2.2.2.1) (hE260.trans e263.symm)
    have e276 : y236 = p262.2.2.2.2.2.2.2.2.2.2.2.2.1 := congrArg (fun z => z.2.2.2.2.2.2.2.2.2.2.2.2.1) (hE260.trans e263.symm)
    have e277 : y237 = p262.2.2.2.2.2.2.2.2.2.2.2.2.2.1 := congrArg (fun z => z.2.2.2.2.2.2.2.2.2.2.2.2.2.1) (hE260.trans e263.symm)
    have e278 : f238 = p262.2.2.2.2.2.2.2.2.2.2.2.2.2.2 := congrArg (fun z => z.2.2.2.2.2.2.2.2.2.2.2.2.2.2) (hE260.trans e263.symm)
    replace b240 : q_F (0 ≤ y222.toInt) := b240
    replace b241 : q_F (y222.toInt ≤ 0) := b241
    replace b242 : q_F (y217.toInt ≤ y86.toInt) := b242
    replace b243 : q_F (y221.toInt ≤ R2.toInt + 219) := b243
    replace b244 : q_F (y236.toInt ≤ R2.toInt) := b244
    replace b245 : q_F (y237.toInt ≤ t13_1.toInt) := b245
    replace b246 : q_F (y222.toInt ≤ y216.toInt) := b246
    replace b247 : q_F (y216.toInt ≤ y231.toInt) := b247
    replace b248 : q_F (y222.toInt ≤ y217.toInt) := b248
    replace b249 : q_F (y217.toInt ≤ y231.toInt) := b249
    replace b250 : q_F (y222.toInt ≤ y221.toInt) := b250
    replace b251 : q_F (y221.toInt ≤ y222.toInt + 220) := b251
    replace b252 : q_F (y226.toInt ≤ y222.toInt + 220) := b252
    replace b253 : q_F (y222.toInt ≤ y226.toInt) := b253
    replace b254 : q_F (y222.toInt ≤ y227.toInt) := b254
    replace b255 : q_F (y231.toInt ≤ y222.toInt + 220) := b255
    replace b256 : q_F (y232.toInt ≤ y222.toInt + 1) := b256
    replace b257 : q_F (y222.toInt ≤ y232.toInt) := b257
    replace b258 : q_F (y222.toInt ≤ y236.toInt) := b258
    replace b259 : q_F (y222.toInt ≤ y237.toInt) := b259
    replace hT0 := (hu261 _ (by have z0 := zk3; simp only [List.mem_cons, List.not_mem_nil, or_false, not_or]; omega)).trans hT0
    replace hT9 := (hu261 _ (q_nc (by have z := ne_k2_10; omega) (q_nc (by have z := ne_k2_11; omega) (q_nc (by have z := ne_k2_12; omega) (q_nc (by have z := ne_k2_13; omega) (q_nc (by have z := ne_k2_22; omega) (q_nc (by have z := ne_k2_23; omega) (q_nc (by have z := ne_k2_24; omega) (q_nc (by have z := ne_k2_25; omega) (q_nc (by have z := ne_k2_k3p1; omega) (q_nc (by have z := ne_k2_k3p2; omega) List.not_mem_nil))))))))))).trans hT9
    replace hT10 := (hu261 _ (q_nc (by have z := ne_k2_9; omega) (q_nc (by have z := ne_k2_10; omega) (q_nc (by have z := ne_k2_11; omega) (q_nc (by have z := ne_k2_12; omega) (q_nc (by have z := ne_k2_21; omega) (q_nc (by have z := ne_k2_22; omega) (q_nc (by have z := ne_k2_23; omega) (q_nc (by have z := ne_k2_24; omega) (q_nc (by have z := ne_k2_k3; omega) (q_nc (by have z := ne_k2_k3p1; omega) List.not_mem_nil))))))))))).trans hT10
    replace hT11 := (hu261 _ (q_nc (by have z := ne_k2_8; omega) (q_nc (by have z := ne_k2_9; omega) (q_nc (by have z := ne_k2_10; omega) (q_nc (by have z := ne_k2_11; omega) (q_nc (by have z := ne_k2_20; omega) (q_nc (by have z := ne_k2_21; omega) (q_nc (by have z := ne_k2_22; omega) (q_nc (by have z := ne_k2_23; omega) (q_nc (by have z := ne_k3_k2p1; omega) (q_nc (by have z := ne_k2_k3; omega) List.not_mem_nil))))))))))).trans hT11
    replace hT12 := (hu261 _ (by have z0 := zk3; simp only [List.mem_cons, List.not_mem_nil, or_false, not_or]; omega)).trans hT12
    replace hO81 := (hu261 _ (by have z0 := zk3; simp only [List.mem_cons, List.not_mem_nil, or_false, not_or]; omega)).trans hO81
    replace hF := q_uc hF hu261 (by simp)
    have hR279 := (show F_DW_rest_c60 R R2 t0_0 t0_1 t1_0 t1_1 t2_0 t3_0 t3_1 t4_0 t5_0 t5_1 t6_0 t7_0 t7_1 t8_0 t9_0 t9_1 t10_0 t10_1 t11_0 t12_0 t12_1 t13_0 t13_1 t14_0 a76 j66 p96 p262 = (F_DW_rest R R2 t0_0 t0_1 t1_0 t1_1 t2_0 t3_0 t3_1 t4_0 t5_0 t5_1 t6_0 t7_0 t7_1 t8_0 t9_0 t9_1 t10_0 t10_1 t11_0 t12_0 t12_1 t13_0 t13_1 t14_0) from Eq.trans (by rw [e263, e100, e99, e98, F_DW_rest_c40.eq_1, if_neg c106]) hR101)
    have hS280 := (show True ∧ S_DW_rest_c60 R R2 t0_0 t0_1 t1_0 t1_1 t2_0 t3_0 t3_1 t4_0 t5_0 t5_1 t6_0 t7_0 t7_1 t8_0 t9_0 t9_1 t10_0 t10_1 t11_0 t12_0 t12_1 t13_0 t13_1 t14_0 a76 j66 p96 p262 from (by rw [e263, e100, e99, e98]; have h := hS102; rw [S_DW_rest_c40.eq_1] at h; rw [if_neg c106] at h; replace h := q_s2 h; with_reducible exact h))
    refine lv_goto (tgt := 128) hx hb d_4_7_63 (by decide) ?_
    exact q_retv C0 V (⟨hI, hF, j66, t0_1, y216, y217, f218, y221, y222, f223, y226, y227, f228, y231, y232, f233, y236, y237, f238, hT0, hO215, hA219, hO220, hA224, hO225, hA229, hO230, hA234, hO235, hA239, (show 0 ≤ j66.toInt + 10000 from (by have t1 : -10000 ≤ t9_0.toInt ∧ t9_0.toInt ≤ 10000 := btt9_0; have t2 : t9_0.toInt ≤ a63.toInt ∧ t12_0.toInt ≤ a63.toInt ∧ (a63.toInt = t9_0.toInt ∨ a63.toInt = t12_0.toInt) := b65; have t3 : j66.toInt = a63.toInt := b68; omega)), (show j66.toInt ≤ 10000 from (by have t1 : -10000 ≤ t9_0.toInt ∧ t9_0.toInt ≤ 10000 := btt9_0; have t2 : -10000 ≤ t12_0.toInt ∧ t12_0.toInt ≤ 10000 := btt12_0; have t3 : t9_0.toInt ≤ a63.toInt ∧ t12_0.toInt ≤ a63.toInt ∧ (a63.toInt = t9_0.toInt ∨ a63.toInt = t12_0.toInt) := b65; have t4 : j66.toInt = a63.toInt := b68; omega)), (show 0 ≤ t0_1.toInt from (by have t1 : 0 ≤ t0_1.toInt ∧ t0_1.toInt ≤ 1 := btt0_1; omega)), (show t0_1.toInt ≤ 1 from (by have t1 : 0 ≤ t0_1.toInt ∧ t0_1.toInt ≤ 1 := btt0_1; omega)), (show 0 ≤ y216.toInt from (by have t1 : 0 ≤ y222.toInt := b240; have t2 : y222.toInt ≤ y216.toInt := b246; omega)), (show y216.toInt ≤ 220 from (by have t1 : y222.toInt ≤ 0 := b241; have t2 : y216.toInt ≤ y231.toInt := b247; have t3 : y231.toInt ≤ y222.toInt + 220 := b255; omega)), (show 0 ≤ y217.toInt from (by have t1 : 0 ≤ y222.toInt := b240; have t2 : y222.toInt ≤ y217.toInt := b248; omega)), (show y217.toInt ≤ 1 from (by have t1 : 0 ≤ t10_1.toInt ∧ t10_1.toInt ≤ 1 := btt10_1; have t2 : y86.toInt ≤ t10_1.toInt := b93; have t3 : y217.toInt ≤ y86.toInt := b242; omega)), (show 0 ≤ y221.toInt from (by have t1 : 0 ≤ y222.toInt := b240; have t2 : y222.toInt ≤ y221.toInt := b250; omega)), (show y221.toInt ≤ 220 from (by have t1 : y222.toInt ≤ 0 := b241; have t2 : y221.toInt ≤ y222.toInt + 220 := b251; omega)), (show 0 ≤ y222.toInt from (by have t1 : 0 ≤ y222.toInt := b240; omega)), (show y222.toInt ≤ 1 from (by have t1 : y222.toInt ≤ 0 := b241; omega)), (show 0 ≤ y226.toInt from (by have t1 : 0 ≤ y222.toInt := b240; have t2 : y222.toInt ≤ y226.toInt := b253; omega)), (show y226.toInt ≤ 220 from (by have t1 : y222.toInt ≤ 0 := b241; have t2 : y226.toInt ≤ y222.toInt + 220 := b252; omega)), (show 0 ≤ y227.toInt from (by have t1 : 0 ≤ y222.toInt := b240; have t2 : y222.toInt ≤ y227.toInt := b254; omega)), (show 0 ≤ y231.toInt from (by have t1 : 0 ≤ y222.toInt := b240; have t2 : y222.toInt ≤ y216.toInt := b246; have t3 : y216.toInt ≤ y231.toInt := b247; omega)), (show y231.toInt ≤ 220 from (by have t1 : y222.toInt ≤ 0 := b241; have t2 : y231.toInt ≤ y222.toInt + 220 := b255; omega)), (show 0 ≤ y232.toInt from (by have t1 : 0 ≤ y222.toInt := b240; have t2 : y222.toInt ≤ y232.toInt := b257; omega)), (show y232.toInt ≤ 1 from (by have t1 : y222.toInt ≤ 0 := b241; have t2 : y232.toInt ≤ y222.toInt + 1 := b256; omega)), (show 0 ≤ y236.toInt from (by have t1 : 0 ≤ y222.toInt := b240; have t2 : y222.toInt ≤ y236.toInt := b258; omega)), (show y236.toInt ≤ 220 from (by have t1 : 0 ≤ R2.toInt ∧ R2.toInt ≤ 220 := hfk30; have t2 : y236.toInt ≤ R2.toInt := b244; omega)), (show 0 ≤ y237.toInt from (by have t1 : 0 ≤ y222.toInt := b240; have t2 : y222.toInt ≤ y237.toInt := b259; omega)), (show y237.toInt ≤ 1 from (by have t1 : 0 ≤ t13_1.toInt ∧ t13_1.toInt ≤ 1 := btt13_1; have t2 : y237.toInt ≤ t13_1.toInt := b245; omega)), (show t9_0.toInt ≤ j66.toInt from (by have t1 : t9_0.toInt ≤ a63.toInt ∧ t12_0.toInt ≤ a63.toInt ∧ (a63.toInt = t9_0.toInt ∨ a63.toInt = t12_0.toInt) := b65; have t2 : j66.toInt = a63.toInt := b68; omega)), (show t12_0.toInt ≤ j66.toInt from (by have t1 : t9_0.toInt ≤ a63.toInt ∧ t12_0.toInt ≤ a63.toInt ∧ (a63.toInt = t9_0.toInt ∨ a63.toInt = t12_0.toInt) := b65; have t2 : j66.toInt = a63.toInt := b68; omega)), (show t0_1.toInt ≤ t0_1.toInt from (by omega)), (show t0_1.toInt ≤ t0_1.toInt from (by omega)), (show y217.toInt ≤ t10_1.toInt from (by have t1 : y86.toInt ≤ t10_1.toInt := b93; have t2 : y217.toInt ≤ y86.toInt := b242; omega)), (show y222.toInt ≤ t3_1.toInt from (by have t1 : 0 ≤ t3_1.toInt ∧ t3_1.toInt ≤ 1 := btt3_1; have t2 : y222.toInt ≤ 0 := b241; omega)), (show y236.toInt ≤ R2.toInt from (by have t1 : y236.toInt ≤ R2.toInt := b244; omega)), (show y237.toInt ≤ t13_1.toInt from (by have t1 : y237.toInt ≤ t13_1.toInt := b245; omega)), (show (j66, t0_1, y216, y217, f218, y221, y222, f223, y226, y227, f228, y231, y232, f233, y236, y237, f238) = (F_DW_rest R R2 t0_0 t0_1 t1_0 t1_1 t2_0 t3_0 t3_1 t4_0 t5_0 t5_1 t6_0 t7_0 t7_1 t8_0 t9_0 t9_1 t10_0 t10_1 t11_0 t12_0 t12_1 t13_0 t13_1 t14_0) from Eq.trans (by rw [e278, e277, e276, e275, e274, e273, e272, e271, e270, e269, e268, e267, e266, e265, e264, F_DW_rest_c60.eq_1]) hR279)⟩) d_4_7_128
def F_DW_rest_a_c125 (R2 : Int32) (t0_0 : Int64) (t0_1 : Int32) (t1_0 : Int32) (t1_1 : Int32) (t2_0 : (Nat → Int32)) (t3_0 : Int32) (t3_1 : Int32) (t4_0 : (Nat → Int32)) (t5_0 : Int32) (t5_1 : Int32) (t6_0 : (Nat → Int32)) (t7_0 : Int32) (t7_1 : Int32) (t8_0 : (Nat → Int32)) (t9_0 : Int32) (t9_1 : Int32) (t10_0 : Int32) (t10_1 : Int32) (t11_0 : (Nat → Int32)) (a63 : Int32) (j53 : Int64) (p83 : (Int32 × Int32 × (Nat → Int32))) (y72 : Int32) (y73 : Int32) (f74 : (Nat → Int32)) (p113 : (Int32 × Int32 × (Nat → Int32))) (p136 : (Int32 × Int32 × (Nat → Int32))) (p181 : (Int32 × Int32 × (Nat → Int32) × Int32 × Int32 × (Nat → Int32) × Int32 × Int32 × (Nat → Int32))) : Int64 × Int32 × Int32 × Int32 × (Nat → Int32) × Int32 × Int32 × (Nat → Int32) × Int32 × Int32 × (Nat → Int32) := (j53, t0_1, (p181.1 : Int32), (p181.2.1 : Int32), (p181.2.2.1 : (Nat → Int32)), (p181.2.2.2.2.2.2.1 : Int32), (p181.2.2.2.2.2.2.2.1 : Int32), (p181.2.2.2.2.2.2.2.2 : (Nat → Int32)), (p181.2.2.2.1 : Int32), (p181.2.2.2.2.1 : Int32), (p181.2.2.2.2.2.1 : (Nat → Int32)))
def F_DW_rest_a_c101 (R2 : Int32) (t0_0 : Int64) (t0_1 : Int32) (t1_0 : Int32) (t1_1 : Int32) (t2_0 : (Nat → Int32)) (t3_0 : Int32) (t3_1 : Int32) (t4_0 : (Nat → Int32)) (t5_0 : Int32) (t5_1 : Int32) (t6_0 : (Nat → Int32)) (t7_0 : Int32) (t7_1 : Int32) (t8_0 : (Nat → Int32)) (t9_0 : Int32) (t9_1 : Int32) (t10_0 : Int32) (t10_1 : Int32) (t11_0 : (Nat → Int32)) (a63 : Int32) (j53 : Int64) (p83 : (Int32 × Int32 × (Nat → Int32))) (y72 : Int32) (y73 : Int32) (f74 : (Nat → Int32)) (p113 : (Int32 × Int32 × (Nat → Int32))) (p136 : (Int32 × Int32 × (Nat → Int32))) : Int64 × Int32 × Int32 × Int32 × (Nat → Int32) × Int32 × Int32 × (Nat → Int32) × Int32 × Int32 × (Nat → Int32) := F_DW_rest_a_c125 R2 t0_0 t0_1 t1_0 t1_1 t2_0 t3_0 t3_1 t4_0 t5_0 t5_1 t6_0 t7_0 t7_1 t8_0 t9_0 t9_1 t10_0 t10_1 t11_0 a63 j53 p83 y72 y73 f74 p113 p136 ((F_Big_divideBy (220 : Int32) (220 : Int32) (220 : Int32) y72 y73 f74 (p136.1 : Int32) (p136.2.1 : Int32) (p136.2.2 : (Nat → Int32)) t3_0 t3_1 t4_0) : (Int32 × Int32 × (Nat → Int32) × Int32 × Int32 × (Nat → Int32) × Int32 × Int32 × (Nat → Int32)))
def F_DW_rest_a_c90 (R2 : Int32) (t0_0 : Int64) (t0_1 : Int32) (t1_0 : Int32) (t1_1 : Int32) (t2_0 : (Nat → Int32)) (t3_0 : Int32) (t3_1 : Int32) (t4_0 : (Nat → Int32)) (t5_0 : Int32) (t5_1 : Int32) (t6_0 : (Nat → Int32)) (t7_0 : Int32) (t7_1 : Int32) (t8_0 : (Nat → Int32)) (t9_0 : Int32) (t9_1 : Int32) (t10_0 : Int32) (t10_1 : Int32) (t11_0 : (Nat → Int32)) (a63 : Int32) (j53 : Int64) (p83 : (Int32 × Int32 × (Nat → Int32))) (y72 : Int32) (y73 : Int32) (f74 : (Nat → Int32)) (p113 : (Int32 × Int32 × (Nat → Int32))) : Int64 × Int32 × Int32 × Int32 × (Nat → Int32) × Int32 × Int32 × (Nat → Int32) × Int32 × Int32 × (Nat → Int32) := F_DW_rest_a_c101 R2 t0_0 t0_1 t1_0 t1_1 t2_0 t3_0 t3_1 t4_0 t5_0 t5_1 t6_0 t7_0 t7_1 t8_0 t9_0 t9_1 t10_0 t10_1 t11_0 a63 j53 p83 y72 y73 f74 p113 ((F_Big_timesTen (220 : Int32) a63 (p113.1 : Int32) (p113.2.1 : Int32) (p113.2.2 : (Nat → Int32))) : (Int32 × Int32 × (Nat → Int32)))
def F_DW_rest_a_c40 (R2 : Int32) (t0_0 : Int64) (t0_1 : Int32) (t1_0 : Int32) (t1_1 : Int32) (t2_0 : (Nat → Int32)) (t3_0 : Int32) (t3_1 : Int32) (t4_0 : (Nat → Int32)) (t5_0 : Int32) (t5_1 : Int32) (t6_0 : (Nat → Int32)) (t7_0 : Int32) (t7_1 : Int32) (t8_0 : (Nat → Int32)) (t9_0 : Int32) (t9_1 : Int32) (t10_0 : Int32) (t10_1 : Int32) (t11_0 : (Nat → Int32)) (a63 : Int32) (j53 : Int64) (p83 : (Int32 × Int32 × (Nat → Int32))) : Int64 × Int32 × Int32 × Int32 × (Nat → Int32) × Int32 × Int32 × (Nat → Int32) × Int32 × Int32 × (Nat → Int32) := if t9_1 < (t9_1 + a63 : Int32) then ((j53, t0_1, (p83.1 : Int32), (p83.2.1 : Int32), (p83.2.2 : (Nat → Int32)), t3_0, t3_1, t4_0, t5_0, t5_1, t6_0)) else (F_DW_rest_a_c90 R2 t0_0 t0_1 t1_0 t1_1 t2_0 t3_0 t3_1 t4_0 t5_0 t5_1 t6_0 t7_0 t7_1 t8_0 t9_0 t9_1 t10_0 t10_1 t11_0 a63 j53 p83 (p83.1 : Int32) (p83.2.1 : Int32) (p83.2.2 : (Nat → Int32)) ((F_Big_copy (220 : Int32) R2 t5_0 t5_1 t6_0 t10_0 t10_1 t11_0) : (Int32 × Int32 × (Nat → Int32))))
def F_DW_rest_a (R2 : Int32) (t0_0 : Int64) (t0_1 : Int32) (t1_0 : Int32) (t1_1 : Int32) (t2_0 : (Nat → Int32)) (t3_0 : Int32) (t3_1 : Int32) (t4_0 : (Nat → Int32)) (t5_0 : Int32) (t5_1 : Int32) (t6_0 : (Nat → Int32)) (t7_0 : Int32) (t7_1 : Int32) (t8_0 : (Nat → Int32)) (t9_0 : Int32) (t9_1 : Int32) (t10_0 : Int32) (t10_1 : Int32) (t11_0 : (Nat → Int32)) : Int64 × Int32 × Int32 × Int32 × (Nat → Int32) × Int32 × Int32 × (Nat → Int32) × Int32 × Int32 × (Nat → Int32) := F_DW_rest_a_c40 R2 t0_0 t0_1 t1_0 t1_1 t2_0 t3_0 t3_1 t4_0 t5_0 t5_1 t6_0 t7_0 t7_1 t8_0 t9_0 t9_1 t10_0 t10_1 t11_0 ((F_jMath_abs_II (t9_0 - t9_0 : Int32)) : Int32) ((if t9_0 < t9_0 then t9_0 else t9_0 : Int32).toInt64 : Int64) ((F_Big_copy (220 : Int32) R2 t1_0 t1_1 t2_0 t10_0 t10_1 t11_0) : (Int32 × Int32 × (Nat → Int32)))
def S_DW_rest_a_c125 (R2 : Int32) (t0_0 : Int64) (t0_1 : Int32) (t1_0 : Int32) (t1_1 : Int32) (t2_0 : (Nat → Int32)) (t3_0 : Int32) (t3_1 : Int32) (t4_0 : (Nat → Int32)) (t5_0 : Int32) (t5_1 : Int32) (t6_0 : (Nat → Int32)) (t7_0 : Int32) (t7_1 : Int32) (t8_0 : (Nat → Int32)) (t9_0 : Int32) (t9_1 : Int32) (t10_0 : Int32) (t10_1 : Int32) (t11_0 : (Nat → Int32)) (a63 : Int32) (j53 : Int64) (p83 : (Int32 × Int32 × (Nat → Int32))) (y72 : Int32) (y73 : Int32) (f74 : (Nat → Int32)) (p113 : (Int32 × Int32 × (Nat → Int32))) (p136 : (Int32 × Int32 × (Nat → Int32))) (p181 : (Int32 × Int32 × (Nat → Int32) × Int32 × Int32 × (Nat → Int32) × Int32 × Int32 × (Nat → Int32))) : Prop := True
def S_DW_rest_a_c101 (R2 : Int32) (t0_0 : Int64) (t0_1 : Int32) (t1_0 : Int32) (t1_1 : Int32) (t2_0 : (Nat → Int32)) (t3_0 : Int32) (t3_1 : Int32) (t4_0 : (Nat → Int32)) (t5_0 : Int32) (t5_1 : Int32) (t6_0 : (Nat → Int32)) (t7_0 : Int32) (t7_1 : Int32) (t8_0 : (Nat → Int32)) (t9_0 : Int32) (t9_1 : Int32) (t10_0 : Int32) (t10_1 : Int32) (t11_0 : (Nat → Int32)) (a63 : Int32) (j53 : Int64) (p83 : (Int32 × Int32 × (Nat → Int32))) (y72 : Int32) (y73 : Int32) (f74 : (Nat → Int32)) (p113 : (Int32 × Int32 × (Nat → Int32))) (p136 : (Int32 × Int32 × (Nat → Int32))) : Prop := (True ∧ S_Big_divideBy (220 : Int32) (220 : Int32) (220 : Int32) y72 y73 f74 (p136.1 : Int32) (p136.2.1 : Int32) (p136.2.2 : (Nat → Int32)) t3_0 t3_1 t4_0) ∧ (S_DW_rest_a_c125 R2 t0_0 t0_1 t1_0 t1_1 t2_0 t3_0 t3_1 t4_0 t5_0 t5_1 t6_0 t7_0 t7_1 t8_0 t9_0 t9_1 t10_0 t10_1 t11_0 a63 j53 p83 y72 y73 f74 p113 p136 ((F_Big_divideBy (220 : Int32) (220 : Int32) (220 : Int32) y72 y73 f74 (p136.1 : Int32) (p136.2.1 : Int32) (p136.2.2 : (Nat → Int32)) t3_0 t3_1 t4_0) : (Int32 × Int32 × (Nat → Int32) × Int32 × Int32 × (Nat → Int32) × Int32 × Int32 × (Nat → Int32))))
def S_DW_rest_a_c90 (R2 : Int32) (t0_0 : Int64) (t0_1 : Int32) (t1_0 : Int32) (t1_1 : Int32) (t2_0 : (Nat → Int32)) (t3_0 : Int32) (t3_1 : Int32) (t4_0 : (Nat → Int32)) (t5_0 : Int32) (t5_1 : Int32) (t6_0 : (Nat → Int32)) (t7_0 : Int32) (t7_1 : Int32) (t8_0 : (Nat → Int32)) (t9_0 : Int32) (t9_1 : Int32) (t10_0 : Int32) (t10_1 : Int32) (t11_0 : (Nat → Int32)) (a63 : Int32) (j53 : Int64) (p83 : (Int32 × Int32 × (Nat → Int32))) (y72 : Int32) (y73 : Int32) (f74 : (Nat → Int32)) (p113 : (Int32 × Int32 × (Nat → Int32))) : Prop := S_DW_rest_a_c101 R2 t0_0 t0_1 t1_0 t1_1 t2_0 t3_0 t3_1 t4_0 t5_0 t5_1 t6_0 t7_0 t7_1 t8_0 t9_0 t9_1 t10_0 t10_1 t11_0 a63 j53 p83 y72 y73 f74 p113 ((F_Big_timesTen (220 : Int32) a63 (p113.1 : Int32) (p113.2.1 : Int32) (p113.2.2 : (Nat → Int32))) : (Int32 × Int32 × (Nat → Int32)))
def S_DW_rest_a_c40 (R2 : Int32) (t0_0 : Int64) (t0_1 : Int32) (t1_0 : Int32) (t1_1 : Int32) (t2_0 : (Nat → Int32)) (t3_0 : Int32) (t3_1 : Int32) (t4_0 : (Nat → Int32)) (t5_0 : Int32) (t5_1 : Int32) (t6_0 : (Nat → Int32)) (t7_0 : Int32) (t7_1 : Int32) (t8_0 : (Nat → Int32)) (t9_0 : Int32) (t9_1 : Int32) (t10_0 : Int32) (t10_1 : Int32) (t11_0 : (Nat → Int32)) (a63 : Int32) (j53 : Int64) (p83 : (Int32 × Int32 × (Nat → Int32))) : Prop := if t9_1 < (t9_1 + a63 : Int32) then (True) else (S_DW_rest_a_c90 R2 t0_0 t0_1 t1_0 t1_1 t2_0 t3_0 t3_1 t4_0 t5_0 t5_1 t6_0 t7_0 t7_1 t8_0 t9_0 t9_1 t10_0 t10_1 t11_0 a63 j53 p83 (p83.1 : Int32) (p83.2.1 : Int32) (p83.2.2 : (Nat → Int32)) ((F_Big_copy (220 : Int32) R2 t5_0 t5_1 t6_0 t10_0 t10_1 t11_0) : (Int32 × Int32 × (Nat → Int32))))
def S_DW_rest_a (R2 : Int32) (t0_0 : Int64) (t0_1 : Int32) (t1_0 : Int32) (t1_1 : Int32) (t2_0 : (Nat → Int32)) (t3_0 : Int32) (t3_1 : Int32) (t4_0 : (Nat → Int32)) (t5_0 : Int32) (t5_1 : Int32) (t6_0 : (Nat → Int32)) (t7_0 : Int32) (t7_1 : Int32) (t8_0 : (Nat → Int32)) (t9_0 : Int32) (t9_1 : Int32) (t10_0 : Int32) (t10_1 : Int32) (t11_0 : (Nat → Int32)) : Prop := S_DW_rest_a_c40 R2 t0_0 t0_1 t1_0 t1_1 t2_0 t3_0 t3_1 t4_0 t5_0 t5_1 t6_0 t7_0 t7_1 t8_0 t9_0 t9_1 t10_0 t10_1 t11_0 ((F_jMath_abs_II (t9_0 - t9_0 : Int32)) : Int32) ((if t9_0 < t9_0 then t9_0 else t9_0 : Int32).toInt64 : Int64) ((F_Big_copy (220 : Int32) R2 t1_0 t1_1 t2_0 t10_0 t10_1 t11_0) : (Int32 × Int32 × (Nat → Int32)))
set_option maxRecDepth 100000 in
set_option maxHeartbeats 4000000 in
theorem X_DW_rest_a (l : Launch) (D : va_G) (g : Nat → ClassId) (q : Nat → Nat) (ws : va_W) (k2 : Nat) (R2 : Int32) (hB2 : q_isDec (nsh g q) g q k2 R2) (zk2 : (10 ≤ k2 ∧ k2 ≤ 31) ∨ 66 ≤ k2) (ne_k2_10 : k2 ≠ 10) (ne_k2_11 : k2 ≠ 11) (ne_k2_9 : k2 ≠ 9) (ne_k2_8 : k2 ≠ 8) (ne_k2_12 : k2 ≠ 12) (ne_k2_13 : k2 ≠ 13) (ne_k2_22 : k2 ≠ 22) (ne_k2_23 : k2 ≠ 23) (ne_k2_21 : k2 ≠ 21) (ne_k2_20 : k2 ≠ 20) (ne_k2_24 : k2 ≠ 24) (ne_k2_25 : k2 ≠ 25) (ne_k2_30 : k2 ≠ 30) (ne_k2_31 : k2 ≠ 31) (ne_k2_29 : k2 ≠ 29) (ne_k2_28 : k2 ≠ 28) (hI : q_I (nsh g q) q ws) (t0_0 : Int64) (t0_1 : Int32) (hT0 : ws[30]? = (some (q 30, .inr (5, [.ref (q 31), .long t0_0, .ref (q 9), .int t0_1])) : Option (Nat × va_E))) (t1_0 : Int32) (t1_1 : Int32) (hT1 : ws[10]? = (some (q 10, .inr (2, [.ref (q 11), .int t1_0, .int t1_1])) : Option (Nat × va_E))) (t2_0 : (Nat → Int32)) (hT2 : ws[11]? = (some (q 11, .inl (g 0, (220 : Int32).toNatClampNeg, .inl t2_0)) : Option (Nat × va_E))) (t3_0 : Int32) (t3_1 : Int32) (hT3 : ws[12]? = (some (q 12, .inr (2, [.ref (q 13), .int t3_0, .int t3_1])) : Option (Nat × va_E))) (t4_0 : (Nat → Int32)) (hT4 : ws[13]? = (some (q 13, .inl (g 0, (220 : Int32).toNatClampNeg, .inl t4_0)) : Option (Nat × va_E))) (t5_0 : Int32) (t5_1 : Int32) (hT5 : ws[22]? = (some (q 22, .inr (2, [.ref (q 23), .int t5_0, .int t5_1])) : Option (Nat × va_E))) (t6_0 : (Nat → Int32)) (hT6 : ws[23]? = (some (q 23, .inl (g 0, (220 : Int32).toNatClampNeg, .inl t6_0)) : Option (Nat × va_E))) (t7_0 : Int32) (t7_1 : Int32) (hT7 : ws[24]? = (some (q 24, .inr (2, [.ref (q 25), .int t7_0, .int t7_1])) : Option (Nat × va_E))) (t8_0 : (Nat → Int32)) (hT8 : ws[25]? = (some (q 25, .inl (g 0, (220 : Int32).toNatClampNeg, .inl t8_0)) : Option (Nat × va_E))) (t9_0 : Int32) (t9_1 : Int32) (hT9 : ws[k2]? = (some (q k2, .inr (3, [.ref (q (k2 + 1)), .int t9_0, .int t9_1])) : Option (Nat × va_E))) (t10_0 : Int32) (t10_1 : Int32) (hT10 : ws[k2 + 1]? = (some (q (k2 + 1), .inr (2, [.ref (q (k2 + 2)), .int t10_0, .int t10_1])) : Option (Nat × va_E))) (t11_0 : (Nat → Int32)) (hT11 : ws[k2 + 2]? = (some (q (k2 + 2), .inl (g 0, R2.toNatClampNeg, .inl t11_0)) : Option (Nat × va_E))) (hS : True ∧ S_DW_rest_a R2 t0_0 t0_1 t1_0 t1_1 t2_0 t3_0 t3_1 t4_0 t5_0 t5_1 t6_0 t7_0 t7_1 t8_0 t9_0 t9_1 t10_0 t10_1 t11_0) : q_mV l y_DW_rest prog_4_method_7_code 4 5 0 0 D g [.ref (q 30), .ref (q k2), .ref (q k2)] ws (fun u => q_I (nsh g q) q u ∧ q_un ws u [10, 11, 12, 13, 22, 23, 30] ∧ ∃ (u0_0 : Int64) (u0_1 : Int32) (u1_0 : Int32) (u1_1 : Int32) (u2_0 : (Nat → Int32)) (u3_0 : Int32) (u3_1 : Int32) (u4_0 : (Nat → Int32)) (u5_0 : Int32) (u5_1 : Int32) (u6_0 : (Nat → Int32)), u[30]? = (some (q 30, .inr (5, [.ref (q 31), .long u0_0, .ref (q 9), .int u0_1])) : Option (Nat × va_E)) ∧ u[10]? = (some (q 10, .inr (2, [.ref (q 11), .int u1_0, .int u1_1])) : Option (Nat × va_E)) ∧ u[11]? = (some (q 11, .inl (g 0, (220 : Int32).toNatClampNeg, .inl u2_0)) : Option (Nat × va_E)) ∧ u[12]? = (some (q 12, .inr (2, [.ref (q 13), .int u3_0, .int u3_1])) : Option (Nat × va_E)) ∧ u[13]? = (some (q 13, .inl (g 0, (220 : Int32).toNatClampNeg, .inl u4_0)) : Option (Nat × va_E)) ∧ u[22]? = (some (q 22, .inr (2, [.ref (q 23), .int u5_0, .int u5_1])) : Option (Nat × va_E)) ∧ u[23]? = (some (q 23, .inl (g 0, (220 : Int32).toNatClampNeg, .inl u6_0)) : Option (Nat × va_E)) ∧ (0 ≤ u1_0.toInt) ∧ (u1_0.toInt ≤ 220) ∧ (0 ≤ u1_1.toInt) ∧ (0 ≤ u3_0.toInt) ∧ (u3_0.toInt ≤ 220) ∧ (0 ≤ u3_1.toInt) ∧ (0 ≤ u5_0.toInt) ∧ (u5_0.toInt ≤ 220) ∧ (0 ≤ u5_1.toInt) ∧ (t9_0.toInt ≤ u0_0.toInt) ∧ (u0_0.toInt ≤ t9_0.toInt) ∧ (t0_1.toInt ≤ u0_1.toInt) ∧ (u0_1.toInt ≤ t0_1.toInt) ∧ (u1_1.toInt ≤ t10_1.toInt) ∧ (u3_1.toInt ≤ t3_1.toInt) ∧ (u5_1.toInt ≤ u1_1.toInt + 1) ∧ (u0_0, u0_1, u1_0, u1_1, u2_0, u3_0, u3_1, u4_0, u5_0, u5_1, u6_0) = (F_DW_rest_a R2 t0_0 t0_1 t1_0 t1_1 t2_0 t3_0 t3_1 t4_0 t5_0 t5_1 t6_0 t7_0 t7_1 t8_0 t9_0 t9_1 t10_0 t10_1 t11_0)) := by
  intro sz
  refine q_into (by decide) (Nat.le_of_ble_eq_true rfl) ?_
  intro p e s m below meth c ls hsz C0 V hl
  have hx := C0.1
  have hb := C0.2.1
  have hfk20 : q_F (0 ≤ R2.toInt ∧ R2.toInt ≤ 220) := hB2.2.2.2
  obtain ⟨yy0_0, yy0_1, hh0, btt0_1⟩ := n_o30 hI
  obtain ⟨rfl, rfl⟩ : t0_0 = yy0_0 ∧ t0_1 = yy0_1 := by have z := Option.some.inj (hT0.symm.trans hh0); simpa using z
  replace btt0_1 : q_F (0 ≤ t0_1.toInt ∧ t0_1.toInt ≤ 1) := btt0_1
  obtain ⟨yy1_0, yy1_1, hh1, btt1_0, btt1_1⟩ := q_bigO hI (n_b10 g q)
  obtain ⟨rfl, rfl⟩ : t1_0 = yy1_0 ∧ t1_1 = yy1_1 := by have z := Option.some.inj (hT1.symm.trans hh1); simpa using z
  replace btt1_0 : q_F (0 ≤ t1_0.toInt ∧ t1_0.toInt ≤ 220) := btt1_0
  replace btt1_1 : q_F (0 ≤ t1_1.toInt ∧ t1_1.toInt ≤ 1) := btt1_1
  obtain ⟨yy3_0, yy3_1, hh3, btt3_0, btt3_1⟩ := q_bigO hI (n_b12 g q)
  obtain ⟨rfl, rfl⟩ : t3_0 = yy3_0 ∧ t3_1 = yy3_1 := by have z := Option.some.inj (hT3.symm.trans hh3); simpa using z
  replace btt3_0 : q_F (0 ≤ t3_0.toInt ∧ t3_0.toInt ≤ 220) := btt3_0
  replace btt3_1 : q_F (0 ≤ t3_1.toInt ∧ t3_1.toInt ≤ 1) := btt3_1
  obtain ⟨yy5_0, yy5_1, hh5, btt5_0, btt5_1⟩ := q_bigO hI (n_b22 g q)
  obtain ⟨rfl, rfl⟩ : t5_0 = yy5_0 ∧ t5_1 = yy5_1 := by have z := Option.some.inj (hT5.symm.trans hh5); simpa using z
  replace btt5_0 : q_F (0 ≤ t5_0.toInt ∧ t5_0.toInt ≤ 220) := btt5_0
  replace btt5_1 : q_F (0 ≤ t5_1.toInt ∧ t5_1.toInt ≤ 1) := btt5_1
  obtain ⟨yy7_0, yy7_1, hh7, btt7_0, btt7_1⟩ := q_bigO hI (n_b24 g q)
  obtain ⟨rfl, rfl⟩ : t7_0 = yy7_0 ∧ t7_1 = yy7_1 := by have z := Option.some.inj (hT7.symm.trans hh7); simpa using z
  replace btt7_0 : q_F (0 ≤ t7_0.toInt ∧ t7_0.toInt ≤ 220) := btt7_0
  replace btt7_1 : q_F (0 ≤ t7_1.toInt ∧ t7_1.toInt ≤ 1) := btt7_1
  obtain ⟨yy9_0, yy9_1, hh9, btt9_0, btt9_1⟩ := n_deO hI hB2
  obtain ⟨rfl, rfl⟩ : t9_0 = yy9_0 ∧ t9_1 = yy9_1 := by have z := Option.some.inj (hT9.symm.trans hh9); simpa using z
  replace btt9_0 : q_F (-10000 ≤ t9_0.toInt ∧ t9_0.toInt ≤ 10000) := btt9_0
  replace btt9_1 : q_F (1 ≤ t9_1.toInt ∧ t9_1.toInt ≤ 1000) := btt9_1
  obtain ⟨yy10_0, yy10_1, hh10, btt10_0, btt10_1⟩ := q_bigO hI hB2.2
  obtain ⟨rfl, rfl⟩ : t10_0 = yy10_0 ∧ t10_1 = yy10_1 := by have z := Option.some.inj (hT10.symm.trans hh10); simpa using z
  replace btt10_0 : q_F (0 ≤ t10_0.toInt ∧ t10_0.toInt ≤ R2.toInt) := btt10_0
  replace btt10_1 : q_F (0 ≤ t10_1.toInt ∧ t10_1.toInt ≤ 1) := btt10_1
  have hF : q_un ws ws [10, 11, 12, 13, 22, 23, 30] := q_u0
  have hl : lv_has ls 4 [(0, .ref (q 30)), (1, .ref (q k2)), (2, .ref (q k2))] := hl
  refine lv_aload_n hx hb d_4_7_0 rfl (lv_at hl 0 rfl) ?_
  refine lv_aload_n hx hb d_4_7_1 rfl (lv_at hl 1 rfl) ?_
  refine q_get (ci := 3) (j := 1) (v := .int t9_0) C0 V i_Dec rfl rfl hT9 (by decide) w_176 rfl d_4_7_2 ?_
  refine lv_aload_n hx hb d_4_7_5 rfl (lv_at hl 2 rfl) ?_
  refine q_get (ci := 3) (j := 1) (v := .int t9_0) C0 V i_Dec rfl rfl hT9 (by decide) w_176 rfl d_4_7_6 ?_
  refine q_max C0 hl.1 rfl w_1370 w_803 w_7 w_804 ⟨Nat.le_of_ble_eq_true rfl, Nat.le_of_ble_eq_true rfl⟩ ⟨Nat.le_of_ble_eq_true rfl, Nat.le_of_ble_eq_true rfl⟩ d_4_7_9 ?_
  obtain ⟨a50, e51⟩ := q_nm (if t9_0 < t9_0 then t9_0 else t9_0 : Int32)
  refine q_ti (v := a50) e51 ?_
  have b52 : q_F (t9_0.toInt ≤ a50.toInt ∧ t9_0.toInt ≤ a50.toInt ∧ (a50.toInt = t9_0.toInt ∨ a50.toInt = t9_0.toInt)) := (by rw [← e51]; show t9_0.toInt ≤ (if t9_0 < t9_0 then t9_0 else t9_0 : Int32).toInt ∧ t9_0.toInt ≤ (if t9_0 < t9_0 then t9_0 else t9_0 : Int32).toInt ∧ ((if t9_0 < t9_0 then t9_0 else t9_0 : Int32).toInt = t9_0.toInt ∨ (if t9_0 < t9_0 then t9_0 else t9_0 : Int32).toInt = t9_0.toInt); exact s_max (a := t9_0) (b := t9_0))
  refine lv_i2l hx hb d_4_7_12 rfl ?_
  obtain ⟨j53, e54⟩ := q_nm (a50.toInt64 : Int64)
  refine q_tl (v := j53) e54 ?_
  have b55 : q_F (j53.toInt = a50.toInt) := (by rw [← e54]; show (a50.toInt64 : Int64).toInt = a50.toInt; exact q_i2l rfl)
  refine q_put (ci := 5) (j := 1) (v := .long j53) (ty := .long) C0 V i_DW o_DW n_DW rfl rfl hT0 (by decide) w_212 rfl rfl rfl rfl (Nat.le_of_ble_eq_true rfl) d_4_7_13 (fun H locs w56 hu57 hT0 V => ?_)
  replace hT0 : w56[30]? = (some (q 30, .inr (5, [.ref (q 31), .long j53, .ref (q 9), .int t0_1])) : Option (Nat × va_E)) := hT0
  replace hI := n_p30 hI hu57 hT0 ⟨(by have t1 : 0 ≤ t0_1.toInt ∧ t0_1.toInt ≤ 1 := btt0_1; omega), (by have t1 : 0 ≤ t0_1.toInt ∧ t0_1.toInt ≤ 1 := btt0_1; omega)⟩
  replace hT1 := (hu57 _ (by decide)).trans hT1
  replace hT2 := (hu57 _ (by decide)).trans hT2
  replace hT3 := (hu57 _ (by decide)).trans hT3
  replace hT4 := (hu57 _ (by decide)).trans hT4
  replace hT5 := (hu57 _ (by decide)).trans hT5
  replace hT6 := (hu57 _ (by decide)).trans hT6
  replace hT7 := (hu57 _ (by decide)).trans hT7
  replace hT8 := (hu57 _ (by decide)).trans hT8
  replace hT9 := (hu57 _ (by have z := ne_k2_30; omega)).trans hT9
  replace hT10 := (hu57 _ (by have z := ne_k2_29; omega)).trans hT10
  replace hT11 := (hu57 _ (by have z := ne_k2_28; omega)).trans hT11
  replace hF := q_us hF hu57 (by simp)
  refine lv_aload_n hx hb d_4_7_16 rfl (lv_at hl 1 rfl) ?_
  refine q_get (ci := 3) (j := 1) (v := .int t9_0) C0 V i_Dec rfl rfl hT9 (by decide) w_176 rfl d_4_7_17 ?_
  refine lv_aload_n hx hb d_4_7_20 rfl (lv_at hl 2 rfl) ?_
  refine q_get (ci := 3) (j := 1) (v := .int t9_0) C0 V i_Dec rfl rfl hT9 (by decide) w_176 rfl d_4_7_21 ?_
  refine lv_isub hx hb d_4_7_24 ?_
  obtain ⟨a58, e59⟩ := q_nm (t9_0 - t9_0 : Int32)
  refine q_ti (v := a58) e59 ?_
  have b60 : q_F (a58.toInt = t9_0.toInt - t9_0.toInt) := (by rw [← e59]; show (t9_0 - t9_0 : Int32).toInt = t9_0.toInt - t9_0.toInt; exact q_subI (x := t9_0.toInt) (y := t9_0.toInt) rfl rfl (by omega) (by omega))
  refine q_goi V (q_runS (As := [.int a58]) (rest := []) (d := 1) (mc := 0) (ms := 0) C0 V rfl LS_DW_98 (X_jMath_abs_II l D g q w56  a58 hI  (by have t1 : a58.toInt = t9_0.toInt - t9_0.toInt := b60; omega) _) rfl hl.1 rfl (Nat.le_of_ble_eq_true rfl) ⟨by decide, by decide⟩ ⟨Nat.le_of_ble_eq_true rfl, Nat.le_of_ble_eq_true rfl⟩ d_4_7_25) (fun a63 u61 H locs hp62 V => ?_)
  obtain ⟨rfl, b64, b65, hE66⟩ := hp62
  have e67 : a63 = (F_jMath_abs_II a58) := hE66
  replace b64 : q_F (0 ≤ a63.toInt) := b64
  replace b65 : q_F (a58.toInt ≤ a63.toInt) := b65
  refine lv_istore_n (lv' := [(3, .int a63), (0, .ref (q 30)), (1, .ref (q k2)), (2, .ref (q k2))]) hx hb d_4_7_28 rfl hl (by decide) rfl (fun ls hl => ?_)
  refine lv_aload_n hx hb d_4_7_29 rfl (lv_at hl 1 rfl) ?_
  refine q_get (ci := 5) (j := 2) (v := .ref (q 9)) C0 V i_DW rfl rfl hT0 (by decide) w_214 rfl d_4_7_30 ?_
  have hO68 := n_o9 hI
  refine q_get (ci := 4) (j := 0) (v := .ref (q 10)) C0 V i_Mil rfl rfl hO68 (by decide) w_111 rfl d_4_7_33 ?_
  refine lv_aload_n hx hb d_4_7_36 rfl (lv_at hl 2 rfl) ?_
  refine q_get (ci := 3) (j := 0) (v := .ref (q (k2 + 1))) C0 V i_Dec rfl rfl hT9 (by decide) w_171 rfl d_4_7_37 ?_
  refine q_gov V (q_runV (As := [.ref (q (k2 + 1))]) (rest := []) (d := 2) (mc := 0) (ms := 0) (ci := 2) C0 V rfl LV_DW_44 (X_Big_copy l D g q w56 10 220 (n_b10 g q) (by decide) (k2 + 1) R2 hB2.2 (by have z := zk2; omega)  (by have z := ne_k2_9; omega) hI t1_0 t1_1 hT1 t2_0 hT2 t10_0 t10_1 hT10 t11_0 hT11  _) rfl rfl hT1 rfl hl.1 rfl (Nat.le_of_ble_eq_true rfl) ⟨by decide, by decide⟩ ⟨Nat.le_of_ble_eq_true rfl, Nat.le_of_ble_eq_true rfl⟩ d_4_7_40) (fun u69 H locs hp70 V => ?_)
  obtain ⟨hI, hu82, y72, y73, f74, hO71, hA75, b76, b77, b78, b79, b80, hE81⟩ := hp70
  replace hO71 : u69[10]? = (some (q 10, .inr (2, [.ref (q 11), .int y72, .int y73])) : Option (Nat × va_E)) := hO71
  replace hA75 : u69[11]? = (some (q 11, .inl (g 0, (220 : Int32).toNatClampNeg, .inl f74)) : Option (Nat × va_E)) := hA75
  obtain ⟨p83, e84⟩ : ∃ z, z = (F_Big_copy (220 : Int32) R2 t1_0 t1_1 t2_0 t10_0 t10_1 t11_0) := ⟨_, rfl⟩
  have e85 : y72 = p83.1 := congrArg (fun z => z.1) (hE81.trans e84.symm)
  have e86 : y73 = p83.2.1 := congrArg (fun z => z.2.1) (hE81.trans e84.symm)
  have e87 : f74 = p83.2.2 := congrArg (fun z => z.2.2) (hE81.trans e84.symm)
  replace b76 : q_F (0 ≤ y72.toInt) := b76
  replace b77 : q_F (y72.toInt ≤ t10_0.toInt) := b77
  replace b78 : q_F (y72.toInt ≤ 220) := b78
  replace b79 : q_F (t10_1.toInt ≤ y73.toInt) := b79
  replace b80 : q_F (y73.toInt ≤ t10_1.toInt) := b80
  replace hT0 := (hu82 _ (by decide)).trans hT0
  replace hT3 := (hu82 _ (by decide)).trans hT3
  replace hT4 := (hu82 _ (by decide)).trans hT4
  replace hT5 := (hu82 _ (by decide)).trans hT5
  replace hT6 := (hu82 _ (by decide)).trans hT6
  replace hT7 := (hu82 _ (by decide)).trans hT7
  replace hT8 := (hu82 _ (by decide)).trans hT8
  replace hT9 := (hu82 _ (by have z0 := zk2; simp only [List.mem_cons, List.not_mem_nil, or_false, not_or]; omega)).trans hT9
  replace hT10 := (hu82 _ (by have z0 := zk2; simp only [List.mem_cons, List.not_mem_nil, or_false, not_or]; omega)).trans hT10
  replace hT11 := (hu82 _ (by have z0 := zk2; simp only [List.mem_cons, List.not_mem_nil, or_false, not_or]; omega)).trans hT11
  replace hO68 := (hu82 _ (by decide)).trans hO68
  replace hF := q_uc hF hu82 (by simp)
  have hR88 := (show F_DW_rest_a_c40 R2 t0_0 t0_1 t1_0 t1_1 t2_0 t3_0 t3_1 t4_0 t5_0 t5_1 t6_0 t7_0 t7_1 t8_0 t9_0 t9_1 t10_0 t10_1 t11_0 a63 j53 p83 = (F_DW_rest_a R2 t0_0 t0_1 t1_0 t1_1 t2_0 t3_0 t3_1 t4_0 t5_0 t5_1 t6_0 t7_0 t7_1 t8_0 t9_0 t9_1 t10_0 t10_1 t11_0) from (by rw [e84, e67, ← e59, ← e54, ← e51, F_DW_rest_a.eq_1]))
  have hS89 := (show True ∧ S_DW_rest_a_c40 R2 t0_0 t0_1 t1_0 t1_1 t2_0 t3_0 t3_1 t4_0 t5_0 t5_1 t6_0 t7_0 t7_1 t8_0 t9_0 t9_1 t10_0 t10_1 t11_0 a63 j53 p83 from (by rw [e84, e67, ← e59, ← e54, ← e51]; have h := hS; rw [S_DW_rest_a.eq_1] at h; with_reducible exact h))
  refine lv_aload_n hx hb d_4_7_43 rfl (lv_at hl 2 rfl) ?_
  refine q_get (ci := 3) (j := 1) (v := .int t9_0) C0 V i_Dec rfl rfl hT9 (by decide) w_176 rfl d_4_7_44 ?_
  refine lv_aload_n hx hb d_4_7_47 rfl (lv_at hl 3 rfl) ?_
  refine q_get (ci := 3) (j := 1) (v := .int t9_0) C0 V i_Dec rfl rfl hT9 (by decide) w_176 rfl d_4_7_48 ?_
  refine lv_icmp_ge (tgt := 66) hx hb d_4_7_51 (by decide) (fun c93 => ?_) (fun c93 => absurd (show t9_0.toInt < t9_0.toInt from q_nleI c93) (by omega))
  refine lv_aload_n hx hb d_4_7_66 rfl (lv_at hl 2 rfl) ?_
  refine q_get (ci := 3) (j := 2) (v := .int t9_1) C0 V i_Dec rfl rfl hT9 (by decide) w_180 rfl d_4_7_67 ?_
  refine lv_aload_n hx hb d_4_7_70 rfl (lv_at hl 3 rfl) ?_
  refine q_get (ci := 3) (j := 2) (v := .int t9_1) C0 V i_Dec rfl rfl hT9 (by decide) w_180 rfl d_4_7_71 ?_
  refine lv_iload_n hx hb d_4_7_74 rfl (lv_at hl 0 rfl) ?_
  refine lv_iadd hx hb d_4_7_75 ?_
  obtain ⟨a94, e95⟩ := q_nm (t9_1 + a63 : Int32)
  refine q_ti (v := a94) e95 ?_
  refine lv_icmp_lt (tgt := 128) hx hb d_4_7_76 (by decide) (fun c96 => ?_) (fun c96 => ?_)
  ·
    have b97 : q_F (t9_1.toInt < a94.toInt) := (q_ltI c96)
    exact q_retv C0 V (⟨hI, hF, j53, t0_1, y72, y73, f74, t3_0, t3_1, t4_0, t5_0, t5_1, t6_0, hT0, hO71, hA75, hT3, hT4, hT5, hT6, (show 0 ≤ y72.toInt from (by have t1 : 0 ≤ y72.toInt := b76; omega)), (show y72.toInt ≤ 220 from (by have t1 : y72.toInt ≤ 220 := b78; omega)), (show 0 ≤ y73.toInt from (by have t1 : 0 ≤ t10_1.toInt ∧ t10_1.toInt ≤ 1 := btt10_1; have t2 : t10_1.toInt ≤ y73.toInt := b79; omega)), (show 0 ≤ t3_0.toInt from (by have t1 : 0 ≤ t3_0.toInt ∧ t3_0.toInt ≤ 220 := btt3_0; omega)), (show t3_0.toInt ≤ 220 from (by have t1 : 0 ≤ t3_0.toInt ∧ t3_0.toInt ≤ 220 := btt3_0; omega)), (show 0 ≤ t3_1.toInt from (by have t1 : 0 ≤ t3_1.toInt ∧ t3_1.toInt ≤ 1 := btt3_1; omega)), (show 0 ≤ t5_0.toInt from (by have t1 : 0 ≤ t5_0.toInt ∧ t5_0.toInt ≤ 220 := btt5_0; omega)), (show t5_0.toInt ≤ 220 from (by have t1 : 0 ≤ t5_0.toInt ∧ t5_0.toInt ≤ 220 := btt5_0; omega)), (show 0 ≤ t5_1.toInt from (by have t1 : 0 ≤ t5_1.toInt ∧ t5_1.toInt ≤ 1 := btt5_1; omega)), (show t9_0.toInt ≤ j53.toInt from (by have t1 : t9_0.toInt ≤ a50.toInt ∧ t9_0.toInt ≤ a50.toInt ∧ (a50.toInt = t9_0.toInt ∨ a50.toInt = t9_0.toInt) := b52; have t2 : j53.toInt = a50.toInt := b55; omega)), (show j53.toInt ≤ t9_0.toInt from (by have t1 : t9_0.toInt ≤ a50.toInt ∧ t9_0.toInt ≤ a50.toInt ∧ (a50.toInt = t9_0.toInt ∨ a50.toInt = t9_0.toInt) := b52; have t2 : j53.toInt = a50.toInt := b55; omega)), (show t0_1.toInt ≤ t0_1.toInt from (by omega)), (show t0_1.toInt ≤ t0_1.toInt from (by omega)), (show y73.toInt ≤ t10_1.toInt from (by have t1 : y73.toInt ≤ t10_1.toInt := b80; omega)), (show t3_1.toInt ≤ t3_1.toInt from (by omega)), (show t5_1.toInt ≤ y73.toInt + 1 from (by have t1 : 0 ≤ t5_1.toInt ∧ t5_1.toInt ≤ 1 := btt5_1; have t2 : 0 ≤ t10_1.toInt ∧ t10_1.toInt ≤ 1 := btt10_1; have t3 : t10_1.toInt ≤ y73.toInt := b79; omega)), (show (j53, t0_1, y72, y73, f74, t3_0, t3_1, t4_0, t5_0, t5_1, t6_0) = (F_DW_rest_a R2 t0_0 t0_1 t1_0 t1_1 t2_0 t3_0 t3_1 t4_0 t5_0 t5_1 t6_0 t7_0 t7_1 t8_0 t9_0 t9_1 t10_0 t10_1 t11_0) from Eq.trans (by have c96x := c96; rw [← e95] at c96x; rw [e87, e86, e85, F_DW_rest_a_c40.eq_1, if_pos c96x]) hR88)⟩) d_4_7_128
  ·
    have b98 : q_F (a94.toInt ≤ t9_1.toInt) := (q_nltI c96)
    refine lv_aload_n hx hb d_4_7_79 rfl (lv_at hl 1 rfl) ?_
    refine q_get (ci := 5) (j := 2) (v := .ref (q 9)) C0 V i_DW rfl rfl hT0 (by decide) w_214 rfl d_4_7_80 ?_
    refine q_get (ci := 4) (j := 6) (v := .ref (q 22)) C0 V i_Mil rfl rfl hO68 (by decide) w_126 rfl d_4_7_83 ?_
    refine lv_aload_n hx hb d_4_7_86 rfl (lv_at hl 3 rfl) ?_
    refine q_get (ci := 3) (j := 0) (v := .ref (q (k2 + 1))) C0 V i_Dec rfl rfl hT9 (by decide) w_171 rfl d_4_7_87 ?_
    refine q_gov V (q_runV (As := [.ref (q (k2 + 1))]) (rest := []) (d := 2) (mc := 0) (ms := 0) (ci := 2) C0 V rfl LV_DW_44 (X_Big_copy l D g q u69 22 220 (n_b22 g q) (by decide) (k2 + 1) R2 hB2.2 (by have z := zk2; omega)  (by have z := ne_k2_21; omega) hI t5_0 t5_1 hT5 t6_0 hT6 t10_0 t10_1 hT10 t11_0 hT11  _) rfl rfl hT5 rfl hl.1 rfl (Nat.le_of_ble_eq_true rfl) ⟨by decide, by decide⟩ ⟨Nat.le_of_ble_eq_true rfl, Nat.le_of_ble_eq_true rfl⟩ d_4_7_90) (fun u99 H locs hp100 V => ?_)
    obtain ⟨hI, hu112, y102, y103, f104, hO101, hA105, b106, b107, b108, b109, b110, hE111⟩ := hp100
    replace hO101 : u99[22]? = (some (q 22, .inr (2, [.ref (q 23), .int y102, .int y103])) : Option (Nat × va_E)) := hO101
    replace hA105 : u99[23]? = (some (q 23, .inl (g 0, (220 : Int32).toNatClampNeg, .inl f104)) : Option (Nat × va_E)) := hA105
    obtain ⟨p113, e114⟩ : ∃ z, z = (F_Big_copy (220 : Int32) R2 t5_0 t5_1 t6_0 t10_0 t10_1 t11_0) := ⟨_, rfl⟩
    have e115 : y102 = p113.1 := congrArg (fun z => z.1) (hE111.trans e114.symm)
    have e116 : y103 = p113.2.1 := congrArg (fun z => z.2.1) (hE111.trans e114.symm)
    have e117 : f104 = p113.2.2 := congrArg (fun z => z.2.2) (hE111.trans e114.symm)
    replace b106 : q_F (0 ≤ y102.toInt) := b106
    replace b107 : q_F (y102.toInt ≤ t10_0.toInt) := b107
    replace b108 : q_F (y102.toInt ≤ 220) := b108
    replace b109 : q_F (t10_1.toInt ≤ y103.toInt) := b109
    replace b110 : q_F (y103.toInt ≤ t10_1.toInt) := b110
    replace hT0 := (hu112 _ (by decide)).trans hT0
    replace hO71 := (hu112 _ (by decide)).trans hO71
    replace hA75 := (hu112 _ (by decide)).trans hA75
    replace hT3 := (hu112 _ (by decide)).trans hT3
    replace hT4 := (hu112 _ (by decide)).trans hT4
    replace hT7 := (hu112 _ (by decide)).trans hT7
    replace hT8 := (hu112 _ (by decide)).trans hT8
    replace hT9 := (hu112 _ (by have z0 := zk2; simp only [List.mem_cons, List.not_mem_nil, or_false, not_or]; omega)).trans hT9
    replace hT10 := (hu112 _ (by have z0 := zk2; simp only [List.mem_cons, List.not_mem_nil, or_false, not_or]; omega)).trans hT10
    replace hT11 := (hu112 _ (by have z0 := zk2; simp only [List.mem_cons, List.not_mem_nil, or_false, not_or]; omega)).trans hT11
    replace hO68 := (hu112 _ (by decide)).trans hO68
    replace hF := q_uc hF hu112 (by simp)
    have hR118 := (show F_DW_rest_a_c90 R2 t0_0 t0_1 t1_0 t1_1 t2_0 t3_0 t3_1 t4_0 t5_0 t5_1 t6_0 t7_0 t7_1 t8_0 t9_0 t9_1 t10_0 t10_1 t11_0 a63 j53 p83 y72 y73 f74 p113 = (F_DW_rest_a R2 t0_0 t0_1 t1_0 t1_1 t2_0 t3_0 t3_1 t4_0 t5_0 t5_1 t6_0 t7_0 t7_1 t8_0 t9_0 t9_1 t10_0 t10_1 t11_0) from Eq.trans (by have c96x := c96; rw [← e95] at c96x; rw [e114, e87, e86, e85, F_DW_rest_a_c40.eq_1, if_neg c96x]) hR88)
    have hS119 := (show True ∧ S_DW_rest_a_c90 R2 t0_0 t0_1 t1_0 t1_1 t2_0 t3_0 t3_1 t4_0 t5_0 t5_1 t6_0 t7_0 t7_1 t8_0 t9_0 t9_1 t10_0 t10_1 t11_0 a63 j53 p83 y72 y73 f74 p113 from (by rw [e114, e87, e86, e85]; have h := hS89; rw [S_DW_rest_a_c40.eq_1] at h; have c96x := c96; rw [← e95] at c96x; rw [if_neg c96x] at h; with_reducible exact h))
    refine lv_aload_n hx hb d_4_7_93 rfl (lv_at hl 1 rfl) ?_
    refine q_get (ci := 5) (j := 2) (v := .ref (q 9)) C0 V i_DW rfl rfl hT0 (by decide) w_214 rfl d_4_7_94 ?_
    refine q_get (ci := 4) (j := 6) (v := .ref (q 22)) C0 V i_Mil rfl rfl hO68 (by decide) w_126 rfl d_4_7_97 ?_
    refine lv_iload_n hx hb d_4_7_100 rfl (lv_at hl 0 rfl) ?_
    refine q_gov V (q_runV (As := [.int a63]) (rest := []) (d := 2) (mc := 0) (ms := 0) (ci := 2) C0 V rfl LV_DW_77 (X_Big_timesTen l D g q u99 22 220 (n_b22 g q) (by decide) a63 hI y102 y103 hO101 f104 hA105  _) rfl rfl hO101 rfl hl.1 rfl (Nat.le_of_ble_eq_true rfl) ⟨by decide, by decide⟩ ⟨Nat.le_of_ble_eq_true rfl, Nat.le_of_ble_eq_true rfl⟩ d_4_7_101) (fun u123 H locs hp124 V => ?_)
    obtain ⟨hI, hu135, y126, y127, f128, hO125, hA129, b130, b131, b132, b133, hE134⟩ := hp124
    replace hO125 : u123[22]? = (some (q 22, .inr (2, [.ref (q 23), .int y126, .int y127])) : Option (Nat × va_E)) := hO125
    replace hA129 : u123[23]? = (some (q 23, .inl (g 0, (220 : Int32).toNatClampNeg, .inl f128)) : Option (Nat × va_E)) := hA129
    obtain ⟨p136, e137⟩ : ∃ z, z = (F_Big_timesTen (220 : Int32) a63 y102 y103 f104) := ⟨_, rfl⟩
    have e138 : y126 = p136.1 := congrArg (fun z => z.1) (hE134.trans e137.symm)
    have e139 : y127 = p136.2.1 := congrArg (fun z => z.2.1) (hE134.trans e137.symm)
    have e140 : f128 = p136.2.2 := congrArg (fun z => z.2.2) (hE134.trans e137.symm)
    replace b130 : q_F (y102.toInt ≤ y126.toInt) := b130
    replace b131 : q_F (y126.toInt ≤ 220) := b131
    replace b132 : q_F (y103.toInt ≤ y127.toInt) := b132
    replace b133 : q_F (y127.toInt ≤ y103.toInt) := b133
    replace hT0 := (hu135 _ (by decide)).trans hT0
    replace hO71 := (hu135 _ (by decide)).trans hO71
    replace hA75 := (hu135 _ (by decide)).trans hA75
    replace hT3 := (hu135 _ (by decide)).trans hT3
    replace hT4 := (hu135 _ (by decide)).trans hT4
    replace hT7 := (hu135 _ (by decide)).trans hT7
    replace hT8 := (hu135 _ (by decide)).trans hT8
    replace hT9 := (hu135 _ (by have z0 := zk2; simp only [List.mem_cons, List.not_mem_nil, or_false, not_or]; omega)).trans hT9
    replace hT10 := (hu135 _ (by have z0 := zk2; simp only [List.mem_cons, List.not_mem_nil, or_false, not_or]; omega)).trans hT10
    replace hT11 := (hu135 _ (by have z0 := zk2; simp only [List.mem_cons, List.not_mem_nil, or_false, not_or]; omega)).trans hT11
    replace hO68 := (hu135 _ (by decide)).trans hO68
    replace hF := q_uc hF hu135 (by simp)
    have hR141 := (show F_DW_rest_a_c101 R2 t0_0 t0_1 t1_0 t1_1 t2_0 t3_0 t3_1 t4_0 t5_0 t5_1 t6_0 t7_0 t7_1 t8_0 t9_0 t9_1 t10_0 t10_1 t11_0 a63 j53 p83 y72 y73 f74 p113 p136 = (F_DW_rest_a R2 t0_0 t0_1 t1_0 t1_1 t2_0 t3_0 t3_1 t4_0 t5_0 t5_1 t6_0 t7_0 t7_1 t8_0 t9_0 t9_1 t10_0 t10_1 t11_0) from Eq.trans (by rw [e137, e117, e116, e115, F_DW_rest_a_c90.eq_1]) hR118)
    have hS142 := (show True ∧ S_DW_rest_a_c101 R2 t0_0 t0_1 t1_0 t1_1 t2_0 t3_0 t3_1 t4_0 t5_0 t5_1 t6_0 t7_0 t7_1 t8_0 t9_0 t9_1 t10_0 t10_1 t11_0 a63 j53 p83 y72 y73 f74 p113 p136 from (by rw [e137, e117, e116, e115]; have h := hS119; rw [S_DW_rest_a_c90.eq_1] at h; with_reducible exact h))
    refine lv_aload_n hx hb d_4_7_104 rfl (lv_at hl 1 rfl) ?_
    refine q_get (ci := 5) (j := 2) (v := .ref (q 9)) C0 V i_DW rfl rfl hT0 (by decide) w_214 rfl d_4_7_105 ?_
    refine q_get (ci := 4) (j := 0) (v := .ref (q 10)) C0 V i_Mil rfl rfl hO68 (by decide) w_111 rfl d_4_7_108 ?_
    refine lv_aload_n hx hb d_4_7_111 rfl (lv_at hl 1 rfl) ?_
    refine q_get (ci := 5) (j := 2) (v := .ref (q 9)) C0 V i_DW rfl rfl hT0 (by decide) w_214 rfl d_4_7_112 ?_
    refine q_get (ci := 4) (j := 6) (v := .ref (q 22)) C0 V i_Mil rfl rfl hO68 (by decide) w_126 rfl d_4_7_115 ?_
    refine lv_aload_n hx hb d_4_7_118 rfl (lv_at hl 1 rfl) ?_
    refine q_get (ci := 5) (j := 2) (v := .ref (q 9)) C0 V i_DW rfl rfl hT0 (by decide) w_214 rfl d_4_7_119 ?_
    refine q_get (ci := 4) (j := 1) (v := .ref (q 12)) C0 V i_Mil rfl rfl hO68 (by decide) w_115 rfl d_4_7_122 ?_
    have ob146 : True ∧ S_Big_divideBy (220 : Int32) (220 : Int32) (220 : Int32) y72 y73 f74 y126 y127 f128 t3_0 t3_1 t4_0 := (by rw [e140, e139, e138]; have h := hS142; rw [S_DW_rest_a_c101.eq_1] at h; with_reducible exact h.2.1)
    refine q_gov V (q_runV (As := [.ref (q 22), .ref (q 12)]) (rest := []) (d := 4) (mc := 0) (ms := 0) (ci := 2) C0 V rfl LV_DW_109 (X_Big_divideBy l D g q u123 10 220 (n_b10 g q) (by decide) 22 220 (n_b22 g q) (by decide) 12 220 (n_b12 g q) (by decide)  (by decide) (by decide) (by decide) hI y72 y73 hO71 f74 hA75 y126 y127 hO125 f128 hA129 t3_0 t3_1 hT3 t4_0 hT4 ob146 _) rfl rfl hO71 rfl hl.1 rfl (Nat.le_of_ble_eq_true rfl) ⟨by decide, by decide⟩ ⟨Nat.le_of_ble_eq_true rfl, Nat.le_of_ble_eq_true rfl⟩ d_4_7_125) (fun u147 H locs hp148 V => ?_)
    obtain ⟨hI, hu180, y150, y151, f152, y155, y156, f157, y160, y161, f162, hO149, hA153, hO154, hA158, hO159, hA163, b164, b165, b166, b167, b168, b169, b170, b171, b172, b173, b174, b175, b176, b177, b178, hE179⟩ := hp148
    replace hO149 : u147[10]? = (some (q 10, .inr (2, [.ref (q 11), .int y150, .int y151])) : Option (Nat × va_E)) := hO149
    replace hA153 : u147[11]? = (some (q 11, .inl (g 0, (220 : Int32).toNatClampNeg, .inl f152)) : Option (Nat × va_E)) := hA153
    replace hO154 : u147[22]? = (some (q 22, .inr (2, [.ref (q 23), .int y155, .int y156])) : Option (Nat × va_E)) := hO154
    replace hA158 : u147[23]? = (some (q 23, .inl (g 0, (220 : Int32).toNatClampNeg, .inl f157)) : Option (Nat × va_E)) := hA158
    replace hO159 : u147[12]? = (some (q 12, .inr (2, [.ref (q 13), .int y160, .int y161])) : Option (Nat × va_E)) := hO159
    replace hA163 : u147[13]? = (some (q 13, .inl (g 0, (220 : Int32).toNatClampNeg, .inl f162)) : Option (Nat × va_E)) := hA163
    obtain ⟨p181, e182⟩ : ∃ z, z = (F_Big_divideBy (220 : Int32) (220 : Int32) (220 : Int32) y72 y73 f74 y126 y127 f128 t3_0 t3_1 t4_0) := ⟨_, rfl⟩
    have e183 : y150 = p181.1 := congrArg (fun z => z.1) (hE179.trans e182.symm)
    have e184 : y151 = p181.2.1 := congrArg (fun z => z.2.1) (hE179.trans e182.symm)
    have e185 : f152 = p181.2.2.1 := congrArg (fun z => z.2.2.1) (hE179.trans e182.symm)
    have e186 : y155 = p181.2.2.2.1 := congrArg (fun z => z.2.2.2.1) (hE179.trans e182.symm)
    have e187 : y156 = p181.2.2.2.2.1 := congrArg (fun z => z.2.2.2.2.1) (hE179.trans e182.symm)
    have e188 : f157 = p181.2.2.2.2.2.1 := congrArg (fun z => z.2.2.2.2.2.1) (hE179.trans e182.symm)
    have e189 : y160 = p181.2.2.2.2.2.2.1 := congrArg (fun z => z.2.2.2.2.2.2.1) (hE179.trans e182.symm)
    have e190 : y161 = p181.2.2.2.2.2.2.2.1 := congrArg (fun z => z.2.2.2.2.2.2.2.1) (hE179.trans e182.symm)
    have e191 : f162 = p181.2.2.2.2.2.2.2.2 := congrArg (fun z => z.2.2.2.2.2.2.2.2) (hE179.trans e182.symm)
    replace b164 : q_F (0 ≤ y161.toInt) := b164
    replace b165 : q_F (y161.toInt ≤ 0) := b165
    replace b166 : q_F (y150.toInt ≤ 220) := b166
    replace b167 : q_F (y151.toInt ≤ y73.toInt) := b167
    replace b168 : q_F (y155.toInt ≤ y126.toInt + 218) := b168
    replace b169 : q_F (y155.toInt ≤ 220) := b169
    replace b170 : q_F (y156.toInt ≤ y127.toInt) := b170
    replace b171 : q_F (y160.toInt ≤ y126.toInt + 219) := b171
    replace b172 : q_F (y160.toInt ≤ 220 + 1) := b172
    replace b173 : q_F (y160.toInt ≤ 220) := b173
    replace b174 : q_F (y161.toInt ≤ y150.toInt) := b174
    replace b175 : q_F (y161.toInt ≤ y151.toInt) := b175
    replace b176 : q_F (y161.toInt ≤ y155.toInt) := b176
    replace b177 : q_F (y161.toInt ≤ y156.toInt) := b177
    replace b178 : q_F (y161.toInt ≤ y160.toInt) := b178
    replace hT0 := (hu180 _ (by decide)).trans hT0
    replace hT7 := (hu180 _ (by decide)).trans hT7
    replace hT8 := (hu180 _ (by decide)).trans hT8
    replace hT9 := (hu180 _ (by have z0 := zk2; simp only [List.mem_cons, List.not_mem_nil, or_false, not_or]; omega)).trans hT9
    replace hT10 := (hu180 _ (by have z0 := zk2; simp only [List.mem_cons, List.not_mem_nil, or_false, not_or]; omega)).trans hT10
    replace hT11 := (hu180 _ (by have z0 := zk2; simp only [List.mem_cons, List.not_mem_nil, or_false, not_or]; omega)).trans hT11
    replace hO68 := (hu180 _ (by decide)).trans hO68
    replace hF := q_uc hF hu180 (by simp)
    have hR192 := (show F_DW_rest_a_c125 R2 t0_0 t0_1 t1_0 t1_1 t2_0 t3_0 t3_1 t4_0 t5_0 t5_1 t6_0 t7_0 t7_1 t8_0 t9_0 t9_1 t10_0 t10_1 t11_0 a63 j53 p83 y72 y73 f74 p113 p136 p181 = (F_DW_rest_a R2 t0_0 t0_1 t1_0 t1_1 t2_0 t3_0 t3_1 t4_0 t5_0 t5_1 t6_0 t7_0 t7_1 t8_0 t9_0 t9_1 t10_0 t10_1 t11_0) from Eq.trans (by rw [e182, e140, e139, e138, F_DW_rest_a_c101.eq_1]) hR141)
    have hS193 := (show True ∧ S_DW_rest_a_c125 R2 t0_0 t0_1 t1_0 t1_1 t2_0 t3_0 t3_1 t4_0 t5_0 t5_1 t6_0 t7_0 t7_1 t8_0 t9_0 t9_1 t10_0 t10_1 t11_0 a63 j53 p83 y72 y73 f74 p113 p136 p181 from (by rw [e182, e140, e139, e138]; have h := hS142; rw [S_DW_rest_a_c101.eq_1] at h; replace h := q_s2 h; with_reducible exact h))
    exact q_retv C0 V (⟨hI, hF, j53, t0_1, y150, y151, f152, y160, y161, f162, y155, y156, f157, hT0, hO149, hA153, hO159, hA163, hO154, hA158, (show 0 ≤ y150.toInt from (by have t1 : 0 ≤ y161.toInt := b164; have t2 : y161.toInt ≤ y150.toInt := b174; omega)), (show y150.toInt ≤ 220 from (by have t1 : y150.toInt ≤ 220 := b166; omega)), (show 0 ≤ y151.toInt from (by have t1 : 0 ≤ y161.toInt := b164; have t2 : y161.toInt ≤ y151.toInt := b175; omega)), (show 0 ≤ y160.toInt from (by have t1 : 0 ≤ y161.toInt := b164; have t2 : y161.toInt ≤ y160.toInt := b178; omega)), (show y160.toInt ≤ 220 from (by have t1 : y160.toInt ≤ 220 := b173; omega)), (show 0 ≤ y161.toInt from (by have t1 : 0 ≤ y161.toInt := b164; omega)), (show 0 ≤ y155.toInt from (by have t1 : 0 ≤ y161.toInt := b164; have t2 : y161.toInt ≤ y155.toInt := b176; omega)), (show y155.toInt ≤ 220 from (by have t1 : y155.toInt ≤ 220 := b169; omega)), (show 0 ≤ y156.toInt from (by have t1 : 0 ≤ y161.toInt := b164; have t2 : y161.toInt ≤ y156.toInt := b177; omega)), (show t9_0.toInt ≤ j53.toInt from (by have t1 : t9_0.toInt ≤ a50.toInt ∧ t9_0.toInt ≤ a50.toInt ∧ (a50.toInt = t9_0.toInt ∨ a50.toInt = t9_0.toInt) := b52; have t2 : j53.toInt = a50.toInt := b55; omega)), (show j53.toInt ≤ t9_0.toInt from (by have t1 : t9_0.toInt ≤ a50.toInt ∧ t9_0.toInt ≤ a50.toInt ∧ (a50.toInt = t9_0.toInt ∨ a50.toInt = t9_0.toInt) := b52; have t2 : j53.toInt = a50.toInt := b55; omega)), (show t0_1.toInt ≤ t0_1.toInt from (by omega)), (show t0_1.toInt ≤ t0_1.toInt from (by omega)), (show y151.toInt ≤ t10_1.toInt from (by have t1 : y73.toInt ≤ t10_1.toInt := b80; have t2 : y151.toInt ≤ y73.toInt := b167; omega)), (show y161.toInt ≤ t3_1.toInt from (by have t1 : 0 ≤ t3_1.toInt ∧ t3_1.toInt ≤ 1 := btt3_1; have t2 : y161.toInt ≤ 0 := b165; omega)), (show y156.toInt ≤ y151.toInt + 1 from (by have t1 : 0 ≤ t10_1.toInt ∧ t10_1.toInt ≤ 1 := btt10_1; have t2 : y103.toInt ≤ t10_1.toInt := b110; have t3 : y127.toInt ≤ y103.toInt := b133; have t4 : 0 ≤ y161.toInt := b164; have t5 : y156.toInt ≤ y127.toInt := b170; have t6 : y161.toInt ≤ y151.toInt := b175; omega)), (show (j53, t0_1, y150, y151, f152, y160, y161, f162, y155, y156, f157) = (F_DW_rest_a R2 t0_0 t0_1 t1_0 t1_1 t2_0 t3_0 t3_1 t4_0 t5_0 t5_1 t6_0 t7_0 t7_1 t8_0 t9_0 t9_1 t10_0 t10_1 t11_0) from Eq.trans (by rw [e191, e190, e189, e188, e187, e186, e185, e184, e183, F_DW_rest_a_c125.eq_1]) hR192)⟩) d_4_7_128
