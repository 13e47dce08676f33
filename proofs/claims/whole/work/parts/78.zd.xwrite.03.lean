theorem d_12_10_0 : decode prog_12_method_10_code 0 = .ok (.aload_n 0, 1) := by decide +kernel
theorem d_12_10_1 : decode prog_12_method_10_code 1 = .ok (.aload_n 1, 1) := by decide +kernel
theorem d_12_10_2 : decode prog_12_method_10_code 2 = .ok (.lload_n 2, 1) := by decide +kernel
theorem d_12_10_3 : decode prog_12_method_10_code 3 = .ok (.invokevirtual 118, 3) := by decide +kernel
theorem d_12_10_6 : decode prog_12_method_10_code 6 = .ok (.invokevirtual 27, 3) := by decide +kernel
theorem d_12_10_9 : decode prog_12_method_10_code 9 = .ok (.aload_n 0, 1) := by decide +kernel
theorem d_12_10_10 : decode prog_12_method_10_code 10 = .ok (.getfield 17, 3) := by decide +kernel
theorem d_12_10_13 : decode prog_12_method_10_code 13 = .ok (.aload_n 0, 1) := by decide +kernel
theorem d_12_10_14 : decode prog_12_method_10_code 14 = .ok (.getfield 13, 3) := by decide +kernel
theorem d_12_10_17 : decode prog_12_method_10_code 17 = .ok (.getfield 39, 3) := by decide +kernel
theorem d_12_10_20 : decode prog_12_method_10_code 20 = .ok (.aload_n 1, 1) := by decide +kernel
theorem d_12_10_21 : decode prog_12_method_10_code 21 = .ok (.lload_n 2, 1) := by decide +kernel
theorem d_12_10_22 : decode prog_12_method_10_code 22 = .ok (.invokevirtual 192, 3) := by decide +kernel
set_option maxRecDepth 100000 in
theorem w_1651 : (Cond.methodLink "NumberHouse$Writer" (192 : Nat) ({ cls := "NumberHouse$Floats", name := "exactly", desc := "(J)I" } : MethodName)) ∈ q_tbl := q_of7 211 rfl (by decide +kernel)
set_option maxRecDepth 100000 in
theorem w_1513 : (Cond.instanceMethod ({ cls := "NumberHouse$Floats", name := "exactly", desc := "(J)I" } : MethodName)) ∈ q_tbl := q_of7 73 rfl (by decide +kernel)
set_option maxRecDepth 100000 in
theorem w_1514 : (Cond.selects "NumberHouse$Floats" ({ cls := "NumberHouse$Floats", name := "exactly", desc := "(J)I" } : MethodName) ({ cls := "NumberHouse$Floats", name := "exactly", desc := "(J)I" } : MethodName)) ∈ q_tbl := q_of7 74 rfl (by decide +kernel)
set_option maxRecDepth 100000 in
theorem w_1515 : (Cond.code ({ cls := "NumberHouse$Floats", name := "exactly", desc := "(J)I" } : MethodName) prog_7_method_15_code (7 : Nat) (some .int)) ∈ q_tbl := q_of7 75 rfl (by decide +kernel)
theorem LV_Wri_192 : q_LV "NumberHouse$Writer" 192 y_Flo_exactly prog_7_method_15_code 7 (some .int) 1 := ⟨w_1515, w_8, w_1651, w_1513, w_1514, ⟨by decide, by decide, by decide +kernel⟩⟩
theorem d_12_10_25 : decode prog_12_method_10_code 25 = .ok (.invokevirtual 75, 3) := by decide +kernel
theorem d_12_10_28 : decode prog_12_method_10_code 28 = .ok (.aload_n 0, 1) := by decide +kernel
theorem d_12_10_29 : decode prog_12_method_10_code 29 = .ok (.getfield 17, 3) := by decide +kernel
theorem d_12_10_32 : decode prog_12_method_10_code 32 = .ok (.iload 4, 2) := by decide +kernel
theorem d_12_10_54 : decode prog_12_method_10_code 54 = .ok (.iload 6, 2) := by decide +kernel
theorem d_12_10_56 : decode prog_12_method_10_code 56 = .ok (.invokevirtual 195, 3) := by decide +kernel
set_option maxRecDepth 100000 in
theorem w_1652 : (Cond.methodLink "NumberHouse$Writer" (195 : Nat) ({ cls := "NumberHouse$Digits", name := "round", desc := "(II)V" } : MethodName)) ∈ q_tbl := q_of7 212 rfl (by decide +kernel)
theorem LV_Wri_195 : q_LV "NumberHouse$Writer" 195 y_Dig_round prog_5_method_6_code 4 none 2 := ⟨w_1655, w_9, w_1652, w_1653, w_1654, ⟨by decide, by decide, by decide +kernel⟩⟩
theorem d_12_10_59 : decode prog_12_method_10_code 59 = .ok (.iload 4, 2) := by decide +kernel
theorem d_12_10_61 : decode prog_12_method_10_code 61 = .ok (.ifCond .eq 20, 3) := by decide +kernel
theorem d_12_10_81 : decode prog_12_method_10_code 81 = .ok (.aload_n 0, 1) := by decide +kernel
theorem d_12_10_82 : decode prog_12_method_10_code 82 = .ok (.getfield 17, 3) := by decide +kernel
theorem d_12_10_85 : decode prog_12_method_10_code 85 = .ok (.aload_n 0, 1) := by decide +kernel
theorem d_12_10_86 : decode prog_12_method_10_code 86 = .ok (.getfield 7, 3) := by decide +kernel
theorem d_12_10_89 : decode prog_12_method_10_code 89 = .ok (.iload 5, 2) := by decide +kernel
theorem d_12_10_91 : decode prog_12_method_10_code 91 = .ok (.iconst 0, 1) := by decide +kernel
theorem d_12_10_92 : decode prog_12_method_10_code 92 = .ok (.iconst 0, 1) := by decide +kernel
theorem d_12_10_93 : decode prog_12_method_10_code 93 = .ok (.invokevirtual 90, 3) := by decide +kernel
theorem d_12_10_96 : decode prog_12_method_10_code 96 = .ok (.return_, 1) := by decide +kernel
theorem d_12_10_64 : decode prog_12_method_10_code 64 = .ok (.aload_n 0, 1) := by decide +kernel
theorem d_12_10_65 : decode prog_12_method_10_code 65 = .ok (.getfield 17, 3) := by decide +kernel
theorem d_12_10_68 : decode prog_12_method_10_code 68 = .ok (.aload_n 0, 1) := by decide +kernel
theorem d_12_10_69 : decode prog_12_method_10_code 69 = .ok (.getfield 7, 3) := by decide +kernel
theorem d_12_10_72 : decode prog_12_method_10_code 72 = .ok (.iload 5, 2) := by decide +kernel
theorem d_12_10_74 : decode prog_12_method_10_code 74 = .ok (.iconst 0, 1) := by decide +kernel
theorem d_12_10_75 : decode prog_12_method_10_code 75 = .ok (.invokevirtual 198, 3) := by decide +kernel
set_option maxRecDepth 100000 in
theorem w_1664 : (Cond.methodLink "NumberHouse$Writer" (198 : Nat) ({ cls := "NumberHouse$Digits", name := "writeScience", desc := "(LNumberHouse$Sheet;IZ)V" } : MethodName)) ∈ q_tbl := q_of7 224 rfl (by decide +kernel)
theorem LV_Wri_198 : q_LV "NumberHouse$Writer" 198 y_Dig_writeScience prog_5_method_10_code 4 none 3 := ⟨w_1667, w_9, w_1664, w_1665, w_1666, ⟨by decide, by decide, by decide +kernel⟩⟩
theorem d_12_10_78 : decode prog_12_method_10_code 78 = .ok (.goto 18, 3) := by decide +kernel
theorem d_12_10_34 : decode prog_12_method_10_code 34 = .ok (.ifCond .eq 8, 3) := by decide +kernel
theorem d_12_10_42 : decode prog_12_method_10_code 42 = .ok (.aload_n 0, 1) := by decide +kernel
theorem d_12_10_43 : decode prog_12_method_10_code 43 = .ok (.getfield 17, 3) := by decide +kernel
theorem d_12_10_46 : decode prog_12_method_10_code 46 = .ok (.getfield 167, 3) := by decide +kernel
theorem d_12_10_49 : decode prog_12_method_10_code 49 = .ok (.iconst 1, 1) := by decide +kernel
theorem d_12_10_50 : decode prog_12_method_10_code 50 = .ok (.iadd, 1) := by decide +kernel
theorem d_12_10_51 : decode prog_12_method_10_code 51 = .ok (.iload 5, 2) := by decide +kernel
theorem d_12_10_53 : decode prog_12_method_10_code 53 = .ok (.iadd, 1) := by decide +kernel
theorem d_12_10_37 : decode prog_12_method_10_code 37 = .ok (.iload 5, 2) := by decide +kernel
theorem d_12_10_39 : decode prog_12_method_10_code 39 = .ok (.goto 15, 3) := by decide +kernel
def y_Wri_exactText : MethodName := ⟨"NumberHouse$Writer", "exactText", "(LNumberHouse$Floats;JZII)V"⟩
def F_Wri_exactText_c93 (A : Int32) (B : Int32) (C : Int32) (x3 : Int64) (x4 : Int32) (x5 : Int32) (x6 : Int32) (t0_0 : Int32) (t1_0 : (Nat → Int64)) (t2_0 : Int32) (t2_1 : Int32) (t3_0 : (Nat → Int32)) (t4_0 : Int32) (t4_1 : Int32) (t5_0 : (Nat → Int32)) (t6_0 : Int64) (t6_1 : Int32) (t6_2 : Int32) (p44 : (Int32 × (Nat → Int64))) (y37 : Int32) (f38 : (Nat → Int64)) (p69 : (Int32 × Int32 × Int32 × (Nat → Int32))) (p104 : (Int32 × Int32 × (Nat → Int32) × Int32 × Int32 × (Nat → Int32))) (y84 : Int32) (y85 : Int32) (f86 : (Nat → Int32)) (y89 : Int32) (y90 : Int32) (f91 : (Nat → Int32)) (lx117 : Int32) (p159 : (Int32 × Int32 × (Nat → Int32))) (y144 : Int32) (y145 : Int32) (f146 : (Nat → Int32)) (p186 : (Int32 × (Nat → Int64))) : Int32 × (Nat → Int64) × Int32 × Int32 × (Nat → Int32) × Int32 × Int32 × (Nat → Int32) := ((p186.1 : Int32), (p186.2 : (Nat → Int64)), y144, y145, f146, y89, y90, f91)
def F_Wri_exactText_c75 (A : Int32) (B : Int32) (C : Int32) (x3 : Int64) (x4 : Int32) (x5 : Int32) (x6 : Int32) (t0_0 : Int32) (t1_0 : (Nat → Int64)) (t2_0 : Int32) (t2_1 : Int32) (t3_0 : (Nat → Int32)) (t4_0 : Int32) (t4_1 : Int32) (t5_0 : (Nat → Int32)) (t6_0 : Int64) (t6_1 : Int32) (t6_2 : Int32) (p44 : (Int32 × (Nat → Int64))) (y37 : Int32) (f38 : (Nat → Int64)) (p69 : (Int32 × Int32 × Int32 × (Nat → Int32))) (p104 : (Int32 × Int32 × (Nat → Int32) × Int32 × Int32 × (Nat → Int32))) (y84 : Int32) (y85 : Int32) (f86 : (Nat → Int32)) (y89 : Int32) (y90 : Int32) (f91 : (Nat → Int32)) (lx117 : Int32) (p159 : (Int32 × Int32 × (Nat → Int32))) (y144 : Int32) (y145 : Int32) (f146 : (Nat → Int32)) (p208 : (Int32 × (Nat → Int64))) : Int32 × (Nat → Int64) × Int32 × Int32 × (Nat → Int32) × Int32 × Int32 × (Nat → Int32) := ((p208.1 : Int32), (p208.2 : (Nat → Int64)), y144, y145, f146, y89, y90, f91)
def F_Wri_exactText_c56 (A : Int32) (B : Int32) (C : Int32) (x3 : Int64) (x4 : Int32) (x5 : Int32) (x6 : Int32) (t0_0 : Int32) (t1_0 : (Nat → Int64)) (t2_0 : Int32) (t2_1 : Int32) (t3_0 : (Nat → Int32)) (t4_0 : Int32) (t4_1 : Int32) (t5_0 : (Nat → Int32)) (t6_0 : Int64) (t6_1 : Int32) (t6_2 : Int32) (p44 : (Int32 × (Nat → Int64))) (y37 : Int32) (f38 : (Nat → Int64)) (p69 : (Int32 × Int32 × Int32 × (Nat → Int32))) (p104 : (Int32 × Int32 × (Nat → Int32) × Int32 × Int32 × (Nat → Int32))) (y84 : Int32) (y85 : Int32) (f86 : (Nat → Int32)) (y89 : Int32) (y90 : Int32) (f91 : (Nat → Int32)) (lx117 : Int32) (p159 : (Int32 × Int32 × (Nat → Int32))) : Int32 × (Nat → Int64) × Int32 × Int32 × (Nat → Int32) × Int32 × Int32 × (Nat → Int32) := if x4 = (0 : Int32) then (F_Wri_exactText_c93 A B C x3 x4 x5 x6 t0_0 t1_0 t2_0 t2_1 t3_0 t4_0 t4_1 t5_0 t6_0 t6_1 t6_2 p44 y37 f38 p69 p104 y84 y85 f86 y89 y90 f91 lx117 p159 (p159.1 : Int32) (p159.2.1 : Int32) (p159.2.2 : (Nat → Int32)) ((F_Dig_writePlain (11008 : Int32) (1376 : Int32) (1000000 : Int32) x5 (0 : Int32) (0 : Int32) (p159.1 : Int32) (p159.2.1 : Int32) (p159.2.2 : (Nat → Int32)) y37 f38) : (Int32 × (Nat → Int64)))) else (F_Wri_exactText_c75 A B C x3 x4 x5 x6 t0_0 t1_0 t2_0 t2_1 t3_0 t4_0 t4_1 t5_0 t6_0 t6_1 t6_2 p44 y37 f38 p69 p104 y84 y85 f86 y89 y90 f91 lx117 p159 (p159.1 : Int32) (p159.2.1 : Int32) (p159.2.2 : (Nat → Int32)) ((F_Dig_writeScience (11008 : Int32) (1376 : Int32) (1000000 : Int32) x5 (0 : Int32) (p159.1 : Int32) (p159.2.1 : Int32) (p159.2.2 : (Nat → Int32)) y37 f38) : (Int32 × (Nat → Int64))))
def F_Wri_exactText_J54 (A : Int32) (B : Int32) (C : Int32) (x3 : Int64) (x4 : Int32) (x5 : Int32) (x6 : Int32) (t0_0 : Int32) (t1_0 : (Nat → Int64)) (t2_0 : Int32) (t2_1 : Int32) (t3_0 : (Nat → Int32)) (t4_0 : Int32) (t4_1 : Int32) (t5_0 : (Nat → Int32)) (t6_0 : Int64) (t6_1 : Int32) (t6_2 : Int32) (p44 : (Int32 × (Nat → Int64))) (y37 : Int32) (f38 : (Nat → Int64)) (p69 : (Int32 × Int32 × Int32 × (Nat → Int32))) (p104 : (Int32 × Int32 × (Nat → Int32) × Int32 × Int32 × (Nat → Int32))) (y84 : Int32) (y85 : Int32) (f86 : (Nat → Int32)) (y89 : Int32) (y90 : Int32) (f91 : (Nat → Int32)) (lx117 : Int32) : Int32 × (Nat → Int64) × Int32 × Int32 × (Nat → Int32) × Int32 × Int32 × (Nat → Int32) := F_Wri_exactText_c56 A B C x3 x4 x5 x6 t0_0 t1_0 t2_0 t2_1 t3_0 t4_0 t4_1 t5_0 t6_0 t6_1 t6_2 p44 y37 f38 p69 p104 y84 y85 f86 y89 y90 f91 lx117 ((F_Dig_round lx117 x6 y84 y85 f86) : (Int32 × Int32 × (Nat → Int32)))
def F_Wri_exactText_c25 (A : Int32) (B : Int32) (C : Int32) (x3 : Int64) (x4 : Int32) (x5 : Int32) (x6 : Int32) (t0_0 : Int32) (t1_0 : (Nat → Int64)) (t2_0 : Int32) (t2_1 : Int32) (t3_0 : (Nat → Int32)) (t4_0 : Int32) (t4_1 : Int32) (t5_0 : (Nat → Int32)) (t6_0 : Int64) (t6_1 : Int32) (t6_2 : Int32) (p44 : (Int32 × (Nat → Int64))) (y37 : Int32) (f38 : (Nat → Int64)) (p69 : (Int32 × Int32 × Int32 × (Nat → Int32))) (p104 : (Int32 × Int32 × (Nat → Int32) × Int32 × Int32 × (Nat → Int32))) : Int32 × (Nat → Int64) × Int32 × Int32 × (Nat → Int32) × Int32 × Int32 × (Nat → Int32) := if x4 = (0 : Int32) then (F_Wri_exactText_J54 A B C x3 x4 x5 x6 t0_0 t1_0 t2_0 t2_1 t3_0 t4_0 t4_1 t5_0 t6_0 t6_1 t6_2 p44 y37 f38 p69 p104 (p104.1 : Int32) (p104.2.1 : Int32) (p104.2.2.1 : (Nat → Int32)) (p104.2.2.2.1 : Int32) (p104.2.2.2.2.1 : Int32) (p104.2.2.2.2.2 : (Nat → Int32)) (((p104.2.1 : Int32) + 1 : Int32) + x5 : Int32)) else (F_Wri_exactText_J54 A B C x3 x4 x5 x6 t0_0 t1_0 t2_0 t2_1 t3_0 t4_0 t4_1 t5_0 t6_0 t6_1 t6_2 p44 y37 f38 p69 p104 (p104.1 : Int32) (p104.2.1 : Int32) (p104.2.2.1 : (Nat → Int32)) (p104.2.2.2.1 : Int32) (p104.2.2.2.2.1 : Int32) (p104.2.2.2.2.2 : (Nat → Int32)) x5)
def F_Wri_exactText_c22 (A : Int32) (B : Int32) (C : Int32) (x3 : Int64) (x4 : Int32) (x5 : Int32) (x6 : Int32) (t0_0 : Int32) (t1_0 : (Nat → Int64)) (t2_0 : Int32) (t2_1 : Int32) (t3_0 : (Nat → Int32)) (t4_0 : Int32) (t4_1 : Int32) (t5_0 : (Nat → Int32)) (t6_0 : Int64) (t6_1 : Int32) (t6_2 : Int32) (p44 : (Int32 × (Nat → Int64))) (y37 : Int32) (f38 : (Nat → Int64)) (p69 : (Int32 × Int32 × Int32 × (Nat → Int32))) : Int32 × (Nat → Int64) × Int32 × Int32 × (Nat → Int32) × Int32 × Int32 × (Nat → Int32) := F_Wri_exactText_c25 A B C x3 x4 x5 x6 t0_0 t1_0 t2_0 t2_1 t3_0 t4_0 t4_1 t5_0 t6_0 t6_1 t6_2 p44 y37 f38 p69 ((F_Dig_fill (220 : Int32) (p69.1 : Int32) t2_0 t2_1 t3_0 (p69.2.1 : Int32) (p69.2.2.1 : Int32) (p69.2.2.2 : (Nat → Int32))) : (Int32 × Int32 × (Nat → Int32) × Int32 × Int32 × (Nat → Int32)))
def F_Wri_exactText_c6 (A : Int32) (B : Int32) (C : Int32) (x3 : Int64) (x4 : Int32) (x5 : Int32) (x6 : Int32) (t0_0 : Int32) (t1_0 : (Nat → Int64)) (t2_0 : Int32) (t2_1 : Int32) (t3_0 : (Nat → Int32)) (t4_0 : Int32) (t4_1 : Int32) (t5_0 : (Nat → Int32)) (t6_0 : Int64) (t6_1 : Int32) (t6_2 : Int32) (p44 : (Int32 × (Nat → Int64))) : Int32 × (Nat → Int64) × Int32 × Int32 × (Nat → Int32) × Int32 × Int32 × (Nat → Int32) := F_Wri_exactText_c22 A B C x3 x4 x5 x6 t0_0 t1_0 t2_0 t2_1 t3_0 t4_0 t4_1 t5_0 t6_0 t6_1 t6_2 p44 (p44.1 : Int32) (p44.2 : (Nat → Int64)) ((F_Flo_exactly A B C x3 t4_0 t4_1 t5_0) : (Int32 × Int32 × Int32 × (Nat → Int32)))
def F_Wri_exactText (A : Int32) (B : Int32) (C : Int32) (x3 : Int64) (x4 : Int32) (x5 : Int32) (x6 : Int32) (t0_0 : Int32) (t1_0 : (Nat → Int64)) (t2_0 : Int32) (t2_1 : Int32) (t3_0 : (Nat → Int32)) (t4_0 : Int32) (t4_1 : Int32) (t5_0 : (Nat → Int32)) (t6_0 : Int64) (t6_1 : Int32) (t6_2 : Int32) : Int32 × (Nat → Int64) × Int32 × Int32 × (Nat → Int32) × Int32 × Int32 × (Nat → Int32) := F_Wri_exactText_c6 A B C x3 x4 x5 x6 t0_0 t1_0 t2_0 t2_1 t3_0 t4_0 t4_1 t5_0 t6_0 t6_1 t6_2 ((F_Wri_begin_p ((F_Flo_isNegative A B C x3) : Int32) t0_0 t1_0) : (Int32 × (Nat → Int64)))
def S_Wri_exactText_c93 (A : Int32) (B : Int32) (C : Int32) (x3 : Int64) (x4 : Int32) (x5 : Int32) (x6 : Int32) (t0_0 : Int32) (t1_0 : (Nat → Int64)) (t2_0 : Int32) (t2_1 : Int32) (t3_0 : (Nat → Int32)) (t4_0 : Int32) (t4_1 : Int32) (t5_0 : (Nat → Int32)) (t6_0 : Int64) (t6_1 : Int32) (t6_2 : Int32) (p44 : (Int32 × (Nat → Int64))) (y37 : Int32) (f38 : (Nat → Int64)) (p69 : (Int32 × Int32 × Int32 × (Nat → Int32))) (p104 : (Int32 × Int32 × (Nat → Int32) × Int32 × Int32 × (Nat → Int32))) (y84 : Int32) (y85 : Int32) (f86 : (Nat → Int32)) (y89 : Int32) (y90 : Int32) (f91 : (Nat → Int32)) (lx117 : Int32) (p159 : (Int32 × Int32 × (Nat → Int32))) (y144 : Int32) (y145 : Int32) (f146 : (Nat → Int32)) (p186 : (Int32 × (Nat → Int64))) : Prop := True
def S_Wri_exactText_c75 (A : Int32) (B : Int32) (C : Int32) (x3 : Int64) (x4 : Int32) (x5 : Int32) (x6 : Int32) (t0_0 : Int32) (t1_0 : (Nat → Int64)) (t2_0 : Int32) (t2_1 : Int32) (t3_0 : (Nat → Int32)) (t4_0 : Int32) (t4_1 : Int32) (t5_0 : (Nat → Int32)) (t6_0 : Int64) (t6_1 : Int32) (t6_2 : Int32) (p44 : (Int32 × (Nat → Int64))) (y37 : Int32) (f38 : (Nat → Int64)) (p69 : (Int32 × Int32 × Int32 × (Nat → Int32))) (p104 : (Int32 × Int32 × (Nat → Int32) × Int32 × Int32 × (Nat → Int32))) (y84 : Int32) (y85 : Int32) (f86 : (Nat → Int32)) (y89 : Int32) (y90 : Int32) (f91 : (Nat → Int32)) (lx117 : Int32) (p159 : (Int32 × Int32 × (Nat → Int32))) (y144 : Int32) (y145 : Int32) (f146 : (Nat → Int32)) (p208 : (Int32 × (Nat → Int64))) : Prop := True
def S_Wri_exactText_c56 (A : Int32) (B : Int32) (C : Int32) (x3 : Int64) (x4 : Int32) (x5 : Int32) (x6 : Int32) (t0_0 : Int32) (t1_0 : (Nat → Int64)) (t2_0 : Int32) (t2_1 : Int32) (t3_0 : (Nat → Int32)) (t4_0 : Int32) (t4_1 : Int32) (t5_0 : (Nat → Int32)) (t6_0 : Int64) (t6_1 : Int32) (t6_2 : Int32) (p44 : (Int32 × (Nat → Int64))) (y37 : Int32) (f38 : (Nat → Int64)) (p69 : (Int32 × Int32 × Int32 × (Nat → Int32))) (p104 : (Int32 × Int32 × (Nat → Int32) × Int32 × Int32 × (Nat → Int32))) (y84 : Int32) (y85 : Int32) (f86 : (Nat → Int32)) (y89 : Int32) (y90 : Int32) (f91 : (Nat → Int32)) (lx117 : Int32) (p159 : (Int32 × Int32 × (Nat → Int32))) : Prop := if x4 = (0 : Int32) then (((p159.2.1 : Int32).toInt ≤ 200000) ∧ (S_Wri_exactText_c93 A B C x3 x4 x5 x6 t0_0 t1_0 t2_0 t2_1 t3_0 t4_0 t4_1 t5_0 t6_0 t6_1 t6_2 p44 y37 f38 p69 p104 y84 y85 f86 y89 y90 f91 lx117 p159 (p159.1 : Int32) (p159.2.1 : Int32) (p159.2.2 : (Nat → Int32)) ((F_Dig_writePlain (11008 : Int32) (1376 : Int32) (1000000 : Int32) x5 (0 : Int32) (0 : Int32) (p159.1 : Int32) (p159.2.1 : Int32) (p159.2.2 : (Nat → Int32)) y37 f38) : (Int32 × (Nat → Int64))))) else (S_Wri_exactText_c75 A B C x3 x4 x5 x6 t0_0 t1_0 t2_0 t2_1 t3_0 t4_0 t4_1 t5_0 t6_0 t6_1 t6_2 p44 y37 f38 p69 p104 y84 y85 f86 y89 y90 f91 lx117 p159 (p159.1 : Int32) (p159.2.1 : Int32) (p159.2.2 : (Nat → Int32)) ((F_Dig_writeScience (11008 : Int32) (1376 : Int32) (1000000 : Int32) x5 (0 : Int32) (p159.1 : Int32) (p159.2.1 : Int32) (p159.2.2 : (Nat → Int32)) y37 f38) : (Int32 × (Nat → Int64))))
def S_Wri_exactText_J54 (A : Int32) (B : Int32) (C : Int32) (x3 : Int64) (x4 : Int32) (x5 : Int32) (x6 : Int32) (t0_0 : Int32) (t1_0 : (Nat → Int64)) (t2_0 : Int32) (t2_1 : Int32) (t3_0 : (Nat → Int32)) (t4_0 : Int32) (t4_1 : Int32) (t5_0 : (Nat → Int32)) (t6_0 : Int64) (t6_1 : Int32) (t6_2 : Int32) (p44 : (Int32 × (Nat → Int64))) (y37 : Int32) (f38 : (Nat → Int64)) (p69 : (Int32 × Int32 × Int32 × (Nat → Int32))) (p104 : (Int32 × Int32 × (Nat → Int32) × Int32 × Int32 × (Nat → Int32))) (y84 : Int32) (y85 : Int32) (f86 : (Nat → Int32)) (y89 : Int32) (y90 : Int32) (f91 : (Nat → Int32)) (lx117 : Int32) : Prop := (0 ≤ lx117.toInt + 100000) ∧ ((lx117.toInt ≤ 100000) ∧ ((0 ≤ y85.toInt + 200000) ∧ ((y85.toInt ≤ 200000) ∧ (S_Wri_exactText_c56 A B C x3 x4 x5 x6 t0_0 t1_0 t2_0 t2_1 t3_0 t4_0 t4_1 t5_0 t6_0 t6_1 t6_2 p44 y37 f38 p69 p104 y84 y85 f86 y89 y90 f91 lx117 ((F_Dig_round lx117 x6 y84 y85 f86) : (Int32 × Int32 × (Nat → Int32)))))))
def S_Wri_exactText_c25 (A : Int32) (B : Int32) (C : Int32) (x3 : Int64) (x4 : Int32) (x5 : Int32) (x6 : Int32) (t0_0 : Int32) (t1_0 : (Nat → Int64)) (t2_0 : Int32) (t2_1 : Int32) (t3_0 : (Nat → Int32)) (t4_0 : Int32) (t4_1 : Int32) (t5_0 : (Nat → Int32)) (t6_0 : Int64) (t6_1 : Int32) (t6_2 : Int32) (p44 : (Int32 × (Nat → Int64))) (y37 : Int32) (f38 : (Nat → Int64)) (p69 : (Int32 × Int32 × Int32 × (Nat → Int32))) (p104 : (Int32 × Int32 × (Nat → Int32) × Int32 × Int32 × (Nat → Int32))) : Prop := if x4 = (0 : Int32) then (S_Wri_exactText_J54 A B C x3 x4 x5 x6 t0_0 t1_0 t2_0 t2_1 t3_0 t4_0 t4_1 t5_0 t6_0 t6_1 t6_2 p44 y37 f38 p69 p104 (p104.1 : Int32) (p104.2.1 : Int32) (p104.2.2.1 : (Nat → Int32)) (p104.2.2.2.1 : Int32) (p104.2.2.2.2.1 : Int32) (p104.2.2.2.2.2 : (Nat → Int32)) (((p104.2.1 : Int32) + 1 : Int32) + x5 : Int32)) else (S_Wri_exactText_J54 A B C x3 x4 x5 x6 t0_0 t1_0 t2_0 t2_1 t3_0 t4_0 t4_1 t5_0 t6_0 t6_1 t6_2 p44 y37 f38 p69 p104 (p104.1 : Int32) (p104.2.1 : Int32) (p104.2.2.1 : (Nat → Int32)) (p104.2.2.2.1 : Int32) (p104.2.2.2.2.1 : Int32) (p104.2.2.2.2.2 : (Nat → Int32)) x5)
def S_Wri_exactText_c22 (A : Int32) (B : Int32) (C : Int32) (x3 : Int64) (x4 : Int32) (x5 : Int32) (x6 : Int32) (t0_0 : Int32) (t1_0 : (Nat → Int64)) (t2_0 : Int32) (t2_1 : Int32) (t3_0 : (Nat → Int32)) (t4_0 : Int32) (t4_1 : Int32) (t5_0 : (Nat → Int32)) (t6_0 : Int64) (t6_1 : Int32) (t6_2 : Int32) (p44 : (Int32 × (Nat → Int64))) (y37 : Int32) (f38 : (Nat → Int64)) (p69 : (Int32 × Int32 × Int32 × (Nat → Int32))) : Prop := (True ∧ S_Dig_fill (220 : Int32) (p69.1 : Int32) t2_0 t2_1 t3_0 (p69.2.1 : Int32) (p69.2.2.1 : Int32) (p69.2.2.2 : (Nat → Int32))) ∧ (S_Wri_exactText_c25 A B C x3 x4 x5 x6 t0_0 t1_0 t2_0 t2_1 t3_0 t4_0 t4_1 t5_0 t6_0 t6_1 t6_2 p44 y37 f38 p69 ((F_Dig_fill (220 : Int32) (p69.1 : Int32) t2_0 t2_1 t3_0 (p69.2.1 : Int32) (p69.2.2.1 : Int32) (p69.2.2.2 : (Nat → Int32))) : (Int32 × Int32 × (Nat → Int32) × Int32 × Int32 × (Nat → Int32))))
def S_Wri_exactText_c6 (A : Int32) (B : Int32) (C : Int32) (x3 : Int64) (x4 : Int32) (x5 : Int32) (x6 : Int32) (t0_0 : Int32) (t1_0 : (Nat → Int64)) (t2_0 : Int32) (t2_1 : Int32) (t3_0 : (Nat → Int32)) (t4_0 : Int32) (t4_1 : Int32) (t5_0 : (Nat → Int32)) (t6_0 : Int64) (t6_1 : Int32) (t6_2 : Int32) (p44 : (Int32 × (Nat → Int64))) : Prop := S_Wri_exactText_c22 A B C x3 x4 x5 x6 t0_0 t1_0 t2_0 t2_1 t3_0 t4_0 t4_1 t5_0 t6_0 t6_1 t6_2 p44 (p44.1 : Int32) (p44.2 : (Nat → Int64)) ((F_Flo_exactly A B C x3 t4_0 t4_1 t5_0) : (Int32 × Int32 × Int32 × (Nat → Int32)))
def S_Wri_exactText (A : Int32) (B : Int32) (C : Int32) (x3 : Int64) (x4 : Int32) (x5 : Int32) (x6 : Int32) (t0_0 : Int32) (t1_0 : (Nat → Int64)) (t2_0 : Int32) (t2_1 : Int32) (t3_0 : (Nat → Int32)) (t4_0 : Int32) (t4_1 : Int32) (t5_0 : (Nat → Int32)) (t6_0 : Int64) (t6_1 : Int32) (t6_2 : Int32) : Prop := S_Wri_exactText_c6 A B C x3 x4 x5 x6 t0_0 t1_0 t2_0 t2_1 t3_0 t4_0 t4_1 t5_0 t6_0 t6_1 t6_2 ((F_Wri_begin_p ((F_Flo_isNegative A B C x3) : Int32) t0_0 t1_0) : (Int32 × (Nat → Int64)))
set_option maxRecDepth 100000 in
set_option maxHeartbeats 4000000 in
theorem X_Wri_exactText (l : Launch) (D : va_G) (g : Nat → ClassId) (q : Nat → Nat) (ws : va_W) (k2 : Nat) (A B C : Int32) (hB2 : q_isFlo (nsh g q) q k2 A B C) (x3 : Int64) (x4 : Int32) (x5 : Int32) (x6 : Int32) (hI : q_I (nsh g q) q ws) (t0_0 : Int32) (hT0 : ws[3]? = (some (q 3, .inr (1, [.ref (q 4), .int 11008, .int t0_0])) : Option (Nat × va_E))) (t1_0 : (Nat → Int64)) (hT1 : ws[4]? = (some (q 4, .inl (g 1, (1376 : Int32).toNatClampNeg, .inr (.inl t1_0))) : Option (Nat × va_E))) (t2_0 : Int32) (t2_1 : Int32) (hT2 : ws[36]? = (some (q 36, .inr (7, [.int t2_0, .int t2_1, .ref (q 37)])) : Option (Nat × va_E))) (t3_0 : (Nat → Int32)) (hT3 : ws[37]? = (some (q 37, .inl (g 2, 1026, .inl t3_0)) : Option (Nat × va_E))) (t4_0 : Int32) (t4_1 : Int32) (hT4 : ws[10]? = (some (q 10, .inr (2, [.ref (q 11), .int t4_0, .int t4_1])) : Option (Nat × va_E))) (t5_0 : (Nat → Int32)) (hT5 : ws[11]? = (some (q 11, .inl (g 0, (220 : Int32).toNatClampNeg, .inl t5_0)) : Option (Nat × va_E))) (t6_0 : Int64) (t6_1 : Int32) (t6_2 : Int32) (hT6 : ws[k2]? = (some (q k2, .inr (6, [.int A, .int B, .int C, .long t6_0, .int t6_1, .ref (q 9), .int t6_2])) : Option (Nat × va_E))) (hzx4 : 0 ≤ x4.toInt ∧ x4.toInt ≤ 1) (pre0 : 0 ≤ x5.toInt) (pre1 : x5.toInt ≤ 1100) (hS : True ∧ S_Wri_exactText A B C x3 x4 x5 x6 t0_0 t1_0 t2_0 t2_1 t3_0 t4_0 t4_1 t5_0 t6_0 t6_1 t6_2) : q_mV l y_Wri_exactText prog_12_method_10_code 7 5 0 0 D g [.ref (q 39), .ref (q k2), .long x3, .int x4, .int x5, .int x6] ws (fun u => q_I (nsh g q) q u ∧ q_un ws u [3, 4, 10, 11, 36, 37] ∧ ∃ (u0_0 : Int32) (u1_0 : (Nat → Int64)) (u2_0 : Int32) (u2_1 : Int32) (u3_0 : (Nat → Int32)) (u4_0 : Int32) (u4_1 : Int32) (u5_0 : (Nat → Int32)), u[3]? = (some (q 3, .inr (1, [.ref (q 4), .int 11008, .int u0_0])) : Option (Nat × va_E)) ∧ u[4]? = (some (q 4, .inl (g 1, (1376 : Int32).toNatClampNeg, .inr (.inl u1_0))) : Option (Nat × va_E)) ∧ u[36]? = (some (q 36, .inr (7, [.int u2_0, .int u2_1, .ref (q 37)])) : Option (Nat × va_E)) ∧ u[37]? = (some (q 37, .inl (g 2, 1026, .inl u3_0)) : Option (Nat × va_E)) ∧ u[10]? = (some (q 10, .inr (2, [.ref (q 11), .int u4_0, .int u4_1])) : Option (Nat × va_E)) ∧ u[11]? = (some (q 11, .inl (g 0, (220 : Int32).toNatClampNeg, .inl u5_0)) : Option (Nat × va_E)) ∧ (u0_0.toInt ≤ 420004) ∧ (0 ≤ u2_0.toInt) ∧ (u2_0.toInt ≤ 1026) ∧ (0 ≤ u2_1.toInt + 200000) ∧ (0 ≤ u4_0.toInt) ∧ (u4_0.toInt ≤ 220) ∧ (0 ≤ u4_1.toInt) ∧ (u4_1.toInt ≤ 1) ∧ (x4.toInt + 1 ≤ u0_0.toInt) ∧ (x5.toInt + 1 ≤ u0_0.toInt) ∧ (u2_1.toInt ≤ x4.toInt + 300000) ∧ (u2_1.toInt ≤ u0_0.toInt + 299998) ∧ (u2_1.toInt ≤ u2_0.toInt + 300000) ∧ (u0_0, u1_0, u2_0, u2_1, u3_0, u4_0, u4_1, u5_0) = (F_Wri_exactText A B C x3 x4 x5 x6 t0_0 t1_0 t2_0 t2_1 t3_0 t4_0 t4_1 t5_0 t6_0 t6_1 t6_2)) := by
  intro sz
  refine q_into (by decide) (Nat.le_of_ble_eq_true rfl) ?_
  intro p e s m below meth c ls hsz C0 V hl
  have hx := C0.1
  have hb := C0.2.1
  have hfk20 : q_F (23 ≤ A.toInt ∧ A.toInt ≤ 52) := hB2.2.1
  have hfk21 : q_F (150 ≤ B.toInt ∧ B.toInt ≤ 1075) := hB2.2.2.1
  have hfk22 : q_F (255 ≤ C.toInt ∧ C.toInt ≤ 2047) := hB2.2.2.2.1
  replace hzx4 : q_F (0 ≤ x4.toInt ∧ x4.toInt ≤ 1) := hzx4
  obtain ⟨yy0_0, hh0, btt0_0⟩ := n_shO hI (n_h3 g q)
  obtain ⟨rfl⟩ : t0_0 = yy0_0 := by have z := Option.some.inj (hT0.symm.trans hh0); simpa using z
  replace btt0_0 : q_F (0 ≤ t0_0.toInt ∧ t0_0.toInt ≤ 1000000) := btt0_0
  obtain ⟨yy2_0, yy2_1, hh2, btt2_0, btt2_1⟩ := n_o36 hI
  obtain ⟨rfl, rfl⟩ : t2_0 = yy2_0 ∧ t2_1 = yy2_1 := by have z := Option.some.inj (hT2.symm.trans hh2); simpa using z
  replace btt2_0 : q_F (0 ≤ t2_0.toInt ∧ t2_0.toInt ≤ 1026) := btt2_0
  replace btt2_1 : q_F (-1000000 ≤ t2_1.toInt ∧ t2_1.toInt ≤ 1000000) := btt2_1
  obtain ⟨yy4_0, yy4_1, hh4, btt4_0, btt4_1⟩ := q_bigO hI (n_b10 g q)
  obtain ⟨rfl, rfl⟩ : t4_0 = yy4_0 ∧ t4_1 = yy4_1 := by have z := Option.some.inj (hT4.symm.trans hh4); simpa using z
  replace btt4_0 : q_F (0 ≤ t4_0.toInt ∧ t4_0.toInt ≤ 220) := btt4_0
  replace btt4_1 : q_F (0 ≤ t4_1.toInt ∧ t4_1.toInt ≤ 1) := btt4_1
  replace pre0 : q_F (0 ≤ x5.toInt) := pre0
  replace pre1 : q_F (x5.toInt ≤ 1100) := pre1
  have hF : q_un ws ws [3, 4, 10, 11, 36, 37] := q_u0
  have hl : lv_has ls 7 [(0, .ref (q 39)), (1, .ref (q k2)), (2, .long x3), (4, .int x4), (5, .int x5), (6, .int x6)] := hl
  refine lv_aload_n hx hb d_12_10_0 rfl (lv_at hl 0 rfl) ?_
  refine lv_aload_n hx hb d_12_10_1 rfl (lv_at hl 1 rfl) ?_
  refine lv_lload_n hx hb d_12_10_2 rfl (lv_at hl 2 rfl) ?_
  refine q_goi V (q_runV (As := [.long x3]) (rest := [.ref (q 39)]) (d := 2) (mc := 0) (ms := 0) (ci := 6) C0 V rfl LV_Wri_118 (X_Flo_isNegative l D g q ws k2 A B C hB2 x3 hI   _) rfl rfl hT6 rfl hl.1 rfl (Nat.le_of_ble_eq_true rfl) ⟨by decide, by decide⟩ ⟨Nat.le_of_ble_eq_true rfl, Nat.le_of_ble_eq_true rfl⟩ d_12_10_3) (fun a28 u26 H locs hp27 V => ?_)
  obtain ⟨rfl, b29, b30, hE31⟩ := hp27
  have e32 : a28 = (F_Flo_isNegative A B C x3) := hE31
  replace b29 : q_F (0 ≤ a28.toInt) := b29
  replace b30 : q_F (a28.toInt ≤ 1) := b30
  have hO33 := n_o39 hI
  refine q_gov V (q_runV (As := [.int a28]) (rest := []) (d := 2) (mc := 0) (ms := 0) (ci := 9) C0 V rfl LV_Wri_27 (X_Wri_begin_p l D g q ws  a28 hI t0_0 hT0 t1_0 hT1 ⟨(by have t1 : 0 ≤ a28.toInt := b29; omega), (by have t1 : a28.toInt ≤ 1 := b30; omega)⟩ _) rfl rfl hO33 rfl hl.1 rfl (Nat.le_of_ble_eq_true rfl) ⟨by decide, by decide⟩ ⟨Nat.le_of_ble_eq_true rfl, Nat.le_of_ble_eq_true rfl⟩ d_12_10_6) (fun u34 H locs hp35 V => ?_)
  obtain ⟨hI, hu43, y37, f38, hO36, hA39, b40, b41, hE42⟩ := hp35
  replace hO36 : u34[3]? = (some (q 3, .inr (1, [.ref (q 4), .int 11008, .int y37])) : Option (Nat × va_E)) := hO36
  replace hA39 : u34[4]? = (some (q 4, .inl (g 1, (1376 : Int32).toNatClampNeg, .inr (.inl f38))) : Option (Nat × va_E)) := hA39
  obtain ⟨p44, e45⟩ : ∃ z, z = (F_Wri_begin_p a28 t0_0 t1_0) := ⟨_, rfl⟩
  have e46 : y37 = p44.1 := congrArg (fun z => z.1) (hE42.trans e45.symm)
  have e47 : f38 = p44.2 := congrArg (fun z => z.2) (hE42.trans e45.symm)
  replace b40 : q_F (a28.toInt ≤ y37.toInt) := b40
  replace b41 : q_F (y37.toInt ≤ a28.toInt) := b41
  replace hT2 := (hu43 _ (by decide)).trans hT2
  replace hT3 := (hu43 _ (by decide)).trans hT3
  replace hT4 := (hu43 _ (by decide)).trans hT4
  replace hT5 := (hu43 _ (by decide)).trans hT5
  replace hT6 := (hu43 _ (by have z0 := hB2.2.2.2.2; simp only [List.mem_cons, List.not_mem_nil, or_false, not_or]; omega)).trans hT6
  replace hO33 := (hu43 _ (by decide)).trans hO33
  replace hF := q_uc hF hu43 (by simp)
  have hR48 := (show F_Wri_exactText_c6 A B C x3 x4 x5 x6 t0_0 t1_0 t2_0 t2_1 t3_0 t4_0 t4_1 t5_0 t6_0 t6_1 t6_2 p44 = (F_Wri_exactText A B C x3 x4 x5 x6 t0_0 t1_0 t2_0 t2_1 t3_0 t4_0 t4_1 t5_0 t6_0 t6_1 t6_2) from (by rw [e45, e32, F_Wri_exactText.eq_1]))
  have hS49 := (show True ∧ S_Wri_exactText_c6 A B C x3 x4 x5 x6 t0_0 t1_0 t2_0 t2_1 t3_0 t4_0 t4_1 t5_0 t6_0 t6_1 t6_2 p44 from (by rw [e45, e32]; have h := hS; rw [S_Wri_exactText.eq_1] at h; with_reducible exact h))
  refine lv_aload_n hx hb d_12_10_9 rfl (lv_at hl 0 rfl) ?_
  refine q_get (ci := 9) (j := 2) (v := .ref (q 36)) C0 V i_Wri rfl rfl hO33 (by decide) w_331 rfl d_12_10_10 ?_
  refine lv_aload_n hx hb d_12_10_13 rfl (lv_at hl 0 rfl) ?_
  refine q_get (ci := 9) (j := 1) (v := .ref (q 9)) C0 V i_Wri rfl rfl hO33 (by decide) w_330 rfl d_12_10_14 ?_
  have hO53 := n_o9 hI
  refine q_get (ci := 4) (j := 0) (v := .ref (q 10)) C0 V i_Mil rfl rfl hO53 (by decide) w_110 rfl d_12_10_17 ?_
  refine lv_aload_n hx hb d_12_10_20 rfl (lv_at hl 1 rfl) ?_
  refine lv_lload_n hx hb d_12_10_21 rfl (lv_at hl 2 rfl) ?_
  refine q_goi V (q_runV (As := [.long x3]) (rest := [.ref (q 10), .ref (q 36)]) (d := 4) (mc := 0) (ms := 0) (ci := 6) C0 V rfl LV_Wri_192 (X_Flo_exactly l D g q u34 k2 A B C hB2 x3 hI t4_0 t4_1 hT4 t5_0 hT5  _) rfl rfl hT6 rfl hl.1 rfl (Nat.le_of_ble_eq_true rfl) ⟨by decide, by decide⟩ ⟨Nat.le_of_ble_eq_true rfl, Nat.le_of_ble_eq_true rfl⟩ d_12_10_22) (fun a56 u54 H locs hp55 V => ?_)
  obtain ⟨hI, hu68, y58, y59, f60, hO57, hA61, b62, b63, b64, b65, b66, hE67⟩ := hp55
  replace hO57 : u54[10]? = (some (q 10, .inr (2, [.ref (q 11), .int y58, .int y59])) : Option (Nat × va_E)) := hO57
  replace hA61 : u54[11]? = (some (q 11, .inl (g 0, (220 : Int32).toNatClampNeg, .inl f60)) : Option (Nat × va_E)) := hA61
  obtain ⟨p69, e70⟩ : ∃ z, z = (F_Flo_exactly A B C x3 t4_0 t4_1 t5_0) := ⟨_, rfl⟩
  have e71 : a56 = p69.1 := congrArg (fun z => z.1) (hE67.trans e70.symm)
  have e72 : y58 = p69.2.1 := congrArg (fun z => z.2.1) (hE67.trans e70.symm)
  have e73 : y59 = p69.2.2.1 := congrArg (fun z => z.2.2.1) (hE67.trans e70.symm)
  have e74 : f60 = p69.2.2.2 := congrArg (fun z => z.2.2.2) (hE67.trans e70.symm)
  replace b62 : q_F (0 ≤ a56.toInt) := b62
  replace b63 : q_F (0 ≤ y58.toInt) := b63
  replace b64 : q_F (y58.toInt ≤ 220) := b64
  replace b65 : q_F (0 ≤ y59.toInt) := b65
  replace b66 : q_F (y59.toInt ≤ 1) := b66
  replace hO36 := (hu68 _ (by decide)).trans hO36
  replace hA39 := (hu68 _ (by decide)).trans hA39
  replace hT2 := (hu68 _ (by decide)).trans hT2
  replace hT3 := (hu68 _ (by decide)).trans hT3
  replace hT6 := (hu68 _ (by have z0 := hB2.2.2.2.2; simp only [List.mem_cons, List.not_mem_nil, or_false, not_or]; omega)).trans hT6
  replace hO33 := (hu68 _ (by decide)).trans hO33
  replace hO53 := (hu68 _ (by decide)).trans hO53
  replace hF := q_uc hF hu68 (by simp)
  have hR75 := (show F_Wri_exactText_c22 A B C x3 x4 x5 x6 t0_0 t1_0 t2_0 t2_1 t3_0 t4_0 t4_1 t5_0 t6_0 t6_1 t6_2 p44 y37 f38 p69 = (F_Wri_exactText A B C x3 x4 x5 x6 t0_0 t1_0 t2_0 t2_1 t3_0 t4_0 t4_1 t5_0 t6_0 t6_1 t6_2) from Eq.trans (by rw [e70, e47, e46, F_Wri_exactText_c6.eq_1]) hR48)
  have hS76 := (show True ∧ S_Wri_exactText_c22 A B C x3 x4 x5 x6 t0_0 t1_0 t2_0 t2_1 t3_0 t4_0 t4_1 t5_0 t6_0 t6_1 t6_2 p44 y37 f38 p69 from (by rw [e70, e47, e46]; have h := hS49; rw [S_Wri_exactText_c6.eq_1] at h; with_reducible exact h))
  have ob80 : True ∧ S_Dig_fill (220 : Int32) a56 t2_0 t2_1 t3_0 y58 y59 f60 := (by rw [e74, e73, e72, e71]; have h := hS76; rw [S_Wri_exactText_c22.eq_1] at h; with_reducible exact h.2.1)
  refine q_gov V (q_runV (As := [.ref (q 10), .int a56]) (rest := []) (d := 3) (mc := 0) (ms := 0) (ci := 7) C0 V rfl LV_Wri_75 (X_Dig_fill l D g q u54 10 220 (n_b10 g q) (by decide) a56 hI t2_0 t2_1 hT2 t3_0 hT3 y58 y59 hO57 f60 hA61 ob80 _) rfl rfl hT2 rfl hl.1 rfl (Nat.le_of_ble_eq_true rfl) ⟨by decide, by decide⟩ ⟨Nat.le_of_ble_eq_true rfl, Nat.le_of_ble_eq_true rfl⟩ d_12_10_25) (fun u81 H locs hp82 V => ?_)
  obtain ⟨hI, hu103, y84, y85, f86, y89, y90, f91, hO83, hA87, hO88, hA92, b93, b94, b95, b96, b97, b98, b99, b100, b101, hE102⟩ := hp82
  replace hO83 : u81[36]? = (some (q 36, .inr (7, [.int y84, .int y85, .ref (q 37)])) : Option (Nat × va_E)) := hO83
  replace hA87 : u81[37]? = (some (q 37, .inl (g 2, 1026, .inl f86)) : Option (Nat × va_E)) := hA87
  replace hO88 : u81[10]? = (some (q 10, .inr (2, [.ref (q 11), .int y89, .int y90])) : Option (Nat × va_E)) := hO88
  replace hA92 : u81[11]? = (some (q 11, .inl (g 0, (220 : Int32).toNatClampNeg, .inl f91)) : Option (Nat × va_E)) := hA92
  obtain ⟨p104, e105⟩ : ∃ z, z = (F_Dig_fill (220 : Int32) a56 t2_0 t2_1 t3_0 y58 y59 f60) := ⟨_, rfl⟩
  have e106 : y84 = p104.1 := congrArg (fun z => z.1) (hE102.trans e105.symm)
  have e107 : y85 = p104.2.1 := congrArg (fun z => z.2.1) (hE102.trans e105.symm)
  have e108 : f86 = p104.2.2.1 := congrArg (fun z => z.2.2.1) (hE102.trans e105.symm)
  have e109 : y89 = p104.2.2.2.1 := congrArg (fun z => z.2.2.2.1) (hE102.trans e105.symm)
  have e110 : y90 = p104.2.2.2.2.1 := congrArg (fun z => z.2.2.2.2.1) (hE102.trans e105.symm)
  have e111 : f91 = p104.2.2.2.2.2 := congrArg (fun z => z.2.2.2.2.2) (hE102.trans e105.symm)
  replace b93 : q_F (0 ≤ y84.toInt) := b93
  replace b94 : q_F (y84.toInt ≤ 1026) := b94
  replace b95 : q_F (0 ≤ y85.toInt + 1000000) := b95
  replace b96 : q_F (y85.toInt ≤ 1000000) := b96
  replace b97 : q_F (0 ≤ y89.toInt) := b97
  replace b98 : q_F (0 ≤ y90.toInt) := b98
  replace b99 : q_F (y89.toInt ≤ y58.toInt) := b99
  replace b100 : q_F (y90.toInt ≤ y59.toInt) := b100
  replace b101 : q_F (y85.toInt ≤ y84.toInt + 999999) := b101
  replace hO36 := (hu103 _ (by decide)).trans hO36
  replace hA39 := (hu103 _ (by decide)).trans hA39
  replace hT6 := (hu103 _ (by have z0 := hB2.2.2.2.2; simp only [List.mem_cons, List.not_mem_nil, or_false, not_or]; omega)).trans hT6
  replace hO33 := (hu103 _ (by decide)).trans hO33
  replace hO53 := (hu103 _ (by decide)).trans hO53
  replace hF := q_uc hF hu103 (by simp)
  have hR112 := (show F_Wri_exactText_c25 A B C x3 x4 x5 x6 t0_0 t1_0 t2_0 t2_1 t3_0 t4_0 t4_1 t5_0 t6_0 t6_1 t6_2 p44 y37 f38 p69 p104 = (F_Wri_exactText A B C x3 x4 x5 x6 t0_0 t1_0 t2_0 t2_1 t3_0 t4_0 t4_1 t5_0 t6_0 t6_1 t6_2) from Eq.trans (by rw [e105, e74, e73, e72, e71, F_Wri_exactText_c22.eq_1]) hR75)
  have hS113 := (show True ∧ S_Wri_exactText_c25 A B C x3 x4 x5 x6 t0_0 t1_0 t2_0 t2_1 t3_0 t4_0 t4_1 t5_0 t6_0 t6_1 t6_2 p44 y37 f38 p69 p104 from (by rw [e105, e74, e73, e72, e71]; have h := hS76; rw [S_Wri_exactText_c22.eq_1] at h; replace h := q_s2 h; with_reducible exact h))
  refine lv_aload_n hx hb d_12_10_28 rfl (lv_at hl 0 rfl) ?_
  refine q_get (ci := 9) (j := 2) (v := .ref (q 36)) C0 V i_Wri rfl rfl hO33 (by decide) w_331 rfl d_12_10_29 ?_
  refine lv_iload hx hb d_12_10_32 (lv_at hl 3 rfl) ?_
  refine q_join (X := Int32) (fun z H locs ls _ => q_F (x4.toInt ≤ z.toInt + 999999) ∧ q_F (x5.toInt ≤ z.toInt + 999999) ∧ q_F (z.toInt ≤ x5.toInt + 1000001) ∧ q_F (z.toInt ≤ y84.toInt + 1001100) ∧ q_F (y85.toInt ≤ z.toInt + 1000000) ∧ q_F (z.toInt ≤ y85.toInt + 1001100) ∧ q_Wd D g (va_A ws sz) s u81 H locs ∧ lv_has ls 7 [(0, .ref (q 39)), (4, .int x4), (5, .int x5), (6, .int x6)] ∧ F_Wri_exactText_J54 A B C x3 x4 x5 x6 t0_0 t1_0 t2_0 t2_1 t3_0 t4_0 t4_1 t5_0 t6_0 t6_1 t6_2 p44 y37 f38 p69 p104 y84 y85 f86 y89 y90 f91 z = (F_Wri_exactText A B C x3 x4 x5 x6 t0_0 t1_0 t2_0 t2_1 t3_0 t4_0 t4_1 t5_0 t6_0 t6_1 t6_2) ∧ True ∧ S_Wri_exactText_J54 A B C x3 x4 x5 x6 t0_0 t1_0 t2_0 t2_1 t3_0 t4_0 t4_1 t5_0 t6_0 t6_1 t6_2 p44 y37 f38 p69 p104 y84 y85 f86 y89 y90 f91 z) (fun z => [.int z, .ref (q 36)]) 54 0 0 ?_ ?_
  ·
    rintro lx117 H locs ls _ ⟨i126, i127, i128, i129, i130, i131, V, hl, hR132, hS133⟩
    replace i126 : q_F (x4.toInt ≤ lx117.toInt + 999999) := i126
    replace i127 : q_F (x5.toInt ≤ lx117.toInt + 999999) := i127
    replace i128 : q_F (lx117.toInt ≤ x5.toInt + 1000001) := i128
    replace i129 : q_F (lx117.toInt ≤ y84.toInt + 1001100) := i129
    replace i130 : q_F (y85.toInt ≤ lx117.toInt + 1000000) := i130
    replace i131 : q_F (lx117.toInt ≤ y85.toInt + 1001100) := i131
    replace hl : lv_has ls 7 [(0, .ref (q 39)), (4, .int x4), (5, .int x5), (6, .int x6)] := hl
    refine lv_iload hx hb d_12_10_54 (lv_at hl 3 rfl) ?_
    have ob137 : q_F (0 ≤ lx117.toInt + 100000) := (by have h := hS133; rw [S_Wri_exactText_J54.eq_1] at h; exact h.2.1)
    have ob138 : q_F (lx117.toInt ≤ 100000) := (by have h := hS133; rw [S_Wri_exactText_J54.eq_1] at h; replace h := q_s2 h; exact h.2.1)
    have ob139 : q_F (0 ≤ y85.toInt + 200000) := (by have h := hS133; rw [S_Wri_exactText_J54.eq_1] at h; replace h := q_s2 h; replace h := q_s2 h; exact h.2.1)
    have ob140 : q_F (y85.toInt ≤ 200000) := (by have h := hS133; rw [S_Wri_exactText_J54.eq_1] at h; replace h := q_s2 h; replace h := q_s2 h; replace h := q_s2 h; exact h.2.1)
    refine q_gov V (q_runV (As := [.int lx117, .int x6]) (rest := []) (d := 3) (mc := 0) (ms := 0) (ci := 7) C0 V rfl LV_Wri_195 (X_Dig_round l D g q u81  lx117 x6 hI y84 y85 hO83 f86 hA87 (by have t1 : 0 ≤ lx117.toInt + 100000 := ob137; omega) (by have t1 : lx117.toInt ≤ 100000 := ob138; omega) (by have t1 : 0 ≤ y85.toInt + 200000 := ob139; omega) (by have t1 : y85.toInt ≤ 200000 := ob140; omega) _) rfl rfl hO83 rfl hl.1 rfl (Nat.le_of_ble_eq_true rfl) ⟨by decide, by decide⟩ ⟨Nat.le_of_ble_eq_true rfl, Nat.le_of_ble_eq_true rfl⟩ d_12_10_56) (fun u141 H locs hp142 V => ?_)
    obtain ⟨hI, hu158, y144, y145, f146, hO143, hA147, b148, b149, b150, b151, b152, b153, b154, b155, b156, hE157⟩ := hp142
    replace hO143 : u141[36]? = (some (q 36, .inr (7, [.int y144, .int y145, .ref (q 37)])) : Option (Nat × va_E)) := hO143
    replace hA147 : u141[37]? = (some (q 37, .inl (g 2, 1026, .inl f146)) : Option (Nat × va_E)) := hA147
    obtain ⟨p159, e160⟩ : ∃ z, z = (F_Dig_round lx117 x6 y84 y85 f86) := ⟨_, rfl⟩
    have e161 : y144 = p159.1 := congrArg (fun z => z.1) (hE157.trans e160.symm)
    have e162 : y145 = p159.2.1 := congrArg (fun z => z.2.1) (hE157.trans e160.symm)
    have e163 : f146 = p159.2.2 := congrArg (fun z => z.2.2) (hE157.trans e160.symm)
    replace b148 : q_F (0 ≤ y144.toInt) := b148
    replace b149 : q_F (y144.toInt ≤ 1026) := b149
    replace b150 : q_F (0 ≤ y145.toInt + 200000) := b150
    replace b151 : q_F (y145.toInt ≤ 300001) := b151
    replace b152 : q_F (y144.toInt ≤ lx117.toInt + 100001) := b152
    replace b153 : q_F (y144.toInt ≤ y84.toInt + 1) := b153
    replace b154 : q_F (y85.toInt ≤ y145.toInt + 200000) := b154
    replace b155 : q_F (y145.toInt ≤ y85.toInt + 200000) := b155
    replace b156 : q_F (y145.toInt ≤ y144.toInt + 300000) := b156
    replace hO36 := (hu158 _ (by decide)).trans hO36
    replace hA39 := (hu158 _ (by decide)).trans hA39
    replace hO88 := (hu158 _ (by decide)).trans hO88
    replace hA92 := (hu158 _ (by decide)).trans hA92
    replace hT6 := (hu158 _ (by have z0 := hB2.2.2.2.2; simp only [List.mem_cons, List.not_mem_nil, or_false, not_or]; omega)).trans hT6
    replace hO33 := (hu158 _ (by decide)).trans hO33
    replace hO53 := (hu158 _ (by decide)).trans hO53
    replace hF := q_uc hF hu158 (by simp)
    have hR164 := (show F_Wri_exactText_c56 A B C x3 x4 x5 x6 t0_0 t1_0 t2_0 t2_1 t3_0 t4_0 t4_1 t5_0 t6_0 t6_1 t6_2 p44 y37 f38 p69 p104 y84 y85 f86 y89 y90 f91 lx117 p159 = (F_Wri_exactText A B C x3 x4 x5 x6 t0_0 t1_0 t2_0 t2_1 t3_0 t4_0 t4_1 t5_0 t6_0 t6_1 t6_2) from Eq.trans (by rw [e160, F_Wri_exactText_J54.eq_1]) hR132)
    have hS165 := (show True ∧ S_Wri_exactText_c56 A B C x3 x4 x5 x6 t0_0 t1_0 t2_0 t2_1 t3_0 t4_0 t4_1 t5_0 t6_0 t6_1 t6_2 p44 y37 f38 p69 p104 y84 y85 f86 y89 y90 f91 lx117 p159 from (by rw [e160]; have h := hS133; rw [S_Wri_exactText_J54.eq_1] at h; replace h := q_s2 h; replace h := q_s2 h; replace h := q_s2 h; replace h := q_s2 h; with_reducible exact h))
    refine lv_iload hx hb d_12_10_59 (lv_at hl 1 rfl) ?_
    refine lv_if_eq (tgt := 81) hx hb d_12_10_61 (by decide) (fun c169 => ?_) (fun c169 => ?_)
    ·
      have b170 : q_F (x4.toInt = 0) := (q_eqI c169)
      refine lv_aload_n hx hb d_12_10_81 rfl (lv_at hl 0 rfl) ?_
      refine q_get (ci := 9) (j := 2) (v := .ref (q 36)) C0 V i_Wri rfl rfl hO33 (by decide) w_331 rfl d_12_10_82 ?_
      refine lv_aload_n hx hb d_12_10_85 rfl (lv_at hl 0 rfl) ?_
      refine q_get (ci := 9) (j := 0) (v := .ref (q 3)) C0 V i_Wri rfl rfl hO33 (by decide) w_329 rfl d_12_10_86 ?_
      refine lv_iload hx hb d_12_10_89 (lv_at hl 2 rfl) ?_
      refine lv_iconst (v := 0) hx hb d_12_10_91 (by decide) ?_
      refine lv_iconst (v := 0) hx hb d_12_10_92 (by decide) ?_
      have ob171 : q_F (y145.toInt ≤ 200000) := (by rw [e162]; have h := hS165; rw [S_Wri_exactText_c56.eq_1] at h; rw [if_pos c169] at h; exact h.2.1)
      refine q_gov V (q_runV (As := [.ref (q 3), .int x5, .int 0, .int 0]) (rest := []) (d := 2) (mc := 0) (ms := 0) (ci := 7) C0 V rfl LV_Wri_90 (X_Dig_writePlain l D g q u141 3 11008 1376 1000000 (n_h3 g q) x5 0 0 hI y144 y145 hO143 f146 hA147 y37 hO36 f38 hA39 ⟨(by have y0 : (11008 : Int32).toInt = 11008 := rfl; have y1 : (1376 : Int32).toInt = 1376 := rfl; have y2 : (1000000 : Int32).toInt = 1000000 := rfl; have y3 : (0 : Int32).toInt = 0 := rfl; have y4 : (0 : Int32).toInt = 0 := rfl; omega), (by have y0 : (11008 : Int32).toInt = 11008 := rfl; have y1 : (1376 : Int32).toInt = 1376 := rfl; have y2 : (1000000 : Int32).toInt = 1000000 := rfl; have y3 : (0 : Int32).toInt = 0 := rfl; have y4 : (0 : Int32).toInt = 0 := rfl; omega)⟩ ⟨(by have y0 : (11008 : Int32).toInt = 11008 := rfl; have y1 : (1376 : Int32).toInt = 1376 := rfl; have y2 : (1000000 : Int32).toInt = 1000000 := rfl; have y3 : (0 : Int32).toInt = 0 := rfl; have y4 : (0 : Int32).toInt = 0 := rfl; omega), (by have y0 : (11008 : Int32).toInt = 11008 := rfl; have y1 : (1376 : Int32).toInt = 1376 := rfl; have y2 : (1000000 : Int32).toInt = 1000000 := rfl; have y3 : (0 : Int32).toInt = 0 := rfl; have y4 : (0 : Int32).toInt = 0 := rfl; omega)⟩ (by have y0 : (11008 : Int32).toInt = 11008 := rfl; have y1 : (1376 : Int32).toInt = 1376 := rfl; have y2 : (1000000 : Int32).toInt = 1000000 := rfl; have y3 : (0 : Int32).toInt = 0 := rfl; have y4 : (0 : Int32).toInt = 0 := rfl; have t1 : y145.toInt ≤ 200000 := ob171; omega) (by have y0 : (11008 : Int32).toInt = 11008 := rfl; have y1 : (1376 : Int32).toInt = 1376 := rfl; have y2 : (1000000 : Int32).toInt = 1000000 := rfl; have y3 : (0 : Int32).toInt = 0 := rfl; have y4 : (0 : Int32).toInt = 0 := rfl; have t1 : x5.toInt ≤ 1100 := pre1; omega) (by have y0 : (11008 : Int32).toInt = 11008 := rfl; have y1 : (1376 : Int32).toInt = 1376 := rfl; have y2 : (1000000 : Int32).toInt = 1000000 := rfl; have y3 : (0 : Int32).toInt = 0 := rfl; have y4 : (0 : Int32).toInt = 0 := rfl; have t1 : a28.toInt ≤ 1 := b30; have t2 : y37.toInt ≤ a28.toInt := b41; omega) (by have y0 : (11008 : Int32).toInt = 11008 := rfl; have y1 : (1376 : Int32).toInt = 1376 := rfl; have y2 : (1000000 : Int32).toInt = 1000000 := rfl; have y3 : (0 : Int32).toInt = 0 := rfl; have y4 : (0 : Int32).toInt = 0 := rfl; omega) _) rfl rfl hO143 rfl hl.1 rfl (Nat.le_of_ble_eq_true rfl) ⟨by decide, by decide⟩ ⟨Nat.le_of_ble_eq_true rfl, Nat.le_of_ble_eq_true rfl⟩ d_12_10_93) (fun u172 H locs hp173 V => ?_)
      obtain ⟨hI, hu185, y175, f176, hO174, hA177, b178, b179, b180, b181, b182, b183, hE184⟩ := hp173
      replace hO174 : u172[3]? = (some (q 3, .inr (1, [.ref (q 4), .int 11008, .int y175])) : Option (Nat × va_E)) := hO174
      replace hA177 : u172[4]? = (some (q 4, .inl (g 1, (1376 : Int32).toNatClampNeg, .inr (.inl f176))) : Option (Nat × va_E)) := hA177
      obtain ⟨p186, e187⟩ : ∃ z, z = (F_Dig_writePlain (11008 : Int32) (1376 : Int32) (1000000 : Int32) x5 (0 : Int32) (0 : Int32) y144 y145 f146 y37 f38) := ⟨_, rfl⟩
      have e188 : y175 = p186.1 := congrArg (fun z => z.1) (hE184.trans e187.symm)
      have e189 : f176 = p186.2 := congrArg (fun z => z.2) (hE184.trans e187.symm)
      replace b178 : q_F (x5.toInt + 1 ≤ y175.toInt) := b178
      replace b179 : q_F (0 + 1 ≤ y175.toInt) := b179
      replace b180 : q_F (y145.toInt + 1 ≤ y175.toInt) := b180
      replace b181 : q_F (y175.toInt ≤ y145.toInt + 1420003) := b181
      replace b182 : q_F (y37.toInt + 1 ≤ y175.toInt) := b182
      replace b183 : q_F (y175.toInt ≤ y37.toInt + 420003) := b183
      replace hO143 := (hu185 _ (by decide)).trans hO143
      replace hA147 := (hu185 _ (by decide)).trans hA147
      replace hO88 := (hu185 _ (by decide)).trans hO88
      replace hA92 := (hu185 _ (by decide)).trans hA92
      replace hT6 := (hu185 _ (by have z0 := hB2.2.2.2.2; simp only [List.mem_cons, List.not_mem_nil, or_false, not_or]; omega)).trans hT6
      replace hO33 := (hu185 _ (by decide)).trans hO33
      replace hO53 := (hu185 _ (by decide)).trans hO53
      replace hF := q_uc hF hu185 (by simp)
      have hR190 := (show F_Wri_exactText_c93 A B C x3 x4 x5 x6 t0_0 t1_0 t2_0 t2_1 t3_0 t4_0 t4_1 t5_0 t6_0 t6_1 t6_2 p44 y37 f38 p69 p104 y84 y85 f86 y89 y90 f91 lx117 p159 y144 y145 f146 p186 = (F_Wri_exactText A B C x3 x4 x5 x6 t0_0 t1_0 t2_0 t2_1 t3_0 t4_0 t4_1 t5_0 t6_0 t6_1 t6_2) from Eq.trans (by rw [e187, e163, e162, e161, F_Wri_exactText_c56.eq_1, if_pos c169]) hR164)
      have hS191 := (show True ∧ S_Wri_exactText_c93 A B C x3 x4 x5 x6 t0_0 t1_0 t2_0 t2_1 t3_0 t4_0 t4_1 t5_0 t6_0 t6_1 t6_2 p44 y37 f38 p69 p104 y84 y85 f86 y89 y90 f91 lx117 p159 y144 y145 f146 p186 from (by rw [e187, e163, e162, e161]; have h := hS165; rw [S_Wri_exactText_c56.eq_1] at h; rw [if_pos c169] at h; replace h := q_s2 h; with_reducible exact h))
      exact q_retv C0 V (⟨hI, hF, y175, f176, y144, y145, f146, y89, y90, f91, hO174, hA177, hO143, hA147, hO88, hA92, (show y175.toInt ≤ 420004 from (by have t1 : a28.toInt ≤ 1 := b30; have t2 : y37.toInt ≤ a28.toInt := b41; have t3 : y175.toInt ≤ y37.toInt + 420003 := b183; omega)), (show 0 ≤ y144.toInt from (by have t1 : 0 ≤ y144.toInt := b148; omega)), (show y144.toInt ≤ 1026 from (by have t1 : y144.toInt ≤ 1026 := b149; omega)), (show 0 ≤ y145.toInt + 200000 from (by have t1 : 0 ≤ y145.toInt + 200000 := b150; omega)), (show 0 ≤ y89.toInt from (by have t1 : 0 ≤ y89.toInt := b97; omega)), (show y89.toInt ≤ 220 from (by have t1 : y58.toInt ≤ 220 := b64; have t2 : y89.toInt ≤ y58.toInt := b99; omega)), (show 0 ≤ y90.toInt from (by have t1 : 0 ≤ y90.toInt := b98; omega)), (show y90.toInt ≤ 1 from (by have t1 : y59.toInt ≤ 1 := b66; have t2 : y90.toInt ≤ y59.toInt := b100; omega)), (show x4.toInt + 1 ≤ y175.toInt from (by have t1 : x4.toInt = 0 := b170; have t2 : 0 + 1 ≤ y175.toInt := b179; omega)), (show x5.toInt + 1 ≤ y175.toInt from (by have t1 : x5.toInt + 1 ≤ y175.toInt := b178; omega)), (show y145.toInt ≤ x4.toInt + 300000 from (by have t1 : 0 ≤ x4.toInt ∧ x4.toInt ≤ 1 := hzx4; have t2 : y145.toInt ≤ 200000 := ob171; omega)), (show y145.toInt ≤ y175.toInt + 299998 from (by have t1 : y145.toInt ≤ 200000 := ob171; have t2 : 0 + 1 ≤ y175.toInt := b179; omega)), (show y145.toInt ≤ y144.toInt + 300000 from (by have t1 : y145.toInt ≤ y144.toInt + 300000 := b156; omega)), (show (y175, f176, y144, y145, f146, y89, y90, f91) = (F_Wri_exactText A B C x3 x4 x5 x6 t0_0 t1_0 t2_0 t2_1 t3_0 t4_0 t4_1 t5_0 t6_0 t6_1 t6_2) from Eq.trans (by rw [e189, e188, F_Wri_exactText_c93.eq_1]) hR190)⟩) d_12_10_96
    ·
      have b195 : q_F (x4.toInt ≠ 0) := (q_neI c169)
      refine lv_aload_n hx hb d_12_10_64 rfl (lv_at hl 0 rfl) ?_
      refine q_get (ci := 9) (j := 2) (v := .ref (q 36)) C0 V i_Wri rfl rfl hO33 (by decide) w_331 rfl d_12_10_65 ?_
      refine lv_aload_n hx hb d_12_10_68 rfl (lv_at hl 0 rfl) ?_
      refine q_get (ci := 9) (j := 0) (v := .ref (q 3)) C0 V i_Wri rfl rfl hO33 (by decide) w_329 rfl d_12_10_69 ?_
      refine lv_iload hx hb d_12_10_72 (lv_at hl 2 rfl) ?_
      refine lv_iconst (v := 0) hx hb d_12_10_74 (by decide) ?_
      refine q_gov V (q_runV (As := [.ref (q 3), .int x5, .int 0]) (rest := []) (d := 3) (mc := 0) (ms := 0) (ci := 7) C0 V rfl LV_Wri_198 (X_Dig_writeScience l D g q u141 3 11008 1376 1000000 (n_h3 g q) x5 0 hI y144 y145 hO143 f146 hA147 y37 hO36 f38 hA39 ⟨(by have y0 : (11008 : Int32).toInt = 11008 := rfl; have y1 : (1376 : Int32).toInt = 1376 := rfl; have y2 : (1000000 : Int32).toInt = 1000000 := rfl; have y3 : (0 : Int32).toInt = 0 := rfl; omega), (by have y0 : (11008 : Int32).toInt = 11008 := rfl; have y1 : (1376 : Int32).toInt = 1376 := rfl; have y2 : (1000000 : Int32).toInt = 1000000 := rfl; have y3 : (0 : Int32).toInt = 0 := rfl; omega)⟩ (by have y0 : (11008 : Int32).toInt = 11008 := rfl; have y1 : (1376 : Int32).toInt = 1376 := rfl; have y2 : (1000000 : Int32).toInt = 1000000 := rfl; have y3 : (0 : Int32).toInt = 0 := rfl; have t1 : x5.toInt ≤ 1100 := pre1; omega) (by have y0 : (11008 : Int32).toInt = 11008 := rfl; have y1 : (1376 : Int32).toInt = 1376 := rfl; have y2 : (1000000 : Int32).toInt = 1000000 := rfl; have y3 : (0 : Int32).toInt = 0 := rfl; have t1 : a28.toInt ≤ 1 := b30; have t2 : y37.toInt ≤ a28.toInt := b41; omega) (by have y0 : (11008 : Int32).toInt = 11008 := rfl; have y1 : (1376 : Int32).toInt = 1376 := rfl; have y2 : (1000000 : Int32).toInt = 1000000 := rfl; have y3 : (0 : Int32).toInt = 0 := rfl; omega) _) rfl rfl hO143 rfl hl.1 rfl (Nat.le_of_ble_eq_true rfl) ⟨by decide, by decide⟩ ⟨Nat.le_of_ble_eq_true rfl, Nat.le_of_ble_eq_true rfl⟩ d_12_10_75) (fun u196 H locs hp197 V => ?_)
      obtain ⟨hI, hu207, y199, f200, hO198, hA201, b202, b203, b204, b205, hE206⟩ := hp197
      replace hO198 : u196[3]? = (some (q 3, .inr (1, [.ref (q 4), .int 11008, .int y199])) : Option (Nat × va_E)) := hO198
      replace hA201 : u196[4]? = (some (q 4, .inl (g 1, (1376 : Int32).toNatClampNeg, .inr (.inl f200))) : Option (Nat × va_E)) := hA201
      obtain ⟨p208, e209⟩ : ∃ z, z = (F_Dig_writeScience (11008 : Int32) (1376 : Int32) (1000000 : Int32) x5 (0 : Int32) y144 y145 f146 y37 f38) := ⟨_, rfl⟩
      have e210 : y199 = p208.1 := congrArg (fun z => z.1) (hE206.trans e209.symm)
      have e211 : f200 = p208.2 := congrArg (fun z => z.2) (hE206.trans e209.symm)
      replace b202 : q_F (x5.toInt + 2 ≤ y199.toInt) := b202
      replace b203 : q_F (0 + 3 ≤ y199.toInt) := b203
      replace b204 : q_F (y37.toInt + 3 ≤ y199.toInt) := b204
      replace b205 : q_F (y199.toInt ≤ y37.toInt + 20008) := b205
      replace hO143 := (hu207 _ (by decide)).trans hO143
      replace hA147 := (hu207 _ (by decide)).trans hA147
      replace hO88 := (hu207 _ (by decide)).trans hO88
      replace hA92 := (hu207 _ (by decide)).trans hA92
      replace hT6 := (hu207 _ (by have z0 := hB2.2.2.2.2; simp only [List.mem_cons, List.not_mem_nil, or_false, not_or]; omega)).trans hT6
      replace hO33 := (hu207 _ (by decide)).trans hO33
      replace hO53 := (hu207 _ (by decide)).trans hO53
      replace hF := q_uc hF hu207 (by simp)
      have hR212 := (show F_Wri_exactText_c75 A B C x3 x4 x5 x6 t0_0 t1_0 t2_0 t2_1 t3_0 t4_0 t4_1 t5_0 t6_0 t6_1 t6_2 p44 y37 f38 p69 p104 y84 y85 f86 y89 y90 f91 lx117 p159 y144 y145 f146 p208 = (F_Wri_exactText A B C x3 x4 x5 x6 t0_0 t1_0 t2_0 t2_1 t3_0 t4_0 t4_1 t5_0 t6_0 t6_1 t6_2) from Eq.trans (by rw [e209, e163, e162, e161, F_Wri_exactText_c56.eq_1, if_neg c169]) hR164)
      have hS213 := (show True ∧ S_Wri_exactText_c75 A B C x3 x4 x5 x6 t0_0 t1_0 t2_0 t2_1 t3_0 t4_0 t4_1 t5_0 t6_0 t6_1 t6_2 p44 y37 f38 p69 p104 y84 y85 f86 y89 y90 f91 lx117 p159 y144 y145 f146 p208 from (by rw [e209, e163, e162, e161]; have h := hS165; rw [S_Wri_exactText_c56.eq_1] at h; rw [if_neg c169] at h; with_reducible exact h))
      refine lv_goto (tgt := 96) hx hb d_12_10_78 (by decide) ?_
      exact q_retv C0 V (⟨hI, hF, y199, f200, y144, y145, f146, y89, y90, f91, hO198, hA201, hO143, hA147, hO88, hA92, (show y199.toInt ≤ 420004 from (by have t1 : a28.toInt ≤ 1 := b30; have t2 : y37.toInt ≤ a28.toInt := b41; have t3 : y199.toInt ≤ y37.toInt + 20008 := b205; omega)), (show 0 ≤ y144.toInt from (by have t1 : 0 ≤ y144.toInt := b148; omega)), (show y144.toInt ≤ 1026 from (by have t1 : y144.toInt ≤ 1026 := b149; omega)), (show 0 ≤ y145.toInt + 200000 from (by have t1 : 0 ≤ y145.toInt + 200000 := b150; omega)), (show 0 ≤ y89.toInt from (by have t1 : 0 ≤ y89.toInt := b97; omega)), (show y89.toInt ≤ 220 from (by have t1 : y58.toInt ≤ 220 := b64; have t2 : y89.toInt ≤ y58.toInt := b99; omega)), (show 0 ≤ y90.toInt from (by have t1 : 0 ≤ y90.toInt := b98; omega)), (show y90.toInt ≤ 1 from (by have t1 : y59.toInt ≤ 1 := b66; have t2 : y90.toInt ≤ y59.toInt := b100; omega)), (show x4.toInt + 1 ≤ y199.toInt from (by have t1 : 0 ≤ x4.toInt ∧ x4.toInt ≤ 1 := hzx4; have t2 : 0 + 3 ≤ y199.toInt := b203; omega)), (show x5.toInt + 1 ≤ y199.toInt from (by have t1 : x5.toInt + 2 ≤ y199.toInt := b202; omega)), (show y145.toInt ≤ x4.toInt + 300000 from (by have t1 : 0 ≤ x4.toInt ∧ x4.toInt ≤ 1 := hzx4; have t2 : y145.toInt ≤ 300001 := b151; have t3 : x4.toInt ≠ 0 := b195; omega)), (show y145.toInt ≤ y199.toInt + 299998 from (by have t1 : y145.toInt ≤ 300001 := b151; have t2 : 0 + 3 ≤ y199.toInt := b203; omega)), (show y145.toInt ≤ y144.toInt + 300000 from (by have t1 : y145.toInt ≤ y144.toInt + 300000 := b156; omega)), (show (y199, f200, y144, y145, f146, y89, y90, f91) = (F_Wri_exactText A B C x3 x4 x5 x6 t0_0 t1_0 t2_0 t2_1 t3_0 t4_0 t4_1 t5_0 t6_0 t6_1 t6_2) from Eq.trans (by rw [e211, e210, F_Wri_exactText_c75.eq_1]) hR212)⟩) d_12_10_96
  ·
    intro J125
    refine lv_if_eq (tgt := 42) hx hb d_12_10_34 (by decide) (fun c217 => ?_) (fun c217 => ?_)
    ·
      have b218 : q_F (x4.toInt = 0) := (q_eqI c217)
      refine lv_aload_n hx hb d_12_10_42 rfl (lv_at hl 0 rfl) ?_
      refine q_get (ci := 9) (j := 2) (v := .ref (q 36)) C0 V i_Wri rfl rfl hO33 (by decide) w_331 rfl d_12_10_43 ?_
      refine q_get (ci := 7) (j := 1) (v := .int y85) C0 V i_Dig rfl rfl hO83 (by decide) w_267 rfl d_12_10_46 ?_
      refine lv_iconst (v := 1) hx hb d_12_10_49 (by decide) ?_
      refine lv_iadd hx hb d_12_10_50 ?_
      obtain ⟨a219, e220⟩ := q_nm (y85 + 1 : Int32)
      refine q_ti (v := a219) e220 ?_
      have b221 : q_F (a219.toInt = y85.toInt + 1) := (by rw [← e220]; show (y85 + 1 : Int32).toInt = y85.toInt + 1; exact q_addI (x := y85.toInt) (y := 1) rfl (by decide) (by have t1 : 0 ≤ y85.toInt + 1000000 := b95; have t2 : y85.toInt ≤ 1000000 := b96; omega) (by have t1 : 0 ≤ y85.toInt + 1000000 := b95; have t2 : y85.toInt ≤ 1000000 := b96; omega))
      refine lv_iload hx hb d_12_10_51 (lv_at hl 4 rfl) ?_
      refine lv_iadd hx hb d_12_10_53 ?_
      obtain ⟨a222, e223⟩ := q_nm (a219 + x5 : Int32)
      refine q_ti (v := a222) e223 ?_
      have b224 : q_F (a222.toInt = a219.toInt + x5.toInt) := (by rw [← e223]; show (a219 + x5 : Int32).toInt = a219.toInt + x5.toInt; exact q_addI (x := a219.toInt) (y := x5.toInt) rfl rfl (by have t1 : 0 ≤ x5.toInt := pre0; have _ := q_lo32 (x := a219); have _ := q_hi32 (x := a219); have t2 : x5.toInt ≤ 1100 := pre1; have t3 : y85.toInt ≤ 1000000 := b96; have t4 : a219.toInt = y85.toInt + 1 := b221; omega) (by have t1 : 0 ≤ x5.toInt := pre0; have _ := q_lo32 (x := a219); have _ := q_hi32 (x := a219); have t2 : x5.toInt ≤ 1100 := pre1; have t3 : y85.toInt ≤ 1000000 := b96; have t4 : a219.toInt = y85.toInt + 1 := b221; omega))
      exact J125 ((a222 : Int32)) _ _ _ u81 ⟨(show q_F (x4.toInt ≤ a222.toInt + 999999) from (show x4.toInt ≤ a222.toInt + 999999 from by have t1 : 0 ≤ x5.toInt := pre0; have t2 : 0 ≤ y85.toInt + 1000000 := b95; have t3 : x4.toInt = 0 := b218; have t4 : a219.toInt = y85.toInt + 1 := b221; have t5 : a222.toInt = a219.toInt + x5.toInt := b224; omega)), (show q_F (x5.toInt ≤ a222.toInt + 999999) from (show x5.toInt ≤ a222.toInt + 999999 from by have t1 : 0 ≤ y85.toInt + 1000000 := b95; have t2 : a219.toInt = y85.toInt + 1 := b221; have t3 : a222.toInt = a219.toInt + x5.toInt := b224; omega)), (show q_F (a222.toInt ≤ x5.toInt + 1000001) from (show a222.toInt ≤ x5.toInt + 1000001 from by have t1 : y85.toInt ≤ 1000000 := b96; have t2 : a219.toInt = y85.toInt + 1 := b221; have t3 : a222.toInt = a219.toInt + x5.toInt := b224; omega)), (show q_F (a222.toInt ≤ y84.toInt + 1001100) from (show a222.toInt ≤ y84.toInt + 1001100 from by have t1 : x5.toInt ≤ 1100 := pre1; have t2 : y85.toInt ≤ y84.toInt + 999999 := b101; have t3 : a219.toInt = y85.toInt + 1 := b221; have t4 : a222.toInt = a219.toInt + x5.toInt := b224; omega)), (show q_F (y85.toInt ≤ a222.toInt + 1000000) from (show y85.toInt ≤ a222.toInt + 1000000 from by have t1 : 0 ≤ x5.toInt := pre0; have t2 : a219.toInt = y85.toInt + 1 := b221; have t3 : a222.toInt = a219.toInt + x5.toInt := b224; omega)), (show q_F (a222.toInt ≤ y85.toInt + 1001100) from (show a222.toInt ≤ y85.toInt + 1001100 from by have t1 : x5.toInt ≤ 1100 := pre1; have t2 : a219.toInt = y85.toInt + 1 := b221; have t3 : a222.toInt = a219.toInt + x5.toInt := b224; omega)), V, q_lw hl (q_lw1 0 rfl (q_lw1 3 rfl (q_lw1 4 rfl (q_lw1 5 rfl q_lw0)))), (show F_Wri_exactText_J54 A B C x3 x4 x5 x6 t0_0 t1_0 t2_0 t2_1 t3_0 t4_0 t4_1 t5_0 t6_0 t6_1 t6_2 p44 y37 f38 p69 p104 y84 y85 f86 y89 y90 f91 a222 = (F_Wri_exactText A B C x3 x4 x5 x6 t0_0 t1_0 t2_0 t2_1 t3_0 t4_0 t4_1 t5_0 t6_0 t6_1 t6_2) from Eq.trans (by rw [← e223, ← e220, e111, e110, e109, e108, e107, e106, F_Wri_exactText_c25.eq_1, if_pos c217]) hR112), (show True ∧ S_Wri_exactText_J54 A B C x3 x4 x5 x6 t0_0 t1_0 t2_0 t2_1 t3_0 t4_0 t4_1 t5_0 t6_0 t6_1 t6_2 p44 y37 f38 p69 p104 y84 y85 f86 y89 y90 f91 a222 from (by rw [← e223, ← e220, e111, e110, e109, e108, e107, e106]; have h := hS113; rw [S_Wri_exactText_c25.eq_1] at h; rw [if_pos c217] at h; with_reducible exact h))⟩
    ·
      have b225 : q_F (x4.toInt ≠ 0) := (q_neI c217)
      refine lv_iload hx hb d_12_10_37 (lv_at hl 4 rfl) ?_
      refine lv_goto (tgt := 54) hx hb d_12_10_39 (by decide) ?_
      exact J125 ((x5 : Int32)) _ _ _ u81 ⟨(show q_F (x4.toInt ≤ x5.toInt + 999999) from (show x4.toInt ≤ x5.toInt + 999999 from by have t1 : 0 ≤ x4.toInt ∧ x4.toInt ≤ 1 := hzx4; have t2 : 0 ≤ x5.toInt := pre0; omega)), (show q_F (x5.toInt ≤ x5.toInt + 999999) from (show x5.toInt ≤ x5.toInt + 999999 from by omega)), (show q_F (x5.toInt ≤ x5.toInt + 1000001) from (show x5.toInt ≤ x5.toInt + 1000001 from by omega)), (show q_F (x5.toInt ≤ y84.toInt + 1001100) from (show x5.toInt ≤ y84.toInt + 1001100 from by have t1 : x5.toInt ≤ 1100 := pre1; have t2 : 0 ≤ y84.toInt := b93; omega)), (show q_F (y85.toInt ≤ x5.toInt + 1000000) from (show y85.toInt ≤ x5.toInt + 1000000 from by have t1 : 0 ≤ x5.toInt := pre0; have t2 : y85.toInt ≤ 1000000 := b96; omega)), (show q_F (x5.toInt ≤ y85.toInt + 1001100) from (show x5.toInt ≤ y85.toInt + 1001100 from by have t1 : x5.toInt ≤ 1100 := pre1; have t2 : 0 ≤ y85.toInt + 1000000 := b95; omega)), V, q_lw hl (q_lw1 0 rfl (q_lw1 3 rfl (q_lw1 4 rfl (q_lw1 5 rfl q_lw0)))), (show F_Wri_exactText_J54 A B C x3 x4 x5 x6 t0_0 t1_0 t2_0 t2_1 t3_0 t4_0 t4_1 t5_0 t6_0 t6_1 t6_2 p44 y37 f38 p69 p104 y84 y85 f86 y89 y90 f91 x5 = (F_Wri_exactText A B C x3 x4 x5 x6 t0_0 t1_0 t2_0 t2_1 t3_0 t4_0 t4_1 t5_0 t6_0 t6_1 t6_2) from Eq.trans (by rw [e111, e110, e109, e108, e107, e106, F_Wri_exactText_c25.eq_1, if_neg c217]) hR112), (show True ∧ S_Wri_exactText_J54 A B C x3 x4 x5 x6 t0_0 t1_0 t2_0 t2_1 t3_0 t4_0 t4_1 t5_0 t6_0 t6_1 t6_2 p44 y37 f38 p69 p104 y84 y85 f86 y89 y90 f91 x5 from (by rw [e111, e110, e109, e108, e107, e106]; have h := hS113; rw [S_Wri_exactText_c25.eq_1] at h; rw [if_neg c217] at h; with_reducible exact h))⟩
