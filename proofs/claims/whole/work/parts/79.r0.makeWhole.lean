/-! NumberHouse, exactly: r0.makeWhole -/
theorem d_1_25_0 : decode prog_1_method_25_code 0 = .ok (.iload_n 1, 1) := by decide +kernel
theorem d_1_25_1 : decode prog_1_method_25_code 1 = .ok (.ifCond .ne 22, 3) := by decide +kernel
theorem d_1_25_23 : decode prog_1_method_25_code 23 = .ok (.iload_n 1, 1) := by decide +kernel
theorem d_1_25_24 : decode prog_1_method_25_code 24 = .ok (.iconst 1, 1) := by decide +kernel
theorem d_1_25_25 : decode prog_1_method_25_code 25 = .ok (.if_icmp .ne 22, 3) := by decide +kernel
theorem d_1_25_47 : decode prog_1_method_25_code 47 = .ok (.aload_n 0, 1) := by decide +kernel
theorem d_1_25_48 : decode prog_1_method_25_code 48 = .ok (.iload_n 1, 1) := by decide +kernel
theorem d_1_25_49 : decode prog_1_method_25_code 49 = .ok (.invokevirtual 130, 3) := by decide +kernel
theorem d_1_25_52 : decode prog_1_method_25_code 52 = .ok (.astore_n 3, 1) := by decide +kernel
theorem d_1_25_53 : decode prog_1_method_25_code 53 = .ok (.aload_n 0, 1) := by decide +kernel
theorem d_1_25_54 : decode prog_1_method_25_code 54 = .ok (.iload_n 1, 1) := by decide +kernel
theorem d_1_25_55 : decode prog_1_method_25_code 55 = .ok (.invokevirtual 157, 3) := by decide +kernel
theorem d_1_25_58 : decode prog_1_method_25_code 58 = .ok (.iload_n 2, 1) := by decide +kernel
theorem d_1_25_59 : decode prog_1_method_25_code 59 = .ok (.laload, 1) := by decide +kernel
theorem d_1_25_60 : decode prog_1_method_25_code 60 = .ok (.lstore 4, 2) := by decide +kernel
theorem d_1_25_62 : decode prog_1_method_25_code 62 = .ok (.aload_n 3, 1) := by decide +kernel
theorem d_1_25_63 : decode prog_1_method_25_code 63 = .ok (.lload 4, 2) := by decide +kernel
theorem d_1_25_65 : decode prog_1_method_25_code 65 = .ok (.invokevirtual 179, 3) := by decide +kernel
set_option maxRecDepth 100000 in
theorem w_1152 : (Cond.methodLink "NumberHouse" (179 : Nat) ({ cls := "NumberHouse$Floats", name := "isFinite", desc := "(J)Z" } : MethodName)) ∈ q_tbl := q_of5 192 rfl (by decide +kernel)
theorem LV_NH_179 : q_LV "NumberHouse" 179 y_Flo_isFinite prog_7_method_5_code 3 (some .boolean) 1 := ⟨w_1155, w_8, w_1152, w_1153, w_1154, ⟨by decide, by decide, by decide +kernel⟩⟩
theorem d_1_25_68 : decode prog_1_method_25_code 68 = .ok (.invokestatic 138, 3) := by decide +kernel
theorem d_1_25_71 : decode prog_1_method_25_code 71 = .ok (.aload_n 3, 1) := by decide +kernel
theorem d_1_25_72 : decode prog_1_method_25_code 72 = .ok (.lload 4, 2) := by decide +kernel
theorem d_1_25_74 : decode prog_1_method_25_code 74 = .ok (.invokevirtual 403, 3) := by decide +kernel
set_option maxRecDepth 100000 in
theorem w_1507 : (Cond.code ({ cls := "NumberHouse$Floats", name := "towardsZero", desc := "(J)V" } : MethodName) prog_7_method_14_code (4 : Nat) (none : Option ClassFile.FieldType)) ∈ q_tbl := q_of7 67 rfl (by decide +kernel)
set_option maxRecDepth 100000 in
theorem w_1504 : (Cond.methodLink "NumberHouse" (403 : Nat) ({ cls := "NumberHouse$Floats", name := "towardsZero", desc := "(J)V" } : MethodName)) ∈ q_tbl := q_of7 64 rfl (by decide +kernel)
set_option maxRecDepth 100000 in
theorem w_1505 : (Cond.instanceMethod ({ cls := "NumberHouse$Floats", name := "towardsZero", desc := "(J)V" } : MethodName)) ∈ q_tbl := q_of7 65 rfl (by decide +kernel)
set_option maxRecDepth 100000 in
theorem w_1506 : (Cond.selects "NumberHouse$Floats" ({ cls := "NumberHouse$Floats", name := "towardsZero", desc := "(J)V" } : MethodName) ({ cls := "NumberHouse$Floats", name := "towardsZero", desc := "(J)V" } : MethodName)) ∈ q_tbl := q_of7 66 rfl (by decide +kernel)
theorem LV_NH_403 : q_LV "NumberHouse" 403 y_Flo_towardsZero prog_7_method_14_code 4 none 1 := ⟨w_1507, w_8, w_1504, w_1505, w_1506, ⟨by decide, by decide, by decide +kernel⟩⟩
theorem d_1_25_77 : decode prog_1_method_25_code 77 = .ok (.return_, 1) := by decide +kernel
theorem d_1_25_28 : decode prog_1_method_25_code 28 = .ok (.aload_n 0, 1) := by decide +kernel
theorem d_1_25_29 : decode prog_1_method_25_code 29 = .ok (.getfield 52, 3) := by decide +kernel
theorem d_1_25_32 : decode prog_1_method_25_code 32 = .ok (.aload_n 0, 1) := by decide +kernel
theorem d_1_25_33 : decode prog_1_method_25_code 33 = .ok (.getfield 29, 3) := by decide +kernel
theorem d_1_25_36 : decode prog_1_method_25_code 36 = .ok (.iload_n 2, 1) := by decide +kernel
theorem d_1_25_37 : decode prog_1_method_25_code 37 = .ok (.aaload, 1) := by decide +kernel
theorem d_1_25_38 : decode prog_1_method_25_code 38 = .ok (.invokevirtual 400, 3) := by decide +kernel
set_option maxRecDepth 100000 in
theorem w_1503 : (Cond.code ({ cls := "NumberHouse$DecimalWork", name := "towardsZero", desc := "(LNumberHouse$Dec;)Z" } : MethodName) prog_4_method_14_code (2 : Nat) (some .boolean)) ∈ q_tbl := q_of7 63 rfl (by decide +kernel)
set_option maxRecDepth 100000 in
theorem w_1500 : (Cond.methodLink "NumberHouse" (400 : Nat) ({ cls := "NumberHouse$DecimalWork", name := "towardsZero", desc := "(LNumberHouse$Dec;)Z" } : MethodName)) ∈ q_tbl := q_of7 60 rfl (by decide +kernel)
set_option maxRecDepth 100000 in
theorem w_1501 : (Cond.instanceMethod ({ cls := "NumberHouse$DecimalWork", name := "towardsZero", desc := "(LNumberHouse$Dec;)Z" } : MethodName)) ∈ q_tbl := q_of7 61 rfl (by decide +kernel)
set_option maxRecDepth 100000 in
theorem w_1502 : (Cond.selects "NumberHouse$DecimalWork" ({ cls := "NumberHouse$DecimalWork", name := "towardsZero", desc := "(LNumberHouse$Dec;)Z" } : MethodName) ({ cls := "NumberHouse$DecimalWork", name := "towardsZero", desc := "(LNumberHouse$Dec;)Z" } : MethodName)) ∈ q_tbl := q_of7 62 rfl (by decide +kernel)
theorem LV_NH_400 : q_LV "NumberHouse" 400 y_DW_towardsZero prog_4_method_14_code 2 (some .boolean) 1 := ⟨w_1503, w_5, w_1500, w_1501, w_1502, ⟨by decide, by decide, by decide +kernel⟩⟩
theorem d_1_25_41 : decode prog_1_method_25_code 41 = .ok (.invokestatic 138, 3) := by decide +kernel
theorem d_1_25_44 : decode prog_1_method_25_code 44 = .ok (.goto 33, 3) := by decide +kernel
theorem d_1_25_4 : decode prog_1_method_25_code 4 = .ok (.aload_n 0, 1) := by decide +kernel
theorem d_1_25_5 : decode prog_1_method_25_code 5 = .ok (.getfield 43, 3) := by decide +kernel
theorem d_1_25_8 : decode prog_1_method_25_code 8 = .ok (.getfield 141, 3) := by decide +kernel
theorem d_1_25_11 : decode prog_1_method_25_code 11 = .ok (.aload_n 0, 1) := by decide +kernel
theorem d_1_25_12 : decode prog_1_method_25_code 12 = .ok (.getfield 23, 3) := by decide +kernel
theorem d_1_25_15 : decode prog_1_method_25_code 15 = .ok (.iload_n 2, 1) := by decide +kernel
theorem d_1_25_16 : decode prog_1_method_25_code 16 = .ok (.aaload, 1) := by decide +kernel
theorem d_1_25_17 : decode prog_1_method_25_code 17 = .ok (.invokevirtual 145, 3) := by decide +kernel
theorem d_1_25_20 : decode prog_1_method_25_code 20 = .ok (.goto 57, 3) := by decide +kernel
def y_NH_makeWhole : MethodName := ⟨"NumberHouse", "makeWhole", "(II)V"⟩
def F_NH_makeWhole_c74 (x2 : Int32) (x3 : Int32) (t0_0 : Int64) (t0_1 : Int32) (t1_0 : Int32) (t1_1 : Int32) (t2_0 : (Nat → Int32)) (t3_0 : (Nat → Int64)) (t4_0 : (Nat → Int64)) (t5_0 : Int32) (t5_1 : Int32) (t6_0 : (Nat → Int32)) (t7_0 : Int32) (t7_1 : Int32) (t8_0 : Int32) (t8_1 : Int32) (t9_0 : (Nat → Int32)) (j59 : Int64) (p94 : (Int32 × Int32 × (Nat → Int32))) : Int32 × Int32 × Int32 × (Nat → Int32) := ((0 : Int32), (p94.1 : Int32), (p94.2.1 : Int32), (p94.2.2 : (Nat → Int32)))
def F_NH_makeWhole_c74_2 (x2 : Int32) (x3 : Int32) (t0_0 : Int64) (t0_1 : Int32) (t1_0 : Int32) (t1_1 : Int32) (t2_0 : (Nat → Int32)) (t3_0 : (Nat → Int64)) (t4_0 : (Nat → Int64)) (t5_0 : Int32) (t5_1 : Int32) (t6_0 : (Nat → Int32)) (t7_0 : Int32) (t7_1 : Int32) (t8_0 : Int32) (t8_1 : Int32) (t9_0 : (Nat → Int32)) (j108 : Int64) (p143 : (Int32 × Int32 × (Nat → Int32))) : Int32 × Int32 × Int32 × (Nat → Int32) := ((0 : Int32), (p143.1 : Int32), (p143.2.1 : Int32), (p143.2.2 : (Nat → Int32)))
def F_NH_makeWhole_c74_3 (x2 : Int32) (x3 : Int32) (t0_0 : Int64) (t0_1 : Int32) (t1_0 : Int32) (t1_1 : Int32) (t2_0 : (Nat → Int32)) (t3_0 : (Nat → Int64)) (t4_0 : (Nat → Int64)) (t5_0 : Int32) (t5_1 : Int32) (t6_0 : (Nat → Int32)) (t7_0 : Int32) (t7_1 : Int32) (t8_0 : Int32) (t8_1 : Int32) (t9_0 : (Nat → Int32)) (j164 : Int64) (p199 : (Int32 × Int32 × (Nat → Int32))) : Int32 × Int32 × Int32 × (Nat → Int32) := ((0 : Int32), (p199.1 : Int32), (p199.2.1 : Int32), (p199.2.2 : (Nat → Int32)))
def F_NH_makeWhole_c74_4 (x2 : Int32) (x3 : Int32) (t0_0 : Int64) (t0_1 : Int32) (t1_0 : Int32) (t1_1 : Int32) (t2_0 : (Nat → Int32)) (t3_0 : (Nat → Int64)) (t4_0 : (Nat → Int64)) (t5_0 : Int32) (t5_1 : Int32) (t6_0 : (Nat → Int32)) (t7_0 : Int32) (t7_1 : Int32) (t8_0 : Int32) (t8_1 : Int32) (t9_0 : (Nat → Int32)) (j213 : Int64) (p248 : (Int32 × Int32 × (Nat → Int32))) : Int32 × Int32 × Int32 × (Nat → Int32) := ((0 : Int32), (p248.1 : Int32), (p248.2.1 : Int32), (p248.2.2 : (Nat → Int32)))
def F_NH_makeWhole_c38 (x2 : Int32) (x3 : Int32) (t0_0 : Int64) (t0_1 : Int32) (t1_0 : Int32) (t1_1 : Int32) (t2_0 : (Nat → Int32)) (t3_0 : (Nat → Int64)) (t4_0 : (Nat → Int64)) (t5_0 : Int32) (t5_1 : Int32) (t6_0 : (Nat → Int32)) (t7_0 : Int32) (t7_1 : Int32) (t8_0 : Int32) (t8_1 : Int32) (t9_0 : (Nat → Int32)) (p283 : (Int32 × Int32 × Int32 × (Nat → Int32))) : Int32 × Int32 × Int32 × (Nat → Int32) := if (F_NH_canHave (p283.1 : Int32)) = (0 : Int32) then (((0 : Int32), (p283.2.1 : Int32), (p283.2.2.1 : Int32), (p283.2.2.2 : (Nat → Int32)))) else (((F_NH_canHave (p283.1 : Int32)), (p283.2.1 : Int32), (p283.2.2.1 : Int32), (p283.2.2.2 : (Nat → Int32))))
def F_NH_makeWhole_c17 (x2 : Int32) (x3 : Int32) (t0_0 : Int64) (t0_1 : Int32) (t1_0 : Int32) (t1_1 : Int32) (t2_0 : (Nat → Int32)) (t3_0 : (Nat → Int64)) (t4_0 : (Nat → Int64)) (t5_0 : Int32) (t5_1 : Int32) (t6_0 : (Nat → Int32)) (t7_0 : Int32) (t7_1 : Int32) (t8_0 : Int32) (t8_1 : Int32) (t9_0 : (Nat → Int32)) (p325 : (Int32 × Int32 × (Nat → Int32))) : Int32 × Int32 × Int32 × (Nat → Int32) := ((0 : Int32), (p325.1 : Int32), (p325.2.1 : Int32), (p325.2.2 : (Nat → Int32)))
def F_NH_makeWhole (x2 : Int32) (x3 : Int32) (t0_0 : Int64) (t0_1 : Int32) (t1_0 : Int32) (t1_1 : Int32) (t2_0 : (Nat → Int32)) (t3_0 : (Nat → Int64)) (t4_0 : (Nat → Int64)) (t5_0 : Int32) (t5_1 : Int32) (t6_0 : (Nat → Int32)) (t7_0 : Int32) (t7_1 : Int32) (t8_0 : Int32) (t8_1 : Int32) (t9_0 : (Nat → Int32)) : Int32 × Int32 × Int32 × (Nat → Int32) := if x2 = (0 : Int32) then (F_NH_makeWhole_c17 x2 x3 t0_0 t0_1 t1_0 t1_1 t2_0 t3_0 t4_0 t5_0 t5_1 t6_0 t7_0 t7_1 t8_0 t8_1 t9_0 ((F_Big_copy (220 : Int32) (68 : Int32) t1_0 t1_1 t2_0 t5_0 t5_1 t6_0) : (Int32 × Int32 × (Nat → Int32)))) else (if x2 = (1 : Int32) then (F_NH_makeWhole_c38 x2 x3 t0_0 t0_1 t1_0 t1_1 t2_0 t3_0 t4_0 t5_0 t5_1 t6_0 t7_0 t7_1 t8_0 t8_1 t9_0 ((F_DW_towardsZero (108 : Int32) t0_0 t0_1 t1_0 t1_1 t2_0 t7_0 t7_1 t8_0 t8_1 t9_0) : (Int32 × Int32 × Int32 × (Nat → Int32)))) else (if x2 = (2 : Int32) then (if x2 = (2 : Int32) then (if (F_NH_canHave ((F_Flo_isFinite (52 : Int32) (1075 : Int32) (2047 : Int32) (t3_0 x3.toNatClampNeg : Int64)) : Int32)) = (0 : Int32) then (F_NH_makeWhole_c74 x2 x3 t0_0 t0_1 t1_0 t1_1 t2_0 t3_0 t4_0 t5_0 t5_1 t6_0 t7_0 t7_1 t8_0 t8_1 t9_0 (t3_0 x3.toNatClampNeg : Int64) ((F_Flo_towardsZero (52 : Int32) (1075 : Int32) (2047 : Int32) (t3_0 x3.toNatClampNeg : Int64) t1_0 t1_1 t2_0) : (Int32 × Int32 × (Nat → Int32)))) else (((F_NH_canHave ((F_Flo_isFinite (52 : Int32) (1075 : Int32) (2047 : Int32) (t3_0 x3.toNatClampNeg : Int64)) : Int32)), t1_0, t1_1, t2_0))) else (if (F_NH_canHave ((F_Flo_isFinite (52 : Int32) (1075 : Int32) (2047 : Int32) (t4_0 x3.toNatClampNeg : Int64)) : Int32)) = (0 : Int32) then (F_NH_makeWhole_c74_2 x2 x3 t0_0 t0_1 t1_0 t1_1 t2_0 t3_0 t4_0 t5_0 t5_1 t6_0 t7_0 t7_1 t8_0 t8_1 t9_0 (t4_0 x3.toNatClampNeg : Int64) ((F_Flo_towardsZero (52 : Int32) (1075 : Int32) (2047 : Int32) (t4_0 x3.toNatClampNeg : Int64) t1_0 t1_1 t2_0) : (Int32 × Int32 × (Nat → Int32)))) else (((F_NH_canHave ((F_Flo_isFinite (52 : Int32) (1075 : Int32) (2047 : Int32) (t4_0 x3.toNatClampNeg : Int64)) : Int32)), t1_0, t1_1, t2_0)))) else (if x2 = (2 : Int32) then (if (F_NH_canHave ((F_Flo_isFinite (23 : Int32) (150 : Int32) (255 : Int32) (t3_0 x3.toNatClampNeg : Int64)) : Int32)) = (0 : Int32) then (F_NH_makeWhole_c74_3 x2 x3 t0_0 t0_1 t1_0 t1_1 t2_0 t3_0 t4_0 t5_0 t5_1 t6_0 t7_0 t7_1 t8_0 t8_1 t9_0 (t3_0 x3.toNatClampNeg : Int64) ((F_Flo_towardsZero (23 : Int32) (150 : Int32) (255 : Int32) (t3_0 x3.toNatClampNeg : Int64) t1_0 t1_1 t2_0) : (Int32 × Int32 × (Nat → Int32)))) else (((F_NH_canHave ((F_Flo_isFinite (23 : Int32) (150 : Int32) (255 : Int32) (t3_0 x3.toNatClampNeg : Int64)) : Int32)), t1_0, t1_1, t2_0))) else (if (F_NH_canHave ((F_Flo_isFinite (23 : Int32) (150 : Int32) (255 : Int32) (t4_0 x3.toNatClampNeg : Int64)) : Int32)) = (0 : Int32) then (F_NH_makeWhole_c74_4 x2 x3 t0_0 t0_1 t1_0 t1_1 t2_0 t3_0 t4_0 t5_0 t5_1 t6_0 t7_0 t7_1 t8_0 t8_1 t9_0 (t4_0 x3.toNatClampNeg : Int64) ((F_Flo_towardsZero (23 : Int32) (150 : Int32) (255 : Int32) (t4_0 x3.toNatClampNeg : Int64) t1_0 t1_1 t2_0) : (Int32 × Int32 × (Nat → Int32)))) else (((F_NH_canHave ((F_Flo_isFinite (23 : Int32) (150 : Int32) (255 : Int32) (t4_0 x3.toNatClampNeg : Int64)) : Int32)), t1_0, t1_1, t2_0))))))
def S_NH_makeWhole_c74 (x2 : Int32) (x3 : Int32) (t0_0 : Int64) (t0_1 : Int32) (t1_0 : Int32) (t1_1 : Int32) (t2_0 : (Nat → Int32)) (t3_0 : (Nat → Int64)) (t4_0 : (Nat → Int64)) (t5_0 : Int32) (t5_1 : Int32) (t6_0 : (Nat → Int32)) (t7_0 : Int32) (t7_1 : Int32) (t8_0 : Int32) (t8_1 : Int32) (t9_0 : (Nat → Int32)) (j59 : Int64) (p94 : (Int32 × Int32 × (Nat → Int32))) : Prop := True
def S_NH_makeWhole_c74_2 (x2 : Int32) (x3 : Int32) (t0_0 : Int64) (t0_1 : Int32) (t1_0 : Int32) (t1_1 : Int32) (t2_0 : (Nat → Int32)) (t3_0 : (Nat → Int64)) (t4_0 : (Nat → Int64)) (t5_0 : Int32) (t5_1 : Int32) (t6_0 : (Nat → Int32)) (t7_0 : Int32) (t7_1 : Int32) (t8_0 : Int32) (t8_1 : Int32) (t9_0 : (Nat → Int32)) (j108 : Int64) (p143 : (Int32 × Int32 × (Nat → Int32))) : Prop := True
def S_NH_makeWhole_c74_3 (x2 : Int32) (x3 : Int32) (t0_0 : Int64) (t0_1 : Int32) (t1_0 : Int32) (t1_1 : Int32) (t2_0 : (Nat → Int32)) (t3_0 : (Nat → Int64)) (t4_0 : (Nat → Int64)) (t5_0 : Int32) (t5_1 : Int32) (t6_0 : (Nat → Int32)) (t7_0 : Int32) (t7_1 : Int32) (t8_0 : Int32) (t8_1 : Int32) (t9_0 : (Nat → Int32)) (j164 : Int64) (p199 : (Int32 × Int32 × (Nat → Int32))) : Prop := True
def S_NH_makeWhole_c74_4 (x2 : Int32) (x3 : Int32) (t0_0 : Int64) (t0_1 : Int32) (t1_0 : Int32) (t1_1 : Int32) (t2_0 : (Nat → Int32)) (t3_0 : (Nat → Int64)) (t4_0 : (Nat → Int64)) (t5_0 : Int32) (t5_1 : Int32) (t6_0 : (Nat → Int32)) (t7_0 : Int32) (t7_1 : Int32) (t8_0 : Int32) (t8_1 : Int32) (t9_0 : (Nat → Int32)) (j213 : Int64) (p248 : (Int32 × Int32 × (Nat → Int32))) : Prop := True
def S_NH_makeWhole_c38 (x2 : Int32) (x3 : Int32) (t0_0 : Int64) (t0_1 : Int32) (t1_0 : Int32) (t1_1 : Int32) (t2_0 : (Nat → Int32)) (t3_0 : (Nat → Int64)) (t4_0 : (Nat → Int64)) (t5_0 : Int32) (t5_1 : Int32) (t6_0 : (Nat → Int32)) (t7_0 : Int32) (t7_1 : Int32) (t8_0 : Int32) (t8_1 : Int32) (t9_0 : (Nat → Int32)) (p283 : (Int32 × Int32 × Int32 × (Nat → Int32))) : Prop := if (F_NH_canHave (p283.1 : Int32)) = (0 : Int32) then (True) else (True)
def S_NH_makeWhole_c17 (x2 : Int32) (x3 : Int32) (t0_0 : Int64) (t0_1 : Int32) (t1_0 : Int32) (t1_1 : Int32) (t2_0 : (Nat → Int32)) (t3_0 : (Nat → Int64)) (t4_0 : (Nat → Int64)) (t5_0 : Int32) (t5_1 : Int32) (t6_0 : (Nat → Int32)) (t7_0 : Int32) (t7_1 : Int32) (t8_0 : Int32) (t8_1 : Int32) (t9_0 : (Nat → Int32)) (p325 : (Int32 × Int32 × (Nat → Int32))) : Prop := True
def S_NH_makeWhole (x2 : Int32) (x3 : Int32) (t0_0 : Int64) (t0_1 : Int32) (t1_0 : Int32) (t1_1 : Int32) (t2_0 : (Nat → Int32)) (t3_0 : (Nat → Int64)) (t4_0 : (Nat → Int64)) (t5_0 : Int32) (t5_1 : Int32) (t6_0 : (Nat → Int32)) (t7_0 : Int32) (t7_1 : Int32) (t8_0 : Int32) (t8_1 : Int32) (t9_0 : (Nat → Int32)) : Prop := if x2 = (0 : Int32) then ((0 ≤ x3.toInt) ∧ ((x3.toInt ≤ 9) ∧ (S_NH_makeWhole_c17 x2 x3 t0_0 t0_1 t1_0 t1_1 t2_0 t3_0 t4_0 t5_0 t5_1 t6_0 t7_0 t7_1 t8_0 t8_1 t9_0 ((F_Big_copy (220 : Int32) (68 : Int32) t1_0 t1_1 t2_0 t5_0 t5_1 t6_0) : (Int32 × Int32 × (Nat → Int32)))))) else (if x2 = (1 : Int32) then ((0 ≤ x3.toInt) ∧ ((x3.toInt ≤ 9) ∧ (S_NH_makeWhole_c38 x2 x3 t0_0 t0_1 t1_0 t1_1 t2_0 t3_0 t4_0 t5_0 t5_1 t6_0 t7_0 t7_1 t8_0 t8_1 t9_0 ((F_DW_towardsZero (108 : Int32) t0_0 t0_1 t1_0 t1_1 t2_0 t7_0 t7_1 t8_0 t8_1 t9_0) : (Int32 × Int32 × Int32 × (Nat → Int32)))))) else (if x2 = (2 : Int32) then (if x2 = (2 : Int32) then ((0 ≤ x3.toInt) ∧ ((x3.toInt ≤ 9) ∧ (if (F_NH_canHave ((F_Flo_isFinite (52 : Int32) (1075 : Int32) (2047 : Int32) (t3_0 x3.toNatClampNeg : Int64)) : Int32)) = (0 : Int32) then (S_NH_makeWhole_c74 x2 x3 t0_0 t0_1 t1_0 t1_1 t2_0 t3_0 t4_0 t5_0 t5_1 t6_0 t7_0 t7_1 t8_0 t8_1 t9_0 (t3_0 x3.toNatClampNeg : Int64) ((F_Flo_towardsZero (52 : Int32) (1075 : Int32) (2047 : Int32) (t3_0 x3.toNatClampNeg : Int64) t1_0 t1_1 t2_0) : (Int32 × Int32 × (Nat → Int32)))) else (True)))) else ((0 ≤ x3.toInt) ∧ ((x3.toInt ≤ 9) ∧ (if (F_NH_canHave ((F_Flo_isFinite (52 : Int32) (1075 : Int32) (2047 : Int32) (t4_0 x3.toNatClampNeg : Int64)) : Int32)) = (0 : Int32) then (S_NH_makeWhole_c74_2 x2 x3 t0_0 t0_1 t1_0 t1_1 t2_0 t3_0 t4_0 t5_0 t5_1 t6_0 t7_0 t7_1 t8_0 t8_1 t9_0 (t4_0 x3.toNatClampNeg : Int64) ((F_Flo_towardsZero (52 : Int32) (1075 : Int32) (2047 : Int32) (t4_0 x3.toNatClampNeg : Int64) t1_0 t1_1 t2_0) : (Int32 × Int32 × (Nat → Int32)))) else (True))))) else (if x2 = (2 : Int32) then ((0 ≤ x3.toInt) ∧ ((x3.toInt ≤ 9) ∧ (if (F_NH_canHave ((F_Flo_isFinite (23 : Int32) (150 : Int32) (255 : Int32) (t3_0 x3.toNatClampNeg : Int64)) : Int32)) = (0 : Int32) then (S_NH_makeWhole_c74_3 x2 x3 t0_0 t0_1 t1_0 t1_1 t2_0 t3_0 t4_0 t5_0 t5_1 t6_0 t7_0 t7_1 t8_0 t8_1 t9_0 (t3_0 x3.toNatClampNeg : Int64) ((F_Flo_towardsZero (23 : Int32) (150 : Int32) (255 : Int32) (t3_0 x3.toNatClampNeg : Int64) t1_0 t1_1 t2_0) : (Int32 × Int32 × (Nat → Int32)))) else (True)))) else ((0 ≤ x3.toInt) ∧ ((x3.toInt ≤ 9) ∧ (if (F_NH_canHave ((F_Flo_isFinite (23 : Int32) (150 : Int32) (255 : Int32) (t4_0 x3.toNatClampNeg : Int64)) : Int32)) = (0 : Int32) then (S_NH_makeWhole_c74_4 x2 x3 t0_0 t0_1 t1_0 t1_1 t2_0 t3_0 t4_0 t5_0 t5_1 t6_0 t7_0 t7_1 t8_0 t8_1 t9_0 (t4_0 x3.toNatClampNeg : Int64) ((F_Flo_towardsZero (23 : Int32) (150 : Int32) (255 : Int32) (t4_0 x3.toNatClampNeg : Int64) t1_0 t1_1 t2_0) : (Int32 × Int32 × (Nat → Int32)))) else (True)))))))
set_option maxRecDepth 100000 in
set_option maxHeartbeats 4000000 in
theorem X_NH_makeWhole (l : Launch) (D : va_G) (g : Nat → ClassId) (q : Nat → Nat) (ws : va_W) (x2 : Int32) (x3 : Int32) (k3 : Nat) (hBk3 : q_isBig (nsh g q) g q k3 68) (yk3 : 66 ≤ k3) (gk3x3 : x3.toNatClampNeg < 10 → k3 = 66 + 5 * x3.toNatClampNeg) (d3 : Nat) (hBd3 : q_isDec (nsh g q) g q d3 108) (yd3 : 66 ≤ d3) (gd3x3 : x3.toNatClampNeg < 10 → d3 = 68 + 5 * x3.toNatClampNeg) (ne_k3_d3 : k3 ≠ d3) (ne_k3_d3p1 : k3 ≠ d3 + 1) (ne_k3_d3p2 : k3 ≠ d3 + 2) (ne_d3_k3p1 : d3 ≠ k3 + 1) (hlt : l.stackTraces = false) (hI : q_I (nsh g q) q ws) (t0_0 : Int64) (t0_1 : Int32) (hT0 : ws[30]? = (some (q 30, .inr (5, [.ref (q 31), .long t0_0, .ref (q 9), .int t0_1])) : Option (Nat × va_E))) (t1_0 : Int32) (t1_1 : Int32) (hT1 : ws[10]? = (some (q 10, .inr (2, [.ref (q 11), .int t1_0, .int t1_1])) : Option (Nat × va_E))) (t2_0 : (Nat → Int32)) (hT2 : ws[11]? = (some (q 11, .inl (g 0, (220 : Int32).toNatClampNeg, .inl t2_0)) : Option (Nat × va_E))) (t3_0 : (Nat → Int64)) (hT3 : ws[7]? = (some (q 7, .inl (g 1, 10, .inr (.inl t3_0))) : Option (Nat × va_E))) (t4_0 : (Nat → Int64)) (hT4 : ws[8]? = (some (q 8, .inl (g 1, 10, .inr (.inl t4_0))) : Option (Nat × va_E))) (t5_0 : Int32) (t5_1 : Int32) (hT5 : ws[k3]? = (some (q k3, .inr (2, [.ref (q (k3 + 1)), .int t5_0, .int t5_1])) : Option (Nat × va_E))) (t6_0 : (Nat → Int32)) (hT6 : ws[k3 + 1]? = (some (q (k3 + 1), .inl (g 0, (68 : Int32).toNatClampNeg, .inl t6_0)) : Option (Nat × va_E))) (t7_0 : Int32) (t7_1 : Int32) (hT7 : ws[d3]? = (some (q d3, .inr (3, [.ref (q (d3 + 1)), .int t7_0, .int t7_1])) : Option (Nat × va_E))) (t8_0 : Int32) (t8_1 : Int32) (hT8 : ws[d3 + 1]? = (some (q (d3 + 1), .inr (2, [.ref (q (d3 + 2)), .int t8_0, .int t8_1])) : Option (Nat × va_E))) (t9_0 : (Nat → Int32)) (hT9 : ws[d3 + 2]? = (some (q (d3 + 2), .inl (g 0, (108 : Int32).toNatClampNeg, .inl t9_0)) : Option (Nat × va_E))) (hS : True ∧ S_NH_makeWhole x2 x3 t0_0 t0_1 t1_0 t1_1 t2_0 t3_0 t4_0 t5_0 t5_1 t6_0 t7_0 t7_1 t8_0 t8_1 t9_0) : ∀ sz, q_Mx l y_NH_makeWhole prog_1_method_25_code 6 none 8 1 6 D g [.ref (q 0), .int x2, .int x3] ws sz (va_Qv (fun u => q_I (nsh g q) q u ∧ q_un ws u [10, 11] ∧ ∃ (u1_0 : Int32) (u1_1 : Int32) (u2_0 : (Nat → Int32)), u[10]? = (some (q 10, .inr (2, [.ref (q 11), .int u1_0, .int u1_1])) : Option (Nat × va_E)) ∧ u[11]? = (some (q 11, .inl (g 0, (220 : Int32).toNatClampNeg, .inl u2_0)) : Option (Nat × va_E)) ∧ (0 ≤ u1_0.toInt) ∧ (u1_0.toInt ≤ 220) ∧ (0 ≤ u1_1.toInt) ∧ (u1_1.toInt ≤ 1) ∧ (x3.toInt ≤ u1_0.toInt + 9) ∧ (u1_0.toInt ≤ x3.toInt + 220) ∧ (x3.toInt ≤ u1_1.toInt + 9) ∧ (u1_1.toInt ≤ x3.toInt + 1) ∧ ((0 : Int32), u1_0, u1_1, u2_0) = (F_NH_makeWhole x2 x3 t0_0 t0_1 t1_0 t1_1 t2_0 t3_0 t4_0 t5_0 t5_1 t6_0 t7_0 t7_1 t8_0 t8_1 t9_0)) (q_B D g (va_A ws sz)) (va_A ws sz)) (fun E u => ∃ c : Int32, E = qE c ∧ c ≠ 0 ∧ q_I (nsh g q) q u ∧ q_un ws u [10, 11] ∧ ∃ (u1_0 : Int32) (u1_1 : Int32) (u2_0 : (Nat → Int32)), u[10]? = (some (q 10, .inr (2, [.ref (q 11), .int u1_0, .int u1_1])) : Option (Nat × va_E)) ∧ u[11]? = (some (q 11, .inl (g 0, (220 : Int32).toNatClampNeg, .inl u2_0)) : Option (Nat × va_E)) ∧ (c, u1_0, u1_1, u2_0) = (F_NH_makeWhole x2 x3 t0_0 t0_1 t1_0 t1_1 t2_0 t3_0 t4_0 t5_0 t5_1 t6_0 t7_0 t7_1 t8_0 t8_1 t9_0)) := by
  intro sz
  refine q_intoX (by decide) (Nat.le_of_ble_eq_true rfl) ?_
  intro p e s m below meth c ls hsz C0 V hno hl
  have hx := C0.1
  have hb := C0.2.1
  obtain ⟨yy0_0, yy0_1, hh0, btt0_1⟩ := n_o30 hI
  obtain ⟨rfl, rfl⟩ : t0_0 = yy0_0 ∧ t0_1 = yy0_1 := by have z := Option.some.inj (hT0.symm.trans hh0); simpa using z
  replace btt0_1 : q_F (0 ≤ t0_1.toInt ∧ t0_1.toInt ≤ 1) := btt0_1
  obtain ⟨yy1_0, yy1_1, hh1, btt1_0, btt1_1⟩ := q_bigO hI (n_b10 g q)
  obtain ⟨rfl, rfl⟩ : t1_0 = yy1_0 ∧ t1_1 = yy1_1 := by have z := Option.some.inj (hT1.symm.trans hh1); simpa using z
  replace btt1_0 : q_F (0 ≤ t1_0.toInt ∧ t1_0.toInt ≤ 220) := btt1_0
  replace btt1_1 : q_F (0 ≤ t1_1.toInt ∧ t1_1.toInt ≤ 1) := btt1_1
  obtain ⟨yy5_0, yy5_1, hh5, btt5_0, btt5_1⟩ := q_bigO hI hBk3
  obtain ⟨rfl, rfl⟩ : t5_0 = yy5_0 ∧ t5_1 = yy5_1 := by have z := Option.some.inj (hT5.symm.trans hh5); simpa using z
  replace btt5_0 : q_F (0 ≤ t5_0.toInt ∧ t5_0.toInt ≤ 68) := btt5_0
  replace btt5_1 : q_F (0 ≤ t5_1.toInt ∧ t5_1.toInt ≤ 1) := btt5_1
  obtain ⟨yy7_0, yy7_1, hh7, btt7_0, btt7_1⟩ := n_deO hI hBd3
  obtain ⟨rfl, rfl⟩ : t7_0 = yy7_0 ∧ t7_1 = yy7_1 := by have z := Option.some.inj (hT7.symm.trans hh7); simpa using z
  replace btt7_0 : q_F (-10000 ≤ t7_0.toInt ∧ t7_0.toInt ≤ 10000) := btt7_0
  replace btt7_1 : q_F (1 ≤ t7_1.toInt ∧ t7_1.toInt ≤ 1000) := btt7_1
  obtain ⟨yy8_0, yy8_1, hh8, btt8_0, btt8_1⟩ := q_bigO hI hBd3.2
  obtain ⟨rfl, rfl⟩ : t8_0 = yy8_0 ∧ t8_1 = yy8_1 := by have z := Option.some.inj (hT8.symm.trans hh8); simpa using z
  replace btt8_0 : q_F (0 ≤ t8_0.toInt ∧ t8_0.toInt ≤ 108) := btt8_0
  replace btt8_1 : q_F (0 ≤ t8_1.toInt ∧ t8_1.toInt ≤ 1) := btt8_1
  have hF : q_un ws ws [10, 11] := q_u0
  have hl : lv_has ls 6 [(0, .ref (q 0)), (1, .int x2), (2, .int x3)] := hl
  refine lv_iload_n hx hb d_1_25_0 rfl (lv_at hl 1 rfl) ?_
  refine lv_if_ne (tgt := 23) hx hb d_1_25_1 (by decide) (fun c38 => ?_) (fun c38 => ?_)
  ·
    have b39 : q_F (x2.toInt ≠ 0) := (q_neI c38)
    refine lv_iload_n hx hb d_1_25_23 rfl (lv_at hl 1 rfl) ?_
    refine lv_iconst (v := 1) hx hb d_1_25_24 (by decide) ?_
    refine lv_icmp_ne (tgt := 47) hx hb d_1_25_25 (by decide) (fun c40 => ?_) (fun c40 => ?_)
    ·
      have b41 : q_F (x2.toInt ≠ 1) := (q_neI c40)
      refine lv_aload_n hx hb d_1_25_47 rfl (lv_at hl 0 rfl) ?_
      refine lv_iload_n hx hb d_1_25_48 rfl (lv_at hl 1 rfl) ?_
      have hO42 := n_o0 hI
      refine q_gor (post := fun r u => ws = u ∧ r = q (F_NH_floatsOf x2)) V (q_runV (As := [.int x2]) (rest := []) (d := 1) (mc := 0) (ms := 0) (ci := 0) C0 V rfl LV_NH_130 (X_NH_floatsOf l D g q ws  x2 hI   _) rfl rfl hO42 rfl hl.1 rfl (Nat.le_of_ble_eq_true rfl) ⟨by decide, by decide⟩ ⟨Nat.le_of_ble_eq_true rfl, Nat.le_of_ble_eq_true rfl⟩ d_1_25_49) (fun a45 u43 H locs hp44 V => ?_)
      obtain ⟨rfl, hr46⟩ := hp44
      by_cases c47 : x2 = (2 : Int32)
      ·
        have hr48 : a45 = q 34 := hr46.trans (congrArg q (by unfold F_NH_floatsOf; rw [if_pos c47]))
        subst hr48
        have b49 : q_F (x2.toInt = 2) := (q_eqI c47)
        refine lv_astore_n (lv' := [(3, .ref (q 34)), (0, .ref (q 0)), (1, .int x2), (2, .int x3)]) hx hb d_1_25_52 rfl hl (by decide) rfl (fun ls hl => ?_)
        refine lv_aload_n hx hb d_1_25_53 rfl (lv_at hl 1 rfl) ?_
        refine lv_iload_n hx hb d_1_25_54 rfl (lv_at hl 2 rfl) ?_
        refine q_gor (post := fun r u => ws = u ∧ r = q (F_NH_floatRow x2)) V (q_runV (As := [.int x2]) (rest := []) (d := 1) (mc := 0) (ms := 0) (ci := 0) C0 V rfl LV_NH_157 (X_NH_floatRow l D g q ws  x2 hI   _) rfl rfl hO42 rfl hl.1 rfl (Nat.le_of_ble_eq_true rfl) ⟨by decide, by decide⟩ ⟨Nat.le_of_ble_eq_true rfl, Nat.le_of_ble_eq_true rfl⟩ d_1_25_55) (fun a52 u50 H locs hp51 V => ?_)
        obtain ⟨rfl, hr53⟩ := hp51
        by_cases c54 : x2 = (2 : Int32)
        ·
          have hr55 : a52 = q 7 := hr53.trans (congrArg q (by unfold F_NH_floatRow; rw [if_pos c54]))
          subst hr55
          have b56 : q_F (x2.toInt = 2) := (q_eqI c54)
          refine lv_iload_n hx hb d_1_25_58 rfl (lv_at hl 3 rfl) ?_
          have ob57 : q_F (0 ≤ x3.toInt) := (by have h := hS; rw [S_NH_makeWhole.eq_1] at h; rw [if_neg c38] at h; rw [if_neg c40] at h; rw [if_pos c47] at h; rw [if_pos c54] at h; exact h.2.1)
          have ob58 : q_F (x3.toInt ≤ 9) := (by have h := hS; rw [S_NH_makeWhole.eq_1] at h; rw [if_neg c38] at h; rw [if_neg c40] at h; rw [if_pos c47] at h; rw [if_pos c54] at h; replace h := q_s2 h; exact h.2.1)
          refine q_lald C0 V hT3 (q_ix (x := x3.toInt) rfl (by have t1 : 0 ≤ x3.toInt := ob57; omega) (by have t1 : 0 ≤ x3.toInt := ob57; have t2 : x3.toInt ≤ 9 := ob58; omega)) d_1_25_59 ?_
          obtain ⟨j59, e60⟩ := q_nm (t3_0 x3.toNatClampNeg : Int64)
          refine q_tl (v := j59) e60 ?_
          refine lv_lstore (lv' := [(4, .long j59), (3, .ref (q 34)), (0, .ref (q 0)), (1, .int x2), (2, .int x3)]) hx hb d_1_25_60 hl (by decide) rfl (fun ls hl => ?_)
          refine lv_aload_n hx hb d_1_25_62 rfl (lv_at hl 1 rfl) ?_
          refine lv_lload hx hb d_1_25_63 (lv_at hl 0 rfl) ?_
          obtain ⟨y62, y63, y64, hO61⟩ := n_flO hI (n_f34 g q)
          refine q_goi V (q_runV (As := [.long j59]) (rest := []) (d := 2) (mc := 0) (ms := 0) (ci := 6) C0 V rfl LV_NH_179 (X_Flo_isFinite l D g q ws 34 52 1075 2047 (n_f34 g q) j59 hI   _) rfl rfl hO61 rfl hl.1 rfl (Nat.le_of_ble_eq_true rfl) ⟨by decide, by decide⟩ ⟨Nat.le_of_ble_eq_true rfl, Nat.le_of_ble_eq_true rfl⟩ d_1_25_65) (fun a67 u65 H locs hp66 V => ?_)
          obtain ⟨rfl, b68, b69, hE70⟩ := hp66
          have e71 : a67 = (F_Flo_isFinite (52 : Int32) (1075 : Int32) (2047 : Int32) j59) := hE70
          replace b68 : q_F (0 ≤ a67.toInt) := b68
          replace b69 : q_F (a67.toInt ≤ 1) := b69
          refine q_goxv V (q_runSX (As := [.int a67]) (rest := []) (d := 7) (mc := 1) (ms := 6) C0 V rfl LS_NH_138 (X_NH_canHave l D g q ws  a67 hlt hI  ⟨(by have t1 : 0 ≤ a67.toInt := b68; omega), (by have t1 : a67.toInt ≤ 1 := b69; omega)⟩ _) rfl hl.1 rfl (Nat.le_of_ble_eq_true rfl) ⟨by decide, by decide⟩ ⟨Nat.le_of_ble_eq_true rfl, Nat.le_of_ble_eq_true rfl⟩ d_1_25_68) (fun qx Ex ce u72 H locs hp73 V hce hcv hcl => ?_) (fun u72 H locs hp73 V => ?_)
          ·
            obtain ⟨cx75, he76, hc77, rfl, hE74⟩ := hp73
            have c78 : ¬ (F_NH_canHave a67) = (0 : Int32) := fun z => hc77 (((hE74) : cx75 = _).trans z)
            exact q_outT hno C0 V (⟨(F_NH_canHave a67), (he76.trans (congrArg qE ((hE74) : cx75 = _))), c78, hI, hF, t1_0, t1_1, t2_0, hT1, hT2, (show ((F_NH_canHave a67), t1_0, t1_1, t2_0) = (F_NH_makeWhole x2 x3 t0_0 t0_1 t1_0 t1_1 t2_0 t3_0 t4_0 t5_0 t5_1 t6_0 t7_0 t7_1 t8_0 t8_1 t9_0) from (by have c78x := c78; rw [e71, ← e60] at c78x; rw [e71, ← e60, F_NH_makeWhole.eq_1, if_neg c38, if_neg c40, if_pos c47, if_pos c54, if_neg c78x]))⟩) hce hcv hcl (Nat.le_of_ble_eq_true rfl) (Nat.le_of_ble_eq_true rfl)
          ·
            obtain ⟨rfl, hE79⟩ := hp73
            have c78 : (F_NH_canHave a67) = (0 : Int32) := ((hE79) : (0 : Int32) = _).symm
            refine lv_aload_n hx hb d_1_25_71 rfl (lv_at hl 1 rfl) ?_
            refine lv_lload hx hb d_1_25_72 (lv_at hl 0 rfl) ?_
            refine q_gov V (q_runV (As := [.long j59]) (rest := []) (d := 4) (mc := 0) (ms := 0) (ci := 6) C0 V rfl LV_NH_403 (X_Flo_towardsZero l D g q ws 34 52 1075 2047 (n_f34 g q) j59 hI t1_0 t1_1 hT1 t2_0 hT2  _) rfl rfl hO61 rfl hl.1 rfl (Nat.le_of_ble_eq_true rfl) ⟨by decide, by decide⟩ ⟨Nat.le_of_ble_eq_true rfl, Nat.le_of_ble_eq_true rfl⟩ d_1_25_74) (fun u81 H locs hp82 V => ?_)
            obtain ⟨hI, hu93, y84, y85, f86, hO83, hA87, b88, b89, b90, b91, hE92⟩ := hp82
            replace hO83 : u81[10]? = (some (q 10, .inr (2, [.ref (q 11), .int y84, .int y85])) : Option (Nat × va_E)) := hO83
            replace hA87 : u81[11]? = (some (q 11, .inl (g 0, (220 : Int32).toNatClampNeg, .inl f86)) : Option (Nat × va_E)) := hA87
            obtain ⟨p94, e95⟩ : ∃ z, z = (F_Flo_towardsZero (52 : Int32) (1075 : Int32) (2047 : Int32) j59 t1_0 t1_1 t2_0) := ⟨_, rfl⟩
            have e96 : y84 = p94.1 := congrArg (fun z => z.1) (hE92.trans e95.symm)
            have e97 : y85 = p94.2.1 := congrArg (fun z => z.2.1) (hE92.trans e95.symm)
            have e98 : f86 = p94.2.2 := congrArg (fun z => z.2.2) (hE92.trans e95.symm)
            replace b88 : q_F (y84.toInt ≤ 220) := b88
            replace b89 : q_F (0 ≤ y85.toInt) := b89
            replace b90 : q_F (y85.toInt ≤ 1) := b90
            replace b91 : q_F (y85.toInt ≤ y84.toInt) := b91
            replace hT0 := (hu93 _ (by decide)).trans hT0
            replace hT3 := (hu93 _ (by decide)).trans hT3
            replace hT4 := (hu93 _ (by decide)).trans hT4
            replace hT5 := (hu93 _ (by have z0 := yk3; simp only [List.mem_cons, List.not_mem_nil, or_false, not_or]; omega)).trans hT5
            replace hT6 := (hu93 _ (by have z0 := yk3; simp only [List.mem_cons, List.not_mem_nil, or_false, not_or]; omega)).trans hT6
            replace hT7 := (hu93 _ (by have z0 := yd3; simp only [List.mem_cons, List.not_mem_nil, or_false, not_or]; omega)).trans hT7
            replace hT8 := (hu93 _ (by have z0 := yd3; simp only [List.mem_cons, List.not_mem_nil, or_false, not_or]; omega)).trans hT8
            replace hT9 := (hu93 _ (by have z0 := yd3; simp only [List.mem_cons, List.not_mem_nil, or_false, not_or]; omega)).trans hT9
            replace hO42 := (hu93 _ (by decide)).trans hO42
            replace hO61 := (hu93 _ (by decide)).trans hO61
            replace hF := q_uc hF hu93 (by simp)
            have hR99 := (show F_NH_makeWhole_c74 x2 x3 t0_0 t0_1 t1_0 t1_1 t2_0 t3_0 t4_0 t5_0 t5_1 t6_0 t7_0 t7_1 t8_0 t8_1 t9_0 j59 p94 = (F_NH_makeWhole x2 x3 t0_0 t0_1 t1_0 t1_1 t2_0 t3_0 t4_0 t5_0 t5_1 t6_0 t7_0 t7_1 t8_0 t8_1 t9_0) from (by have c78x := c78; rw [e71, ← e60] at c78x; rw [e95, ← e60, F_NH_makeWhole.eq_1, if_neg c38, if_neg c40, if_pos c47, if_pos c54, if_pos c78x]))
            have hS100 := (show True ∧ S_NH_makeWhole_c74 x2 x3 t0_0 t0_1 t1_0 t1_1 t2_0 t3_0 t4_0 t5_0 t5_1 t6_0 t7_0 t7_1 t8_0 t8_1 t9_0 j59 p94 from (by rw [e95, ← e60]; have h := hS; rw [S_NH_makeWhole.eq_1] at h; rw [if_neg c38] at h; rw [if_neg c40] at h; rw [if_pos c47] at h; rw [if_pos c54] at h; replace h := q_s2 h; replace h := q_s2 h; have c78x := c78; rw [e71, ← e60] at c78x; rw [if_pos c78x] at h; with_reducible exact h))
            exact q_retX (q_retv C0 V (⟨hI, hF, y84, y85, f86, hO83, hA87, (show 0 ≤ y84.toInt from (by have t1 : 0 ≤ y85.toInt := b89; have t2 : y85.toInt ≤ y84.toInt := b91; omega)), (show y84.toInt ≤ 220 from (by have t1 : y84.toInt ≤ 220 := b88; omega)), (show 0 ≤ y85.toInt from (by have t1 : 0 ≤ y85.toInt := b89; omega)), (show y85.toInt ≤ 1 from (by have t1 : y85.toInt ≤ 1 := b90; omega)), (show x3.toInt ≤ y84.toInt + 9 from (by have t1 : x3.toInt ≤ 9 := ob58; have t2 : 0 ≤ y85.toInt := b89; have t3 : y85.toInt ≤ y84.toInt := b91; omega)), (show y84.toInt ≤ x3.toInt + 220 from (by have t1 : 0 ≤ x3.toInt := ob57; have t2 : y84.toInt ≤ 220 := b88; omega)), (show x3.toInt ≤ y85.toInt + 9 from (by have t1 : x3.toInt ≤ 9 := ob58; have t2 : 0 ≤ y85.toInt := b89; omega)), (show y85.toInt ≤ x3.toInt + 1 from (by have t1 : 0 ≤ x3.toInt := ob57; have t2 : y85.toInt ≤ 1 := b90; omega)), (show ((0 : Int32), y84, y85, f86) = (F_NH_makeWhole x2 x3 t0_0 t0_1 t1_0 t1_1 t2_0 t3_0 t4_0 t5_0 t5_1 t6_0 t7_0 t7_1 t8_0 t8_1 t9_0) from Eq.trans (by rw [e98, e97, e96, F_NH_makeWhole_c74.eq_1]) hR99)⟩) d_1_25_77)
        ·
          have hr104 : a52 = q 8 := hr53.trans (congrArg q (by unfold F_NH_floatRow; rw [if_neg c54]))
          subst hr104
          have b105 : q_F (x2.toInt ≠ 2) := (q_neI c54)
          refine lv_iload_n hx hb d_1_25_58 rfl (lv_at hl 3 rfl) ?_
          have ob106 : q_F (0 ≤ x3.toInt) := (by have h := hS; rw [S_NH_makeWhole.eq_1] at h; rw [if_neg c38] at h; rw [if_neg c40] at h; rw [if_pos c47] at h; rw [if_neg c54] at h; exact h.2.1)
          have ob107 : q_F (x3.toInt ≤ 9) := (by have h := hS; rw [S_NH_makeWhole.eq_1] at h; rw [if_neg c38] at h; rw [if_neg c40] at h; rw [if_pos c47] at h; rw [if_neg c54] at h; replace h := q_s2 h; exact h.2.1)
          refine q_lald C0 V hT4 (q_ix (x := x3.toInt) rfl (by have t1 : 0 ≤ x3.toInt := ob106; omega) (by have t1 : 0 ≤ x3.toInt := ob106; have t2 : x3.toInt ≤ 9 := ob107; omega)) d_1_25_59 ?_
          obtain ⟨j108, e109⟩ := q_nm (t4_0 x3.toNatClampNeg : Int64)
          refine q_tl (v := j108) e109 ?_
          refine lv_lstore (lv' := [(4, .long j108), (3, .ref (q 34)), (0, .ref (q 0)), (1, .int x2), (2, .int x3)]) hx hb d_1_25_60 hl (by decide) rfl (fun ls hl => ?_)
          refine lv_aload_n hx hb d_1_25_62 rfl (lv_at hl 1 rfl) ?_
          refine lv_lload hx hb d_1_25_63 (lv_at hl 0 rfl) ?_
          obtain ⟨y111, y112, y113, hO110⟩ := n_flO hI (n_f34 g q)
          refine q_goi V (q_runV (As := [.long j108]) (rest := []) (d := 2) (mc := 0) (ms := 0) (ci := 6) C0 V rfl LV_NH_179 (X_Flo_isFinite l D g q ws 34 52 1075 2047 (n_f34 g q) j108 hI   _) rfl rfl hO110 rfl hl.1 rfl (Nat.le_of_ble_eq_true rfl) ⟨by decide, by decide⟩ ⟨Nat.le_of_ble_eq_true rfl, Nat.le_of_ble_eq_true rfl⟩ d_1_25_65) (fun a116 u114 H locs hp115 V => ?_)
          obtain ⟨rfl, b117, b118, hE119⟩ := hp115
          have e120 : a116 = (F_Flo_isFinite (52 : Int32) (1075 : Int32) (2047 : Int32) j108) := hE119
          replace b117 : q_F (0 ≤ a116.toInt) := b117
          replace b118 : q_F (a116.toInt ≤ 1) := b118
          refine q_goxv V (q_runSX (As := [.int a116]) (rest := []) (d := 7) (mc := 1) (ms := 6) C0 V rfl LS_NH_138 (X_NH_canHave l D g q ws  a116 hlt hI  ⟨(by have t1 : 0 ≤ a116.toInt := b117; omega), (by have t1 : a116.toInt ≤ 1 := b118; omega)⟩ _) rfl hl.1 rfl (Nat.le_of_ble_eq_true rfl) ⟨by decide, by decide⟩ ⟨Nat.le_of_ble_eq_true rfl, Nat.le_of_ble_eq_true rfl⟩ d_1_25_68) (fun qx Ex ce u121 H locs hp122 V hce hcv hcl => ?_) (fun u121 H locs hp122 V => ?_)
          ·
            obtain ⟨cx124, he125, hc126, rfl, hE123⟩ := hp122
            have c127 : ¬ (F_NH_canHave a116) = (0 : Int32) := fun z => hc126 (((hE123) : cx124 = _).trans z)
            exact q_outT hno C0 V (⟨(F_NH_canHave a116), (he125.trans (congrArg qE ((hE123) : cx124 = _))), c127, hI, hF, t1_0, t1_1, t2_0, hT1, hT2, (show ((F_NH_canHave a116), t1_0, t1_1, t2_0) = (F_NH_makeWhole x2 x3 t0_0 t0_1 t1_0 t1_1 t2_0 t3_0 t4_0 t5_0 t5_1 t6_0 t7_0 t7_1 t8_0 t8_1 t9_0) from (by have c127x := c127; rw [e120, ← e109] at c127x; rw [e120, ← e109, F_NH_makeWhole.eq_1, if_neg c38, if_neg c40, if_pos c47, if_neg c54, if_neg c127x]))⟩) hce hcv hcl (Nat.le_of_ble_eq_true rfl) (Nat.le_of_ble_eq_true rfl)
          ·
            obtain ⟨rfl, hE128⟩ := hp122
            have c127 : (F_NH_canHave a116) = (0 : Int32) := ((hE128) : (0 : Int32) = _).symm
            refine lv_aload_n hx hb d_1_25_71 rfl (lv_at hl 1 rfl) ?_
            refine lv_lload hx hb d_1_25_72 (lv_at hl 0 rfl) ?_
            refine q_gov V (q_runV (As := [.long j108]) (rest := []) (d := 4) (mc := 0) (ms := 0) (ci := 6) C0 V rfl LV_NH_403 (X_Flo_towardsZero l D g q ws 34 52 1075 2047 (n_f34 g q) j108 hI t1_0 t1_1 hT1 t2_0 hT2  _) rfl rfl hO110 rfl hl.1 rfl (Nat.le_of_ble_eq_true rfl) ⟨by decide, by decide⟩ ⟨Nat.le_of_ble_eq_true rfl, Nat.le_of_ble_eq_true rfl⟩ d_1_25_74) (fun u130 H locs hp131 V => ?_)
            obtain ⟨hI, hu142, y133, y134, f135, hO132, hA136, b137, b138, b139, b140, hE141⟩ := hp131
            replace hO132 : u130[10]? = (some (q 10, .inr (2, [.ref (q 11), .int y133, .int y134])) : Option (Nat × va_E)) := hO132
            replace hA136 : u130[11]? = (some (q 11, .inl (g 0, (220 : Int32).toNatClampNeg, .inl f135)) : Option (Nat × va_E)) := hA136
            obtain ⟨p143, e144⟩ : ∃ z, z = (F_Flo_towardsZero (52 : Int32) (1075 : Int32) (2047 : Int32) j108 t1_0 t1_1 t2_0) := ⟨_, rfl⟩
            have e145 : y133 = p143.1 := congrArg (fun z => z.1) (hE141.trans e144.symm)
            have e146 : y134 = p143.2.1 := congrArg (fun z => z.2.1) (hE141.trans e144.symm)
            have e147 : f135 = p143.2.2 := congrArg (fun z => z.2.2) (hE141.trans e144.symm)
            replace b137 : q_F (y133.toInt ≤ 220) := b137
            replace b138 : q_F (0 ≤ y134.toInt) := b138
            replace b139 : q_F (y134.toInt ≤ 1) := b139
            replace b140 : q_F (y134.toInt ≤ y133.toInt) := b140
            replace hT0 := (hu142 _ (by decide)).trans hT0
            replace hT3 := (hu142 _ (by decide)).trans hT3
            replace hT4 := (hu142 _ (by decide)).trans hT4
            replace hT5 := (hu142 _ (by have z0 := yk3; simp only [List.mem_cons, List.not_mem_nil, or_false, not_or]; omega)).trans hT5
            replace hT6 := (hu142 _ (by have z0 := yk3; simp only [List.mem_cons, List.not_mem_nil, or_false, not_or]; omega)).trans hT6
            replace hT7 := (hu142 _ (by have z0 := yd3; simp only [List.mem_cons, List.not_mem_nil, or_false, not_or]; omega)).trans hT7
            replace hT8 := (hu142 _ (by have z0 := yd3; simp only [List.mem_cons, List.not_mem_nil, or_false, not_or]; omega)).trans hT8
            replace hT9 := (hu142 _ (by have z0 := yd3; simp only [List.mem_cons, List.not_mem_nil, or_false, not_or]; omega)).trans hT9
            replace hO42 := (hu142 _ (by decide)).trans hO42
            replace hO110 := (hu142 _ (by decide)).trans hO110
            replace hF := q_uc hF hu142 (by simp)
            have hR148 := (show F_NH_makeWhole_c74_2 x2 x3 t0_0 t0_1 t1_0 t1_1 t2_0 t3_0 t4_0 t5_0 t5_1 t6_0 t7_0 t7_1 t8_0 t8_1 t9_0 j108 p143 = (F_NH_makeWhole x2 x3 t0_0 t0_1 t1_0 t1_1 t2_0 t3_0 t4_0 t5_0 t5_1 t6_0 t7_0 t7_1 t8_0 t8_1 t9_0) from (by have c127x := c127; rw [e120, ← e109] at c127x; rw [e144, ← e109, F_NH_makeWhole.eq_1, if_neg c38, if_neg c40, if_pos c47, if_neg c54, if_pos c127x]))
            have hS149 := (show True ∧ S_NH_makeWhole_c74_2 x2 x3 t0_0 t0_1 t1_0 t1_1 t2_0 t3_0 t4_0 t5_0 t5_1 t6_0 t7_0 t7_1 t8_0 t8_1 t9_0 j108 p143 from (by rw [e144, ← e109]; have h := hS; rw [S_NH_makeWhole.eq_1] at h; rw [if_neg c38] at h; rw [if_neg c40] at h; rw [if_pos c47] at h; rw [if_neg c54] at h; replace h := q_s2 h; replace h := q_s2 h; have c127x := c127; rw [e120, ← e109] at c127x; rw [if_pos c127x] at h; with_reducible exact h))
            exact q_retX (q_retv C0 V (⟨hI, hF, y133, y134, f135, hO132, hA136, (show 0 ≤ y133.toInt from (by have t1 : 0 ≤ y134.toInt := b138; have t2 : y134.toInt ≤ y133.toInt := b140; omega)), (show y133.toInt ≤ 220 from (by have t1 : y133.toInt ≤ 220 := b137; omega)), (show 0 ≤ y134.toInt from (by have t1 : 0 ≤ y134.toInt := b138; omega)), (show y134.toInt ≤ 1 from (by have t1 : y134.toInt ≤ 1 := b139; omega)), (show x3.toInt ≤ y133.toInt + 9 from (by have t1 : x3.toInt ≤ 9 := ob107; have t2 : 0 ≤ y134.toInt := b138; have t3 : y134.toInt ≤ y133.toInt := b140; omega)), (show y133.toInt ≤ x3.toInt + 220 from (by have t1 : 0 ≤ x3.toInt := ob106; have t2 : y133.toInt ≤ 220 := b137; omega)), (show x3.toInt ≤ y134.toInt + 9 from (by have t1 : x3.toInt ≤ 9 := ob107; have t2 : 0 ≤ y134.toInt := b138; omega)), (show y134.toInt ≤ x3.toInt + 1 from (by have t1 : 0 ≤ x3.toInt := ob106; have t2 : y134.toInt ≤ 1 := b139; omega)), (show ((0 : Int32), y133, y134, f135) = (F_NH_makeWhole x2 x3 t0_0 t0_1 t1_0 t1_1 t2_0 t3_0 t4_0 t5_0 t5_1 t6_0 t7_0 t7_1 t8_0 t8_1 t9_0) from Eq.trans (by rw [e147, e146, e145, F_NH_makeWhole_c74_2.eq_1]) hR148)⟩) d_1_25_77)
      ·
        have hr153 : a45 = q 35 := hr46.trans (congrArg q (by unfold F_NH_floatsOf; rw [if_neg c47]))
        subst hr153
        have b154 : q_F (x2.toInt ≠ 2) := (q_neI c47)
        refine lv_astore_n (lv' := [(3, .ref (q 35)), (0, .ref (q 0)), (1, .int x2), (2, .int x3)]) hx hb d_1_25_52 rfl hl (by decide) rfl (fun ls hl => ?_)
        refine lv_aload_n hx hb d_1_25_53 rfl (lv_at hl 1 rfl) ?_
        refine lv_iload_n hx hb d_1_25_54 rfl (lv_at hl 2 rfl) ?_
        refine q_gor (post := fun r u => ws = u ∧ r = q (F_NH_floatRow x2)) V (q_runV (As := [.int x2]) (rest := []) (d := 1) (mc := 0) (ms := 0) (ci := 0) C0 V rfl LV_NH_157 (X_NH_floatRow l D g q ws  x2 hI   _) rfl rfl hO42 rfl hl.1 rfl (Nat.le_of_ble_eq_true rfl) ⟨by decide, by decide⟩ ⟨Nat.le_of_ble_eq_true rfl, Nat.le_of_ble_eq_true rfl⟩ d_1_25_55) (fun a157 u155 H locs hp156 V => ?_)
        obtain ⟨rfl, hr158⟩ := hp156
        by_cases c159 : x2 = (2 : Int32)
        ·
          have hr160 : a157 = q 7 := hr158.trans (congrArg q (by unfold F_NH_floatRow; rw [if_pos c159]))
          subst hr160
          have b161 : q_F (x2.toInt = 2) := (q_eqI c159)
          refine lv_iload_n hx hb d_1_25_58 rfl (lv_at hl 3 rfl) ?_
          have ob162 : q_F (0 ≤ x3.toInt) := (by have h := hS; rw [S_NH_makeWhole.eq_1] at h; rw [if_neg c38] at h; rw [if_neg c40] at h; rw [if_neg c47] at h; rw [if_pos c159] at h; exact h.2.1)
          have ob163 : q_F (x3.toInt ≤ 9) := (by have h := hS; rw [S_NH_makeWhole.eq_1] at h; rw [if_neg c38] at h; rw [if_neg c40] at h; rw [if_neg c47] at h; rw [if_pos c159] at h; replace h := q_s2 h; exact h.2.1)
          refine q_lald C0 V hT3 (q_ix (x := x3.toInt) rfl (by have t1 : 0 ≤ x3.toInt := ob162; omega) (by have t1 : 0 ≤ x3.toInt := ob162; have t2 : x3.toInt ≤ 9 := ob163; omega)) d_1_25_59 ?_
          obtain ⟨j164, e165⟩ := q_nm (t3_0 x3.toNatClampNeg : Int64)
          refine q_tl (v := j164) e165 ?_
          refine lv_lstore (lv' := [(4, .long j164), (3, .ref (q 35)), (0, .ref (q 0)), (1, .int x2), (2, .int x3)]) hx hb d_1_25_60 hl (by decide) rfl (fun ls hl => ?_)
          refine lv_aload_n hx hb d_1_25_62 rfl (lv_at hl 1 rfl) ?_
          refine lv_lload hx hb d_1_25_63 (lv_at hl 0 rfl) ?_
          obtain ⟨y167, y168, y169, hO166⟩ := n_flO hI (n_f35 g q)
          refine q_goi V (q_runV (As := [.long j164]) (rest := []) (d := 2) (mc := 0) (ms := 0) (ci := 6) C0 V rfl LV_NH_179 (X_Flo_isFinite l D g q ws 35 23 150 255 (n_f35 g q) j164 hI   _) rfl rfl hO166 rfl hl.1 rfl (Nat.le_of_ble_eq_true rfl) ⟨by decide, by decide⟩ ⟨Nat.le_of_ble_eq_true rfl, Nat.le_of_ble_eq_true rfl⟩ d_1_25_65) (fun a172 u170 H locs hp171 V => ?_)
          obtain ⟨rfl, b173, b174, hE175⟩ := hp171
          have e176 : a172 = (F_Flo_isFinite (23 : Int32) (150 : Int32) (255 : Int32) j164) := hE175
          replace b173 : q_F (0 ≤ a172.toInt) := b173
          replace b174 : q_F (a172.toInt ≤ 1) := b174
          refine q_goxv V (q_runSX (As := [.int a172]) (rest := []) (d := 7) (mc := 1) (ms := 6) C0 V rfl LS_NH_138 (X_NH_canHave l D g q ws  a172 hlt hI  ⟨(by have t1 : 0 ≤ a172.toInt := b173; omega), (by have t1 : a172.toInt ≤ 1 := b174; omega)⟩ _) rfl hl.1 rfl (Nat.le_of_ble_eq_true rfl) ⟨by decide, by decide⟩ ⟨Nat.le_of_ble_eq_true rfl, Nat.le_of_ble_eq_true rfl⟩ d_1_25_68) (fun qx Ex ce u177 H locs hp178 V hce hcv hcl => ?_) (fun u177 H locs hp178 V => ?_)
          ·
            obtain ⟨cx180, he181, hc182, rfl, hE179⟩ := hp178
            have c183 : ¬ (F_NH_canHave a172) = (0 : Int32) := fun z => hc182 (((hE179) : cx180 = _).trans z)
            exact q_outT hno C0 V (⟨(F_NH_canHave a172), (he181.trans (congrArg qE ((hE179) : cx180 = _))), c183, hI, hF, t1_0, t1_1, t2_0, hT1, hT2, (show ((F_NH_canHave a172), t1_0, t1_1, t2_0) = (F_NH_makeWhole x2 x3 t0_0 t0_1 t1_0 t1_1 t2_0 t3_0 t4_0 t5_0 t5_1 t6_0 t7_0 t7_1 t8_0 t8_1 t9_0) from (by have c183x := c183; rw [e176, ← e165] at c183x; rw [e176, ← e165, F_NH_makeWhole.eq_1, if_neg c38, if_neg c40, if_neg c47, if_pos c159, if_neg c183x]))⟩) hce hcv hcl (Nat.le_of_ble_eq_true rfl) (Nat.le_of_ble_eq_true rfl)
          ·
            obtain ⟨rfl, hE184⟩ := hp178
            have c183 : (F_NH_canHave a172) = (0 : Int32) := ((hE184) : (0 : Int32) = _).symm
            refine lv_aload_n hx hb d_1_25_71 rfl (lv_at hl 1 rfl) ?_
            refine lv_lload hx hb d_1_25_72 (lv_at hl 0 rfl) ?_
            refine q_gov V (q_runV (As := [.long j164]) (rest := []) (d := 4) (mc := 0) (ms := 0) (ci := 6) C0 V rfl LV_NH_403 (X_Flo_towardsZero l D g q ws 35 23 150 255 (n_f35 g q) j164 hI t1_0 t1_1 hT1 t2_0 hT2  _) rfl rfl hO166 rfl hl.1 rfl (Nat.le_of_ble_eq_true rfl) ⟨by decide, by decide⟩ ⟨Nat.le_of_ble_eq_true rfl, Nat.le_of_ble_eq_true rfl⟩ d_1_25_74) (fun u186 H locs hp187 V => ?_)
            obtain ⟨hI, hu198, y189, y190, f191, hO188, hA192, b193, b194, b195, b196, hE197⟩ := hp187
            replace hO188 : u186[10]? = (some (q 10, .inr (2, [.ref (q 11), .int y189, .int y190])) : Option (Nat × va_E)) := hO188
            replace hA192 : u186[11]? = (some (q 11, .inl (g 0, (220 : Int32).toNatClampNeg, .inl f191)) : Option (Nat × va_E)) := hA192
            obtain ⟨p199, e200⟩ : ∃ z, z = (F_Flo_towardsZero (23 : Int32) (150 : Int32) (255 : Int32) j164 t1_0 t1_1 t2_0) := ⟨_, rfl⟩
            have e201 : y189 = p199.1 := congrArg (fun z => z.1) (hE197.trans e200.symm)
            have e202 : y190 = p199.2.1 := congrArg (fun z => z.2.1) (hE197.trans e200.symm)
            have e203 : f191 = p199.2.2 := congrArg (fun z => z.2.2) (hE197.trans e200.symm)
            replace b193 : q_F (y189.toInt ≤ 220) := b193
            replace b194 : q_F (0 ≤ y190.toInt) := b194
            replace b195 : q_F (y190.toInt ≤ 1) := b195
            replace b196 : q_F (y190.toInt ≤ y189.toInt) := b196
            replace hT0 := (hu198 _ (by decide)).trans hT0
            replace hT3 := (hu198 _ (by decide)).trans hT3
            replace hT4 := (hu198 _ (by decide)).trans hT4
            replace hT5 := (hu198 _ (by have z0 := yk3; simp only [List.mem_cons, List.not_mem_nil, or_false, not_or]; omega)).trans hT5
            replace hT6 := (hu198 _ (by have z0 := yk3; simp only [List.mem_cons, List.not_mem_nil, or_false, not_or]; omega)).trans hT6
            replace hT7 := (hu198 _ (by have z0 := yd3; simp only [List.mem_cons, List.not_mem_nil, or_false, not_or]; omega)).trans hT7
            replace hT8 := (hu198 _ (by have z0 := yd3; simp only [List.mem_cons, List.not_mem_nil, or_false, not_or]; omega)).trans hT8
            replace hT9 := (hu198 _ (by have z0 := yd3; simp only [List.mem_cons, List.not_mem_nil, or_false, not_or]; omega)).trans hT9
            replace hO42 := (hu198 _ (by decide)).trans hO42
            replace hO166 := (hu198 _ (by decide)).trans hO166
            replace hF := q_uc hF hu198 (by simp)
            have hR204 := (show F_NH_makeWhole_c74_3 x2 x3 t0_0 t0_1 t1_0 t1_1 t2_0 t3_0 t4_0 t5_0 t5_1 t6_0 t7_0 t7_1 t8_0 t8_1 t9_0 j164 p199 = (F_NH_makeWhole x2 x3 t0_0 t0_1 t1_0 t1_1 t2_0 t3_0 t4_0 t5_0 t5_1 t6_0 t7_0 t7_1 t8_0 t8_1 t9_0) from (by have c183x := c183; rw [e176, ← e165] at c183x; rw [e200, ← e165, F_NH_makeWhole.eq_1, if_neg c38, if_neg c40, if_neg c47, if_pos c159, if_pos c183x]))
            have hS205 := (show True ∧ S_NH_makeWhole_c74_3 x2 x3 t0_0 t0_1 t1_0 t1_1 t2_0 t3_0 t4_0 t5_0 t5_1 t6_0 t7_0 t7_1 t8_0 t8_1 t9_0 j164 p199 from (by rw [e200, ← e165]; have h := hS; rw [S_NH_makeWhole.eq_1] at h; rw [if_neg c38] at h; rw [if_neg c40] at h; rw [if_neg c47] at h; rw [if_pos c159] at h; replace h := q_s2 h; replace h := q_s2 h; have c183x := c183; rw [e176, ← e165] at c183x; rw [if_pos c183x] at h; with_reducible exact h))
            exact q_retX (q_retv C0 V (⟨hI, hF, y189, y190, f191, hO188, hA192, (show 0 ≤ y189.toInt from (by have t1 : 0 ≤ y190.toInt := b194; have t2 : y190.toInt ≤ y189.toInt := b196; omega)), (show y189.toInt ≤ 220 from (by have t1 : y189.toInt ≤ 220 := b193; omega)), (show 0 ≤ y190.toInt from (by have t1 : 0 ≤ y190.toInt := b194; omega)), (show y190.toInt ≤ 1 from (by have t1 : y190.toInt ≤ 1 := b195; omega)), (show x3.toInt ≤ y189.toInt + 9 from (by have t1 : x3.toInt ≤ 9 := ob163; have t2 : 0 ≤ y190.toInt := b194; have t3 : y190.toInt ≤ y189.toInt := b196; omega)), (show y189.toInt ≤ x3.toInt + 220 from (by have t1 : 0 ≤ x3.toInt := ob162; have t2 : y189.toInt ≤ 220 := b193; omega)), (show x3.toInt ≤ y190.toInt + 9 from (by have t1 : x3.toInt ≤ 9 := ob163; have t2 : 0 ≤ y190.toInt := b194; omega)), (show y190.toInt ≤ x3.toInt + 1 from (by have t1 : 0 ≤ x3.toInt := ob162; have t2 : y190.toInt ≤ 1 := b195; omega)), (show ((0 : Int32), y189, y190, f191) = (F_NH_makeWhole x2 x3 t0_0 t0_1 t1_0 t1_1 t2_0 t3_0 t4_0 t5_0 t5_1 t6_0 t7_0 t7_1 t8_0 t8_1 t9_0) from Eq.trans (by rw [e203, e202, e201, F_NH_makeWhole_c74_3.eq_1]) hR204)⟩) d_1_25_77)
        ·
          have hr209 : a157 = q 8 := hr158.trans (congrArg q (by unfold F_NH_floatRow; rw [if_neg c159]))
          subst hr209
          have b210 : q_F (x2.toInt ≠ 2) := (q_neI c159)
          refine lv_iload_n hx hb d_1_25_58 rfl (lv_at hl 3 rfl) ?_
          have ob211 : q_F (0 ≤ x3.toInt) := (by have h := hS; rw [S_NH_makeWhole.eq_1] at h; rw [if_neg c38] at h; rw [if_neg c40] at h; rw [if_neg c47] at h; rw [if_neg c159] at h; exact h.2.1)
          have ob212 : q_F (x3.toInt ≤ 9) := (by have h := hS; rw [S_NH_makeWhole.eq_1] at h; rw [if_neg c38] at h; rw [if_neg c40] at h; rw [if_neg c47] at h; rw [if_neg c159] at h; replace h := q_s2 h; exact h.2.1)
          refine q_lald C0 V hT4 (q_ix (x := x3.toInt) rfl (by have t1 : 0 ≤ x3.toInt := ob211; omega) (by have t1 : 0 ≤ x3.toInt := ob211; have t2 : x3.toInt ≤ 9 := ob212; omega)) d_1_25_59 ?_
          obtain ⟨j213, e214⟩ := q_nm (t4_0 x3.toNatClampNeg : Int64)
          refine q_tl (v := j213) e214 ?_
          refine lv_lstore (lv' := [(4, .long j213), (3, .ref (q 35)), (0, .ref (q 0)), (1, .int x2), (2, .int x3)]) hx hb d_1_25_60 hl (by decide) rfl (fun ls hl => ?_)
          refine lv_aload_n hx hb d_1_25_62 rfl (lv_at hl 1 rfl) ?_
          refine lv_lload hx hb d_1_25_63 (lv_at hl 0 rfl) ?_
          obtain ⟨y216, y217, y218, hO215⟩ := n_flO hI (n_f35 g q)
          refine q_goi V (q_runV (As := [.long j213]) (rest := []) (d := 2) (mc := 0) (ms := 0) (ci := 6) C0 V rfl LV_NH_179 (X_Flo_isFinite l D g q ws 35 23 150 255 (n_f35 g q) j213 hI   _) rfl rfl hO215 rfl hl.1 rfl (Nat.le_of_ble_eq_true rfl) ⟨by decide, by decide⟩ ⟨Nat.le_of_ble_eq_true rfl, Nat.le_of_ble_eq_true rfl⟩ d_1_25_65) (fun a221 u219 H locs hp220 V => ?_)
          obtain ⟨rfl, b222, b223, hE224⟩ := hp220
          have e225 : a221 = (F_Flo_isFinite (23 : Int32) (150 : Int32) (255 : Int32) j213) := hE224
          replace b222 : q_F (0 ≤ a221.toInt) := b222
          replace b223 : q_F (a221.toInt ≤ 1) := b223
          refine q_goxv V (q_runSX (As := [.int a221]) (rest := []) (d := 7) (mc := 1) (ms := 6) C0 V rfl LS_NH_138 (X_NH_canHave l D g q ws  a221 hlt hI  ⟨(by have t1 : 0 ≤ a221.toInt := b222; omega), (by have t1 : a221.toInt ≤ 1 := b223; omega)⟩ _) rfl hl.1 rfl (Nat.le_of_ble_eq_true rfl) ⟨by decide, by decide⟩ ⟨Nat.le_of_ble_eq_true rfl, Nat.le_of_ble_eq_true rfl⟩ d_1_25_68) (fun qx Ex ce u226 H locs hp227 V hce hcv hcl => ?_) (fun u226 H locs hp227 V => ?_)
          ·
            obtain ⟨cx229, he230, hc231, rfl, hE228⟩ := hp227
            have c232 : ¬ (F_NH_canHave a221) = (0 : Int32) := fun z => hc231 (((hE228) : cx229 = _).trans z)
            exact q_outT hno C0 V (⟨(F_NH_canHave a221), (he230.trans (congrArg qE ((hE228) : cx229 = _))), c232, hI, hF, t1_0, t1_1, t2_0, hT1, hT2, (show ((F_NH_canHave a221), t1_0, t1_1, t2_0) = (F_NH_makeWhole x2 x3 t0_0 t0_1 t1_0 t1_1 t2_0 t3_0 t4_0 t5_0 t5_1 t6_0 t7_0 t7_1 t8_0 t8_1 t9_0) from (by have c232x := c232; rw [e225, ← e214] at c232x; rw [e225, ← e214, F_NH_makeWhole.eq_1, if_neg c38, if_neg c40, if_neg c47, if_neg c159, if_neg c232x]))⟩) hce hcv hcl (Nat.le_of_ble_eq_true rfl) (Nat.le_of_ble_eq_true rfl)
          ·
            obtain ⟨rfl, hE233⟩ := hp227
            have c232 : (F_NH_canHave a221) = (0 : Int32) := ((hE233) : (0 : Int32) = _).symm
            refine lv_aload_n hx hb d_1_25_71 rfl (lv_at hl 1 rfl) ?_
            refine lv_lload hx hb d_1_25_72 (lv_at hl 0 rfl) ?_
            refine q_gov V (q_runV (As := [.long j213]) (rest := []) (d := 4) (mc := 0) (ms := 0) (ci := 6) C0 V rfl LV_NH_403 (X_Flo_towardsZero l D g q ws 35 23 150 255 (n_f35 g q) j213 hI t1_0 t1_1 hT1 t2_0 hT2  _) rfl rfl hO215 rfl hl.1 rfl (Nat.le_of_ble_eq_true rfl) ⟨by decide, by decide⟩ ⟨Nat.le_of_ble_eq_true rfl, Nat.le_of_ble_eq_true rfl⟩ d_1_25_74) (fun u235 H locs hp236 V => ?_)
            obtain ⟨hI, hu247, y238, y239, f240, hO237, hA241, b242, b243, b244, b245, hE246⟩ := hp236
            replace hO237 : u235[10]? = (some (q 10, .inr (2, [.ref (q 11), .int y238, .int y239])) : Option (Nat × va_E)) := hO237
            replace hA241 : u235[11]? = (some (q 11, .inl (g 0, (220 : Int32).toNatClampNeg, .inl f240)) : Option (Nat × va_E)) := hA241
            obtain ⟨p248, e249⟩ : ∃ z, z = (F_Flo_towardsZero (23 : Int32) (150 : Int32) (255 : Int32) j213 t1_0 t1_1 t2_0) := ⟨_, rfl⟩
            have e250 : y238 = p248.1 := congrArg (fun z => z.1) (hE246.trans e249.symm)
            have e251 : y239 = p248.2.1 := congrArg (fun z => z.2.1) (hE246.trans e249.symm)
            have e252 : f240 = p248.2.2 := congrArg (fun z => z.2.2) (hE246.trans e249.symm)
            replace b242 : q_F (y238.toInt ≤ 220) := b242
            replace b243 : q_F (0 ≤ y239.toInt) := b243
            replace b244 : q_F (y239.toInt ≤ 1) := b244
            replace b245 : q_F (y239.toInt ≤ y238.toInt) := b245
            replace hT0 := (hu247 _ (by decide)).trans hT0
            replace hT3 := (hu247 _ (by decide)).trans hT3
            replace hT4 := (hu247 _ (by decide)).trans hT4
            replace hT5 := (hu247 _ (by have z0 := yk3; simp only [List.mem_cons, List.not_mem_nil, or_false, not_or]; omega)).trans hT5
            replace hT6 := (hu247 _ (by have z0 := yk3; simp only [List.mem_cons, List.not_mem_nil, or_false, not_or]; omega)).trans hT6
            replace hT7 := (hu247 _ (by have z0 := yd3; simp only [List.mem_cons, List.not_mem_nil, or_false, not_or]; omega)).trans hT7
            replace hT8 := (hu247 _ (by have z0 := yd3; simp only [List.mem_cons, List.not_mem_nil, or_false, not_or]; omega)).trans hT8
            replace hT9 := (hu247 _ (by have z0 := yd3; simp only [List.mem_cons, List.not_mem_nil, or_false, not_or]; omega)).trans hT9
            replace hO42 := (hu247 _ (by decide)).trans hO42
            replace hO215 := (hu247 _ (by decide)).trans hO215
            replace hF := q_uc hF hu247 (by simp)
            have hR253 := (show F_NH_makeWhole_c74_4 x2 x3 t0_0 t0_1 t1_0 t1_1 t2_0 t3_0 t4_0 t5_0 t5_1 t6_0 t7_0 t7_1 t8_0 t8_1 t9_0 j213 p248 = (F_NH_makeWhole x2 x3 t0_0 t0_1 t1_0 t1_1 t2_0 t3_0 t4_0 t5_0 t5_1 t6_0 t7_0 t7_1 t8_0 t8_1 t9_0) from (by have c232x := c232; rw [e225, ← e214] at c232x; rw [e249, ← e214, F_NH_makeWhole.eq_1, if_neg c38, if_neg c40, if_neg c47, if_neg c159, if_pos c232x]))
            have hS254 := (show True ∧ S_NH_makeWhole_c74_4 x2 x3 t0_0 t0_1 t1_0 t1_1 t2_0 t3_0 t4_0 t5_0 t5_1 t6_0 t7_0 t7_1 t8_0 t8_1 t9_0 j213 p248 from (by rw [e249, ← e214]; have h := hS; rw [S_NH_makeWhole.eq_1] at h; rw [if_neg c38] at h; rw [if_neg c40] at h; rw [if_neg c47] at h; rw [if_neg c159] at h; replace h := q_s2 h; replace h := q_s2 h; have c232x := c232; rw [e225, ← e214] at c232x; rw [if_pos c232x] at h; with_reducible exact h))
            exact q_retX (q_retv C0 V (⟨hI, hF, y238, y239, f240, hO237, hA241, (show 0 ≤ y238.toInt from (by have t1 : 0 ≤ y239.toInt := b243; have t2 : y239.toInt ≤ y238.toInt := b245; omega)), (show y238.toInt ≤ 220 from (by have t1 : y238.toInt ≤ 220 := b242; omega)), (show 0 ≤ y239.toInt from (by have t1 : 0 ≤ y239.toInt := b243; omega)), (show y239.toInt ≤ 1 from (by have t1 : y239.toInt ≤ 1 := b244; omega)), (show x3.toInt ≤ y238.toInt + 9 from (by have t1 : x3.toInt ≤ 9 := ob212; have t2 : 0 ≤ y239.toInt := b243; have t3 : y239.toInt ≤ y238.toInt := b245; omega)), (show y238.toInt ≤ x3.toInt + 220 from (by have t1 : 0 ≤ x3.toInt := ob211; have t2 : y238.toInt ≤ 220 := b242; omega)), (show x3.toInt ≤ y239.toInt + 9 from (by have t1 : x3.toInt ≤ 9 := ob212; have t2 : 0 ≤ y239.toInt := b243; omega)), (show y239.toInt ≤ x3.toInt + 1 from (by have t1 : 0 ≤ x3.toInt := ob211; have t2 : y239.toInt ≤ 1 := b244; omega)), (show ((0 : Int32), y238, y239, f240) = (F_NH_makeWhole x2 x3 t0_0 t0_1 t1_0 t1_1 t2_0 t3_0 t4_0 t5_0 t5_1 t6_0 t7_0 t7_1 t8_0 t8_1 t9_0) from Eq.trans (by rw [e252, e251, e250, F_NH_makeWhole_c74_4.eq_1]) hR253)⟩) d_1_25_77)
    ·
      have b258 : q_F (x2.toInt = 1) := (q_eqI c40)
      refine lv_aload_n hx hb d_1_25_28 rfl (lv_at hl 0 rfl) ?_
      have hO259 := n_o0 hI
      refine q_get (ci := 0) (j := 7) (v := .ref (q 30)) C0 V i_NH rfl rfl hO259 (by decide) w_431 rfl d_1_25_29 ?_
      refine lv_aload_n hx hb d_1_25_32 rfl (lv_at hl 0 rfl) ?_
      refine q_get (ci := 0) (j := 3) (v := .ref (q 6)) C0 V i_NH rfl rfl hO259 (by decide) w_427 rfl d_1_25_33 ?_
      refine lv_iload_n hx hb d_1_25_36 rfl (lv_at hl 2 rfl) ?_
      have hX260 := n_fx hI (n_s6 g q)
      have ob261 : q_F (0 ≤ x3.toInt) := (by have h := hS; rw [S_NH_makeWhole.eq_1] at h; rw [if_neg c38] at h; rw [if_pos c40] at h; exact h.2.1)
      have ob262 : q_F (x3.toInt ≤ 9) := (by have h := hS; rw [S_NH_makeWhole.eq_1] at h; rw [if_neg c38] at h; rw [if_pos c40] at h; replace h := q_s2 h; exact h.2.1)
      have hj263 : x3.toNatClampNeg < 10 := by have z := q_clI (i := x3) (x := x3.toInt) rfl (by have t1 : 0 ≤ x3.toInt := ob261; omega); have t1 : 0 ≤ x3.toInt := ob261; have t2 : x3.toInt ≤ 9 := ob262; omega
      have hq264 := gd3x3 hj263
      refine q_aald (t := 5) (q := q d3) C0 V hX260 rfl (q_ix (x := x3.toInt) rfl (by have t1 : 0 ≤ x3.toInt := ob261; omega) (by have t1 : 0 ≤ x3.toInt := ob261; have t2 : x3.toInt ≤ 9 := ob262; omega)) (by rw [hq264]; exact n_fdv hj263) d_1_25_37 ?_
      refine q_goi V (q_runV (As := [.ref (q d3)]) (rest := []) (d := 4) (mc := 0) (ms := 0) (ci := 5) C0 V rfl LV_NH_400 (X_DW_towardsZero l D g q ws d3 108 hBd3 (Or.inr yd3)  (by have z0 := yd3; omega) (by have z0 := yd3; omega) (by have z0 := yd3; omega) (by have z0 := yd3; omega) (by have z0 := yd3; omega) (by have z0 := yd3; omega) (by have z0 := yd3; omega) (by have z0 := yd3; omega) hI t0_0 t0_1 hT0 t1_0 t1_1 hT1 t2_0 hT2 t7_0 t7_1 hT7 t8_0 t8_1 hT8 t9_0 hT9  _) rfl rfl hT0 rfl hl.1 rfl (Nat.le_of_ble_eq_true rfl) ⟨by decide, by decide⟩ ⟨Nat.le_of_ble_eq_true rfl, Nat.le_of_ble_eq_true rfl⟩ d_1_25_38) (fun a267 u265 H locs hp266 V => ?_)
      obtain ⟨hI, hu282, y269, y270, f271, hO268, hA272, b273, b274, b275, b276, b277, b278, b279, b280, hE281⟩ := hp266
      replace hO268 : u265[10]? = (some (q 10, .inr (2, [.ref (q 11), .int y269, .int y270])) : Option (Nat × va_E)) := hO268
      replace hA272 : u265[11]? = (some (q 11, .inl (g 0, (220 : Int32).toNatClampNeg, .inl f271)) : Option (Nat × va_E)) := hA272
      obtain ⟨p283, e284⟩ : ∃ z, z = (F_DW_towardsZero (108 : Int32) t0_0 t0_1 t1_0 t1_1 t2_0 t7_0 t7_1 t8_0 t8_1 t9_0) := ⟨_, rfl⟩
      have e285 : a267 = p283.1 := congrArg (fun z => z.1) (hE281.trans e284.symm)
      have e286 : y269 = p283.2.1 := congrArg (fun z => z.2.1) (hE281.trans e284.symm)
      have e287 : y270 = p283.2.2.1 := congrArg (fun z => z.2.2.1) (hE281.trans e284.symm)
      have e288 : f271 = p283.2.2.2 := congrArg (fun z => z.2.2.2) (hE281.trans e284.symm)
      replace b273 : q_F (0 ≤ a267.toInt) := b273
      replace b274 : q_F (a267.toInt ≤ 1) := b274
      replace b275 : q_F (0 ≤ y269.toInt) := b275
      replace b276 : q_F (y269.toInt ≤ 220) := b276
      replace b277 : q_F (0 ≤ y270.toInt) := b277
      replace b278 : q_F (t7_0.toInt ≤ a267.toInt + 9999) := b278
      replace b279 : q_F (y269.toInt ≤ t8_0.toInt + 219) := b279
      replace b280 : q_F (y270.toInt ≤ t8_1.toInt) := b280
      replace hT0 := (hu282 _ (by decide)).trans hT0
      replace hT3 := (hu282 _ (by decide)).trans hT3
      replace hT4 := (hu282 _ (by decide)).trans hT4
      replace hT5 := (hu282 _ (by have z0 := yk3; simp only [List.mem_cons, List.not_mem_nil, or_false, not_or]; omega)).trans hT5
      replace hT6 := (hu282 _ (by have z0 := yk3; simp only [List.mem_cons, List.not_mem_nil, or_false, not_or]; omega)).trans hT6
      replace hT7 := (hu282 _ (by have z0 := yd3; simp only [List.mem_cons, List.not_mem_nil, or_false, not_or]; omega)).trans hT7
      replace hT8 := (hu282 _ (by have z0 := yd3; simp only [List.mem_cons, List.not_mem_nil, or_false, not_or]; omega)).trans hT8
      replace hT9 := (hu282 _ (by have z0 := yd3; simp only [List.mem_cons, List.not_mem_nil, or_false, not_or]; omega)).trans hT9
      replace hO259 := (hu282 _ (by decide)).trans hO259
      replace hF := q_uc hF hu282 (by simp)
      have hR289 := (show F_NH_makeWhole_c38 x2 x3 t0_0 t0_1 t1_0 t1_1 t2_0 t3_0 t4_0 t5_0 t5_1 t6_0 t7_0 t7_1 t8_0 t8_1 t9_0 p283 = (F_NH_makeWhole x2 x3 t0_0 t0_1 t1_0 t1_1 t2_0 t3_0 t4_0 t5_0 t5_1 t6_0 t7_0 t7_1 t8_0 t8_1 t9_0) from (by rw [e284, F_NH_makeWhole.eq_1, if_neg c38, if_pos c40]))
      have hS290 := (show True ∧ S_NH_makeWhole_c38 x2 x3 t0_0 t0_1 t1_0 t1_1 t2_0 t3_0 t4_0 t5_0 t5_1 t6_0 t7_0 t7_1 t8_0 t8_1 t9_0 p283 from (by rw [e284]; have h := hS; rw [S_NH_makeWhole.eq_1] at h; rw [if_neg c38] at h; rw [if_pos c40] at h; replace h := q_s2 h; replace h := q_s2 h; with_reducible exact h))
      refine q_goxv V (q_runSX (As := [.int a267]) (rest := []) (d := 7) (mc := 1) (ms := 6) C0 V rfl LS_NH_138 (X_NH_canHave l D g q u265  a267 hlt hI  ⟨(by have t1 : 0 ≤ a267.toInt := b273; omega), (by have t1 : a267.toInt ≤ 1 := b274; omega)⟩ _) rfl hl.1 rfl (Nat.le_of_ble_eq_true rfl) ⟨by decide, by decide⟩ ⟨Nat.le_of_ble_eq_true rfl, Nat.le_of_ble_eq_true rfl⟩ d_1_25_41) (fun qx Ex ce u294 H locs hp295 V hce hcv hcl => ?_) (fun u294 H locs hp295 V => ?_)
      ·
        obtain ⟨cx297, he298, hc299, rfl, hE296⟩ := hp295
        have c300 : ¬ (F_NH_canHave a267) = (0 : Int32) := fun z => hc299 (((hE296) : cx297 = _).trans z)
        exact q_outT hno C0 V (⟨(F_NH_canHave a267), (he298.trans (congrArg qE ((hE296) : cx297 = _))), c300, hI, hF, y269, y270, f271, hO268, hA272, (show ((F_NH_canHave a267), y269, y270, f271) = (F_NH_makeWhole x2 x3 t0_0 t0_1 t1_0 t1_1 t2_0 t3_0 t4_0 t5_0 t5_1 t6_0 t7_0 t7_1 t8_0 t8_1 t9_0) from Eq.trans (by have c300x := c300; rw [e285] at c300x; rw [e288, e287, e286, e285, F_NH_makeWhole_c38.eq_1, if_neg c300x]) hR289)⟩) hce hcv hcl (Nat.le_of_ble_eq_true rfl) (Nat.le_of_ble_eq_true rfl)
      ·
        obtain ⟨rfl, hE301⟩ := hp295
        have c300 : (F_NH_canHave a267) = (0 : Int32) := ((hE301) : (0 : Int32) = _).symm
        refine lv_goto (tgt := 77) hx hb d_1_25_44 (by decide) ?_
        exact q_retX (q_retv C0 V (⟨hI, hF, y269, y270, f271, hO268, hA272, (show 0 ≤ y269.toInt from (by have t1 : 0 ≤ y269.toInt := b275; omega)), (show y269.toInt ≤ 220 from (by have t1 : y269.toInt ≤ 220 := b276; omega)), (show 0 ≤ y270.toInt from (by have t1 : 0 ≤ y270.toInt := b277; omega)), (show y270.toInt ≤ 1 from (by have t1 : 0 ≤ t8_1.toInt ∧ t8_1.toInt ≤ 1 := btt8_1; have t2 : y270.toInt ≤ t8_1.toInt := b280; omega)), (show x3.toInt ≤ y269.toInt + 9 from (by have t1 : x3.toInt ≤ 9 := ob262; have t2 : 0 ≤ y269.toInt := b275; omega)), (show y269.toInt ≤ x3.toInt + 220 from (by have t1 : 0 ≤ x3.toInt := ob261; have t2 : y269.toInt ≤ 220 := b276; omega)), (show x3.toInt ≤ y270.toInt + 9 from (by have t1 : x3.toInt ≤ 9 := ob262; have t2 : 0 ≤ y270.toInt := b277; omega)), (show y270.toInt ≤ x3.toInt + 1 from (by have t1 : 0 ≤ t8_1.toInt ∧ t8_1.toInt ≤ 1 := btt8_1; have t2 : 0 ≤ x3.toInt := ob261; have t3 : y270.toInt ≤ t8_1.toInt := b280; omega)), (show ((0 : Int32), y269, y270, f271) = (F_NH_makeWhole x2 x3 t0_0 t0_1 t1_0 t1_1 t2_0 t3_0 t4_0 t5_0 t5_1 t6_0 t7_0 t7_1 t8_0 t8_1 t9_0) from Eq.trans (by have c300x := c300; rw [e285] at c300x; rw [e288, e287, e286, F_NH_makeWhole_c38.eq_1, if_pos c300x]) hR289)⟩) d_1_25_77)
  ·
    have b303 : q_F (x2.toInt = 0) := (q_eqI c38)
    refine lv_aload_n hx hb d_1_25_4 rfl (lv_at hl 0 rfl) ?_
    have hO304 := n_o0 hI
    refine q_get (ci := 0) (j := 6) (v := .ref (q 9)) C0 V i_NH rfl rfl hO304 (by decide) w_430 rfl d_1_25_5 ?_
    have hO305 := n_o9 hI
    refine q_get (ci := 4) (j := 0) (v := .ref (q 10)) C0 V i_Mil rfl rfl hO305 (by decide) w_112 rfl d_1_25_8 ?_
    refine lv_aload_n hx hb d_1_25_11 rfl (lv_at hl 0 rfl) ?_
    refine q_get (ci := 0) (j := 2) (v := .ref (q 5)) C0 V i_NH rfl rfl hO304 (by decide) w_426 rfl d_1_25_12 ?_
    refine lv_iload_n hx hb d_1_25_15 rfl (lv_at hl 2 rfl) ?_
    have hX306 := n_fx hI (n_s5 g q)
    have ob307 : q_F (0 ≤ x3.toInt) := (by have h := hS; rw [S_NH_makeWhole.eq_1] at h; rw [if_pos c38] at h; exact h.2.1)
    have ob308 : q_F (x3.toInt ≤ 9) := (by have h := hS; rw [S_NH_makeWhole.eq_1] at h; rw [if_pos c38] at h; replace h := q_s2 h; exact h.2.1)
    have hj309 : x3.toNatClampNeg < 10 := by have z := q_clI (i := x3) (x := x3.toInt) rfl (by have t1 : 0 ≤ x3.toInt := ob307; omega); have t1 : 0 ≤ x3.toInt := ob307; have t2 : x3.toInt ≤ 9 := ob308; omega
    have hq310 := gk3x3 hj309
    refine q_aald (t := 4) (q := q k3) C0 V hX306 rfl (q_ix (x := x3.toInt) rfl (by have t1 : 0 ≤ x3.toInt := ob307; omega) (by have t1 : 0 ≤ x3.toInt := ob307; have t2 : x3.toInt ≤ 9 := ob308; omega)) (by rw [hq310]; exact n_fwv hj309) d_1_25_16 ?_
    refine q_gov V (q_runV (As := [.ref (q k3)]) (rest := []) (d := 2) (mc := 0) (ms := 0) (ci := 2) C0 V rfl LV_NH_145 (X_Big_copy l D g q ws 10 220 (n_b10 g q) (by decide) k3 68 hBk3 (Or.inr yk3)  (by have z0 := yk3; omega) hI t1_0 t1_1 hT1 t2_0 hT2 t5_0 t5_1 hT5 t6_0 hT6  _) rfl rfl hT1 rfl hl.1 rfl (Nat.le_of_ble_eq_true rfl) ⟨by decide, by decide⟩ ⟨Nat.le_of_ble_eq_true rfl, Nat.le_of_ble_eq_true rfl⟩ d_1_25_17) (fun u311 H locs hp312 V => ?_)
    obtain ⟨hI, hu324, y314, y315, f316, hO313, hA317, b318, b319, b320, b321, b322, hE323⟩ := hp312
    replace hO313 : u311[10]? = (some (q 10, .inr (2, [.ref (q 11), .int y314, .int y315])) : Option (Nat × va_E)) := hO313
    replace hA317 : u311[11]? = (some (q 11, .inl (g 0, (220 : Int32).toNatClampNeg, .inl f316)) : Option (Nat × va_E)) := hA317
    obtain ⟨p325, e326⟩ : ∃ z, z = (F_Big_copy (220 : Int32) (68 : Int32) t1_0 t1_1 t2_0 t5_0 t5_1 t6_0) := ⟨_, rfl⟩
    have e327 : y314 = p325.1 := congrArg (fun z => z.1) (hE323.trans e326.symm)
    have e328 : y315 = p325.2.1 := congrArg (fun z => z.2.1) (hE323.trans e326.symm)
    have e329 : f316 = p325.2.2 := congrArg (fun z => z.2.2) (hE323.trans e326.symm)
    replace b318 : q_F (0 ≤ y314.toInt) := b318
    replace b319 : q_F (y314.toInt ≤ t5_0.toInt) := b319
    replace b320 : q_F (y314.toInt ≤ 220) := b320
    replace b321 : q_F (t5_1.toInt ≤ y315.toInt) := b321
    replace b322 : q_F (y315.toInt ≤ t5_1.toInt) := b322
    replace hT0 := (hu324 _ (by decide)).trans hT0
    replace hT3 := (hu324 _ (by decide)).trans hT3
    replace hT4 := (hu324 _ (by decide)).trans hT4
    replace hT5 := (hu324 _ (by have z0 := yk3; simp only [List.mem_cons, List.not_mem_nil, or_false, not_or]; omega)).trans hT5
    replace hT6 := (hu324 _ (by have z0 := yk3; simp only [List.mem_cons, List.not_mem_nil, or_false, not_or]; omega)).trans hT6
    replace hT7 := (hu324 _ (by have z0 := yd3; simp only [List.mem_cons, List.not_mem_nil, or_false, not_or]; omega)).trans hT7
    replace hT8 := (hu324 _ (by have z0 := yd3; simp only [List.mem_cons, List.not_mem_nil, or_false, not_or]; omega)).trans hT8
    replace hT9 := (hu324 _ (by have z0 := yd3; simp only [List.mem_cons, List.not_mem_nil, or_false, not_or]; omega)).trans hT9
    replace hO304 := (hu324 _ (by decide)).trans hO304
    replace hO305 := (hu324 _ (by decide)).trans hO305
    replace hF := q_uc hF hu324 (by simp)
    have hR330 := (show F_NH_makeWhole_c17 x2 x3 t0_0 t0_1 t1_0 t1_1 t2_0 t3_0 t4_0 t5_0 t5_1 t6_0 t7_0 t7_1 t8_0 t8_1 t9_0 p325 = (F_NH_makeWhole x2 x3 t0_0 t0_1 t1_0 t1_1 t2_0 t3_0 t4_0 t5_0 t5_1 t6_0 t7_0 t7_1 t8_0 t8_1 t9_0) from (by rw [e326, F_NH_makeWhole.eq_1, if_pos c38]))
    have hS331 := (show True ∧ S_NH_makeWhole_c17 x2 x3 t0_0 t0_1 t1_0 t1_1 t2_0 t3_0 t4_0 t5_0 t5_1 t6_0 t7_0 t7_1 t8_0 t8_1 t9_0 p325 from (by rw [e326]; have h := hS; rw [S_NH_makeWhole.eq_1] at h; rw [if_pos c38] at h; replace h := q_s2 h; replace h := q_s2 h; with_reducible exact h))
    refine lv_goto (tgt := 77) hx hb d_1_25_20 (by decide) ?_
    refine W.widen (k := 1) (n := 6) (Nat.le_of_ble_eq_true rfl) (Nat.le_of_ble_eq_true rfl) ?_
    exact q_retX (q_retv C0 V (⟨hI, hF, y314, y315, f316, hO313, hA317, (show 0 ≤ y314.toInt from (by have t1 : 0 ≤ y314.toInt := b318; omega)), (show y314.toInt ≤ 220 from (by have t1 : y314.toInt ≤ 220 := b320; omega)), (show 0 ≤ y315.toInt from (by have t1 : 0 ≤ t5_1.toInt ∧ t5_1.toInt ≤ 1 := btt5_1; have t2 : t5_1.toInt ≤ y315.toInt := b321; omega)), (show y315.toInt ≤ 1 from (by have t1 : 0 ≤ t5_1.toInt ∧ t5_1.toInt ≤ 1 := btt5_1; have t2 : y315.toInt ≤ t5_1.toInt := b322; omega)), (show x3.toInt ≤ y314.toInt + 9 from (by have t1 : x3.toInt ≤ 9 := ob308; have t2 : 0 ≤ y314.toInt := b318; omega)), (show y314.toInt ≤ x3.toInt + 220 from (by have t1 : 0 ≤ x3.toInt := ob307; have t2 : y314.toInt ≤ 220 := b320; omega)), (show x3.toInt ≤ y315.toInt + 9 from (by have t1 : 0 ≤ t5_1.toInt ∧ t5_1.toInt ≤ 1 := btt5_1; have t2 : x3.toInt ≤ 9 := ob308; have t3 : t5_1.toInt ≤ y315.toInt := b321; omega)), (show y315.toInt ≤ x3.toInt + 1 from (by have t1 : 0 ≤ t5_1.toInt ∧ t5_1.toInt ≤ 1 := btt5_1; have t2 : 0 ≤ x3.toInt := ob307; have t3 : y315.toInt ≤ t5_1.toInt := b322; omega)), (show ((0 : Int32), y314, y315, f316) = (F_NH_makeWhole x2 x3 t0_0 t0_1 t1_0 t1_1 t2_0 t3_0 t4_0 t5_0 t5_1 t6_0 t7_0 t7_1 t8_0 t8_1 t9_0) from Eq.trans (by rw [e329, e328, e327, F_NH_makeWhole_c17.eq_1]) hR330)⟩) d_1_25_77)
