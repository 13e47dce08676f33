/-! NumberHouse, exactly: r1.makeDecimal -/
theorem d_1_26_0 : decode prog_1_method_26_code 0 = .ok (.iload_n 1, 1) := by decide +kernel
theorem d_1_26_1 : decode prog_1_method_26_code 1 = .ok (.iconst 1, 1) := by decide +kernel
theorem d_1_26_2 : decode prog_1_method_26_code 2 = .ok (.if_icmp .ne 19, 3) := by decide +kernel
theorem d_1_26_21 : decode prog_1_method_26_code 21 = .ok (.iload_n 1, 1) := by decide +kernel
theorem d_1_26_22 : decode prog_1_method_26_code 22 = .ok (.ifCond .ne 30, 3) := by decide +kernel
theorem d_1_26_52 : decode prog_1_method_26_code 52 = .ok (.aload_n 0, 1) := by decide +kernel
theorem d_1_26_53 : decode prog_1_method_26_code 53 = .ok (.iload_n 1, 1) := by decide +kernel
theorem d_1_26_54 : decode prog_1_method_26_code 54 = .ok (.invokevirtual 130, 3) := by decide +kernel
theorem d_1_26_57 : decode prog_1_method_26_code 57 = .ok (.astore_n 3, 1) := by decide +kernel
theorem d_1_26_58 : decode prog_1_method_26_code 58 = .ok (.aload_n 0, 1) := by decide +kernel
theorem d_1_26_59 : decode prog_1_method_26_code 59 = .ok (.iload_n 1, 1) := by decide +kernel
theorem d_1_26_60 : decode prog_1_method_26_code 60 = .ok (.invokevirtual 157, 3) := by decide +kernel
theorem d_1_26_63 : decode prog_1_method_26_code 63 = .ok (.iload_n 2, 1) := by decide +kernel
theorem d_1_26_64 : decode prog_1_method_26_code 64 = .ok (.laload, 1) := by decide +kernel
theorem d_1_26_65 : decode prog_1_method_26_code 65 = .ok (.lstore 4, 2) := by decide +kernel
theorem d_1_26_67 : decode prog_1_method_26_code 67 = .ok (.aload_n 3, 1) := by decide +kernel
theorem d_1_26_68 : decode prog_1_method_26_code 68 = .ok (.lload 4, 2) := by decide +kernel
theorem d_1_26_70 : decode prog_1_method_26_code 70 = .ok (.invokevirtual 179, 3) := by decide +kernel
theorem d_1_26_73 : decode prog_1_method_26_code 73 = .ok (.invokestatic 138, 3) := by decide +kernel
theorem d_1_26_76 : decode prog_1_method_26_code 76 = .ok (.aload_n 0, 1) := by decide +kernel
theorem d_1_26_77 : decode prog_1_method_26_code 77 = .ok (.getfield 52, 3) := by decide +kernel
theorem d_1_26_80 : decode prog_1_method_26_code 80 = .ok (.aload_n 3, 1) := by decide +kernel
theorem d_1_26_81 : decode prog_1_method_26_code 81 = .ok (.lload 4, 2) := by decide +kernel
theorem d_1_26_83 : decode prog_1_method_26_code 83 = .ok (.invokevirtual 405, 3) := by decide +kernel
set_option maxRecDepth 100000 in
theorem w_1512 : (Cond.methodLink "NumberHouse" (405 : Nat) ({ cls := "NumberHouse$Floats", name := "exactly", desc := "(J)I" } : MethodName)) ∈ q_tbl := q_of7 72 rfl (by decide +kernel)
theorem LV_NH_405 : q_LV "NumberHouse" 405 y_Flo_exactly prog_7_method_15_code 7 (some .int) 1 := ⟨w_1515, w_8, w_1512, w_1513, w_1514, ⟨by decide, by decide, by decide +kernel⟩⟩
theorem d_1_26_86 : decode prog_1_method_26_code 86 = .ok (.i2l, 1) := by decide +kernel
theorem d_1_26_87 : decode prog_1_method_26_code 87 = .ok (.putfield 292, 3) := by decide +kernel
theorem d_1_26_90 : decode prog_1_method_26_code 90 = .ok (.return_, 1) := by decide +kernel
theorem d_1_26_25 : decode prog_1_method_26_code 25 = .ok (.aload_n 0, 1) := by decide +kernel
theorem d_1_26_26 : decode prog_1_method_26_code 26 = .ok (.getfield 43, 3) := by decide +kernel
theorem d_1_26_29 : decode prog_1_method_26_code 29 = .ok (.getfield 141, 3) := by decide +kernel
theorem d_1_26_32 : decode prog_1_method_26_code 32 = .ok (.aload_n 0, 1) := by decide +kernel
theorem d_1_26_33 : decode prog_1_method_26_code 33 = .ok (.getfield 23, 3) := by decide +kernel
theorem d_1_26_36 : decode prog_1_method_26_code 36 = .ok (.iload_n 2, 1) := by decide +kernel
theorem d_1_26_37 : decode prog_1_method_26_code 37 = .ok (.aaload, 1) := by decide +kernel
theorem d_1_26_38 : decode prog_1_method_26_code 38 = .ok (.invokevirtual 145, 3) := by decide +kernel
theorem d_1_26_41 : decode prog_1_method_26_code 41 = .ok (.aload_n 0, 1) := by decide +kernel
theorem d_1_26_42 : decode prog_1_method_26_code 42 = .ok (.getfield 52, 3) := by decide +kernel
theorem d_1_26_45 : decode prog_1_method_26_code 45 = .ok (.lconst 0, 1) := by decide +kernel
theorem d_1_26_46 : decode prog_1_method_26_code 46 = .ok (.putfield 292, 3) := by decide +kernel
theorem d_1_26_49 : decode prog_1_method_26_code 49 = .ok (.goto 41, 3) := by decide +kernel
theorem d_1_26_5 : decode prog_1_method_26_code 5 = .ok (.aload_n 0, 1) := by decide +kernel
theorem d_1_26_6 : decode prog_1_method_26_code 6 = .ok (.getfield 52, 3) := by decide +kernel
theorem d_1_26_9 : decode prog_1_method_26_code 9 = .ok (.aload_n 0, 1) := by decide +kernel
theorem d_1_26_10 : decode prog_1_method_26_code 10 = .ok (.getfield 29, 3) := by decide +kernel
theorem d_1_26_13 : decode prog_1_method_26_code 13 = .ok (.iload_n 2, 1) := by decide +kernel
theorem d_1_26_14 : decode prog_1_method_26_code 14 = .ok (.aaload, 1) := by decide +kernel
theorem d_1_26_15 : decode prog_1_method_26_code 15 = .ok (.invokevirtual 288, 3) := by decide +kernel
theorem d_1_26_18 : decode prog_1_method_26_code 18 = .ok (.goto 72, 3) := by decide +kernel
def y_NH_makeDecimal : MethodName := ⟨"NumberHouse", "makeDecimal", "(II)V"⟩
def F_NH_makeDecimal_c83 (x2 : Int32) (x3 : Int32) (t0_0 : Int64) (t0_1 : Int32) (t1_0 : Int32) (t1_1 : Int32) (t2_0 : (Nat → Int32)) (t3_0 : (Nat → Int64)) (t4_0 : (Nat → Int64)) (t5_0 : Int32) (t5_1 : Int32) (t6_0 : (Nat → Int32)) (t7_0 : Int32) (t7_1 : Int32) (t8_0 : Int32) (t8_1 : Int32) (t9_0 : (Nat → Int32)) (j59 : Int64) (p96 : (Int32 × Int32 × Int32 × (Nat → Int32))) : Int32 × Int64 × Int32 × Int32 × Int32 × (Nat → Int32) := ((0 : Int32), ((p96.1 : Int32).toInt64 : Int64), t0_1, (p96.2.1 : Int32), (p96.2.2.1 : Int32), (p96.2.2.2 : (Nat → Int32)))
def F_NH_makeDecimal_c83_2 (x2 : Int32) (x3 : Int32) (t0_0 : Int64) (t0_1 : Int32) (t1_0 : Int32) (t1_1 : Int32) (t2_0 : (Nat → Int32)) (t3_0 : (Nat → Int64)) (t4_0 : (Nat → Int64)) (t5_0 : Int32) (t5_1 : Int32) (t6_0 : (Nat → Int32)) (t7_0 : Int32) (t7_1 : Int32) (t8_0 : Int32) (t8_1 : Int32) (t9_0 : (Nat → Int32)) (j116 : Int64) (p153 : (Int32 × Int32 × Int32 × (Nat → Int32))) : Int32 × Int64 × Int32 × Int32 × Int32 × (Nat → Int32) := ((0 : Int32), ((p153.1 : Int32).toInt64 : Int64), t0_1, (p153.2.1 : Int32), (p153.2.2.1 : Int32), (p153.2.2.2 : (Nat → Int32)))
def F_NH_makeDecimal_c83_3 (x2 : Int32) (x3 : Int32) (t0_0 : Int64) (t0_1 : Int32) (t1_0 : Int32) (t1_1 : Int32) (t2_0 : (Nat → Int32)) (t3_0 : (Nat → Int64)) (t4_0 : (Nat → Int64)) (t5_0 : Int32) (t5_1 : Int32) (t6_0 : (Nat → Int32)) (t7_0 : Int32) (t7_1 : Int32) (t8_0 : Int32) (t8_1 : Int32) (t9_0 : (Nat → Int32)) (j180 : Int64) (p217 : (Int32 × Int32 × Int32 × (Nat → Int32))) : Int32 × Int64 × Int32 × Int32 × Int32 × (Nat → Int32) := ((0 : Int32), ((p217.1 : Int32).toInt64 : Int64), t0_1, (p217.2.1 : Int32), (p217.2.2.1 : Int32), (p217.2.2.2 : (Nat → Int32)))
def F_NH_makeDecimal_c83_4 (x2 : Int32) (x3 : Int32) (t0_0 : Int64) (t0_1 : Int32) (t1_0 : Int32) (t1_1 : Int32) (t2_0 : (Nat → Int32)) (t3_0 : (Nat → Int64)) (t4_0 : (Nat → Int64)) (t5_0 : Int32) (t5_1 : Int32) (t6_0 : (Nat → Int32)) (t7_0 : Int32) (t7_1 : Int32) (t8_0 : Int32) (t8_1 : Int32) (t9_0 : (Nat → Int32)) (j237 : Int64) (p274 : (Int32 × Int32 × Int32 × (Nat → Int32))) : Int32 × Int64 × Int32 × Int32 × Int32 × (Nat → Int32) := ((0 : Int32), ((p274.1 : Int32).toInt64 : Int64), t0_1, (p274.2.1 : Int32), (p274.2.2.1 : Int32), (p274.2.2.2 : (Nat → Int32)))
def F_NH_makeDecimal_c38 (x2 : Int32) (x3 : Int32) (t0_0 : Int64) (t0_1 : Int32) (t1_0 : Int32) (t1_1 : Int32) (t2_0 : (Nat → Int32)) (t3_0 : (Nat → Int64)) (t4_0 : (Nat → Int64)) (t5_0 : Int32) (t5_1 : Int32) (t6_0 : (Nat → Int32)) (t7_0 : Int32) (t7_1 : Int32) (t8_0 : Int32) (t8_1 : Int32) (t9_0 : (Nat → Int32)) (p312 : (Int32 × Int32 × (Nat → Int32))) : Int32 × Int64 × Int32 × Int32 × Int32 × (Nat → Int32) := ((0 : Int32), (0 : Int64), t0_1, (p312.1 : Int32), (p312.2.1 : Int32), (p312.2.2 : (Nat → Int32)))
def F_NH_makeDecimal_c15 (x2 : Int32) (x3 : Int32) (t0_0 : Int64) (t0_1 : Int32) (t1_0 : Int32) (t1_1 : Int32) (t2_0 : (Nat → Int32)) (t3_0 : (Nat → Int64)) (t4_0 : (Nat → Int64)) (t5_0 : Int32) (t5_1 : Int32) (t6_0 : (Nat → Int32)) (t7_0 : Int32) (t7_1 : Int32) (t8_0 : Int32) (t8_1 : Int32) (t9_0 : (Nat → Int32)) (p351 : (Int64 × Int32 × Int32 × Int32 × (Nat → Int32))) : Int32 × Int64 × Int32 × Int32 × Int32 × (Nat → Int32) := ((0 : Int32), (p351.1 : Int64), (p351.2.1 : Int32), (p351.2.2.1 : Int32), (p351.2.2.2.1 : Int32), (p351.2.2.2.2 : (Nat → Int32)))
def F_NH_makeDecimal (x2 : Int32) (x3 : Int32) (t0_0 : Int64) (t0_1 : Int32) (t1_0 : Int32) (t1_1 : Int32) (t2_0 : (Nat → Int32)) (t3_0 : (Nat → Int64)) (t4_0 : (Nat → Int64)) (t5_0 : Int32) (t5_1 : Int32) (t6_0 : (Nat → Int32)) (t7_0 : Int32) (t7_1 : Int32) (t8_0 : Int32) (t8_1 : Int32) (t9_0 : (Nat → Int32)) : Int32 × Int64 × Int32 × Int32 × Int32 × (Nat → Int32) := if x2 = (1 : Int32) then (F_NH_makeDecimal_c15 x2 x3 t0_0 t0_1 t1_0 t1_1 t2_0 t3_0 t4_0 t5_0 t5_1 t6_0 t7_0 t7_1 t8_0 t8_1 t9_0 ((F_DW_take (108 : Int32) t0_0 t0_1 t1_0 t1_1 t2_0 t7_0 t7_1 t8_0 t8_1 t9_0) : (Int64 × Int32 × Int32 × Int32 × (Nat → Int32)))) else (if x2 = (0 : Int32) then (F_NH_makeDecimal_c38 x2 x3 t0_0 t0_1 t1_0 t1_1 t2_0 t3_0 t4_0 t5_0 t5_1 t6_0 t7_0 t7_1 t8_0 t8_1 t9_0 ((F_Big_copy (220 : Int32) (68 : Int32) t1_0 t1_1 t2_0 t5_0 t5_1 t6_0) : (Int32 × Int32 × (Nat → Int32)))) else (if x2 = (2 : Int32) then (if x2 = (2 : Int32) then (if (F_NH_canHave ((F_Flo_isFinite (52 : Int32) (1075 : Int32) (2047 : Int32) (t3_0 x3.toNatClampNeg : Int64)) : Int32)) = (0 : Int32) then (F_NH_makeDecimal_c83 x2 x3 t0_0 t0_1 t1_0 t1_1 t2_0 t3_0 t4_0 t5_0 t5_1 t6_0 t7_0 t7_1 t8_0 t8_1 t9_0 (t3_0 x3.toNatClampNeg : Int64) ((F_Flo_exactly (52 : Int32) (1075 : Int32) (2047 : Int32) (t3_0 x3.toNatClampNeg : Int64) t1_0 t1_1 t2_0) : (Int32 × Int32 × Int32 × (Nat → Int32)))) else (((F_NH_canHave ((F_Flo_isFinite (52 : Int32) (1075 : Int32) (2047 : Int32) (t3_0 x3.toNatClampNeg : Int64)) : Int32)), t0_0, t0_1, t1_0, t1_1, t2_0))) else (if (F_NH_canHave ((F_Flo_isFinite (52 : Int32) (1075 : Int32) (2047 : Int32) (t4_0 x3.toNatClampNeg : Int64)) : Int32)) = (0 : Int32) then (F_NH_makeDecimal_c83_2 x2 x3 t0_0 t0_1 t1_0 t1_1 t2_0 t3_0 t4_0 t5_0 t5_1 t6_0 t7_0 t7_1 t8_0 t8_1 t9_0 (t4_0 x3.toNatClampNeg : Int64) ((F_Flo_exactly (52 : Int32) (1075 : Int32) (2047 : Int32) (t4_0 x3.toNatClampNeg : Int64) t1_0 t1_1 t2_0) : (Int32 × Int32 × Int32 × (Nat → Int32)))) else (((F_NH_canHave ((F_Flo_isFinite (52 : Int32) (1075 : Int32) (2047 : Int32) (t4_0 x3.toNatClampNeg : Int64)) : Int32)), t0_0, t0_1, t1_0, t1_1, t2_0)))) else (if x2 = (2 : Int32) then (if (F_NH_canHave ((F_Flo_isFinite (23 : Int32) (150 : Int32) (255 : Int32) (t3_0 x3.toNatClampNeg : Int64)) : Int32)) = (0 : Int32) then (F_NH_makeDecimal_c83_3 x2 x3 t0_0 t0_1 t1_0 t1_1 t2_0 t3_0 t4_0 t5_0 t5_1 t6_0 t7_0 t7_1 t8_0 t8_1 t9_0 (t3_0 x3.toNatClampNeg : Int64) ((F_Flo_exactly (23 : Int32) (150 : Int32) (255 : Int32) (t3_0 x3.toNatClampNeg : Int64) t1_0 t1_1 t2_0) : (Int32 × Int32 × Int32 × (Nat → Int32)))) else (((F_NH_canHave ((F_Flo_isFinite (23 : Int32) (150 : Int32) (255 : Int32) (t3_0 x3.toNatClampNeg : Int64)) : Int32)), t0_0, t0_1, t1_0, t1_1, t2_0))) else (if (F_NH_canHave ((F_Flo_isFinite (23 : Int32) (150 : Int32) (255 : Int32) (t4_0 x3.toNatClampNeg : Int64)) : Int32)) = (0 : Int32) then (F_NH_makeDecimal_c83_4 x2 x3 t0_0 t0_1 t1_0 t1_1 t2_0 t3_0 t4_0 t5_0 t5_1 t6_0 t7_0 t7_1 t8_0 t8_1 t9_0 (t4_0 x3.toNatClampNeg : Int64) ((F_Flo_exactly (23 : Int32) (150 : Int32) (255 : Int32) (t4_0 x3.toNatClampNeg : Int64) t1_0 t1_1 t2_0) : (Int32 × Int32 × Int32 × (Nat → Int32)))) else (((F_NH_canHave ((F_Flo_isFinite (23 : Int32) (150 : Int32) (255 : Int32) (t4_0 x3.toNatClampNeg : Int64)) : Int32)), t0_0, t0_1, t1_0, t1_1, t2_0))))))
def S_NH_makeDecimal_c83 (x2 : Int32) (x3 : Int32) (t0_0 : Int64) (t0_1 : Int32) (t1_0 : Int32) (t1_1 : Int32) (t2_0 : (Nat → Int32)) (t3_0 : (Nat → Int64)) (t4_0 : (Nat → Int64)) (t5_0 : Int32) (t5_1 : Int32) (t6_0 : (Nat → Int32)) (t7_0 : Int32) (t7_1 : Int32) (t8_0 : Int32) (t8_1 : Int32) (t9_0 : (Nat → Int32)) (j59 : Int64) (p96 : (Int32 × Int32 × Int32 × (Nat → Int32))) : Prop := True
def S_NH_makeDecimal_c83_2 (x2 : Int32) (x3 : Int32) (t0_0 : Int64) (t0_1 : Int32) (t1_0 : Int32) (t1_1 : Int32) (t2_0 : (Nat → Int32)) (t3_0 : (Nat → Int64)) (t4_0 : (Nat → Int64)) (t5_0 : Int32) (t5_1 : Int32) (t6_0 : (Nat → Int32)) (t7_0 : Int32) (t7_1 : Int32) (t8_0 : Int32) (t8_1 : Int32) (t9_0 : (Nat → Int32)) (j116 : Int64) (p153 : (Int32 × Int32 × Int32 × (Nat → Int32))) : Prop := True
def S_NH_makeDecimal_c83_3 (x2 : Int32) (x3 : Int32) (t0_0 : Int64) (t0_1 : Int32) (t1_0 : Int32) (t1_1 : Int32) (t2_0 : (Nat → Int32)) (t3_0 : (Nat → Int64)) (t4_0 : (Nat → Int64)) (t5_0 : Int32) (t5_1 : Int32) (t6_0 : (Nat → Int32)) (t7_0 : Int32) (t7_1 : Int32) (t8_0 : Int32) (t8_1 : Int32) (t9_0 : (Nat → Int32)) (j180 : Int64) (p217 : (Int32 × Int32 × Int32 × (Nat → Int32))) : Prop := True
def S_NH_makeDecimal_c83_4 (x2 : Int32) (x3 : Int32) (t0_0 : Int64) (t0_1 : Int32) (t1_0 : Int32) (t1_1 : Int32) (t2_0 : (Nat → Int32)) (t3_0 : (Nat → Int64)) (t4_0 : (Nat → Int64)) (t5_0 : Int32) (t5_1 : Int32) (t6_0 : (Nat → Int32)) (t7_0 : Int32) (t7_1 : Int32) (t8_0 : Int32) (t8_1 : Int32) (t9_0 : (Nat → Int32)) (j237 : Int64) (p274 : (Int32 × Int32 × Int32 × (Nat → Int32))) : Prop := True
def S_NH_makeDecimal_c38 (x2 : Int32) (x3 : Int32) (t0_0 : Int64) (t0_1 : Int32) (t1_0 : Int32) (t1_1 : Int32) (t2_0 : (Nat → Int32)) (t3_0 : (Nat → Int64)) (t4_0 : (Nat → Int64)) (t5_0 : Int32) (t5_1 : Int32) (t6_0 : (Nat → Int32)) (t7_0 : Int32) (t7_1 : Int32) (t8_0 : Int32) (t8_1 : Int32) (t9_0 : (Nat → Int32)) (p312 : (Int32 × Int32 × (Nat → Int32))) : Prop := True
def S_NH_makeDecimal_c15 (x2 : Int32) (x3 : Int32) (t0_0 : Int64) (t0_1 : Int32) (t1_0 : Int32) (t1_1 : Int32) (t2_0 : (Nat → Int32)) (t3_0 : (Nat → Int64)) (t4_0 : (Nat → Int64)) (t5_0 : Int32) (t5_1 : Int32) (t6_0 : (Nat → Int32)) (t7_0 : Int32) (t7_1 : Int32) (t8_0 : Int32) (t8_1 : Int32) (t9_0 : (Nat → Int32)) (p351 : (Int64 × Int32 × Int32 × Int32 × (Nat → Int32))) : Prop := True
def S_NH_makeDecimal (x2 : Int32) (x3 : Int32) (t0_0 : Int64) (t0_1 : Int32) (t1_0 : Int32) (t1_1 : Int32) (t2_0 : (Nat → Int32)) (t3_0 : (Nat → Int64)) (t4_0 : (Nat → Int64)) (t5_0 : Int32) (t5_1 : Int32) (t6_0 : (Nat → Int32)) (t7_0 : Int32) (t7_1 : Int32) (t8_0 : Int32) (t8_1 : Int32) (t9_0 : (Nat → Int32)) : Prop := if x2 = (1 : Int32) then ((0 ≤ x3.toInt) ∧ ((x3.toInt ≤ 9) ∧ (S_NH_makeDecimal_c15 x2 x3 t0_0 t0_1 t1_0 t1_1 t2_0 t3_0 t4_0 t5_0 t5_1 t6_0 t7_0 t7_1 t8_0 t8_1 t9_0 ((F_DW_take (108 : Int32) t0_0 t0_1 t1_0 t1_1 t2_0 t7_0 t7_1 t8_0 t8_1 t9_0) : (Int64 × Int32 × Int32 × Int32 × (Nat → Int32)))))) else (if x2 = (0 : Int32) then ((0 ≤ x3.toInt) ∧ ((x3.toInt ≤ 9) ∧ (S_NH_makeDecimal_c38 x2 x3 t0_0 t0_1 t1_0 t1_1 t2_0 t3_0 t4_0 t5_0 t5_1 t6_0 t7_0 t7_1 t8_0 t8_1 t9_0 ((F_Big_copy (220 : Int32) (68 : Int32) t1_0 t1_1 t2_0 t5_0 t5_1 t6_0) : (Int32 × Int32 × (Nat → Int32)))))) else (if x2 = (2 : Int32) then (if x2 = (2 : Int32) then ((0 ≤ x3.toInt) ∧ ((x3.toInt ≤ 9) ∧ (if (F_NH_canHave ((F_Flo_isFinite (52 : Int32) (1075 : Int32) (2047 : Int32) (t3_0 x3.toNatClampNeg : Int64)) : Int32)) = (0 : Int32) then (S_NH_makeDecimal_c83 x2 x3 t0_0 t0_1 t1_0 t1_1 t2_0 t3_0 t4_0 t5_0 t5_1 t6_0 t7_0 t7_1 t8_0 t8_1 t9_0 (t3_0 x3.toNatClampNeg : Int64) ((F_Flo_exactly (52 : Int32) (1075 : Int32) (2047 : Int32) (t3_0 x3.toNatClampNeg : Int64) t1_0 t1_1 t2_0) : (Int32 × Int32 × Int32 × (Nat → Int32)))) else (True)))) else ((0 ≤ x3.toInt) ∧ ((x3.toInt ≤ 9) ∧ (if (F_NH_canHave ((F_Flo_isFinite (52 : Int32) (1075 : Int32) (2047 : Int32) (t4_0 x3.toNatClampNeg : Int64)) : Int32)) = (0 : Int32) then (S_NH_makeDecimal_c83_2 x2 x3 t0_0 t0_1 t1_0 t1_1 t2_0 t3_0 t4_0 t5_0 t5_1 t6_0 t7_0 t7_1 t8_0 t8_1 t9_0 (t4_0 x3.toNatClampNeg : Int64) ((F_Flo_exactly (52 : Int32) (1075 : Int32) (2047 : Int32) (t4_0 x3.toNatClampNeg : Int64) t1_0 t1_1 t2_0) : (Int32 × Int32 × Int32 × (Nat → Int32)))) else (True))))) else (if x2 = (2 : Int32) then ((0 ≤ x3.toInt) ∧ ((x3.toInt ≤ 9) ∧ (if (F_NH_canHave ((F_Flo_isFinite (23 : Int32) (150 : Int32) (255 : Int32) (t3_0 x3.toNatClampNeg : Int64)) : Int32)) = (0 : Int32) then (S_NH_makeDecimal_c83_3 x2 x3 t0_0 t0_1 t1_0 t1_1 t2_0 t3_0 t4_0 t5_0 t5_1 t6_0 t7_0 t7_1 t8_0 t8_1 t9_0 (t3_0 x3.toNatClampNeg : Int64) ((F_Flo_exactly (23 : Int32) (150 : Int32) (255 : Int32) (t3_0 x3.toNatClampNeg : Int64) t1_0 t1_1 t2_0) : (Int32 × Int32 × Int32 × (Nat → Int32)))) else (True)))) else ((0 ≤ x3.toInt) ∧ ((x3.toInt ≤ 9) ∧ (if (F_NH_canHave ((F_Flo_isFinite (23 : Int32) (150 : Int32) (255 : Int32) (t4_0 x3.toNatClampNeg : Int64)) : Int32)) = (0 : Int32) then (S_NH_makeDecimal_c83_4 x2 x3 t0_0 t0_1 t1_0 t1_1 t2_0 t3_0 t4_0 t5_0 t5_1 t6_0 t7_0 t7_1 t8_0 t8_1 t9_0 (t4_0 x3.toNatClampNeg : Int64) ((F_Flo_exactly (23 : Int32) (150 : Int32) (255 : Int32) (t4_0 x3.toNatClampNeg : Int64) t1_0 t1_1 t2_0) : (Int32 × Int32 × Int32 × (Nat → Int32)))) else (True)))))))
set_option maxRecDepth 100000 in
set_option maxHeartbeats 4000000 in
theorem X_NH_makeDecimal (l : Launch) (D : va_G) (g : Nat → ClassId) (q : Nat → Nat) (ws : va_W) (x2 : Int32) (x3 : Int32) (k3 : Nat) (hBk3 : q_isBig (nsh g q) g q k3 68) (yk3 : 66 ≤ k3) (gk3x3 : x3.toNatClampNeg < 10 → k3 = 66 + 5 * x3.toNatClampNeg) (d3 : Nat) (hBd3 : q_isDec (nsh g q) g q d3 108) (yd3 : 66 ≤ d3) (gd3x3 : x3.toNatClampNeg < 10 → d3 = 68 + 5 * x3.toNatClampNeg) (ne_k3_d3 : k3 ≠ d3) (ne_k3_d3p1 : k3 ≠ d3 + 1) (ne_k3_d3p2 : k3 ≠ d3 + 2) (ne_d3_k3p1 : d3 ≠ k3 + 1) (hlt : l.stackTraces = false) (hI : q_I (nsh g q) q ws) (t0_0 : Int64) (t0_1 : Int32) (hT0 : ws[30]? = (some (q 30, .inr (5, [.ref (q 31), .long t0_0, .ref (q 9), .int t0_1])) : Option (Nat × va_E))) (t1_0 : Int32) (t1_1 : Int32) (hT1 : ws[10]? = (some (q 10, .inr (2, [.ref (q 11), .int t1_0, .int t1_1])) : Option (Nat × va_E))) (t2_0 : (Nat → Int32)) (hT2 : ws[11]? = (some (q 11, .inl (g 0, (220 : Int32).toNatClampNeg, .inl t2_0)) : Option (Nat × va_E))) (t3_0 : (Nat → Int64)) (hT3 : ws[7]? = (some (q 7, .inl (g 1, 10, .inr (.inl t3_0))) : Option (Nat × va_E))) (t4_0 : (Nat → Int64)) (hT4 : ws[8]? = (some (q 8, .inl (g 1, 10, .inr (.inl t4_0))) : Option (Nat × va_E))) (t5_0 : Int32) (t5_1 : Int32) (hT5 : ws[k3]? = (some (q k3, .inr (2, [.ref (q (k3 + 1)), .int t5_0, .int t5_1])) : Option (Nat × va_E))) (t6_0 : (Nat → Int32)) (hT6 : ws[k3 + 1]? = (some (q (k3 + 1), .inl (g 0, (68 : Int32).toNatClampNeg, .inl t6_0)) : Option (Nat × va_E))) (t7_0 : Int32) (t7_1 : Int32) (hT7 : ws[d3]? = (some (q d3, .inr (3, [.ref (q (d3 + 1)), .int t7_0, .int t7_1])) : Option (Nat × va_E))) (t8_0 : Int32) (t8_1 : Int32) (hT8 : ws[d3 + 1]? = (some (q (d3 + 1), .inr (2, [.ref (q (d3 + 2)), .int t8_0, .int t8_1])) : Option (Nat × va_E))) (t9_0 : (Nat → Int32)) (hT9 : ws[d3 + 2]? = (some (q (d3 + 2), .inl (g 0, (108 : Int32).toNatClampNeg, .inl t9_0)) : Option (Nat × va_E))) (hS : True ∧ S_NH_makeDecimal x2 x3 t0_0 t0_1 t1_0 t1_1 t2_0 t3_0 t4_0 t5_0 t5_1 t6_0 t7_0 t7_1 t8_0 t8_1 t9_0) : ∀ sz, q_Mx l y_NH_makeDecimal prog_1_method_26_code 6 none 8 1 6 D g [.ref (q 0), .int x2, .int x3] ws sz (va_Qv (fun u => q_I (nsh g q) q u ∧ q_un ws u [10, 11, 30] ∧ ∃ (u0_0 : Int64) (u0_1 : Int32) (u1_0 : Int32) (u1_1 : Int32) (u2_0 : (Nat → Int32)), u[30]? = (some (q 30, .inr (5, [.ref (q 31), .long u0_0, .ref (q 9), .int u0_1])) : Option (Nat × va_E)) ∧ u[10]? = (some (q 10, .inr (2, [.ref (q 11), .int u1_0, .int u1_1])) : Option (Nat × va_E)) ∧ u[11]? = (some (q 11, .inl (g 0, (220 : Int32).toNatClampNeg, .inl u2_0)) : Option (Nat × va_E)) ∧ (0 ≤ u0_0.toInt + 10000) ∧ (u0_0.toInt ≤ 2147483647) ∧ (0 ≤ u1_0.toInt) ∧ (u1_0.toInt ≤ 220) ∧ (0 ≤ u1_1.toInt) ∧ (u1_1.toInt ≤ 1) ∧ (x3.toInt ≤ u0_0.toInt + 10009) ∧ (t7_0.toInt ≤ u0_0.toInt + 10000) ∧ (x3.toInt ≤ u0_1.toInt + 9) ∧ (u0_1.toInt ≤ x3.toInt + 1) ∧ (t0_1.toInt ≤ u0_1.toInt) ∧ (u0_1.toInt ≤ t0_1.toInt) ∧ (x3.toInt ≤ u1_0.toInt + 9) ∧ (u1_0.toInt ≤ x3.toInt + 220) ∧ (x3.toInt ≤ u1_1.toInt + 9) ∧ (u1_1.toInt ≤ x3.toInt + 1) ∧ (u1_0.toInt ≤ u0_0.toInt + 10108) ∧ ((0 : Int32), u0_0, u0_1, u1_0, u1_1, u2_0) = (F_NH_makeDecimal x2 x3 t0_0 t0_1 t1_0 t1_1 t2_0 t3_0 t4_0 t5_0 t5_1 t6_0 t7_0 t7_1 t8_0 t8_1 t9_0)) (q_B D g (va_A ws sz)) (va_A ws sz)) (fun E u => ∃ c : Int32, E = qE c ∧ c ≠ 0 ∧ q_I (nsh g q) q u ∧ q_un ws u [10, 11, 30] ∧ ∃ (u0_0 : Int64) (u0_1 : Int32) (u1_0 : Int32) (u1_1 : Int32) (u2_0 : (Nat → Int32)), u[30]? = (some (q 30, .inr (5, [.ref (q 31), .long u0_0, .ref (q 9), .int u0_1])) : Option (Nat × va_E)) ∧ u[10]? = (some (q 10, .inr (2, [.ref (q 11), .int u1_0, .int u1_1])) : Option (Nat × va_E)) ∧ u[11]? = (some (q 11, .inl (g 0, (220 : Int32).toNatClampNeg, .inl u2_0)) : Option (Nat × va_E)) ∧ (c, u0_0, u0_1, u1_0, u1_1, u2_0) = (F_NH_makeDecimal x2 x3 t0_0 t0_1 t1_0 t1_1 t2_0 t3_0 t4_0 t5_0 t5_1 t6_0 t7_0 t7_1 t8_0 t8_1 t9_0)) := by
  intro sz
  refine q_intoX (by decide) (Nat.le_of_ble_eq_true rfl) ?_
  intro p e s m below meth c ls hsz C0 V hno hl
  have hx := C0.1
  have hb := C0.2.1
  obtain ⟨yy0_0, yy0_1, hh0, btt0_1⟩ := n_o30 hI
  obtain ⟨rfl, rfl⟩ : t0_0 = yy0_0 ∧ t0_1 = yy0_1 := by have z := Option.some.inj (hT0.symm.trans hh0); simpa using z
  replace btt0_1 : q_F (0 ≤ t0_1.toInt ∧ t0_1.toInt ≤ 1) := btt0_1
  obtain ⟨yy1_0, yy1_1, hh1, btt1_0, btt1_1⟩ := q_bigO hI (n_b10 g q)
  obtain ⟨rfl, rfl⟩ : t1_0 = yy1_0 ∧ t1_1 = yy1_1 := by have z := Option.some.inj (hT1.symm.trans hh1); simpa using z
  replace btt1_0 : q_F (0 ≤ t1_0.toInt ∧ t1_0.toInt ≤ 220) := btt1_0
  replace btt1_1 : q_F (0 ≤ t1_1.toInt ∧ t1_1.toInt ≤ 1) := btt1_1
  obtain ⟨yy5_0, yy5_1, hh5, btt5_0, btt5_1⟩ := q_bigO hI hBk3
  obtain ⟨rfl, rfl⟩ : t5_0 = yy5_0 ∧ t5_1 = yy5_1 := by have z := Option.some.inj (hT5.symm.trans hh5); simpa using z
  replace btt5_0 : q_F (0 ≤ t5_0.toInt ∧ t5_0.toInt ≤ 68) := btt5_0
  replace btt5_1 : q_F (0 ≤ t5_1.toInt ∧ t5_1.toInt ≤ 1) := btt5_1
  obtain ⟨yy7_0, yy7_1, hh7, btt7_0, btt7_1⟩ := n_deO hI hBd3
  obtain ⟨rfl, rfl⟩ : t7_0 = yy7_0 ∧ t7_1 = yy7_1 := by have z := Option.some.inj (hT7.symm.trans hh7); simpa using z
  replace btt7_0 : q_F (-10000 ≤ t7_0.toInt ∧ t7_0.toInt ≤ 10000) := btt7_0
  replace btt7_1 : q_F (1 ≤ t7_1.toInt ∧ t7_1.toInt ≤ 1000) := btt7_1
  obtain ⟨yy8_0, yy8_1, hh8, btt8_0, btt8_1⟩ := q_bigO hI hBd3.2
  obtain ⟨rfl, rfl⟩ : t8_0 = yy8_0 ∧ t8_1 = yy8_1 := by have z := Option.some.inj (hT8.symm.trans hh8); simpa using z
  replace btt8_0 : q_F (0 ≤ t8_0.toInt ∧ t8_0.toInt ≤ 108) := btt8_0
  replace btt8_1 : q_F (0 ≤ t8_1.toInt ∧ t8_1.toInt ≤ 1) := btt8_1
  have hF : q_un ws ws [10, 11, 30] := q_u0
  have hl : lv_has ls 6 [(0, .ref (q 0)), (1, .int x2), (2, .int x3)] := hl
  refine lv_iload_n hx hb d_1_26_0 rfl (lv_at hl 1 rfl) ?_
  refine lv_iconst (v := 1) hx hb d_1_26_1 (by decide) ?_
  refine lv_icmp_ne (tgt := 21) hx hb d_1_26_2 (by decide) (fun c38 => ?_) (fun c38 => ?_)
  ·
    have b39 : q_F (x2.toInt ≠ 1) := (q_neI c38)
    refine lv_iload_n hx hb d_1_26_21 rfl (lv_at hl 1 rfl) ?_
    refine lv_if_ne (tgt := 52) hx hb d_1_26_22 (by decide) (fun c40 => ?_) (fun c40 => ?_)
    ·
      have b41 : q_F (x2.toInt ≠ 0) := (q_neI c40)
      refine lv_aload_n hx hb d_1_26_52 rfl (lv_at hl 0 rfl) ?_
      refine lv_iload_n hx hb d_1_26_53 rfl (lv_at hl 1 rfl) ?_
      have hO42 := n_o0 hI
      refine q_gor (post := fun r u => ws = u ∧ r = q (F_NH_floatsOf x2)) V (q_runV (As := [.int x2]) (rest := []) (d := 1) (mc := 0) (ms := 0) (ci := 0) C0 V rfl LV_NH_130 (X_NH_floatsOf l D g q ws  x2 hI   _) rfl rfl hO42 rfl hl.1 rfl (Nat.le_of_ble_eq_true rfl) ⟨by decide, by decide⟩ ⟨Nat.le_of_ble_eq_true rfl, Nat.le_of_ble_eq_true rfl⟩ d_1_26_54) (fun a45 u43 H locs hp44 V => ?_)
      obtain ⟨rfl, hr46⟩ := hp44
      by_cases c47 : x2 = (2 : Int32)
      ·
        have hr48 : a45 = q 34 := hr46.trans (congrArg q (by unfold F_NH_floatsOf; rw [if_pos c47]))
        subst hr48
        have b49 : q_F (x2.toInt = 2) := (q_eqI c47)
        refine lv_astore_n (lv' := [(3, .ref (q 34)), (0, .ref (q 0)), (1, .int x2), (2, .int x3)]) hx hb d_1_26_57 rfl hl (by decide) rfl (fun ls hl => ?_)
        refine lv_aload_n hx hb d_1_26_58 rfl (lv_at hl 1 rfl) ?_
        refine lv_iload_n hx hb d_1_26_59 rfl (lv_at hl 2 rfl) ?_
        refine q_gor (post := fun r u => ws = u ∧ r = q (F_NH_floatRow x2)) V (q_runV (As := [.int x2]) (rest := []) (d := 1) (mc := 0) (ms := 0) (ci := 0) C0 V rfl LV_NH_157 (X_NH_floatRow l D g q ws  x2 hI   _) rfl rfl hO42 rfl hl.1 rfl (Nat.le_of_ble_eq_true rfl) ⟨by decide, by decide⟩ ⟨Nat.le_of_ble_eq_true rfl, Nat.le_of_ble_eq_true rfl⟩ d_1_26_60) (fun a52 u50 H locs hp51 V => ?_)
        obtain ⟨rfl, hr53⟩ := hp51
        by_cases c54 : x2 = (2 : Int32)
        ·
          have hr55 : a52 = q 7 := hr53.trans (congrArg q (by unfold F_NH_floatRow; rw [if_pos c54]))
          subst hr55
          have b56 : q_F (x2.toInt = 2) := (q_eqI c54)
          refine lv_iload_n hx hb d_1_26_63 rfl (lv_at hl 3 rfl) ?_
          have ob57 : q_F (0 ≤ x3.toInt) := (by have h := hS; rw [S_NH_makeDecimal.eq_1] at h; rw [if_neg c38] at h; rw [if_neg c40] at h; rw [if_pos c47] at h; rw [if_pos c54] at h; exact h.2.1)
          have ob58 : q_F (x3.toInt ≤ 9) := (by have h := hS; rw [S_NH_makeDecimal.eq_1] at h; rw [if_neg c38] at h; rw [if_neg c40] at h; rw [if_pos c47] at h; rw [if_pos c54] at h; replace h := q_s2 h; exact h.2.1)
          refine q_lald C0 V hT3 (q_ix (x := x3.toInt) rfl (by have t1 : 0 ≤ x3.toInt := ob57; omega) (by have t1 : 0 ≤ x3.toInt := ob57; have t2 : x3.toInt ≤ 9 := ob58; omega)) d_1_26_64 ?_
          obtain ⟨j59, e60⟩ := q_nm (t3_0 x3.toNatClampNeg : Int64)
          refine q_tl (v := j59) e60 ?_
          refine lv_lstore (lv' := [(4, .long j59), (3, .ref (q 34)), (0, .ref (q 0)), (1, .int x2), (2, .int x3)]) hx hb d_1_26_65 hl (by decide) rfl (fun ls hl => ?_)
          refine lv_aload_n hx hb d_1_26_67 rfl (lv_at hl 1 rfl) ?_
          refine lv_lload hx hb d_1_26_68 (lv_at hl 0 rfl) ?_
          obtain ⟨y62, y63, y64, hO61⟩ := n_flO hI (n_f34 g q)
          refine q_goi V (q_runV (As := [.long j59]) (rest := []) (d := 2) (mc := 0) (ms := 0) (ci := 6) C0 V rfl LV_NH_179 (X_Flo_isFinite l D g q ws 34 52 1075 2047 (n_f34 g q) j59 hI   _) rfl rfl hO61 rfl hl.1 rfl (Nat.le_of_ble_eq_true rfl) ⟨by decide, by decide⟩ ⟨Nat.le_of_ble_eq_true rfl, Nat.le_of_ble_eq_true rfl⟩ d_1_26_70) (fun a67 u65 H locs hp66 V => ?_)
          obtain ⟨rfl, b68, b69, hE70⟩ := hp66
          have e71 : a67 = (F_Flo_isFinite (52 : Int32) (1075 : Int32) (2047 : Int32) j59) := hE70
          replace b68 : q_F (0 ≤ a67.toInt) := b68
          replace b69 : q_F (a67.toInt ≤ 1) := b69
          refine q_goxv V (q_runSX (As := [.int a67]) (rest := []) (d := 7) (mc := 1) (ms := 6) C0 V rfl LS_NH_138 (X_NH_canHave l D g q ws  a67 hlt hI  ⟨(by have t1 : 0 ≤ a67.toInt := b68; omega), (by have t1 : a67.toInt ≤ 1 := b69; omega)⟩ _) rfl hl.1 rfl (Nat.le_of_ble_eq_true rfl) ⟨by decide, by decide⟩ ⟨Nat.le_of_ble_eq_true rfl, Nat.le_of_ble_eq_true rfl⟩ d_1_26_73) (fun qx Ex ce u72 H locs hp73 V hce hcv hcl => ?_) (fun u72 H locs hp73 V => ?_)
          ·
            obtain ⟨cx75, he76, hc77, rfl, hE74⟩ := hp73
            have c78 : ¬ (F_NH_canHave a67) = (0 : Int32) := fun z => hc77 (((hE74) : cx75 = _).trans z)
            exact q_outT hno C0 V (⟨(F_NH_canHave a67), (he76.trans (congrArg qE ((hE74) : cx75 = _))), c78, hI, hF, t0_0, t0_1, t1_0, t1_1, t2_0, hT0, hT1, hT2, (show ((F_NH_canHave a67), t0_0, t0_1, t1_0, t1_1, t2_0) = (F_NH_makeDecimal x2 x3 t0_0 t0_1 t1_0 t1_1 t2_0 t3_0 t4_0 t5_0 t5_1 t6_0 t7_0 t7_1 t8_0 t8_1 t9_0) from (by have c78x := c78; rw [e71, ← e60] at c78x; rw [e71, ← e60, F_NH_makeDecimal.eq_1, if_neg c38, if_neg c40, if_pos c47, if_pos c54, if_neg c78x]))⟩) hce hcv hcl (Nat.le_of_ble_eq_true rfl) (Nat.le_of_ble_eq_true rfl)
          ·
            obtain ⟨rfl, hE79⟩ := hp73
            have c78 : (F_NH_canHave a67) = (0 : Int32) := ((hE79) : (0 : Int32) = _).symm
            refine lv_aload_n hx hb d_1_26_76 rfl (lv_at hl 2 rfl) ?_
            refine q_get (ci := 0) (j := 7) (v := .ref (q 30)) C0 V i_NH rfl rfl hO42 (by decide) w_431 rfl d_1_26_77 ?_
            refine lv_aload_n hx hb d_1_26_80 rfl (lv_at hl 1 rfl) ?_
            refine lv_lload hx hb d_1_26_81 (lv_at hl 0 rfl) ?_
            refine q_goi V (q_runV (As := [.long j59]) (rest := [.ref (q 30)]) (d := 4) (mc := 0) (ms := 0) (ci := 6) C0 V rfl LV_NH_405 (X_Flo_exactly l D g q ws 34 52 1075 2047 (n_f34 g q) j59 hI t1_0 t1_1 hT1 t2_0 hT2  _) rfl rfl hO61 rfl hl.1 rfl (Nat.le_of_ble_eq_true rfl) ⟨by decide, by decide⟩ ⟨Nat.le_of_ble_eq_true rfl, Nat.le_of_ble_eq_true rfl⟩ d_1_26_83) (fun a83 u81 H locs hp82 V => ?_)
            obtain ⟨hI, hu95, y85, y86, f87, hO84, hA88, b89, b90, b91, b92, b93, hE94⟩ := hp82
            replace hO84 : u81[10]? = (some (q 10, .inr (2, [.ref (q 11), .int y85, .int y86])) : Option (Nat × va_E)) := hO84
            replace hA88 : u81[11]? = (some (q 11, .inl (g 0, (220 : Int32).toNatClampNeg, .inl f87)) : Option (Nat × va_E)) := hA88
            obtain ⟨p96, e97⟩ : ∃ z, z = (F_Flo_exactly (52 : Int32) (1075 : Int32) (2047 : Int32) j59 t1_0 t1_1 t2_0) := ⟨_, rfl⟩
            have e98 : a83 = p96.1 := congrArg (fun z => z.1) (hE94.trans e97.symm)
            have e99 : y85 = p96.2.1 := congrArg (fun z => z.2.1) (hE94.trans e97.symm)
            have e100 : y86 = p96.2.2.1 := congrArg (fun z => z.2.2.1) (hE94.trans e97.symm)
            have e101 : f87 = p96.2.2.2 := congrArg (fun z => z.2.2.2) (hE94.trans e97.symm)
            replace b89 : q_F (0 ≤ a83.toInt) := b89
            replace b90 : q_F (0 ≤ y85.toInt) := b90
            replace b91 : q_F (y85.toInt ≤ 220) := b91
            replace b92 : q_F (0 ≤ y86.toInt) := b92
            replace b93 : q_F (y86.toInt ≤ 1) := b93
            replace hT0 := (hu95 _ (by decide)).trans hT0
            replace hT3 := (hu95 _ (by decide)).trans hT3
            replace hT4 := (hu95 _ (by decide)).trans hT4
            replace hT5 := (hu95 _ (by have z0 := yk3; simp only [List.mem_cons, List.not_mem_nil, or_false, not_or]; omega)).trans hT5
            replace hT6 := (hu95 _ (by have z0 := yk3; simp only [List.mem_cons, List.not_mem_nil, or_false, not_or]; omega)).trans hT6
            replace hT7 := (hu95 _ (by have z0 := yd3; simp only [List.mem_cons, List.not_mem_nil, or_false, not_or]; omega)).trans hT7
            replace hT8 := (hu95 _ (by have z0 := yd3; simp only [List.mem_cons, List.not_mem_nil, or_false, not_or]; omega)).trans hT8
            replace hT9 := (hu95 _ (by have z0 := yd3; simp only [List.mem_cons, List.not_mem_nil, or_false, not_or]; omega)).trans hT9
            replace hO42 := (hu95 _ (by decide)).trans hO42
            replace hO61 := (hu95 _ (by decide)).trans hO61
            replace hF := q_uc hF hu95 (by simp)
            have hR102 := (show F_NH_makeDecimal_c83 x2 x3 t0_0 t0_1 t1_0 t1_1 t2_0 t3_0 t4_0 t5_0 t5_1 t6_0 t7_0 t7_1 t8_0 t8_1 t9_0 j59 p96 = (F_NH_makeDecimal x2 x3 t0_0 t0_1 t1_0 t1_1 t2_0 t3_0 t4_0 t5_0 t5_1 t6_0 t7_0 t7_1 t8_0 t8_1 t9_0) from (by have c78x := c78; rw [e71, ← e60] at c78x; rw [e97, ← e60, F_NH_makeDecimal.eq_1, if_neg c38, if_neg c40, if_pos c47, if_pos c54, if_pos c78x]))
            have hS103 := (show True ∧ S_NH_makeDecimal_c83 x2 x3 t0_0 t0_1 t1_0 t1_1 t2_0 t3_0 t4_0 t5_0 t5_1 t6_0 t7_0 t7_1 t8_0 t8_1 t9_0 j59 p96 from (by rw [e97, ← e60]; have h := hS; rw [S_NH_makeDecimal.eq_1] at h; rw [if_neg c38] at h; rw [if_neg c40] at h; rw [if_pos c47] at h; rw [if_pos c54] at h; replace h := q_s2 h; replace h := q_s2 h; have c78x := c78; rw [e71, ← e60] at c78x; rw [if_pos c78x] at h; with_reducible exact h))
            refine lv_i2l hx hb d_1_26_86 rfl ?_
            obtain ⟨j107, e108⟩ := q_nm (a83.toInt64 : Int64)
            refine q_tl (v := j107) e108 ?_
            have b109 : q_F (j107.toInt = a83.toInt) := (by rw [← e108]; show (a83.toInt64 : Int64).toInt = a83.toInt; exact q_i2l rfl)
            refine q_put (ci := 5) (j := 1) (v := .long j107) (ty := .long) C0 V i_DW o_DW n_DW rfl rfl hT0 (by decide) w_213 rfl rfl rfl rfl (Nat.le_of_ble_eq_true rfl) d_1_26_87 (fun H locs w110 hu111 hT0 V => ?_)
            replace hT0 : w110[30]? = (some (q 30, .inr (5, [.ref (q 31), .long j107, .ref (q 9), .int t0_1])) : Option (Nat × va_E)) := hT0
            replace hI := n_p30 hI hu111 hT0 ⟨(by have t1 : 0 ≤ t0_1.toInt ∧ t0_1.toInt ≤ 1 := btt0_1; omega), (by have t1 : 0 ≤ t0_1.toInt ∧ t0_1.toInt ≤ 1 := btt0_1; omega)⟩
            replace hO84 := (hu111 _ (by decide)).trans hO84
            replace hA88 := (hu111 _ (by decide)).trans hA88
            replace hT3 := (hu111 _ (by decide)).trans hT3
            replace hT4 := (hu111 _ (by decide)).trans hT4
            replace hT5 := (hu111 _ (by have z0 := yk3; omega)).trans hT5
            replace hT6 := (hu111 _ (by have z0 := yk3; omega)).trans hT6
            replace hT7 := (hu111 _ (by have z0 := yd3; omega)).trans hT7
            replace hT8 := (hu111 _ (by have z0 := yd3; omega)).trans hT8
            replace hT9 := (hu111 _ (by have z0 := yd3; omega)).trans hT9
            replace hO42 := (hu111 _ (by decide)).trans hO42
            replace hO61 := (hu111 _ (by decide)).trans hO61
            replace hF := q_us hF hu111 (by simp)
            exact q_retX (q_retv C0 V (⟨hI, hF, j107, t0_1, y85, y86, f87, hT0, hO84, hA88, (show 0 ≤ j107.toInt + 10000 from (by have t1 : 0 ≤ a83.toInt := b89; have t2 : j107.toInt = a83.toInt := b109; omega)), (show j107.toInt ≤ 2147483647 from (by have t1 : j107.toInt = a83.toInt := b109; have _ := q_lo32 (x := a83); have _ := q_hi32 (x := a83); omega)), (show 0 ≤ y85.toInt from (by have t1 : 0 ≤ y85.toInt := b90; omega)), (show y85.toInt ≤ 220 from (by have t1 : y85.toInt ≤ 220 := b91; omega)), (show 0 ≤ y86.toInt from (by have t1 : 0 ≤ y86.toInt := b92; omega)), (show y86.toInt ≤ 1 from (by have t1 : y86.toInt ≤ 1 := b93; omega)), (show x3.toInt ≤ j107.toInt + 10009 from (by have t1 : x3.toInt ≤ 9 := ob58; have t2 : 0 ≤ a83.toInt := b89; have t3 : j107.toInt = a83.toInt := b109; omega)), (show t7_0.toInt ≤ j107.toInt + 10000 from (by have t1 : -10000 ≤ t7_0.toInt ∧ t7_0.toInt ≤ 10000 := btt7_0; have t2 : 0 ≤ a83.toInt := b89; have t3 : j107.toInt = a83.toInt := b109; omega)), (show x3.toInt ≤ t0_1.toInt + 9 from (by have t1 : 0 ≤ t0_1.toInt ∧ t0_1.toInt ≤ 1 := btt0_1; have t2 : x3.toInt ≤ 9 := ob58; omega)), (show t0_1.toInt ≤ x3.toInt + 1 from (by have t1 : 0 ≤ t0_1.toInt ∧ t0_1.toInt ≤ 1 := btt0_1; have t2 : 0 ≤ x3.toInt := ob57; omega)), (show t0_1.toInt ≤ t0_1.toInt from (by omega)), (show t0_1.toInt ≤ t0_1.toInt from (by omega)), (show x3.toInt ≤ y85.toInt + 9 from (by have t1 : x3.toInt ≤ 9 := ob58; have t2 : 0 ≤ y85.toInt := b90; omega)), (show y85.toInt ≤ x3.toInt + 220 from (by have t1 : 0 ≤ x3.toInt := ob57; have t2 : y85.toInt ≤ 220 := b91; omega)), (show x3.toInt ≤ y86.toInt + 9 from (by have t1 : x3.toInt ≤ 9 := ob58; have t2 : 0 ≤ y86.toInt := b92; omega)), (show y86.toInt ≤ x3.toInt + 1 from (by have t1 : 0 ≤ x3.toInt := ob57; have t2 : y86.toInt ≤ 1 := b93; omega)), (show y85.toInt ≤ j107.toInt + 10108 from (by have t1 : 0 ≤ a83.toInt := b89; have t2 : y85.toInt ≤ 220 := b91; have t3 : j107.toInt = a83.toInt := b109; omega)), (show ((0 : Int32), j107, t0_1, y85, y86, f87) = (F_NH_makeDecimal x2 x3 t0_0 t0_1 t1_0 t1_1 t2_0 t3_0 t4_0 t5_0 t5_1 t6_0 t7_0 t7_1 t8_0 t8_1 t9_0) from Eq.trans (by rw [← e108, e101, e100, e99, e98, F_NH_makeDecimal_c83.eq_1]) hR102)⟩) d_1_26_90)
        ·
          have hr112 : a52 = q 8 := hr53.trans (congrArg q (by unfold F_NH_floatRow; rw [if_neg c54]))
          subst hr112
          have b113 : q_F (x2.toInt ≠ 2) := (q_neI c54)
          refine lv_iload_n hx hb d_1_26_63 rfl (lv_at hl 3 rfl) ?_
          have ob114 : q_F (0 ≤ x3.toInt) := (by have h := hS; rw [S_NH_makeDecimal.eq_1] at h; rw [if_neg c38] at h; rw [if_neg c40] at h; rw [if_pos c47] at h; rw [if_neg c54] at h; exact h.2.1)
          have ob115 : q_F (x3.toInt ≤ 9) := (by have h := hS; rw [S_NH_makeDecimal.eq_1] at h; rw [if_neg c38] at h; rw [if_neg c40] at h; rw [if_pos c47] at h; rw [if_neg c54] at h; replace h := q_s2 h; exact h.2.1)
          refine q_lald C0 V hT4 (q_ix (x := x3.toInt) rfl (by have t1 : 0 ≤ x3.toInt := ob114; omega) (by have t1 : 0 ≤ x3.toInt := ob114; have t2 : x3.toInt ≤ 9 := ob115; omega)) d_1_26_64 ?_
          obtain ⟨j116, e117⟩ := q_nm (t4_0 x3.toNatClampNeg : Int64)
          refine q_tl (v := j116) e117 ?_
          refine lv_lstore (lv' := [(4, .long j116), (3, .ref (q 34)), (0, .ref (q 0)), (1, .int x2), (2, .int x3)]) hx hb d_1_26_65 hl (by decide) rfl (fun ls hl => ?_)
          refine lv_aload_n hx hb d_1_26_67 rfl (lv_at hl 1 rfl) ?_
          refine lv_lload hx hb d_1_26_68 (lv_at hl 0 rfl) ?_
          obtain ⟨y119, y120, y121, hO118⟩ := n_flO hI (n_f34 g q)
          refine q_goi V (q_runV (As := [.long j116]) (rest := []) (d := 2) (mc := 0) (ms := 0) (ci := 6) C0 V rfl LV_NH_179 (X_Flo_isFinite l D g q ws 34 52 1075 2047 (n_f34 g q) j116 hI   _) rfl rfl hO118 rfl hl.1 rfl (Nat.le_of_ble_eq_true rfl) ⟨by decide, by decide⟩ ⟨Nat.le_of_ble_eq_true rfl, Nat.le_of_ble_eq_true rfl⟩ d_1_26_70) (fun a124 u122 H locs hp123 V => ?_)
          obtain ⟨rfl, b125, b126, hE127⟩ := hp123
          have e128 : a124 = (F_Flo_isFinite (52 : Int32) (1075 : Int32) (2047 : Int32) j116) := hE127
          replace b125 : q_F (0 ≤ a124.toInt) := b125
          replace b126 : q_F (a124.toInt ≤ 1) := b126
          refine q_goxv V (q_runSX (As := [.int a124]) (rest := []) (d := 7) (mc := 1) (ms := 6) C0 V rfl LS_NH_138 (X_NH_canHave l D g q ws  a124 hlt hI  ⟨(by have t1 : 0 ≤ a124.toInt := b125; omega), (by have t1 : a124.toInt ≤ 1 := b126; omega)⟩ _) rfl hl.1 rfl (Nat.le_of_ble_eq_true rfl) ⟨by decide, by decide⟩ ⟨Nat.le_of_ble_eq_true rfl, Nat.le_of_ble_eq_true rfl⟩ d_1_26_73) (fun qx Ex ce u129 H locs hp130 V hce hcv hcl => ?_) (fun u129 H locs hp130 V => ?_)
          ·
            obtain ⟨cx132, he133, hc134, rfl, hE131⟩ := hp130
            have c135 : ¬ (F_NH_canHave a124) = (0 : Int32) := fun z => hc134 (((hE131) : cx132 = _).trans z)
            exact q_outT hno C0 V (⟨(F_NH_canHave a124), (he133.trans (congrArg qE ((hE131) : cx132 = _))), c135, hI, hF, t0_0, t0_1, t1_0, t1_1, t2_0, hT0, hT1, hT2, (show ((F_NH_canHave a124), t0_0, t0_1, t1_0, t1_1, t2_0) = (F_NH_makeDecimal x2 x3 t0_0 t0_1 t1_0 t1_1 t2_0 t3_0 t4_0 t5_0 t5_1 t6_0 t7_0 t7_1 t8_0 t8_1 t9_0) from (by have c135x := c135; rw [e128, ← e117] at c135x; rw [e128, ← e117, F_NH_makeDecimal.eq_1, if_neg c38, if_neg c40, if_pos c47, if_neg c54, if_neg c135x]))⟩) hce hcv hcl (Nat.le_of_ble_eq_true rfl) (Nat.le_of_ble_eq_true rfl)
          ·
            obtain ⟨rfl, hE136⟩ := hp130
            have c135 : (F_NH_canHave a124) = (0 : Int32) := ((hE136) : (0 : Int32) = _).symm
            refine lv_aload_n hx hb d_1_26_76 rfl (lv_at hl 2 rfl) ?_
            refine q_get (ci := 0) (j := 7) (v := .ref (q 30)) C0 V i_NH rfl rfl hO42 (by decide) w_431 rfl d_1_26_77 ?_
            refine lv_aload_n hx hb d_1_26_80 rfl (lv_at hl 1 rfl) ?_
            refine lv_lload hx hb d_1_26_81 (lv_at hl 0 rfl) ?_
            refine q_goi V (q_runV (As := [.long j116]) (rest := [.ref (q 30)]) (d := 4) (mc := 0) (ms := 0) (ci := 6) C0 V rfl LV_NH_405 (X_Flo_exactly l D g q ws 34 52 1075 2047 (n_f34 g q) j116 hI t1_0 t1_1 hT1 t2_0 hT2  _) rfl rfl hO118 rfl hl.1 rfl (Nat.le_of_ble_eq_true rfl) ⟨by decide, by decide⟩ ⟨Nat.le_of_ble_eq_true rfl, Nat.le_of_ble_eq_true rfl⟩ d_1_26_83) (fun a140 u138 H locs hp139 V => ?_)
            obtain ⟨hI, hu152, y142, y143, f144, hO141, hA145, b146, b147, b148, b149, b150, hE151⟩ := hp139
            replace hO141 : u138[10]? = (some (q 10, .inr (2, [.ref (q 11), .int y142, .int y143])) : Option (Nat × va_E)) := hO141
            replace hA145 : u138[11]? = (some (q 11, .inl (g 0, (220 : Int32).toNatClampNeg, .inl f144)) : Option (Nat × va_E)) := hA145
            obtain ⟨p153, e154⟩ : ∃ z, z = (F_Flo_exactly (52 : Int32) (1075 : Int32) (2047 : Int32) j116 t1_0 t1_1 t2_0) := ⟨_, rfl⟩
            have e155 : a140 = p153.1 := congrArg (fun z => z.1) (hE151.trans e154.symm)
            have e156 : y142 = p153.2.1 := congrArg (fun z => z.2.1) (hE151.trans e154.symm)
            have e157 : y143 = p153.2.2.1 := congrArg (fun z => z.2.2.1) (hE151.trans e154.symm)
            have e158 : f144 = p153.2.2.2 := congrArg (fun z => z.2.2.2) (hE151.trans e154.symm)
            replace b146 : q_F (0 ≤ a140.toInt) := b146
            replace b147 : q_F (0 ≤ y142.toInt) := b147
            replace b148 : q_F (y142.toInt ≤ 220) := b148
            replace b149 : q_F (0 ≤ y143.toInt) := b149
            replace b150 : q_F (y143.toInt ≤ 1) := b150
            replace hT0 := (hu152 _ (by decide)).trans hT0
            replace hT3 := (hu152 _ (by decide)).trans hT3
            replace hT4 := (hu152 _ (by decide)).trans hT4
            replace hT5 := (hu152 _ (by have z0 := yk3; simp only [List.mem_cons, List.not_mem_nil, or_false, not_or]; omega)).trans hT5
            replace hT6 := (hu152 _ (by have z0 := yk3; simp only [List.mem_cons, List.not_mem_nil, or_false, not_or]; omega)).trans hT6
            replace hT7 := (hu152 _ (by have z0 := yd3; simp only [List.mem_cons, List.not_mem_nil, or_false, not_or]; omega)).trans hT7
            replace hT8 := (hu152 _ (by have z0 := yd3; simp only [List.mem_cons, List.not_mem_nil, or_false, not_or]; omega)).trans hT8
            replace hT9 := (hu152 _ (by have z0 := yd3; simp only [List.mem_cons, List.not_mem_nil, or_false, not_or]; omega)).trans hT9
            replace hO42 := (hu152 _ (by decide)).trans hO42
            replace hO118 := (hu152 _ (by decide)).trans hO118
            replace hF := q_uc hF hu152 (by simp)
            have hR159 := (show F_NH_makeDecimal_c83_2 x2 x3 t0_0 t0_1 t1_0 t1_1 t2_0 t3_0 t4_0 t5_0 t5_1 t6_0 t7_0 t7_1 t8_0 t8_1 t9_0 j116 p153 = (F_NH_makeDecimal x2 x3 t0_0 t0_1 t1_0 t1_1 t2_0 t3_0 t4_0 t5_0 t5_1 t6_0 t7_0 t7_1 t8_0 t8_1 t9_0) from (by have c135x := c135; rw [e128, ← e117] at c135x; rw [e154, ← e117, F_NH_makeDecimal.eq_1, if_neg c38, if_neg c40, if_pos c47, if_neg c54, if_pos c135x]))
            have hS160 := (show True ∧ S_NH_makeDecimal_c83_2 x2 x3 t0_0 t0_1 t1_0 t1_1 t2_0 t3_0 t4_0 t5_0 t5_1 t6_0 t7_0 t7_1 t8_0 t8_1 t9_0 j116 p153 from (by rw [e154, ← e117]; have h := hS; rw [S_NH_makeDecimal.eq_1] at h; rw [if_neg c38] at h; rw [if_neg c40] at h; rw [if_pos c47] at h; rw [if_neg c54] at h; replace h := q_s2 h; replace h := q_s2 h; have c135x := c135; rw [e128, ← e117] at c135x; rw [if_pos c135x] at h; with_reducible exact h))
            refine lv_i2l hx hb d_1_26_86 rfl ?_
            obtain ⟨j164, e165⟩ := q_nm (a140.toInt64 : Int64)
            refine q_tl (v := j164) e165 ?_
            have b166 : q_F (j164.toInt = a140.toInt) := (by rw [← e165]; show (a140.toInt64 : Int64).toInt = a140.toInt; exact q_i2l rfl)
            refine q_put (ci := 5) (j := 1) (v := .long j164) (ty := .long) C0 V i_DW o_DW n_DW rfl rfl hT0 (by decide) w_213 rfl rfl rfl rfl (Nat.le_of_ble_eq_true rfl) d_1_26_87 (fun H locs w167 hu168 hT0 V => ?_)
            replace hT0 : w167[30]? = (some (q 30, .inr (5, [.ref (q 31), .long j164, .ref (q 9), .int t0_1])) : Option (Nat × va_E)) := hT0
            replace hI := n_p30 hI hu168 hT0 ⟨(by have t1 : 0 ≤ t0_1.toInt ∧ t0_1.toInt ≤ 1 := btt0_1; omega), (by have t1 : 0 ≤ t0_1.toInt ∧ t0_1.toInt ≤ 1 := btt0_1; omega)⟩
            replace hO141 := (hu168 _ (by decide)).trans hO141
            replace hA145 := (hu168 _ (by decide)).trans hA145
            replace hT3 := (hu168 _ (by decide)).trans hT3
            replace hT4 := (hu168 _ (by decide)).trans hT4
            replace hT5 := (hu168 _ (by have z0 := yk3; omega)).trans hT5
            replace hT6 := (hu168 _ (by have z0 := yk3; omega)).trans hT6
            replace hT7 := (hu168 _ (by have z0 := yd3; omega)).trans hT7
            replace hT8 := (hu168 _ (by have z0 := yd3; omega)).trans hT8
            replace hT9 := (hu168 _ (by have z0 := yd3; omega)).trans hT9
            replace hO42 := (hu168 _ (by decide)).trans hO42
            replace hO118 := (hu168 _ (by decide)).trans hO118
            replace hF := q_us hF hu168 (by simp)
            exact q_retX (q_retv C0 V (⟨hI, hF, j164, t0_1, y142, y143, f144, hT0, hO141, hA145, (show 0 ≤ j164.toInt + 10000 from (by have t1 : 0 ≤ a140.toInt := b146; have t2 : j164.toInt = a140.toInt := b166; omega)), (show j164.toInt ≤ 2147483647 from (by have t1 : j164.toInt = a140.toInt := b166; have _ := q_lo32 (x := a140); have _ := q_hi32 (x := a140); omega)), (show 0 ≤ y142.toInt from (by have t1 : 0 ≤ y142.toInt := b147; omega)), (show y142.toInt ≤ 220 from (by have t1 : y142.toInt ≤ 220 := b148; omega)), (show 0 ≤ y143.toInt from (by have t1 : 0 ≤ y143.toInt := b149; omega)), (show y143.toInt ≤ 1 from (by have t1 : y143.toInt ≤ 1 := b150; omega)), (show x3.toInt ≤ j164.toInt + 10009 from (by have t1 : x3.toInt ≤ 9 := ob115; have t2 : 0 ≤ a140.toInt := b146; have t3 : j164.toInt = a140.toInt := b166; omega)), (show t7_0.toInt ≤ j164.toInt + 10000 from (by have t1 : -10000 ≤ t7_0.toInt ∧ t7_0.toInt ≤ 10000 := btt7_0; have t2 : 0 ≤ a140.toInt := b146; have t3 : j164.toInt = a140.toInt := b166; omega)), (show x3.toInt ≤ t0_1.toInt + 9 from (by have t1 : 0 ≤ t0_1.toInt ∧ t0_1.toInt ≤ 1 := btt0_1; have t2 : x3.toInt ≤ 9 := ob115; omega)), (show t0_1.toInt ≤ x3.toInt + 1 from (by have t1 : 0 ≤ t0_1.toInt ∧ t0_1.toInt ≤ 1 := btt0_1; have t2 : 0 ≤ x3.toInt := ob114; omega)), (show t0_1.toInt ≤ t0_1.toInt from (by omega)), (show t0_1.toInt ≤ t0_1.toInt from (by omega)), (show x3.toInt ≤ y142.toInt + 9 from (by have t1 : x3.toInt ≤ 9 := ob115; have t2 : 0 ≤ y142.toInt := b147; omega)), (show y142.toInt ≤ x3.toInt + 220 from (by have t1 : 0 ≤ x3.toInt := ob114; have t2 : y142.toInt ≤ 220 := b148; omega)), (show x3.toInt ≤ y143.toInt + 9 from (by have t1 : x3.toInt ≤ 9 := ob115; have t2 : 0 ≤ y143.toInt := b149; omega)), (show y143.toInt ≤ x3.toInt + 1 from (by have t1 : 0 ≤ x3.toInt := ob114; have t2 : y143.toInt ≤ 1 := b150; omega)), (show y142.toInt ≤ j164.toInt + 10108 from (by have t1 : 0 ≤ a140.toInt := b146; have t2 : y142.toInt ≤ 220 := b148; have t3 : j164.toInt = a140.toInt := b166; omega)), (show ((0 : Int32), j164, t0_1, y142, y143, f144) = (F_NH_makeDecimal x2 x3 t0_0 t0_1 t1_0 t1_1 t2_0 t3_0 t4_0 t5_0 t5_1 t6_0 t7_0 t7_1 t8_0 t8_1 t9_0) from Eq.trans (by rw [← e165, e158, e157, e156, e155, F_NH_makeDecimal_c83_2.eq_1]) hR159)⟩) d_1_26_90)
      ·
        have hr169 : a45 = q 35 := hr46.trans (congrArg q (by unfold F_NH_floatsOf; rw [if_neg c47]))
        subst hr169
        have b170 : q_F (x2.toInt ≠ 2) := (q_neI c47)
        refine lv_astore_n (lv' := [(3, .ref (q 35)), (0, .ref (q 0)), (1, .int x2), (2, .int x3)]) hx hb d_1_26_57 rfl hl (by decide) rfl (fun ls hl => ?_)
        refine lv_aload_n hx hb d_1_26_58 rfl (lv_at hl 1 rfl) ?_
        refine lv_iload_n hx hb d_1_26_59 rfl (lv_at hl 2 rfl) ?_
        refine q_gor (post := fun r u => ws = u ∧ r = q (F_NH_floatRow x2)) V (q_runV (As := [.int x2]) (rest := []) (d := 1) (mc := 0) (ms := 0) (ci := 0) C0 V rfl LV_NH_157 (X_NH_floatRow l D g q ws  x2 hI   _) rfl rfl hO42 rfl hl.1 rfl (Nat.le_of_ble_eq_true rfl) ⟨by decide, by decide⟩ ⟨Nat.le_of_ble_eq_true rfl, Nat.le_of_ble_eq_true rfl⟩ d_1_26_60) (fun a173 u171 H locs hp172 V => ?_)
        obtain ⟨rfl, hr174⟩ := hp172
        by_cases c175 : x2 = (2 : Int32)
        ·
          have hr176 : a173 = q 7 := hr174.trans (congrArg q (by unfold F_NH_floatRow; rw [if_pos c175]))
          subst hr176
          have b177 : q_F (x2.toInt = 2) := (q_eqI c175)
          refine lv_iload_n hx hb d_1_26_63 rfl (lv_at hl 3 rfl) ?_
          have ob178 : q_F (0 ≤ x3.toInt) := (by have h := hS; rw [S_NH_makeDecimal.eq_1] at h; rw [if_neg c38] at h; rw [if_neg c40] at h; rw [if_neg c47] at h; rw [if_pos c175] at h; exact h.2.1)
          have ob179 : q_F (x3.toInt ≤ 9) := (by have h := hS; rw [S_NH_makeDecimal.eq_1] at h; rw [if_neg c38] at h; rw [if_neg c40] at h; rw [if_neg c47] at h; rw [if_pos c175] at h; replace h := q_s2 h; exact h.2.1)
          refine q_lald C0 V hT3 (q_ix (x := x3.toInt) rfl (by have t1 : 0 ≤ x3.toInt := ob178; omega) (by have t1 : 0 ≤ x3.toInt := ob178; have t2 : x3.toInt ≤ 9 := ob179; omega)) d_1_26_64 ?_
          obtain ⟨j180, e181⟩ := q_nm (t3_0 x3.toNatClampNeg : Int64)
          refine q_tl (v := j180) e181 ?_
          refine lv_lstore (lv' := [(4, .long j180), (3, .ref (q 35)), (0, .ref (q 0)), (1, .int x2), (2, .int x3)]) hx hb d_1_26_65 hl (by decide) rfl (fun ls hl => ?_)
          refine lv_aload_n hx hb d_1_26_67 rfl (lv_at hl 1 rfl) ?_
          refine lv_lload hx hb d_1_26_68 (lv_at hl 0 rfl) ?_
          obtain ⟨y183, y184, y185, hO182⟩ := n_flO hI (n_f35 g q)
          refine q_goi V (q_runV (As := [.long j180]) (rest := []) (d := 2) (mc := 0) (ms := 0) (ci := 6) C0 V rfl LV_NH_179 (X_Flo_isFinite l D g q ws 35 23 150 255 (n_f35 g q) j180 hI   _) rfl rfl hO182 rfl hl.1 rfl (Nat.le_of_ble_eq_true rfl) ⟨by decide, by decide⟩ ⟨Nat.le_of_ble_eq_true rfl, Nat.le_of_ble_eq_true rfl⟩ d_1_26_70) (fun a188 u186 H locs hp187 V => ?_)
          obtain ⟨rfl, b189, b190, hE191⟩ := hp187
          have e192 : a188 = (F_Flo_isFinite (23 : Int32) (150 : Int32) (255 : Int32) j180) := hE191
          replace b189 : q_F (0 ≤ a188.toInt) := b189
          replace b190 : q_F (a188.toInt ≤ 1) := b190
          refine q_goxv V (q_runSX (As := [.int a188]) (rest := []) (d := 7) (mc := 1) (ms := 6) C0 V rfl LS_NH_138 (X_NH_canHave l D g q ws  a188 hlt hI  ⟨(by have t1 : 0 ≤ a188.toInt := b189; omega), (by have t1 : a188.toInt ≤ 1 := b190; omega)⟩ _) rfl hl.1 rfl (Nat.le_of_ble_eq_true rfl) ⟨by decide, by decide⟩ ⟨Nat.le_of_ble_eq_true rfl, Nat.le_of_ble_eq_true rfl⟩ d_1_26_73) (fun qx Ex ce u193 H locs hp194 V hce hcv hcl => ?_) (fun u193 H locs hp194 V => ?_)
          ·
            obtain ⟨cx196, he197, hc198, rfl, hE195⟩ := hp194
            have c199 : ¬ (F_NH_canHave a188) = (0 : Int32) := fun z => hc198 (((hE195) : cx196 = _).trans z)
            exact q_outT hno C0 V (⟨(F_NH_canHave a188), (he197.trans (congrArg qE ((hE195) : cx196 = _))), c199, hI, hF, t0_0, t0_1, t1_0, t1_1, t2_0, hT0, hT1, hT2, (show ((F_NH_canHave a188), t0_0, t0_1, t1_0, t1_1, t2_0) = (F_NH_makeDecimal x2 x3 t0_0 t0_1 t1_0 t1_1 t2_0 t3_0 t4_0 t5_0 t5_1 t6_0 t7_0 t7_1 t8_0 t8_1 t9_0) from (by have c199x := c199; rw [e192, ← e181] at c199x; rw [e192, ← e181, F_NH_makeDecimal.eq_1, if_neg c38, if_neg c40, if_neg c47, if_pos c175, if_neg c199x]))⟩) hce hcv hcl (Nat.le_of_ble_eq_true rfl) (Nat.le_of_ble_eq_true rfl)
          ·
            obtain ⟨rfl, hE200⟩ := hp194
            have c199 : (F_NH_canHave a188) = (0 : Int32) := ((hE200) : (0 : Int32) = _).symm
            refine lv_aload_n hx hb d_1_26_76 rfl (lv_at hl 2 rfl) ?_
            refine q_get (ci := 0) (j := 7) (v := .ref (q 30)) C0 V i_NH rfl rfl hO42 (by decide) w_431 rfl d_1_26_77 ?_
            refine lv_aload_n hx hb d_1_26_80 rfl (lv_at hl 1 rfl) ?_
            refine lv_lload hx hb d_1_26_81 (lv_at hl 0 rfl) ?_
            refine q_goi V (q_runV (As := [.long j180]) (rest := [.ref (q 30)]) (d := 4) (mc := 0) (ms := 0) (ci := 6) C0 V rfl LV_NH_405 (X_Flo_exactly l D g q ws 35 23 150 255 (n_f35 g q) j180 hI t1_0 t1_1 hT1 t2_0 hT2  _) rfl rfl hO182 rfl hl.1 rfl (Nat.le_of_ble_eq_true rfl) ⟨by decide, by decide⟩ ⟨Nat.le_of_ble_eq_true rfl, Nat.le_of_ble_eq_true rfl⟩ d_1_26_83) (fun a204 u202 H locs hp203 V => ?_)
            obtain ⟨hI, hu216, y206, y207, f208, hO205, hA209, b210, b211, b212, b213, b214, hE215⟩ := hp203
            replace hO205 : u202[10]? = (some (q 10, .inr (2, [.ref (q 11), .int y206, .int y207])) : Option (Nat × va_E)) := hO205
            replace hA209 : u202[11]? = (some (q 11, .inl (g 0, (220 : Int32).toNatClampNeg, .inl f208)) : Option (Nat × va_E)) := hA209
            obtain ⟨p217, e218⟩ : ∃ z, z = (F_Flo_exactly (23 : Int32) (150 : Int32) (255 : Int32) j180 t1_0 t1_1 t2_0) := ⟨_, rfl⟩
            have e219 : a204 = p217.1 := congrArg (fun z => z.1) (hE215.trans e218.symm)
            have e220 : y206 = p217.2.1 := congrArg (fun z => z.2.1) (hE215.trans e218.symm)
            have e221 : y207 = p217.2.2.1 := congrArg (fun z => z.2.2.1) (hE215.trans e218.symm)
            have e222 : f208 = p217.2.2.2 := congrArg (fun z => z.2.2.2) (hE215.trans e218.symm)
            replace b210 : q_F (0 ≤ a204.toInt) := b210
            replace b211 : q_F (0 ≤ y206.toInt) := b211
            replace b212 : q_F (y206.toInt ≤ 220) := b212
            replace b213 : q_F (0 ≤ y207.toInt) := b213
            replace b214 : q_F (y207.toInt ≤ 1) := b214
            replace hT0 := (hu216 _ (by decide)).trans hT0
            replace hT3 := (hu216 _ (by decide)).trans hT3
            replace hT4 := (hu216 _ (by decide)).trans hT4
            replace hT5 := (hu216 _ (by have z0 := yk3; simp only [List.mem_cons, List.not_mem_nil, or_false, not_or]; omega)).trans hT5
            replace hT6 := (hu216 _ (by have z0 := yk3; simp only [List.mem_cons, List.not_mem_nil, or_false, not_or]; omega)).trans hT6
            replace hT7 := (hu216 _ (by have z0 := yd3; simp only [List.mem_cons, List.not_mem_nil, or_false, not_or]; omega)).trans hT7
            replace hT8 := (hu216 _ (by have z0 := yd3; simp only [List.mem_cons, List.not_mem_nil, or_false, not_or]; omega)).trans hT8
            replace hT9 := (hu216 _ (by have z0 := yd3; simp only [List.mem_cons, List.not_mem_nil, or_false, not_or]; omega)).trans hT9
            replace hO42 := (hu216 _ (by decide)).trans hO42
            replace hO182 := (hu216 _ (by decide)).trans hO182
            replace hF := q_uc hF hu216 (by simp)
            have hR223 := (show F_NH_makeDecimal_c83_3 x2 x3 t0_0 t0_1 t1_0 t1_1 t2_0 t3_0 t4_0 t5_0 t5_1 t6_0 t7_0 t7_1 t8_0 t8_1 t9_0 j180 p217 = (F_NH_makeDecimal x2 x3 t0_0 t0_1 t1_0 t1_1 t2_0 t3_0 t4_0 t5_0 t5_1 t6_0 t7_0 t7_1 t8_0 t8_1 t9_0) from (by have c199x := c199; rw [e192, ← e181] at c199x; rw [e218, ← e181, F_NH_makeDecimal.eq_1, if_neg c38, if_neg c40, if_neg c47, if_pos c175, if_pos c199x]))
            have hS224 := (show True ∧ S_NH_makeDecimal_c83_3 x2 x3 t0_0 t0_1 t1_0 t1_1 t2_0 t3_0 t4_0 t5_0 t5_1 t6_0 t7_0 t7_1 t8_0 t8_1 t9_0 j180 p217 from (by rw [e218, ← e181]; have h := hS; rw [S_NH_makeDecimal.eq_1] at h; rw [if_neg c38] at h; rw [if_neg c40] at h; rw [if_neg c47] at h; rw [if_pos c175] at h; replace h := q_s2 h; replace h := q_s2 h; have c199x := c199; rw [e192, ← e181] at c199x; rw [if_pos c199x] at h; with_reducible exact h))
            refine lv_i2l hx hb d_1_26_86 rfl ?_
            obtain ⟨j228, e229⟩ := q_nm (a204.toInt64 : Int64)
            refine q_tl (v := j228) e229 ?_
            have b230 : q_F (j228.toInt = a204.toInt) := (by rw [← e229]; show (a204.toInt64 : Int64).toInt = a204.toInt; exact q_i2l rfl)
            refine q_put (ci := 5) (j := 1) (v := .long j228) (ty := .long) C0 V i_DW o_DW n_DW rfl rfl hT0 (by decide) w_213 rfl rfl rfl rfl (Nat.le_of_ble_eq_true rfl) d_1_26_87 (fun H locs w231 hu232 hT0 V => ?_)
            replace hT0 : w231[30]? = (some (q 30, .inr (5, [.ref (q 31), .long j228, .ref (q 9), .int t0_1])) : Option (Nat × va_E)) := hT0
            replace hI := n_p30 hI hu232 hT0 ⟨(by have t1 : 0 ≤ t0_1.toInt ∧ t0_1.toInt ≤ 1 := btt0_1; omega), (by have t1 : 0 ≤ t0_1.toInt ∧ t0_1.toInt ≤ 1 := btt0_1; omega)⟩
            replace hO205 := (hu232 _ (by decide)).trans hO205
            replace hA209 := (hu232 _ (by decide)).trans hA209
            replace hT3 := (hu232 _ (by decide)).trans hT3
            replace hT4 := (hu232 _ (by decide)).trans hT4
            replace hT5 := (hu232 _ (by have z0 := yk3; omega)).trans hT5
            replace hT6 := (hu232 _ (by have z0 := yk3; omega)).trans hT6
            replace hT7 := (hu232 _ (by have z0 := yd3; omega)).trans hT7
            replace hT8 := (hu232 _ (by have z0 := yd3; omega)).trans hT8
            replace hT9 := (hu232 _ (by have z0 := yd3; omega)).trans hT9
            replace hO42 := (hu232 _ (by decide)).trans hO42
            replace hO182 := (hu232 _ (by decide)).trans hO182
            replace hF := q_us hF hu232 (by simp)
            exact q_retX (q_retv C0 V (⟨hI, hF, j228, t0_1, y206, y207, f208, hT0, hO205, hA209, (show 0 ≤ j228.toInt + 10000 from (by have t1 : 0 ≤ a204.toInt := b210; have t2 : j228.toInt = a204.toInt := b230; omega)), (show j228.toInt ≤ 2147483647 from (by have t1 : j228.toInt = a204.toInt := b230; have _ := q_lo32 (x := a204); have _ := q_hi32 (x := a204); omega)), (show 0 ≤ y206.toInt from (by have t1 : 0 ≤ y206.toInt := b211; omega)), (show y206.toInt ≤ 220 from (by have t1 : y206.toInt ≤ 220 := b212; omega)), (show 0 ≤ y207.toInt from (by have t1 : 0 ≤ y207.toInt := b213; omega)), (show y207.toInt ≤ 1 from (by have t1 : y207.toInt ≤ 1 := b214; omega)), (show x3.toInt ≤ j228.toInt + 10009 from (by have t1 : x3.toInt ≤ 9 := ob179; have t2 : 0 ≤ a204.toInt := b210; have t3 : j228.toInt = a204.toInt := b230; omega)), (show t7_0.toInt ≤ j228.toInt + 10000 from (by have t1 : -10000 ≤ t7_0.toInt ∧ t7_0.toInt ≤ 10000 := btt7_0; have t2 : 0 ≤ a204.toInt := b210; have t3 : j228.toInt = a204.toInt := b230; omega)), (show x3.toInt ≤ t0_1.toInt + 9 from (by have t1 : 0 ≤ t0_1.toInt ∧ t0_1.toInt ≤ 1 := btt0_1; have t2 : x3.toInt ≤ 9 := ob179; omega)), (show t0_1.toInt ≤ x3.toInt + 1 from (by have t1 : 0 ≤ t0_1.toInt ∧ t0_1.toInt ≤ 1 := btt0_1; have t2 : 0 ≤ x3.toInt := ob178; omega)), (show t0_1.toInt ≤ t0_1.toInt from (by omega)), (show t0_1.toInt ≤ t0_1.toInt from (by omega)), (show x3.toInt ≤ y206.toInt + 9 from (by have t1 : x3.toInt ≤ 9 := ob179; have t2 : 0 ≤ y206.toInt := b211; omega)), (show y206.toInt ≤ x3.toInt + 220 from (by have t1 : 0 ≤ x3.toInt := ob178; have t2 : y206.toInt ≤ 220 := b212; omega)), (show x3.toInt ≤ y207.toInt + 9 from (by have t1 : x3.toInt ≤ 9 := ob179; have t2 : 0 ≤ y207.toInt := b213; omega)), (show y207.toInt ≤ x3.toInt + 1 from (by have t1 : 0 ≤ x3.toInt := ob178; have t2 : y207.toInt ≤ 1 := b214; omega)), (show y206.toInt ≤ j228.toInt + 10108 from (by have t1 : 0 ≤ a204.toInt := b210; have t2 : y206.toInt ≤ 220 := b212; have t3 : j228.toInt = a204.toInt := b230; omega)), (show ((0 : Int32), j228, t0_1, y206, y207, f208) = (F_NH_makeDecimal x2 x3 t0_0 t0_1 t1_0 t1_1 t2_0 t3_0 t4_0 t5_0 t5_1 t6_0 t7_0 t7_1 t8_0 t8_1 t9_0) from Eq.trans (by rw [← e229, e222, e221, e220, e219, F_NH_makeDecimal_c83_3.eq_1]) hR223)⟩) d_1_26_90)
        ·
          have hr233 : a173 = q 8 := hr174.trans (congrArg q (by unfold F_NH_floatRow; rw [if_neg c175]))
          subst hr233
          have b234 : q_F (x2.toInt ≠ 2) := (q_neI c175)
          refine lv_iload_n hx hb d_1_26_63 rfl (lv_at hl 3 rfl) ?_
          have ob235 : q_F (0 ≤ x3.toInt) := (by have h := hS; rw [S_NH_makeDecimal.eq_1] at h; rw [if_neg c38] at h; rw [if_neg c40] at h; rw [if_neg c47] at h; rw [if_neg c175] at h; exact h.2.1)
          have ob236 : q_F (x3.toInt ≤ 9) := (by have h := hS; rw [S_NH_makeDecimal.eq_1] at h; rw [if_neg c38] at h; rw [if_neg c40] at h; rw [if_neg c47] at h; rw [if_neg c175] at h; replace h := q_s2 h; exact h.2.1)
          refine q_lald C0 V hT4 (q_ix (x := x3.toInt) rfl (by have t1 : 0 ≤ x3.toInt := ob235; omega) (by have t1 : 0 ≤ x3.toInt := ob235; have t2 : x3.toInt ≤ 9 := ob236; omega)) d_1_26_64 ?_
          obtain ⟨j237, e238⟩ := q_nm (t4_0 x3.toNatClampNeg : Int64)
          refine q_tl (v := j237) e238 ?_
          refine lv_lstore (lv' := [(4, .long j237), (3, .ref (q 35)), (0, .ref (q 0)), (1, .int x2), (2, .int x3)]) hx hb d_1_26_65 hl (by decide) rfl (fun ls hl => ?_)
          refine lv_aload_n hx hb d_1_26_67 rfl (lv_at hl 1 rfl) ?_
          refine lv_lload hx hb d_1_26_68 (lv_at hl 0 rfl) ?_
          obtain ⟨y240, y241, y242, hO239⟩ := n_flO hI (n_f35 g q)
          refine q_goi V (q_runV (As := [.long j237]) (rest := []) (d := 2) (mc := 0) (ms := 0) (ci := 6) C0 V rfl LV_NH_179 (X_Flo_isFinite l D g q ws 35 23 150 255 (n_f35 g q) j237 hI   _) rfl rfl hO239 rfl hl.1 rfl (Nat.le_of_ble_eq_true rfl) ⟨by decide, by decide⟩ ⟨Nat.le_of_ble_eq_true rfl, Nat.le_of_ble_eq_true rfl⟩ d_1_26_70) (fun a245 u243 H locs hp244 V => ?_)
          obtain ⟨rfl, b246, b247, hE248⟩ := hp244
          have e249 : a245 = (F_Flo_isFinite (23 : Int32) (150 : Int32) (255 : Int32) j237) := hE248
          replace b246 : q_F (0 ≤ a245.toInt) := b246
          replace b247 : q_F (a245.toInt ≤ 1) := b247
          refine q_goxv V (q_runSX (As := [.int a245]) (rest := []) (d := 7) (mc := 1) (ms := 6) C0 V rfl LS_NH_138 (X_NH_canHave l D g q ws  a245 hlt hI  ⟨(by have t1 : 0 ≤ a245.toInt := b246; omega), (by have t1 : a245.toInt ≤ 1 := b247; omega)⟩ _) rfl hl.1 rfl (Nat.le_of_ble_eq_true rfl) ⟨by decide, by decide⟩ ⟨Nat.le_of_ble_eq_true rfl, Nat.le_of_ble_eq_true rfl⟩ d_1_26_73) (fun qx Ex ce u250 H locs hp251 V hce hcv hcl => ?_) (fun u250 H locs hp251 V => ?_)
          ·
            obtain ⟨cx253, he254, hc255, rfl, hE252⟩ := hp251
            have c256 : ¬ (F_NH_canHave a245) = (0 : Int32) := fun z => hc255 (((hE252) : cx253 = _).trans z)
            exact q_outT hno C0 V (⟨(F_NH_canHave a245), (he254.trans (congrArg qE ((hE252) : cx253 = _))), c256, hI, hF, t0_0, t0_1, t1_0, t1_1, t2_0, hT0, hT1, hT2, (show ((F_NH_canHave a245), t0_0, t0_1, t1_0, t1_1, t2_0) = (F_NH_makeDecimal x2 x3 t0_0 t0_1 t1_0 t1_1 t2_0 t3_0 t4_0 t5_0 t5_1 t6_0 t7_0 t7_1 t8_0 t8_1 t9_0) from (by have c256x := c256; rw [e249, ← e238] at c256x; rw [e249, ← e238, F_NH_makeDecimal.eq_1, if_neg c38, if_neg c40, if_neg c47, if_neg c175, if_neg c256x]))⟩) hce hcv hcl (Nat.le_of_ble_eq_true rfl) (Nat.le_of_ble_eq_true rfl)
          ·
            obtain ⟨rfl, hE257⟩ := hp251
            have c256 : (F_NH_canHave a245) = (0 : Int32) := ((hE257) : (0 : Int32) = _).symm
            refine lv_aload_n hx hb d_1_26_76 rfl (lv_at hl 2 rfl) ?_
            refine q_get (ci := 0) (j := 7) (v := .ref (q 30)) C0 V i_NH rfl rfl hO42 (by decide) w_431 rfl d_1_26_77 ?_
            refine lv_aload_n hx hb d_1_26_80 rfl (lv_at hl 1 rfl) ?_
            refine lv_lload hx hb d_1_26_81 (lv_at hl 0 rfl) ?_
            refine q_goi V (q_runV (As := [.long j237]) (rest := [.ref (q 30)]) (d := 4) (mc := 0) (ms := 0) (ci := 6) C0 V rfl LV_NH_405 (X_Flo_exactly l D g q ws 35 23 150 255 (n_f35 g q) j237 hI t1_0 t1_1 hT1 t2_0 hT2  _) rfl rfl hO239 rfl hl.1 rfl (Nat.le_of_ble_eq_true rfl) ⟨by decide, by decide⟩ ⟨Nat.le_of_ble_eq_true rfl, Nat.le_of_ble_eq_true rfl⟩ d_1_26_83) (fun a261 u259 H locs hp260 V => ?_)
            obtain ⟨hI, hu273, y263, y264, f265, hO262, hA266, b267, b268, b269, b270, b271, hE272⟩ := hp260
            replace hO262 : u259[10]? = (some (q 10, .inr (2, [.ref (q 11), .int y263, .int y264])) : Option (Nat × va_E)) := hO262
            replace hA266 : u259[11]? = (some (q 11, .inl (g 0, (220 : Int32).toNatClampNeg, .inl f265)) : Option (Nat × va_E)) := hA266
            obtain ⟨p274, e275⟩ : ∃ z, z = (F_Flo_exactly (23 : Int32) (150 : Int32) (255 : Int32) j237 t1_0 t1_1 t2_0) := ⟨_, rfl⟩
            have e276 : a261 = p274.1 := congrArg (fun z => z.1) (hE272.trans e275.symm)
            have e277 : y263 = p274.2.1 := congrArg (fun z => z.2.1) (hE272.trans e275.symm)
            have e278 : y264 = p274.2.2.1 := congrArg (fun z => z.2.2.1) (hE272.trans e275.symm)
            have e279 : f265 = p274.2.2.2 := congrArg (fun z => z.2.2.2) (hE272.trans e275.symm)
            replace b267 : q_F (0 ≤ a261.toInt) := b267
            replace b268 : q_F (0 ≤ y263.toInt) := b268
            replace b269 : q_F (y263.toInt ≤ 220) := b269
            replace b270 : q_F (0 ≤ y264.toInt) := b270
            replace b271 : q_F (y264.toInt ≤ 1) := b271
            replace hT0 := (hu273 _ (by decide)).trans hT0
            replace hT3 := (hu273 _ (by decide)).trans hT3
            replace hT4 := (hu273 _ (by decide)).trans hT4
            replace hT5 := (hu273 _ (by have z0 := yk3; simp only [List.mem_cons, List.not_mem_nil, or_false, not_or]; omega)).trans hT5
            replace hT6 := (hu273 _ (by have z0 := yk3; simp only [List.mem_cons, List.not_mem_nil, or_false, not_or]; omega)).trans hT6
            replace hT7 := (hu273 _ (by have z0 := yd3; simp only [List.mem_cons, List.not_mem_nil, or_false, not_or]; omega)).trans hT7
            replace hT8 := (hu273 _ (by have z0 := yd3; simp only [List.mem_cons, List.not_mem_nil, or_false, not_or]; omega)).trans hT8
            replace hT9 := (hu273 _ (by have z0 := yd3; simp only [List.mem_cons, List.not_mem_nil, or_false, not_or]; omega)).trans hT9
            replace hO42 := (hu273 _ (by decide)).trans hO42
            replace hO239 := (hu273 _ (by decide)).trans hO239
            replace hF := q_uc hF hu273 (by simp)
            have hR280 := (show F_NH_makeDecimal_c83_4 x2 x3 t0_0 t0_1 t1_0 t1_1 t2_0 t3_0 t4_0 t5_0 t5_1 t6_0 t7_0 t7_1 t8_0 t8_1 t9_0 j237 p274 = (F_NH_makeDecimal x2 x3 t0_0 t0_1 t1_0 t1_1 t2_0 t3_0 t4_0 t5_0 t5_1 t6_0 t7_0 t7_1 t8_0 t8_1 t9_0) from (by have c256x := c256; rw [e249, ← e238] at c256x; rw [e275, ← e238, F_NH_makeDecimal.eq_1, if_neg c38, if_neg c40, if_neg c47, if_neg c175, if_pos c256x]))
            have hS281 := (show True ∧ S_NH_makeDecimal_c83_4 x2 x3 t0_0 t0_1 t1_0 t1_1 t2_0 t3_0 t4_0 t5_0 t5_1 t6_0 t7_0 t7_1 t8_0 t8_1 t9_0 j237 p274 from (by rw [e275, ← e238]; have h := hS; rw [S_NH_makeDecimal.eq_1] at h; rw [if_neg c38] at h; rw [if_neg c40] at h; rw [if_neg c47] at h; rw [if_neg c175] at h; replace h := q_s2 h; replace h := q_s2 h; have c256x := c256; rw [e249, ← e238] at c256x; rw [if_pos c256x] at h; with_reducible exact h))
            refine lv_i2l hx hb d_1_26_86 rfl ?_
            obtain ⟨j285, e286⟩ := q_nm (a261.toInt64 : Int64)
            refine q_tl (v := j285) e286 ?_
            have b287 : q_F (j285.toInt = a261.toInt) := (by rw [← e286]; show (a261.toInt64 : Int64).toInt = a261.toInt; exact q_i2l rfl)
            refine q_put (ci := 5) (j := 1) (v := .long j285) (ty := .long) C0 V i_DW o_DW n_DW rfl rfl hT0 (by decide) w_213 rfl rfl rfl rfl (Nat.le_of_ble_eq_true rfl) d_1_26_87 (fun H locs w288 hu289 hT0 V => ?_)
            replace hT0 : w288[30]? = (some (q 30, .inr (5, [.ref (q 31), .long j285, .ref (q 9), .int t0_1])) : Option (Nat × va_E)) := hT0
            replace hI := n_p30 hI hu289 hT0 ⟨(by have t1 : 0 ≤ t0_1.toInt ∧ t0_1.toInt ≤ 1 := btt0_1; omega), (by have t1 : 0 ≤ t0_1.toInt ∧ t0_1.toInt ≤ 1 := btt0_1; omega)⟩
            replace hO262 := (hu289 _ (by decide)).trans hO262
            replace hA266 := (hu289 _ (by decide)).trans hA266
            replace hT3 := (hu289 _ (by decide)).trans hT3
            replace hT4 := (hu289 _ (by decide)).trans hT4
            replace hT5 := (hu289 _ (by have z0 := yk3; omega)).trans hT5
            replace hT6 := (hu289 _ (by have z0 := yk3; omega)).trans hT6
            replace hT7 := (hu289 _ (by have z0 := yd3; omega)).trans hT7
            replace hT8 := (hu289 _ (by have z0 := yd3; omega)).trans hT8
            replace hT9 := (hu289 _ (by have z0 := yd3; omega)).trans hT9
            replace hO42 := (hu289 _ (by decide)).trans hO42
            replace hO239 := (hu289 _ (by decide)).trans hO239
            replace hF := q_us hF hu289 (by simp)
            exact q_retX (q_retv C0 V (⟨hI, hF, j285, t0_1, y263, y264, f265, hT0, hO262, hA266, (show 0 ≤ j285.toInt + 10000 from (by have t1 : 0 ≤ a261.toInt := b267; have t2 : j285.toInt = a261.toInt := b287; omega)), (show j285.toInt ≤ 2147483647 from (by have t1 : j285.toInt = a261.toInt := b287; have _ := q_lo32 (x := a261); have _ := q_hi32 (x := a261); omega)), (show 0 ≤ y263.toInt from (by have t1 : 0 ≤ y263.toInt := b268; omega)), (show y263.toInt ≤ 220 from (by have t1 : y263.toInt ≤ 220 := b269; omega)), (show 0 ≤ y264.toInt from (by have t1 : 0 ≤ y264.toInt := b270; omega)), (show y264.toInt ≤ 1 from (by have t1 : y264.toInt ≤ 1 := b271; omega)), (show x3.toInt ≤ j285.toInt + 10009 from (by have t1 : x3.toInt ≤ 9 := ob236; have t2 : 0 ≤ a261.toInt := b267; have t3 : j285.toInt = a261.toInt := b287; omega)), (show t7_0.toInt ≤ j285.toInt + 10000 from (by have t1 : -10000 ≤ t7_0.toInt ∧ t7_0.toInt ≤ 10000 := btt7_0; have t2 : 0 ≤ a261.toInt := b267; have t3 : j285.toInt = a261.toInt := b287; omega)), (show x3.toInt ≤ t0_1.toInt + 9 from (by have t1 : 0 ≤ t0_1.toInt ∧ t0_1.toInt ≤ 1 := btt0_1; have t2 : x3.toInt ≤ 9 := ob236; omega)), (show t0_1.toInt ≤ x3.toInt + 1 from (by have t1 : 0 ≤ t0_1.toInt ∧ t0_1.toInt ≤ 1 := btt0_1; have t2 : 0 ≤ x3.toInt := ob235; omega)), (show t0_1.toInt ≤ t0_1.toInt from (by omega)), (show t0_1.toInt ≤ t0_1.toInt from (by omega)), (show x3.toInt ≤ y263.toInt + 9 from (by have t1 : x3.toInt ≤ 9 := ob236; have t2 : 0 ≤ y263.toInt := b268; omega)), (show y263.toInt ≤ x3.toInt + 220 from (by have t1 : 0 ≤ x3.toInt := ob235; have t2 : y263.toInt ≤ 220 := b269; omega)), (show x3.toInt ≤ y264.toInt + 9 from (by have t1 : x3.toInt ≤ 9 := ob236; have t2 : 0 ≤ y264.toInt := b270; omega)), (show y264.toInt ≤ x3.toInt + 1 from (by have t1 : 0 ≤ x3.toInt := ob235; have t2 : y264.toInt ≤ 1 := b271; omega)), (show y263.toInt ≤ j285.toInt + 10108 from (by have t1 : 0 ≤ a261.toInt := b267; have t2 : y263.toInt ≤ 220 := b269; have t3 : j285.toInt = a261.toInt := b287; omega)), (show ((0 : Int32), j285, t0_1, y263, y264, f265) = (F_NH_makeDecimal x2 x3 t0_0 t0_1 t1_0 t1_1 t2_0 t3_0 t4_0 t5_0 t5_1 t6_0 t7_0 t7_1 t8_0 t8_1 t9_0) from Eq.trans (by rw [← e286, e279, e278, e277, e276, F_NH_makeDecimal_c83_4.eq_1]) hR280)⟩) d_1_26_90)
    ·
      have b290 : q_F (x2.toInt = 0) := (q_eqI c40)
      refine lv_aload_n hx hb d_1_26_25 rfl (lv_at hl 0 rfl) ?_
      have hO291 := n_o0 hI
      refine q_get (ci := 0) (j := 6) (v := .ref (q 9)) C0 V i_NH rfl rfl hO291 (by decide) w_430 rfl d_1_26_26 ?_
      have hO292 := n_o9 hI
      refine q_get (ci := 4) (j := 0) (v := .ref (q 10)) C0 V i_Mil rfl rfl hO292 (by decide) w_112 rfl d_1_26_29 ?_
      refine lv_aload_n hx hb d_1_26_32 rfl (lv_at hl 0 rfl) ?_
      refine q_get (ci := 0) (j := 2) (v := .ref (q 5)) C0 V i_NH rfl rfl hO291 (by decide) w_426 rfl d_1_26_33 ?_
      refine lv_iload_n hx hb d_1_26_36 rfl (lv_at hl 2 rfl) ?_
      have hX293 := n_fx hI (n_s5 g q)
      have ob294 : q_F (0 ≤ x3.toInt) := (by have h := hS; rw [S_NH_makeDecimal.eq_1] at h; rw [if_neg c38] at h; rw [if_pos c40] at h; exact h.2.1)
      have ob295 : q_F (x3.toInt ≤ 9) := (by have h := hS; rw [S_NH_makeDecimal.eq_1] at h; rw [if_neg c38] at h; rw [if_pos c40] at h; replace h := q_s2 h; exact h.2.1)
      have hj296 : x3.toNatClampNeg < 10 := by have z := q_clI (i := x3) (x := x3.toInt) rfl (by have t1 : 0 ≤ x3.toInt := ob294; omega); have t1 : 0 ≤ x3.toInt := ob294; have t2 : x3.toInt ≤ 9 := ob295; omega
      have hq297 := gk3x3 hj296
      refine q_aald (t := 4) (q := q k3) C0 V hX293 rfl (q_ix (x := x3.toInt) rfl (by have t1 : 0 ≤ x3.toInt := ob294; omega) (by have t1 : 0 ≤ x3.toInt := ob294; have t2 : x3.toInt ≤ 9 := ob295; omega)) (by rw [hq297]; exact n_fwv hj296) d_1_26_37 ?_
      refine q_gov V (q_runV (As := [.ref (q k3)]) (rest := []) (d := 2) (mc := 0) (ms := 0) (ci := 2) C0 V rfl LV_NH_145 (X_Big_copy l D g q ws 10 220 (n_b10 g q) (by decide) k3 68 hBk3 (Or.inr yk3)  (by have z0 := yk3; omega) hI t1_0 t1_1 hT1 t2_0 hT2 t5_0 t5_1 hT5 t6_0 hT6  _) rfl rfl hT1 rfl hl.1 rfl (Nat.le_of_ble_eq_true rfl) ⟨by decide, by decide⟩ ⟨Nat.le_of_ble_eq_true rfl, Nat.le_of_ble_eq_true rfl⟩ d_1_26_38) (fun u298 H locs hp299 V => ?_)
      obtain ⟨hI, hu311, y301, y302, f303, hO300, hA304, b305, b306, b307, b308, b309, hE310⟩ := hp299
      replace hO300 : u298[10]? = (some (q 10, .inr (2, [.ref (q 11), .int y301, .int y302])) : Option (Nat × va_E)) := hO300
      replace hA304 : u298[11]? = (some (q 11, .inl (g 0, (220 : Int32).toNatClampNeg, .inl f303)) : Option (Nat × va_E)) := hA304
      obtain ⟨p312, e313⟩ : ∃ z, z = (F_Big_copy (220 : Int32) (68 : Int32) t1_0 t1_1 t2_0 t5_0 t5_1 t6_0) := ⟨_, rfl⟩
      have e314 : y301 = p312.1 := congrArg (fun z => z.1) (hE310.trans e313.symm)
      have e315 : y302 = p312.2.1 := congrArg (fun z => z.2.1) (hE310.trans e313.symm)
      have e316 : f303 = p312.2.2 := congrArg (fun z => z.2.2) (hE310.trans e313.symm)
      replace b305 : q_F (0 ≤ y301.toInt) := b305
      replace b306 : q_F (y301.toInt ≤ t5_0.toInt) := b306
      replace b307 : q_F (y301.toInt ≤ 220) := b307
      replace b308 : q_F (t5_1.toInt ≤ y302.toInt) := b308
      replace b309 : q_F (y302.toInt ≤ t5_1.toInt) := b309
      replace hT0 := (hu311 _ (by decide)).trans hT0
      replace hT3 := (hu311 _ (by decide)).trans hT3
      replace hT4 := (hu311 _ (by decide)).trans hT4
      replace hT5 := (hu311 _ (by have z0 := yk3; simp only [List.mem_cons, List.not_mem_nil, or_false, not_or]; omega)).trans hT5
      replace hT6 := (hu311 _ (by have z0 := yk3; simp only [List.mem_cons, List.not_mem_nil, or_false, not_or]; omega)).trans hT6
      replace hT7 := (hu311 _ (by have z0 := yd3; simp only [List.mem_cons, List.not_mem_nil, or_false, not_or]; omega)).trans hT7
      replace hT8 := (hu311 _ (by have z0 := yd3; simp only [List.mem_cons, List.not_mem_nil, or_false, not_or]; omega)).trans hT8
      replace hT9 := (hu311 _ (by have z0 := yd3; simp only [List.mem_cons, List.not_mem_nil, or_false, not_or]; omega)).trans hT9
      replace hO291 := (hu311 _ (by decide)).trans hO291
      replace hO292 := (hu311 _ (by decide)).trans hO292
      replace hF := q_uc hF hu311 (by simp)
      have hR317 := (show F_NH_makeDecimal_c38 x2 x3 t0_0 t0_1 t1_0 t1_1 t2_0 t3_0 t4_0 t5_0 t5_1 t6_0 t7_0 t7_1 t8_0 t8_1 t9_0 p312 = (F_NH_makeDecimal x2 x3 t0_0 t0_1 t1_0 t1_1 t2_0 t3_0 t4_0 t5_0 t5_1 t6_0 t7_0 t7_1 t8_0 t8_1 t9_0) from (by rw [e313, F_NH_makeDecimal.eq_1, if_neg c38, if_pos c40]))
      have hS318 := (show True ∧ S_NH_makeDecimal_c38 x2 x3 t0_0 t0_1 t1_0 t1_1 t2_0 t3_0 t4_0 t5_0 t5_1 t6_0 t7_0 t7_1 t8_0 t8_1 t9_0 p312 from (by rw [e313]; have h := hS; rw [S_NH_makeDecimal.eq_1] at h; rw [if_neg c38] at h; rw [if_pos c40] at h; replace h := q_s2 h; replace h := q_s2 h; with_reducible exact h))
      refine lv_aload_n hx hb d_1_26_41 rfl (lv_at hl 0 rfl) ?_
      refine q_get (ci := 0) (j := 7) (v := .ref (q 30)) C0 V i_NH rfl rfl hO291 (by decide) w_431 rfl d_1_26_42 ?_
      refine lv_lconst (v := 0) hx hb d_1_26_45 (by decide) ?_
      refine q_put (ci := 5) (j := 1) (v := .long 0) (ty := .long) C0 V i_DW o_DW n_DW rfl rfl hT0 (by decide) w_213 rfl rfl rfl rfl (Nat.le_of_ble_eq_true rfl) d_1_26_46 (fun H locs w322 hu323 hT0 V => ?_)
      replace hT0 : w322[30]? = (some (q 30, .inr (5, [.ref (q 31), .long 0, .ref (q 9), .int t0_1])) : Option (Nat × va_E)) := hT0
      replace hI := n_p30 hI hu323 hT0 ⟨(by have t1 : 0 ≤ t0_1.toInt ∧ t0_1.toInt ≤ 1 := btt0_1; omega), (by have t1 : 0 ≤ t0_1.toInt ∧ t0_1.toInt ≤ 1 := btt0_1; omega)⟩
      replace hO300 := (hu323 _ (by decide)).trans hO300
      replace hA304 := (hu323 _ (by decide)).trans hA304
      replace hT3 := (hu323 _ (by decide)).trans hT3
      replace hT4 := (hu323 _ (by decide)).trans hT4
      replace hT5 := (hu323 _ (by have z0 := yk3; omega)).trans hT5
      replace hT6 := (hu323 _ (by have z0 := yk3; omega)).trans hT6
      replace hT7 := (hu323 _ (by have z0 := yd3; omega)).trans hT7
      replace hT8 := (hu323 _ (by have z0 := yd3; omega)).trans hT8
      replace hT9 := (hu323 _ (by have z0 := yd3; omega)).trans hT9
      replace hO291 := (hu323 _ (by decide)).trans hO291
      replace hO292 := (hu323 _ (by decide)).trans hO292
      replace hF := q_us hF hu323 (by simp)
      refine lv_goto (tgt := 90) hx hb d_1_26_49 (by decide) ?_
      refine W.widen (k := 1) (n := 6) (Nat.le_of_ble_eq_true rfl) (Nat.le_of_ble_eq_true rfl) ?_
      exact q_retX (q_retv C0 V (⟨hI, hF, 0, t0_1, y301, y302, f303, hT0, hO300, hA304, (show 0 ≤ (0 : Int64).toInt + 10000 from (by have z17 : (0 : Int64).toInt = 0 := rfl; omega)), (show (0 : Int64).toInt ≤ 2147483647 from (by have z17 : (0 : Int64).toInt = 0 := rfl; omega)), (show 0 ≤ y301.toInt from (by have z17 : (0 : Int64).toInt = 0 := rfl; have t1 : 0 ≤ y301.toInt := b305; omega)), (show y301.toInt ≤ 220 from (by have z17 : (0 : Int64).toInt = 0 := rfl; have t1 : y301.toInt ≤ 220 := b307; omega)), (show 0 ≤ y302.toInt from (by have z17 : (0 : Int64).toInt = 0 := rfl; have t1 : 0 ≤ t5_1.toInt ∧ t5_1.toInt ≤ 1 := btt5_1; have t2 : t5_1.toInt ≤ y302.toInt := b308; omega)), (show y302.toInt ≤ 1 from (by have z17 : (0 : Int64).toInt = 0 := rfl; have t1 : 0 ≤ t5_1.toInt ∧ t5_1.toInt ≤ 1 := btt5_1; have t2 : y302.toInt ≤ t5_1.toInt := b309; omega)), (show x3.toInt ≤ (0 : Int64).toInt + 10009 from (by have z17 : (0 : Int64).toInt = 0 := rfl; have t1 : x3.toInt ≤ 9 := ob295; omega)), (show t7_0.toInt ≤ (0 : Int64).toInt + 10000 from (by have z17 : (0 : Int64).toInt = 0 := rfl; have t1 : -10000 ≤ t7_0.toInt ∧ t7_0.toInt ≤ 10000 := btt7_0; omega)), (show x3.toInt ≤ t0_1.toInt + 9 from (by have z17 : (0 : Int64).toInt = 0 := rfl; have t1 : 0 ≤ t0_1.toInt ∧ t0_1.toInt ≤ 1 := btt0_1; have t2 : x3.toInt ≤ 9 := ob295; omega)), (show t0_1.toInt ≤ x3.toInt + 1 from (by have z17 : (0 : Int64).toInt = 0 := rfl; have t1 : 0 ≤ t0_1.toInt ∧ t0_1.toInt ≤ 1 := btt0_1; have t2 : 0 ≤ x3.toInt := ob294; omega)), (show t0_1.toInt ≤ t0_1.toInt from (by have z17 : (0 : Int64).toInt = 0 := rfl; omega)), (show t0_1.toInt ≤ t0_1.toInt from (by have z17 : (0 : Int64).toInt = 0 := rfl; omega)), (show x3.toInt ≤ y301.toInt + 9 from (by have z17 : (0 : Int64).toInt = 0 := rfl; have t1 : x3.toInt ≤ 9 := ob295; have t2 : 0 ≤ y301.toInt := b305; omega)), (show y301.toInt ≤ x3.toInt + 220 from (by have z17 : (0 : Int64).toInt = 0 := rfl; have t1 : 0 ≤ x3.toInt := ob294; have t2 : y301.toInt ≤ 220 := b307; omega)), (show x3.toInt ≤ y302.toInt + 9 from (by have z17 : (0 : Int64).toInt = 0 := rfl; have t1 : 0 ≤ t5_1.toInt ∧ t5_1.toInt ≤ 1 := btt5_1; have t2 : x3.toInt ≤ 9 := ob295; have t3 : t5_1.toInt ≤ y302.toInt := b308; omega)), (show y302.toInt ≤ x3.toInt + 1 from (by have z17 : (0 : Int64).toInt = 0 := rfl; have t1 : 0 ≤ t5_1.toInt ∧ t5_1.toInt ≤ 1 := btt5_1; have t2 : 0 ≤ x3.toInt := ob294; have t3 : y302.toInt ≤ t5_1.toInt := b309; omega)), (show y301.toInt ≤ (0 : Int64).toInt + 10108 from (by have z17 : (0 : Int64).toInt = 0 := rfl; have t1 : y301.toInt ≤ 220 := b307; omega)), (show ((0 : Int32), (0 : Int64), t0_1, y301, y302, f303) = (F_NH_makeDecimal x2 x3 t0_0 t0_1 t1_0 t1_1 t2_0 t3_0 t4_0 t5_0 t5_1 t6_0 t7_0 t7_1 t8_0 t8_1 t9_0) from Eq.trans (by rw [e316, e315, e314, F_NH_makeDecimal_c38.eq_1]) hR317)⟩) d_1_26_90)
  ·
    have b324 : q_F (x2.toInt = 1) := (q_eqI c38)
    refine lv_aload_n hx hb d_1_26_5 rfl (lv_at hl 0 rfl) ?_
    have hO325 := n_o0 hI
    refine q_get (ci := 0) (j := 7) (v := .ref (q 30)) C0 V i_NH rfl rfl hO325 (by decide) w_431 rfl d_1_26_6 ?_
    refine lv_aload_n hx hb d_1_26_9 rfl (lv_at hl 0 rfl) ?_
    refine q_get (ci := 0) (j := 3) (v := .ref (q 6)) C0 V i_NH rfl rfl hO325 (by decide) w_427 rfl d_1_26_10 ?_
    refine lv_iload_n hx hb d_1_26_13 rfl (lv_at hl 2 rfl) ?_
    have hX326 := n_fx hI (n_s6 g q)
    have ob327 : q_F (0 ≤ x3.toInt) := (by have h := hS; rw [S_NH_makeDecimal.eq_1] at h; rw [if_pos c38] at h; exact h.2.1)
    have ob328 : q_F (x3.toInt ≤ 9) := (by have h := hS; rw [S_NH_makeDecimal.eq_1] at h; rw [if_pos c38] at h; replace h := q_s2 h; exact h.2.1)
    have hj329 : x3.toNatClampNeg < 10 := by have z := q_clI (i := x3) (x := x3.toInt) rfl (by have t1 : 0 ≤ x3.toInt := ob327; omega); have t1 : 0 ≤ x3.toInt := ob327; have t2 : x3.toInt ≤ 9 := ob328; omega
    have hq330 := gd3x3 hj329
    refine q_aald (t := 5) (q := q d3) C0 V hX326 rfl (q_ix (x := x3.toInt) rfl (by have t1 : 0 ≤ x3.toInt := ob327; omega) (by have t1 : 0 ≤ x3.toInt := ob327; have t2 : x3.toInt ≤ 9 := ob328; omega)) (by rw [hq330]; exact n_fdv hj329) d_1_26_14 ?_
    refine q_gov V (q_runV (As := [.ref (q d3)]) (rest := []) (d := 3) (mc := 0) (ms := 0) (ci := 5) C0 V rfl LV_NH_288 (X_DW_take l D g q ws d3 108 hBd3 (Or.inr yd3)  (by have z0 := yd3; omega) (by have z0 := yd3; omega) (by have z0 := yd3; omega) (by have z0 := yd3; omega) (by have z0 := yd3; omega) (by have z0 := yd3; omega) (by have z0 := yd3; omega) (by have z0 := yd3; omega) hI t0_0 t0_1 hT0 t1_0 t1_1 hT1 t2_0 hT2 t7_0 t7_1 hT7 t8_0 t8_1 hT8 t9_0 hT9  _) rfl rfl hT0 rfl hl.1 rfl (Nat.le_of_ble_eq_true rfl) ⟨by decide, by decide⟩ ⟨Nat.le_of_ble_eq_true rfl, Nat.le_of_ble_eq_true rfl⟩ d_1_26_15) (fun u331 H locs hp332 V => ?_)
    obtain ⟨hI, hu350, y334, y335, y337, y338, f339, hO333, hO336, hA340, b341, b342, b343, b344, b345, b346, b347, b348, hE349⟩ := hp332
    replace hO333 : u331[30]? = (some (q 30, .inr (5, [.ref (q 31), .long y334, .ref (q 9), .int y335])) : Option (Nat × va_E)) := hO333
    replace hO336 : u331[10]? = (some (q 10, .inr (2, [.ref (q 11), .int y337, .int y338])) : Option (Nat × va_E)) := hO336
    replace hA340 : u331[11]? = (some (q 11, .inl (g 0, (220 : Int32).toNatClampNeg, .inl f339)) : Option (Nat × va_E)) := hA340
    obtain ⟨p351, e352⟩ : ∃ z, z = (F_DW_take (108 : Int32) t0_0 t0_1 t1_0 t1_1 t2_0 t7_0 t7_1 t8_0 t8_1 t9_0) := ⟨_, rfl⟩
    have e353 : y334 = p351.1 := congrArg (fun z => z.1) (hE349.trans e352.symm)
    have e354 : y335 = p351.2.1 := congrArg (fun z => z.2.1) (hE349.trans e352.symm)
    have e355 : y337 = p351.2.2.1 := congrArg (fun z => z.2.2.1) (hE349.trans e352.symm)
    have e356 : y338 = p351.2.2.2.1 := congrArg (fun z => z.2.2.2.1) (hE349.trans e352.symm)
    have e357 : f339 = p351.2.2.2.2 := congrArg (fun z => z.2.2.2.2) (hE349.trans e352.symm)
    replace b341 : q_F (0 ≤ y337.toInt) := b341
    replace b342 : q_F (t7_0.toInt ≤ y334.toInt) := b342
    replace b343 : q_F (y334.toInt ≤ t7_0.toInt) := b343
    replace b344 : q_F (t0_1.toInt ≤ y335.toInt) := b344
    replace b345 : q_F (y335.toInt ≤ t0_1.toInt) := b345
    replace b346 : q_F (y337.toInt ≤ t8_0.toInt) := b346
    replace b347 : q_F (t8_1.toInt ≤ y338.toInt) := b347
    replace b348 : q_F (y338.toInt ≤ t8_1.toInt) := b348
    replace hT3 := (hu350 _ (by decide)).trans hT3
    replace hT4 := (hu350 _ (by decide)).trans hT4
    replace hT5 := (hu350 _ (by have z0 := yk3; simp only [List.mem_cons, List.not_mem_nil, or_false, not_or]; omega)).trans hT5
    replace hT6 := (hu350 _ (by have z0 := yk3; simp only [List.mem_cons, List.not_mem_nil, or_false, not_or]; omega)).trans hT6
    replace hT7 := (hu350 _ (by have z0 := yd3; simp only [List.mem_cons, List.not_mem_nil, or_false, not_or]; omega)).trans hT7
    replace hT8 := (hu350 _ (by have z0 := yd3; simp only [List.mem_cons, List.not_mem_nil, or_false, not_or]; omega)).trans hT8
    replace hT9 := (hu350 _ (by have z0 := yd3; simp only [List.mem_cons, List.not_mem_nil, or_false, not_or]; omega)).trans hT9
    replace hO325 := (hu350 _ (by decide)).trans hO325
    replace hF := q_uc hF hu350 (by simp)
    have hR358 := (show F_NH_makeDecimal_c15 x2 x3 t0_0 t0_1 t1_0 t1_1 t2_0 t3_0 t4_0 t5_0 t5_1 t6_0 t7_0 t7_1 t8_0 t8_1 t9_0 p351 = (F_NH_makeDecimal x2 x3 t0_0 t0_1 t1_0 t1_1 t2_0 t3_0 t4_0 t5_0 t5_1 t6_0 t7_0 t7_1 t8_0 t8_1 t9_0) from (by rw [e352, F_NH_makeDecimal.eq_1, if_pos c38]))
    have hS359 := (show True ∧ S_NH_makeDecimal_c15 x2 x3 t0_0 t0_1 t1_0 t1_1 t2_0 t3_0 t4_0 t5_0 t5_1 t6_0 t7_0 t7_1 t8_0 t8_1 t9_0 p351 from (by rw [e352]; have h := hS; rw [S_NH_makeDecimal.eq_1] at h; rw [if_pos c38] at h; replace h := q_s2 h; replace h := q_s2 h; with_reducible exact h))
    refine lv_goto (tgt := 90) hx hb d_1_26_18 (by decide) ?_
    refine W.widen (k := 1) (n := 6) (Nat.le_of_ble_eq_true rfl) (Nat.le_of_ble_eq_true rfl) ?_
    exact q_retX (q_retv C0 V (⟨hI, hF, y334, y335, y337, y338, f339, hO333, hO336, hA340, (show 0 ≤ y334.toInt + 10000 from (by have t1 : -10000 ≤ t7_0.toInt ∧ t7_0.toInt ≤ 10000 := btt7_0; have t2 : t7_0.toInt ≤ y334.toInt := b342; omega)), (show y334.toInt ≤ 2147483647 from (by have t1 : y334.toInt ≤ t7_0.toInt := b343; have _ := q_lo32 (x := t7_0); have _ := q_hi32 (x := t7_0); omega)), (show 0 ≤ y337.toInt from (by have t1 : 0 ≤ y337.toInt := b341; omega)), (show y337.toInt ≤ 220 from (by have t1 : 0 ≤ t8_0.toInt ∧ t8_0.toInt ≤ 108 := btt8_0; have t2 : y337.toInt ≤ t8_0.toInt := b346; omega)), (show 0 ≤ y338.toInt from (by have t1 : 0 ≤ t8_1.toInt ∧ t8_1.toInt ≤ 1 := btt8_1; have t2 : t8_1.toInt ≤ y338.toInt := b347; omega)), (show y338.toInt ≤ 1 from (by have t1 : 0 ≤ t8_1.toInt ∧ t8_1.toInt ≤ 1 := btt8_1; have t2 : y338.toInt ≤ t8_1.toInt := b348; omega)), (show x3.toInt ≤ y334.toInt + 10009 from (by have t1 : -10000 ≤ t7_0.toInt ∧ t7_0.toInt ≤ 10000 := btt7_0; have t2 : x3.toInt ≤ 9 := ob328; have t3 : t7_0.toInt ≤ y334.toInt := b342; omega)), (show t7_0.toInt ≤ y334.toInt + 10000 from (by have t1 : t7_0.toInt ≤ y334.toInt := b342; omega)), (show x3.toInt ≤ y335.toInt + 9 from (by have t1 : 0 ≤ t0_1.toInt ∧ t0_1.toInt ≤ 1 := btt0_1; have t2 : x3.toInt ≤ 9 := ob328; have t3 : t0_1.toInt ≤ y335.toInt := b344; omega)), (show y335.toInt ≤ x3.toInt + 1 from (by have t1 : 0 ≤ t0_1.toInt ∧ t0_1.toInt ≤ 1 := btt0_1; have t2 : 0 ≤ x3.toInt := ob327; have t3 : y335.toInt ≤ t0_1.toInt := b345; omega)), (show t0_1.toInt ≤ y335.toInt from (by have t1 : t0_1.toInt ≤ y335.toInt := b344; omega)), (show y335.toInt ≤ t0_1.toInt from (by have t1 : y335.toInt ≤ t0_1.toInt := b345; omega)), (show x3.toInt ≤ y337.toInt + 9 from (by have t1 : x3.toInt ≤ 9 := ob328; have t2 : 0 ≤ y337.toInt := b341; omega)), (show y337.toInt ≤ x3.toInt + 220 from (by have t1 : 0 ≤ t8_0.toInt ∧ t8_0.toInt ≤ 108 := btt8_0; have t2 : 0 ≤ x3.toInt := ob327; have t3 : y337.toInt ≤ t8_0.toInt := b346; omega)), (show x3.toInt ≤ y338.toInt + 9 from (by have t1 : 0 ≤ t8_1.toInt ∧ t8_1.toInt ≤ 1 := btt8_1; have t2 : x3.toInt ≤ 9 := ob328; have t3 : t8_1.toInt ≤ y338.toInt := b347; omega)), (show y338.toInt ≤ x3.toInt + 1 from (by have t1 : 0 ≤ t8_1.toInt ∧ t8_1.toInt ≤ 1 := btt8_1; have t2 : 0 ≤ x3.toInt := ob327; have t3 : y338.toInt ≤ t8_1.toInt := b348; omega)), (show y337.toInt ≤ y334.toInt + 10108 from (by have t1 : -10000 ≤ t7_0.toInt ∧ t7_0.toInt ≤ 10000 := btt7_0; have t2 : 0 ≤ t8_0.toInt ∧ t8_0.toInt ≤ 108 := btt8_0; have t3 : t7_0.toInt ≤ y334.toInt := b342; have t4 : y337.toInt ≤ t8_0.toInt := b346; omega)), (show ((0 : Int32), y334, y335, y337, y338, f339) = (F_NH_makeDecimal x2 x3 t0_0 t0_1 t1_0 t1_1 t2_0 t3_0 t4_0 t5_0 t5_1 t6_0 t7_0 t7_1 t8_0 t8_1 t9_0) from Eq.trans (by rw [e357, e356, e355, e354, e353, F_NH_makeDecimal_c15.eq_1]) hR358)⟩) d_1_26_90)
