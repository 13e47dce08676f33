theorem d_15_43_0 : decode prog_15_method_43_code 0 = .ok (.aload_n 0, 1) := by decide +kernel
theorem d_15_43_1 : decode prog_15_method_43_code 1 = .ok (.iload_n 1, 1) := by decide +kernel
theorem d_15_43_2 : decode prog_15_method_43_code 2 = .ok (.invokestatic 113, 3) := by decide +kernel
theorem d_15_43_42 : decode prog_15_method_43_code 42 = .ok (.putfield 41, 3) := by decide +kernel
theorem d_15_43_45 : decode prog_15_method_43_code 45 = .ok (.aload_n 0, 1) := by decide +kernel
theorem d_15_43_46 : decode prog_15_method_43_code 46 = .ok (.getfield 41, 3) := by decide +kernel
theorem d_15_43_49 : decode prog_15_method_43_code 49 = .ok (.ifCond .ne 22, 3) := by decide +kernel
theorem d_15_43_71 : decode prog_15_method_43_code 71 = .ok (.return_, 1) := by decide +kernel
theorem d_15_43_52 : decode prog_15_method_43_code 52 = .ok (.aload_n 0, 1) := by decide +kernel
theorem d_15_43_53 : decode prog_15_method_43_code 53 = .ok (.iconst 2, 1) := by decide +kernel
theorem d_15_43_54 : decode prog_15_method_43_code 54 = .ok (.putfield 66, 3) := by decide +kernel
theorem d_15_43_57 : decode prog_15_method_43_code 57 = .ok (.aload_n 0, 1) := by decide +kernel
theorem d_15_43_58 : decode prog_15_method_43_code 58 = .ok (.iload_n 1, 1) := by decide +kernel
theorem d_15_43_59 : decode prog_15_method_43_code 59 = .ok (.invokevirtual 132, 3) := by decide +kernel
theorem d_15_43_62 : decode prog_15_method_43_code 62 = .ok (.aload_n 0, 1) := by decide +kernel
theorem d_15_43_63 : decode prog_15_method_43_code 63 = .ok (.iload_n 3, 1) := by decide +kernel
theorem d_15_43_64 : decode prog_15_method_43_code 64 = .ok (.i2l, 1) := by decide +kernel
theorem d_15_43_65 : decode prog_15_method_43_code 65 = .ok (.iload 4, 2) := by decide +kernel
theorem d_15_43_67 : decode prog_15_method_43_code 67 = .ok (.iload_n 2, 1) := by decide +kernel
theorem d_15_43_68 : decode prog_15_method_43_code 68 = .ok (.invokevirtual 170, 3) := by decide +kernel
theorem d_15_43_37 : decode prog_15_method_43_code 37 = .ok (.iconst 1, 1) := by decide +kernel
theorem d_15_43_38 : decode prog_15_method_43_code 38 = .ok (.goto 4, 3) := by decide +kernel
theorem d_15_43_5 : decode prog_15_method_43_code 5 = .ok (.ifCond .ne 32, 3) := by decide +kernel
theorem d_15_43_8 : decode prog_15_method_43_code 8 = .ok (.iload_n 2, 1) := by decide +kernel
theorem d_15_43_9 : decode prog_15_method_43_code 9 = .ok (.invokestatic 113, 3) := by decide +kernel
theorem d_15_43_12 : decode prog_15_method_43_code 12 = .ok (.ifCond .ne 25, 3) := by decide +kernel
theorem d_15_43_15 : decode prog_15_method_43_code 15 = .ok (.iload 4, 2) := by decide +kernel
theorem d_15_43_17 : decode prog_15_method_43_code 17 = .ok (.invokestatic 147, 3) := by decide +kernel
theorem d_15_43_20 : decode prog_15_method_43_code 20 = .ok (.ifCond .ne 17, 3) := by decide +kernel
theorem d_15_43_23 : decode prog_15_method_43_code 23 = .ok (.iload_n 3, 1) := by decide +kernel
theorem d_15_43_24 : decode prog_15_method_43_code 24 = .ok (.sipush (-10000), 3) := by decide +kernel
theorem d_15_43_27 : decode prog_15_method_43_code 27 = .ok (.if_icmp .lt 10, 3) := by decide +kernel
theorem d_15_43_30 : decode prog_15_method_43_code 30 = .ok (.iload_n 3, 1) := by decide +kernel
theorem d_15_43_31 : decode prog_15_method_43_code 31 = .ok (.sipush 10000, 3) := by decide +kernel
theorem d_15_43_34 : decode prog_15_method_43_code 34 = .ok (.if_icmp .le 7, 3) := by decide +kernel
theorem d_15_43_41 : decode prog_15_method_43_code 41 = .ok (.iconst 0, 1) := by decide +kernel
def y_DR_toScale : MethodName := ⟨"NumberHouseModel$DecimalRows", "toScale", "(IIII)V"⟩
def F_DR_toScale_c68 (x2 : Int32) (x3 : Int32) (x4 : Int32) (x5 : Int32) (t0_0 : Int32) (t0_1 : Int32) (t0_2 : Int32) (t0_3 : Int64) (t0_4 : Int32) (t0_5 : Int32) (t0_6 : Int32) (t0_7 : Int32) (t0_8 : Int32) (t0_9 : Int32) (t0_10 : Int32) (t1_0 : (Nat → Int32)) (t2_0 : (Nat → Int32)) (t3_0 : (Nat → Int32)) (t4_0 : (Nat → Int32)) (t5_0 : (Nat → Int32)) (lx39 : Int32) (p103 : (Int32 × Int32 × Int32 × Int64 × Int32 × Int32 × Int32 × Int32 × Int32 × Int32 × Int32 × (Nat → Int32))) (p172 : (Int32 × Int32 × Int32 × Int64 × Int32 × Int32 × Int32 × Int32 × Int32 × Int32 × Int32 × (Nat → Int32) × (Nat → Int32) × (Nat → Int32) × (Nat → Int32) × (Nat → Int32))) : Int32 × Int32 × Int32 × Int64 × Int32 × Int32 × Int32 × Int32 × Int32 × Int32 × Int32 × (Nat → Int32) × (Nat → Int32) × (Nat → Int32) × (Nat → Int32) × (Nat → Int32) := ((p172.1 : Int32), (p172.2.1 : Int32), (p172.2.2.1 : Int32), (p172.2.2.2.1 : Int64), (p172.2.2.2.2.1 : Int32), (p172.2.2.2.2.2.1 : Int32), (p172.2.2.2.2.2.2.1 : Int32), (p172.2.2.2.2.2.2.2.1 : Int32), (p172.2.2.2.2.2.2.2.2.1 : Int32), (p172.2.2.2.2.2.2.2.2.2.1 : Int32), (p172.2.2.2.2.2.2.2.2.2.2.1 : Int32), (p172.2.2.2.2.2.2.2.2.2.2.2.1 : (Nat → Int32)), (p172.2.2.2.2.2.2.2.2.2.2.2.2.1 : (Nat → Int32)), (p172.2.2.2.2.2.2.2.2.2.2.2.2.2.1 : (Nat → Int32)), (p172.2.2.2.2.2.2.2.2.2.2.2.2.2.2.1 : (Nat → Int32)), (p172.2.2.2.2.2.2.2.2.2.2.2.2.2.2.2 : (Nat → Int32)))
def F_DR_toScale_c59 (x2 : Int32) (x3 : Int32) (x4 : Int32) (x5 : Int32) (t0_0 : Int32) (t0_1 : Int32) (t0_2 : Int32) (t0_3 : Int64) (t0_4 : Int32) (t0_5 : Int32) (t0_6 : Int32) (t0_7 : Int32) (t0_8 : Int32) (t0_9 : Int32) (t0_10 : Int32) (t1_0 : (Nat → Int32)) (t2_0 : (Nat → Int32)) (t3_0 : (Nat → Int32)) (t4_0 : (Nat → Int32)) (t5_0 : (Nat → Int32)) (lx39 : Int32) (p103 : (Int32 × Int32 × Int32 × Int64 × Int32 × Int32 × Int32 × Int32 × Int32 × Int32 × Int32 × (Nat → Int32))) : Int32 × Int32 × Int32 × Int64 × Int32 × Int32 × Int32 × Int32 × Int32 × Int32 × Int32 × (Nat → Int32) × (Nat → Int32) × (Nat → Int32) × (Nat → Int32) × (Nat → Int32) := F_DR_toScale_c68 x2 x3 x4 x5 t0_0 t0_1 t0_2 t0_3 t0_4 t0_5 t0_6 t0_7 t0_8 t0_9 t0_10 t1_0 t2_0 t3_0 t4_0 t5_0 lx39 p103 ((F_DR_bring (x4.toInt64 : Int64) x5 x3 (p103.1 : Int32) (p103.2.1 : Int32) (p103.2.2.1 : Int32) (p103.2.2.2.1 : Int64) (p103.2.2.2.2.1 : Int32) (p103.2.2.2.2.2.1 : Int32) (p103.2.2.2.2.2.2.1 : Int32) (p103.2.2.2.2.2.2.2.1 : Int32) (p103.2.2.2.2.2.2.2.2.1 : Int32) (p103.2.2.2.2.2.2.2.2.2.1 : Int32) (p103.2.2.2.2.2.2.2.2.2.2.1 : Int32) t1_0 t2_0 t3_0 t4_0 (p103.2.2.2.2.2.2.2.2.2.2.2 : (Nat → Int32))) : (Int32 × Int32 × Int32 × Int64 × Int32 × Int32 × Int32 × Int32 × Int32 × Int32 × Int32 × (Nat → Int32) × (Nat → Int32) × (Nat → Int32) × (Nat → Int32) × (Nat → Int32)))
def F_DR_toScale_J42 (x2 : Int32) (x3 : Int32) (x4 : Int32) (x5 : Int32) (t0_0 : Int32) (t0_1 : Int32) (t0_2 : Int32) (t0_3 : Int64) (t0_4 : Int32) (t0_5 : Int32) (t0_6 : Int32) (t0_7 : Int32) (t0_8 : Int32) (t0_9 : Int32) (t0_10 : Int32) (t1_0 : (Nat → Int32)) (t2_0 : (Nat → Int32)) (t3_0 : (Nat → Int32)) (t4_0 : (Nat → Int32)) (t5_0 : (Nat → Int32)) (lx39 : Int32) : Int32 × Int32 × Int32 × Int64 × Int32 × Int32 × Int32 × Int32 × Int32 × Int32 × Int32 × (Nat → Int32) × (Nat → Int32) × (Nat → Int32) × (Nat → Int32) × (Nat → Int32) := if lx39 = (0 : Int32) then (F_DR_toScale_c59 x2 x3 x4 x5 t0_0 t0_1 t0_2 t0_3 t0_4 t0_5 t0_6 t0_7 t0_8 t0_9 t0_10 t1_0 t2_0 t3_0 t4_0 t5_0 lx39 ((F_DR_load x2 lx39 t0_1 t0_2 t0_3 t0_4 t0_5 t0_6 t0_7 t0_8 t0_9 (2 : Int32) t1_0 t2_0 t3_0 t4_0 t5_0) : (Int32 × Int32 × Int32 × Int64 × Int32 × Int32 × Int32 × Int32 × Int32 × Int32 × Int32 × (Nat → Int32)))) else ((lx39, t0_1, t0_2, t0_3, t0_4, t0_5, t0_6, t0_7, t0_8, t0_9, t0_10, t1_0, t2_0, t3_0, t4_0, t5_0))
def F_DR_toScale_J37 (x2 : Int32) (x3 : Int32) (x4 : Int32) (x5 : Int32) (t0_0 : Int32) (t0_1 : Int32) (t0_2 : Int32) (t0_3 : Int64) (t0_4 : Int32) (t0_5 : Int32) (t0_6 : Int32) (t0_7 : Int32) (t0_8 : Int32) (t0_9 : Int32) (t0_10 : Int32) (t1_0 : (Nat → Int32)) (t2_0 : (Nat → Int32)) (t3_0 : (Nat → Int32)) (t4_0 : (Nat → Int32)) (t5_0 : (Nat → Int32)) : Int32 × Int32 × Int32 × Int64 × Int32 × Int32 × Int32 × Int32 × Int32 × Int32 × Int32 × (Nat → Int32) × (Nat → Int32) × (Nat → Int32) × (Nat → Int32) × (Nat → Int32) := F_DR_toScale_J42 x2 x3 x4 x5 t0_0 t0_1 t0_2 t0_3 t0_4 t0_5 t0_6 t0_7 t0_8 t0_9 t0_10 t1_0 t2_0 t3_0 t4_0 t5_0 1
def F_DR_toScale (x2 : Int32) (x3 : Int32) (x4 : Int32) (x5 : Int32) (t0_0 : Int32) (t0_1 : Int32) (t0_2 : Int32) (t0_3 : Int64) (t0_4 : Int32) (t0_5 : Int32) (t0_6 : Int32) (t0_7 : Int32) (t0_8 : Int32) (t0_9 : Int32) (t0_10 : Int32) (t1_0 : (Nat → Int32)) (t2_0 : (Nat → Int32)) (t3_0 : (Nat → Int32)) (t4_0 : (Nat → Int32)) (t5_0 : (Nat → Int32)) : Int32 × Int32 × Int32 × Int64 × Int32 × Int32 × Int32 × Int32 × Int32 × Int32 × Int32 × (Nat → Int32) × (Nat → Int32) × (Nat → Int32) × (Nat → Int32) × (Nat → Int32) := if ((F_DR_no x2) : Int32) = (0 : Int32) then (if ((F_DR_no x3) : Int32) = (0 : Int32) then (if ((F_DR_noMode x5) : Int32) = (0 : Int32) then (if x4 < (-10000 : Int32) then (F_DR_toScale_J37 x2 x3 x4 x5 t0_0 t0_1 t0_2 t0_3 t0_4 t0_5 t0_6 t0_7 t0_8 t0_9 t0_10 t1_0 t2_0 t3_0 t4_0 t5_0) else (if x4 ≤ (10000 : Int32) then (F_DR_toScale_J42 x2 x3 x4 x5 t0_0 t0_1 t0_2 t0_3 t0_4 t0_5 t0_6 t0_7 t0_8 t0_9 t0_10 t1_0 t2_0 t3_0 t4_0 t5_0 0) else (F_DR_toScale_J37 x2 x3 x4 x5 t0_0 t0_1 t0_2 t0_3 t0_4 t0_5 t0_6 t0_7 t0_8 t0_9 t0_10 t1_0 t2_0 t3_0 t4_0 t5_0))) else (F_DR_toScale_J37 x2 x3 x4 x5 t0_0 t0_1 t0_2 t0_3 t0_4 t0_5 t0_6 t0_7 t0_8 t0_9 t0_10 t1_0 t2_0 t3_0 t4_0 t5_0)) else (F_DR_toScale_J37 x2 x3 x4 x5 t0_0 t0_1 t0_2 t0_3 t0_4 t0_5 t0_6 t0_7 t0_8 t0_9 t0_10 t1_0 t2_0 t3_0 t4_0 t5_0)) else (F_DR_toScale_J37 x2 x3 x4 x5 t0_0 t0_1 t0_2 t0_3 t0_4 t0_5 t0_6 t0_7 t0_8 t0_9 t0_10 t1_0 t2_0 t3_0 t4_0 t5_0)
def S_DR_toScale_c68 (x2 : Int32) (x3 : Int32) (x4 : Int32) (x5 : Int32) (t0_0 : Int32) (t0_1 : Int32) (t0_2 : Int32) (t0_3 : Int64) (t0_4 : Int32) (t0_5 : Int32) (t0_6 : Int32) (t0_7 : Int32) (t0_8 : Int32) (t0_9 : Int32) (t0_10 : Int32) (t1_0 : (Nat → Int32)) (t2_0 : (Nat → Int32)) (t3_0 : (Nat → Int32)) (t4_0 : (Nat → Int32)) (t5_0 : (Nat → Int32)) (lx39 : Int32) (p103 : (Int32 × Int32 × Int32 × Int64 × Int32 × Int32 × Int32 × Int32 × Int32 × Int32 × Int32 × (Nat → Int32))) (p172 : (Int32 × Int32 × Int32 × Int64 × Int32 × Int32 × Int32 × Int32 × Int32 × Int32 × Int32 × (Nat → Int32) × (Nat → Int32) × (Nat → Int32) × (Nat → Int32) × (Nat → Int32))) : Prop := True
def S_DR_toScale_c59 (x2 : Int32) (x3 : Int32) (x4 : Int32) (x5 : Int32) (t0_0 : Int32) (t0_1 : Int32) (t0_2 : Int32) (t0_3 : Int64) (t0_4 : Int32) (t0_5 : Int32) (t0_6 : Int32) (t0_7 : Int32) (t0_8 : Int32) (t0_9 : Int32) (t0_10 : Int32) (t1_0 : (Nat → Int32)) (t2_0 : (Nat → Int32)) (t3_0 : (Nat → Int32)) (t4_0 : (Nat → Int32)) (t5_0 : (Nat → Int32)) (lx39 : Int32) (p103 : (Int32 × Int32 × Int32 × Int64 × Int32 × Int32 × Int32 × Int32 × Int32 × Int32 × Int32 × (Nat → Int32))) : Prop := (True ∧ S_DR_bring (x4.toInt64 : Int64) x5 x3 (p103.1 : Int32) (p103.2.1 : Int32) (p103.2.2.1 : Int32) (p103.2.2.2.1 : Int64) (p103.2.2.2.2.1 : Int32) (p103.2.2.2.2.2.1 : Int32) (p103.2.2.2.2.2.2.1 : Int32) (p103.2.2.2.2.2.2.2.1 : Int32) (p103.2.2.2.2.2.2.2.2.1 : Int32) (p103.2.2.2.2.2.2.2.2.2.1 : Int32) (p103.2.2.2.2.2.2.2.2.2.2.1 : Int32) t1_0 t2_0 t3_0 t4_0 (p103.2.2.2.2.2.2.2.2.2.2.2 : (Nat → Int32))) ∧ (S_DR_toScale_c68 x2 x3 x4 x5 t0_0 t0_1 t0_2 t0_3 t0_4 t0_5 t0_6 t0_7 t0_8 t0_9 t0_10 t1_0 t2_0 t3_0 t4_0 t5_0 lx39 p103 ((F_DR_bring (x4.toInt64 : Int64) x5 x3 (p103.1 : Int32) (p103.2.1 : Int32) (p103.2.2.1 : Int32) (p103.2.2.2.1 : Int64) (p103.2.2.2.2.1 : Int32) (p103.2.2.2.2.2.1 : Int32) (p103.2.2.2.2.2.2.1 : Int32) (p103.2.2.2.2.2.2.2.1 : Int32) (p103.2.2.2.2.2.2.2.2.1 : Int32) (p103.2.2.2.2.2.2.2.2.2.1 : Int32) (p103.2.2.2.2.2.2.2.2.2.2.1 : Int32) t1_0 t2_0 t3_0 t4_0 (p103.2.2.2.2.2.2.2.2.2.2.2 : (Nat → Int32))) : (Int32 × Int32 × Int32 × Int64 × Int32 × Int32 × Int32 × Int32 × Int32 × Int32 × Int32 × (Nat → Int32) × (Nat → Int32) × (Nat → Int32) × (Nat → Int32) × (Nat → Int32))))
def S_DR_toScale_J42 (x2 : Int32) (x3 : Int32) (x4 : Int32) (x5 : Int32) (t0_0 : Int32) (t0_1 : Int32) (t0_2 : Int32) (t0_3 : Int64) (t0_4 : Int32) (t0_5 : Int32) (t0_6 : Int32) (t0_7 : Int32) (t0_8 : Int32) (t0_9 : Int32) (t0_10 : Int32) (t1_0 : (Nat → Int32)) (t2_0 : (Nat → Int32)) (t3_0 : (Nat → Int32)) (t4_0 : (Nat → Int32)) (t5_0 : (Nat → Int32)) (lx39 : Int32) : Prop := if lx39 = (0 : Int32) then ((True ∧ S_DR_load x2 lx39 t0_1 t0_2 t0_3 t0_4 t0_5 t0_6 t0_7 t0_8 t0_9 (2 : Int32) t1_0 t2_0 t3_0 t4_0 t5_0) ∧ (S_DR_toScale_c59 x2 x3 x4 x5 t0_0 t0_1 t0_2 t0_3 t0_4 t0_5 t0_6 t0_7 t0_8 t0_9 t0_10 t1_0 t2_0 t3_0 t4_0 t5_0 lx39 ((F_DR_load x2 lx39 t0_1 t0_2 t0_3 t0_4 t0_5 t0_6 t0_7 t0_8 t0_9 (2 : Int32) t1_0 t2_0 t3_0 t4_0 t5_0) : (Int32 × Int32 × Int32 × Int64 × Int32 × Int32 × Int32 × Int32 × Int32 × Int32 × Int32 × (Nat → Int32))))) else (True)
def S_DR_toScale_J37 (x2 : Int32) (x3 : Int32) (x4 : Int32) (x5 : Int32) (t0_0 : Int32) (t0_1 : Int32) (t0_2 : Int32) (t0_3 : Int64) (t0_4 : Int32) (t0_5 : Int32) (t0_6 : Int32) (t0_7 : Int32) (t0_8 : Int32) (t0_9 : Int32) (t0_10 : Int32) (t1_0 : (Nat → Int32)) (t2_0 : (Nat → Int32)) (t3_0 : (Nat → Int32)) (t4_0 : (Nat → Int32)) (t5_0 : (Nat → Int32)) : Prop := S_DR_toScale_J42 x2 x3 x4 x5 t0_0 t0_1 t0_2 t0_3 t0_4 t0_5 t0_6 t0_7 t0_8 t0_9 t0_10 t1_0 t2_0 t3_0 t4_0 t5_0 1
def S_DR_toScale (x2 : Int32) (x3 : Int32) (x4 : Int32) (x5 : Int32) (t0_0 : Int32) (t0_1 : Int32) (t0_2 : Int32) (t0_3 : Int64) (t0_4 : Int32) (t0_5 : Int32) (t0_6 : Int32) (t0_7 : Int32) (t0_8 : Int32) (t0_9 : Int32) (t0_10 : Int32) (t1_0 : (Nat → Int32)) (t2_0 : (Nat → Int32)) (t3_0 : (Nat → Int32)) (t4_0 : (Nat → Int32)) (t5_0 : (Nat → Int32)) : Prop := if ((F_DR_no x2) : Int32) = (0 : Int32) then (if ((F_DR_no x3) : Int32) = (0 : Int32) then (if ((F_DR_noMode x5) : Int32) = (0 : Int32) then (if x4 < (-10000 : Int32) then (S_DR_toScale_J37 x2 x3 x4 x5 t0_0 t0_1 t0_2 t0_3 t0_4 t0_5 t0_6 t0_7 t0_8 t0_9 t0_10 t1_0 t2_0 t3_0 t4_0 t5_0) else (if x4 ≤ (10000 : Int32) then (S_DR_toScale_J42 x2 x3 x4 x5 t0_0 t0_1 t0_2 t0_3 t0_4 t0_5 t0_6 t0_7 t0_8 t0_9 t0_10 t1_0 t2_0 t3_0 t4_0 t5_0 0) else (S_DR_toScale_J37 x2 x3 x4 x5 t0_0 t0_1 t0_2 t0_3 t0_4 t0_5 t0_6 t0_7 t0_8 t0_9 t0_10 t1_0 t2_0 t3_0 t4_0 t5_0))) else (S_DR_toScale_J37 x2 x3 x4 x5 t0_0 t0_1 t0_2 t0_3 t0_4 t0_5 t0_6 t0_7 t0_8 t0_9 t0_10 t1_0 t2_0 t3_0 t4_0 t5_0)) else (S_DR_toScale_J37 x2 x3 x4 x5 t0_0 t0_1 t0_2 t0_3 t0_4 t0_5 t0_6 t0_7 t0_8 t0_9 t0_10 t1_0 t2_0 t3_0 t4_0 t5_0)) else (S_DR_toScale_J37 x2 x3 x4 x5 t0_0 t0_1 t0_2 t0_3 t0_4 t0_5 t0_6 t0_7 t0_8 t0_9 t0_10 t1_0 t2_0 t3_0 t4_0 t5_0)
set_option maxRecDepth 100000 in
set_option maxHeartbeats 4000000 in
theorem X_DR_toScale (l : Launch) (D : va_G) (g : Nat → ClassId) (q : Nat → Nat) (ws : va_W) (x2 : Int32) (x3 : Int32) (x4 : Int32) (x5 : Int32) (hI : q_I (msh g q) q ws) (t0_0 : Int32) (t0_1 : Int32) (t0_2 : Int32) (t0_3 : Int64) (t0_4 : Int32) (t0_5 : Int32) (t0_6 : Int32) (t0_7 : Int32) (t0_8 : Int32) (t0_9 : Int32) (t0_10 : Int32) (hT0 : ws[134]? = (some (q 134, .inr (14, [.int t0_0, .ref (q 135), .int t0_1, .ref (q 136), .ref (q 137), .ref (q 138), .ref (q 139), .ref (q 140), .int t0_2, .long t0_3, .int t0_4, .int t0_5, .ref (q 141), .int t0_6, .ref (q 142), .int t0_7, .ref (q 143), .int t0_8, .ref (q 144), .int t0_9, .int t0_10])) : Option (Nat × va_E))) (t1_0 : (Nat → Int32)) (hT1 : ws[136]? = (some (q 136, .inl (g 0, (10000 : Int32).toNatClampNeg, .inl t1_0)) : Option (Nat × va_E))) (t2_0 : (Nat → Int32)) (hT2 : ws[137]? = (some (q 137, .inl (g 0, (10 : Int32).toNatClampNeg, .inl t2_0)) : Option (Nat × va_E))) (t3_0 : (Nat → Int32)) (hT3 : ws[138]? = (some (q 138, .inl (g 3, 10, .inl t3_0)) : Option (Nat × va_E))) (t4_0 : (Nat → Int32)) (hT4 : ws[139]? = (some (q 139, .inl (g 0, (10 : Int32).toNatClampNeg, .inl t4_0)) : Option (Nat × va_E))) (t5_0 : (Nat → Int32)) (hT5 : ws[140]? = (some (q 140, .inl (g 0, (4400 : Int32).toNatClampNeg, .inl t5_0)) : Option (Nat × va_E))) (hS : True ∧ S_DR_toScale x2 x3 x4 x5 t0_0 t0_1 t0_2 t0_3 t0_4 t0_5 t0_6 t0_7 t0_8 t0_9 t0_10 t1_0 t2_0 t3_0 t4_0 t5_0) : q_mV l y_DR_toScale prog_15_method_43_code 5 5 0 0 D g [.ref (q 134), .int x2, .int x3, .int x4, .int x5] ws (fun u => q_I (msh g q) q u ∧ q_un ws u [134, 136, 137, 138, 139, 140] ∧ ∃ (u0_0 : Int32) (u0_1 : Int32) (u0_2 : Int32) (u0_3 : Int64) (u0_4 : Int32) (u0_5 : Int32) (u0_6 : Int32) (u0_7 : Int32) (u0_8 : Int32) (u0_9 : Int32) (u0_10 : Int32) (u1_0 : (Nat → Int32)) (u2_0 : (Nat → Int32)) (u3_0 : (Nat → Int32)) (u4_0 : (Nat → Int32)) (u5_0 : (Nat → Int32)), u[134]? = (some (q 134, .inr (14, [.int u0_0, .ref (q 135), .int u0_1, .ref (q 136), .ref (q 137), .ref (q 138), .ref (q 139), .ref (q 140), .int u0_2, .long u0_3, .int u0_4, .int u0_5, .ref (q 141), .int u0_6, .ref (q 142), .int u0_7, .ref (q 143), .int u0_8, .ref (q 144), .int u0_9, .int u0_10])) : Option (Nat × va_E)) ∧ u[136]? = (some (q 136, .inl (g 0, (10000 : Int32).toNatClampNeg, .inl u1_0)) : Option (Nat × va_E)) ∧ u[137]? = (some (q 137, .inl (g 0, (10 : Int32).toNatClampNeg, .inl u2_0)) : Option (Nat × va_E)) ∧ u[138]? = (some (q 138, .inl (g 3, 10, .inl u3_0)) : Option (Nat × va_E)) ∧ u[139]? = (some (q 139, .inl (g 0, (10 : Int32).toNatClampNeg, .inl u4_0)) : Option (Nat × va_E)) ∧ u[140]? = (some (q 140, .inl (g 0, (4400 : Int32).toNatClampNeg, .inl u5_0)) : Option (Nat × va_E)) ∧ (0 ≤ u0_4.toInt + 1) ∧ (0 ≤ u0_5.toInt) ∧ (u0_5.toInt ≤ 1) ∧ (t0_1.toInt ≤ u0_1.toInt) ∧ (u0_1.toInt ≤ t0_1.toInt) ∧ (u0_4.toInt ≤ t0_4.toInt) ∧ (t0_6.toInt ≤ u0_6.toInt) ∧ (u0_6.toInt ≤ t0_6.toInt) ∧ (t0_7.toInt ≤ u0_7.toInt) ∧ (u0_7.toInt ≤ t0_7.toInt) ∧ (t0_8.toInt ≤ u0_8.toInt) ∧ (u0_8.toInt ≤ t0_8.toInt) ∧ (t0_9.toInt ≤ u0_9.toInt) ∧ (u0_9.toInt ≤ t0_9.toInt) ∧ (u0_0, u0_1, u0_2, u0_3, u0_4, u0_5, u0_6, u0_7, u0_8, u0_9, u0_10, u1_0, u2_0, u3_0, u4_0, u5_0) = (F_DR_toScale x2 x3 x4 x5 t0_0 t0_1 t0_2 t0_3 t0_4 t0_5 t0_6 t0_7 t0_8 t0_9 t0_10 t1_0 t2_0 t3_0 t4_0 t5_0)) := by
  intro sz
  refine q_into (by decide) (Nat.le_of_ble_eq_true rfl) ?_
  intro p e s m below meth c ls hsz C0 V hl
  have hx := C0.1
  have hb := C0.2.1
  obtain ⟨btt0_1, hZ9⟩ := n_w134 hI hT0
  obtain ⟨btt0_4, hZ9⟩ := hZ9
  obtain ⟨btt0_5, btt0_9⟩ := hZ9
  replace btt0_1 : q_F (0 ≤ t0_1.toInt ∧ t0_1.toInt ≤ 4100) := btt0_1
  replace btt0_4 : q_F (0 ≤ t0_4.toInt ∧ t0_4.toInt ≤ 1) := btt0_4
  replace btt0_5 : q_F (0 ≤ t0_5.toInt ∧ t0_5.toInt ≤ 1) := btt0_5
  replace btt0_9 : q_F (0 ≤ t0_9.toInt ∧ t0_9.toInt ≤ 12200) := btt0_9
  have hF : q_un ws ws [134, 136, 137, 138, 139, 140] := q_u0
  have hl : lv_has ls 5 [(0, .ref (q 134)), (1, .int x2), (2, .int x3), (3, .int x4), (4, .int x5)] := hl
  refine lv_aload_n hx hb d_15_43_0 rfl (lv_at hl 0 rfl) ?_
  refine lv_iload_n hx hb d_15_43_1 rfl (lv_at hl 1 rfl) ?_
  refine q_goi V (q_runS (As := [.int x2]) (rest := [.ref (q 134)]) (d := 1) (mc := 0) (ms := 0) C0 V rfl LS_DR_113 (X_DR_no l D g q ws  x2 hI   _) rfl hl.1 rfl (Nat.le_of_ble_eq_true rfl) ⟨by decide, by decide⟩ ⟨Nat.le_of_ble_eq_true rfl, Nat.le_of_ble_eq_true rfl⟩ d_15_43_2) (fun a34 u32 H locs hp33 V => ?_)
  obtain ⟨rfl, b35, b36, hE37⟩ := hp33
  have e38 : a34 = (F_DR_no x2) := hE37
  clear b35
  clear b36
  refine q_join (X := Int32) (fun z H locs ls _ => q_F (0 ≤ z.toInt) ∧ q_F (z.toInt ≤ 1) ∧ q_Wd D g (va_A ws sz) s ws H locs ∧ lv_has ls 5 [(0, .ref (q 134)), (1, .int x2), (2, .int x3), (3, .int x4), (4, .int x5)] ∧ F_DR_toScale_J42 x2 x3 x4 x5 t0_0 t0_1 t0_2 t0_3 t0_4 t0_5 t0_6 t0_7 t0_8 t0_9 t0_10 t1_0 t2_0 t3_0 t4_0 t5_0 z = (F_DR_toScale x2 x3 x4 x5 t0_0 t0_1 t0_2 t0_3 t0_4 t0_5 t0_6 t0_7 t0_8 t0_9 t0_10 t1_0 t2_0 t3_0 t4_0 t5_0) ∧ True ∧ S_DR_toScale_J42 x2 x3 x4 x5 t0_0 t0_1 t0_2 t0_3 t0_4 t0_5 t0_6 t0_7 t0_8 t0_9 t0_10 t1_0 t2_0 t3_0 t4_0 t5_0 z) (fun z => [.int z, .ref (q 134)]) 42 0 0 ?_ ?_
  ·
    rintro lx39 H locs ls _ hZ9
    replace hZ9 := hZ9.2.2
    obtain ⟨V, hZ9⟩ := hZ9
    obtain ⟨hl, hZ9⟩ := hZ9
    obtain ⟨hR49, hS50⟩ := hZ9
    replace hl : lv_has ls 5 [(0, .ref (q 134)), (1, .int x2), (2, .int x3), (3, .int x4), (4, .int x5)] := hl
    refine q_put (ci := 14) (j := 0) (v := .int lx39) (ty := .int) C0 V i_DR o_DR n_DR rfl rfl hT0 (by decide) w_1996 rfl rfl rfl rfl (Nat.le_of_ble_eq_true rfl) d_15_43_42 (fun H locs w54 hu55 hT0 V => ?_)
    replace hT0 : w54[134]? = (some (q 134, .inr (14, [.int lx39, .ref (q 135), .int t0_1, .ref (q 136), .ref (q 137), .ref (q 138), .ref (q 139), .ref (q 140), .int t0_2, .long t0_3, .int t0_4, .int t0_5, .ref (q 141), .int t0_6, .ref (q 142), .int t0_7, .ref (q 143), .int t0_8, .ref (q 144), .int t0_9, .int t0_10])) : Option (Nat × va_E)) := hT0
    replace hI := n_p134 hI hu55 hT0 (by first | with_reducible exact q_fe btt0_1 | exact ⟨(by have t1 : 0 ≤ t0_1.toInt ∧ t0_1.toInt ≤ 4100 := btt0_1; omega), (by have t1 : 0 ≤ t0_1.toInt ∧ t0_1.toInt ≤ 4100 := btt0_1; omega)⟩) (by first | with_reducible exact q_fe btt0_4 | exact ⟨(by have t1 : 0 ≤ t0_4.toInt ∧ t0_4.toInt ≤ 1 := btt0_4; omega), (by have t1 : 0 ≤ t0_4.toInt ∧ t0_4.toInt ≤ 1 := btt0_4; omega)⟩) (by first | with_reducible exact q_fe btt0_5 | exact ⟨(by have t1 : 0 ≤ t0_5.toInt ∧ t0_5.toInt ≤ 1 := btt0_5; omega), (by have t1 : 0 ≤ t0_5.toInt ∧ t0_5.toInt ≤ 1 := btt0_5; omega)⟩) (by first | with_reducible exact q_fe btt0_9 | exact ⟨(by have t1 : 0 ≤ t0_9.toInt ∧ t0_9.toInt ≤ 12200 := btt0_9; omega), (by have t1 : 0 ≤ t0_9.toInt ∧ t0_9.toInt ≤ 12200 := btt0_9; omega)⟩)
    replace hT1 := (hu55 _ (by decide)).trans hT1
    replace hT2 := (hu55 _ (by decide)).trans hT2
    replace hT3 := (hu55 _ (by decide)).trans hT3
    replace hT4 := (hu55 _ (by decide)).trans hT4
    replace hT5 := (hu55 _ (by decide)).trans hT5
    replace hF := q_us hF hu55 (by simp)
    refine lv_aload_n hx hb d_15_43_45 rfl (lv_at hl 0 rfl) ?_
    refine q_get (ci := 14) (j := 0) (v := .int lx39) C0 V i_DR rfl rfl hT0 (by decide) w_1996 rfl d_15_43_46 ?_
    refine lv_if_ne (tgt := 71) hx hb d_15_43_49 (by decide) (fun c56 => ?_) (fun c56 => ?_)
    ·
      exact q_retv C0 V (⟨hI, hF, lx39, t0_1, t0_2, t0_3, t0_4, t0_5, t0_6, t0_7, t0_8, t0_9, t0_10, t1_0, t2_0, t3_0, t4_0, t5_0, hT0, hT1, hT2, hT3, hT4, hT5, (show 0 ≤ t0_4.toInt + 1 from (by first | with_reducible exact (q_fe btt0_4).2 | with_reducible exact (q_fe btt0_4).1 | (have t1 : 0 ≤ t0_4.toInt ∧ t0_4.toInt ≤ 1 := btt0_4; omega))), (show 0 ≤ t0_5.toInt from (by first | with_reducible exact (q_fe btt0_5).2 | with_reducible exact (q_fe btt0_5).1 | (have t1 : 0 ≤ t0_5.toInt ∧ t0_5.toInt ≤ 1 := btt0_5; omega))), (show t0_5.toInt ≤ 1 from (by first | with_reducible exact (q_fe btt0_5).2 | with_reducible exact (q_fe btt0_5).1 | (have t1 : 0 ≤ t0_5.toInt ∧ t0_5.toInt ≤ 1 := btt0_5; omega))), (show t0_1.toInt ≤ t0_1.toInt from (by omega)), (show t0_1.toInt ≤ t0_1.toInt from (by omega)), (show t0_4.toInt ≤ t0_4.toInt from (by omega)), (show t0_6.toInt ≤ t0_6.toInt from (by omega)), (show t0_6.toInt ≤ t0_6.toInt from (by omega)), (show t0_7.toInt ≤ t0_7.toInt from (by omega)), (show t0_7.toInt ≤ t0_7.toInt from (by omega)), (show t0_8.toInt ≤ t0_8.toInt from (by omega)), (show t0_8.toInt ≤ t0_8.toInt from (by omega)), (show t0_9.toInt ≤ t0_9.toInt from (by omega)), (show t0_9.toInt ≤ t0_9.toInt from (by omega)), (show (lx39, t0_1, t0_2, t0_3, t0_4, t0_5, t0_6, t0_7, t0_8, t0_9, t0_10, t1_0, t2_0, t3_0, t4_0, t5_0) = (F_DR_toScale x2 x3 x4 x5 t0_0 t0_1 t0_2 t0_3 t0_4 t0_5 t0_6 t0_7 t0_8 t0_9 t0_10 t1_0 t2_0 t3_0 t4_0 t5_0) from Eq.trans (by rw [F_DR_toScale_J42.eq_1, if_neg c56]) hR49)⟩) d_15_43_71
    ·
      refine lv_aload_n hx hb d_15_43_52 rfl (lv_at hl 0 rfl) ?_
      refine lv_iconst (v := 2) hx hb d_15_43_53 (by decide) ?_
      refine q_put (ci := 14) (j := 20) (v := .int 2) (ty := .int) C0 V i_DR o_DR n_DR rfl rfl hT0 (by decide) w_2024 rfl rfl rfl rfl (Nat.le_of_ble_eq_true rfl) d_15_43_54 (fun H locs w59 hu60 hT0 V => ?_)
      replace hT0 : w59[134]? = (some (q 134, .inr (14, [.int lx39, .ref (q 135), .int t0_1, .ref (q 136), .ref (q 137), .ref (q 138), .ref (q 139), .ref (q 140), .int t0_2, .long t0_3, .int t0_4, .int t0_5, .ref (q 141), .int t0_6, .ref (q 142), .int t0_7, .ref (q 143), .int t0_8, .ref (q 144), .int t0_9, .int 2])) : Option (Nat × va_E)) := hT0
      replace hI := n_p134 hI hu60 hT0 (by first | with_reducible exact q_fe btt0_1 | exact ⟨(by have t1 : 0 ≤ t0_1.toInt ∧ t0_1.toInt ≤ 4100 := btt0_1; omega), (by have t1 : 0 ≤ t0_1.toInt ∧ t0_1.toInt ≤ 4100 := btt0_1; omega)⟩) (by first | with_reducible exact q_fe btt0_4 | exact ⟨(by have t1 : 0 ≤ t0_4.toInt ∧ t0_4.toInt ≤ 1 := btt0_4; omega), (by have t1 : 0 ≤ t0_4.toInt ∧ t0_4.toInt ≤ 1 := btt0_4; omega)⟩) (by first | with_reducible exact q_fe btt0_5 | exact ⟨(by have t1 : 0 ≤ t0_5.toInt ∧ t0_5.toInt ≤ 1 := btt0_5; omega), (by have t1 : 0 ≤ t0_5.toInt ∧ t0_5.toInt ≤ 1 := btt0_5; omega)⟩) (by first | with_reducible exact q_fe btt0_9 | exact ⟨(by have t1 : 0 ≤ t0_9.toInt ∧ t0_9.toInt ≤ 12200 := btt0_9; omega), (by have t1 : 0 ≤ t0_9.toInt ∧ t0_9.toInt ≤ 12200 := btt0_9; omega)⟩)
      replace hT1 := (hu60 _ (by decide)).trans hT1
      replace hT2 := (hu60 _ (by decide)).trans hT2
      replace hT3 := (hu60 _ (by decide)).trans hT3
      replace hT4 := (hu60 _ (by decide)).trans hT4
      replace hT5 := (hu60 _ (by decide)).trans hT5
      replace hF := q_us hF hu60 (by simp)
      refine lv_aload_n hx hb d_15_43_57 rfl (lv_at hl 0 rfl) ?_
      refine lv_iload_n hx hb d_15_43_58 rfl (lv_at hl 1 rfl) ?_
      have ob61 : True ∧ S_DR_load x2 lx39 t0_1 t0_2 t0_3 t0_4 t0_5 t0_6 t0_7 t0_8 t0_9 (2 : Int32) t1_0 t2_0 t3_0 t4_0 t5_0 := (by have h := hS50; rw [S_DR_toScale_J42.eq_1] at h; rw [if_pos c56] at h; with_reducible exact h.2.1)
      refine q_gov V (q_runV (As := [.int x2]) (rest := []) (d := 1) (mc := 0) (ms := 0) (ci := 14) C0 V rfl LV_DR_132 (X_DR_load l D g q w59  x2 hI lx39 t0_1 t0_2 t0_3 t0_4 t0_5 t0_6 t0_7 t0_8 t0_9 2 hT0 t1_0 hT1 t2_0 hT2 t3_0 hT3 t4_0 hT4 t5_0 hT5 ob61 _) rfl rfl hT0 rfl hl.1 rfl (Nat.le_of_ble_eq_true rfl) ⟨by decide, by decide⟩ ⟨Nat.le_of_ble_eq_true rfl, Nat.le_of_ble_eq_true rfl⟩ d_15_43_59) (fun u62 H locs hp63 V => ?_)
      obtain ⟨hI, hZ9⟩ := hp63
      obtain ⟨hu102, hZ9⟩ := hZ9
      obtain ⟨y65, hZ9⟩ := hZ9
      obtain ⟨y66, hZ9⟩ := hZ9
      obtain ⟨y67, hZ9⟩ := hZ9
      obtain ⟨y68, hZ9⟩ := hZ9
      obtain ⟨y69, hZ9⟩ := hZ9
      obtain ⟨y70, hZ9⟩ := hZ9
      obtain ⟨y71, hZ9⟩ := hZ9
      obtain ⟨y72, hZ9⟩ := hZ9
      obtain ⟨y73, hZ9⟩ := hZ9
      obtain ⟨y74, hZ9⟩ := hZ9
      obtain ⟨y75, hZ9⟩ := hZ9
      obtain ⟨f76, hZ9⟩ := hZ9
      obtain ⟨hO64, hZ9⟩ := hZ9
      obtain ⟨hA77, hZ9⟩ := hZ9
      replace hZ9 := hZ9.2.2
      obtain ⟨b80, hZ9⟩ := hZ9
      obtain ⟨b81, hZ9⟩ := hZ9
      replace hZ9 := hZ9.2.2
      obtain ⟨b84, hZ9⟩ := hZ9
      obtain ⟨b85, hZ9⟩ := hZ9
      replace hZ9 := hZ9.2.2
      obtain ⟨b88, hZ9⟩ := hZ9
      obtain ⟨b89, hZ9⟩ := hZ9
      obtain ⟨b90, hZ9⟩ := hZ9
      obtain ⟨b91, hZ9⟩ := hZ9
      obtain ⟨b92, hZ9⟩ := hZ9
      obtain ⟨b93, hZ9⟩ := hZ9
      obtain ⟨b94, hZ9⟩ := hZ9
      obtain ⟨b95, hZ9⟩ := hZ9
      replace hZ9 := hZ9.2.2.2
      obtain ⟨b99, hZ9⟩ := hZ9
      obtain ⟨-, hE101⟩ := hZ9
      replace hO64 : u62[134]? = (some (q 134, .inr (14, [.int y65, .ref (q 135), .int y66, .ref (q 136), .ref (q 137), .ref (q 138), .ref (q 139), .ref (q 140), .int y67, .long y68, .int y69, .int y70, .ref (q 141), .int y71, .ref (q 142), .int y72, .ref (q 143), .int y73, .ref (q 144), .int y74, .int y75])) : Option (Nat × va_E)) := hO64
      replace hA77 : u62[140]? = (some (q 140, .inl (g 0, (4400 : Int32).toNatClampNeg, .inl f76)) : Option (Nat × va_E)) := hA77
      obtain ⟨p103, e104⟩ : ∃ z, z = (F_DR_load x2 lx39 t0_1 t0_2 t0_3 t0_4 t0_5 t0_6 t0_7 t0_8 t0_9 (2 : Int32) t1_0 t2_0 t3_0 t4_0 t5_0) := ⟨_, rfl⟩
      have e105 : y65 = p103.1 := congrArg (fun z => z.1) (hE101.trans e104.symm)
      have e106 : y66 = p103.2.1 := congrArg (fun z => z.2.1) (hE101.trans e104.symm)
      have e107 : y67 = p103.2.2.1 := congrArg (fun z => z.2.2.1) (hE101.trans e104.symm)
      have e108 : y68 = p103.2.2.2.1 := congrArg (fun z => z.2.2.2.1) (hE101.trans e104.symm)
      have e109 : y69 = p103.2.2.2.2.1 := congrArg (fun z => z.2.2.2.2.1) (hE101.trans e104.symm)
      have e110 : y70 = p103.2.2.2.2.2.1 := congrArg (fun z => z.2.2.2.2.2.1) (hE101.trans e104.symm)
      have e111 : y71 = p103.2.2.2.2.2.2.1 := congrArg (fun z => z.2.2.2.2.2.2.1) (hE101.trans e104.symm)
      have e112 : y72 = p103.2.2.2.2.2.2.2.1 := congrArg (fun z => z.2.2.2.2.2.2.2.1) (hE101.trans e104.symm)
      have e113 : y73 = p103.2.2.2.2.2.2.2.2.1 := congrArg (fun z => z.2.2.2.2.2.2.2.2.1) (hE101.trans e104.symm)
      have e114 : y74 = p103.2.2.2.2.2.2.2.2.2.1 := congrArg (fun z => z.2.2.2.2.2.2.2.2.2.1) (hE101.trans e104.symm)
      have e115 : y75 = p103.2.2.2.2.2.2.2.2.2.2.1 := congrArg (fun z => z.2.2.2.2.2.2.2.2.2.2.1) (hE101.trans e104.symm)
      have e116 : f76 = p103.2.2.2.2.2.2.2.2.2.2.2 := congrArg (fun z => z.2.2.2.2.2.2.2.2.2.2.2) (hE101.trans e104.symm)
      replace b80 : q_F (0 ≤ y69.toInt) := b80
      replace b81 : q_F (y69.toInt ≤ 0) := b81
      replace b84 : q_F (t0_1.toInt ≤ y66.toInt) := b84
      replace b85 : q_F (y66.toInt ≤ t0_1.toInt) := b85
      replace b88 : q_F (t0_6.toInt ≤ y71.toInt) := b88
      replace b89 : q_F (y71.toInt ≤ t0_6.toInt) := b89
      replace b90 : q_F (t0_7.toInt ≤ y72.toInt) := b90
      replace b91 : q_F (y72.toInt ≤ t0_7.toInt) := b91
      replace b92 : q_F (t0_8.toInt ≤ y73.toInt) := b92
      replace b93 : q_F (y73.toInt ≤ t0_8.toInt) := b93
      replace b94 : q_F (t0_9.toInt ≤ y74.toInt) := b94
      replace b95 : q_F (y74.toInt ≤ t0_9.toInt) := b95
      replace b99 : q_F (y70.toInt ≤ y69.toInt + 1) := b99
      replace hT1 := (hu102 _ (by decide)).trans hT1
      replace hT2 := (hu102 _ (by decide)).trans hT2
      replace hT3 := (hu102 _ (by decide)).trans hT3
      replace hT4 := (hu102 _ (by decide)).trans hT4
      replace hF := q_uc hF hu102 (by simp)
      have hR117 := (show F_DR_toScale_c59 x2 x3 x4 x5 t0_0 t0_1 t0_2 t0_3 t0_4 t0_5 t0_6 t0_7 t0_8 t0_9 t0_10 t1_0 t2_0 t3_0 t4_0 t5_0 lx39 p103 = (F_DR_toScale x2 x3 x4 x5 t0_0 t0_1 t0_2 t0_3 t0_4 t0_5 t0_6 t0_7 t0_8 t0_9 t0_10 t1_0 t2_0 t3_0 t4_0 t5_0) from Eq.trans (by rw [e104, F_DR_toScale_J42.eq_1, if_pos c56]) hR49)
      have hS118 := (show True ∧ S_DR_toScale_c59 x2 x3 x4 x5 t0_0 t0_1 t0_2 t0_3 t0_4 t0_5 t0_6 t0_7 t0_8 t0_9 t0_10 t1_0 t2_0 t3_0 t4_0 t5_0 lx39 p103 from (by rw [e104]; have h := hS50; rw [S_DR_toScale_J42.eq_1] at h; rw [if_pos c56] at h; replace h := q_s2 h; with_reducible exact h))
      refine lv_aload_n hx hb d_15_43_62 rfl (lv_at hl 0 rfl) ?_
      refine lv_iload_n hx hb d_15_43_63 rfl (lv_at hl 3 rfl) ?_
      refine lv_i2l hx hb d_15_43_64 rfl ?_
      obtain ⟨j122, e123⟩ := q_nm (x4.toInt64 : Int64)
      refine q_tl (v := j122) e123 ?_
      refine lv_iload hx hb d_15_43_65 (lv_at hl 4 rfl) ?_
      refine lv_iload_n hx hb d_15_43_67 rfl (lv_at hl 2 rfl) ?_
      have ob125 : True ∧ S_DR_bring j122 x5 x3 y65 y66 y67 y68 y69 y70 y71 y72 y73 y74 y75 t1_0 t2_0 t3_0 t4_0 f76 := (by rw [← e123, e116, e115, e114, e113, e112, e111, e110, e109, e108, e107, e106, e105]; have h := hS118; rw [S_DR_toScale_c59.eq_1] at h; with_reducible exact h.2.1)
      refine q_gov V (q_runV (As := [.long j122, .int x5, .int x3]) (rest := []) (d := 4) (mc := 0) (ms := 0) (ci := 14) C0 V rfl LV_DR_170 (X_DR_bring l D g q u62  j122 x5 x3 hI y65 y66 y67 y68 y69 y70 y71 y72 y73 y74 y75 hO64 t1_0 hT1 t2_0 hT2 t3_0 hT3 t4_0 hT4 f76 hA77 ob125 _) rfl rfl hO64 rfl hl.1 rfl (Nat.le_of_ble_eq_true rfl) ⟨by decide, by decide⟩ ⟨Nat.le_of_ble_eq_true rfl, Nat.le_of_ble_eq_true rfl⟩ d_15_43_68) (fun u126 H locs hp127 V => ?_)
      obtain ⟨hI, hZ9⟩ := hp127
      obtain ⟨hu171, hZ9⟩ := hZ9
      obtain ⟨y129, hZ9⟩ := hZ9
      obtain ⟨y130, hZ9⟩ := hZ9
      obtain ⟨y131, hZ9⟩ := hZ9
      obtain ⟨y132, hZ9⟩ := hZ9
      obtain ⟨y133, hZ9⟩ := hZ9
      obtain ⟨y134, hZ9⟩ := hZ9
      obtain ⟨y135, hZ9⟩ := hZ9
      obtain ⟨y136, hZ9⟩ := hZ9
      obtain ⟨y137, hZ9⟩ := hZ9
      obtain ⟨y138, hZ9⟩ := hZ9
      obtain ⟨y139, hZ9⟩ := hZ9
      obtain ⟨f140, hZ9⟩ := hZ9
      obtain ⟨f142, hZ9⟩ := hZ9
      obtain ⟨f144, hZ9⟩ := hZ9
      obtain ⟨f146, hZ9⟩ := hZ9
      obtain ⟨f148, hZ9⟩ := hZ9
      obtain ⟨hO128, hZ9⟩ := hZ9
      obtain ⟨hA141, hZ9⟩ := hZ9
      obtain ⟨hA143, hZ9⟩ := hZ9
      obtain ⟨hA145, hZ9⟩ := hZ9
      obtain ⟨hA147, hZ9⟩ := hZ9
      obtain ⟨hA149, hZ9⟩ := hZ9
      obtain ⟨b150, hZ9⟩ := hZ9
      obtain ⟨b151, hZ9⟩ := hZ9
      obtain ⟨b152, hZ9⟩ := hZ9
      replace hZ9 := hZ9.2.2
      obtain ⟨b155, hZ9⟩ := hZ9
      obtain ⟨b156, hZ9⟩ := hZ9
      replace hZ9 := hZ9.2
      obtain ⟨b158, hZ9⟩ := hZ9
      obtain ⟨b159, hZ9⟩ := hZ9
      obtain ⟨b160, hZ9⟩ := hZ9
      obtain ⟨b161, hZ9⟩ := hZ9
      obtain ⟨b162, hZ9⟩ := hZ9
      obtain ⟨b163, hZ9⟩ := hZ9
      obtain ⟨b164, hZ9⟩ := hZ9
      replace hZ9 := hZ9.2
      obtain ⟨b166, hZ9⟩ := hZ9
      obtain ⟨b167, hZ9⟩ := hZ9
      replace hZ9 := hZ9.2
      obtain ⟨-, hE170⟩ := hZ9
      replace hO128 : u126[134]? = (some (q 134, .inr (14, [.int y129, .ref (q 135), .int y130, .ref (q 136), .ref (q 137), .ref (q 138), .ref (q 139), .ref (q 140), .int y131, .long y132, .int y133, .int y134, .ref (q 141), .int y135, .ref (q 142), .int y136, .ref (q 143), .int y137, .ref (q 144), .int y138, .int y139])) : Option (Nat × va_E)) := hO128
      replace hA141 : u126[136]? = (some (q 136, .inl (g 0, (10000 : Int32).toNatClampNeg, .inl f140)) : Option (Nat × va_E)) := hA141
      replace hA143 : u126[137]? = (some (q 137, .inl (g 0, (10 : Int32).toNatClampNeg, .inl f142)) : Option (Nat × va_E)) := hA143
      replace hA145 : u126[138]? = (some (q 138, .inl (g 3, 10, .inl f144)) : Option (Nat × va_E)) := hA145
      replace hA147 : u126[139]? = (some (q 139, .inl (g 0, (10 : Int32).toNatClampNeg, .inl f146)) : Option (Nat × va_E)) := hA147
      replace hA149 : u126[140]? = (some (q 140, .inl (g 0, (4400 : Int32).toNatClampNeg, .inl f148)) : Option (Nat × va_E)) := hA149
      obtain ⟨p172, e173⟩ : ∃ z, z = (F_DR_bring j122 x5 x3 y65 y66 y67 y68 y69 y70 y71 y72 y73 y74 y75 t1_0 t2_0 t3_0 t4_0 f76) := ⟨_, rfl⟩
      have e174 : y129 = p172.1 := congrArg (fun z => z.1) (hE170.trans e173.symm)
      have e175 : y130 = p172.2.1 := congrArg (fun z => z.2.1) (hE170.trans e173.symm)
      have e176 : y131 = p172.2.2.1 := congrArg (fun z => z.2.2.1) (hE170.trans e173.symm)
      have e177 : y132 = p172.2.2.2.1 := congrArg (fun z => z.2.2.2.1) (hE170.trans e173.symm)
      have e178 : y133 = p172.2.2.2.2.1 := congrArg (fun z => z.2.2.2.2.1) (hE170.trans e173.symm)
      have e179 : y134 = p172.2.2.2.2.2.1 := congrArg (fun z => z.2.2.2.2.2.1) (hE170.trans e173.symm)
      have e180 : y135 = p172.2.2.2.2.2.2.1 := congrArg (fun z => z.2.2.2.2.2.2.1) (hE170.trans e173.symm)
      have e181 : y136 = p172.2.2.2.2.2.2.2.1 := congrArg (fun z => z.2.2.2.2.2.2.2.1) (hE170.trans e173.symm)
      have e182 : y137 = p172.2.2.2.2.2.2.2.2.1 := congrArg (fun z => z.2.2.2.2.2.2.2.2.1) (hE170.trans e173.symm)
      have e183 : y138 = p172.2.2.2.2.2.2.2.2.2.1 := congrArg (fun z => z.2.2.2.2.2.2.2.2.2.1) (hE170.trans e173.symm)
      have e184 : y139 = p172.2.2.2.2.2.2.2.2.2.2.1 := congrArg (fun z => z.2.2.2.2.2.2.2.2.2.2.1) (hE170.trans e173.symm)
      have e185 : f140 = p172.2.2.2.2.2.2.2.2.2.2.2.1 := congrArg (fun z => z.2.2.2.2.2.2.2.2.2.2.2.1) (hE170.trans e173.symm)
      have e186 : f142 = p172.2.2.2.2.2.2.2.2.2.2.2.2.1 := congrArg (fun z => z.2.2.2.2.2.2.2.2.2.2.2.2.1) (hE170.trans e173.symm)
      have e187 : f144 = p172.2.2.2.2.2.2.2.2.2.2.2.2.2.1 := congrArg (fun z => z.2.2.2.2.2.2.2.2.2.2.2.2.2.1) (hE170.trans e173.symm)
      have e188 : f146 = p172.2.2.2.2.2.2.2.2.2.2.2.2.2.2.1 := congrArg (fun z => z.2.2.2.2.2.2.2.2.2.2.2.2.2.2.1) (hE170.trans e173.symm)
      have e189 : f148 = p172.2.2.2.2.2.2.2.2.2.2.2.2.2.2.2 := congrArg (fun z => z.2.2.2.2.2.2.2.2.2.2.2.2.2.2.2) (hE170.trans e173.symm)
      replace b150 : q_F (0 ≤ y134.toInt) := b150
      replace b151 : q_F (y66.toInt ≤ y130.toInt) := b151
      replace b152 : q_F (y130.toInt ≤ y66.toInt) := b152
      replace b155 : q_F (y69.toInt ≤ y133.toInt + 1) := b155
      replace b156 : q_F (y133.toInt ≤ y69.toInt) := b156
      replace b158 : q_F (y134.toInt ≤ y70.toInt) := b158
      replace b159 : q_F (y71.toInt ≤ y135.toInt) := b159
      replace b160 : q_F (y135.toInt ≤ y71.toInt) := b160
      replace b161 : q_F (y72.toInt ≤ y136.toInt) := b161
      replace b162 : q_F (y136.toInt ≤ y72.toInt) := b162
      replace b163 : q_F (y73.toInt ≤ y137.toInt) := b163
      replace b164 : q_F (y137.toInt ≤ y73.toInt) := b164
      replace b166 : q_F (y74.toInt ≤ y138.toInt) := b166
      replace b167 : q_F (y138.toInt ≤ y74.toInt) := b167
      replace hF := q_uc hF hu171 (by simp)
      have hR190 := (show F_DR_toScale_c68 x2 x3 x4 x5 t0_0 t0_1 t0_2 t0_3 t0_4 t0_5 t0_6 t0_7 t0_8 t0_9 t0_10 t1_0 t2_0 t3_0 t4_0 t5_0 lx39 p103 p172 = (F_DR_toScale x2 x3 x4 x5 t0_0 t0_1 t0_2 t0_3 t0_4 t0_5 t0_6 t0_7 t0_8 t0_9 t0_10 t1_0 t2_0 t3_0 t4_0 t5_0) from Eq.trans (by rw [e173, ← e123, e116, e115, e114, e113, e112, e111, e110, e109, e108, e107, e106, e105, F_DR_toScale_c59.eq_1]) hR117)
      have hS191 := (show True ∧ S_DR_toScale_c68 x2 x3 x4 x5 t0_0 t0_1 t0_2 t0_3 t0_4 t0_5 t0_6 t0_7 t0_8 t0_9 t0_10 t1_0 t2_0 t3_0 t4_0 t5_0 lx39 p103 p172 from (by rw [e173, ← e123, e116, e115, e114, e113, e112, e111, e110, e109, e108, e107, e106, e105]; have h := hS118; rw [S_DR_toScale_c59.eq_1] at h; replace h := q_s2 h; with_reducible exact h))
      exact q_retv C0 V (⟨hI, hF, y129, y130, y131, y132, y133, y134, y135, y136, y137, y138, y139, f140, f142, f144, f146, f148, hO128, hA141, hA143, hA145, hA147, hA149, (show 0 ≤ y133.toInt + 1 from (by have t1 : 0 ≤ y69.toInt := b80; have t2 : y69.toInt ≤ y133.toInt + 1 := b155; omega)), (show 0 ≤ y134.toInt from (by first | with_reducible exact q_fe b150 | (have t1 : 0 ≤ y134.toInt := b150; omega))), (show y134.toInt ≤ 1 from (by have t1 : y69.toInt ≤ 0 := b81; have t2 : y70.toInt ≤ y69.toInt + 1 := b99; have t3 : y134.toInt ≤ y70.toInt := b158; omega)), (show t0_1.toInt ≤ y130.toInt from (by have t1 : t0_1.toInt ≤ y66.toInt := b84; have t2 : y66.toInt ≤ y130.toInt := b151; omega)), (show y130.toInt ≤ t0_1.toInt from (by have t1 : y66.toInt ≤ t0_1.toInt := b85; have t2 : y130.toInt ≤ y66.toInt := b152; omega)), (show y133.toInt ≤ t0_4.toInt from (by have t1 : 0 ≤ t0_4.toInt ∧ t0_4.toInt ≤ 1 := btt0_4; have t2 : y69.toInt ≤ 0 := b81; have t3 : y133.toInt ≤ y69.toInt := b156; omega)), (show t0_6.toInt ≤ y135.toInt from (by have t1 : t0_6.toInt ≤ y71.toInt := b88; have t2 : y71.toInt ≤ y135.toInt := b159; omega)), (show y135.toInt ≤ t0_6.toInt from (by have t1 : y71.toInt ≤ t0_6.toInt := b89; have t2 : y135.toInt ≤ y71.toInt := b160; omega)), (show t0_7.toInt ≤ y136.toInt from (by have t1 : t0_7.toInt ≤ y72.toInt := b90; have t2 : y72.toInt ≤ y136.toInt := b161; omega)), (show y136.toInt ≤ t0_7.toInt from (by have t1 : y72.toInt ≤ t0_7.toInt := b91; have t2 : y136.toInt ≤ y72.toInt := b162; omega)), (show t0_8.toInt ≤ y137.toInt from (by have t1 : t0_8.toInt ≤ y73.toInt := b92; have t2 : y73.toInt ≤ y137.toInt := b163; omega)), (show y137.toInt ≤ t0_8.toInt from (by have t1 : y73.toInt ≤ t0_8.toInt := b93; have t2 : y137.toInt ≤ y73.toInt := b164; omega)), (show t0_9.toInt ≤ y138.toInt from (by have t1 : t0_9.toInt ≤ y74.toInt := b94; have t2 : y74.toInt ≤ y138.toInt := b166; omega)), (show y138.toInt ≤ t0_9.toInt from (by have t1 : y74.toInt ≤ t0_9.toInt := b95; have t2 : y138.toInt ≤ y74.toInt := b167; omega)), (show (y129, y130, y131, y132, y133, y134, y135, y136, y137, y138, y139, f140, f142, f144, f146, f148) = (F_DR_toScale x2 x3 x4 x5 t0_0 t0_1 t0_2 t0_3 t0_4 t0_5 t0_6 t0_7 t0_8 t0_9 t0_10 t1_0 t2_0 t3_0 t4_0 t5_0) from Eq.trans (by rw [e189, e188, e187, e186, e185, e184, e183, e182, e181, e180, e179, e178, e177, e176, e175, e174, F_DR_toScale_c68.eq_1]) hR190)⟩) d_15_43_71
  ·
    intro J46
    refine q_join (X := Unit) (fun z H locs ls _ => q_Wd D g (va_A ws sz) s ws H locs ∧ lv_has ls 5 [(0, .ref (q 134)), (1, .int x2), (2, .int x3), (3, .int x4), (4, .int x5)] ∧ F_DR_toScale_J37 x2 x3 x4 x5 t0_0 t0_1 t0_2 t0_3 t0_4 t0_5 t0_6 t0_7 t0_8 t0_9 t0_10 t1_0 t2_0 t3_0 t4_0 t5_0 = (F_DR_toScale x2 x3 x4 x5 t0_0 t0_1 t0_2 t0_3 t0_4 t0_5 t0_6 t0_7 t0_8 t0_9 t0_10 t1_0 t2_0 t3_0 t4_0 t5_0) ∧ True ∧ S_DR_toScale_J37 x2 x3 x4 x5 t0_0 t0_1 t0_2 t0_3 t0_4 t0_5 t0_6 t0_7 t0_8 t0_9 t0_10 t1_0 t2_0 t3_0 t4_0 t5_0) (fun z => [.ref (q 134)]) 37 0 0 ?_ ?_
    ·
      rintro _ H locs ls _ ⟨V, hl, hR202, hS203⟩
      replace hl : lv_has ls 5 [(0, .ref (q 134)), (1, .int x2), (2, .int x3), (3, .int x4), (4, .int x5)] := hl
      refine lv_iconst (v := 1) hx hb d_15_43_37 (by decide) ?_
      refine lv_goto (tgt := 42) hx hb d_15_43_38 (by decide) ?_
      exact J46 ((1 : Int32)) _ _ _ ws ⟨(show q_F (0 ≤ 1) from (show 0 ≤ 1 from by omega)), (show q_F (1 ≤ 1) from (show 1 ≤ 1 from by omega)), V, q_lw hl (q_lw1 0 rfl (q_lw1 1 rfl (q_lw1 2 rfl (q_lw1 3 rfl (q_lw1 4 rfl q_lw0))))), (show F_DR_toScale_J42 x2 x3 x4 x5 t0_0 t0_1 t0_2 t0_3 t0_4 t0_5 t0_6 t0_7 t0_8 t0_9 t0_10 t1_0 t2_0 t3_0 t4_0 t5_0 1 = (F_DR_toScale x2 x3 x4 x5 t0_0 t0_1 t0_2 t0_3 t0_4 t0_5 t0_6 t0_7 t0_8 t0_9 t0_10 t1_0 t2_0 t3_0 t4_0 t5_0) from Eq.trans (by rw [F_DR_toScale_J37.eq_1]) hR202), (show True ∧ S_DR_toScale_J42 x2 x3 x4 x5 t0_0 t0_1 t0_2 t0_3 t0_4 t0_5 t0_6 t0_7 t0_8 t0_9 t0_10 t1_0 t2_0 t3_0 t4_0 t5_0 1 from (by have h := hS203; rw [S_DR_toScale_J37.eq_1] at h; with_reducible exact h))⟩
    ·
      intro J201
      refine lv_if_ne (tgt := 37) hx hb d_15_43_5 (by decide) (fun c207 => ?_) (fun c207 => ?_)
      ·
        exact J201 (()) _ _ _ ws ⟨V, q_lw hl (q_lw1 0 rfl (q_lw1 1 rfl (q_lw1 2 rfl (q_lw1 3 rfl (q_lw1 4 rfl q_lw0))))), (show F_DR_toScale_J37 x2 x3 x4 x5 t0_0 t0_1 t0_2 t0_3 t0_4 t0_5 t0_6 t0_7 t0_8 t0_9 t0_10 t1_0 t2_0 t3_0 t4_0 t5_0 = (F_DR_toScale x2 x3 x4 x5 t0_0 t0_1 t0_2 t0_3 t0_4 t0_5 t0_6 t0_7 t0_8 t0_9 t0_10 t1_0 t2_0 t3_0 t4_0 t5_0) from (by have c207x := c207; rw [e38] at c207x; rw [F_DR_toScale.eq_1, if_neg c207x])), (show True ∧ S_DR_toScale_J37 x2 x3 x4 x5 t0_0 t0_1 t0_2 t0_3 t0_4 t0_5 t0_6 t0_7 t0_8 t0_9 t0_10 t1_0 t2_0 t3_0 t4_0 t5_0 from (by have h := hS; rw [S_DR_toScale.eq_1] at h; have c207x := c207; rw [e38] at c207x; rw [if_neg c207x] at h; with_reducible exact h))⟩
      ·
        refine lv_iload_n hx hb d_15_43_8 rfl (lv_at hl 2 rfl) ?_
        refine q_goi V (q_runS (As := [.int x3]) (rest := [.ref (q 134)]) (d := 1) (mc := 0) (ms := 0) C0 V rfl LS_DR_113 (X_DR_no l D g q ws  x3 hI   _) rfl hl.1 rfl (Nat.le_of_ble_eq_true rfl) ⟨by decide, by decide⟩ ⟨Nat.le_of_ble_eq_true rfl, Nat.le_of_ble_eq_true rfl⟩ d_15_43_9) (fun a212 u210 H locs hp211 V => ?_)
        obtain ⟨rfl, b213, b214, hE215⟩ := hp211
        have e216 : a212 = (F_DR_no x3) := hE215
        clear b213
        clear b214
        refine lv_if_ne (tgt := 37) hx hb d_15_43_12 (by decide) (fun c217 => ?_) (fun c217 => ?_)
        ·
          exact J201 (()) _ _ _ ws ⟨V, q_lw hl (q_lw1 0 rfl (q_lw1 1 rfl (q_lw1 2 rfl (q_lw1 3 rfl (q_lw1 4 rfl q_lw0))))), (show F_DR_toScale_J37 x2 x3 x4 x5 t0_0 t0_1 t0_2 t0_3 t0_4 t0_5 t0_6 t0_7 t0_8 t0_9 t0_10 t1_0 t2_0 t3_0 t4_0 t5_0 = (F_DR_toScale x2 x3 x4 x5 t0_0 t0_1 t0_2 t0_3 t0_4 t0_5 t0_6 t0_7 t0_8 t0_9 t0_10 t1_0 t2_0 t3_0 t4_0 t5_0) from (by have c207x := c207; rw [e38] at c207x; have c217x := c217; rw [e216] at c217x; rw [F_DR_toScale.eq_1, if_pos c207x, if_neg c217x])), (show True ∧ S_DR_toScale_J37 x2 x3 x4 x5 t0_0 t0_1 t0_2 t0_3 t0_4 t0_5 t0_6 t0_7 t0_8 t0_9 t0_10 t1_0 t2_0 t3_0 t4_0 t5_0 from (by have h := hS; rw [S_DR_toScale.eq_1] at h; have c207x := c207; rw [e38] at c207x; rw [if_pos c207x] at h; have c217x := c217; rw [e216] at c217x; rw [if_neg c217x] at h; with_reducible exact h))⟩
        ·
          refine lv_iload hx hb d_15_43_15 (lv_at hl 4 rfl) ?_
          refine q_goi V (q_runS (As := [.int x5]) (rest := [.ref (q 134)]) (d := 1) (mc := 0) (ms := 0) C0 V rfl LS_DR_147 (X_DR_noMode l D g q ws  x5 hI   _) rfl hl.1 rfl (Nat.le_of_ble_eq_true rfl) ⟨by decide, by decide⟩ ⟨Nat.le_of_ble_eq_true rfl, Nat.le_of_ble_eq_true rfl⟩ d_15_43_17) (fun a222 u220 H locs hp221 V => ?_)
          obtain ⟨rfl, b223, b224, hE225⟩ := hp221
          have e226 : a222 = (F_DR_noMode x5) := hE225
          clear b223
          clear b224
          refine lv_if_ne (tgt := 37) hx hb d_15_43_20 (by decide) (fun c227 => ?_) (fun c227 => ?_)
          ·
            exact J201 (()) _ _ _ ws ⟨V, q_lw hl (q_lw1 0 rfl (q_lw1 1 rfl (q_lw1 2 rfl (q_lw1 3 rfl (q_lw1 4 rfl q_lw0))))), (show F_DR_toScale_J37 x2 x3 x4 x5 t0_0 t0_1 t0_2 t0_3 t0_4 t0_5 t0_6 t0_7 t0_8 t0_9 t0_10 t1_0 t2_0 t3_0 t4_0 t5_0 = (F_DR_toScale x2 x3 x4 x5 t0_0 t0_1 t0_2 t0_3 t0_4 t0_5 t0_6 t0_7 t0_8 t0_9 t0_10 t1_0 t2_0 t3_0 t4_0 t5_0) from (by have c207x := c207; rw [e38] at c207x; have c217x := c217; rw [e216] at c217x; have c227x := c227; rw [e226] at c227x; rw [F_DR_toScale.eq_1, if_pos c207x, if_pos c217x, if_neg c227x])), (show True ∧ S_DR_toScale_J37 x2 x3 x4 x5 t0_0 t0_1 t0_2 t0_3 t0_4 t0_5 t0_6 t0_7 t0_8 t0_9 t0_10 t1_0 t2_0 t3_0 t4_0 t5_0 from (by have h := hS; rw [S_DR_toScale.eq_1] at h; have c207x := c207; rw [e38] at c207x; rw [if_pos c207x] at h; have c217x := c217; rw [e216] at c217x; rw [if_pos c217x] at h; have c227x := c227; rw [e226] at c227x; rw [if_neg c227x] at h; with_reducible exact h))⟩
          ·
            refine lv_iload_n hx hb d_15_43_23 rfl (lv_at hl 3 rfl) ?_
            refine lv_sipush (v := (-10000)) hx hb d_15_43_24 (by decide) ?_
            refine lv_icmp_lt (tgt := 37) hx hb d_15_43_27 (by decide) (fun c230 => ?_) (fun c230 => ?_)
            ·
              exact J201 (()) _ _ _ ws ⟨V, q_lw hl (q_lw1 0 rfl (q_lw1 1 rfl (q_lw1 2 rfl (q_lw1 3 rfl (q_lw1 4 rfl q_lw0))))), (show F_DR_toScale_J37 x2 x3 x4 x5 t0_0 t0_1 t0_2 t0_3 t0_4 t0_5 t0_6 t0_7 t0_8 t0_9 t0_10 t1_0 t2_0 t3_0 t4_0 t5_0 = (F_DR_toScale x2 x3 x4 x5 t0_0 t0_1 t0_2 t0_3 t0_4 t0_5 t0_6 t0_7 t0_8 t0_9 t0_10 t1_0 t2_0 t3_0 t4_0 t5_0) from (by have c207x := c207; rw [e38] at c207x; have c217x := c217; rw [e216] at c217x; have c227x := c227; rw [e226] at c227x; rw [F_DR_toScale.eq_1, if_pos c207x, if_pos c217x, if_pos c227x, if_pos c230])), (show True ∧ S_DR_toScale_J37 x2 x3 x4 x5 t0_0 t0_1 t0_2 t0_3 t0_4 t0_5 t0_6 t0_7 t0_8 t0_9 t0_10 t1_0 t2_0 t3_0 t4_0 t5_0 from (by have h := hS; rw [S_DR_toScale.eq_1] at h; have c207x := c207; rw [e38] at c207x; rw [if_pos c207x] at h; have c217x := c217; rw [e216] at c217x; rw [if_pos c217x] at h; have c227x := c227; rw [e226] at c227x; rw [if_pos c227x] at h; rw [if_pos c230] at h; with_reducible exact h))⟩
            ·
              refine lv_iload_n hx hb d_15_43_30 rfl (lv_at hl 3 rfl) ?_
              refine lv_sipush (v := 10000) hx hb d_15_43_31 (by decide) ?_
              refine lv_icmp_le (tgt := 41) hx hb d_15_43_34 (by decide) (fun c233 => ?_) (fun c233 => ?_)
              ·
                refine lv_iconst (v := 0) hx hb d_15_43_41 (by decide) ?_
                exact J46 ((0 : Int32)) _ _ _ ws ⟨(show q_F (0 ≤ 0) from (show 0 ≤ 0 from by omega)), (show q_F (0 ≤ 1) from (show 0 ≤ 1 from by omega)), V, q_lw hl (q_lw1 0 rfl (q_lw1 1 rfl (q_lw1 2 rfl (q_lw1 3 rfl (q_lw1 4 rfl q_lw0))))), (show F_DR_toScale_J42 x2 x3 x4 x5 t0_0 t0_1 t0_2 t0_3 t0_4 t0_5 t0_6 t0_7 t0_8 t0_9 t0_10 t1_0 t2_0 t3_0 t4_0 t5_0 0 = (F_DR_toScale x2 x3 x4 x5 t0_0 t0_1 t0_2 t0_3 t0_4 t0_5 t0_6 t0_7 t0_8 t0_9 t0_10 t1_0 t2_0 t3_0 t4_0 t5_0) from (by have c207x := c207; rw [e38] at c207x; have c217x := c217; rw [e216] at c217x; have c227x := c227; rw [e226] at c227x; rw [F_DR_toScale.eq_1, if_pos c207x, if_pos c217x, if_pos c227x, if_neg c230, if_pos c233])), (show True ∧ S_DR_toScale_J42 x2 x3 x4 x5 t0_0 t0_1 t0_2 t0_3 t0_4 t0_5 t0_6 t0_7 t0_8 t0_9 t0_10 t1_0 t2_0 t3_0 t4_0 t5_0 0 from (by have h := hS; rw [S_DR_toScale.eq_1] at h; have c207x := c207; rw [e38] at c207x; rw [if_pos c207x] at h; have c217x := c217; rw [e216] at c217x; rw [if_pos c217x] at h; have c227x := c227; rw [e226] at c227x; rw [if_pos c227x] at h; rw [if_neg c230] at h; rw [if_pos c233] at h; with_reducible exact h))⟩
              ·
                exact J201 (()) _ _ _ ws ⟨V, q_lw hl (q_lw1 0 rfl (q_lw1 1 rfl (q_lw1 2 rfl (q_lw1 3 rfl (q_lw1 4 rfl q_lw0))))), (show F_DR_toScale_J37 x2 x3 x4 x5 t0_0 t0_1 t0_2 t0_3 t0_4 t0_5 t0_6 t0_7 t0_8 t0_9 t0_10 t1_0 t2_0 t3_0 t4_0 t5_0 = (F_DR_toScale x2 x3 x4 x5 t0_0 t0_1 t0_2 t0_3 t0_4 t0_5 t0_6 t0_7 t0_8 t0_9 t0_10 t1_0 t2_0 t3_0 t4_0 t5_0) from (by have c207x := c207; rw [e38] at c207x; have c217x := c217; rw [e216] at c217x; have c227x := c227; rw [e226] at c227x; rw [F_DR_toScale.eq_1, if_pos c207x, if_pos c217x, if_pos c227x, if_neg c230, if_neg c233])), (show True ∧ S_DR_toScale_J37 x2 x3 x4 x5 t0_0 t0_1 t0_2 t0_3 t0_4 t0_5 t0_6 t0_7 t0_8 t0_9 t0_10 t1_0 t2_0 t3_0 t4_0 t5_0 from (by have h := hS; rw [S_DR_toScale.eq_1] at h; have c207x := c207; rw [e38] at c207x; rw [if_pos c207x] at h; have c217x := c217; rw [e216] at c217x; rw [if_pos c217x] at h; have c227x := c227; rw [e226] at c227x; rw [if_pos c227x] at h; rw [if_neg c230] at h; rw [if_neg c233] at h; with_reducible exact h))⟩
theorem d_15_44_0 : decode prog_15_method_44_code 0 = .ok (.aload_n 0, 1) := by decide +kernel
theorem d_15_44_1 : decode prog_15_method_44_code 1 = .ok (.iload_n 1, 1) := by decide +kernel
theorem d_15_44_2 : decode prog_15_method_44_code 2 = .ok (.invokestatic 113, 3) := by decide +kernel
theorem d_15_44_40 : decode prog_15_method_44_code 40 = .ok (.putfield 41, 3) := by decide +kernel
theorem d_15_44_43 : decode prog_15_method_44_code 43 = .ok (.aload_n 0, 1) := by decide +kernel
theorem d_15_44_44 : decode prog_15_method_44_code 44 = .ok (.getfield 41, 3) := by decide +kernel
theorem d_15_44_47 : decode prog_15_method_44_code 47 = .ok (.ifCond .ne 28, 3) := by decide +kernel
theorem d_15_44_75 : decode prog_15_method_44_code 75 = .ok (.return_, 1) := by decide +kernel
theorem d_15_44_50 : decode prog_15_method_44_code 50 = .ok (.aload_n 0, 1) := by decide +kernel
theorem d_15_44_51 : decode prog_15_method_44_code 51 = .ok (.iconst 2, 1) := by decide +kernel
theorem d_15_44_52 : decode prog_15_method_44_code 52 = .ok (.putfield 66, 3) := by decide +kernel
theorem d_15_44_55 : decode prog_15_method_44_code 55 = .ok (.aload_n 0, 1) := by decide +kernel
theorem d_15_44_56 : decode prog_15_method_44_code 56 = .ok (.iload_n 1, 1) := by decide +kernel
theorem d_15_44_57 : decode prog_15_method_44_code 57 = .ok (.invokevirtual 132, 3) := by decide +kernel
theorem d_15_44_60 : decode prog_15_method_44_code 60 = .ok (.aload_n 0, 1) := by decide +kernel
theorem d_15_44_61 : decode prog_15_method_44_code 61 = .ok (.iload_n 3, 1) := by decide +kernel
theorem d_15_44_62 : decode prog_15_method_44_code 62 = .ok (.aload_n 0, 1) := by decide +kernel
theorem d_15_44_63 : decode prog_15_method_44_code 63 = .ok (.getfield 23, 3) := by decide +kernel
theorem d_15_44_66 : decode prog_15_method_44_code 66 = .ok (.iload_n 1, 1) := by decide +kernel
theorem d_15_44_67 : decode prog_15_method_44_code 67 = .ok (.iaload, 1) := by decide +kernel
theorem d_15_44_68 : decode prog_15_method_44_code 68 = .ok (.i2l, 1) := by decide +kernel
theorem d_15_44_69 : decode prog_15_method_44_code 69 = .ok (.iload 4, 2) := by decide +kernel
theorem d_15_44_71 : decode prog_15_method_44_code 71 = .ok (.iload_n 2, 1) := by decide +kernel
theorem d_15_44_72 : decode prog_15_method_44_code 72 = .ok (.invokevirtual 166, 3) := by decide +kernel
theorem d_15_44_35 : decode prog_15_method_44_code 35 = .ok (.iconst 1, 1) := by decide +kernel
theorem d_15_44_36 : decode prog_15_method_44_code 36 = .ok (.goto 4, 3) := by decide +kernel
theorem d_15_44_5 : decode prog_15_method_44_code 5 = .ok (.ifCond .ne 30, 3) := by decide +kernel
theorem d_15_44_8 : decode prog_15_method_44_code 8 = .ok (.iload_n 2, 1) := by decide +kernel
theorem d_15_44_9 : decode prog_15_method_44_code 9 = .ok (.invokestatic 113, 3) := by decide +kernel
theorem d_15_44_12 : decode prog_15_method_44_code 12 = .ok (.ifCond .ne 23, 3) := by decide +kernel
theorem d_15_44_15 : decode prog_15_method_44_code 15 = .ok (.iload 4, 2) := by decide +kernel
theorem d_15_44_17 : decode prog_15_method_44_code 17 = .ok (.invokestatic 147, 3) := by decide +kernel
theorem d_15_44_20 : decode prog_15_method_44_code 20 = .ok (.ifCond .ne 15, 3) := by decide +kernel
theorem d_15_44_23 : decode prog_15_method_44_code 23 = .ok (.iload_n 3, 1) := by decide +kernel
theorem d_15_44_24 : decode prog_15_method_44_code 24 = .ok (.iconst 1, 1) := by decide +kernel
theorem d_15_44_25 : decode prog_15_method_44_code 25 = .ok (.if_icmp .lt 10, 3) := by decide +kernel
theorem d_15_44_28 : decode prog_15_method_44_code 28 = .ok (.iload_n 3, 1) := by decide +kernel
theorem d_15_44_29 : decode prog_15_method_44_code 29 = .ok (.sipush 1000, 3) := by decide +kernel
theorem d_15_44_32 : decode prog_15_method_44_code 32 = .ok (.if_icmp .le 7, 3) := by decide +kernel
theorem d_15_44_39 : decode prog_15_method_44_code 39 = .ok (.iconst 0, 1) := by decide +kernel
def y_DR_round : MethodName := ⟨"NumberHouseModel$DecimalRows", "round", "(IIII)V"⟩
def F_DR_round_c72 (x2 : Int32) (x3 : Int32) (x4 : Int32) (x5 : Int32) (t0_0 : Int32) (t0_1 : Int32) (t0_2 : Int32) (t0_3 : Int64) (t0_4 : Int32) (t0_5 : Int32) (t0_6 : Int32) (t0_7 : Int32) (t0_8 : Int32) (t0_9 : Int32) (t0_10 : Int32) (t1_0 : (Nat → Int32)) (t2_0 : (Nat → Int32)) (t3_0 : (Nat → Int32)) (t4_0 : (Nat → Int32)) (t5_0 : (Nat → Int32)) (lx39 : Int32) (p103 : (Int32 × Int32 × Int32 × Int64 × Int32 × Int32 × Int32 × Int32 × Int32 × Int32 × Int32 × (Nat → Int32))) (p174 : (Int32 × Int32 × Int32 × Int64 × Int32 × Int32 × Int32 × Int32 × Int32 × Int32 × Int32 × (Nat → Int32) × (Nat → Int32) × (Nat → Int32) × (Nat → Int32) × (Nat → Int32))) : Int32 × Int32 × Int32 × Int64 × Int32 × Int32 × Int32 × Int32 × Int32 × Int32 × Int32 × (Nat → Int32) × (Nat → Int32) × (Nat → Int32) × (Nat → Int32) × (Nat → Int32) := ((p174.1 : Int32), (p174.2.1 : Int32), (p174.2.2.1 : Int32), (p174.2.2.2.1 : Int64), (p174.2.2.2.2.1 : Int32), (p174.2.2.2.2.2.1 : Int32), (p174.2.2.2.2.2.2.1 : Int32), (p174.2.2.2.2.2.2.2.1 : Int32), (p174.2.2.2.2.2.2.2.2.1 : Int32), (p174.2.2.2.2.2.2.2.2.2.1 : Int32), (p174.2.2.2.2.2.2.2.2.2.2.1 : Int32), (p174.2.2.2.2.2.2.2.2.2.2.2.1 : (Nat → Int32)), (p174.2.2.2.2.2.2.2.2.2.2.2.2.1 : (Nat → Int32)), (p174.2.2.2.2.2.2.2.2.2.2.2.2.2.1 : (Nat → Int32)), (p174.2.2.2.2.2.2.2.2.2.2.2.2.2.2.1 : (Nat → Int32)), (p174.2.2.2.2.2.2.2.2.2.2.2.2.2.2.2 : (Nat → Int32)))
def F_DR_round_c57 (x2 : Int32) (x3 : Int32) (x4 : Int32) (x5 : Int32) (t0_0 : Int32) (t0_1 : Int32) (t0_2 : Int32) (t0_3 : Int64) (t0_4 : Int32) (t0_5 : Int32) (t0_6 : Int32) (t0_7 : Int32) (t0_8 : Int32) (t0_9 : Int32) (t0_10 : Int32) (t1_0 : (Nat → Int32)) (t2_0 : (Nat → Int32)) (t3_0 : (Nat → Int32)) (t4_0 : (Nat → Int32)) (t5_0 : (Nat → Int32)) (lx39 : Int32) (p103 : (Int32 × Int32 × Int32 × Int64 × Int32 × Int32 × Int32 × Int32 × Int32 × Int32 × Int32 × (Nat → Int32))) : Int32 × Int32 × Int32 × Int64 × Int32 × Int32 × Int32 × Int32 × Int32 × Int32 × Int32 × (Nat → Int32) × (Nat → Int32) × (Nat → Int32) × (Nat → Int32) × (Nat → Int32) := F_DR_round_c72 x2 x3 x4 x5 t0_0 t0_1 t0_2 t0_3 t0_4 t0_5 t0_6 t0_7 t0_8 t0_9 t0_10 t1_0 t2_0 t3_0 t4_0 t5_0 lx39 p103 ((F_DR_toPrecision x4 ((t4_0 x2.toNatClampNeg : Int32).toInt64 : Int64) x5 x3 (p103.1 : Int32) (p103.2.1 : Int32) (p103.2.2.1 : Int32) (p103.2.2.2.1 : Int64) (p103.2.2.2.2.1 : Int32) (p103.2.2.2.2.2.1 : Int32) (p103.2.2.2.2.2.2.1 : Int32) (p103.2.2.2.2.2.2.2.1 : Int32) (p103.2.2.2.2.2.2.2.2.1 : Int32) (p103.2.2.2.2.2.2.2.2.2.1 : Int32) (p103.2.2.2.2.2.2.2.2.2.2.1 : Int32) t1_0 t2_0 t3_0 t4_0 (p103.2.2.2.2.2.2.2.2.2.2.2 : (Nat → Int32))) : (Int32 × Int32 × Int32 × Int64 × Int32 × Int32 × Int32 × Int32 × Int32 × Int32 × Int32 × (Nat → Int32) × (Nat → Int32) × (Nat → Int32) × (Nat → Int32) × (Nat → Int32)))
def F_DR_round_J40 (x2 : Int32) (x3 : Int32) (x4 : Int32) (x5 : Int32) (t0_0 : Int32) (t0_1 : Int32) (t0_2 : Int32) (t0_3 : Int64) (t0_4 : Int32) (t0_5 : Int32) (t0_6 : Int32) (t0_7 : Int32) (t0_8 : Int32) (t0_9 : Int32) (t0_10 : Int32) (t1_0 : (Nat → Int32)) (t2_0 : (Nat → Int32)) (t3_0 : (Nat → Int32)) (t4_0 : (Nat → Int32)) (t5_0 : (Nat → Int32)) (lx39 : Int32) : Int32 × Int32 × Int32 × Int64 × Int32 × Int32 × Int32 × Int32 × Int32 × Int32 × Int32 × (Nat → Int32) × (Nat → Int32) × (Nat → Int32) × (Nat → Int32) × (Nat → Int32) := if lx39 = (0 : Int32) then (F_DR_round_c57 x2 x3 x4 x5 t0_0 t0_1 t0_2 t0_3 t0_4 t0_5 t0_6 t0_7 t0_8 t0_9 t0_10 t1_0 t2_0 t3_0 t4_0 t5_0 lx39 ((F_DR_load x2 lx39 t0_1 t0_2 t0_3 t0_4 t0_5 t0_6 t0_7 t0_8 t0_9 (2 : Int32) t1_0 t2_0 t3_0 t4_0 t5_0) : (Int32 × Int32 × Int32 × Int64 × Int32 × Int32 × Int32 × Int32 × Int32 × Int32 × Int32 × (Nat → Int32)))) else ((lx39, t0_1, t0_2, t0_3, t0_4, t0_5, t0_6, t0_7, t0_8, t0_9, t0_10, t1_0, t2_0, t3_0, t4_0, t5_0))
def F_DR_round_J35 (x2 : Int32) (x3 : Int32) (x4 : Int32) (x5 : Int32) (t0_0 : Int32) (t0_1 : Int32) (t0_2 : Int32) (t0_3 : Int64) (t0_4 : Int32) (t0_5 : Int32) (t0_6 : Int32) (t0_7 : Int32) (t0_8 : Int32) (t0_9 : Int32) (t0_10 : Int32) (t1_0 : (Nat → Int32)) (t2_0 : (Nat → Int32)) (t3_0 : (Nat → Int32)) (t4_0 : (Nat → Int32)) (t5_0 : (Nat → Int32)) : Int32 × Int32 × Int32 × Int64 × Int32 × Int32 × Int32 × Int32 × Int32 × Int32 × Int32 × (Nat → Int32) × (Nat → Int32) × (Nat → Int32) × (Nat → Int32) × (Nat → Int32) := F_DR_round_J40 x2 x3 x4 x5 t0_0 t0_1 t0_2 t0_3 t0_4 t0_5 t0_6 t0_7 t0_8 t0_9 t0_10 t1_0 t2_0 t3_0 t4_0 t5_0 1
def F_DR_round (x2 : Int32) (x3 : Int32) (x4 : Int32) (x5 : Int32) (t0_0 : Int32) (t0_1 : Int32) (t0_2 : Int32) (t0_3 : Int64) (t0_4 : Int32) (t0_5 : Int32) (t0_6 : Int32) (t0_7 : Int32) (t0_8 : Int32) (t0_9 : Int32) (t0_10 : Int32) (t1_0 : (Nat → Int32)) (t2_0 : (Nat → Int32)) (t3_0 : (Nat → Int32)) (t4_0 : (Nat → Int32)) (t5_0 : (Nat → Int32)) : Int32 × Int32 × Int32 × Int64 × Int32 × Int32 × Int32 × Int32 × Int32 × Int32 × Int32 × (Nat → Int32) × (Nat → Int32) × (Nat → Int32) × (Nat → Int32) × (Nat → Int32) := if ((F_DR_no x2) : Int32) = (0 : Int32) then (if ((F_DR_no x3) : Int32) = (0 : Int32) then (if ((F_DR_noMode x5) : Int32) = (0 : Int32) then (if x4 < (1 : Int32) then (F_DR_round_J35 x2 x3 x4 x5 t0_0 t0_1 t0_2 t0_3 t0_4 t0_5 t0_6 t0_7 t0_8 t0_9 t0_10 t1_0 t2_0 t3_0 t4_0 t5_0) else (if x4 ≤ (1000 : Int32) then (F_DR_round_J40 x2 x3 x4 x5 t0_0 t0_1 t0_2 t0_3 t0_4 t0_5 t0_6 t0_7 t0_8 t0_9 t0_10 t1_0 t2_0 t3_0 t4_0 t5_0 0) else (F_DR_round_J35 x2 x3 x4 x5 t0_0 t0_1 t0_2 t0_3 t0_4 t0_5 t0_6 t0_7 t0_8 t0_9 t0_10 t1_0 t2_0 t3_0 t4_0 t5_0))) else (F_DR_round_J35 x2 x3 x4 x5 t0_0 t0_1 t0_2 t0_3 t0_4 t0_5 t0_6 t0_7 t0_8 t0_9 t0_10 t1_0 t2_0 t3_0 t4_0 t5_0)) else (F_DR_round_J35 x2 x3 x4 x5 t0_0 t0_1 t0_2 t0_3 t0_4 t0_5 t0_6 t0_7 t0_8 t0_9 t0_10 t1_0 t2_0 t3_0 t4_0 t5_0)) else (F_DR_round_J35 x2 x3 x4 x5 t0_0 t0_1 t0_2 t0_3 t0_4 t0_5 t0_6 t0_7 t0_8 t0_9 t0_10 t1_0 t2_0 t3_0 t4_0 t5_0)
def S_DR_round_c72 (x2 : Int32) (x3 : Int32) (x4 : Int32) (x5 : Int32) (t0_0 : Int32) (t0_1 : Int32) (t0_2 : Int32) (t0_3 : Int64) (t0_4 : Int32) (t0_5 : Int32) (t0_6 : Int32) (t0_7 : Int32) (t0_8 : Int32) (t0_9 : Int32) (t0_10 : Int32) (t1_0 : (Nat → Int32)) (t2_0 : (Nat → Int32)) (t3_0 : (Nat → Int32)) (t4_0 : (Nat → Int32)) (t5_0 : (Nat → Int32)) (lx39 : Int32) (p103 : (Int32 × Int32 × Int32 × Int64 × Int32 × Int32 × Int32 × Int32 × Int32 × Int32 × Int32 × (Nat → Int32))) (p174 : (Int32 × Int32 × Int32 × Int64 × Int32 × Int32 × Int32 × Int32 × Int32 × Int32 × Int32 × (Nat → Int32) × (Nat → Int32) × (Nat → Int32) × (Nat → Int32) × (Nat → Int32))) : Prop := True
def S_DR_round_c57 (x2 : Int32) (x3 : Int32) (x4 : Int32) (x5 : Int32) (t0_0 : Int32) (t0_1 : Int32) (t0_2 : Int32) (t0_3 : Int64) (t0_4 : Int32) (t0_5 : Int32) (t0_6 : Int32) (t0_7 : Int32) (t0_8 : Int32) (t0_9 : Int32) (t0_10 : Int32) (t1_0 : (Nat → Int32)) (t2_0 : (Nat → Int32)) (t3_0 : (Nat → Int32)) (t4_0 : (Nat → Int32)) (t5_0 : (Nat → Int32)) (lx39 : Int32) (p103 : (Int32 × Int32 × Int32 × Int64 × Int32 × Int32 × Int32 × Int32 × Int32 × Int32 × Int32 × (Nat → Int32))) : Prop := (True ∧ S_DR_toPrecision x4 ((t4_0 x2.toNatClampNeg : Int32).toInt64 : Int64) x5 x3 (p103.1 : Int32) (p103.2.1 : Int32) (p103.2.2.1 : Int32) (p103.2.2.2.1 : Int64) (p103.2.2.2.2.1 : Int32) (p103.2.2.2.2.2.1 : Int32) (p103.2.2.2.2.2.2.1 : Int32) (p103.2.2.2.2.2.2.2.1 : Int32) (p103.2.2.2.2.2.2.2.2.1 : Int32) (p103.2.2.2.2.2.2.2.2.2.1 : Int32) (p103.2.2.2.2.2.2.2.2.2.2.1 : Int32) t1_0 t2_0 t3_0 t4_0 (p103.2.2.2.2.2.2.2.2.2.2.2 : (Nat → Int32))) ∧ (S_DR_round_c72 x2 x3 x4 x5 t0_0 t0_1 t0_2 t0_3 t0_4 t0_5 t0_6 t0_7 t0_8 t0_9 t0_10 t1_0 t2_0 t3_0 t4_0 t5_0 lx39 p103 ((F_DR_toPrecision x4 ((t4_0 x2.toNatClampNeg : Int32).toInt64 : Int64) x5 x3 (p103.1 : Int32) (p103.2.1 : Int32) (p103.2.2.1 : Int32) (p103.2.2.2.1 : Int64) (p103.2.2.2.2.1 : Int32) (p103.2.2.2.2.2.1 : Int32) (p103.2.2.2.2.2.2.1 : Int32) (p103.2.2.2.2.2.2.2.1 : Int32) (p103.2.2.2.2.2.2.2.2.1 : Int32) (p103.2.2.2.2.2.2.2.2.2.1 : Int32) (p103.2.2.2.2.2.2.2.2.2.2.1 : Int32) t1_0 t2_0 t3_0 t4_0 (p103.2.2.2.2.2.2.2.2.2.2.2 : (Nat → Int32))) : (Int32 × Int32 × Int32 × Int64 × Int32 × Int32 × Int32 × Int32 × Int32 × Int32 × Int32 × (Nat → Int32) × (Nat → Int32) × (Nat → Int32) × (Nat → Int32) × (Nat → Int32))))
def S_DR_round_J40 (x2 : Int32) (x3 : Int32) (x4 : Int32) (x5 : Int32) (t0_0 : Int32) (t0_1 : Int32) (t0_2 : Int32) (t0_3 : Int64) (t0_4 : Int32) (t0_5 : Int32) (t0_6 : Int32) (t0_7 : Int32) (t0_8 : Int32) (t0_9 : Int32) (t0_10 : Int32) (t1_0 : (Nat → Int32)) (t2_0 : (Nat → Int32)) (t3_0 : (Nat → Int32)) (t4_0 : (Nat → Int32)) (t5_0 : (Nat → Int32)) (lx39 : Int32) : Prop := if lx39 = (0 : Int32) then ((True ∧ S_DR_load x2 lx39 t0_1 t0_2 t0_3 t0_4 t0_5 t0_6 t0_7 t0_8 t0_9 (2 : Int32) t1_0 t2_0 t3_0 t4_0 t5_0) ∧ (S_DR_round_c57 x2 x3 x4 x5 t0_0 t0_1 t0_2 t0_3 t0_4 t0_5 t0_6 t0_7 t0_8 t0_9 t0_10 t1_0 t2_0 t3_0 t4_0 t5_0 lx39 ((F_DR_load x2 lx39 t0_1 t0_2 t0_3 t0_4 t0_5 t0_6 t0_7 t0_8 t0_9 (2 : Int32) t1_0 t2_0 t3_0 t4_0 t5_0) : (Int32 × Int32 × Int32 × Int64 × Int32 × Int32 × Int32 × Int32 × Int32 × Int32 × Int32 × (Nat → Int32))))) else (True)
def S_DR_round_J35 (x2 : Int32) (x3 : Int32) (x4 : Int32) (x5 : Int32) (t0_0 : Int32) (t0_1 : Int32) (t0_2 : Int32) (t0_3 : Int64) (t0_4 : Int32) (t0_5 : Int32) (t0_6 : Int32) (t0_7 : Int32) (t0_8 : Int32) (t0_9 : Int32) (t0_10 : Int32) (t1_0 : (Nat → Int32)) (t2_0 : (Nat → Int32)) (t3_0 : (Nat → Int32)) (t4_0 : (Nat → Int32)) (t5_0 : (Nat → Int32)) : Prop := S_DR_round_J40 x2 x3 x4 x5 t0_0 t0_1 t0_2 t0_3 t0_4 t0_5 t0_6 t0_7 t0_8 t0_9 t0_10 t1_0 t2_0 t3_0 t4_0 t5_0 1
def S_DR_round (x2 : Int32) (x3 : Int32) (x4 : Int32) (x5 : Int32) (t0_0 : Int32) (t0_1 : Int32) (t0_2 : Int32) (t0_3 : Int64) (t0_4 : Int32) (t0_5 : Int32) (t0_6 : Int32) (t0_7 : Int32) (t0_8 : Int32) (t0_9 : Int32) (t0_10 : Int32) (t1_0 : (Nat → Int32)) (t2_0 : (Nat → Int32)) (t3_0 : (Nat → Int32)) (t4_0 : (Nat → Int32)) (t5_0 : (Nat → Int32)) : Prop := if ((F_DR_no x2) : Int32) = (0 : Int32) then (if ((F_DR_no x3) : Int32) = (0 : Int32) then (if ((F_DR_noMode x5) : Int32) = (0 : Int32) then (if x4 < (1 : Int32) then (S_DR_round_J35 x2 x3 x4 x5 t0_0 t0_1 t0_2 t0_3 t0_4 t0_5 t0_6 t0_7 t0_8 t0_9 t0_10 t1_0 t2_0 t3_0 t4_0 t5_0) else (if x4 ≤ (1000 : Int32) then (S_DR_round_J40 x2 x3 x4 x5 t0_0 t0_1 t0_2 t0_3 t0_4 t0_5 t0_6 t0_7 t0_8 t0_9 t0_10 t1_0 t2_0 t3_0 t4_0 t5_0 0) else (S_DR_round_J35 x2 x3 x4 x5 t0_0 t0_1 t0_2 t0_3 t0_4 t0_5 t0_6 t0_7 t0_8 t0_9 t0_10 t1_0 t2_0 t3_0 t4_0 t5_0))) else (S_DR_round_J35 x2 x3 x4 x5 t0_0 t0_1 t0_2 t0_3 t0_4 t0_5 t0_6 t0_7 t0_8 t0_9 t0_10 t1_0 t2_0 t3_0 t4_0 t5_0)) else (S_DR_round_J35 x2 x3 x4 x5 t0_0 t0_1 t0_2 t0_3 t0_4 t0_5 t0_6 t0_7 t0_8 t0_9 t0_10 t1_0 t2_0 t3_0 t4_0 t5_0)) else (S_DR_round_J35 x2 x3 x4 x5 t0_0 t0_1 t0_2 t0_3 t0_4 t0_5 t0_6 t0_7 t0_8 t0_9 t0_10 t1_0 t2_0 t3_0 t4_0 t5_0)
set_option maxRecDepth 100000 in
set_option maxHeartbeats 4000000 in
theorem X_DR_round (l : Launch) (D : va_G) (g : Nat → ClassId) (q : Nat → Nat) (ws : va_W) (x2 : Int32) (x3 : Int32) (x4 : Int32) (x5 : Int32) (hI : q_I (msh g q) q ws) (t0_0 : Int32) (t0_1 : Int32) (t0_2 : Int32) (t0_3 : Int64) (t0_4 : Int32) (t0_5 : Int32) (t0_6 : Int32) (t0_7 : Int32) (t0_8 : Int32) (t0_9 : Int32) (t0_10 : Int32) (hT0 : ws[134]? = (some (q 134, .inr (14, [.int t0_0, .ref (q 135), .int t0_1, .ref (q 136), .ref (q 137), .ref (q 138), .ref (q 139), .ref (q 140), .int t0_2, .long t0_3, .int t0_4, .int t0_5, .ref (q 141), .int t0_6, .ref (q 142), .int t0_7, .ref (q 143), .int t0_8, .ref (q 144), .int t0_9, .int t0_10])) : Option (Nat × va_E))) (t1_0 : (Nat → Int32)) (hT1 : ws[136]? = (some (q 136, .inl (g 0, (10000 : Int32).toNatClampNeg, .inl t1_0)) : Option (Nat × va_E))) (t2_0 : (Nat → Int32)) (hT2 : ws[137]? = (some (q 137, .inl (g 0, (10 : Int32).toNatClampNeg, .inl t2_0)) : Option (Nat × va_E))) (t3_0 : (Nat → Int32)) (hT3 : ws[138]? = (some (q 138, .inl (g 3, 10, .inl t3_0)) : Option (Nat × va_E))) (t4_0 : (Nat → Int32)) (hT4 : ws[139]? = (some (q 139, .inl (g 0, (10 : Int32).toNatClampNeg, .inl t4_0)) : Option (Nat × va_E))) (t5_0 : (Nat → Int32)) (hT5 : ws[140]? = (some (q 140, .inl (g 0, (4400 : Int32).toNatClampNeg, .inl t5_0)) : Option (Nat × va_E))) (hS : True ∧ S_DR_round x2 x3 x4 x5 t0_0 t0_1 t0_2 t0_3 t0_4 t0_5 t0_6 t0_7 t0_8 t0_9 t0_10 t1_0 t2_0 t3_0 t4_0 t5_0) : q_mV l y_DR_round prog_15_method_44_code 5 5 0 0 D g [.ref (q 134), .int x2, .int x3, .int x4, .int x5] ws (fun u => q_I (msh g q) q u ∧ q_un ws u [134, 136, 137, 138, 139, 140] ∧ ∃ (u0_0 : Int32) (u0_1 : Int32) (u0_2 : Int32) (u0_3 : Int64) (u0_4 : Int32) (u0_5 : Int32) (u0_6 : Int32) (u0_7 : Int32) (u0_8 : Int32) (u0_9 : Int32) (u0_10 : Int32) (u1_0 : (Nat → Int32)) (u2_0 : (Nat → Int32)) (u3_0 : (Nat → Int32)) (u4_0 : (Nat → Int32)) (u5_0 : (Nat → Int32)), u[134]? = (some (q 134, .inr (14, [.int u0_0, .ref (q 135), .int u0_1, .ref (q 136), .ref (q 137), .ref (q 138), .ref (q 139), .ref (q 140), .int u0_2, .long u0_3, .int u0_4, .int u0_5, .ref (q 141), .int u0_6, .ref (q 142), .int u0_7, .ref (q 143), .int u0_8, .ref (q 144), .int u0_9, .int u0_10])) : Option (Nat × va_E)) ∧ u[136]? = (some (q 136, .inl (g 0, (10000 : Int32).toNatClampNeg, .inl u1_0)) : Option (Nat × va_E)) ∧ u[137]? = (some (q 137, .inl (g 0, (10 : Int32).toNatClampNeg, .inl u2_0)) : Option (Nat × va_E)) ∧ u[138]? = (some (q 138, .inl (g 3, 10, .inl u3_0)) : Option (Nat × va_E)) ∧ u[139]? = (some (q 139, .inl (g 0, (10 : Int32).toNatClampNeg, .inl u4_0)) : Option (Nat × va_E)) ∧ u[140]? = (some (q 140, .inl (g 0, (4400 : Int32).toNatClampNeg, .inl u5_0)) : Option (Nat × va_E)) ∧ (0 ≤ u0_4.toInt) ∧ (0 ≤ u0_5.toInt) ∧ (u0_5.toInt ≤ 1) ∧ (t0_1.toInt ≤ u0_1.toInt) ∧ (u0_1.toInt ≤ t0_1.toInt) ∧ (u0_4.toInt ≤ t0_4.toInt) ∧ (t0_6.toInt ≤ u0_6.toInt) ∧ (u0_6.toInt ≤ t0_6.toInt) ∧ (t0_7.toInt ≤ u0_7.toInt) ∧ (u0_7.toInt ≤ t0_7.toInt) ∧ (t0_8.toInt ≤ u0_8.toInt) ∧ (u0_8.toInt ≤ t0_8.toInt) ∧ (t0_9.toInt ≤ u0_9.toInt) ∧ (u0_9.toInt ≤ t0_9.toInt) ∧ (u0_0, u0_1, u0_2, u0_3, u0_4, u0_5, u0_6, u0_7, u0_8, u0_9, u0_10, u1_0, u2_0, u3_0, u4_0, u5_0) = (F_DR_round x2 x3 x4 x5 t0_0 t0_1 t0_2 t0_3 t0_4 t0_5 t0_6 t0_7 t0_8 t0_9 t0_10 t1_0 t2_0 t3_0 t4_0 t5_0)) := by
  intro sz
  refine q_into (by decide) (Nat.le_of_ble_eq_true rfl) ?_
  intro p e s m below meth c ls hsz C0 V hl
  have hx := C0.1
  have hb := C0.2.1
  obtain ⟨btt0_1, hZ9⟩ := n_w134 hI hT0
  obtain ⟨btt0_4, hZ9⟩ := hZ9
  obtain ⟨btt0_5, btt0_9⟩ := hZ9
  replace btt0_1 : q_F (0 ≤ t0_1.toInt ∧ t0_1.toInt ≤ 4100) := btt0_1
  replace btt0_4 : q_F (0 ≤ t0_4.toInt ∧ t0_4.toInt ≤ 1) := btt0_4
  replace btt0_5 : q_F (0 ≤ t0_5.toInt ∧ t0_5.toInt ≤ 1) := btt0_5
  replace btt0_9 : q_F (0 ≤ t0_9.toInt ∧ t0_9.toInt ≤ 12200) := btt0_9
  have hF : q_un ws ws [134, 136, 137, 138, 139, 140] := q_u0
  have hl : lv_has ls 5 [(0, .ref (q 134)), (1, .int x2), (2, .int x3), (3, .int x4), (4, .int x5)] := hl
  refine lv_aload_n hx hb d_15_44_0 rfl (lv_at hl 0 rfl) ?_
  refine lv_iload_n hx hb d_15_44_1 rfl (lv_at hl 1 rfl) ?_
  refine q_goi V (q_runS (As := [.int x2]) (rest := [.ref (q 134)]) (d := 1) (mc := 0) (ms := 0) C0 V rfl LS_DR_113 (X_DR_no l D g q ws  x2 hI   _) rfl hl.1 rfl (Nat.le_of_ble_eq_true rfl) ⟨by decide, by decide⟩ ⟨Nat.le_of_ble_eq_true rfl, Nat.le_of_ble_eq_true rfl⟩ d_15_44_2) (fun a34 u32 H locs hp33 V => ?_)
  obtain ⟨rfl, b35, b36, hE37⟩ := hp33
  have e38 : a34 = (F_DR_no x2) := hE37
  clear b35
  clear b36
  refine q_join (X := Int32) (fun z H locs ls _ => q_F (0 ≤ z.toInt) ∧ q_F (z.toInt ≤ 1) ∧ q_Wd D g (va_A ws sz) s ws H locs ∧ lv_has ls 5 [(0, .ref (q 134)), (1, .int x2), (2, .int x3), (3, .int x4), (4, .int x5)] ∧ F_DR_round_J40 x2 x3 x4 x5 t0_0 t0_1 t0_2 t0_3 t0_4 t0_5 t0_6 t0_7 t0_8 t0_9 t0_10 t1_0 t2_0 t3_0 t4_0 t5_0 z = (F_DR_round x2 x3 x4 x5 t0_0 t0_1 t0_2 t0_3 t0_4 t0_5 t0_6 t0_7 t0_8 t0_9 t0_10 t1_0 t2_0 t3_0 t4_0 t5_0) ∧ True ∧ S_DR_round_J40 x2 x3 x4 x5 t0_0 t0_1 t0_2 t0_3 t0_4 t0_5 t0_6 t0_7 t0_8 t0_9 t0_10 t1_0 t2_0 t3_0 t4_0 t5_0 z) (fun z => [.int z, .ref (q 134)]) 40 0 0 ?_ ?_
  ·
    rintro lx39 H locs ls _ hZ9
    replace hZ9 := hZ9.2.2
    obtain ⟨V, hZ9⟩ := hZ9
    obtain ⟨hl, hZ9⟩ := hZ9
    obtain ⟨hR49, hS50⟩ := hZ9
    replace hl : lv_has ls 5 [(0, .ref (q 134)), (1, .int x2), (2, .int x3), (3, .int x4), (4, .int x5)] := hl
    refine q_put (ci := 14) (j := 0) (v := .int lx39) (ty := .int) C0 V i_DR o_DR n_DR rfl rfl hT0 (by decide) w_1996 rfl rfl rfl rfl (Nat.le_of_ble_eq_true rfl) d_15_44_40 (fun H locs w54 hu55 hT0 V => ?_)
    replace hT0 : w54[134]? = (some (q 134, .inr (14, [.int lx39, .ref (q 135), .int t0_1, .ref (q 136), .ref (q 137), .ref (q 138), .ref (q 139), .ref (q 140), .int t0_2, .long t0_3, .int t0_4, .int t0_5, .ref (q 141), .int t0_6, .ref (q 142), .int t0_7, .ref (q 143), .int t0_8, .ref (q 144), .int t0_9, .int t0_10])) : Option (Nat × va_E)) := hT0
    replace hI := n_p134 hI hu55 hT0 (by first | with_reducible exact q_fe btt0_1 | exact ⟨(by have t1 : 0 ≤ t0_1.toInt ∧ t0_1.toInt ≤ 4100 := btt0_1; omega), (by have t1 : 0 ≤ t0_1.toInt ∧ t0_1.toInt ≤ 4100 := btt0_1; omega)⟩) (by first | with_reducible exact q_fe btt0_4 | exact ⟨(by have t1 : 0 ≤ t0_4.toInt ∧ t0_4.toInt ≤ 1 := btt0_4; omega), (by have t1 : 0 ≤ t0_4.toInt ∧ t0_4.toInt ≤ 1 := btt0_4; omega)⟩) (by first | with_reducible exact q_fe btt0_5 | exact ⟨(by have t1 : 0 ≤ t0_5.toInt ∧ t0_5.toInt ≤ 1 := btt0_5; omega), (by have t1 : 0 ≤ t0_5.toInt ∧ t0_5.toInt ≤ 1 := btt0_5; omega)⟩) (by first | with_reducible exact q_fe btt0_9 | exact ⟨(by have t1 : 0 ≤ t0_9.toInt ∧ t0_9.toInt ≤ 12200 := btt0_9; omega), (by have t1 : 0 ≤ t0_9.toInt ∧ t0_9.toInt ≤ 12200 := btt0_9; omega)⟩)
    replace hT1 := (hu55 _ (by decide)).trans hT1
    replace hT2 := (hu55 _ (by decide)).trans hT2
    replace hT3 := (hu55 _ (by decide)).trans hT3
    replace hT4 := (hu55 _ (by decide)).trans hT4
    replace hT5 := (hu55 _ (by decide)).trans hT5
    replace hF := q_us hF hu55 (by simp)
    refine lv_aload_n hx hb d_15_44_43 rfl (lv_at hl 0 rfl) ?_
    refine q_get (ci := 14) (j := 0) (v := .int lx39) C0 V i_DR rfl rfl hT0 (by decide) w_1996 rfl d_15_44_44 ?_
    refine lv_if_ne (tgt := 75) hx hb d_15_44_47 (by decide) (fun c56 => ?_) (fun c56 => ?_)
    ·
      exact q_retv C0 V (⟨hI, hF, lx39, t0_1, t0_2, t0_3, t0_4, t0_5, t0_6, t0_7, t0_8, t0_9, t0_10, t1_0, t2_0, t3_0, t4_0, t5_0, hT0, hT1, hT2, hT3, hT4, hT5, (show 0 ≤ t0_4.toInt from (by first | with_reducible exact (q_fe btt0_4).2 | with_reducible exact (q_fe btt0_4).1 | (have t1 : 0 ≤ t0_4.toInt ∧ t0_4.toInt ≤ 1 := btt0_4; omega))), (show 0 ≤ t0_5.toInt from (by first | with_reducible exact (q_fe btt0_5).2 | with_reducible exact (q_fe btt0_5).1 | (have t1 : 0 ≤ t0_5.toInt ∧ t0_5.toInt ≤ 1 := btt0_5; omega))), (show t0_5.toInt ≤ 1 from (by first | with_reducible exact (q_fe btt0_5).2 | with_reducible exact (q_fe btt0_5).1 | (have t1 : 0 ≤ t0_5.toInt ∧ t0_5.toInt ≤ 1 := btt0_5; omega))), (show t0_1.toInt ≤ t0_1.toInt from (by omega)), (show t0_1.toInt ≤ t0_1.toInt from (by omega)), (show t0_4.toInt ≤ t0_4.toInt from (by omega)), (show t0_6.toInt ≤ t0_6.toInt from (by omega)), (show t0_6.toInt ≤ t0_6.toInt from (by omega)), (show t0_7.toInt ≤ t0_7.toInt from (by omega)), (show t0_7.toInt ≤ t0_7.toInt from (by omega)), (show t0_8.toInt ≤ t0_8.toInt from (by omega)), (show t0_8.toInt ≤ t0_8.toInt from (by omega)), (show t0_9.toInt ≤ t0_9.toInt from (by omega)), (show t0_9.toInt ≤ t0_9.toInt from (by omega)), (show (lx39, t0_1, t0_2, t0_3, t0_4, t0_5, t0_6, t0_7, t0_8, t0_9, t0_10, t1_0, t2_0, t3_0, t4_0, t5_0) = (F_DR_round x2 x3 x4 x5 t0_0 t0_1 t0_2 t0_3 t0_4 t0_5 t0_6 t0_7 t0_8 t0_9 t0_10 t1_0 t2_0 t3_0 t4_0 t5_0) from Eq.trans (by rw [F_DR_round_J40.eq_1, if_neg c56]) hR49)⟩) d_15_44_75
    ·
      refine lv_aload_n hx hb d_15_44_50 rfl (lv_at hl 0 rfl) ?_
      refine lv_iconst (v := 2) hx hb d_15_44_51 (by decide) ?_
      refine q_put (ci := 14) (j := 20) (v := .int 2) (ty := .int) C0 V i_DR o_DR n_DR rfl rfl hT0 (by decide) w_2024 rfl rfl rfl rfl (Nat.le_of_ble_eq_true rfl) d_15_44_52 (fun H locs w59 hu60 hT0 V => ?_)
      replace hT0 : w59[134]? = (some (q 134, .inr (14, [.int lx39, .ref (q 135), .int t0_1, .ref (q 136), .ref (q 137), .ref (q 138), .ref (q 139), .ref (q 140), .int t0_2, .long t0_3, .int t0_4, .int t0_5, .ref (q 141), .int t0_6, .ref (q 142), .int t0_7, .ref (q 143), .int t0_8, .ref (q 144), .int t0_9, .int 2])) : Option (Nat × va_E)) := hT0
      replace hI := n_p134 hI hu60 hT0 (by first | with_reducible exact q_fe btt0_1 | exact ⟨(by have t1 : 0 ≤ t0_1.toInt ∧ t0_1.toInt ≤ 4100 := btt0_1; omega), (by have t1 : 0 ≤ t0_1.toInt ∧ t0_1.toInt ≤ 4100 := btt0_1; omega)⟩) (by first | with_reducible exact q_fe btt0_4 | exact ⟨(by have t1 : 0 ≤ t0_4.toInt ∧ t0_4.toInt ≤ 1 := btt0_4; omega), (by have t1 : 0 ≤ t0_4.toInt ∧ t0_4.toInt ≤ 1 := btt0_4; omega)⟩) (by first | with_reducible exact q_fe btt0_5 | exact ⟨(by have t1 : 0 ≤ t0_5.toInt ∧ t0_5.toInt ≤ 1 := btt0_5; omega), (by have t1 : 0 ≤ t0_5.toInt ∧ t0_5.toInt ≤ 1 := btt0_5; omega)⟩) (by first | with_reducible exact q_fe btt0_9 | exact ⟨(by have t1 : 0 ≤ t0_9.toInt ∧ t0_9.toInt ≤ 12200 := btt0_9; omega), (by have t1 : 0 ≤ t0_9.toInt ∧ t0_9.toInt ≤ 12200 := btt0_9; omega)⟩)
      replace hT1 := (hu60 _ (by decide)).trans hT1
      replace hT2 := (hu60 _ (by decide)).trans hT2
      replace hT3 := (hu60 _ (by decide)).trans hT3
      replace hT4 := (hu60 _ (by decide)).trans hT4
      replace hT5 := (hu60 _ (by decide)).trans hT5
      replace hF := q_us hF hu60 (by simp)
      refine lv_aload_n hx hb d_15_44_55 rfl (lv_at hl 0 rfl) ?_
      refine lv_iload_n hx hb d_15_44_56 rfl (lv_at hl 1 rfl) ?_
      have ob61 : True ∧ S_DR_load x2 lx39 t0_1 t0_2 t0_3 t0_4 t0_5 t0_6 t0_7 t0_8 t0_9 (2 : Int32) t1_0 t2_0 t3_0 t4_0 t5_0 := (by have h := hS50; rw [S_DR_round_J40.eq_1] at h; rw [if_pos c56] at h; with_reducible exact h.2.1)
      refine q_gov V (q_runV (As := [.int x2]) (rest := []) (d := 1) (mc := 0) (ms := 0) (ci := 14) C0 V rfl LV_DR_132 (X_DR_load l D g q w59  x2 hI lx39 t0_1 t0_2 t0_3 t0_4 t0_5 t0_6 t0_7 t0_8 t0_9 2 hT0 t1_0 hT1 t2_0 hT2 t3_0 hT3 t4_0 hT4 t5_0 hT5 ob61 _) rfl rfl hT0 rfl hl.1 rfl (Nat.le_of_ble_eq_true rfl) ⟨by decide, by decide⟩ ⟨Nat.le_of_ble_eq_true rfl, Nat.le_of_ble_eq_true rfl⟩ d_15_44_57) (fun u62 H locs hp63 V => ?_)
      obtain ⟨hI, hZ9⟩ := hp63
      obtain ⟨hu102, hZ9⟩ := hZ9
      obtain ⟨y65, hZ9⟩ := hZ9
      obtain ⟨y66, hZ9⟩ := hZ9
      obtain ⟨y67, hZ9⟩ := hZ9
      obtain ⟨y68, hZ9⟩ := hZ9
      obtain ⟨y69, hZ9⟩ := hZ9
      obtain ⟨y70, hZ9⟩ := hZ9
      obtain ⟨y71, hZ9⟩ := hZ9
      obtain ⟨y72, hZ9⟩ := hZ9
      obtain ⟨y73, hZ9⟩ := hZ9
      obtain ⟨y74, hZ9⟩ := hZ9
      obtain ⟨y75, hZ9⟩ := hZ9
      obtain ⟨f76, hZ9⟩ := hZ9
      obtain ⟨hO64, hZ9⟩ := hZ9
      obtain ⟨hA77, hZ9⟩ := hZ9
      replace hZ9 := hZ9.2.2
      obtain ⟨b80, hZ9⟩ := hZ9
      obtain ⟨b81, hZ9⟩ := hZ9
      replace hZ9 := hZ9.2.2
      obtain ⟨b84, hZ9⟩ := hZ9
      obtain ⟨b85, hZ9⟩ := hZ9
      obtain ⟨b86, hZ9⟩ := hZ9
      obtain ⟨b87, hZ9⟩ := hZ9
      obtain ⟨b88, hZ9⟩ := hZ9
      obtain ⟨b89, hZ9⟩ := hZ9
      obtain ⟨b90, hZ9⟩ := hZ9
      obtain ⟨b91, hZ9⟩ := hZ9
      obtain ⟨b92, hZ9⟩ := hZ9
      obtain ⟨b93, hZ9⟩ := hZ9
      obtain ⟨b94, hZ9⟩ := hZ9
      obtain ⟨b95, hZ9⟩ := hZ9
      replace hZ9 := hZ9.2.2.2
      obtain ⟨b99, hZ9⟩ := hZ9
      obtain ⟨-, hE101⟩ := hZ9
      replace hO64 : u62[134]? = (some (q 134, .inr (14, [.int y65, .ref (q 135), .int y66, .ref (q 136), .ref (q 137), .ref (q 138), .ref (q 139), .ref (q 140), .int y67, .long y68, .int y69, .int y70, .ref (q 141), .int y71, .ref (q 142), .int y72, .ref (q 143), .int y73, .ref (q 144), .int y74, .int y75])) : Option (Nat × va_E)) := hO64
      replace hA77 : u62[140]? = (some (q 140, .inl (g 0, (4400 : Int32).toNatClampNeg, .inl f76)) : Option (Nat × va_E)) := hA77
      obtain ⟨p103, e104⟩ : ∃ z, z = (F_DR_load x2 lx39 t0_1 t0_2 t0_3 t0_4 t0_5 t0_6 t0_7 t0_8 t0_9 (2 : Int32) t1_0 t2_0 t3_0 t4_0 t5_0) := ⟨_, rfl⟩
      have e105 : y65 = p103.1 := congrArg (fun z => z.1) (hE101.trans e104.symm)
      have e106 : y66 = p103.2.1 := congrArg (fun z => z.2.1) (hE101.trans e104.symm)
      have e107 : y67 = p103.2.2.1 := congrArg (fun z => z.2.2.1) (hE101.trans e104.symm)
      have e108 : y68 = p103.2.2.2.1 := congrArg (fun z => z.2.2.2.1) (hE101.trans e104.symm)
      have e109 : y69 = p103.2.2.2.2.1 := congrArg (fun z => z.2.2.2.2.1) (hE101.trans e104.symm)
      have e110 : y70 = p103.2.2.2.2.2.1 := congrArg (fun z => z.2.2.2.2.2.1) (hE101.trans e104.symm)
      have e111 : y71 = p103.2.2.2.2.2.2.1 := congrArg (fun z => z.2.2.2.2.2.2.1) (hE101.trans e104.symm)
      have e112 : y72 = p103.2.2.2.2.2.2.2.1 := congrArg (fun z => z.2.2.2.2.2.2.2.1) (hE101.trans e104.symm)
      have e113 : y73 = p103.2.2.2.2.2.2.2.2.1 := congrArg (fun z => z.2.2.2.2.2.2.2.2.1) (hE101.trans e104.symm)
      have e114 : y74 = p103.2.2.2.2.2.2.2.2.2.1 := congrArg (fun z => z.2.2.2.2.2.2.2.2.2.1) (hE101.trans e104.symm)
      have e115 : y75 = p103.2.2.2.2.2.2.2.2.2.2.1 := congrArg (fun z => z.2.2.2.2.2.2.2.2.2.2.1) (hE101.trans e104.symm)
      have e116 : f76 = p103.2.2.2.2.2.2.2.2.2.2.2 := congrArg (fun z => z.2.2.2.2.2.2.2.2.2.2.2) (hE101.trans e104.symm)
      replace b80 : q_F (0 ≤ y69.toInt) := b80
      replace b81 : q_F (y69.toInt ≤ 0) := b81
      replace b84 : q_F (t0_1.toInt ≤ y66.toInt) := b84
      replace b85 : q_F (y66.toInt ≤ t0_1.toInt) := b85
      replace b86 : q_F (x2.toInt ≤ y69.toInt + 9) := b86
      replace b87 : q_F (y69.toInt ≤ x2.toInt) := b87
      replace b88 : q_F (t0_6.toInt ≤ y71.toInt) := b88
      replace b89 : q_F (y71.toInt ≤ t0_6.toInt) := b89
      replace b90 : q_F (t0_7.toInt ≤ y72.toInt) := b90
      replace b91 : q_F (y72.toInt ≤ t0_7.toInt) := b91
      replace b92 : q_F (t0_8.toInt ≤ y73.toInt) := b92
      replace b93 : q_F (y73.toInt ≤ t0_8.toInt) := b93
      replace b94 : q_F (t0_9.toInt ≤ y74.toInt) := b94
      replace b95 : q_F (y74.toInt ≤ t0_9.toInt) := b95
      replace b99 : q_F (y70.toInt ≤ y69.toInt + 1) := b99
      replace hT1 := (hu102 _ (by decide)).trans hT1
      replace hT2 := (hu102 _ (by decide)).trans hT2
      replace hT3 := (hu102 _ (by decide)).trans hT3
      replace hT4 := (hu102 _ (by decide)).trans hT4
      replace hF := q_uc hF hu102 (by simp)
      have hR117 := (show F_DR_round_c57 x2 x3 x4 x5 t0_0 t0_1 t0_2 t0_3 t0_4 t0_5 t0_6 t0_7 t0_8 t0_9 t0_10 t1_0 t2_0 t3_0 t4_0 t5_0 lx39 p103 = (F_DR_round x2 x3 x4 x5 t0_0 t0_1 t0_2 t0_3 t0_4 t0_5 t0_6 t0_7 t0_8 t0_9 t0_10 t1_0 t2_0 t3_0 t4_0 t5_0) from Eq.trans (by rw [e104, F_DR_round_J40.eq_1, if_pos c56]) hR49)
      have hS118 := (show True ∧ S_DR_round_c57 x2 x3 x4 x5 t0_0 t0_1 t0_2 t0_3 t0_4 t0_5 t0_6 t0_7 t0_8 t0_9 t0_10 t1_0 t2_0 t3_0 t4_0 t5_0 lx39 p103 from (by rw [e104]; have h := hS50; rw [S_DR_round_J40.eq_1] at h; rw [if_pos c56] at h; replace h := q_s2 h; with_reducible exact h))
      refine lv_aload_n hx hb d_15_44_60 rfl (lv_at hl 0 rfl) ?_
      refine lv_iload_n hx hb d_15_44_61 rfl (lv_at hl 3 rfl) ?_
      refine lv_aload_n hx hb d_15_44_62 rfl (lv_at hl 0 rfl) ?_
      refine q_get (ci := 14) (j := 6) (v := .ref (q 139)) C0 V i_DR rfl rfl hO64 (by decide) w_2008 rfl d_15_44_63 ?_
      refine lv_iload_n hx hb d_15_44_66 rfl (lv_at hl 1 rfl) ?_
      refine q_iald C0 V hT4 (q_ix (x := x2.toInt) rfl (by have t1 : 0 ≤ y69.toInt := b80; have t2 : y69.toInt ≤ x2.toInt := b87; omega) (by have t1 : 0 ≤ y69.toInt := b80; have t2 : y69.toInt ≤ x2.toInt := b87; have t3 : y69.toInt ≤ 0 := b81; have t4 : x2.toInt ≤ y69.toInt + 9 := b86; have e9 : (((10 : Int32).toNatClampNeg : Nat) : Int) = 10 := (by decide); omega)) d_15_44_67 ?_
      obtain ⟨a122, e123⟩ := q_nm (t4_0 x2.toNatClampNeg : Int32)
      refine q_ti (v := a122) e123 ?_
      refine lv_i2l hx hb d_15_44_68 rfl ?_
      obtain ⟨j124, e125⟩ := q_nm (a122.toInt64 : Int64)
      refine q_tl (v := j124) e125 ?_
      refine lv_iload hx hb d_15_44_69 (lv_at hl 4 rfl) ?_
      refine lv_iload_n hx hb d_15_44_71 rfl (lv_at hl 2 rfl) ?_
      have ob127 : True ∧ S_DR_toPrecision x4 j124 x5 x3 y65 y66 y67 y68 y69 y70 y71 y72 y73 y74 y75 t1_0 t2_0 t3_0 t4_0 f76 := (by rw [← e125, ← e123, e116, e115, e114, e113, e112, e111, e110, e109, e108, e107, e106, e105]; have h := hS118; rw [S_DR_round_c57.eq_1] at h; with_reducible exact h.2.1)
      refine q_gov V (q_runV (As := [.int x4, .long j124, .int x5, .int x3]) (rest := []) (d := 4) (mc := 0) (ms := 0) (ci := 14) C0 V rfl LV_DR_166 (X_DR_toPrecision l D g q u62  x4 j124 x5 x3 hI y65 y66 y67 y68 y69 y70 y71 y72 y73 y74 y75 hO64 t1_0 hT1 t2_0 hT2 t3_0 hT3 t4_0 hT4 f76 hA77 ob127 _) rfl rfl hO64 rfl hl.1 rfl (Nat.le_of_ble_eq_true rfl) ⟨by decide, by decide⟩ ⟨Nat.le_of_ble_eq_true rfl, Nat.le_of_ble_eq_true rfl⟩ d_15_44_72) (fun u128 H locs hp129 V => ?_)
      obtain ⟨hI, hZ9⟩ := hp129
      obtain ⟨hu173, hZ9⟩ := hZ9
      obtain ⟨y131, hZ9⟩ := hZ9
      obtain ⟨y132, hZ9⟩ := hZ9
      obtain ⟨y133, hZ9⟩ := hZ9
      obtain ⟨y134, hZ9⟩ := hZ9
      obtain ⟨y135, hZ9⟩ := hZ9
      obtain ⟨y136, hZ9⟩ := hZ9
      obtain ⟨y137, hZ9⟩ := hZ9
      obtain ⟨y138, hZ9⟩ := hZ9
      obtain ⟨y139, hZ9⟩ := hZ9
      obtain ⟨y140, hZ9⟩ := hZ9
      obtain ⟨y141, hZ9⟩ := hZ9
      obtain ⟨f142, hZ9⟩ := hZ9
      obtain ⟨f144, hZ9⟩ := hZ9
      obtain ⟨f146, hZ9⟩ := hZ9
      obtain ⟨f148, hZ9⟩ := hZ9
      obtain ⟨f150, hZ9⟩ := hZ9
      obtain ⟨hO130, hZ9⟩ := hZ9
      obtain ⟨hA143, hZ9⟩ := hZ9
      obtain ⟨hA145, hZ9⟩ := hZ9
      obtain ⟨hA147, hZ9⟩ := hZ9
      obtain ⟨hA149, hZ9⟩ := hZ9
      obtain ⟨hA151, hZ9⟩ := hZ9
      obtain ⟨b152, hZ9⟩ := hZ9
      obtain ⟨b153, hZ9⟩ := hZ9
      obtain ⟨b154, hZ9⟩ := hZ9
      obtain ⟨b155, hZ9⟩ := hZ9
      replace hZ9 := hZ9.2.2
      obtain ⟨b158, hZ9⟩ := hZ9
      replace hZ9 := hZ9.2
      obtain ⟨b160, hZ9⟩ := hZ9
      obtain ⟨b161, hZ9⟩ := hZ9
      obtain ⟨b162, hZ9⟩ := hZ9
      obtain ⟨b163, hZ9⟩ := hZ9
      obtain ⟨b164, hZ9⟩ := hZ9
      obtain ⟨b165, hZ9⟩ := hZ9
      obtain ⟨b166, hZ9⟩ := hZ9
      replace hZ9 := hZ9.2
      obtain ⟨b168, hZ9⟩ := hZ9
      obtain ⟨b169, hZ9⟩ := hZ9
      replace hZ9 := hZ9.2
      obtain ⟨-, hE172⟩ := hZ9
      replace hO130 : u128[134]? = (some (q 134, .inr (14, [.int y131, .ref (q 135), .int y132, .ref (q 136), .ref (q 137), .ref (q 138), .ref (q 139), .ref (q 140), .int y133, .long y134, .int y135, .int y136, .ref (q 141), .int y137, .ref (q 142), .int y138, .ref (q 143), .int y139, .ref (q 144), .int y140, .int y141])) : Option (Nat × va_E)) := hO130
      replace hA143 : u128[136]? = (some (q 136, .inl (g 0, (10000 : Int32).toNatClampNeg, .inl f142)) : Option (Nat × va_E)) := hA143
      replace hA145 : u128[137]? = (some (q 137, .inl (g 0, (10 : Int32).toNatClampNeg, .inl f144)) : Option (Nat × va_E)) := hA145
      replace hA147 : u128[138]? = (some (q 138, .inl (g 3, 10, .inl f146)) : Option (Nat × va_E)) := hA147
      replace hA149 : u128[139]? = (some (q 139, .inl (g 0, (10 : Int32).toNatClampNeg, .inl f148)) : Option (Nat × va_E)) := hA149
      replace hA151 : u128[140]? = (some (q 140, .inl (g 0, (4400 : Int32).toNatClampNeg, .inl f150)) : Option (Nat × va_E)) := hA151
      obtain ⟨p174, e175⟩ : ∃ z, z = (F_DR_toPrecision x4 j124 x5 x3 y65 y66 y67 y68 y69 y70 y71 y72 y73 y74 y75 t1_0 t2_0 t3_0 t4_0 f76) := ⟨_, rfl⟩
      have e176 : y131 = p174.1 := congrArg (fun z => z.1) (hE172.trans e175.symm)
      have e177 : y132 = p174.2.1 := congrArg (fun z => z.2.1) (hE172.trans e175.symm)
      have e178 : y133 = p174.2.2.1 := congrArg (fun z => z.2.2.1) (hE172.trans e175.symm)
      have e179 : y134 = p174.2.2.2.1 := congrArg (fun z => z.2.2.2.1) (hE172.trans e175.symm)
      have e180 : y135 = p174.2.2.2.2.1 := congrArg (fun z => z.2.2.2.2.1) (hE172.trans e175.symm)
      have e181 : y136 = p174.2.2.2.2.2.1 := congrArg (fun z => z.2.2.2.2.2.1) (hE172.trans e175.symm)
      have e182 : y137 = p174.2.2.2.2.2.2.1 := congrArg (fun z => z.2.2.2.2.2.2.1) (hE172.trans e175.symm)
      have e183 : y138 = p174.2.2.2.2.2.2.2.1 := congrArg (fun z => z.2.2.2.2.2.2.2.1) (hE172.trans e175.symm)
      have e184 : y139 = p174.2.2.2.2.2.2.2.2.1 := congrArg (fun z => z.2.2.2.2.2.2.2.2.1) (hE172.trans e175.symm)
      have e185 : y140 = p174.2.2.2.2.2.2.2.2.2.1 := congrArg (fun z => z.2.2.2.2.2.2.2.2.2.1) (hE172.trans e175.symm)
      have e186 : y141 = p174.2.2.2.2.2.2.2.2.2.2.1 := congrArg (fun z => z.2.2.2.2.2.2.2.2.2.2.1) (hE172.trans e175.symm)
      have e187 : f142 = p174.2.2.2.2.2.2.2.2.2.2.2.1 := congrArg (fun z => z.2.2.2.2.2.2.2.2.2.2.2.1) (hE172.trans e175.symm)
      have e188 : f144 = p174.2.2.2.2.2.2.2.2.2.2.2.2.1 := congrArg (fun z => z.2.2.2.2.2.2.2.2.2.2.2.2.1) (hE172.trans e175.symm)
      have e189 : f146 = p174.2.2.2.2.2.2.2.2.2.2.2.2.2.1 := congrArg (fun z => z.2.2.2.2.2.2.2.2.2.2.2.2.2.1) (hE172.trans e175.symm)
      have e190 : f148 = p174.2.2.2.2.2.2.2.2.2.2.2.2.2.2.1 := congrArg (fun z => z.2.2.2.2.2.2.2.2.2.2.2.2.2.2.1) (hE172.trans e175.symm)
      have e191 : f150 = p174.2.2.2.2.2.2.2.2.2.2.2.2.2.2.2 := congrArg (fun z => z.2.2.2.2.2.2.2.2.2.2.2.2.2.2.2) (hE172.trans e175.symm)
      replace b152 : q_F (0 ≤ y135.toInt) := b152
      replace b153 : q_F (0 ≤ y136.toInt) := b153
      replace b154 : q_F (y66.toInt ≤ y132.toInt) := b154
      replace b155 : q_F (y132.toInt ≤ y66.toInt) := b155
      replace b158 : q_F (y135.toInt ≤ y69.toInt) := b158
      replace b160 : q_F (y136.toInt ≤ y70.toInt) := b160
      replace b161 : q_F (y71.toInt ≤ y137.toInt) := b161
      replace b162 : q_F (y137.toInt ≤ y71.toInt) := b162
      replace b163 : q_F (y72.toInt ≤ y138.toInt) := b163
      replace b164 : q_F (y138.toInt ≤ y72.toInt) := b164
      replace b165 : q_F (y73.toInt ≤ y139.toInt) := b165
      replace b166 : q_F (y139.toInt ≤ y73.toInt) := b166
      replace b168 : q_F (y74.toInt ≤ y140.toInt) := b168
      replace b169 : q_F (y140.toInt ≤ y74.toInt) := b169
      replace hF := q_uc hF hu173 (by simp)
      have hR192 := (show F_DR_round_c72 x2 x3 x4 x5 t0_0 t0_1 t0_2 t0_3 t0_4 t0_5 t0_6 t0_7 t0_8 t0_9 t0_10 t1_0 t2_0 t3_0 t4_0 t5_0 lx39 p103 p174 = (F_DR_round x2 x3 x4 x5 t0_0 t0_1 t0_2 t0_3 t0_4 t0_5 t0_6 t0_7 t0_8 t0_9 t0_10 t1_0 t2_0 t3_0 t4_0 t5_0) from Eq.trans (by rw [e175, ← e125, ← e123, e116, e115, e114, e113, e112, e111, e110, e109, e108, e107, e106, e105, F_DR_round_c57.eq_1]) hR117)
      have hS193 := (show True ∧ S_DR_round_c72 x2 x3 x4 x5 t0_0 t0_1 t0_2 t0_3 t0_4 t0_5 t0_6 t0_7 t0_8 t0_9 t0_10 t1_0 t2_0 t3_0 t4_0 t5_0 lx39 p103 p174 from (by rw [e175, ← e125, ← e123, e116, e115, e114, e113, e112, e111, e110, e109, e108, e107, e106, e105]; have h := hS118; rw [S_DR_round_c57.eq_1] at h; replace h := q_s2 h; with_reducible exact h))
      exact q_retv C0 V (⟨hI, hF, y131, y132, y133, y134, y135, y136, y137, y138, y139, y140, y141, f142, f144, f146, f148, f150, hO130, hA143, hA145, hA147, hA149, hA151, (show 0 ≤ y135.toInt from (by first | with_reducible exact q_fe b152 | (have t1 : 0 ≤ y135.toInt := b152; omega))), (show 0 ≤ y136.toInt from (by first | with_reducible exact q_fe b153 | (have t1 : 0 ≤ y136.toInt := b153; omega))), (show y136.toInt ≤ 1 from (by have t1 : y69.toInt ≤ 0 := b81; have t2 : y70.toInt ≤ y69.toInt + 1 := b99; have t3 : y136.toInt ≤ y70.toInt := b160; omega)), (show t0_1.toInt ≤ y132.toInt from (by have t1 : t0_1.toInt ≤ y66.toInt := b84; have t2 : y66.toInt ≤ y132.toInt := b154; omega)), (show y132.toInt ≤ t0_1.toInt from (by have t1 : y66.toInt ≤ t0_1.toInt := b85; have t2 : y132.toInt ≤ y66.toInt := b155; omega)), (show y135.toInt ≤ t0_4.toInt from (by have t1 : 0 ≤ t0_4.toInt ∧ t0_4.toInt ≤ 1 := btt0_4; have t2 : y69.toInt ≤ 0 := b81; have t3 : y135.toInt ≤ y69.toInt := b158; omega)), (show t0_6.toInt ≤ y137.toInt from (by have t1 : t0_6.toInt ≤ y71.toInt := b88; have t2 : y71.toInt ≤ y137.toInt := b161; omega)), (show y137.toInt ≤ t0_6.toInt from (by have t1 : y71.toInt ≤ t0_6.toInt := b89; have t2 : y137.toInt ≤ y71.toInt := b162; omega)), (show t0_7.toInt ≤ y138.toInt from (by have t1 : t0_7.toInt ≤ y72.toInt := b90; have t2 : y72.toInt ≤ y138.toInt := b163; omega)), (show y138.toInt ≤ t0_7.toInt from (by have t1 : y72.toInt ≤ t0_7.toInt := b91; have t2 : y138.toInt ≤ y72.toInt := b164; omega)), (show t0_8.toInt ≤ y139.toInt from (by have t1 : t0_8.toInt ≤ y73.toInt := b92; have t2 : y73.toInt ≤ y139.toInt := b165; omega)), (show y139.toInt ≤ t0_8.toInt from (by have t1 : y73.toInt ≤ t0_8.toInt := b93; have t2 : y139.toInt ≤ y73.toInt := b166; omega)), (show t0_9.toInt ≤ y140.toInt from (by have t1 : t0_9.toInt ≤ y74.toInt := b94; have t2 : y74.toInt ≤ y140.toInt := b168; omega)), (show y140.toInt ≤ t0_9.toInt from (by have t1 : y74.toInt ≤ t0_9.toInt := b95; have t2 : y140.toInt ≤ y74.toInt := b169; omega)), (show (y131, y132, y133, y134, y135, y136, y137, y138, y139, y140, y141, f142, f144, f146, f148, f150) = (F_DR_round x2 x3 x4 x5 t0_0 t0_1 t0_2 t0_3 t0_4 t0_5 t0_6 t0_7 t0_8 t0_9 t0_10 t1_0 t2_0 t3_0 t4_0 t5_0) from Eq.trans (by rw [e191, e190, e189, e188, e187, e186, e185, e184, e183, e182, e181, e180, e179, e178, e177, e176, F_DR_round_c72.eq_1]) hR192)⟩) d_15_44_75
  ·
    intro J46
    refine q_join (X := Unit) (fun z H locs ls _ => q_Wd D g (va_A ws sz) s ws H locs ∧ lv_has ls 5 [(0, .ref (q 134)), (1, .int x2), (2, .int x3), (3, .int x4), (4, .int x5)] ∧ F_DR_round_J35 x2 x3 x4 x5 t0_0 t0_1 t0_2 t0_3 t0_4 t0_5 t0_6 t0_7 t0_8 t0_9 t0_10 t1_0 t2_0 t3_0 t4_0 t5_0 = (F_DR_round x2 x3 x4 x5 t0_0 t0_1 t0_2 t0_3 t0_4 t0_5 t0_6 t0_7 t0_8 t0_9 t0_10 t1_0 t2_0 t3_0 t4_0 t5_0) ∧ True ∧ S_DR_round_J35 x2 x3 x4 x5 t0_0 t0_1 t0_2 t0_3 t0_4 t0_5 t0_6 t0_7 t0_8 t0_9 t0_10 t1_0 t2_0 t3_0 t4_0 t5_0) (fun z => [.ref (q 134)]) 35 0 0 ?_ ?_
    ·
      rintro _ H locs ls _ ⟨V, hl, hR204, hS205⟩
      replace hl : lv_has ls 5 [(0, .ref (q 134)), (1, .int x2), (2, .int x3), (3, .int x4), (4, .int x5)] := hl
      refine lv_iconst (v := 1) hx hb d_15_44_35 (by decide) ?_
      refine lv_goto (tgt := 40) hx hb d_15_44_36 (by decide) ?_
      exact J46 ((1 : Int32)) _ _ _ ws ⟨(show q_F (0 ≤ 1) from (show 0 ≤ 1 from by omega)), (show q_F (1 ≤ 1) from (show 1 ≤ 1 from by omega)), V, q_lw hl (q_lw1 0 rfl (q_lw1 1 rfl (q_lw1 2 rfl (q_lw1 3 rfl (q_lw1 4 rfl q_lw0))))), (show F_DR_round_J40 x2 x3 x4 x5 t0_0 t0_1 t0_2 t0_3 t0_4 t0_5 t0_6 t0_7 t0_8 t0_9 t0_10 t1_0 t2_0 t3_0 t4_0 t5_0 1 = (F_DR_round x2 x3 x4 x5 t0_0 t0_1 t0_2 t0_3 t0_4 t0_5 t0_6 t0_7 t0_8 t0_9 t0_10 t1_0 t2_0 t3_0 t4_0 t5_0) from Eq.trans (by rw [F_DR_round_J35.eq_1]) hR204), (show True ∧ S_DR_round_J40 x2 x3 x4 x5 t0_0 t0_1 t0_2 t0_3 t0_4 t0_5 t0_6 t0_7 t0_8 t0_9 t0_10 t1_0 t2_0 t3_0 t4_0 t5_0 1 from (by have h := hS205; rw [S_DR_round_J35.eq_1] at h; with_reducible exact h))⟩
    ·
      intro J203
      refine lv_if_ne (tgt := 35) hx hb d_15_44_5 (by decide) (fun c209 => ?_) (fun c209 => ?_)
      ·
        exact J203 (()) _ _ _ ws ⟨V, q_lw hl (q_lw1 0 rfl (q_lw1 1 rfl (q_lw1 2 rfl (q_lw1 3 rfl (q_lw1 4 rfl q_lw0))))), (show F_DR_round_J35 x2 x3 x4 x5 t0_0 t0_1 t0_2 t0_3 t0_4 t0_5 t0_6 t0_7 t0_8 t0_9 t0_10 t1_0 t2_0 t3_0 t4_0 t5_0 = (F_DR_round x2 x3 x4 x5 t0_0 t0_1 t0_2 t0_3 t0_4 t0_5 t0_6 t0_7 t0_8 t0_9 t0_10 t1_0 t2_0 t3_0 t4_0 t5_0) from (by have c209x := c209; rw [e38] at c209x; rw [F_DR_round.eq_1, if_neg c209x])), (show True ∧ S_DR_round_J35 x2 x3 x4 x5 t0_0 t0_1 t0_2 t0_3 t0_4 t0_5 t0_6 t0_7 t0_8 t0_9 t0_10 t1_0 t2_0 t3_0 t4_0 t5_0 from (by have h := hS; rw [S_DR_round.eq_1] at h; have c209x := c209; rw [e38] at c209x; rw [if_neg c209x] at h; with_reducible exact h))⟩
      ·
        refine lv_iload_n hx hb d_15_44_8 rfl (lv_at hl 2 rfl) ?_
        refine q_goi V (q_runS (As := [.int x3]) (rest := [.ref (q 134)]) (d := 1) (mc := 0) (ms := 0) C0 V rfl LS_DR_113 (X_DR_no l D g q ws  x3 hI   _) rfl hl.1 rfl (Nat.le_of_ble_eq_true rfl) ⟨by decide, by decide⟩ ⟨Nat.le_of_ble_eq_true rfl, Nat.le_of_ble_eq_true rfl⟩ d_15_44_9) (fun a214 u212 H locs hp213 V => ?_)
        obtain ⟨rfl, b215, b216, hE217⟩ := hp213
        have e218 : a214 = (F_DR_no x3) := hE217
        clear b215
        clear b216
        refine lv_if_ne (tgt := 35) hx hb d_15_44_12 (by decide) (fun c219 => ?_) (fun c219 => ?_)
        ·
          exact J203 (()) _ _ _ ws ⟨V, q_lw hl (q_lw1 0 rfl (q_lw1 1 rfl (q_lw1 2 rfl (q_lw1 3 rfl (q_lw1 4 rfl q_lw0))))), (show F_DR_round_J35 x2 x3 x4 x5 t0_0 t0_1 t0_2 t0_3 t0_4 t0_5 t0_6 t0_7 t0_8 t0_9 t0_10 t1_0 t2_0 t3_0 t4_0 t5_0 = (F_DR_round x2 x3 x4 x5 t0_0 t0_1 t0_2 t0_3 t0_4 t0_5 t0_6 t0_7 t0_8 t0_9 t0_10 t1_0 t2_0 t3_0 t4_0 t5_0) from (by have c209x := c209; rw [e38] at c209x; have c219x := c219; rw [e218] at c219x; rw [F_DR_round.eq_1, if_pos c209x, if_neg c219x])), (show True ∧ S_DR_round_J35 x2 x3 x4 x5 t0_0 t0_1 t0_2 t0_3 t0_4 t0_5 t0_6 t0_7 t0_8 t0_9 t0_10 t1_0 t2_0 t3_0 t4_0 t5_0 from (by have h := hS; rw [S_DR_round.eq_1] at h; have c209x := c209; rw [e38] at c209x; rw [if_pos c209x] at h; have c219x := c219; rw [e218] at c219x; rw [if_neg c219x] at h; with_reducible exact h))⟩
        ·
          refine lv_iload hx hb d_15_44_15 (lv_at hl 4 rfl) ?_
          refine q_goi V (q_runS (As := [.int x5]) (rest := [.ref (q 134)]) (d := 1) (mc := 0) (ms := 0) C0 V rfl LS_DR_147 (X_DR_noMode l D g q ws  x5 hI   _) rfl hl.1 rfl (Nat.le_of_ble_eq_true rfl) ⟨by decide, by decide⟩ ⟨Nat.le_of_ble_eq_true rfl, Nat.le_of_ble_eq_true rfl⟩ d_15_44_17) (fun a224 u222 H locs hp223 V => ?_)
          obtain ⟨rfl, b225, b226, hE227⟩ := hp223
          have e228 : a224 = (F_DR_noMode x5) := hE227
          clear b225
          clear b226
          refine lv_if_ne (tgt := 35) hx hb d_15_44_20 (by decide) (fun c229 => ?_) (fun c229 => ?_)
          ·
            exact J203 (()) _ _ _ ws ⟨V, q_lw hl (q_lw1 0 rfl (q_lw1 1 rfl (q_lw1 2 rfl (q_lw1 3 rfl (q_lw1 4 rfl q_lw0))))), (show F_DR_round_J35 x2 x3 x4 x5 t0_0 t0_1 t0_2 t0_3 t0_4 t0_5 t0_6 t0_7 t0_8 t0_9 t0_10 t1_0 t2_0 t3_0 t4_0 t5_0 = (F_DR_round x2 x3 x4 x5 t0_0 t0_1 t0_2 t0_3 t0_4 t0_5 t0_6 t0_7 t0_8 t0_9 t0_10 t1_0 t2_0 t3_0 t4_0 t5_0) from (by have c209x := c209; rw [e38] at c209x; have c219x := c219; rw [e218] at c219x; have c229x := c229; rw [e228] at c229x; rw [F_DR_round.eq_1, if_pos c209x, if_pos c219x, if_neg c229x])), (show True ∧ S_DR_round_J35 x2 x3 x4 x5 t0_0 t0_1 t0_2 t0_3 t0_4 t0_5 t0_6 t0_7 t0_8 t0_9 t0_10 t1_0 t2_0 t3_0 t4_0 t5_0 from (by have h := hS; rw [S_DR_round.eq_1] at h; have c209x := c209; rw [e38] at c209x; rw [if_pos c209x] at h; have c219x := c219; rw [e218] at c219x; rw [if_pos c219x] at h; have c229x := c229; rw [e228] at c229x; rw [if_neg c229x] at h; with_reducible exact h))⟩
          ·
            refine lv_iload_n hx hb d_15_44_23 rfl (lv_at hl 3 rfl) ?_
            refine lv_iconst (v := 1) hx hb d_15_44_24 (by decide) ?_
            refine lv_icmp_lt (tgt := 35) hx hb d_15_44_25 (by decide) (fun c232 => ?_) (fun c232 => ?_)
            ·
              exact J203 (()) _ _ _ ws ⟨V, q_lw hl (q_lw1 0 rfl (q_lw1 1 rfl (q_lw1 2 rfl (q_lw1 3 rfl (q_lw1 4 rfl q_lw0))))), (show F_DR_round_J35 x2 x3 x4 x5 t0_0 t0_1 t0_2 t0_3 t0_4 t0_5 t0_6 t0_7 t0_8 t0_9 t0_10 t1_0 t2_0 t3_0 t4_0 t5_0 = (F_DR_round x2 x3 x4 x5 t0_0 t0_1 t0_2 t0_3 t0_4 t0_5 t0_6 t0_7 t0_8 t0_9 t0_10 t1_0 t2_0 t3_0 t4_0 t5_0) from (by have c209x := c209; rw [e38] at c209x; have c219x := c219; rw [e218] at c219x; have c229x := c229; rw [e228] at c229x; rw [F_DR_round.eq_1, if_pos c209x, if_pos c219x, if_pos c229x, if_pos c232])), (show True ∧ S_DR_round_J35 x2 x3 x4 x5 t0_0 t0_1 t0_2 t0_3 t0_4 t0_5 t0_6 t0_7 t0_8 t0_9 t0_10 t1_0 t2_0 t3_0 t4_0 t5_0 from (by have h := hS; rw [S_DR_round.eq_1] at h; have c209x := c209; rw [e38] at c209x; rw [if_pos c209x] at h; have c219x := c219; rw [e218] at c219x; rw [if_pos c219x] at h; have c229x := c229; rw [e228] at c229x; rw [if_pos c229x] at h; rw [if_pos c232] at h; with_reducible exact h))⟩
            ·
              refine lv_iload_n hx hb d_15_44_28 rfl (lv_at hl 3 rfl) ?_
              refine lv_sipush (v := 1000) hx hb d_15_44_29 (by decide) ?_
              refine lv_icmp_le (tgt := 39) hx hb d_15_44_32 (by decide) (fun c235 => ?_) (fun c235 => ?_)
              ·
                refine lv_iconst (v := 0) hx hb d_15_44_39 (by decide) ?_
                exact J46 ((0 : Int32)) _ _ _ ws ⟨(show q_F (0 ≤ 0) from (show 0 ≤ 0 from by omega)), (show q_F (0 ≤ 1) from (show 0 ≤ 1 from by omega)), V, q_lw hl (q_lw1 0 rfl (q_lw1 1 rfl (q_lw1 2 rfl (q_lw1 3 rfl (q_lw1 4 rfl q_lw0))))), (show F_DR_round_J40 x2 x3 x4 x5 t0_0 t0_1 t0_2 t0_3 t0_4 t0_5 t0_6 t0_7 t0_8 t0_9 t0_10 t1_0 t2_0 t3_0 t4_0 t5_0 0 = (F_DR_round x2 x3 x4 x5 t0_0 t0_1 t0_2 t0_3 t0_4 t0_5 t0_6 t0_7 t0_8 t0_9 t0_10 t1_0 t2_0 t3_0 t4_0 t5_0) from (by have c209x := c209; rw [e38] at c209x; have c219x := c219; rw [e218] at c219x; have c229x := c229; rw [e228] at c229x; rw [F_DR_round.eq_1, if_pos c209x, if_pos c219x, if_pos c229x, if_neg c232, if_pos c235])), (show True ∧ S_DR_round_J40 x2 x3 x4 x5 t0_0 t0_1 t0_2 t0_3 t0_4 t0_5 t0_6 t0_7 t0_8 t0_9 t0_10 t1_0 t2_0 t3_0 t4_0 t5_0 0 from (by have h := hS; rw [S_DR_round.eq_1] at h; have c209x := c209; rw [e38] at c209x; rw [if_pos c209x] at h; have c219x := c219; rw [e218] at c219x; rw [if_pos c219x] at h; have c229x := c229; rw [e228] at c229x; rw [if_pos c229x] at h; rw [if_neg c232] at h; rw [if_pos c235] at h; with_reducible exact h))⟩
              ·
                exact J203 (()) _ _ _ ws ⟨V, q_lw hl (q_lw1 0 rfl (q_lw1 1 rfl (q_lw1 2 rfl (q_lw1 3 rfl (q_lw1 4 rfl q_lw0))))), (show F_DR_round_J35 x2 x3 x4 x5 t0_0 t0_1 t0_2 t0_3 t0_4 t0_5 t0_6 t0_7 t0_8 t0_9 t0_10 t1_0 t2_0 t3_0 t4_0 t5_0 = (F_DR_round x2 x3 x4 x5 t0_0 t0_1 t0_2 t0_3 t0_4 t0_5 t0_6 t0_7 t0_8 t0_9 t0_10 t1_0 t2_0 t3_0 t4_0 t5_0) from (by have c209x := c209; rw [e38] at c209x; have c219x := c219; rw [e218] at c219x; have c229x := c229; rw [e228] at c229x; rw [F_DR_round.eq_1, if_pos c209x, if_pos c219x, if_pos c229x, if_neg c232, if_neg c235])), (show True ∧ S_DR_round_J35 x2 x3 x4 x5 t0_0 t0_1 t0_2 t0_3 t0_4 t0_5 t0_6 t0_7 t0_8 t0_9 t0_10 t1_0 t2_0 t3_0 t4_0 t5_0 from (by have h := hS; rw [S_DR_round.eq_1] at h; have c209x := c209; rw [e38] at c209x; rw [if_pos c209x] at h; have c219x := c219; rw [e218] at c219x; rw [if_pos c219x] at h; have c229x := c229; rw [e228] at c229x; rw [if_pos c229x] at h; rw [if_neg c232] at h; rw [if_neg c235] at h; with_reducible exact h))⟩
theorem d_15_40_0 : decode prog_15_method_40_code 0 = .ok (.iload_n 1, 1) := by decide +kernel
theorem d_15_40_17 : decode prog_15_method_40_code 17 = .ok (.aload_n 0, 1) := by decide +kernel
theorem d_15_40_18 : decode prog_15_method_40_code 18 = .ok (.aload_n 0, 1) := by decide +kernel
theorem d_15_40_19 : decode prog_15_method_40_code 19 = .ok (.getfield 174, 3) := by decide +kernel
set_option maxRecDepth 100000 in
theorem w_2020 : (Cond.fieldLink "NumberHouseModel$DecimalRows" (174 : Nat) "NumberHouseModel$DecimalRows" "leftSize" "I") ∈ q_tbl := q_of9 100 rfl (by decide +kernel)
theorem d_15_40_22 : decode prog_15_method_40_code 22 = .ok (.putfield 138, 3) := by decide +kernel
theorem d_15_40_25 : decode prog_15_method_40_code 25 = .ok (.iconst 0, 1) := by decide +kernel
theorem d_15_40_26 : decode prog_15_method_40_code 26 = .ok (.istore_n 2, 1) := by decide +kernel
theorem d_15_40_27 : decode prog_15_method_40_code 27 = .ok (.iload_n 1, 1) := by decide +kernel
theorem d_15_40_28 : decode prog_15_method_40_code 28 = .ok (.iload_n 1, 1) := by decide +kernel
theorem d_15_40_29 : decode prog_15_method_40_code 29 = .ok (.imul, 1) := by decide +kernel
theorem d_15_40_30 : decode prog_15_method_40_code 30 = .ok (.istore_n 3, 1) := by decide +kernel
theorem d_15_40_31 : decode prog_15_method_40_code 31 = .ok (.iconst 0, 1) := by decide +kernel
theorem d_15_40_32 : decode prog_15_method_40_code 32 = .ok (.istore 4, 2) := by decide +kernel
theorem d_15_40_34 : decode prog_15_method_40_code 34 = .ok (.iload 4, 2) := by decide +kernel
theorem d_15_40_36 : decode prog_15_method_40_code 36 = .ok (.aload_n 0, 1) := by decide +kernel
theorem d_15_40_37 : decode prog_15_method_40_code 37 = .ok (.getfield 138, 3) := by decide +kernel
theorem d_15_40_40 : decode prog_15_method_40_code 40 = .ok (.if_icmp .ge 92, 3) := by decide +kernel
theorem d_15_40_132 : decode prog_15_method_40_code 132 = .ok (.iload_n 2, 1) := by decide +kernel
theorem d_15_40_133 : decode prog_15_method_40_code 133 = .ok (.ifCond .le 5, 3) := by decide +kernel
theorem d_15_40_138 : decode prog_15_method_40_code 138 = .ok (.iconst 0, 1) := by decide +kernel
theorem d_15_40_139 : decode prog_15_method_40_code 139 = .ok (.istore 4, 2) := by decide +kernel
theorem d_15_40_141 : decode prog_15_method_40_code 141 = .ok (.iload 4, 2) := by decide +kernel
theorem d_15_40_143 : decode prog_15_method_40_code 143 = .ok (.aload_n 0, 1) := by decide +kernel
theorem d_15_40_144 : decode prog_15_method_40_code 144 = .ok (.getfield 138, 3) := by decide +kernel
theorem d_15_40_147 : decode prog_15_method_40_code 147 = .ok (.if_icmp .ge 51, 3) := by decide +kernel
theorem d_15_40_198 : decode prog_15_method_40_code 198 = .ok (.iconst 0, 1) := by decide +kernel
theorem d_15_40_199 : decode prog_15_method_40_code 199 = .ok (.istore 4, 2) := by decide +kernel
theorem d_15_40_201 : decode prog_15_method_40_code 201 = .ok (.aload_n 0, 1) := by decide +kernel
theorem d_15_40_202 : decode prog_15_method_40_code 202 = .ok (.getfield 138, 3) := by decide +kernel
theorem d_15_40_205 : decode prog_15_method_40_code 205 = .ok (.iconst 1, 1) := by decide +kernel
theorem d_15_40_206 : decode prog_15_method_40_code 206 = .ok (.isub, 1) := by decide +kernel
theorem d_15_40_207 : decode prog_15_method_40_code 207 = .ok (.istore 5, 2) := by decide +kernel
theorem d_15_40_209 : decode prog_15_method_40_code 209 = .ok (.iload 5, 2) := by decide +kernel
theorem d_15_40_211 : decode prog_15_method_40_code 211 = .ok (.ifCond .lt 63, 3) := by decide +kernel
theorem d_15_40_274 : decode prog_15_method_40_code 274 = .ok (.iconst 1, 1) := by decide +kernel
theorem d_15_40_275 : decode prog_15_method_40_code 275 = .ok (.ireturn, 1) := by decide +kernel
theorem d_15_40_214 : decode prog_15_method_40_code 214 = .ok (.aload_n 0, 1) := by decide +kernel
theorem d_15_40_215 : decode prog_15_method_40_code 215 = .ok (.getfield 35, 3) := by decide +kernel
theorem d_15_40_218 : decode prog_15_method_40_code 218 = .ok (.iload 5, 2) := by decide +kernel
theorem d_15_40_220 : decode prog_15_method_40_code 220 = .ok (.iaload, 1) := by decide +kernel
theorem d_15_40_221 : decode prog_15_method_40_code 221 = .ok (.aload_n 0, 1) := by decide +kernel
theorem d_15_40_222 : decode prog_15_method_40_code 222 = .ok (.getfield 32, 3) := by decide +kernel
theorem d_15_40_225 : decode prog_15_method_40_code 225 = .ok (.iload 5, 2) := by decide +kernel
theorem d_15_40_227 : decode prog_15_method_40_code 227 = .ok (.iaload, 1) := by decide +kernel
theorem d_15_40_228 : decode prog_15_method_40_code 228 = .ok (.isub, 1) := by decide +kernel
theorem d_15_40_229 : decode prog_15_method_40_code 229 = .ok (.iload 4, 2) := by decide +kernel
theorem d_15_40_231 : decode prog_15_method_40_code 231 = .ok (.isub, 1) := by decide +kernel
theorem d_15_40_232 : decode prog_15_method_40_code 232 = .ok (.istore 6, 2) := by decide +kernel
theorem d_15_40_234 : decode prog_15_method_40_code 234 = .ok (.aload_n 0, 1) := by decide +kernel
theorem d_15_40_235 : decode prog_15_method_40_code 235 = .ok (.getfield 35, 3) := by decide +kernel
theorem d_15_40_238 : decode prog_15_method_40_code 238 = .ok (.iload 5, 2) := by decide +kernel
theorem d_15_40_240 : decode prog_15_method_40_code 240 = .ok (.iload 6, 2) := by decide +kernel
theorem d_15_40_242 : decode prog_15_method_40_code 242 = .ok (.ifCond .ge 11, 3) := by decide +kernel
theorem d_15_40_253 : decode prog_15_method_40_code 253 = .ok (.iload 6, 2) := by decide +kernel
theorem d_15_40_255 : decode prog_15_method_40_code 255 = .ok (.iastore, 1) := by decide +kernel
theorem d_15_40_256 : decode prog_15_method_40_code 256 = .ok (.iload 6, 2) := by decide +kernel
theorem d_15_40_258 : decode prog_15_method_40_code 258 = .ok (.ifCond .ge 7, 3) := by decide +kernel
theorem d_15_40_265 : decode prog_15_method_40_code 265 = .ok (.iconst 0, 1) := by decide +kernel
theorem d_15_40_266 : decode prog_15_method_40_code 266 = .ok (.istore 4, 2) := by decide +kernel
theorem d_15_40_268 : decode prog_15_method_40_code 268 = .ok (.iinc 5 (-1), 3) := by decide +kernel
theorem d_15_40_271 : decode prog_15_method_40_code 271 = .ok (.goto (-62), 3) := by decide +kernel
theorem d_15_40_245 : decode prog_15_method_40_code 245 = .ok (.iload 6, 2) := by decide +kernel
theorem d_15_40_247 : decode prog_15_method_40_code 247 = .ok (.bipush 10, 2) := by decide +kernel
theorem d_15_40_249 : decode prog_15_method_40_code 249 = .ok (.iadd, 1) := by decide +kernel
theorem d_15_40_250 : decode prog_15_method_40_code 250 = .ok (.goto 5, 3) := by decide +kernel
theorem d_15_40_261 : decode prog_15_method_40_code 261 = .ok (.iconst 1, 1) := by decide +kernel
theorem d_15_40_262 : decode prog_15_method_40_code 262 = .ok (.goto 4, 3) := by decide +kernel
theorem d_15_40_150 : decode prog_15_method_40_code 150 = .ok (.aload_n 0, 1) := by decide +kernel
theorem d_15_40_151 : decode prog_15_method_40_code 151 = .ok (.getfield 35, 3) := by decide +kernel
theorem d_15_40_154 : decode prog_15_method_40_code 154 = .ok (.iload 4, 2) := by decide +kernel
theorem d_15_40_156 : decode prog_15_method_40_code 156 = .ok (.iaload, 1) := by decide +kernel
theorem d_15_40_157 : decode prog_15_method_40_code 157 = .ok (.aload_n 0, 1) := by decide +kernel
theorem d_15_40_158 : decode prog_15_method_40_code 158 = .ok (.getfield 32, 3) := by decide +kernel
theorem d_15_40_161 : decode prog_15_method_40_code 161 = .ok (.iload 4, 2) := by decide +kernel
theorem d_15_40_163 : decode prog_15_method_40_code 163 = .ok (.iaload, 1) := by decide +kernel
theorem d_15_40_164 : decode prog_15_method_40_code 164 = .ok (.if_icmp .eq 28, 3) := by decide +kernel
theorem d_15_40_192 : decode prog_15_method_40_code 192 = .ok (.iinc 4 1, 3) := by decide +kernel
theorem d_15_40_195 : decode prog_15_method_40_code 195 = .ok (.goto (-54), 3) := by decide +kernel
theorem d_15_40_167 : decode prog_15_method_40_code 167 = .ok (.aload_n 0, 1) := by decide +kernel
theorem d_15_40_168 : decode prog_15_method_40_code 168 = .ok (.getfield 35, 3) := by decide +kernel
theorem d_15_40_171 : decode prog_15_method_40_code 171 = .ok (.iload 4, 2) := by decide +kernel
theorem d_15_40_173 : decode prog_15_method_40_code 173 = .ok (.iaload, 1) := by decide +kernel
theorem d_15_40_174 : decode prog_15_method_40_code 174 = .ok (.aload_n 0, 1) := by decide +kernel
theorem d_15_40_175 : decode prog_15_method_40_code 175 = .ok (.getfield 32, 3) := by decide +kernel
theorem d_15_40_178 : decode prog_15_method_40_code 178 = .ok (.iload 4, 2) := by decide +kernel
theorem d_15_40_180 : decode prog_15_method_40_code 180 = .ok (.iaload, 1) := by decide +kernel
theorem d_15_40_181 : decode prog_15_method_40_code 181 = .ok (.if_icmp .ge 5, 3) := by decide +kernel
theorem d_15_40_186 : decode prog_15_method_40_code 186 = .ok (.aload_n 0, 1) := by decide +kernel
theorem d_15_40_187 : decode prog_15_method_40_code 187 = .ok (.getfield 138, 3) := by decide +kernel
theorem d_15_40_190 : decode prog_15_method_40_code 190 = .ok (.istore 4, 2) := by decide +kernel
theorem d_15_40_184 : decode prog_15_method_40_code 184 = .ok (.iconst 0, 1) := by decide +kernel
theorem d_15_40_185 : decode prog_15_method_40_code 185 = .ok (.ireturn, 1) := by decide +kernel
theorem d_15_40_136 : decode prog_15_method_40_code 136 = .ok (.iconst 0, 1) := by decide +kernel
theorem d_15_40_137 : decode prog_15_method_40_code 137 = .ok (.ireturn, 1) := by decide +kernel
theorem d_15_40_43 : decode prog_15_method_40_code 43 = .ok (.aload_n 0, 1) := by decide +kernel
theorem d_15_40_44 : decode prog_15_method_40_code 44 = .ok (.getfield 138, 3) := by decide +kernel
theorem d_15_40_47 : decode prog_15_method_40_code 47 = .ok (.iconst 1, 1) := by decide +kernel
theorem d_15_40_48 : decode prog_15_method_40_code 48 = .ok (.isub, 1) := by decide +kernel
theorem d_15_40_49 : decode prog_15_method_40_code 49 = .ok (.iload 4, 2) := by decide +kernel
theorem d_15_40_51 : decode prog_15_method_40_code 51 = .ok (.isub, 1) := by decide +kernel
theorem d_15_40_52 : decode prog_15_method_40_code 52 = .ok (.istore 5, 2) := by decide +kernel
theorem d_15_40_54 : decode prog_15_method_40_code 54 = .ok (.iload 4, 2) := by decide +kernel
theorem d_15_40_56 : decode prog_15_method_40_code 56 = .ok (.iconst 1, 1) := by decide +kernel
theorem d_15_40_87 : decode prog_15_method_40_code 87 = .ok (.istore 6, 2) := by decide +kernel
theorem d_15_40_89 : decode prog_15_method_40_code 89 = .ok (.iload 4, 2) := by decide +kernel
theorem d_15_40_104 : decode prog_15_method_40_code 104 = .ok (.iload_n 2, 1) := by decide +kernel
theorem d_15_40_105 : decode prog_15_method_40_code 105 = .ok (.iadd, 1) := by decide +kernel
theorem d_15_40_106 : decode prog_15_method_40_code 106 = .ok (.istore 7, 2) := by decide +kernel
theorem d_15_40_108 : decode prog_15_method_40_code 108 = .ok (.aload_n 0, 1) := by decide +kernel
theorem d_15_40_109 : decode prog_15_method_40_code 109 = .ok (.getfield 32, 3) := by decide +kernel
theorem d_15_40_112 : decode prog_15_method_40_code 112 = .ok (.iload 5, 2) := by decide +kernel
theorem d_15_40_114 : decode prog_15_method_40_code 114 = .ok (.iload 7, 2) := by decide +kernel
theorem d_15_40_116 : decode prog_15_method_40_code 116 = .ok (.bipush 10, 2) := by decide +kernel
theorem d_15_40_118 : decode prog_15_method_40_code 118 = .ok (.irem, 1) := by decide +kernel
theorem d_15_40_119 : decode prog_15_method_40_code 119 = .ok (.iastore, 1) := by decide +kernel
theorem d_15_40_120 : decode prog_15_method_40_code 120 = .ok (.iload 7, 2) := by decide +kernel
theorem d_15_40_122 : decode prog_15_method_40_code 122 = .ok (.bipush 10, 2) := by decide +kernel
theorem d_15_40_124 : decode prog_15_method_40_code 124 = .ok (.idiv, 1) := by decide +kernel
theorem d_15_40_125 : decode prog_15_method_40_code 125 = .ok (.istore_n 2, 1) := by decide +kernel
theorem d_15_40_126 : decode prog_15_method_40_code 126 = .ok (.iinc 4 1, 3) := by decide +kernel
theorem d_15_40_129 : decode prog_15_method_40_code 129 = .ok (.goto (-95), 3) := by decide +kernel
theorem d_15_40_91 : decode prog_15_method_40_code 91 = .ok (.ifCond .ne 7, 3) := by decide +kernel
theorem d_15_40_98 : decode prog_15_method_40_code 98 = .ok (.iconst 2, 1) := by decide +kernel
theorem d_15_40_99 : decode prog_15_method_40_code 99 = .ok (.iload 6, 2) := by decide +kernel
theorem d_15_40_101 : decode prog_15_method_40_code 101 = .ok (.imul, 1) := by decide +kernel
theorem d_15_40_102 : decode prog_15_method_40_code 102 = .ok (.iload_n 1, 1) := by decide +kernel
theorem d_15_40_103 : decode prog_15_method_40_code 103 = .ok (.imul, 1) := by decide +kernel
theorem d_15_40_94 : decode prog_15_method_40_code 94 = .ok (.iload_n 3, 1) := by decide +kernel
theorem d_15_40_95 : decode prog_15_method_40_code 95 = .ok (.goto 9, 3) := by decide +kernel
theorem d_15_40_86 : decode prog_15_method_40_code 86 = .ok (.iconst 0, 1) := by decide +kernel
theorem d_15_40_57 : decode prog_15_method_40_code 57 = .ok (.if_icmp .lt 29, 3) := by decide +kernel
theorem d_15_40_60 : decode prog_15_method_40_code 60 = .ok (.iload 4, 2) := by decide +kernel
theorem d_15_40_62 : decode prog_15_method_40_code 62 = .ok (.iconst 1, 1) := by decide +kernel
theorem d_15_40_63 : decode prog_15_method_40_code 63 = .ok (.isub, 1) := by decide +kernel
theorem d_15_40_64 : decode prog_15_method_40_code 64 = .ok (.aload_n 0, 1) := by decide +kernel
theorem d_15_40_65 : decode prog_15_method_40_code 65 = .ok (.getfield 45, 3) := by decide +kernel
theorem d_15_40_68 : decode prog_15_method_40_code 68 = .ok (.if_icmp .ge 18, 3) := by decide +kernel
theorem d_15_40_71 : decode prog_15_method_40_code 71 = .ok (.aload_n 0, 1) := by decide +kernel
theorem d_15_40_72 : decode prog_15_method_40_code 72 = .ok (.getfield 26, 3) := by decide +kernel
theorem d_15_40_75 : decode prog_15_method_40_code 75 = .ok (.aload_n 0, 1) := by decide +kernel
theorem d_15_40_76 : decode prog_15_method_40_code 76 = .ok (.getfield 45, 3) := by decide +kernel
theorem d_15_40_79 : decode prog_15_method_40_code 79 = .ok (.iload 4, 2) := by decide +kernel
theorem d_15_40_81 : decode prog_15_method_40_code 81 = .ok (.isub, 1) := by decide +kernel
theorem d_15_40_82 : decode prog_15_method_40_code 82 = .ok (.iaload, 1) := by decide +kernel
theorem d_15_40_83 : decode prog_15_method_40_code 83 = .ok (.goto 4, 3) := by decide +kernel
theorem d_15_40_1 : decode prog_15_method_40_code 1 = .ok (.ifCond .le 16, 3) := by decide +kernel
theorem d_15_40_4 : decode prog_15_method_40_code 4 = .ok (.aload_n 0, 1) := by decide +kernel
theorem d_15_40_5 : decode prog_15_method_40_code 5 = .ok (.getfield 45, 3) := by decide +kernel
theorem d_15_40_8 : decode prog_15_method_40_code 8 = .ok (.aload_n 0, 1) := by decide +kernel
theorem d_15_40_9 : decode prog_15_method_40_code 9 = .ok (.getfield 174, 3) := by decide +kernel
theorem d_15_40_12 : decode prog_15_method_40_code 12 = .ok (.if_icmp .lt 5, 3) := by decide +kernel
theorem d_15_40_15 : decode prog_15_method_40_code 15 = .ok (.iconst 0, 1) := by decide +kernel
theorem d_15_40_16 : decode prog_15_method_40_code 16 = .ok (.ireturn, 1) := by decide +kernel
def y_DR_takesRoot : MethodName := ⟨"NumberHouseModel$DecimalRows", "takesRoot", "(I)Z"⟩
def F_DR_takesRoot_L209 (K_F_DR_takesRoot_L34 : Int32 → Int32 → (Nat → Int32) → (Int32 × Int32 × Int32 × Int32 × Int64 × Int32 × Int32 × Int32 × Int32 × Int32 × Int32 × Int32 × (Nat → Int32) × (Nat → Int32))) (K_F_DR_takesRoot_L141 : Int32 → (Int32 × Int32 × Int32 × Int32 × Int64 × Int32 × Int32 × Int32 × Int32 × Int32 × Int32 × Int32 × (Nat → Int32) × (Nat → Int32))) (x2 : Int32) (t0_0 : Int32) (t0_1 : Int32) (t0_2 : Int32) (t0_3 : Int64) (t0_4 : Int32) (t0_5 : Int32) (t0_6 : Int32) (t0_7 : Int32) (t0_8 : Int32) (t0_9 : Int32) (t0_10 : Int32) (t1_0 : (Nat → Int32)) (t2_0 : (Nat → Int32)) (t3_0 : (Nat → Int32)) (a38 : Int32) (lx42 : Int32) (lx43 : Int32) (lx44 : (Nat → Int32)) (lx62 : Int32) : Nat → Int32 → Int32 → (Nat → Int32) → (Int32 × Int32 × Int32 × Int32 × Int64 × Int32 × Int32 × Int32 × Int32 × Int32 × Int32 × Int32 × (Nat → Int32) × (Nat → Int32))
  | 0, _, _, _ => default
  | fm + 1, lx75, lx76, lx77 => if lx75 < (0 : Int32) then (((1 : Int32), t0_0, t0_1, t0_2, t0_3, t0_4, t0_5, t0_6, t0_8, t0_8, t0_9, t0_10, lx44, lx77)) else (if (0 : Int32) ≤ (((lx77 lx75.toNatClampNeg : Int32) - (lx44 lx75.toNatClampNeg : Int32) : Int32) - lx76 : Int32) then (F_DR_takesRoot_L209 K_F_DR_takesRoot_L34 K_F_DR_takesRoot_L141 x2 t0_0 t0_1 t0_2 t0_3 t0_4 t0_5 t0_6 t0_7 t0_8 t0_9 t0_10 t1_0 t2_0 t3_0 a38 lx42 lx43 lx44 lx62 fm (lx75 + (-1) : Int32) 0 (upd lx77 lx75.toNatClampNeg (((lx77 lx75.toNatClampNeg : Int32) - (lx44 lx75.toNatClampNeg : Int32) : Int32) - lx76 : Int32) : (Nat → Int32))) else (F_DR_takesRoot_L209 K_F_DR_takesRoot_L34 K_F_DR_takesRoot_L141 x2 t0_0 t0_1 t0_2 t0_3 t0_4 t0_5 t0_6 t0_7 t0_8 t0_9 t0_10 t1_0 t2_0 t3_0 a38 lx42 lx43 lx44 lx62 fm (lx75 + (-1) : Int32) 1 (upd lx77 lx75.toNatClampNeg ((((lx77 lx75.toNatClampNeg : Int32) - (lx44 lx75.toNatClampNeg : Int32) : Int32) - lx76 : Int32) + 10 : Int32) : (Nat → Int32))))
def F_DR_takesRoot_L141 (K_F_DR_takesRoot_L34 : Int32 → Int32 → (Nat → Int32) → (Int32 × Int32 × Int32 × Int32 × Int64 × Int32 × Int32 × Int32 × Int32 × Int32 × Int32 × Int32 × (Nat → Int32) × (Nat → Int32))) (x2 : Int32) (t0_0 : Int32) (t0_1 : Int32) (t0_2 : Int32) (t0_3 : Int64) (t0_4 : Int32) (t0_5 : Int32) (t0_6 : Int32) (t0_7 : Int32) (t0_8 : Int32) (t0_9 : Int32) (t0_10 : Int32) (t1_0 : (Nat → Int32)) (t2_0 : (Nat → Int32)) (t3_0 : (Nat → Int32)) (a38 : Int32) (lx42 : Int32) (lx43 : Int32) (lx44 : (Nat → Int32)) : Nat → Int32 → (Int32 × Int32 × Int32 × Int32 × Int64 × Int32 × Int32 × Int32 × Int32 × Int32 × Int32 × Int32 × (Nat → Int32) × (Nat → Int32))
  | 0, _ => default
  | fm + 1, lx62 => if t0_8 ≤ lx62 then (F_DR_takesRoot_L209 K_F_DR_takesRoot_L34 (F_DR_takesRoot_L141 K_F_DR_takesRoot_L34 x2 t0_0 t0_1 t0_2 t0_3 t0_4 t0_5 t0_6 t0_7 t0_8 t0_9 t0_10 t1_0 t2_0 t3_0 a38 lx42 lx43 lx44 fm) x2 t0_0 t0_1 t0_2 t0_3 t0_4 t0_5 t0_6 t0_7 t0_8 t0_9 t0_10 t1_0 t2_0 t3_0 a38 lx42 lx43 lx44 lx62 (((t0_8 - 1 : Int32).toInt - ((-1))).toNat + 1) (t0_8 - 1 : Int32) 0 t3_0) else (if (t3_0 lx62.toNatClampNeg : Int32) = (lx44 lx62.toNatClampNeg : Int32) then (F_DR_takesRoot_L141 K_F_DR_takesRoot_L34 x2 t0_0 t0_1 t0_2 t0_3 t0_4 t0_5 t0_6 t0_7 t0_8 t0_9 t0_10 t1_0 t2_0 t3_0 a38 lx42 lx43 lx44 fm (lx62 + 1 : Int32)) else (if (lx44 lx62.toNatClampNeg : Int32) ≤ (t3_0 lx62.toNatClampNeg : Int32) then (F_DR_takesRoot_L141 K_F_DR_takesRoot_L34 x2 t0_0 t0_1 t0_2 t0_3 t0_4 t0_5 t0_6 t0_7 t0_8 t0_9 t0_10 t1_0 t2_0 t3_0 a38 lx42 lx43 lx44 fm (t0_8 + 1 : Int32)) else (((0 : Int32), t0_0, t0_1, t0_2, t0_3, t0_4, t0_5, t0_6, t0_8, t0_8, t0_9, t0_10, lx44, t3_0))))
def F_DR_takesRoot_J104 (K_F_DR_takesRoot_L34 : Int32 → Int32 → (Nat → Int32) → (Int32 × Int32 × Int32 × Int32 × Int64 × Int32 × Int32 × Int32 × Int32 × Int32 × Int32 × Int32 × (Nat → Int32) × (Nat → Int32))) (x2 : Int32) (t0_0 : Int32) (t0_1 : Int32) (t0_2 : Int32) (t0_3 : Int64) (t0_4 : Int32) (t0_5 : Int32) (t0_6 : Int32) (t0_7 : Int32) (t0_8 : Int32) (t0_9 : Int32) (t0_10 : Int32) (t1_0 : (Nat → Int32)) (t2_0 : (Nat → Int32)) (t3_0 : (Nat → Int32)) (a38 : Int32) (lx42 : Int32) (lx43 : Int32) (lx44 : (Nat → Int32)) (a155 : Int32) (lx158 : Int32) (lx169 : Int32) : Int32 × Int32 × Int32 × Int32 × Int64 × Int32 × Int32 × Int32 × Int32 × Int32 × Int32 × Int32 × (Nat → Int32) × (Nat → Int32) := K_F_DR_takesRoot_L34 (lx42 + 1 : Int32) ((lx169 + lx43 : Int32) / 10 : Int32) (upd lx44 a155.toNatClampNeg ((lx169 + lx43 : Int32) - (lx169 + lx43 : Int32) / 10 * 10 : Int32) : (Nat → Int32))
def F_DR_takesRoot_J87 (K_F_DR_takesRoot_L34 : Int32 → Int32 → (Nat → Int32) → (Int32 × Int32 × Int32 × Int32 × Int64 × Int32 × Int32 × Int32 × Int32 × Int32 × Int32 × Int32 × (Nat → Int32) × (Nat → Int32))) (x2 : Int32) (t0_0 : Int32) (t0_1 : Int32) (t0_2 : Int32) (t0_3 : Int64) (t0_4 : Int32) (t0_5 : Int32) (t0_6 : Int32) (t0_7 : Int32) (t0_8 : Int32) (t0_9 : Int32) (t0_10 : Int32) (t1_0 : (Nat → Int32)) (t2_0 : (Nat → Int32)) (t3_0 : (Nat → Int32)) (a38 : Int32) (lx42 : Int32) (lx43 : Int32) (lx44 : (Nat → Int32)) (a155 : Int32) (lx158 : Int32) : Int32 × Int32 × Int32 × Int32 × Int64 × Int32 × Int32 × Int32 × Int32 × Int32 × Int32 × Int32 × (Nat → Int32) × (Nat → Int32) := if lx42 = (0 : Int32) then (F_DR_takesRoot_J104 K_F_DR_takesRoot_L34 x2 t0_0 t0_1 t0_2 t0_3 t0_4 t0_5 t0_6 t0_7 t0_8 t0_9 t0_10 t1_0 t2_0 t3_0 a38 lx42 lx43 lx44 a155 lx158 a38) else (F_DR_takesRoot_J104 K_F_DR_takesRoot_L34 x2 t0_0 t0_1 t0_2 t0_3 t0_4 t0_5 t0_6 t0_7 t0_8 t0_9 t0_10 t1_0 t2_0 t3_0 a38 lx42 lx43 lx44 a155 lx158 ((2 * lx158 : Int32) * x2 : Int32))
def F_DR_takesRoot_J86 (K_F_DR_takesRoot_L34 : Int32 → Int32 → (Nat → Int32) → (Int32 × Int32 × Int32 × Int32 × Int64 × Int32 × Int32 × Int32 × Int32 × Int32 × Int32 × Int32 × (Nat → Int32) × (Nat → Int32))) (x2 : Int32) (t0_0 : Int32) (t0_1 : Int32) (t0_2 : Int32) (t0_3 : Int64) (t0_4 : Int32) (t0_5 : Int32) (t0_6 : Int32) (t0_7 : Int32) (t0_8 : Int32) (t0_9 : Int32) (t0_10 : Int32) (t1_0 : (Nat → Int32)) (t2_0 : (Nat → Int32)) (t3_0 : (Nat → Int32)) (a38 : Int32) (lx42 : Int32) (lx43 : Int32) (lx44 : (Nat → Int32)) (a155 : Int32) : Int32 × Int32 × Int32 × Int32 × Int64 × Int32 × Int32 × Int32 × Int32 × Int32 × Int32 × Int32 × (Nat → Int32) × (Nat → Int32) := F_DR_takesRoot_J87 K_F_DR_takesRoot_L34 x2 t0_0 t0_1 t0_2 t0_3 t0_4 t0_5 t0_6 t0_7 t0_8 t0_9 t0_10 t1_0 t2_0 t3_0 a38 lx42 lx43 lx44 a155 0
def F_DR_takesRoot_L34 (x2 : Int32) (t0_0 : Int32) (t0_1 : Int32) (t0_2 : Int32) (t0_3 : Int64) (t0_4 : Int32) (t0_5 : Int32) (t0_6 : Int32) (t0_7 : Int32) (t0_8 : Int32) (t0_9 : Int32) (t0_10 : Int32) (t1_0 : (Nat → Int32)) (t2_0 : (Nat → Int32)) (t3_0 : (Nat → Int32)) (a38 : Int32) : Nat → Int32 → Int32 → (Nat → Int32) → (Int32 × Int32 × Int32 × Int32 × Int64 × Int32 × Int32 × Int32 × Int32 × Int32 × Int32 × Int32 × (Nat → Int32) × (Nat → Int32))
  | 0, _, _, _ => default
  | fm + 1, lx42, lx43, lx44 => if t0_8 ≤ lx42 then (if lx43 ≤ (0 : Int32) then (F_DR_takesRoot_L141 (F_DR_takesRoot_L34 x2 t0_0 t0_1 t0_2 t0_3 t0_4 t0_5 t0_6 t0_7 t0_8 t0_9 t0_10 t1_0 t2_0 t3_0 a38 fm) x2 t0_0 t0_1 t0_2 t0_3 t0_4 t0_5 t0_6 t0_7 t0_8 t0_9 t0_10 t1_0 t2_0 t3_0 a38 lx42 lx43 lx44 1000000 0) else (((0 : Int32), t0_0, t0_1, t0_2, t0_3, t0_4, t0_5, t0_6, t0_8, t0_8, t0_9, t0_10, lx44, t3_0))) else (if lx42 < (1 : Int32) then (F_DR_takesRoot_J86 (F_DR_takesRoot_L34 x2 t0_0 t0_1 t0_2 t0_3 t0_4 t0_5 t0_6 t0_7 t0_8 t0_9 t0_10 t1_0 t2_0 t3_0 a38 fm) x2 t0_0 t0_1 t0_2 t0_3 t0_4 t0_5 t0_6 t0_7 t0_8 t0_9 t0_10 t1_0 t2_0 t3_0 a38 lx42 lx43 lx44 ((t0_8 - 1 : Int32) - lx42 : Int32)) else (if t0_2 ≤ (lx42 - 1 : Int32) then (F_DR_takesRoot_J86 (F_DR_takesRoot_L34 x2 t0_0 t0_1 t0_2 t0_3 t0_4 t0_5 t0_6 t0_7 t0_8 t0_9 t0_10 t1_0 t2_0 t3_0 a38 fm) x2 t0_0 t0_1 t0_2 t0_3 t0_4 t0_5 t0_6 t0_7 t0_8 t0_9 t0_10 t1_0 t2_0 t3_0 a38 lx42 lx43 lx44 ((t0_8 - 1 : Int32) - lx42 : Int32)) else (F_DR_takesRoot_J87 (F_DR_takesRoot_L34 x2 t0_0 t0_1 t0_2 t0_3 t0_4 t0_5 t0_6 t0_7 t0_8 t0_9 t0_10 t1_0 t2_0 t3_0 a38 fm) x2 t0_0 t0_1 t0_2 t0_3 t0_4 t0_5 t0_6 t0_7 t0_8 t0_9 t0_10 t1_0 t2_0 t3_0 a38 lx42 lx43 lx44 ((t0_8 - 1 : Int32) - lx42 : Int32) (t1_0 (t0_2 - lx42 : Int32).toNatClampNeg : Int32))))
def F_DR_takesRoot_J17 (x2 : Int32) (t0_0 : Int32) (t0_1 : Int32) (t0_2 : Int32) (t0_3 : Int64) (t0_4 : Int32) (t0_5 : Int32) (t0_6 : Int32) (t0_7 : Int32) (t0_8 : Int32) (t0_9 : Int32) (t0_10 : Int32) (t1_0 : (Nat → Int32)) (t2_0 : (Nat → Int32)) (t3_0 : (Nat → Int32)) : Int32 × Int32 × Int32 × Int32 × Int64 × Int32 × Int32 × Int32 × Int32 × Int32 × Int32 × Int32 × (Nat → Int32) × (Nat → Int32) := F_DR_takesRoot_L34 x2 t0_0 t0_1 t0_2 t0_3 t0_4 t0_5 t0_6 t0_7 t0_8 t0_9 t0_10 t1_0 t2_0 t3_0 (x2 * x2 : Int32) ((t0_8.toInt - (0 : Int32).toInt).toNat + 1) 0 0 t2_0
def F_DR_takesRoot (x2 : Int32) (t0_0 : Int32) (t0_1 : Int32) (t0_2 : Int32) (t0_3 : Int64) (t0_4 : Int32) (t0_5 : Int32) (t0_6 : Int32) (t0_7 : Int32) (t0_8 : Int32) (t0_9 : Int32) (t0_10 : Int32) (t1_0 : (Nat → Int32)) (t2_0 : (Nat → Int32)) (t3_0 : (Nat → Int32)) : Int32 × Int32 × Int32 × Int32 × Int64 × Int32 × Int32 × Int32 × Int32 × Int32 × Int32 × Int32 × (Nat → Int32) × (Nat → Int32) := if x2 ≤ (0 : Int32) then (F_DR_takesRoot_J17 x2 t0_0 t0_1 t0_2 t0_3 t0_4 t0_5 t0_6 t0_7 t0_8 t0_9 t0_10 t1_0 t2_0 t3_0) else (if t0_2 < t0_8 then (F_DR_takesRoot_J17 x2 t0_0 t0_1 t0_2 t0_3 t0_4 t0_5 t0_6 t0_7 t0_8 t0_9 t0_10 t1_0 t2_0 t3_0) else (((0 : Int32), t0_0, t0_1, t0_2, t0_3, t0_4, t0_5, t0_6, t0_7, t0_8, t0_9, t0_10, t2_0, t3_0)))
def S_DR_takesRoot_L209 (K_S_DR_takesRoot_L34 : Int32 → Int32 → (Nat → Int32) → Prop) (K_S_DR_takesRoot_L141 : Int32 → Prop) (x2 : Int32) (t0_0 : Int32) (t0_1 : Int32) (t0_2 : Int32) (t0_3 : Int64) (t0_4 : Int32) (t0_5 : Int32) (t0_6 : Int32) (t0_7 : Int32) (t0_8 : Int32) (t0_9 : Int32) (t0_10 : Int32) (t1_0 : (Nat → Int32)) (t2_0 : (Nat → Int32)) (t3_0 : (Nat → Int32)) (a38 : Int32) (lx42 : Int32) (lx43 : Int32) (lx44 : (Nat → Int32)) (lx62 : Int32) : Nat → Int32 → Int32 → (Nat → Int32) → Prop
  | 0, _, _, _ => False
  | fm + 1, lx75, lx76, lx77 => if lx75 < (0 : Int32) then (True) else ((lx75.toInt ≤ 2201) ∧ ((lx75.toInt ≤ 2199) ∧ (if (0 : Int32) ≤ (((lx77 lx75.toNatClampNeg : Int32) - (lx44 lx75.toNatClampNeg : Int32) : Int32) - lx76 : Int32) then (S_DR_takesRoot_L209 K_S_DR_takesRoot_L34 K_S_DR_takesRoot_L141 x2 t0_0 t0_1 t0_2 t0_3 t0_4 t0_5 t0_6 t0_7 t0_8 t0_9 t0_10 t1_0 t2_0 t3_0 a38 lx42 lx43 lx44 lx62 fm (lx75 + (-1) : Int32) 0 (upd lx77 lx75.toNatClampNeg (((lx77 lx75.toNatClampNeg : Int32) - (lx44 lx75.toNatClampNeg : Int32) : Int32) - lx76 : Int32) : (Nat → Int32))) else (S_DR_takesRoot_L209 K_S_DR_takesRoot_L34 K_S_DR_takesRoot_L141 x2 t0_0 t0_1 t0_2 t0_3 t0_4 t0_5 t0_6 t0_7 t0_8 t0_9 t0_10 t1_0 t2_0 t3_0 a38 lx42 lx43 lx44 lx62 fm (lx75 + (-1) : Int32) 1 (upd lx77 lx75.toNatClampNeg ((((lx77 lx75.toNatClampNeg : Int32) - (lx44 lx75.toNatClampNeg : Int32) : Int32) - lx76 : Int32) + 10 : Int32) : (Nat → Int32))))))
def S_DR_takesRoot_L141 (K_S_DR_takesRoot_L34 : Int32 → Int32 → (Nat → Int32) → Prop) (x2 : Int32) (t0_0 : Int32) (t0_1 : Int32) (t0_2 : Int32) (t0_3 : Int64) (t0_4 : Int32) (t0_5 : Int32) (t0_6 : Int32) (t0_7 : Int32) (t0_8 : Int32) (t0_9 : Int32) (t0_10 : Int32) (t1_0 : (Nat → Int32)) (t2_0 : (Nat → Int32)) (t3_0 : (Nat → Int32)) (a38 : Int32) (lx42 : Int32) (lx43 : Int32) (lx44 : (Nat → Int32)) : Nat → Int32 → Prop
  | 0, _ => False
  | fm + 1, lx62 => if t0_8 ≤ lx62 then (S_DR_takesRoot_L209 K_S_DR_takesRoot_L34 (S_DR_takesRoot_L141 K_S_DR_takesRoot_L34 x2 t0_0 t0_1 t0_2 t0_3 t0_4 t0_5 t0_6 t0_7 t0_8 t0_9 t0_10 t1_0 t2_0 t3_0 a38 lx42 lx43 lx44 fm) x2 t0_0 t0_1 t0_2 t0_3 t0_4 t0_5 t0_6 t0_7 t0_8 t0_9 t0_10 t1_0 t2_0 t3_0 a38 lx42 lx43 lx44 lx62 (((t0_8 - 1 : Int32).toInt - ((-1))).toNat + 1) (t0_8 - 1 : Int32) 0 t3_0) else ((0 ≤ lx62.toInt) ∧ ((lx62.toInt ≤ 2201) ∧ ((lx62.toInt ≤ 2199) ∧ (if (t3_0 lx62.toNatClampNeg : Int32) = (lx44 lx62.toNatClampNeg : Int32) then (S_DR_takesRoot_L141 K_S_DR_takesRoot_L34 x2 t0_0 t0_1 t0_2 t0_3 t0_4 t0_5 t0_6 t0_7 t0_8 t0_9 t0_10 t1_0 t2_0 t3_0 a38 lx42 lx43 lx44 fm (lx62 + 1 : Int32)) else (if (lx44 lx62.toNatClampNeg : Int32) ≤ (t3_0 lx62.toNatClampNeg : Int32) then (S_DR_takesRoot_L141 K_S_DR_takesRoot_L34 x2 t0_0 t0_1 t0_2 t0_3 t0_4 t0_5 t0_6 t0_7 t0_8 t0_9 t0_10 t1_0 t2_0 t3_0 a38 lx42 lx43 lx44 fm (t0_8 + 1 : Int32)) else (True))))))
def S_DR_takesRoot_J104 (K_S_DR_takesRoot_L34 : Int32 → Int32 → (Nat → Int32) → Prop) (x2 : Int32) (t0_0 : Int32) (t0_1 : Int32) (t0_2 : Int32) (t0_3 : Int64) (t0_4 : Int32) (t0_5 : Int32) (t0_6 : Int32) (t0_7 : Int32) (t0_8 : Int32) (t0_9 : Int32) (t0_10 : Int32) (t1_0 : (Nat → Int32)) (t2_0 : (Nat → Int32)) (t3_0 : (Nat → Int32)) (a38 : Int32) (lx42 : Int32) (lx43 : Int32) (lx44 : (Nat → Int32)) (a155 : Int32) (lx158 : Int32) (lx169 : Int32) : Prop := (a155.toInt ≤ 2199) ∧ (K_S_DR_takesRoot_L34 (lx42 + 1 : Int32) ((lx169 + lx43 : Int32) / 10 : Int32) (upd lx44 a155.toNatClampNeg ((lx169 + lx43 : Int32) - (lx169 + lx43 : Int32) / 10 * 10 : Int32) : (Nat → Int32)))
def S_DR_takesRoot_J87 (K_S_DR_takesRoot_L34 : Int32 → Int32 → (Nat → Int32) → Prop) (x2 : Int32) (t0_0 : Int32) (t0_1 : Int32) (t0_2 : Int32) (t0_3 : Int64) (t0_4 : Int32) (t0_5 : Int32) (t0_6 : Int32) (t0_7 : Int32) (t0_8 : Int32) (t0_9 : Int32) (t0_10 : Int32) (t1_0 : (Nat → Int32)) (t2_0 : (Nat → Int32)) (t3_0 : (Nat → Int32)) (a38 : Int32) (lx42 : Int32) (lx43 : Int32) (lx44 : (Nat → Int32)) (a155 : Int32) (lx158 : Int32) : Prop := if lx42 = (0 : Int32) then (S_DR_takesRoot_J104 K_S_DR_takesRoot_L34 x2 t0_0 t0_1 t0_2 t0_3 t0_4 t0_5 t0_6 t0_7 t0_8 t0_9 t0_10 t1_0 t2_0 t3_0 a38 lx42 lx43 lx44 a155 lx158 a38) else (S_DR_takesRoot_J104 K_S_DR_takesRoot_L34 x2 t0_0 t0_1 t0_2 t0_3 t0_4 t0_5 t0_6 t0_7 t0_8 t0_9 t0_10 t1_0 t2_0 t3_0 a38 lx42 lx43 lx44 a155 lx158 ((2 * lx158 : Int32) * x2 : Int32))
def S_DR_takesRoot_J86 (K_S_DR_takesRoot_L34 : Int32 → Int32 → (Nat → Int32) → Prop) (x2 : Int32) (t0_0 : Int32) (t0_1 : Int32) (t0_2 : Int32) (t0_3 : Int64) (t0_4 : Int32) (t0_5 : Int32) (t0_6 : Int32) (t0_7 : Int32) (t0_8 : Int32) (t0_9 : Int32) (t0_10 : Int32) (t1_0 : (Nat → Int32)) (t2_0 : (Nat → Int32)) (t3_0 : (Nat → Int32)) (a38 : Int32) (lx42 : Int32) (lx43 : Int32) (lx44 : (Nat → Int32)) (a155 : Int32) : Prop := S_DR_takesRoot_J87 K_S_DR_takesRoot_L34 x2 t0_0 t0_1 t0_2 t0_3 t0_4 t0_5 t0_6 t0_7 t0_8 t0_9 t0_10 t1_0 t2_0 t3_0 a38 lx42 lx43 lx44 a155 0
def S_DR_takesRoot_L34 (x2 : Int32) (t0_0 : Int32) (t0_1 : Int32) (t0_2 : Int32) (t0_3 : Int64) (t0_4 : Int32) (t0_5 : Int32) (t0_6 : Int32) (t0_7 : Int32) (t0_8 : Int32) (t0_9 : Int32) (t0_10 : Int32) (t1_0 : (Nat → Int32)) (t2_0 : (Nat → Int32)) (t3_0 : (Nat → Int32)) (a38 : Int32) : Nat → Int32 → Int32 → (Nat → Int32) → Prop
  | 0, _, _, _ => False
  | fm + 1, lx42, lx43, lx44 => if t0_8 ≤ lx42 then (if lx43 ≤ (0 : Int32) then (S_DR_takesRoot_L141 (S_DR_takesRoot_L34 x2 t0_0 t0_1 t0_2 t0_3 t0_4 t0_5 t0_6 t0_7 t0_8 t0_9 t0_10 t1_0 t2_0 t3_0 a38 fm) x2 t0_0 t0_1 t0_2 t0_3 t0_4 t0_5 t0_6 t0_7 t0_8 t0_9 t0_10 t1_0 t2_0 t3_0 a38 lx42 lx43 lx44 1000000 0) else (True)) else (if lx42 < (1 : Int32) then (S_DR_takesRoot_J86 (S_DR_takesRoot_L34 x2 t0_0 t0_1 t0_2 t0_3 t0_4 t0_5 t0_6 t0_7 t0_8 t0_9 t0_10 t1_0 t2_0 t3_0 a38 fm) x2 t0_0 t0_1 t0_2 t0_3 t0_4 t0_5 t0_6 t0_7 t0_8 t0_9 t0_10 t1_0 t2_0 t3_0 a38 lx42 lx43 lx44 ((t0_8 - 1 : Int32) - lx42 : Int32)) else (if t0_2 ≤ (lx42 - 1 : Int32) then (S_DR_takesRoot_J86 (S_DR_takesRoot_L34 x2 t0_0 t0_1 t0_2 t0_3 t0_4 t0_5 t0_6 t0_7 t0_8 t0_9 t0_10 t1_0 t2_0 t3_0 a38 fm) x2 t0_0 t0_1 t0_2 t0_3 t0_4 t0_5 t0_6 t0_7 t0_8 t0_9 t0_10 t1_0 t2_0 t3_0 a38 lx42 lx43 lx44 ((t0_8 - 1 : Int32) - lx42 : Int32)) else (((t0_2 - lx42 : Int32).toInt ≤ 4399) ∧ (S_DR_takesRoot_J87 (S_DR_takesRoot_L34 x2 t0_0 t0_1 t0_2 t0_3 t0_4 t0_5 t0_6 t0_7 t0_8 t0_9 t0_10 t1_0 t2_0 t3_0 a38 fm) x2 t0_0 t0_1 t0_2 t0_3 t0_4 t0_5 t0_6 t0_7 t0_8 t0_9 t0_10 t1_0 t2_0 t3_0 a38 lx42 lx43 lx44 ((t0_8 - 1 : Int32) - lx42 : Int32) (t1_0 (t0_2 - lx42 : Int32).toNatClampNeg : Int32)))))
def S_DR_takesRoot_J17 (x2 : Int32) (t0_0 : Int32) (t0_1 : Int32) (t0_2 : Int32) (t0_3 : Int64) (t0_4 : Int32) (t0_5 : Int32) (t0_6 : Int32) (t0_7 : Int32) (t0_8 : Int32) (t0_9 : Int32) (t0_10 : Int32) (t1_0 : (Nat → Int32)) (t2_0 : (Nat → Int32)) (t3_0 : (Nat → Int32)) : Prop := S_DR_takesRoot_L34 x2 t0_0 t0_1 t0_2 t0_3 t0_4 t0_5 t0_6 t0_7 t0_8 t0_9 t0_10 t1_0 t2_0 t3_0 (x2 * x2 : Int32) ((t0_8.toInt - (0 : Int32).toInt).toNat + 1) 0 0 t2_0
def S_DR_takesRoot (x2 : Int32) (t0_0 : Int32) (t0_1 : Int32) (t0_2 : Int32) (t0_3 : Int64) (t0_4 : Int32) (t0_5 : Int32) (t0_6 : Int32) (t0_7 : Int32) (t0_8 : Int32) (t0_9 : Int32) (t0_10 : Int32) (t1_0 : (Nat → Int32)) (t2_0 : (Nat → Int32)) (t3_0 : (Nat → Int32)) : Prop := if x2 ≤ (0 : Int32) then (S_DR_takesRoot_J17 x2 t0_0 t0_1 t0_2 t0_3 t0_4 t0_5 t0_6 t0_7 t0_8 t0_9 t0_10 t1_0 t2_0 t3_0) else (if t0_2 < t0_8 then (S_DR_takesRoot_J17 x2 t0_0 t0_1 t0_2 t0_3 t0_4 t0_5 t0_6 t0_7 t0_8 t0_9 t0_10 t1_0 t2_0 t3_0) else (True))
set_option maxRecDepth 100000 in
set_option maxHeartbeats 4000000 in
theorem X_DR_takesRoot (l : Launch) (D : va_G) (g : Nat → ClassId) (q : Nat → Nat) (ws : va_W) (x2 : Int32) (hI : q_I (msh g q) q ws) (t0_0 : Int32) (t0_1 : Int32) (t0_2 : Int32) (t0_3 : Int64) (t0_4 : Int32) (t0_5 : Int32) (t0_6 : Int32) (t0_7 : Int32) (t0_8 : Int32) (t0_9 : Int32) (t0_10 : Int32) (hT0 : ws[134]? = (some (q 134, .inr (14, [.int t0_0, .ref (q 135), .int t0_1, .ref (q 136), .ref (q 137), .ref (q 138), .ref (q 139), .ref (q 140), .int t0_2, .long t0_3, .int t0_4, .int t0_5, .ref (q 141), .int t0_6, .ref (q 142), .int t0_7, .ref (q 143), .int t0_8, .ref (q 144), .int t0_9, .int t0_10])) : Option (Nat × va_E))) (t1_0 : (Nat → Int32)) (hT1 : ws[140]? = (some (q 140, .inl (g 0, (4400 : Int32).toNatClampNeg, .inl t1_0)) : Option (Nat × va_E))) (t2_0 : (Nat → Int32)) (hT2 : ws[142]? = (some (q 142, .inl (g 0, (2200 : Int32).toNatClampNeg, .inl t2_0)) : Option (Nat × va_E))) (t3_0 : (Nat → Int32)) (hT3 : ws[143]? = (some (q 143, .inl (g 0, (2202 : Int32).toNatClampNeg, .inl t3_0)) : Option (Nat × va_E))) (hS : True ∧ S_DR_takesRoot x2 t0_0 t0_1 t0_2 t0_3 t0_4 t0_5 t0_6 t0_7 t0_8 t0_9 t0_10 t1_0 t2_0 t3_0) : q_mI l y_DR_takesRoot prog_15_method_40_code 8 (.boolean) 1 0 0 D g [.ref (q 134), .int x2] ws (fun r u => q_I (msh g q) q u ∧ q_un ws u [134, 142, 143] ∧ ∃ (u0_0 : Int32) (u0_1 : Int32) (u0_2 : Int32) (u0_3 : Int64) (u0_4 : Int32) (u0_5 : Int32) (u0_6 : Int32) (u0_7 : Int32) (u0_8 : Int32) (u0_9 : Int32) (u0_10 : Int32) (u2_0 : (Nat → Int32)) (u3_0 : (Nat → Int32)), u[134]? = (some (q 134, .inr (14, [.int u0_0, .ref (q 135), .int u0_1, .ref (q 136), .ref (q 137), .ref (q 138), .ref (q 139), .ref (q 140), .int u0_2, .long u0_3, .int u0_4, .int u0_5, .ref (q 141), .int u0_6, .ref (q 142), .int u0_7, .ref (q 143), .int u0_8, .ref (q 144), .int u0_9, .int u0_10])) : Option (Nat × va_E)) ∧ u[142]? = (some (q 142, .inl (g 0, (2200 : Int32).toNatClampNeg, .inl u2_0)) : Option (Nat × va_E)) ∧ u[143]? = (some (q 143, .inl (g 0, (2202 : Int32).toNatClampNeg, .inl u3_0)) : Option (Nat × va_E)) ∧ (0 ≤ r.toInt) ∧ (r.toInt ≤ 1) ∧ (t0_0.toInt ≤ u0_0.toInt) ∧ (u0_0.toInt ≤ t0_0.toInt) ∧ (t0_1.toInt ≤ u0_1.toInt) ∧ (u0_1.toInt ≤ t0_1.toInt) ∧ (t0_2.toInt ≤ u0_2.toInt) ∧ (u0_2.toInt ≤ t0_2.toInt) ∧ (t0_3.toInt ≤ u0_3.toInt) ∧ (u0_3.toInt ≤ t0_3.toInt) ∧ (t0_4.toInt ≤ u0_4.toInt) ∧ (u0_4.toInt ≤ t0_4.toInt) ∧ (t0_5.toInt ≤ u0_5.toInt) ∧ (u0_5.toInt ≤ t0_5.toInt) ∧ (t0_6.toInt ≤ u0_6.toInt) ∧ (u0_6.toInt ≤ t0_6.toInt) ∧ (t0_8.toInt ≤ u0_8.toInt) ∧ (u0_8.toInt ≤ t0_8.toInt) ∧ (t0_9.toInt ≤ u0_9.toInt) ∧ (u0_9.toInt ≤ t0_9.toInt) ∧ (t0_10.toInt ≤ u0_10.toInt) ∧ (u0_10.toInt ≤ t0_10.toInt) ∧ (r, u0_0, u0_1, u0_2, u0_3, u0_4, u0_5, u0_6, u0_7, u0_8, u0_9, u0_10, u2_0, u3_0) = (F_DR_takesRoot x2 t0_0 t0_1 t0_2 t0_3 t0_4 t0_5 t0_6 t0_7 t0_8 t0_9 t0_10 t1_0 t2_0 t3_0)) := by
  intro sz
  refine q_into (by decide) (Nat.le_of_ble_eq_true rfl) ?_
  intro p e s m below meth c ls hsz C0 V hl
  have hx := C0.1
  have hb := C0.2.1
  obtain ⟨btt0_1, hZ9⟩ := n_w134 hI hT0
  obtain ⟨btt0_4, hZ9⟩ := hZ9
  obtain ⟨btt0_5, btt0_9⟩ := hZ9
  replace btt0_1 : q_F (0 ≤ t0_1.toInt ∧ t0_1.toInt ≤ 4100) := btt0_1
  replace btt0_4 : q_F (0 ≤ t0_4.toInt ∧ t0_4.toInt ≤ 1) := btt0_4
  replace btt0_5 : q_F (0 ≤ t0_5.toInt ∧ t0_5.toInt ≤ 1) := btt0_5
  replace btt0_9 : q_F (0 ≤ t0_9.toInt ∧ t0_9.toInt ≤ 12200) := btt0_9
  have hF : q_un ws ws [134, 142, 143] := q_u0
  have hl : lv_has ls 8 [(0, .ref (q 134)), (1, .int x2)] := hl
  refine lv_iload_n hx hb d_15_40_0 rfl (lv_at hl 1 rfl) ?_
  refine q_join (X := Unit) (fun z H locs ls _ => q_Wd D g (va_A ws sz) s ws H locs ∧ lv_has ls 8 [(0, .ref (q 134)), (1, .int x2)] ∧ F_DR_takesRoot_J17 x2 t0_0 t0_1 t0_2 t0_3 t0_4 t0_5 t0_6 t0_7 t0_8 t0_9 t0_10 t1_0 t2_0 t3_0 = (F_DR_takesRoot x2 t0_0 t0_1 t0_2 t0_3 t0_4 t0_5 t0_6 t0_7 t0_8 t0_9 t0_10 t1_0 t2_0 t3_0) ∧ True ∧ S_DR_takesRoot_J17 x2 t0_0 t0_1 t0_2 t0_3 t0_4 t0_5 t0_6 t0_7 t0_8 t0_9 t0_10 t1_0 t2_0 t3_0) (fun z => []) 17 0 0 ?_ ?_
  ·
    rintro _ H locs ls _ ⟨V, hl, hR31, hS32⟩
    replace hl : lv_has ls 8 [(0, .ref (q 134)), (1, .int x2)] := hl
    refine lv_aload_n hx hb d_15_40_17 rfl (lv_at hl 0 rfl) ?_
    refine lv_aload_n hx hb d_15_40_18 rfl (lv_at hl 0 rfl) ?_
    refine q_get (ci := 14) (j := 17) (v := .int t0_8) C0 V i_DR rfl rfl hT0 (by decide) w_2020 rfl d_15_40_19 ?_
    refine q_put (ci := 14) (j := 15) (v := .int t0_8) (ty := .int) C0 V i_DR o_DR n_DR rfl rfl hT0 (by decide) w_2018 rfl rfl rfl rfl (Nat.le_of_ble_eq_true rfl) d_15_40_22 (fun H locs w36 hu37 hT0 V => ?_)
    replace hT0 : w36[134]? = (some (q 134, .inr (14, [.int t0_0, .ref (q 135), .int t0_1, .ref (q 136), .ref (q 137), .ref (q 138), .ref (q 139), .ref (q 140), .int t0_2, .long t0_3, .int t0_4, .int t0_5, .ref (q 141), .int t0_6, .ref (q 142), .int t0_8, .ref (q 143), .int t0_8, .ref (q 144), .int t0_9, .int t0_10])) : Option (Nat × va_E)) := hT0
    replace hI := n_p134 hI hu37 hT0 (by first | with_reducible exact q_fe btt0_1 | exact ⟨(by have t1 : 0 ≤ t0_1.toInt ∧ t0_1.toInt ≤ 4100 := btt0_1; omega), (by have t1 : 0 ≤ t0_1.toInt ∧ t0_1.toInt ≤ 4100 := btt0_1; omega)⟩) (by first | with_reducible exact q_fe btt0_4 | exact ⟨(by have t1 : 0 ≤ t0_4.toInt ∧ t0_4.toInt ≤ 1 := btt0_4; omega), (by have t1 : 0 ≤ t0_4.toInt ∧ t0_4.toInt ≤ 1 := btt0_4; omega)⟩) (by first | with_reducible exact q_fe btt0_5 | exact ⟨(by have t1 : 0 ≤ t0_5.toInt ∧ t0_5.toInt ≤ 1 := btt0_5; omega), (by have t1 : 0 ≤ t0_5.toInt ∧ t0_5.toInt ≤ 1 := btt0_5; omega)⟩) (by first | with_reducible exact q_fe btt0_9 | exact ⟨(by have t1 : 0 ≤ t0_9.toInt ∧ t0_9.toInt ≤ 12200 := btt0_9; omega), (by have t1 : 0 ≤ t0_9.toInt ∧ t0_9.toInt ≤ 12200 := btt0_9; omega)⟩)
    replace hT1 := (hu37 _ (by decide)).trans hT1
    replace hT2 := (hu37 _ (by decide)).trans hT2
    replace hT3 := (hu37 _ (by decide)).trans hT3
    replace hF := q_us hF hu37 (by simp)
    refine lv_iconst (v := 0) hx hb d_15_40_25 (by decide) ?_
    refine lv_istore_n (lv' := [(2, .int 0), (0, .ref (q 134)), (1, .int x2)]) hx hb d_15_40_26 rfl hl (by decide) rfl (fun ls hl => ?_)
    refine lv_iload_n hx hb d_15_40_27 rfl (lv_at hl 2 rfl) ?_
    refine lv_iload_n hx hb d_15_40_28 rfl (lv_at hl 2 rfl) ?_
    refine lv_imul hx hb d_15_40_29 ?_
    obtain ⟨a38, e39⟩ := q_nm (x2 * x2 : Int32)
    refine q_ti (v := a38) e39 ?_
    refine lv_istore_n (lv' := [(3, .int a38), (2, .int 0), (0, .ref (q 134)), (1, .int x2)]) hx hb d_15_40_30 rfl hl (by decide) rfl (fun ls hl => ?_)
    refine lv_iconst (v := 0) hx hb d_15_40_31 (by decide) ?_
    refine lv_istore (lv' := [(4, .int 0), (3, .int a38), (2, .int 0), (0, .ref (q 134)), (1, .int x2)]) hx hb d_15_40_32 hl (by decide) rfl (fun ls hl => ?_)
    refine q_loop (X := Int32 × Int32 × (Nat → Int32)) (fun z H locs ls w47 => q_F (0 ≤ z.1.toInt) ∧ q_Wd D g (va_A ws sz) s w47 H locs ∧ lv_has ls 8 [(4, .int z.1), (3, .int a38), (2, .int z.2.1), (0, .ref (q 134)), (1, .int x2)] ∧ q_I (msh g q) q w47 ∧ q_un ws w47 [134, 142, 143] ∧ w47[134]? = (some (q 134, .inr (14, [.int t0_0, .ref (q 135), .int t0_1, .ref (q 136), .ref (q 137), .ref (q 138), .ref (q 139), .ref (q 140), .int t0_2, .long t0_3, .int t0_4, .int t0_5, .ref (q 141), .int t0_6, .ref (q 142), .int t0_8, .ref (q 143), .int t0_8, .ref (q 144), .int t0_9, .int t0_10])) : Option (Nat × va_E)) ∧ w47[140]? = (some (q 140, .inl (g 0, (4400 : Int32).toNatClampNeg, .inl t1_0)) : Option (Nat × va_E)) ∧ w47[142]? = (some (q 142, .inl (g 0, (2200 : Int32).toNatClampNeg, .inl z.2.2)) : Option (Nat × va_E)) ∧ w47[143]? = (some (q 143, .inl (g 0, (2202 : Int32).toNatClampNeg, .inl t3_0)) : Option (Nat × va_E)) ∧ (∃ n, (t0_8.toInt - z.1.toInt).toNat < n ∧ F_DR_takesRoot_L34 x2 t0_0 t0_1 t0_2 t0_3 t0_4 t0_5 t0_6 t0_7 t0_8 t0_9 t0_10 t1_0 t2_0 t3_0 a38 n z.1 z.2.1 z.2.2 = (F_DR_takesRoot x2 t0_0 t0_1 t0_2 t0_3 t0_4 t0_5 t0_6 t0_7 t0_8 t0_9 t0_10 t1_0 t2_0 t3_0) ∧ True ∧ S_DR_takesRoot_L34 x2 t0_0 t0_1 t0_2 t0_3 t0_4 t0_5 t0_6 t0_7 t0_8 t0_9 t0_10 t1_0 t2_0 t3_0 a38 n z.1 z.2.1 z.2.2)) (fun z => (t0_8.toInt - z.1.toInt).toNat) ?_ ((0 : Int32), (0 : Int32), (t2_0 : (Nat → Int32))) _ _ _ w36 ⟨(show q_F (0 ≤ 0) from (show 0 ≤ 0 from by omega)), V, q_lw hl (q_lw1 0 rfl (q_lw1 1 rfl (q_lw1 2 rfl (q_lw1 3 rfl (q_lw1 4 rfl q_lw0))))), hI, hF, hT0, hT1, hT2, hT3, ⟨((t0_8.toInt - (0 : Int32).toInt).toNat + 1), Nat.lt_succ_self _, (show F_DR_takesRoot_L34 x2 t0_0 t0_1 t0_2 t0_3 t0_4 t0_5 t0_6 t0_7 t0_8 t0_9 t0_10 t1_0 t2_0 t3_0 a38 ((t0_8.toInt - (0 : Int32).toInt).toNat + 1) 0 0 t2_0 = (F_DR_takesRoot x2 t0_0 t0_1 t0_2 t0_3 t0_4 t0_5 t0_6 t0_7 t0_8 t0_9 t0_10 t1_0 t2_0 t3_0) from Eq.trans (by rw [← e39, F_DR_takesRoot_J17.eq_1]) hR31), (show True ∧ S_DR_takesRoot_L34 x2 t0_0 t0_1 t0_2 t0_3 t0_4 t0_5 t0_6 t0_7 t0_8 t0_9 t0_10 t1_0 t2_0 t3_0 a38 ((t0_8.toInt - (0 : Int32).toInt).toNat + 1) 0 0 t2_0 from (by rw [← e39]; have h := hS32; rw [S_DR_takesRoot_J17.eq_1] at h; with_reducible exact h))⟩⟩
    rintro ⟨lx42, lx43, lx44⟩ H locs ls w47 ⟨i45, V, hl, hI, hF, hO48, hO49, hO50, hO51, ⟨fu54, hf55, hR52, hS53⟩⟩ ih46
    obtain ⟨fm56, rfl⟩ : ∃ m, fu54 = m + 1 := ⟨fu54 - 1, by omega⟩
    replace i45 : q_F (0 ≤ lx42.toInt) := i45
    replace hl : lv_has ls 8 [(4, .int lx42), (3, .int a38), (2, .int lx43), (0, .ref (q 134)), (1, .int x2)] := hl
    replace hO48 : w47[134]? = (some (q 134, .inr (14, [.int t0_0, .ref (q 135), .int t0_1, .ref (q 136), .ref (q 137), .ref (q 138), .ref (q 139), .ref (q 140), .int t0_2, .long t0_3, .int t0_4, .int t0_5, .ref (q 141), .int t0_6, .ref (q 142), .int t0_8, .ref (q 143), .int t0_8, .ref (q 144), .int t0_9, .int t0_10])) : Option (Nat × va_E)) := hO48
    replace hO49 : w47[140]? = (some (q 140, .inl (g 0, (4400 : Int32).toNatClampNeg, .inl t1_0)) : Option (Nat × va_E)) := hO49
    replace hO50 : w47[142]? = (some (q 142, .inl (g 0, (2200 : Int32).toNatClampNeg, .inl lx44)) : Option (Nat × va_E)) := hO50
    replace hO51 : w47[143]? = (some (q 143, .inl (g 0, (2202 : Int32).toNatClampNeg, .inl t3_0)) : Option (Nat × va_E)) := hO51
    refine lv_iload hx hb d_15_40_34 (lv_at hl 0 rfl) ?_
    refine lv_aload_n hx hb d_15_40_36 rfl (lv_at hl 3 rfl) ?_
    refine q_get (ci := 14) (j := 15) (v := .int t0_8) C0 V i_DR rfl rfl hO48 (by decide) w_2018 rfl d_15_40_37 ?_
    refine lv_icmp_ge (tgt := 132) hx hb d_15_40_40 (by decide) (fun c57 => ?_) (fun c57 => ?_)
    ·
      refine lv_iload_n hx hb d_15_40_132 rfl (lv_at hl 2 rfl) ?_
      refine lv_if_le (tgt := 138) hx hb d_15_40_133 (by decide) (fun c59 => ?_) (fun c59 => ?_)
      ·
        refine lv_iconst (v := 0) hx hb d_15_40_138 (by decide) ?_
        refine lv_istore (lv' := [(4, .int 0), (3, .int a38), (2, .int lx43), (0, .ref (q 134)), (1, .int x2)]) hx hb d_15_40_139 hl (by decide) rfl (fun ls hl => ?_)
        refine q_loop (X := Nat × Int32) (fun z H locs ls _ => q_Wd D g (va_A ws sz) s w47 H locs ∧ lv_has ls 8 [(4, .int z.2), (0, .ref (q 134))] ∧ F_DR_takesRoot_L141 (F_DR_takesRoot_L34 x2 t0_0 t0_1 t0_2 t0_3 t0_4 t0_5 t0_6 t0_7 t0_8 t0_9 t0_10 t1_0 t2_0 t3_0 a38 fm56) x2 t0_0 t0_1 t0_2 t0_3 t0_4 t0_5 t0_6 t0_7 t0_8 t0_9 t0_10 t1_0 t2_0 t3_0 a38 lx42 lx43 lx44 z.1 z.2 = (F_DR_takesRoot x2 t0_0 t0_1 t0_2 t0_3 t0_4 t0_5 t0_6 t0_7 t0_8 t0_9 t0_10 t1_0 t2_0 t3_0) ∧ True ∧ S_DR_takesRoot_L141 (S_DR_takesRoot_L34 x2 t0_0 t0_1 t0_2 t0_3 t0_4 t0_5 t0_6 t0_7 t0_8 t0_9 t0_10 t1_0 t2_0 t3_0 a38 fm56) x2 t0_0 t0_1 t0_2 t0_3 t0_4 t0_5 t0_6 t0_7 t0_8 t0_9 t0_10 t1_0 t2_0 t3_0 a38 lx42 lx43 lx44 z.1 z.2) (fun z => z.1) ?_ ((1000000 : Nat), (0 : Int32)) _ _ _ w47 ⟨V, q_lw hl (q_lw1 0 rfl (q_lw1 3 rfl q_lw0)), (show F_DR_takesRoot_L141 (F_DR_takesRoot_L34 x2 t0_0 t0_1 t0_2 t0_3 t0_4 t0_5 t0_6 t0_7 t0_8 t0_9 t0_10 t1_0 t2_0 t3_0 a38 fm56) x2 t0_0 t0_1 t0_2 t0_3 t0_4 t0_5 t0_6 t0_7 t0_8 t0_9 t0_10 t1_0 t2_0 t3_0 a38 lx42 lx43 lx44 1000000 0 = (F_DR_takesRoot x2 t0_0 t0_1 t0_2 t0_3 t0_4 t0_5 t0_6 t0_7 t0_8 t0_9 t0_10 t1_0 t2_0 t3_0) from Eq.trans (by rw [F_DR_takesRoot_L34.eq_2, if_pos c57, if_pos c59]) hR52), (show True ∧ S_DR_takesRoot_L141 (S_DR_takesRoot_L34 x2 t0_0 t0_1 t0_2 t0_3 t0_4 t0_5 t0_6 t0_7 t0_8 t0_9 t0_10 t1_0 t2_0 t3_0 a38 fm56) x2 t0_0 t0_1 t0_2 t0_3 t0_4 t0_5 t0_6 t0_7 t0_8 t0_9 t0_10 t1_0 t2_0 t3_0 a38 lx42 lx43 lx44 1000000 0 from (by have h := hS53; rw [S_DR_takesRoot_L34.eq_2] at h; rw [if_pos c57] at h; rw [if_pos c59] at h; with_reducible exact h))⟩
        rintro ⟨fu66, lx62⟩ H locs ls _ ⟨V, hl, hR64, hS65⟩ ih63
        obtain ⟨fm68, rfl⟩ : ∃ m, fu66 = m + 1 := Nat.exists_eq_succ_of_ne_zero (fun e => by subst e; rw [S_DR_takesRoot_L141.eq_1] at hS65; exact hS65.2)
        replace hl : lv_has ls 8 [(4, .int lx62), (0, .ref (q 134))] := hl
        refine lv_iload hx hb d_15_40_141 (lv_at hl 0 rfl) ?_
        refine lv_aload_n hx hb d_15_40_143 rfl (lv_at hl 1 rfl) ?_
        refine q_get (ci := 14) (j := 15) (v := .int t0_8) C0 V i_DR rfl rfl hO48 (by decide) w_2018 rfl d_15_40_144 ?_
        refine lv_icmp_ge (tgt := 198) hx hb d_15_40_147 (by decide) (fun c69 => ?_) (fun c69 => ?_)
        ·
          refine lv_iconst (v := 0) hx hb d_15_40_198 (by decide) ?_
          refine lv_istore (lv' := [(4, .int 0), (0, .ref (q 134))]) hx hb d_15_40_199 hl (by decide) rfl (fun ls hl => ?_)
          refine lv_aload_n hx hb d_15_40_201 rfl (lv_at hl 1 rfl) ?_
          refine q_get (ci := 14) (j := 15) (v := .int t0_8) C0 V i_DR rfl rfl hO48 (by decide) w_2018 rfl d_15_40_202 ?_
          refine lv_iconst (v := 1) hx hb d_15_40_205 (by decide) ?_
          refine lv_isub hx hb d_15_40_206 ?_
          obtain ⟨a71, e72⟩ := q_nm (t0_8 - 1 : Int32)
          refine q_ti (v := a71) e72 ?_
          refine lv_istore (lv' := [(5, .int a71), (4, .int 0), (0, .ref (q 134))]) hx hb d_15_40_207 hl (by decide) rfl (fun ls hl => ?_)
          refine q_loop (X := Int32 × Int32 × (Nat → Int32)) (fun z H locs ls w82 => q_F (0 ≤ z.2.1.toInt) ∧ q_F (z.2.1.toInt ≤ 1) ∧ q_F (z.1.toInt + z.2.1.toInt ≤ a71.toInt) ∧ q_Wd D g (va_A ws sz) s w82 H locs ∧ lv_has ls 8 [(5, .int z.1), (4, .int z.2.1), (0, .ref (q 134))] ∧ q_I (msh g q) q w82 ∧ q_un ws w82 [134, 142, 143] ∧ w82[134]? = (some (q 134, .inr (14, [.int t0_0, .ref (q 135), .int t0_1, .ref (q 136), .ref (q 137), .ref (q 138), .ref (q 139), .ref (q 140), .int t0_2, .long t0_3, .int t0_4, .int t0_5, .ref (q 141), .int t0_6, .ref (q 142), .int t0_8, .ref (q 143), .int t0_8, .ref (q 144), .int t0_9, .int t0_10])) : Option (Nat × va_E)) ∧ w82[140]? = (some (q 140, .inl (g 0, (4400 : Int32).toNatClampNeg, .inl t1_0)) : Option (Nat × va_E)) ∧ w82[142]? = (some (q 142, .inl (g 0, (2200 : Int32).toNatClampNeg, .inl lx44)) : Option (Nat × va_E)) ∧ w82[143]? = (some (q 143, .inl (g 0, (2202 : Int32).toNatClampNeg, .inl z.2.2)) : Option (Nat × va_E)) ∧ (∃ n, (z.1.toInt - ((-1))).toNat < n ∧ F_DR_takesRoot_L209 (F_DR_takesRoot_L34 x2 t0_0 t0_1 t0_2 t0_3 t0_4 t0_5 t0_6 t0_7 t0_8 t0_9 t0_10 t1_0 t2_0 t3_0 a38 fm56) (F_DR_takesRoot_L141 (F_DR_takesRoot_L34 x2 t0_0 t0_1 t0_2 t0_3 t0_4 t0_5 t0_6 t0_7 t0_8 t0_9 t0_10 t1_0 t2_0 t3_0 a38 fm56) x2 t0_0 t0_1 t0_2 t0_3 t0_4 t0_5 t0_6 t0_7 t0_8 t0_9 t0_10 t1_0 t2_0 t3_0 a38 lx42 lx43 lx44 fm68) x2 t0_0 t0_1 t0_2 t0_3 t0_4 t0_5 t0_6 t0_7 t0_8 t0_9 t0_10 t1_0 t2_0 t3_0 a38 lx42 lx43 lx44 lx62 n z.1 z.2.1 z.2.2 = (F_DR_takesRoot x2 t0_0 t0_1 t0_2 t0_3 t0_4 t0_5 t0_6 t0_7 t0_8 t0_9 t0_10 t1_0 t2_0 t3_0) ∧ True ∧ S_DR_takesRoot_L209 (S_DR_takesRoot_L34 x2 t0_0 t0_1 t0_2 t0_3 t0_4 t0_5 t0_6 t0_7 t0_8 t0_9 t0_10 t1_0 t2_0 t3_0 a38 fm56) (S_DR_takesRoot_L141 (S_DR_takesRoot_L34 x2 t0_0 t0_1 t0_2 t0_3 t0_4 t0_5 t0_6 t0_7 t0_8 t0_9 t0_10 t1_0 t2_0 t3_0 a38 fm56) x2 t0_0 t0_1 t0_2 t0_3 t0_4 t0_5 t0_6 t0_7 t0_8 t0_9 t0_10 t1_0 t2_0 t3_0 a38 lx42 lx43 lx44 fm68) x2 t0_0 t0_1 t0_2 t0_3 t0_4 t0_5 t0_6 t0_7 t0_8 t0_9 t0_10 t1_0 t2_0 t3_0 a38 lx42 lx43 lx44 lx62 n z.1 z.2.1 z.2.2)) (fun z => (z.1.toInt - ((-1))).toNat) ?_ ((a71 : Int32), (0 : Int32), (t3_0 : (Nat → Int32))) _ _ _ w47 ⟨(show q_F (0 ≤ 0) from (show 0 ≤ 0 from by omega)), (show q_F (0 ≤ 1) from (show 0 ≤ 1 from by omega)), (show q_F (a71.toInt + 0 ≤ a71.toInt) from (show a71.toInt + 0 ≤ a71.toInt from by omega)), V, q_lw hl (q_lw1 0 rfl (q_lw1 1 rfl (q_lw1 2 rfl q_lw0))), hI, hF, hO48, hO49, hO50, hO51, ⟨((a71.toInt - ((-1))).toNat + 1), Nat.lt_succ_self _, (show F_DR_takesRoot_L209 (F_DR_takesRoot_L34 x2 t0_0 t0_1 t0_2 t0_3 t0_4 t0_5 t0_6 t0_7 t0_8 t0_9 t0_10 t1_0 t2_0 t3_0 a38 fm56) (F_DR_takesRoot_L141 (F_DR_takesRoot_L34 x2 t0_0 t0_1 t0_2 t0_3 t0_4 t0_5 t0_6 t0_7 t0_8 t0_9 t0_10 t1_0 t2_0 t3_0 a38 fm56) x2 t0_0 t0_1 t0_2 t0_3 t0_4 t0_5 t0_6 t0_7 t0_8 t0_9 t0_10 t1_0 t2_0 t3_0 a38 lx42 lx43 lx44 fm68) x2 t0_0 t0_1 t0_2 t0_3 t0_4 t0_5 t0_6 t0_7 t0_8 t0_9 t0_10 t1_0 t2_0 t3_0 a38 lx42 lx43 lx44 lx62 ((a71.toInt - ((-1))).toNat + 1) a71 0 t3_0 = (F_DR_takesRoot x2 t0_0 t0_1 t0_2 t0_3 t0_4 t0_5 t0_6 t0_7 t0_8 t0_9 t0_10 t1_0 t2_0 t3_0) from Eq.trans (by rw [← e72, F_DR_takesRoot_L141.eq_2, if_pos c69]) hR64), (show True ∧ S_DR_takesRoot_L209 (S_DR_takesRoot_L34 x2 t0_0 t0_1 t0_2 t0_3 t0_4 t0_5 t0_6 t0_7 t0_8 t0_9 t0_10 t1_0 t2_0 t3_0 a38 fm56) (S_DR_takesRoot_L141 (S_DR_takesRoot_L34 x2 t0_0 t0_1 t0_2 t0_3 t0_4 t0_5 t0_6 t0_7 t0_8 t0_9 t0_10 t1_0 t2_0 t3_0 a38 fm56) x2 t0_0 t0_1 t0_2 t0_3 t0_4 t0_5 t0_6 t0_7 t0_8 t0_9 t0_10 t1_0 t2_0 t3_0 a38 lx42 lx43 lx44 fm68) x2 t0_0 t0_1 t0_2 t0_3 t0_4 t0_5 t0_6 t0_7 t0_8 t0_9 t0_10 t1_0 t2_0 t3_0 a38 lx42 lx43 lx44 lx62 ((a71.toInt - ((-1))).toNat + 1) a71 0 t3_0 from (by rw [← e72]; have h := hS65; rw [S_DR_takesRoot_L141.eq_2] at h; rw [if_pos c69] at h; with_reducible exact h))⟩⟩
          rintro ⟨lx75, lx76, lx77⟩ H locs ls w82 ⟨i78, i79, i80, V, hl, hI, hF, hO83, hO84, hO85, hO86, ⟨fu89, hf90, hR87, hS88⟩⟩ ih81
          obtain ⟨fm91, rfl⟩ : ∃ m, fu89 = m + 1 := ⟨fu89 - 1, by omega⟩
          replace i78 : q_F (0 ≤ lx76.toInt) := i78
          clear i79
          replace i80 : q_F (lx75.toInt + lx76.toInt ≤ a71.toInt) := i80
          replace hl : lv_has ls 8 [(5, .int lx75), (4, .int lx76), (0, .ref (q 134))] := hl
          replace hO83 : w82[134]? = (some (q 134, .inr (14, [.int t0_0, .ref (q 135), .int t0_1, .ref (q 136), .ref (q 137), .ref (q 138), .ref (q 139), .ref (q 140), .int t0_2, .long t0_3, .int t0_4, .int t0_5, .ref (q 141), .int t0_6, .ref (q 142), .int t0_8, .ref (q 143), .int t0_8, .ref (q 144), .int t0_9, .int t0_10])) : Option (Nat × va_E)) := hO83
          replace hO84 : w82[140]? = (some (q 140, .inl (g 0, (4400 : Int32).toNatClampNeg, .inl t1_0)) : Option (Nat × va_E)) := hO84
          replace hO85 : w82[142]? = (some (q 142, .inl (g 0, (2200 : Int32).toNatClampNeg, .inl lx44)) : Option (Nat × va_E)) := hO85
          replace hO86 : w82[143]? = (some (q 143, .inl (g 0, (2202 : Int32).toNatClampNeg, .inl lx77)) : Option (Nat × va_E)) := hO86
          refine lv_iload hx hb d_15_40_209 (lv_at hl 0 rfl) ?_
          refine lv_if_lt (tgt := 274) hx hb d_15_40_211 (by decide) (fun c92 => ?_) (fun c92 => ?_)
          ·
            refine lv_iconst (v := 1) hx hb d_15_40_274 (by decide) ?_
            exact q_retz C0 V (by decide) (⟨hI, hF, t0_0, t0_1, t0_2, t0_3, t0_4, t0_5, t0_6, t0_8, t0_8, t0_9, t0_10, lx44, lx77, hO83, hO85, hO86, (show 0 ≤ (1 : Int32).toInt from (by have z15 : (1 : Int32).toInt = 1 := rfl; omega)), (show (1 : Int32).toInt ≤ 1 from (by have z15 : (1 : Int32).toInt = 1 := rfl; omega)), (show t0_0.toInt ≤ t0_0.toInt from (by have z15 : (1 : Int32).toInt = 1 := rfl; omega)), (show t0_0.toInt ≤ t0_0.toInt from (by have z15 : (1 : Int32).toInt = 1 := rfl; omega)), (show t0_1.toInt ≤ t0_1.toInt from (by have z15 : (1 : Int32).toInt = 1 := rfl; omega)), (show t0_1.toInt ≤ t0_1.toInt from (by have z15 : (1 : Int32).toInt = 1 := rfl; omega)), (show t0_2.toInt ≤ t0_2.toInt from (by have z15 : (1 : Int32).toInt = 1 := rfl; omega)), (show t0_2.toInt ≤ t0_2.toInt from (by have z15 : (1 : Int32).toInt = 1 := rfl; omega)), (show t0_3.toInt ≤ t0_3.toInt from (by have z15 : (1 : Int32).toInt = 1 := rfl; omega)), (show t0_3.toInt ≤ t0_3.toInt from (by have z15 : (1 : Int32).toInt = 1 := rfl; omega)), (show t0_4.toInt ≤ t0_4.toInt from (by have z15 : (1 : Int32).toInt = 1 := rfl; omega)), (show t0_4.toInt ≤ t0_4.toInt from (by have z15 : (1 : Int32).toInt = 1 := rfl; omega)), (show t0_5.toInt ≤ t0_5.toInt from (by have z15 : (1 : Int32).toInt = 1 := rfl; omega)), (show t0_5.toInt ≤ t0_5.toInt from (by have z15 : (1 : Int32).toInt = 1 := rfl; omega)), (show t0_6.toInt ≤ t0_6.toInt from (by have z15 : (1 : Int32).toInt = 1 := rfl; omega)), (show t0_6.toInt ≤ t0_6.toInt from (by have z15 : (1 : Int32).toInt = 1 := rfl; omega)), (show t0_8.toInt ≤ t0_8.toInt from (by have z15 : (1 : Int32).toInt = 1 := rfl; omega)), (show t0_8.toInt ≤ t0_8.toInt from (by have z15 : (1 : Int32).toInt = 1 := rfl; omega)), (show t0_9.toInt ≤ t0_9.toInt from (by have z15 : (1 : Int32).toInt = 1 := rfl; omega)), (show t0_9.toInt ≤ t0_9.toInt from (by have z15 : (1 : Int32).toInt = 1 := rfl; omega)), (show t0_10.toInt ≤ t0_10.toInt from (by have z15 : (1 : Int32).toInt = 1 := rfl; omega)), (show t0_10.toInt ≤ t0_10.toInt from (by have z15 : (1 : Int32).toInt = 1 := rfl; omega)), (show ((1 : Int32), t0_0, t0_1, t0_2, t0_3, t0_4, t0_5, t0_6, t0_8, t0_8, t0_9, t0_10, lx44, lx77) = (F_DR_takesRoot x2 t0_0 t0_1 t0_2 t0_3 t0_4 t0_5 t0_6 t0_7 t0_8 t0_9 t0_10 t1_0 t2_0 t3_0) from Eq.trans (by rw [F_DR_takesRoot_L209.eq_2, if_pos c92]) hR87)⟩) d_15_40_275
          ·
            have b94 : q_F (0 ≤ lx75.toInt) := (q_nltI c92)
            refine lv_aload_n hx hb d_15_40_214 rfl (lv_at hl 2 rfl) ?_
            refine q_get (ci := 14) (j := 16) (v := .ref (q 143)) C0 V i_DR rfl rfl hO83 (by decide) w_2019 rfl d_15_40_215 ?_
            refine lv_iload hx hb d_15_40_218 (lv_at hl 0 rfl) ?_
            have ob95 : q_F (lx75.toInt ≤ 2201) := (by have h := hS88; rw [S_DR_takesRoot_L209.eq_2] at h; rw [if_neg c92] at h; exact h.2.1)
            refine q_iald C0 V hO86 (q_ix (x := lx75.toInt) rfl (by first | with_reducible exact q_fe b94 | (have t1 : 0 ≤ lx75.toInt := b94; omega)) (by have t1 : 0 ≤ lx75.toInt := b94; have t2 : lx75.toInt ≤ 2201 := ob95; have e9 : (((2202 : Int32).toNatClampNeg : Nat) : Int) = 2202 := (by decide); omega)) d_15_40_220 ?_
            obtain ⟨a96, e97⟩ := q_nm (lx77 lx75.toNatClampNeg : Int32)
            refine q_ti (v := a96) e97 ?_
            refine lv_aload_n hx hb d_15_40_221 rfl (lv_at hl 2 rfl) ?_
            refine q_get (ci := 14) (j := 14) (v := .ref (q 142)) C0 V i_DR rfl rfl hO83 (by decide) w_2017 rfl d_15_40_222 ?_
            refine lv_iload hx hb d_15_40_225 (lv_at hl 0 rfl) ?_
            have ob98 : q_F (lx75.toInt ≤ 2199) := (by have h := hS88; rw [S_DR_takesRoot_L209.eq_2] at h; rw [if_neg c92] at h; replace h := q_s2 h; exact h.2.1)
            refine q_iald C0 V hO85 (q_ix (x := lx75.toInt) rfl (by first | with_reducible exact q_fe b94 | (have t1 : 0 ≤ lx75.toInt := b94; omega)) (by have t1 : 0 ≤ lx75.toInt := b94; have t2 : lx75.toInt ≤ 2199 := ob98; have e9 : (((2200 : Int32).toNatClampNeg : Nat) : Int) = 2200 := (by decide); omega)) d_15_40_227 ?_
            obtain ⟨a99, e100⟩ := q_nm (lx44 lx75.toNatClampNeg : Int32)
            refine q_ti (v := a99) e100 ?_
            refine lv_isub hx hb d_15_40_228 ?_
            obtain ⟨a101, e102⟩ := q_nm (a96 - a99 : Int32)
            refine q_ti (v := a101) e102 ?_
            refine lv_iload hx hb d_15_40_229 (lv_at hl 1 rfl) ?_
            refine lv_isub hx hb d_15_40_231 ?_
            obtain ⟨a103, e104⟩ := q_nm (a101 - lx76 : Int32)
            refine q_ti (v := a103) e104 ?_
            refine lv_istore (lv' := [(6, .int a103), (5, .int lx75), (4, .int lx76), (0, .ref (q 134))]) hx hb d_15_40_232 hl (by decide) rfl (fun ls hl => ?_)
            refine lv_aload_n hx hb d_15_40_234 rfl (lv_at hl 3 rfl) ?_
            refine q_get (ci := 14) (j := 16) (v := .ref (q 143)) C0 V i_DR rfl rfl hO83 (by decide) w_2019 rfl d_15_40_235 ?_
            refine lv_iload hx hb d_15_40_238 (lv_at hl 1 rfl) ?_
            refine lv_iload hx hb d_15_40_240 (lv_at hl 0 rfl) ?_
            refine lv_if_ge (tgt := 253) hx hb d_15_40_242 (by decide) (fun c105 => ?_) (fun c105 => ?_)
            ·
              have b106 : q_F (0 ≤ a103.toInt) := (q_leI c105)
              refine lv_iload hx hb d_15_40_253 (lv_at hl 0 rfl) ?_
              refine q_iast C0 V hO86 (q_ix (x := lx75.toInt) rfl (by first | with_reducible exact q_fe b94 | (have t1 : 0 ≤ lx75.toInt := b94; omega)) (by have t1 : 0 ≤ lx75.toInt := b94; have t2 : lx75.toInt ≤ 2201 := ob95; have e9 : (((2202 : Int32).toNatClampNeg : Nat) : Int) = 2202 := (by decide); omega)) d_15_40_255 (fun H locs w107 hu108 hO86 V => ?_)
              replace hI := n_ai' hI (n_r143 g q).1 hu108 hO86 (q_updB (fun _ => s_bnd) s_bnd)
              replace hO83 := (hu108 _ (by decide)).trans hO83
              replace hO84 := (hu108 _ (by decide)).trans hO84
              replace hO85 := (hu108 _ (by decide)).trans hO85
              replace hF := q_us hF hu108 (by simp)
              obtain ⟨f109, e110⟩ := q_nm (upd lx77 lx75.toNatClampNeg a103 : (Nat → Int32))
              rw [e110] at hO86
              refine lv_iload hx hb d_15_40_256 (lv_at hl 0 rfl) ?_
              refine lv_if_ge (tgt := 265) hx hb d_15_40_258 (by decide) (fun c111 => ?_) (fun c111 => absurd (show a103.toInt < 0 from q_nleI c111) (by first | with_reducible exact q_fe b106 | (have t1 : 0 ≤ a103.toInt := b106; omega)))
              refine lv_iconst (v := 0) hx hb d_15_40_265 (by decide) ?_
              refine lv_istore (lv' := [(4, .int 0), (6, .int a103), (5, .int lx75), (0, .ref (q 134))]) hx hb d_15_40_266 hl (by decide) rfl (fun ls hl => ?_)
              obtain ⟨a112, e113⟩ := q_nm (lx75 + (-1) : Int32)
              have b114 : q_F (a112.toInt = lx75.toInt + (-1)) := (by rw [← e113]; exact q_addI (y := (-1)) rfl (by decide) (by have t1 : 0 ≤ lx75.toInt := b94; have t2 : lx75.toInt ≤ 2201 := ob95; omega) (by have t1 : 0 ≤ lx75.toInt := b94; have t2 : lx75.toInt ≤ 2201 := ob95; omega))
              refine lv_iinc (v := a112) (lv' := [(5, .int a112), (4, .int 0), (6, .int a103), (0, .ref (q 134))]) hx hb d_15_40_268 hl (k := 2) rfl (e113) (by decide) rfl (fun ls hl => ?_)
              refine lv_goto (tgt := 209) hx hb d_15_40_271 (by decide) ?_
              exact ih81 ((a112 : Int32), (0 : Int32), (f109 : (Nat → Int32))) _ _ _ _ (show (a112.toInt - ((-1))).toNat < (lx75.toInt - ((-1))).toNat from by have t1 : a112.toInt = lx75.toInt + (-1) := b114; have t2 : 0 ≤ lx75.toInt := b94; omega) ⟨(show q_F (0 ≤ 0) from (show 0 ≤ 0 from by omega)), (show q_F (0 ≤ 1) from (show 0 ≤ 1 from by omega)), (show q_F (a112.toInt + 0 ≤ a71.toInt) from (show a112.toInt + 0 ≤ a71.toInt from by have t1 : 0 ≤ lx76.toInt := i78; have t2 : lx75.toInt + lx76.toInt ≤ a71.toInt := i80; have t3 : a112.toInt = lx75.toInt + (-1) := b114; omega)), V, q_lw hl (q_lw1 0 rfl (q_lw1 1 rfl (q_lw1 3 rfl q_lw0))), hI, hF, hO83, hO84, hO85, hO86, ⟨fm91, Nat.lt_of_lt_of_le (show (a112.toInt - ((-1))).toNat < (lx75.toInt - ((-1))).toNat from by have t1 : a112.toInt = lx75.toInt + (-1) := b114; have t2 : 0 ≤ lx75.toInt := b94; omega) (Nat.le_of_lt_succ hf90), (show F_DR_takesRoot_L209 (F_DR_takesRoot_L34 x2 t0_0 t0_1 t0_2 t0_3 t0_4 t0_5 t0_6 t0_7 t0_8 t0_9 t0_10 t1_0 t2_0 t3_0 a38 fm56) (F_DR_takesRoot_L141 (F_DR_takesRoot_L34 x2 t0_0 t0_1 t0_2 t0_3 t0_4 t0_5 t0_6 t0_7 t0_8 t0_9 t0_10 t1_0 t2_0 t3_0 a38 fm56) x2 t0_0 t0_1 t0_2 t0_3 t0_4 t0_5 t0_6 t0_7 t0_8 t0_9 t0_10 t1_0 t2_0 t3_0 a38 lx42 lx43 lx44 fm68) x2 t0_0 t0_1 t0_2 t0_3 t0_4 t0_5 t0_6 t0_7 t0_8 t0_9 t0_10 t1_0 t2_0 t3_0 a38 lx42 lx43 lx44 lx62 fm91 a112 0 f109 = (F_DR_takesRoot x2 t0_0 t0_1 t0_2 t0_3 t0_4 t0_5 t0_6 t0_7 t0_8 t0_9 t0_10 t1_0 t2_0 t3_0) from Eq.trans (by have c105x := c105; rw [← e104, ← e102, ← e100, ← e97] at c105x; rw [← e113, ← e110, ← e104, ← e102, ← e100, ← e97, F_DR_takesRoot_L209.eq_2, if_neg c92, if_pos c105x]) hR87), (show True ∧ S_DR_takesRoot_L209 (S_DR_takesRoot_L34 x2 t0_0 t0_1 t0_2 t0_3 t0_4 t0_5 t0_6 t0_7 t0_8 t0_9 t0_10 t1_0 t2_0 t3_0 a38 fm56) (S_DR_takesRoot_L141 (S_DR_takesRoot_L34 x2 t0_0 t0_1 t0_2 t0_3 t0_4 t0_5 t0_6 t0_7 t0_8 t0_9 t0_10 t1_0 t2_0 t3_0 a38 fm56) x2 t0_0 t0_1 t0_2 t0_3 t0_4 t0_5 t0_6 t0_7 t0_8 t0_9 t0_10 t1_0 t2_0 t3_0 a38 lx42 lx43 lx44 fm68) x2 t0_0 t0_1 t0_2 t0_3 t0_4 t0_5 t0_6 t0_7 t0_8 t0_9 t0_10 t1_0 t2_0 t3_0 a38 lx42 lx43 lx44 lx62 fm91 a112 0 f109 from (by rw [← e113, ← e110, ← e104, ← e102, ← e100, ← e97]; have h := hS88; rw [S_DR_takesRoot_L209.eq_2] at h; rw [if_neg c92] at h; replace h := q_s2 h; replace h := q_s2 h; have c105x := c105; rw [← e104, ← e102, ← e100, ← e97] at c105x; rw [if_pos c105x] at h; with_reducible exact h))⟩⟩
            ·
              have b115 : q_F (a103.toInt < 0) := (q_nleI c105)
              refine lv_iload hx hb d_15_40_245 (lv_at hl 0 rfl) ?_
              refine lv_bipush (v := 10) hx hb d_15_40_247 (by decide) ?_
              refine lv_iadd hx hb d_15_40_249 ?_
              obtain ⟨a116, e117⟩ := q_nm (a103 + 10 : Int32)
              refine q_ti (v := a116) e117 ?_
              refine lv_goto (tgt := 255) hx hb d_15_40_250 (by decide) ?_
              refine q_iast C0 V hO86 (q_ix (x := lx75.toInt) rfl (by first | with_reducible exact q_fe b94 | (have t1 : 0 ≤ lx75.toInt := b94; omega)) (by have t1 : 0 ≤ lx75.toInt := b94; have t2 : lx75.toInt ≤ 2201 := ob95; have e9 : (((2202 : Int32).toNatClampNeg : Nat) : Int) = 2202 := (by decide); omega)) d_15_40_255 (fun H locs w119 hu120 hO86 V => ?_)
              replace hI := n_ai' hI (n_r143 g q).1 hu120 hO86 (q_updB (fun _ => s_bnd) s_bnd)
              replace hO83 := (hu120 _ (by decide)).trans hO83
              replace hO84 := (hu120 _ (by decide)).trans hO84
              replace hO85 := (hu120 _ (by decide)).trans hO85
              replace hF := q_us hF hu120 (by simp)
              obtain ⟨f121, e122⟩ := q_nm (upd lx77 lx75.toNatClampNeg a116 : (Nat → Int32))
              rw [e122] at hO86
              refine lv_iload hx hb d_15_40_256 (lv_at hl 0 rfl) ?_
              refine lv_if_ge (tgt := 265) hx hb d_15_40_258 (by decide) (fun c123 => absurd (show 0 ≤ a103.toInt from q_leI c123) (by first | with_reducible exact q_fe b115 | (have t1 : a103.toInt < 0 := b115; omega))) (fun c123 => ?_)
              refine lv_iconst (v := 1) hx hb d_15_40_261 (by decide) ?_
              refine lv_goto (tgt := 266) hx hb d_15_40_262 (by decide) ?_
              refine lv_istore (lv' := [(4, .int 1), (6, .int a103), (5, .int lx75), (0, .ref (q 134))]) hx hb d_15_40_266 hl (by decide) rfl (fun ls hl => ?_)
              obtain ⟨a124, e125⟩ := q_nm (lx75 + (-1) : Int32)
              have b126 : q_F (a124.toInt = lx75.toInt + (-1)) := (by rw [← e125]; exact q_addI (y := (-1)) rfl (by decide) (by have t1 : 0 ≤ lx75.toInt := b94; have t2 : lx75.toInt ≤ 2201 := ob95; omega) (by have t1 : 0 ≤ lx75.toInt := b94; have t2 : lx75.toInt ≤ 2201 := ob95; omega))
              refine lv_iinc (v := a124) (lv' := [(5, .int a124), (4, .int 1), (6, .int a103), (0, .ref (q 134))]) hx hb d_15_40_268 hl (k := 2) rfl (e125) (by decide) rfl (fun ls hl => ?_)
              refine lv_goto (tgt := 209) hx hb d_15_40_271 (by decide) ?_
              exact ih81 ((a124 : Int32), (1 : Int32), (f121 : (Nat → Int32))) _ _ _ _ (show (a124.toInt - ((-1))).toNat < (lx75.toInt - ((-1))).toNat from by have t1 : a124.toInt = lx75.toInt + (-1) := b126; have t2 : 0 ≤ lx75.toInt := b94; omega) ⟨(show q_F (0 ≤ 1) from (show 0 ≤ 1 from by omega)), (show q_F (1 ≤ 1) from (show 1 ≤ 1 from by omega)), (show q_F (a124.toInt + 1 ≤ a71.toInt) from (show a124.toInt + 1 ≤ a71.toInt from by have t1 : 0 ≤ lx76.toInt := i78; have t2 : lx75.toInt + lx76.toInt ≤ a71.toInt := i80; have t3 : a124.toInt = lx75.toInt + (-1) := b126; omega)), V, q_lw hl (q_lw1 0 rfl (q_lw1 1 rfl (q_lw1 3 rfl q_lw0))), hI, hF, hO83, hO84, hO85, hO86, ⟨fm91, Nat.lt_of_lt_of_le (show (a124.toInt - ((-1))).toNat < (lx75.toInt - ((-1))).toNat from by have t1 : a124.toInt = lx75.toInt + (-1) := b126; have t2 : 0 ≤ lx75.toInt := b94; omega) (Nat.le_of_lt_succ hf90), (show F_DR_takesRoot_L209 (F_DR_takesRoot_L34 x2 t0_0 t0_1 t0_2 t0_3 t0_4 t0_5 t0_6 t0_7 t0_8 t0_9 t0_10 t1_0 t2_0 t3_0 a38 fm56) (F_DR_takesRoot_L141 (F_DR_takesRoot_L34 x2 t0_0 t0_1 t0_2 t0_3 t0_4 t0_5 t0_6 t0_7 t0_8 t0_9 t0_10 t1_0 t2_0 t3_0 a38 fm56) x2 t0_0 t0_1 t0_2 t0_3 t0_4 t0_5 t0_6 t0_7 t0_8 t0_9 t0_10 t1_0 t2_0 t3_0 a38 lx42 lx43 lx44 fm68) x2 t0_0 t0_1 t0_2 t0_3 t0_4 t0_5 t0_6 t0_7 t0_8 t0_9 t0_10 t1_0 t2_0 t3_0 a38 lx42 lx43 lx44 lx62 fm91 a124 1 f121 = (F_DR_takesRoot x2 t0_0 t0_1 t0_2 t0_3 t0_4 t0_5 t0_6 t0_7 t0_8 t0_9 t0_10 t1_0 t2_0 t3_0) from Eq.trans (by have c105x := c105; rw [← e104, ← e102, ← e100, ← e97] at c105x; rw [← e125, ← e122, ← e117, ← e104, ← e102, ← e100, ← e97, F_DR_takesRoot_L209.eq_2, if_neg c92, if_neg c105x]) hR87), (show True ∧ S_DR_takesRoot_L209 (S_DR_takesRoot_L34 x2 t0_0 t0_1 t0_2 t0_3 t0_4 t0_5 t0_6 t0_7 t0_8 t0_9 t0_10 t1_0 t2_0 t3_0 a38 fm56) (S_DR_takesRoot_L141 (S_DR_takesRoot_L34 x2 t0_0 t0_1 t0_2 t0_3 t0_4 t0_5 t0_6 t0_7 t0_8 t0_9 t0_10 t1_0 t2_0 t3_0 a38 fm56) x2 t0_0 t0_1 t0_2 t0_3 t0_4 t0_5 t0_6 t0_7 t0_8 t0_9 t0_10 t1_0 t2_0 t3_0 a38 lx42 lx43 lx44 fm68) x2 t0_0 t0_1 t0_2 t0_3 t0_4 t0_5 t0_6 t0_7 t0_8 t0_9 t0_10 t1_0 t2_0 t3_0 a38 lx42 lx43 lx44 lx62 fm91 a124 1 f121 from (by rw [← e125, ← e122, ← e117, ← e104, ← e102, ← e100, ← e97]; have h := hS88; rw [S_DR_takesRoot_L209.eq_2] at h; rw [if_neg c92] at h; replace h := q_s2 h; replace h := q_s2 h; have c105x := c105; rw [← e104, ← e102, ← e100, ← e97] at c105x; rw [if_neg c105x] at h; with_reducible exact h))⟩⟩
        ·
          refine lv_aload_n hx hb d_15_40_150 rfl (lv_at hl 1 rfl) ?_
          refine q_get (ci := 14) (j := 16) (v := .ref (q 143)) C0 V i_DR rfl rfl hO48 (by decide) w_2019 rfl d_15_40_151 ?_
          refine lv_iload hx hb d_15_40_154 (lv_at hl 0 rfl) ?_
          have ob128 : q_F (0 ≤ lx62.toInt) := (by have h := hS65; rw [S_DR_takesRoot_L141.eq_2] at h; rw [if_neg c69] at h; exact h.2.1)
          have ob129 : q_F (lx62.toInt ≤ 2201) := (by have h := hS65; rw [S_DR_takesRoot_L141.eq_2] at h; rw [if_neg c69] at h; replace h := q_s2 h; exact h.2.1)
          refine q_iald C0 V hO51 (q_ix (x := lx62.toInt) rfl (by first | with_reducible exact q_fe ob128 | (have t1 : 0 ≤ lx62.toInt := ob128; omega)) (by have t1 : 0 ≤ lx62.toInt := ob128; have t2 : lx62.toInt ≤ 2201 := ob129; have e9 : (((2202 : Int32).toNatClampNeg : Nat) : Int) = 2202 := (by decide); omega)) d_15_40_156 ?_
          obtain ⟨a130, e131⟩ := q_nm (t3_0 lx62.toNatClampNeg : Int32)
          refine q_ti (v := a130) e131 ?_
          refine lv_aload_n hx hb d_15_40_157 rfl (lv_at hl 1 rfl) ?_
          refine q_get (ci := 14) (j := 14) (v := .ref (q 142)) C0 V i_DR rfl rfl hO48 (by decide) w_2017 rfl d_15_40_158 ?_
          refine lv_iload hx hb d_15_40_161 (lv_at hl 0 rfl) ?_
          have ob132 : q_F (lx62.toInt ≤ 2199) := (by have h := hS65; rw [S_DR_takesRoot_L141.eq_2] at h; rw [if_neg c69] at h; replace h := q_s2 h; replace h := q_s2 h; exact h.2.1)
          refine q_iald C0 V hO50 (q_ix (x := lx62.toInt) rfl (by first | with_reducible exact q_fe ob128 | (have t1 : 0 ≤ lx62.toInt := ob128; omega)) (by have t1 : 0 ≤ lx62.toInt := ob128; have t2 : lx62.toInt ≤ 2199 := ob132; have e9 : (((2200 : Int32).toNatClampNeg : Nat) : Int) = 2200 := (by decide); omega)) d_15_40_163 ?_
          obtain ⟨a133, e134⟩ := q_nm (lx44 lx62.toNatClampNeg : Int32)
          refine q_ti (v := a133) e134 ?_
          refine lv_icmp_eq (tgt := 192) hx hb d_15_40_164 (by decide) (fun c135 => ?_) (fun c135 => ?_)
          ·
            obtain ⟨a137, e138⟩ := q_nm (lx62 + 1 : Int32)
            refine lv_iinc (v := a137) (lv' := [(4, .int a137), (0, .ref (q 134))]) hx hb d_15_40_192 hl (k := 0) rfl (e138) (by decide) rfl (fun ls hl => ?_)
            refine lv_goto (tgt := 141) hx hb d_15_40_195 (by decide) ?_
            exact ih63 ((fm68 : Nat), (a137 : Int32)) _ _ _ w47 (Nat.lt_succ_self _) ⟨V, q_lw hl (q_lw1 0 rfl (q_lw1 1 rfl q_lw0)), (show F_DR_takesRoot_L141 (F_DR_takesRoot_L34 x2 t0_0 t0_1 t0_2 t0_3 t0_4 t0_5 t0_6 t0_7 t0_8 t0_9 t0_10 t1_0 t2_0 t3_0 a38 fm56) x2 t0_0 t0_1 t0_2 t0_3 t0_4 t0_5 t0_6 t0_7 t0_8 t0_9 t0_10 t1_0 t2_0 t3_0 a38 lx42 lx43 lx44 fm68 a137 = (F_DR_takesRoot x2 t0_0 t0_1 t0_2 t0_3 t0_4 t0_5 t0_6 t0_7 t0_8 t0_9 t0_10 t1_0 t2_0 t3_0) from Eq.trans (by have c135x := c135; rw [← e134, ← e131] at c135x; rw [← e138, F_DR_takesRoot_L141.eq_2, if_neg c69, if_pos c135x]) hR64), (show True ∧ S_DR_takesRoot_L141 (S_DR_takesRoot_L34 x2 t0_0 t0_1 t0_2 t0_3 t0_4 t0_5 t0_6 t0_7 t0_8 t0_9 t0_10 t1_0 t2_0 t3_0 a38 fm56) x2 t0_0 t0_1 t0_2 t0_3 t0_4 t0_5 t0_6 t0_7 t0_8 t0_9 t0_10 t1_0 t2_0 t3_0 a38 lx42 lx43 lx44 fm68 a137 from (by rw [← e138]; have h := hS65; rw [S_DR_takesRoot_L141.eq_2] at h; rw [if_neg c69] at h; replace h := q_s2 h; replace h := q_s2 h; replace h := q_s2 h; have c135x := c135; rw [← e134, ← e131] at c135x; rw [if_pos c135x] at h; with_reducible exact h))⟩
          ·
            refine lv_aload_n hx hb d_15_40_167 rfl (lv_at hl 1 rfl) ?_
            refine q_get (ci := 14) (j := 16) (v := .ref (q 143)) C0 V i_DR rfl rfl hO48 (by decide) w_2019 rfl d_15_40_168 ?_
            refine lv_iload hx hb d_15_40_171 (lv_at hl 0 rfl) ?_
            refine q_iald C0 V hO51 (q_ix (x := lx62.toInt) rfl (by first | with_reducible exact q_fe ob128 | (have t1 : 0 ≤ lx62.toInt := ob128; omega)) (by have t1 : 0 ≤ lx62.toInt := ob128; have t2 : lx62.toInt ≤ 2201 := ob129; have e9 : (((2202 : Int32).toNatClampNeg : Nat) : Int) = 2202 := (by decide); omega)) d_15_40_173 ?_
            obtain ⟨a141, e142⟩ := q_nm (t3_0 lx62.toNatClampNeg : Int32)
            refine q_ti (v := a141) e142 ?_
            refine lv_aload_n hx hb d_15_40_174 rfl (lv_at hl 1 rfl) ?_
            refine q_get (ci := 14) (j := 14) (v := .ref (q 142)) C0 V i_DR rfl rfl hO48 (by decide) w_2017 rfl d_15_40_175 ?_
            refine lv_iload hx hb d_15_40_178 (lv_at hl 0 rfl) ?_
            refine q_iald C0 V hO50 (q_ix (x := lx62.toInt) rfl (by first | with_reducible exact q_fe ob128 | (have t1 : 0 ≤ lx62.toInt := ob128; omega)) (by have t1 : 0 ≤ lx62.toInt := ob128; have t2 : lx62.toInt ≤ 2199 := ob132; have e9 : (((2200 : Int32).toNatClampNeg : Nat) : Int) = 2200 := (by decide); omega)) d_15_40_180 ?_
            obtain ⟨a143, e144⟩ := q_nm (lx44 lx62.toNatClampNeg : Int32)
            refine q_ti (v := a143) e144 ?_
            refine lv_icmp_ge (tgt := 186) hx hb d_15_40_181 (by decide) (fun c145 => ?_) (fun c145 => ?_)
            ·
              refine lv_aload_n hx hb d_15_40_186 rfl (lv_at hl 1 rfl) ?_
              refine q_get (ci := 14) (j := 15) (v := .int t0_8) C0 V i_DR rfl rfl hO48 (by decide) w_2018 rfl d_15_40_187 ?_
              refine lv_istore (lv' := [(4, .int t0_8), (0, .ref (q 134))]) hx hb d_15_40_190 hl (by decide) rfl (fun ls hl => ?_)
              obtain ⟨a147, e148⟩ := q_nm (t0_8 + 1 : Int32)
              refine lv_iinc (v := a147) (lv' := [(4, .int a147), (0, .ref (q 134))]) hx hb d_15_40_192 hl (k := 0) rfl (e148) (by decide) rfl (fun ls hl => ?_)
              refine lv_goto (tgt := 141) hx hb d_15_40_195 (by decide) ?_
              exact ih63 ((fm68 : Nat), (a147 : Int32)) _ _ _ w47 (Nat.lt_succ_self _) ⟨V, q_lw hl (q_lw1 0 rfl (q_lw1 1 rfl q_lw0)), (show F_DR_takesRoot_L141 (F_DR_takesRoot_L34 x2 t0_0 t0_1 t0_2 t0_3 t0_4 t0_5 t0_6 t0_7 t0_8 t0_9 t0_10 t1_0 t2_0 t3_0 a38 fm56) x2 t0_0 t0_1 t0_2 t0_3 t0_4 t0_5 t0_6 t0_7 t0_8 t0_9 t0_10 t1_0 t2_0 t3_0 a38 lx42 lx43 lx44 fm68 a147 = (F_DR_takesRoot x2 t0_0 t0_1 t0_2 t0_3 t0_4 t0_5 t0_6 t0_7 t0_8 t0_9 t0_10 t1_0 t2_0 t3_0) from Eq.trans (by have c135x := c135; rw [← e134, ← e131] at c135x; have c145x := c145; rw [← e144, ← e142] at c145x; rw [← e148, F_DR_takesRoot_L141.eq_2, if_neg c69, if_neg c135x, if_pos c145x]) hR64), (show True ∧ S_DR_takesRoot_L141 (S_DR_takesRoot_L34 x2 t0_0 t0_1 t0_2 t0_3 t0_4 t0_5 t0_6 t0_7 t0_8 t0_9 t0_10 t1_0 t2_0 t3_0 a38 fm56) x2 t0_0 t0_1 t0_2 t0_3 t0_4 t0_5 t0_6 t0_7 t0_8 t0_9 t0_10 t1_0 t2_0 t3_0 a38 lx42 lx43 lx44 fm68 a147 from (by rw [← e148]; have h := hS65; rw [S_DR_takesRoot_L141.eq_2] at h; rw [if_neg c69] at h; replace h := q_s2 h; replace h := q_s2 h; replace h := q_s2 h; have c135x := c135; rw [← e134, ← e131] at c135x; rw [if_neg c135x] at h; have c145x := c145; rw [← e144, ← e142] at c145x; rw [if_pos c145x] at h; with_reducible exact h))⟩
            ·
              refine lv_iconst (v := 0) hx hb d_15_40_184 (by decide) ?_
              exact q_retz C0 V (by decide) (⟨hI, hF, t0_0, t0_1, t0_2, t0_3, t0_4, t0_5, t0_6, t0_8, t0_8, t0_9, t0_10, lx44, t3_0, hO48, hO50, hO51, (show 0 ≤ (0 : Int32).toInt from (by have z15 : (0 : Int32).toInt = 0 := rfl; omega)), (show (0 : Int32).toInt ≤ 1 from (by have z15 : (0 : Int32).toInt = 0 := rfl; omega)), (show t0_0.toInt ≤ t0_0.toInt from (by have z15 : (0 : Int32).toInt = 0 := rfl; omega)), (show t0_0.toInt ≤ t0_0.toInt from (by have z15 : (0 : Int32).toInt = 0 := rfl; omega)), (show t0_1.toInt ≤ t0_1.toInt from (by have z15 : (0 : Int32).toInt = 0 := rfl; omega)), (show t0_1.toInt ≤ t0_1.toInt from (by have z15 : (0 : Int32).toInt = 0 := rfl; omega)), (show t0_2.toInt ≤ t0_2.toInt from (by have z15 : (0 : Int32).toInt = 0 := rfl; omega)), (show t0_2.toInt ≤ t0_2.toInt from (by have z15 : (0 : Int32).toInt = 0 := rfl; omega)), (show t0_3.toInt ≤ t0_3.toInt from (by have z15 : (0 : Int32).toInt = 0 := rfl; omega)), (show t0_3.toInt ≤ t0_3.toInt from (by have z15 : (0 : Int32).toInt = 0 := rfl; omega)), (show t0_4.toInt ≤ t0_4.toInt from (by have z15 : (0 : Int32).toInt = 0 := rfl; omega)), (show t0_4.toInt ≤ t0_4.toInt from (by have z15 : (0 : Int32).toInt = 0 := rfl; omega)), (show t0_5.toInt ≤ t0_5.toInt from (by have z15 : (0 : Int32).toInt = 0 := rfl; omega)), (show t0_5.toInt ≤ t0_5.toInt from (by have z15 : (0 : Int32).toInt = 0 := rfl; omega)), (show t0_6.toInt ≤ t0_6.toInt from (by have z15 : (0 : Int32).toInt = 0 := rfl; omega)), (show t0_6.toInt ≤ t0_6.toInt from (by have z15 : (0 : Int32).toInt = 0 := rfl; omega)), (show t0_8.toInt ≤ t0_8.toInt from (by have z15 : (0 : Int32).toInt = 0 := rfl; omega)), (show t0_8.toInt ≤ t0_8.toInt from (by have z15 : (0 : Int32).toInt = 0 := rfl; omega)), (show t0_9.toInt ≤ t0_9.toInt from (by have z15 : (0 : Int32).toInt = 0 := rfl; omega)), (show t0_9.toInt ≤ t0_9.toInt from (by have z15 : (0 : Int32).toInt = 0 := rfl; omega)), (show t0_10.toInt ≤ t0_10.toInt from (by have z15 : (0 : Int32).toInt = 0 := rfl; omega)), (show t0_10.toInt ≤ t0_10.toInt from (by have z15 : (0 : Int32).toInt = 0 := rfl; omega)), (show ((0 : Int32), t0_0, t0_1, t0_2, t0_3, t0_4, t0_5, t0_6, t0_8, t0_8, t0_9, t0_10, lx44, t3_0) = (F_DR_takesRoot x2 t0_0 t0_1 t0_2 t0_3 t0_4 t0_5 t0_6 t0_7 t0_8 t0_9 t0_10 t1_0 t2_0 t3_0) from Eq.trans (by have c135x := c135; rw [← e134, ← e131] at c135x; have c145x := c145; rw [← e144, ← e142] at c145x; rw [F_DR_takesRoot_L141.eq_2, if_neg c69, if_neg c135x, if_neg c145x]) hR64)⟩) d_15_40_185
      ·
        refine lv_iconst (v := 0) hx hb d_15_40_136 (by decide) ?_
        exact q_retz C0 V (by decide) (⟨hI, hF, t0_0, t0_1, t0_2, t0_3, t0_4, t0_5, t0_6, t0_8, t0_8, t0_9, t0_10, lx44, t3_0, hO48, hO50, hO51, (show 0 ≤ (0 : Int32).toInt from (by have z15 : (0 : Int32).toInt = 0 := rfl; omega)), (show (0 : Int32).toInt ≤ 1 from (by have z15 : (0 : Int32).toInt = 0 := rfl; omega)), (show t0_0.toInt ≤ t0_0.toInt from (by have z15 : (0 : Int32).toInt = 0 := rfl; omega)), (show t0_0.toInt ≤ t0_0.toInt from (by have z15 : (0 : Int32).toInt = 0 := rfl; omega)), (show t0_1.toInt ≤ t0_1.toInt from (by have z15 : (0 : Int32).toInt = 0 := rfl; omega)), (show t0_1.toInt ≤ t0_1.toInt from (by have z15 : (0 : Int32).toInt = 0 := rfl; omega)), (show t0_2.toInt ≤ t0_2.toInt from (by have z15 : (0 : Int32).toInt = 0 := rfl; omega)), (show t0_2.toInt ≤ t0_2.toInt from (by have z15 : (0 : Int32).toInt = 0 := rfl; omega)), (show t0_3.toInt ≤ t0_3.toInt from (by have z15 : (0 : Int32).toInt = 0 := rfl; omega)), (show t0_3.toInt ≤ t0_3.toInt from (by have z15 : (0 : Int32).toInt = 0 := rfl; omega)), (show t0_4.toInt ≤ t0_4.toInt from (by have z15 : (0 : Int32).toInt = 0 := rfl; omega)), (show t0_4.toInt ≤ t0_4.toInt from (by have z15 : (0 : Int32).toInt = 0 := rfl; omega)), (show t0_5.toInt ≤ t0_5.toInt from (by have z15 : (0 : Int32).toInt = 0 := rfl; omega)), (show t0_5.toInt ≤ t0_5.toInt from (by have z15 : (0 : Int32).toInt = 0 := rfl; omega)), (show t0_6.toInt ≤ t0_6.toInt from (by have z15 : (0 : Int32).toInt = 0 := rfl; omega)), (show t0_6.toInt ≤ t0_6.toInt from (by have z15 : (0 : Int32).toInt = 0 := rfl; omega)), (show t0_8.toInt ≤ t0_8.toInt from (by have z15 : (0 : Int32).toInt = 0 := rfl; omega)), (show t0_8.toInt ≤ t0_8.toInt from (by have z15 : (0 : Int32).toInt = 0 := rfl; omega)), (show t0_9.toInt ≤ t0_9.toInt from (by have z15 : (0 : Int32).toInt = 0 := rfl; omega)), (show t0_9.toInt ≤ t0_9.toInt from (by have z15 : (0 : Int32).toInt = 0 := rfl; omega)), (show t0_10.toInt ≤ t0_10.toInt from (by have z15 : (0 : Int32).toInt = 0 := rfl; omega)), (show t0_10.toInt ≤ t0_10.toInt from (by have z15 : (0 : Int32).toInt = 0 := rfl; omega)), (show ((0 : Int32), t0_0, t0_1, t0_2, t0_3, t0_4, t0_5, t0_6, t0_8, t0_8, t0_9, t0_10, lx44, t3_0) = (F_DR_takesRoot x2 t0_0 t0_1 t0_2 t0_3 t0_4 t0_5 t0_6 t0_7 t0_8 t0_9 t0_10 t1_0 t2_0 t3_0) from Eq.trans (by rw [F_DR_takesRoot_L34.eq_2, if_pos c57, if_neg c59]) hR52)⟩) d_15_40_137
    ·
      have b151 : q_F (lx42.toInt < t0_8.toInt) := (q_nleI c57)
      refine lv_aload_n hx hb d_15_40_43 rfl (lv_at hl 3 rfl) ?_
      refine q_get (ci := 14) (j := 15) (v := .int t0_8) C0 V i_DR rfl rfl hO48 (by decide) w_2018 rfl d_15_40_44 ?_
      refine lv_iconst (v := 1) hx hb d_15_40_47 (by decide) ?_
      refine lv_isub hx hb d_15_40_48 ?_
      obtain ⟨a152, e153⟩ := q_nm (t0_8 - 1 : Int32)
      refine q_ti (v := a152) e153 ?_
      have b154 : q_F (a152.toInt = t0_8.toInt - 1) := (by rw [← e153]; show (t0_8 - 1 : Int32).toInt = t0_8.toInt - 1; exact q_subI (x := t0_8.toInt) (y := 1) rfl (by decide) (by have t1 : lx42.toInt < t0_8.toInt := b151; have _ := q_lo32 (x := lx42); have _ := q_hi32 (x := lx42); have _ := q_lo32 (x := t0_8); have _ := q_hi32 (x := t0_8); omega) (by have t1 : lx42.toInt < t0_8.toInt := b151; have _ := q_lo32 (x := lx42); have _ := q_hi32 (x := lx42); have _ := q_lo32 (x := t0_8); have _ := q_hi32 (x := t0_8); omega))
      refine lv_iload hx hb d_15_40_49 (lv_at hl 0 rfl) ?_
      refine lv_isub hx hb d_15_40_51 ?_
      obtain ⟨a155, e156⟩ := q_nm (a152 - lx42 : Int32)
      refine q_ti (v := a155) e156 ?_
      have b157 : q_F (a155.toInt = a152.toInt - lx42.toInt) := (by rw [← e156]; show (a152 - lx42 : Int32).toInt = a152.toInt - lx42.toInt; exact q_subI (x := a152.toInt) (y := lx42.toInt) rfl rfl (by have t1 : lx42.toInt < t0_8.toInt := b151; have t2 : a152.toInt = t0_8.toInt - 1 := b154; have t3 : 0 ≤ lx42.toInt := i45; have _ := q_lo32 (x := a152); have _ := q_hi32 (x := a152); omega) (by have t1 : lx42.toInt < t0_8.toInt := b151; have t2 : a152.toInt = t0_8.toInt - 1 := b154; have t3 : 0 ≤ lx42.toInt := i45; have _ := q_lo32 (x := a152); have _ := q_hi32 (x := a152); omega))
      refine lv_istore (lv' := [(5, .int a155), (4, .int lx42), (3, .int a38), (2, .int lx43), (0, .ref (q 134)), (1, .int x2)]) hx hb d_15_40_52 hl (by decide) rfl (fun ls hl => ?_)
      refine lv_iload hx hb d_15_40_54 (lv_at hl 1 rfl) ?_
      refine lv_iconst (v := 1) hx hb d_15_40_56 (by decide) ?_
      refine q_join (X := Int32) (fun z H locs ls _ => q_Wd D g (va_A ws sz) s w47 H locs ∧ lv_has ls 8 [(5, .int a155), (4, .int lx42), (3, .int a38), (2, .int lx43), (0, .ref (q 134)), (1, .int x2)] ∧ F_DR_takesRoot_J87 (F_DR_takesRoot_L34 x2 t0_0 t0_1 t0_2 t0_3 t0_4 t0_5 t0_6 t0_7 t0_8 t0_9 t0_10 t1_0 t2_0 t3_0 a38 fm56) x2 t0_0 t0_1 t0_2 t0_3 t0_4 t0_5 t0_6 t0_7 t0_8 t0_9 t0_10 t1_0 t2_0 t3_0 a38 lx42 lx43 lx44 a155 z = (F_DR_takesRoot x2 t0_0 t0_1 t0_2 t0_3 t0_4 t0_5 t0_6 t0_7 t0_8 t0_9 t0_10 t1_0 t2_0 t3_0) ∧ True ∧ S_DR_takesRoot_J87 (S_DR_takesRoot_L34 x2 t0_0 t0_1 t0_2 t0_3 t0_4 t0_5 t0_6 t0_7 t0_8 t0_9 t0_10 t1_0 t2_0 t3_0 a38 fm56) x2 t0_0 t0_1 t0_2 t0_3 t0_4 t0_5 t0_6 t0_7 t0_8 t0_9 t0_10 t1_0 t2_0 t3_0 a38 lx42 lx43 lx44 a155 z) (fun z => [.int z]) 87 0 0 ?_ ?_
      ·
        rintro lx158 H locs ls _ ⟨V, hl, hR164, hS165⟩
        replace hl : lv_has ls 8 [(5, .int a155), (4, .int lx42), (3, .int a38), (2, .int lx43), (0, .ref (q 134)), (1, .int x2)] := hl
        refine lv_istore (lv' := [(6, .int lx158), (5, .int a155), (4, .int lx42), (3, .int a38), (2, .int lx43), (0, .ref (q 134)), (1, .int x2)]) hx hb d_15_40_87 hl (by decide) rfl (fun ls hl => ?_)
        refine lv_iload hx hb d_15_40_89 (lv_at hl 2 rfl) ?_
        refine q_join (X := Int32) (fun z H locs ls _ => q_Wd D g (va_A ws sz) s w47 H locs ∧ lv_has ls 8 [(5, .int a155), (4, .int lx42), (3, .int a38), (2, .int lx43), (0, .ref (q 134)), (1, .int x2)] ∧ F_DR_takesRoot_J104 (F_DR_takesRoot_L34 x2 t0_0 t0_1 t0_2 t0_3 t0_4 t0_5 t0_6 t0_7 t0_8 t0_9 t0_10 t1_0 t2_0 t3_0 a38 fm56) x2 t0_0 t0_1 t0_2 t0_3 t0_4 t0_5 t0_6 t0_7 t0_8 t0_9 t0_10 t1_0 t2_0 t3_0 a38 lx42 lx43 lx44 a155 lx158 z = (F_DR_takesRoot x2 t0_0 t0_1 t0_2 t0_3 t0_4 t0_5 t0_6 t0_7 t0_8 t0_9 t0_10 t1_0 t2_0 t3_0) ∧ True ∧ S_DR_takesRoot_J104 (S_DR_takesRoot_L34 x2 t0_0 t0_1 t0_2 t0_3 t0_4 t0_5 t0_6 t0_7 t0_8 t0_9 t0_10 t1_0 t2_0 t3_0 a38 fm56) x2 t0_0 t0_1 t0_2 t0_3 t0_4 t0_5 t0_6 t0_7 t0_8 t0_9 t0_10 t1_0 t2_0 t3_0 a38 lx42 lx43 lx44 a155 lx158 z) (fun z => [.int z]) 104 0 0 ?_ ?_
        ·
          rintro lx169 H locs ls _ ⟨V, hl, hR175, hS176⟩
          replace hl : lv_has ls 8 [(5, .int a155), (4, .int lx42), (3, .int a38), (2, .int lx43), (0, .ref (q 134)), (1, .int x2)] := hl
          refine lv_iload_n hx hb d_15_40_104 rfl (lv_at hl 3 rfl) ?_
          refine lv_iadd hx hb d_15_40_105 ?_
          obtain ⟨a180, e181⟩ := q_nm (lx169 + lx43 : Int32)
          refine q_ti (v := a180) e181 ?_
          refine lv_istore (lv' := [(7, .int a180), (5, .int a155), (4, .int lx42), (3, .int a38), (2, .int lx43), (0, .ref (q 134)), (1, .int x2)]) hx hb d_15_40_106 hl (by decide) rfl (fun ls hl => ?_)
          refine lv_aload_n hx hb d_15_40_108 rfl (lv_at hl 5 rfl) ?_
          refine q_get (ci := 14) (j := 14) (v := .ref (q 142)) C0 V i_DR rfl rfl hO48 (by decide) w_2017 rfl d_15_40_109 ?_
          refine lv_iload hx hb d_15_40_112 (lv_at hl 1 rfl) ?_
          refine lv_iload hx hb d_15_40_114 (lv_at hl 0 rfl) ?_
          refine lv_bipush (v := 10) hx hb d_15_40_116 (by decide) ?_
          refine lv_irem hx hb d_15_40_118 (by decide) ?_
          obtain ⟨a182, e183⟩ := q_nm (a180 - a180 / 10 * 10 : Int32)
          refine q_ti (v := a182) e183 ?_
          have ob184 : q_F (a155.toInt ≤ 2199) := (by have h := hS176; rw [S_DR_takesRoot_J104.eq_1] at h; exact h.2.1)
          refine q_iast C0 V hO50 (q_ix (x := a155.toInt) rfl (by have t1 : lx42.toInt < t0_8.toInt := b151; have t2 : a152.toInt = t0_8.toInt - 1 := b154; have t3 : a155.toInt = a152.toInt - lx42.toInt := b157; omega) (by have t1 : lx42.toInt < t0_8.toInt := b151; have t2 : a152.toInt = t0_8.toInt - 1 := b154; have t3 : a155.toInt = a152.toInt - lx42.toInt := b157; have t4 : a155.toInt ≤ 2199 := ob184; have e9 : (((2200 : Int32).toNatClampNeg : Nat) : Int) = 2200 := (by decide); omega)) d_15_40_119 (fun H locs w185 hu186 hO50 V => ?_)
          replace hI := n_ai' hI (n_r142 g q).1 hu186 hO50 (q_updB (fun _ => s_bnd) s_bnd)
          replace hO48 := (hu186 _ (by decide)).trans hO48
          replace hO49 := (hu186 _ (by decide)).trans hO49
          replace hO51 := (hu186 _ (by decide)).trans hO51
          replace hF := q_us hF hu186 (by simp)
          obtain ⟨f187, e188⟩ := q_nm (upd lx44 a155.toNatClampNeg a182 : (Nat → Int32))
          rw [e188] at hO50
          refine lv_iload hx hb d_15_40_120 (lv_at hl 0 rfl) ?_
          refine lv_bipush (v := 10) hx hb d_15_40_122 (by decide) ?_
          refine lv_idiv hx hb d_15_40_124 (by decide) ?_
          obtain ⟨a189, e190⟩ := q_nm (a180 / 10 : Int32)
          refine q_ti (v := a189) e190 ?_
          refine lv_istore_n (lv' := [(2, .int a189), (7, .int a180), (5, .int a155), (4, .int lx42), (3, .int a38), (0, .ref (q 134)), (1, .int x2)]) hx hb d_15_40_125 rfl hl (by decide) rfl (fun ls hl => ?_)
          obtain ⟨a192, e193⟩ := q_nm (lx42 + 1 : Int32)
          have b194 : q_F (a192.toInt = lx42.toInt + 1) := (by rw [← e193]; exact q_addI (y := 1) rfl (by decide) (by have t1 : 0 ≤ lx42.toInt := i45; have t2 : lx42.toInt < t0_8.toInt := b151; have _ := q_lo32 (x := t0_8); have _ := q_hi32 (x := t0_8); omega) (by have t1 : 0 ≤ lx42.toInt := i45; have t2 : lx42.toInt < t0_8.toInt := b151; have _ := q_lo32 (x := t0_8); have _ := q_hi32 (x := t0_8); omega))
          refine lv_iinc (v := a192) (lv' := [(4, .int a192), (2, .int a189), (7, .int a180), (5, .int a155), (3, .int a38), (0, .ref (q 134)), (1, .int x2)]) hx hb d_15_40_126 hl (k := 3) rfl (e193) (by decide) rfl (fun ls hl => ?_)
          refine lv_goto (tgt := 34) hx hb d_15_40_129 (by decide) ?_
          exact ih46 ((a192 : Int32), (a189 : Int32), (f187 : (Nat → Int32))) _ _ _ _ (show (t0_8.toInt - a192.toInt).toNat < (t0_8.toInt - lx42.toInt).toNat from by have t1 : a192.toInt = lx42.toInt + 1 := b194; have t2 : lx42.toInt < t0_8.toInt := b151; omega) ⟨(show q_F (0 ≤ a192.toInt) from (show 0 ≤ a192.toInt from by have t1 : 0 ≤ lx42.toInt := i45; have t2 : a192.toInt = lx42.toInt + 1 := b194; omega)), V, q_lw hl (q_lw1 0 rfl (q_lw1 4 rfl (q_lw1 1 rfl (q_lw1 5 rfl (q_lw1 6 rfl q_lw0))))), hI, hF, hO48, hO49, hO50, hO51, ⟨fm56, Nat.lt_of_lt_of_le (show (t0_8.toInt - a192.toInt).toNat < (t0_8.toInt - lx42.toInt).toNat from by have t1 : a192.toInt = lx42.toInt + 1 := b194; have t2 : lx42.toInt < t0_8.toInt := b151; omega) (Nat.le_of_lt_succ hf55), (show F_DR_takesRoot_L34 x2 t0_0 t0_1 t0_2 t0_3 t0_4 t0_5 t0_6 t0_7 t0_8 t0_9 t0_10 t1_0 t2_0 t3_0 a38 fm56 a192 a189 f187 = (F_DR_takesRoot x2 t0_0 t0_1 t0_2 t0_3 t0_4 t0_5 t0_6 t0_7 t0_8 t0_9 t0_10 t1_0 t2_0 t3_0) from Eq.trans (by rw [← e193, ← e190, ← e188, ← e183, ← e181, F_DR_takesRoot_J104.eq_1]) hR175), (show True ∧ S_DR_takesRoot_L34 x2 t0_0 t0_1 t0_2 t0_3 t0_4 t0_5 t0_6 t0_7 t0_8 t0_9 t0_10 t1_0 t2_0 t3_0 a38 fm56 a192 a189 f187 from (by rw [← e193, ← e190, ← e188, ← e183, ← e181]; have h := hS176; rw [S_DR_takesRoot_J104.eq_1] at h; replace h := q_s2 h; with_reducible exact h))⟩⟩
        ·
          intro J174
          refine lv_if_ne (tgt := 98) hx hb d_15_40_91 (by decide) (fun c195 => ?_) (fun c195 => ?_)
          ·
            refine lv_iconst (v := 2) hx hb d_15_40_98 (by decide) ?_
            refine lv_iload hx hb d_15_40_99 (lv_at hl 0 rfl) ?_
            refine lv_imul hx hb d_15_40_101 ?_
            obtain ⟨a197, e198⟩ := q_nm (2 * lx158 : Int32)
            refine q_ti (v := a197) e198 ?_
            refine lv_iload_n hx hb d_15_40_102 rfl (lv_at hl 6 rfl) ?_
            refine lv_imul hx hb d_15_40_103 ?_
            obtain ⟨a199, e200⟩ := q_nm (a197 * x2 : Int32)
            refine q_ti (v := a199) e200 ?_
            exact J174 ((a199 : Int32)) _ _ _ w47 ⟨V, q_lw hl (q_lw1 1 rfl (q_lw1 2 rfl (q_lw1 3 rfl (q_lw1 4 rfl (q_lw1 5 rfl (q_lw1 6 rfl q_lw0)))))), (show F_DR_takesRoot_J104 (F_DR_takesRoot_L34 x2 t0_0 t0_1 t0_2 t0_3 t0_4 t0_5 t0_6 t0_7 t0_8 t0_9 t0_10 t1_0 t2_0 t3_0 a38 fm56) x2 t0_0 t0_1 t0_2 t0_3 t0_4 t0_5 t0_6 t0_7 t0_8 t0_9 t0_10 t1_0 t2_0 t3_0 a38 lx42 lx43 lx44 a155 lx158 a199 = (F_DR_takesRoot x2 t0_0 t0_1 t0_2 t0_3 t0_4 t0_5 t0_6 t0_7 t0_8 t0_9 t0_10 t1_0 t2_0 t3_0) from Eq.trans (by rw [← e200, ← e198, F_DR_takesRoot_J87.eq_1, if_neg c195]) hR164), (show True ∧ S_DR_takesRoot_J104 (S_DR_takesRoot_L34 x2 t0_0 t0_1 t0_2 t0_3 t0_4 t0_5 t0_6 t0_7 t0_8 t0_9 t0_10 t1_0 t2_0 t3_0 a38 fm56) x2 t0_0 t0_1 t0_2 t0_3 t0_4 t0_5 t0_6 t0_7 t0_8 t0_9 t0_10 t1_0 t2_0 t3_0 a38 lx42 lx43 lx44 a155 lx158 a199 from (by rw [← e200, ← e198]; have h := hS165; rw [S_DR_takesRoot_J87.eq_1] at h; rw [if_neg c195] at h; with_reducible exact h))⟩
          ·
            refine lv_iload_n hx hb d_15_40_94 rfl (lv_at hl 3 rfl) ?_
            refine lv_goto (tgt := 104) hx hb d_15_40_95 (by decide) ?_
            exact J174 ((a38 : Int32)) _ _ _ w47 ⟨V, q_lw hl (q_lw1 1 rfl (q_lw1 2 rfl (q_lw1 3 rfl (q_lw1 4 rfl (q_lw1 5 rfl (q_lw1 6 rfl q_lw0)))))), (show F_DR_takesRoot_J104 (F_DR_takesRoot_L34 x2 t0_0 t0_1 t0_2 t0_3 t0_4 t0_5 t0_6 t0_7 t0_8 t0_9 t0_10 t1_0 t2_0 t3_0 a38 fm56) x2 t0_0 t0_1 t0_2 t0_3 t0_4 t0_5 t0_6 t0_7 t0_8 t0_9 t0_10 t1_0 t2_0 t3_0 a38 lx42 lx43 lx44 a155 lx158 a38 = (F_DR_takesRoot x2 t0_0 t0_1 t0_2 t0_3 t0_4 t0_5 t0_6 t0_7 t0_8 t0_9 t0_10 t1_0 t2_0 t3_0) from Eq.trans (by rw [F_DR_takesRoot_J87.eq_1, if_pos c195]) hR164), (show True ∧ S_DR_takesRoot_J104 (S_DR_takesRoot_L34 x2 t0_0 t0_1 t0_2 t0_3 t0_4 t0_5 t0_6 t0_7 t0_8 t0_9 t0_10 t1_0 t2_0 t3_0 a38 fm56) x2 t0_0 t0_1 t0_2 t0_3 t0_4 t0_5 t0_6 t0_7 t0_8 t0_9 t0_10 t1_0 t2_0 t3_0 a38 lx42 lx43 lx44 a155 lx158 a38 from (by have h := hS165; rw [S_DR_takesRoot_J87.eq_1] at h; rw [if_pos c195] at h; with_reducible exact h))⟩
      ·
        intro J163
        refine q_join (X := Unit) (fun z H locs ls _ => q_Wd D g (va_A ws sz) s w47 H locs ∧ lv_has ls 8 [(5, .int a155), (4, .int lx42), (3, .int a38), (2, .int lx43), (0, .ref (q 134)), (1, .int x2)] ∧ F_DR_takesRoot_J86 (F_DR_takesRoot_L34 x2 t0_0 t0_1 t0_2 t0_3 t0_4 t0_5 t0_6 t0_7 t0_8 t0_9 t0_10 t1_0 t2_0 t3_0 a38 fm56) x2 t0_0 t0_1 t0_2 t0_3 t0_4 t0_5 t0_6 t0_7 t0_8 t0_9 t0_10 t1_0 t2_0 t3_0 a38 lx42 lx43 lx44 a155 = (F_DR_takesRoot x2 t0_0 t0_1 t0_2 t0_3 t0_4 t0_5 t0_6 t0_7 t0_8 t0_9 t0_10 t1_0 t2_0 t3_0) ∧ True ∧ S_DR_takesRoot_J86 (S_DR_takesRoot_L34 x2 t0_0 t0_1 t0_2 t0_3 t0_4 t0_5 t0_6 t0_7 t0_8 t0_9 t0_10 t1_0 t2_0 t3_0 a38 fm56) x2 t0_0 t0_1 t0_2 t0_3 t0_4 t0_5 t0_6 t0_7 t0_8 t0_9 t0_10 t1_0 t2_0 t3_0 a38 lx42 lx43 lx44 a155) (fun z => []) 86 0 0 ?_ ?_
        ·
          rintro _ H locs ls _ ⟨V, hl, hR207, hS208⟩
          replace hl : lv_has ls 8 [(5, .int a155), (4, .int lx42), (3, .int a38), (2, .int lx43), (0, .ref (q 134)), (1, .int x2)] := hl
          refine lv_iconst (v := 0) hx hb d_15_40_86 (by decide) ?_
          exact J163 ((0 : Int32)) _ _ _ w47 ⟨V, q_lw hl (q_lw1 0 rfl (q_lw1 1 rfl (q_lw1 2 rfl (q_lw1 3 rfl (q_lw1 4 rfl (q_lw1 5 rfl q_lw0)))))), (show F_DR_takesRoot_J87 (F_DR_takesRoot_L34 x2 t0_0 t0_1 t0_2 t0_3 t0_4 t0_5 t0_6 t0_7 t0_8 t0_9 t0_10 t1_0 t2_0 t3_0 a38 fm56) x2 t0_0 t0_1 t0_2 t0_3 t0_4 t0_5 t0_6 t0_7 t0_8 t0_9 t0_10 t1_0 t2_0 t3_0 a38 lx42 lx43 lx44 a155 0 = (F_DR_takesRoot x2 t0_0 t0_1 t0_2 t0_3 t0_4 t0_5 t0_6 t0_7 t0_8 t0_9 t0_10 t1_0 t2_0 t3_0) from Eq.trans (by rw [F_DR_takesRoot_J86.eq_1]) hR207), (show True ∧ S_DR_takesRoot_J87 (S_DR_takesRoot_L34 x2 t0_0 t0_1 t0_2 t0_3 t0_4 t0_5 t0_6 t0_7 t0_8 t0_9 t0_10 t1_0 t2_0 t3_0 a38 fm56) x2 t0_0 t0_1 t0_2 t0_3 t0_4 t0_5 t0_6 t0_7 t0_8 t0_9 t0_10 t1_0 t2_0 t3_0 a38 lx42 lx43 lx44 a155 0 from (by have h := hS208; rw [S_DR_takesRoot_J86.eq_1] at h; with_reducible exact h))⟩
        ·
          intro J206
          refine lv_icmp_lt (tgt := 86) hx hb d_15_40_57 (by decide) (fun c212 => ?_) (fun c212 => ?_)
          ·
            exact J206 (()) _ _ _ w47 ⟨V, q_lw hl (q_lw1 0 rfl (q_lw1 1 rfl (q_lw1 2 rfl (q_lw1 3 rfl (q_lw1 4 rfl (q_lw1 5 rfl q_lw0)))))), (show F_DR_takesRoot_J86 (F_DR_takesRoot_L34 x2 t0_0 t0_1 t0_2 t0_3 t0_4 t0_5 t0_6 t0_7 t0_8 t0_9 t0_10 t1_0 t2_0 t3_0 a38 fm56) x2 t0_0 t0_1 t0_2 t0_3 t0_4 t0_5 t0_6 t0_7 t0_8 t0_9 t0_10 t1_0 t2_0 t3_0 a38 lx42 lx43 lx44 a155 = (F_DR_takesRoot x2 t0_0 t0_1 t0_2 t0_3 t0_4 t0_5 t0_6 t0_7 t0_8 t0_9 t0_10 t1_0 t2_0 t3_0) from Eq.trans (by rw [← e156, ← e153, F_DR_takesRoot_L34.eq_2, if_neg c57, if_pos c212]) hR52), (show True ∧ S_DR_takesRoot_J86 (S_DR_takesRoot_L34 x2 t0_0 t0_1 t0_2 t0_3 t0_4 t0_5 t0_6 t0_7 t0_8 t0_9 t0_10 t1_0 t2_0 t3_0 a38 fm56) x2 t0_0 t0_1 t0_2 t0_3 t0_4 t0_5 t0_6 t0_7 t0_8 t0_9 t0_10 t1_0 t2_0 t3_0 a38 lx42 lx43 lx44 a155 from (by rw [← e156, ← e153]; have h := hS53; rw [S_DR_takesRoot_L34.eq_2] at h; rw [if_neg c57] at h; rw [if_pos c212] at h; with_reducible exact h))⟩
          ·
            refine lv_iload hx hb d_15_40_60 (lv_at hl 1 rfl) ?_
            refine lv_iconst (v := 1) hx hb d_15_40_62 (by decide) ?_
            refine lv_isub hx hb d_15_40_63 ?_
            obtain ⟨a215, e216⟩ := q_nm (lx42 - 1 : Int32)
            refine q_ti (v := a215) e216 ?_
            have b217 : q_F (a215.toInt = lx42.toInt - 1) := (by rw [← e216]; show (lx42 - 1 : Int32).toInt = lx42.toInt - 1; exact q_subI (x := lx42.toInt) (y := 1) rfl (by decide) (by have t1 : 0 ≤ lx42.toInt := i45; have _ := q_lo32 (x := lx42); have _ := q_hi32 (x := lx42); omega) (by have t1 : 0 ≤ lx42.toInt := i45; have _ := q_lo32 (x := lx42); have _ := q_hi32 (x := lx42); omega))
            refine lv_aload_n hx hb d_15_40_64 rfl (lv_at hl 4 rfl) ?_
            refine q_get (ci := 14) (j := 8) (v := .int t0_2) C0 V i_DR rfl rfl hO48 (by decide) w_2011 rfl d_15_40_65 ?_
            refine lv_icmp_ge (tgt := 86) hx hb d_15_40_68 (by decide) (fun c218 => ?_) (fun c218 => ?_)
            ·
              exact J206 (()) _ _ _ w47 ⟨V, q_lw hl (q_lw1 0 rfl (q_lw1 1 rfl (q_lw1 2 rfl (q_lw1 3 rfl (q_lw1 4 rfl (q_lw1 5 rfl q_lw0)))))), (show F_DR_takesRoot_J86 (F_DR_takesRoot_L34 x2 t0_0 t0_1 t0_2 t0_3 t0_4 t0_5 t0_6 t0_7 t0_8 t0_9 t0_10 t1_0 t2_0 t3_0 a38 fm56) x2 t0_0 t0_1 t0_2 t0_3 t0_4 t0_5 t0_6 t0_7 t0_8 t0_9 t0_10 t1_0 t2_0 t3_0 a38 lx42 lx43 lx44 a155 = (F_DR_takesRoot x2 t0_0 t0_1 t0_2 t0_3 t0_4 t0_5 t0_6 t0_7 t0_8 t0_9 t0_10 t1_0 t2_0 t3_0) from Eq.trans (by have c218x := c218; rw [← e216] at c218x; rw [← e156, ← e153, F_DR_takesRoot_L34.eq_2, if_neg c57, if_neg c212, if_pos c218x]) hR52), (show True ∧ S_DR_takesRoot_J86 (S_DR_takesRoot_L34 x2 t0_0 t0_1 t0_2 t0_3 t0_4 t0_5 t0_6 t0_7 t0_8 t0_9 t0_10 t1_0 t2_0 t3_0 a38 fm56) x2 t0_0 t0_1 t0_2 t0_3 t0_4 t0_5 t0_6 t0_7 t0_8 t0_9 t0_10 t1_0 t2_0 t3_0 a38 lx42 lx43 lx44 a155 from (by rw [← e156, ← e153]; have h := hS53; rw [S_DR_takesRoot_L34.eq_2] at h; rw [if_neg c57] at h; rw [if_neg c212] at h; have c218x := c218; rw [← e216] at c218x; rw [if_pos c218x] at h; with_reducible exact h))⟩
            ·
              have b220 : q_F (a215.toInt < t0_2.toInt) := (q_nleI c218)
              refine lv_aload_n hx hb d_15_40_71 rfl (lv_at hl 4 rfl) ?_
              refine q_get (ci := 14) (j := 7) (v := .ref (q 140)) C0 V i_DR rfl rfl hO48 (by decide) w_2010 rfl d_15_40_72 ?_
              refine lv_aload_n hx hb d_15_40_75 rfl (lv_at hl 4 rfl) ?_
              refine q_get (ci := 14) (j := 8) (v := .int t0_2) C0 V i_DR rfl rfl hO48 (by decide) w_2011 rfl d_15_40_76 ?_
              refine lv_iload hx hb d_15_40_79 (lv_at hl 1 rfl) ?_
              refine lv_isub hx hb d_15_40_81 ?_
              obtain ⟨a221, e222⟩ := q_nm (t0_2 - lx42 : Int32)
              refine q_ti (v := a221) e222 ?_
              have b223 : q_F (a221.toInt = t0_2.toInt - lx42.toInt) := (by rw [← e222]; show (t0_2 - lx42 : Int32).toInt = t0_2.toInt - lx42.toInt; exact q_subI (x := t0_2.toInt) (y := lx42.toInt) rfl rfl (by have t1 : a215.toInt = lx42.toInt - 1 := b217; have t2 : a215.toInt < t0_2.toInt := b220; have t3 : 0 ≤ lx42.toInt := i45; have _ := q_lo32 (x := t0_2); have _ := q_hi32 (x := t0_2); omega) (by have t1 : a215.toInt = lx42.toInt - 1 := b217; have t2 : a215.toInt < t0_2.toInt := b220; have t3 : 0 ≤ lx42.toInt := i45; have _ := q_lo32 (x := t0_2); have _ := q_hi32 (x := t0_2); omega))
              have ob224 : q_F (a221.toInt ≤ 4399) := (by rw [← e222]; have h := hS53; rw [S_DR_takesRoot_L34.eq_2] at h; rw [if_neg c57] at h; rw [if_neg c212] at h; have c218x := c218; rw [← e216] at c218x; rw [if_neg c218x] at h; exact h.2.1)
              refine q_iald C0 V hO49 (q_ix (x := a221.toInt) rfl (by have t1 : a215.toInt = lx42.toInt - 1 := b217; have t2 : a215.toInt < t0_2.toInt := b220; have t3 : a221.toInt = t0_2.toInt - lx42.toInt := b223; omega) (by have t1 : a215.toInt = lx42.toInt - 1 := b217; have t2 : a215.toInt < t0_2.toInt := b220; have t3 : a221.toInt = t0_2.toInt - lx42.toInt := b223; have t4 : a221.toInt ≤ 4399 := ob224; have e9 : (((4400 : Int32).toNatClampNeg : Nat) : Int) = 4400 := (by decide); omega)) d_15_40_82 ?_
              obtain ⟨a225, e226⟩ := q_nm (t1_0 a221.toNatClampNeg : Int32)
              refine q_ti (v := a225) e226 ?_
              refine lv_goto (tgt := 87) hx hb d_15_40_83 (by decide) ?_
              exact J163 ((a225 : Int32)) _ _ _ w47 ⟨V, q_lw hl (q_lw1 0 rfl (q_lw1 1 rfl (q_lw1 2 rfl (q_lw1 3 rfl (q_lw1 4 rfl (q_lw1 5 rfl q_lw0)))))), (show F_DR_takesRoot_J87 (F_DR_takesRoot_L34 x2 t0_0 t0_1 t0_2 t0_3 t0_4 t0_5 t0_6 t0_7 t0_8 t0_9 t0_10 t1_0 t2_0 t3_0 a38 fm56) x2 t0_0 t0_1 t0_2 t0_3 t0_4 t0_5 t0_6 t0_7 t0_8 t0_9 t0_10 t1_0 t2_0 t3_0 a38 lx42 lx43 lx44 a155 a225 = (F_DR_takesRoot x2 t0_0 t0_1 t0_2 t0_3 t0_4 t0_5 t0_6 t0_7 t0_8 t0_9 t0_10 t1_0 t2_0 t3_0) from Eq.trans (by have c218x := c218; rw [← e216] at c218x; rw [← e226, ← e222, ← e156, ← e153, F_DR_takesRoot_L34.eq_2, if_neg c57, if_neg c212, if_neg c218x]) hR52), (show True ∧ S_DR_takesRoot_J87 (S_DR_takesRoot_L34 x2 t0_0 t0_1 t0_2 t0_3 t0_4 t0_5 t0_6 t0_7 t0_8 t0_9 t0_10 t1_0 t2_0 t3_0 a38 fm56) x2 t0_0 t0_1 t0_2 t0_3 t0_4 t0_5 t0_6 t0_7 t0_8 t0_9 t0_10 t1_0 t2_0 t3_0 a38 lx42 lx43 lx44 a155 a225 from (by rw [← e226, ← e222, ← e156, ← e153]; have h := hS53; rw [S_DR_takesRoot_L34.eq_2] at h; rw [if_neg c57] at h; rw [if_neg c212] at h; have c218x := c218; rw [← e216] at c218x; rw [if_neg c218x] at h; replace h := q_s2 h; with_reducible exact h))⟩
  ·
    intro J30
    refine lv_if_le (tgt := 17) hx hb d_15_40_1 (by decide) (fun c227 => ?_) (fun c227 => ?_)
    ·
      exact J30 (()) _ _ _ ws ⟨V, q_lw hl (q_lw1 0 rfl (q_lw1 1 rfl q_lw0)), (show F_DR_takesRoot_J17 x2 t0_0 t0_1 t0_2 t0_3 t0_4 t0_5 t0_6 t0_7 t0_8 t0_9 t0_10 t1_0 t2_0 t3_0 = (F_DR_takesRoot x2 t0_0 t0_1 t0_2 t0_3 t0_4 t0_5 t0_6 t0_7 t0_8 t0_9 t0_10 t1_0 t2_0 t3_0) from (by rw [F_DR_takesRoot.eq_1, if_pos c227])), (show True ∧ S_DR_takesRoot_J17 x2 t0_0 t0_1 t0_2 t0_3 t0_4 t0_5 t0_6 t0_7 t0_8 t0_9 t0_10 t1_0 t2_0 t3_0 from (by have h := hS; rw [S_DR_takesRoot.eq_1] at h; rw [if_pos c227] at h; with_reducible exact h))⟩
    ·
      refine lv_aload_n hx hb d_15_40_4 rfl (lv_at hl 0 rfl) ?_
      refine q_get (ci := 14) (j := 8) (v := .int t0_2) C0 V i_DR rfl rfl hT0 (by decide) w_2011 rfl d_15_40_5 ?_
      refine lv_aload_n hx hb d_15_40_8 rfl (lv_at hl 0 rfl) ?_
      refine q_get (ci := 14) (j := 17) (v := .int t0_8) C0 V i_DR rfl rfl hT0 (by decide) w_2020 rfl d_15_40_9 ?_
      refine lv_icmp_lt (tgt := 17) hx hb d_15_40_12 (by decide) (fun c230 => ?_) (fun c230 => ?_)
      ·
        exact J30 (()) _ _ _ ws ⟨V, q_lw hl (q_lw1 0 rfl (q_lw1 1 rfl q_lw0)), (show F_DR_takesRoot_J17 x2 t0_0 t0_1 t0_2 t0_3 t0_4 t0_5 t0_6 t0_7 t0_8 t0_9 t0_10 t1_0 t2_0 t3_0 = (F_DR_takesRoot x2 t0_0 t0_1 t0_2 t0_3 t0_4 t0_5 t0_6 t0_7 t0_8 t0_9 t0_10 t1_0 t2_0 t3_0) from (by rw [F_DR_takesRoot.eq_1, if_neg c227, if_pos c230])), (show True ∧ S_DR_takesRoot_J17 x2 t0_0 t0_1 t0_2 t0_3 t0_4 t0_5 t0_6 t0_7 t0_8 t0_9 t0_10 t1_0 t2_0 t3_0 from (by have h := hS; rw [S_DR_takesRoot.eq_1] at h; rw [if_neg c227] at h; rw [if_pos c230] at h; with_reducible exact h))⟩
      ·
        refine lv_iconst (v := 0) hx hb d_15_40_15 (by decide) ?_
        exact q_retz C0 V (by decide) (⟨hI, hF, t0_0, t0_1, t0_2, t0_3, t0_4, t0_5, t0_6, t0_7, t0_8, t0_9, t0_10, t2_0, t3_0, hT0, hT2, hT3, (show 0 ≤ (0 : Int32).toInt from (by have z15 : (0 : Int32).toInt = 0 := rfl; omega)), (show (0 : Int32).toInt ≤ 1 from (by have z15 : (0 : Int32).toInt = 0 := rfl; omega)), (show t0_0.toInt ≤ t0_0.toInt from (by have z15 : (0 : Int32).toInt = 0 := rfl; omega)), (show t0_0.toInt ≤ t0_0.toInt from (by have z15 : (0 : Int32).toInt = 0 := rfl; omega)), (show t0_1.toInt ≤ t0_1.toInt from (by have z15 : (0 : Int32).toInt = 0 := rfl; omega)), (show t0_1.toInt ≤ t0_1.toInt from (by have z15 : (0 : Int32).toInt = 0 := rfl; omega)), (show t0_2.toInt ≤ t0_2.toInt from (by have z15 : (0 : Int32).toInt = 0 := rfl; omega)), (show t0_2.toInt ≤ t0_2.toInt from (by have z15 : (0 : Int32).toInt = 0 := rfl; omega)), (show t0_3.toInt ≤ t0_3.toInt from (by have z15 : (0 : Int32).toInt = 0 := rfl; omega)), (show t0_3.toInt ≤ t0_3.toInt from (by have z15 : (0 : Int32).toInt = 0 := rfl; omega)), (show t0_4.toInt ≤ t0_4.toInt from (by have z15 : (0 : Int32).toInt = 0 := rfl; omega)), (show t0_4.toInt ≤ t0_4.toInt from (by have z15 : (0 : Int32).toInt = 0 := rfl; omega)), (show t0_5.toInt ≤ t0_5.toInt from (by have z15 : (0 : Int32).toInt = 0 := rfl; omega)), (show t0_5.toInt ≤ t0_5.toInt from (by have z15 : (0 : Int32).toInt = 0 := rfl; omega)), (show t0_6.toInt ≤ t0_6.toInt from (by have z15 : (0 : Int32).toInt = 0 := rfl; omega)), (show t0_6.toInt ≤ t0_6.toInt from (by have z15 : (0 : Int32).toInt = 0 := rfl; omega)), (show t0_8.toInt ≤ t0_8.toInt from (by have z15 : (0 : Int32).toInt = 0 := rfl; omega)), (show t0_8.toInt ≤ t0_8.toInt from (by have z15 : (0 : Int32).toInt = 0 := rfl; omega)), (show t0_9.toInt ≤ t0_9.toInt from (by have z15 : (0 : Int32).toInt = 0 := rfl; omega)), (show t0_9.toInt ≤ t0_9.toInt from (by have z15 : (0 : Int32).toInt = 0 := rfl; omega)), (show t0_10.toInt ≤ t0_10.toInt from (by have z15 : (0 : Int32).toInt = 0 := rfl; omega)), (show t0_10.toInt ≤ t0_10.toInt from (by have z15 : (0 : Int32).toInt = 0 := rfl; omega)), (show ((0 : Int32), t0_0, t0_1, t0_2, t0_3, t0_4, t0_5, t0_6, t0_7, t0_8, t0_9, t0_10, t2_0, t3_0) = (F_DR_takesRoot x2 t0_0 t0_1 t0_2 t0_3 t0_4 t0_5 t0_6 t0_7 t0_8 t0_9 t0_10 t1_0 t2_0 t3_0) from (by rw [F_DR_takesRoot.eq_1, if_neg c227, if_neg c230]))⟩) d_15_40_16

