theorem d_15_29_0 : decode prog_15_method_29_code 0 = .ok (.aload_n 0, 1) := by decide +kernel
theorem d_15_29_1 : decode prog_15_method_29_code 1 = .ok (.iload_n 1, 1) := by decide +kernel
theorem d_15_29_2 : decode prog_15_method_29_code 2 = .ok (.invokestatic 113, 3) := by decide +kernel
theorem d_15_29_31 : decode prog_15_method_29_code 31 = .ok (.putfield 41, 3) := by decide +kernel
theorem d_15_29_34 : decode prog_15_method_29_code 34 = .ok (.aload_n 0, 1) := by decide +kernel
theorem d_15_29_35 : decode prog_15_method_29_code 35 = .ok (.getfield 41, 3) := by decide +kernel
theorem d_15_29_38 : decode prog_15_method_29_code 38 = .ok (.ifCond .le 4, 3) := by decide +kernel
theorem d_15_29_42 : decode prog_15_method_29_code 42 = .ok (.aload_n 0, 1) := by decide +kernel
theorem d_15_29_43 : decode prog_15_method_29_code 43 = .ok (.iconst 2, 1) := by decide +kernel
theorem d_15_29_44 : decode prog_15_method_29_code 44 = .ok (.putfield 66, 3) := by decide +kernel
theorem d_15_29_47 : decode prog_15_method_29_code 47 = .ok (.aload_n 0, 1) := by decide +kernel
theorem d_15_29_48 : decode prog_15_method_29_code 48 = .ok (.iconst 1, 1) := by decide +kernel
theorem d_15_29_49 : decode prog_15_method_29_code 49 = .ok (.putfield 45, 3) := by decide +kernel
theorem d_15_29_52 : decode prog_15_method_29_code 52 = .ok (.aload_n 0, 1) := by decide +kernel
theorem d_15_29_53 : decode prog_15_method_29_code 53 = .ok (.getfield 26, 3) := by decide +kernel
theorem d_15_29_56 : decode prog_15_method_29_code 56 = .ok (.iconst 0, 1) := by decide +kernel
theorem d_15_29_57 : decode prog_15_method_29_code 57 = .ok (.iconst 1, 1) := by decide +kernel
theorem d_15_29_58 : decode prog_15_method_29_code 58 = .ok (.iastore, 1) := by decide +kernel
theorem d_15_29_59 : decode prog_15_method_29_code 59 = .ok (.aload_n 0, 1) := by decide +kernel
theorem d_15_29_60 : decode prog_15_method_29_code 60 = .ok (.lconst 0, 1) := by decide +kernel
theorem d_15_29_61 : decode prog_15_method_29_code 61 = .ok (.putfield 48, 3) := by decide +kernel
theorem d_15_29_64 : decode prog_15_method_29_code 64 = .ok (.aload_n 0, 1) := by decide +kernel
theorem d_15_29_65 : decode prog_15_method_29_code 65 = .ok (.iconst 0, 1) := by decide +kernel
theorem d_15_29_66 : decode prog_15_method_29_code 66 = .ok (.putfield 52, 3) := by decide +kernel
theorem d_15_29_69 : decode prog_15_method_29_code 69 = .ok (.aload_n 0, 1) := by decide +kernel
theorem d_15_29_70 : decode prog_15_method_29_code 70 = .ok (.iconst 0, 1) := by decide +kernel
theorem d_15_29_71 : decode prog_15_method_29_code 71 = .ok (.putfield 56, 3) := by decide +kernel
theorem d_15_29_74 : decode prog_15_method_29_code 74 = .ok (.iconst 0, 1) := by decide +kernel
theorem d_15_29_75 : decode prog_15_method_29_code 75 = .ok (.istore 4, 2) := by decide +kernel
theorem d_15_29_77 : decode prog_15_method_29_code 77 = .ok (.iload 4, 2) := by decide +kernel
theorem d_15_29_79 : decode prog_15_method_29_code 79 = .ok (.iload_n 2, 1) := by decide +kernel
theorem d_15_29_80 : decode prog_15_method_29_code 80 = .ok (.if_icmp .ge 23, 3) := by decide +kernel
theorem d_15_29_103 : decode prog_15_method_29_code 103 = .ok (.aload_n 0, 1) := by decide +kernel
theorem d_15_29_104 : decode prog_15_method_29_code 104 = .ok (.iload_n 3, 1) := by decide +kernel
theorem d_15_29_105 : decode prog_15_method_29_code 105 = .ok (.invokevirtual 89, 3) := by decide +kernel
theorem d_15_29_108 : decode prog_15_method_29_code 108 = .ok (.return_, 1) := by decide +kernel
theorem d_15_29_83 : decode prog_15_method_29_code 83 = .ok (.aload_n 0, 1) := by decide +kernel
theorem d_15_29_84 : decode prog_15_method_29_code 84 = .ok (.iload_n 1, 1) := by decide +kernel
theorem d_15_29_85 : decode prog_15_method_29_code 85 = .ok (.invokevirtual 135, 3) := by decide +kernel
theorem d_15_29_88 : decode prog_15_method_29_code 88 = .ok (.ifCond .ne 9, 3) := by decide +kernel
theorem d_15_29_97 : decode prog_15_method_29_code 97 = .ok (.iinc 4 1, 3) := by decide +kernel
theorem d_15_29_100 : decode prog_15_method_29_code 100 = .ok (.goto (-23), 3) := by decide +kernel
theorem d_15_29_91 : decode prog_15_method_29_code 91 = .ok (.aload_n 0, 1) := by decide +kernel
theorem d_15_29_92 : decode prog_15_method_29_code 92 = .ok (.iconst 2, 1) := by decide +kernel
theorem d_15_29_93 : decode prog_15_method_29_code 93 = .ok (.putfield 41, 3) := by decide +kernel
theorem d_15_29_96 : decode prog_15_method_29_code 96 = .ok (.return_, 1) := by decide +kernel
theorem d_15_29_41 : decode prog_15_method_29_code 41 = .ok (.return_, 1) := by decide +kernel
theorem d_15_29_26 : decode prog_15_method_29_code 26 = .ok (.iconst 1, 1) := by decide +kernel
theorem d_15_29_27 : decode prog_15_method_29_code 27 = .ok (.goto 4, 3) := by decide +kernel
theorem d_15_29_5 : decode prog_15_method_29_code 5 = .ok (.ifCond .ne 21, 3) := by decide +kernel
theorem d_15_29_8 : decode prog_15_method_29_code 8 = .ok (.iload_n 3, 1) := by decide +kernel
theorem d_15_29_9 : decode prog_15_method_29_code 9 = .ok (.invokestatic 113, 3) := by decide +kernel
theorem d_15_29_12 : decode prog_15_method_29_code 12 = .ok (.ifCond .ne 14, 3) := by decide +kernel
theorem d_15_29_15 : decode prog_15_method_29_code 15 = .ok (.iload_n 2, 1) := by decide +kernel
theorem d_15_29_16 : decode prog_15_method_29_code 16 = .ok (.ifCond .lt 10, 3) := by decide +kernel
theorem d_15_29_19 : decode prog_15_method_29_code 19 = .ok (.iload_n 2, 1) := by decide +kernel
theorem d_15_29_20 : decode prog_15_method_29_code 20 = .ok (.sipush 999, 3) := by decide +kernel
theorem d_15_29_23 : decode prog_15_method_29_code 23 = .ok (.if_icmp .le 7, 3) := by decide +kernel
theorem d_15_29_30 : decode prog_15_method_29_code 30 = .ok (.iconst 0, 1) := by decide +kernel
def y_DR_power : MethodName := ⟨"NumberHouseModel$DecimalRows", "power", "(III)V"⟩
def F_DR_power_c105 (K_F_DR_power_L77 : Int32 → Int32 → Int32 → Int32 → Int64 → Int32 → Int32 → Int32 → Int32 → Int32 → Int32 → Int32 → (Nat → Int32) → (Nat → Int32) → (Int32 × Int32 × Int32 × Int64 × Int32 × Int32 × Int32 × Int32 × Int32 × Int32 × Int32 × (Nat → Int32) × (Nat → Int32) × (Nat → Int32) × (Nat → Int32) × (Nat → Int32) × (Nat → Int32))) (x2 : Int32) (x3 : Int32) (x4 : Int32) (t0_0 : Int32) (t0_1 : Int32) (t0_2 : Int32) (t0_3 : Int64) (t0_4 : Int32) (t0_5 : Int32) (t0_6 : Int32) (t0_7 : Int32) (t0_8 : Int32) (t0_9 : Int32) (t0_10 : Int32) (t1_0 : (Nat → Int32)) (t2_0 : (Nat → Int32)) (t3_0 : (Nat → Int32)) (t4_0 : (Nat → Int32)) (t5_0 : (Nat → Int32)) (t6_0 : (Nat → Int32)) (lx42 : Int32) (lx77 : Int32) (lx78 : Int32) (lx79 : Int32) (lx80 : Int32) (lx81 : Int64) (lx82 : Int32) (lx83 : Int32) (lx84 : Int32) (lx85 : Int32) (lx86 : Int32) (lx87 : Int32) (lx88 : Int32) (lx89 : (Nat → Int32)) (lx90 : (Nat → Int32)) (p175 : (Int32 × Int32 × Int32 × Int64 × Int32 × Int32 × Int32 × Int32 × Int32 × Int32 × Int32 × (Nat → Int32) × (Nat → Int32) × (Nat → Int32) × (Nat → Int32) × (Nat → Int32))) : Int32 × Int32 × Int32 × Int64 × Int32 × Int32 × Int32 × Int32 × Int32 × Int32 × Int32 × (Nat → Int32) × (Nat → Int32) × (Nat → Int32) × (Nat → Int32) × (Nat → Int32) × (Nat → Int32) := ((p175.1 : Int32), (p175.2.1 : Int32), (p175.2.2.1 : Int32), (p175.2.2.2.1 : Int64), (p175.2.2.2.2.1 : Int32), (p175.2.2.2.2.2.1 : Int32), (p175.2.2.2.2.2.2.1 : Int32), (p175.2.2.2.2.2.2.2.1 : Int32), (p175.2.2.2.2.2.2.2.2.1 : Int32), (p175.2.2.2.2.2.2.2.2.2.1 : Int32), (p175.2.2.2.2.2.2.2.2.2.2.1 : Int32), (p175.2.2.2.2.2.2.2.2.2.2.2.1 : (Nat → Int32)), (p175.2.2.2.2.2.2.2.2.2.2.2.2.1 : (Nat → Int32)), (p175.2.2.2.2.2.2.2.2.2.2.2.2.2.1 : (Nat → Int32)), (p175.2.2.2.2.2.2.2.2.2.2.2.2.2.2.1 : (Nat → Int32)), (p175.2.2.2.2.2.2.2.2.2.2.2.2.2.2.2 : (Nat → Int32)), lx90)
def F_DR_power_c85 (K_F_DR_power_L77 : Int32 → Int32 → Int32 → Int32 → Int64 → Int32 → Int32 → Int32 → Int32 → Int32 → Int32 → Int32 → (Nat → Int32) → (Nat → Int32) → (Int32 × Int32 × Int32 × Int64 × Int32 × Int32 × Int32 × Int32 × Int32 × Int32 × Int32 × (Nat → Int32) × (Nat → Int32) × (Nat → Int32) × (Nat → Int32) × (Nat → Int32) × (Nat → Int32))) (x2 : Int32) (x3 : Int32) (x4 : Int32) (t0_0 : Int32) (t0_1 : Int32) (t0_2 : Int32) (t0_3 : Int64) (t0_4 : Int32) (t0_5 : Int32) (t0_6 : Int32) (t0_7 : Int32) (t0_8 : Int32) (t0_9 : Int32) (t0_10 : Int32) (t1_0 : (Nat → Int32)) (t2_0 : (Nat → Int32)) (t3_0 : (Nat → Int32)) (t4_0 : (Nat → Int32)) (t5_0 : (Nat → Int32)) (t6_0 : (Nat → Int32)) (lx42 : Int32) (lx77 : Int32) (lx78 : Int32) (lx79 : Int32) (lx80 : Int32) (lx81 : Int64) (lx82 : Int32) (lx83 : Int32) (lx84 : Int32) (lx85 : Int32) (lx86 : Int32) (lx87 : Int32) (lx88 : Int32) (lx89 : (Nat → Int32)) (lx90 : (Nat → Int32)) (p251 : (Int32 × Int32 × Int32 × Int32 × Int64 × Int32 × Int32 × Int32 × Int32 × Int32 × Int32 × Int32 × (Nat → Int32) × (Nat → Int32))) : Int32 × Int32 × Int32 × Int64 × Int32 × Int32 × Int32 × Int32 × Int32 × Int32 × Int32 × (Nat → Int32) × (Nat → Int32) × (Nat → Int32) × (Nat → Int32) × (Nat → Int32) × (Nat → Int32) := if (p251.1 : Int32) = (0 : Int32) then (((2 : Int32), (p251.2.2.1 : Int32), (p251.2.2.2.1 : Int32), (p251.2.2.2.2.1 : Int64), (p251.2.2.2.2.2.1 : Int32), (p251.2.2.2.2.2.2.1 : Int32), (p251.2.2.2.2.2.2.2.1 : Int32), (p251.2.2.2.2.2.2.2.2.1 : Int32), (p251.2.2.2.2.2.2.2.2.2.1 : Int32), (p251.2.2.2.2.2.2.2.2.2.2.1 : Int32), (p251.2.2.2.2.2.2.2.2.2.2.2.1 : Int32), t1_0, t2_0, t3_0, t4_0, (p251.2.2.2.2.2.2.2.2.2.2.2.2.1 : (Nat → Int32)), (p251.2.2.2.2.2.2.2.2.2.2.2.2.2 : (Nat → Int32)))) else (K_F_DR_power_L77 (lx77 + 1 : Int32) (p251.2.1 : Int32) (p251.2.2.1 : Int32) (p251.2.2.2.1 : Int32) (p251.2.2.2.2.1 : Int64) (p251.2.2.2.2.2.1 : Int32) (p251.2.2.2.2.2.2.1 : Int32) (p251.2.2.2.2.2.2.2.1 : Int32) (p251.2.2.2.2.2.2.2.2.1 : Int32) (p251.2.2.2.2.2.2.2.2.2.1 : Int32) (p251.2.2.2.2.2.2.2.2.2.2.1 : Int32) (p251.2.2.2.2.2.2.2.2.2.2.2.1 : Int32) (p251.2.2.2.2.2.2.2.2.2.2.2.2.1 : (Nat → Int32)) (p251.2.2.2.2.2.2.2.2.2.2.2.2.2 : (Nat → Int32)))
def F_DR_power_L77 (x2 : Int32) (x3 : Int32) (x4 : Int32) (t0_0 : Int32) (t0_1 : Int32) (t0_2 : Int32) (t0_3 : Int64) (t0_4 : Int32) (t0_5 : Int32) (t0_6 : Int32) (t0_7 : Int32) (t0_8 : Int32) (t0_9 : Int32) (t0_10 : Int32) (t1_0 : (Nat → Int32)) (t2_0 : (Nat → Int32)) (t3_0 : (Nat → Int32)) (t4_0 : (Nat → Int32)) (t5_0 : (Nat → Int32)) (t6_0 : (Nat → Int32)) (lx42 : Int32) : Nat → Int32 → Int32 → Int32 → Int32 → Int64 → Int32 → Int32 → Int32 → Int32 → Int32 → Int32 → Int32 → (Nat → Int32) → (Nat → Int32) → (Int32 × Int32 × Int32 × Int64 × Int32 × Int32 × Int32 × Int32 × Int32 × Int32 × Int32 × (Nat → Int32) × (Nat → Int32) × (Nat → Int32) × (Nat → Int32) × (Nat → Int32) × (Nat → Int32))
  | 0, _, _, _, _, _, _, _, _, _, _, _, _, _, _ => default
  | fm + 1, lx77, lx78, lx79, lx80, lx81, lx82, lx83, lx84, lx85, lx86, lx87, lx88, lx89, lx90 => if x3 ≤ lx77 then (F_DR_power_c105 (F_DR_power_L77 x2 x3 x4 t0_0 t0_1 t0_2 t0_3 t0_4 t0_5 t0_6 t0_7 t0_8 t0_9 t0_10 t1_0 t2_0 t3_0 t4_0 t5_0 t6_0 lx42 fm) x2 x3 x4 t0_0 t0_1 t0_2 t0_3 t0_4 t0_5 t0_6 t0_7 t0_8 t0_9 t0_10 t1_0 t2_0 t3_0 t4_0 t5_0 t6_0 lx42 lx77 lx78 lx79 lx80 lx81 lx82 lx83 lx84 lx85 lx86 lx87 lx88 lx89 lx90 ((F_DR_store x4 lx78 lx79 lx80 lx81 lx82 lx83 lx84 lx85 lx86 lx87 lx88 t1_0 t2_0 t3_0 t4_0 lx89) : (Int32 × Int32 × Int32 × Int64 × Int32 × Int32 × Int32 × Int32 × Int32 × Int32 × Int32 × (Nat → Int32) × (Nat → Int32) × (Nat → Int32) × (Nat → Int32) × (Nat → Int32)))) else (F_DR_power_c85 (F_DR_power_L77 x2 x3 x4 t0_0 t0_1 t0_2 t0_3 t0_4 t0_5 t0_6 t0_7 t0_8 t0_9 t0_10 t1_0 t2_0 t3_0 t4_0 t5_0 t6_0 lx42 fm) x2 x3 x4 t0_0 t0_1 t0_2 t0_3 t0_4 t0_5 t0_6 t0_7 t0_8 t0_9 t0_10 t1_0 t2_0 t3_0 t4_0 t5_0 t6_0 lx42 lx77 lx78 lx79 lx80 lx81 lx82 lx83 lx84 lx85 lx86 lx87 lx88 lx89 lx90 ((F_DR_times x2 lx78 lx79 lx80 lx81 lx82 lx83 lx84 lx85 lx86 lx87 lx88 t1_0 t2_0 t3_0 t4_0 lx89 lx90) : (Int32 × Int32 × Int32 × Int32 × Int64 × Int32 × Int32 × Int32 × Int32 × Int32 × Int32 × Int32 × (Nat → Int32) × (Nat → Int32))))
def F_DR_power_J31 (x2 : Int32) (x3 : Int32) (x4 : Int32) (t0_0 : Int32) (t0_1 : Int32) (t0_2 : Int32) (t0_3 : Int64) (t0_4 : Int32) (t0_5 : Int32) (t0_6 : Int32) (t0_7 : Int32) (t0_8 : Int32) (t0_9 : Int32) (t0_10 : Int32) (t1_0 : (Nat → Int32)) (t2_0 : (Nat → Int32)) (t3_0 : (Nat → Int32)) (t4_0 : (Nat → Int32)) (t5_0 : (Nat → Int32)) (t6_0 : (Nat → Int32)) (lx42 : Int32) : Int32 × Int32 × Int32 × Int64 × Int32 × Int32 × Int32 × Int32 × Int32 × Int32 × Int32 × (Nat → Int32) × (Nat → Int32) × (Nat → Int32) × (Nat → Int32) × (Nat → Int32) × (Nat → Int32) := if lx42 ≤ (0 : Int32) then (F_DR_power_L77 x2 x3 x4 t0_0 t0_1 t0_2 t0_3 t0_4 t0_5 t0_6 t0_7 t0_8 t0_9 t0_10 t1_0 t2_0 t3_0 t4_0 t5_0 t6_0 lx42 ((x3.toInt - (0 : Int32).toInt).toNat + 1) 0 lx42 t0_1 1 0 0 0 t0_6 t0_7 t0_8 t0_9 2 (upd t5_0 (0 : Int32).toNatClampNeg 1 : (Nat → Int32)) t6_0) else ((lx42, t0_1, t0_2, t0_3, t0_4, t0_5, t0_6, t0_7, t0_8, t0_9, t0_10, t1_0, t2_0, t3_0, t4_0, t5_0, t6_0))
def F_DR_power_J26 (x2 : Int32) (x3 : Int32) (x4 : Int32) (t0_0 : Int32) (t0_1 : Int32) (t0_2 : Int32) (t0_3 : Int64) (t0_4 : Int32) (t0_5 : Int32) (t0_6 : Int32) (t0_7 : Int32) (t0_8 : Int32) (t0_9 : Int32) (t0_10 : Int32) (t1_0 : (Nat → Int32)) (t2_0 : (Nat → Int32)) (t3_0 : (Nat → Int32)) (t4_0 : (Nat → Int32)) (t5_0 : (Nat → Int32)) (t6_0 : (Nat → Int32)) : Int32 × Int32 × Int32 × Int64 × Int32 × Int32 × Int32 × Int32 × Int32 × Int32 × Int32 × (Nat → Int32) × (Nat → Int32) × (Nat → Int32) × (Nat → Int32) × (Nat → Int32) × (Nat → Int32) := F_DR_power_J31 x2 x3 x4 t0_0 t0_1 t0_2 t0_3 t0_4 t0_5 t0_6 t0_7 t0_8 t0_9 t0_10 t1_0 t2_0 t3_0 t4_0 t5_0 t6_0 1
def F_DR_power (x2 : Int32) (x3 : Int32) (x4 : Int32) (t0_0 : Int32) (t0_1 : Int32) (t0_2 : Int32) (t0_3 : Int64) (t0_4 : Int32) (t0_5 : Int32) (t0_6 : Int32) (t0_7 : Int32) (t0_8 : Int32) (t0_9 : Int32) (t0_10 : Int32) (t1_0 : (Nat → Int32)) (t2_0 : (Nat → Int32)) (t3_0 : (Nat → Int32)) (t4_0 : (Nat → Int32)) (t5_0 : (Nat → Int32)) (t6_0 : (Nat → Int32)) : Int32 × Int32 × Int32 × Int64 × Int32 × Int32 × Int32 × Int32 × Int32 × Int32 × Int32 × (Nat → Int32) × (Nat → Int32) × (Nat → Int32) × (Nat → Int32) × (Nat → Int32) × (Nat → Int32) := if ((F_DR_no x2) : Int32) = (0 : Int32) then (if ((F_DR_no x4) : Int32) = (0 : Int32) then (if x3 < (0 : Int32) then (F_DR_power_J26 x2 x3 x4 t0_0 t0_1 t0_2 t0_3 t0_4 t0_5 t0_6 t0_7 t0_8 t0_9 t0_10 t1_0 t2_0 t3_0 t4_0 t5_0 t6_0) else (if x3 ≤ (999 : Int32) then (F_DR_power_J31 x2 x3 x4 t0_0 t0_1 t0_2 t0_3 t0_4 t0_5 t0_6 t0_7 t0_8 t0_9 t0_10 t1_0 t2_0 t3_0 t4_0 t5_0 t6_0 0) else (F_DR_power_J26 x2 x3 x4 t0_0 t0_1 t0_2 t0_3 t0_4 t0_5 t0_6 t0_7 t0_8 t0_9 t0_10 t1_0 t2_0 t3_0 t4_0 t5_0 t6_0))) else (F_DR_power_J26 x2 x3 x4 t0_0 t0_1 t0_2 t0_3 t0_4 t0_5 t0_6 t0_7 t0_8 t0_9 t0_10 t1_0 t2_0 t3_0 t4_0 t5_0 t6_0)) else (F_DR_power_J26 x2 x3 x4 t0_0 t0_1 t0_2 t0_3 t0_4 t0_5 t0_6 t0_7 t0_8 t0_9 t0_10 t1_0 t2_0 t3_0 t4_0 t5_0 t6_0)
def S_DR_power_c105 (K_S_DR_power_L77 : Int32 → Int32 → Int32 → Int32 → Int64 → Int32 → Int32 → Int32 → Int32 → Int32 → Int32 → Int32 → (Nat → Int32) → (Nat → Int32) → Prop) (x2 : Int32) (x3 : Int32) (x4 : Int32) (t0_0 : Int32) (t0_1 : Int32) (t0_2 : Int32) (t0_3 : Int64) (t0_4 : Int32) (t0_5 : Int32) (t0_6 : Int32) (t0_7 : Int32) (t0_8 : Int32) (t0_9 : Int32) (t0_10 : Int32) (t1_0 : (Nat → Int32)) (t2_0 : (Nat → Int32)) (t3_0 : (Nat → Int32)) (t4_0 : (Nat → Int32)) (t5_0 : (Nat → Int32)) (t6_0 : (Nat → Int32)) (lx42 : Int32) (lx77 : Int32) (lx78 : Int32) (lx79 : Int32) (lx80 : Int32) (lx81 : Int64) (lx82 : Int32) (lx83 : Int32) (lx84 : Int32) (lx85 : Int32) (lx86 : Int32) (lx87 : Int32) (lx88 : Int32) (lx89 : (Nat → Int32)) (lx90 : (Nat → Int32)) (p175 : (Int32 × Int32 × Int32 × Int64 × Int32 × Int32 × Int32 × Int32 × Int32 × Int32 × Int32 × (Nat → Int32) × (Nat → Int32) × (Nat → Int32) × (Nat → Int32) × (Nat → Int32))) : Prop := True
def S_DR_power_c85 (K_S_DR_power_L77 : Int32 → Int32 → Int32 → Int32 → Int64 → Int32 → Int32 → Int32 → Int32 → Int32 → Int32 → Int32 → (Nat → Int32) → (Nat → Int32) → Prop) (x2 : Int32) (x3 : Int32) (x4 : Int32) (t0_0 : Int32) (t0_1 : Int32) (t0_2 : Int32) (t0_3 : Int64) (t0_4 : Int32) (t0_5 : Int32) (t0_6 : Int32) (t0_7 : Int32) (t0_8 : Int32) (t0_9 : Int32) (t0_10 : Int32) (t1_0 : (Nat → Int32)) (t2_0 : (Nat → Int32)) (t3_0 : (Nat → Int32)) (t4_0 : (Nat → Int32)) (t5_0 : (Nat → Int32)) (t6_0 : (Nat → Int32)) (lx42 : Int32) (lx77 : Int32) (lx78 : Int32) (lx79 : Int32) (lx80 : Int32) (lx81 : Int64) (lx82 : Int32) (lx83 : Int32) (lx84 : Int32) (lx85 : Int32) (lx86 : Int32) (lx87 : Int32) (lx88 : Int32) (lx89 : (Nat → Int32)) (lx90 : (Nat → Int32)) (p251 : (Int32 × Int32 × Int32 × Int32 × Int64 × Int32 × Int32 × Int32 × Int32 × Int32 × Int32 × Int32 × (Nat → Int32) × (Nat → Int32))) : Prop := if (p251.1 : Int32) = (0 : Int32) then (True) else (K_S_DR_power_L77 (lx77 + 1 : Int32) (p251.2.1 : Int32) (p251.2.2.1 : Int32) (p251.2.2.2.1 : Int32) (p251.2.2.2.2.1 : Int64) (p251.2.2.2.2.2.1 : Int32) (p251.2.2.2.2.2.2.1 : Int32) (p251.2.2.2.2.2.2.2.1 : Int32) (p251.2.2.2.2.2.2.2.2.1 : Int32) (p251.2.2.2.2.2.2.2.2.2.1 : Int32) (p251.2.2.2.2.2.2.2.2.2.2.1 : Int32) (p251.2.2.2.2.2.2.2.2.2.2.2.1 : Int32) (p251.2.2.2.2.2.2.2.2.2.2.2.2.1 : (Nat → Int32)) (p251.2.2.2.2.2.2.2.2.2.2.2.2.2 : (Nat → Int32)))
def S_DR_power_L77 (x2 : Int32) (x3 : Int32) (x4 : Int32) (t0_0 : Int32) (t0_1 : Int32) (t0_2 : Int32) (t0_3 : Int64) (t0_4 : Int32) (t0_5 : Int32) (t0_6 : Int32) (t0_7 : Int32) (t0_8 : Int32) (t0_9 : Int32) (t0_10 : Int32) (t1_0 : (Nat → Int32)) (t2_0 : (Nat → Int32)) (t3_0 : (Nat → Int32)) (t4_0 : (Nat → Int32)) (t5_0 : (Nat → Int32)) (t6_0 : (Nat → Int32)) (lx42 : Int32) : Nat → Int32 → Int32 → Int32 → Int32 → Int64 → Int32 → Int32 → Int32 → Int32 → Int32 → Int32 → Int32 → (Nat → Int32) → (Nat → Int32) → Prop
  | 0, _, _, _, _, _, _, _, _, _, _, _, _, _, _ => False
  | fm + 1, lx77, lx78, lx79, lx80, lx81, lx82, lx83, lx84, lx85, lx86, lx87, lx88, lx89, lx90 => if x3 ≤ lx77 then ((True ∧ S_DR_store x4 lx78 lx79 lx80 lx81 lx82 lx83 lx84 lx85 lx86 lx87 lx88 t1_0 t2_0 t3_0 t4_0 lx89) ∧ (S_DR_power_c105 (S_DR_power_L77 x2 x3 x4 t0_0 t0_1 t0_2 t0_3 t0_4 t0_5 t0_6 t0_7 t0_8 t0_9 t0_10 t1_0 t2_0 t3_0 t4_0 t5_0 t6_0 lx42 fm) x2 x3 x4 t0_0 t0_1 t0_2 t0_3 t0_4 t0_5 t0_6 t0_7 t0_8 t0_9 t0_10 t1_0 t2_0 t3_0 t4_0 t5_0 t6_0 lx42 lx77 lx78 lx79 lx80 lx81 lx82 lx83 lx84 lx85 lx86 lx87 lx88 lx89 lx90 ((F_DR_store x4 lx78 lx79 lx80 lx81 lx82 lx83 lx84 lx85 lx86 lx87 lx88 t1_0 t2_0 t3_0 t4_0 lx89) : (Int32 × Int32 × Int32 × Int64 × Int32 × Int32 × Int32 × Int32 × Int32 × Int32 × Int32 × (Nat → Int32) × (Nat → Int32) × (Nat → Int32) × (Nat → Int32) × (Nat → Int32))))) else ((True ∧ S_DR_times x2 lx78 lx79 lx80 lx81 lx82 lx83 lx84 lx85 lx86 lx87 lx88 t1_0 t2_0 t3_0 t4_0 lx89 lx90) ∧ (S_DR_power_c85 (S_DR_power_L77 x2 x3 x4 t0_0 t0_1 t0_2 t0_3 t0_4 t0_5 t0_6 t0_7 t0_8 t0_9 t0_10 t1_0 t2_0 t3_0 t4_0 t5_0 t6_0 lx42 fm) x2 x3 x4 t0_0 t0_1 t0_2 t0_3 t0_4 t0_5 t0_6 t0_7 t0_8 t0_9 t0_10 t1_0 t2_0 t3_0 t4_0 t5_0 t6_0 lx42 lx77 lx78 lx79 lx80 lx81 lx82 lx83 lx84 lx85 lx86 lx87 lx88 lx89 lx90 ((F_DR_times x2 lx78 lx79 lx80 lx81 lx82 lx83 lx84 lx85 lx86 lx87 lx88 t1_0 t2_0 t3_0 t4_0 lx89 lx90) : (Int32 × Int32 × Int32 × Int32 × Int64 × Int32 × Int32 × Int32 × Int32 × Int32 × Int32 × Int32 × (Nat → Int32) × (Nat → Int32)))))
def S_DR_power_J31 (x2 : Int32) (x3 : Int32) (x4 : Int32) (t0_0 : Int32) (t0_1 : Int32) (t0_2 : Int32) (t0_3 : Int64) (t0_4 : Int32) (t0_5 : Int32) (t0_6 : Int32) (t0_7 : Int32) (t0_8 : Int32) (t0_9 : Int32) (t0_10 : Int32) (t1_0 : (Nat → Int32)) (t2_0 : (Nat → Int32)) (t3_0 : (Nat → Int32)) (t4_0 : (Nat → Int32)) (t5_0 : (Nat → Int32)) (t6_0 : (Nat → Int32)) (lx42 : Int32) : Prop := if lx42 ≤ (0 : Int32) then (S_DR_power_L77 x2 x3 x4 t0_0 t0_1 t0_2 t0_3 t0_4 t0_5 t0_6 t0_7 t0_8 t0_9 t0_10 t1_0 t2_0 t3_0 t4_0 t5_0 t6_0 lx42 ((x3.toInt - (0 : Int32).toInt).toNat + 1) 0 lx42 t0_1 1 0 0 0 t0_6 t0_7 t0_8 t0_9 2 (upd t5_0 (0 : Int32).toNatClampNeg 1 : (Nat → Int32)) t6_0) else (True)
def S_DR_power_J26 (x2 : Int32) (x3 : Int32) (x4 : Int32) (t0_0 : Int32) (t0_1 : Int32) (t0_2 : Int32) (t0_3 : Int64) (t0_4 : Int32) (t0_5 : Int32) (t0_6 : Int32) (t0_7 : Int32) (t0_8 : Int32) (t0_9 : Int32) (t0_10 : Int32) (t1_0 : (Nat → Int32)) (t2_0 : (Nat → Int32)) (t3_0 : (Nat → Int32)) (t4_0 : (Nat → Int32)) (t5_0 : (Nat → Int32)) (t6_0 : (Nat → Int32)) : Prop := S_DR_power_J31 x2 x3 x4 t0_0 t0_1 t0_2 t0_3 t0_4 t0_5 t0_6 t0_7 t0_8 t0_9 t0_10 t1_0 t2_0 t3_0 t4_0 t5_0 t6_0 1
def S_DR_power (x2 : Int32) (x3 : Int32) (x4 : Int32) (t0_0 : Int32) (t0_1 : Int32) (t0_2 : Int32) (t0_3 : Int64) (t0_4 : Int32) (t0_5 : Int32) (t0_6 : Int32) (t0_7 : Int32) (t0_8 : Int32) (t0_9 : Int32) (t0_10 : Int32) (t1_0 : (Nat → Int32)) (t2_0 : (Nat → Int32)) (t3_0 : (Nat → Int32)) (t4_0 : (Nat → Int32)) (t5_0 : (Nat → Int32)) (t6_0 : (Nat → Int32)) : Prop := if ((F_DR_no x2) : Int32) = (0 : Int32) then (if ((F_DR_no x4) : Int32) = (0 : Int32) then (if x3 < (0 : Int32) then (S_DR_power_J26 x2 x3 x4 t0_0 t0_1 t0_2 t0_3 t0_4 t0_5 t0_6 t0_7 t0_8 t0_9 t0_10 t1_0 t2_0 t3_0 t4_0 t5_0 t6_0) else (if x3 ≤ (999 : Int32) then (S_DR_power_J31 x2 x3 x4 t0_0 t0_1 t0_2 t0_3 t0_4 t0_5 t0_6 t0_7 t0_8 t0_9 t0_10 t1_0 t2_0 t3_0 t4_0 t5_0 t6_0 0) else (S_DR_power_J26 x2 x3 x4 t0_0 t0_1 t0_2 t0_3 t0_4 t0_5 t0_6 t0_7 t0_8 t0_9 t0_10 t1_0 t2_0 t3_0 t4_0 t5_0 t6_0))) else (S_DR_power_J26 x2 x3 x4 t0_0 t0_1 t0_2 t0_3 t0_4 t0_5 t0_6 t0_7 t0_8 t0_9 t0_10 t1_0 t2_0 t3_0 t4_0 t5_0 t6_0)) else (S_DR_power_J26 x2 x3 x4 t0_0 t0_1 t0_2 t0_3 t0_4 t0_5 t0_6 t0_7 t0_8 t0_9 t0_10 t1_0 t2_0 t3_0 t4_0 t5_0 t6_0)
set_option maxRecDepth 100000 in
set_option maxHeartbeats 4000000 in
theorem X_DR_power (l : Launch) (D : va_G) (g : Nat → ClassId) (q : Nat → Nat) (ws : va_W) (x2 : Int32) (x3 : Int32) (x4 : Int32) (hI : q_I (msh g q) q ws) (t0_0 : Int32) (t0_1 : Int32) (t0_2 : Int32) (t0_3 : Int64) (t0_4 : Int32) (t0_5 : Int32) (t0_6 : Int32) (t0_7 : Int32) (t0_8 : Int32) (t0_9 : Int32) (t0_10 : Int32) (hT0 : ws[134]? = (some (q 134, .inr (14, [.int t0_0, .ref (q 135), .int t0_1, .ref (q 136), .ref (q 137), .ref (q 138), .ref (q 139), .ref (q 140), .int t0_2, .long t0_3, .int t0_4, .int t0_5, .ref (q 141), .int t0_6, .ref (q 142), .int t0_7, .ref (q 143), .int t0_8, .ref (q 144), .int t0_9, .int t0_10])) : Option (Nat × va_E))) (t1_0 : (Nat → Int32)) (hT1 : ws[136]? = (some (q 136, .inl (g 0, (10000 : Int32).toNatClampNeg, .inl t1_0)) : Option (Nat × va_E))) (t2_0 : (Nat → Int32)) (hT2 : ws[137]? = (some (q 137, .inl (g 0, (10 : Int32).toNatClampNeg, .inl t2_0)) : Option (Nat × va_E))) (t3_0 : (Nat → Int32)) (hT3 : ws[138]? = (some (q 138, .inl (g 3, 10, .inl t3_0)) : Option (Nat × va_E))) (t4_0 : (Nat → Int32)) (hT4 : ws[139]? = (some (q 139, .inl (g 0, (10 : Int32).toNatClampNeg, .inl t4_0)) : Option (Nat × va_E))) (t5_0 : (Nat → Int32)) (hT5 : ws[140]? = (some (q 140, .inl (g 0, (4400 : Int32).toNatClampNeg, .inl t5_0)) : Option (Nat × va_E))) (t6_0 : (Nat → Int32)) (hT6 : ws[141]? = (some (q 141, .inl (g 0, (4400 : Int32).toNatClampNeg, .inl t6_0)) : Option (Nat × va_E))) (hS : True ∧ S_DR_power x2 x3 x4 t0_0 t0_1 t0_2 t0_3 t0_4 t0_5 t0_6 t0_7 t0_8 t0_9 t0_10 t1_0 t2_0 t3_0 t4_0 t5_0 t6_0) : q_mV l y_DR_power prog_15_method_29_code 5 3 0 0 D g [.ref (q 134), .int x2, .int x3, .int x4] ws (fun u => q_I (msh g q) q u ∧ q_un ws u [134, 136, 137, 138, 139, 140, 141] ∧ ∃ (u0_0 : Int32) (u0_1 : Int32) (u0_2 : Int32) (u0_3 : Int64) (u0_4 : Int32) (u0_5 : Int32) (u0_6 : Int32) (u0_7 : Int32) (u0_8 : Int32) (u0_9 : Int32) (u0_10 : Int32) (u1_0 : (Nat → Int32)) (u2_0 : (Nat → Int32)) (u3_0 : (Nat → Int32)) (u4_0 : (Nat → Int32)) (u5_0 : (Nat → Int32)) (u6_0 : (Nat → Int32)), u[134]? = (some (q 134, .inr (14, [.int u0_0, .ref (q 135), .int u0_1, .ref (q 136), .ref (q 137), .ref (q 138), .ref (q 139), .ref (q 140), .int u0_2, .long u0_3, .int u0_4, .int u0_5, .ref (q 141), .int u0_6, .ref (q 142), .int u0_7, .ref (q 143), .int u0_8, .ref (q 144), .int u0_9, .int u0_10])) : Option (Nat × va_E)) ∧ u[136]? = (some (q 136, .inl (g 0, (10000 : Int32).toNatClampNeg, .inl u1_0)) : Option (Nat × va_E)) ∧ u[137]? = (some (q 137, .inl (g 0, (10 : Int32).toNatClampNeg, .inl u2_0)) : Option (Nat × va_E)) ∧ u[138]? = (some (q 138, .inl (g 3, 10, .inl u3_0)) : Option (Nat × va_E)) ∧ u[139]? = (some (q 139, .inl (g 0, (10 : Int32).toNatClampNeg, .inl u4_0)) : Option (Nat × va_E)) ∧ u[140]? = (some (q 140, .inl (g 0, (4400 : Int32).toNatClampNeg, .inl u5_0)) : Option (Nat × va_E)) ∧ u[141]? = (some (q 141, .inl (g 0, (4400 : Int32).toNatClampNeg, .inl u6_0)) : Option (Nat × va_E)) ∧ (0 ≤ u0_4.toInt) ∧ (0 ≤ u0_5.toInt) ∧ (u0_5.toInt ≤ 1) ∧ (t0_1.toInt ≤ u0_1.toInt) ∧ (u0_1.toInt ≤ t0_1.toInt) ∧ (u0_4.toInt ≤ t0_4.toInt) ∧ (t0_6.toInt ≤ u0_6.toInt) ∧ (u0_6.toInt ≤ t0_6.toInt) ∧ (t0_7.toInt ≤ u0_7.toInt) ∧ (u0_7.toInt ≤ t0_7.toInt) ∧ (t0_8.toInt ≤ u0_8.toInt) ∧ (u0_8.toInt ≤ t0_8.toInt) ∧ (t0_9.toInt ≤ u0_9.toInt) ∧ (u0_9.toInt ≤ t0_9.toInt) ∧ (u0_0, u0_1, u0_2, u0_3, u0_4, u0_5, u0_6, u0_7, u0_8, u0_9, u0_10, u1_0, u2_0, u3_0, u4_0, u5_0, u6_0) = (F_DR_power x2 x3 x4 t0_0 t0_1 t0_2 t0_3 t0_4 t0_5 t0_6 t0_7 t0_8 t0_9 t0_10 t1_0 t2_0 t3_0 t4_0 t5_0 t6_0)) := by
  intro sz
  refine q_into (by decide) (Nat.le_of_ble_eq_true rfl) ?_
  intro p e s m below meth c ls hsz C0 V hl
  have hx := C0.1
  have hb := C0.2.1
  obtain ⟨btt0_1, hZ9⟩ := n_w134 hI hT0
  obtain ⟨btt0_4, hZ9⟩ := hZ9
  obtain ⟨btt0_5, btt0_9⟩ := hZ9
  replace btt0_1 : q_F (0 ≤ t0_1.toInt ∧ t0_1.toInt ≤ 4100) := btt0_1
  replace btt0_4 : q_F (0 ≤ t0_4.toInt ∧ t0_4.toInt ≤ 1) := btt0_4
  replace btt0_5 : q_F (0 ≤ t0_5.toInt ∧ t0_5.toInt ≤ 1) := btt0_5
  replace btt0_9 : q_F (0 ≤ t0_9.toInt ∧ t0_9.toInt ≤ 12200) := btt0_9
  have hF : q_un ws ws [134, 136, 137, 138, 139, 140, 141] := q_u0
  have hl : lv_has ls 5 [(0, .ref (q 134)), (1, .int x2), (2, .int x3), (3, .int x4)] := hl
  refine lv_aload_n hx hb d_15_29_0 rfl (lv_at hl 0 rfl) ?_
  refine lv_iload_n hx hb d_15_29_1 rfl (lv_at hl 1 rfl) ?_
  refine q_goi V (q_runS (As := [.int x2]) (rest := [.ref (q 134)]) (d := 1) (mc := 0) (ms := 0) C0 V rfl LS_DR_113 (X_DR_no l D g q ws  x2 hI   _) rfl hl.1 rfl (Nat.le_of_ble_eq_true rfl) ⟨by decide, by decide⟩ ⟨Nat.le_of_ble_eq_true rfl, Nat.le_of_ble_eq_true rfl⟩ d_15_29_2) (fun a37 u35 H locs hp36 V => ?_)
  obtain ⟨rfl, b38, b39, hE40⟩ := hp36
  have e41 : a37 = (F_DR_no x2) := hE40
  clear b38
  clear b39
  refine q_join (X := Int32) (fun z H locs ls _ => q_F (0 ≤ z.toInt) ∧ q_F (z.toInt ≤ 1) ∧ q_Wd D g (va_A ws sz) s ws H locs ∧ lv_has ls 5 [(0, .ref (q 134)), (1, .int x2), (2, .int x3), (3, .int x4)] ∧ F_DR_power_J31 x2 x3 x4 t0_0 t0_1 t0_2 t0_3 t0_4 t0_5 t0_6 t0_7 t0_8 t0_9 t0_10 t1_0 t2_0 t3_0 t4_0 t5_0 t6_0 z = (F_DR_power x2 x3 x4 t0_0 t0_1 t0_2 t0_3 t0_4 t0_5 t0_6 t0_7 t0_8 t0_9 t0_10 t1_0 t2_0 t3_0 t4_0 t5_0 t6_0) ∧ True ∧ S_DR_power_J31 x2 x3 x4 t0_0 t0_1 t0_2 t0_3 t0_4 t0_5 t0_6 t0_7 t0_8 t0_9 t0_10 t1_0 t2_0 t3_0 t4_0 t5_0 t6_0 z) (fun z => [.int z, .ref (q 134)]) 31 0 0 ?_ ?_
  ·
    rintro lx42 H locs ls _ hZ9
    replace hZ9 := hZ9.2.2
    obtain ⟨V, hZ9⟩ := hZ9
    obtain ⟨hl, hZ9⟩ := hZ9
    obtain ⟨hR53, hS54⟩ := hZ9
    replace hl : lv_has ls 5 [(0, .ref (q 134)), (1, .int x2), (2, .int x3), (3, .int x4)] := hl
    refine q_put (ci := 14) (j := 0) (v := .int lx42) (ty := .int) C0 V i_DR o_DR n_DR rfl rfl hT0 (by decide) w_1996 rfl rfl rfl rfl (Nat.le_of_ble_eq_true rfl) d_15_29_31 (fun H locs w58 hu59 hT0 V => ?_)
    replace hT0 : w58[134]? = (some (q 134, .inr (14, [.int lx42, .ref (q 135), .int t0_1, .ref (q 136), .ref (q 137), .ref (q 138), .ref (q 139), .ref (q 140), .int t0_2, .long t0_3, .int t0_4, .int t0_5, .ref (q 141), .int t0_6, .ref (q 142), .int t0_7, .ref (q 143), .int t0_8, .ref (q 144), .int t0_9, .int t0_10])) : Option (Nat × va_E)) := hT0
    replace hI := n_p134 hI hu59 hT0 (by first | with_reducible exact q_fe btt0_1 | exact ⟨(by have t1 : 0 ≤ t0_1.toInt ∧ t0_1.toInt ≤ 4100 := btt0_1; omega), (by have t1 : 0 ≤ t0_1.toInt ∧ t0_1.toInt ≤ 4100 := btt0_1; omega)⟩) (by first | with_reducible exact q_fe btt0_4 | exact ⟨(by have t1 : 0 ≤ t0_4.toInt ∧ t0_4.toInt ≤ 1 := btt0_4; omega), (by have t1 : 0 ≤ t0_4.toInt ∧ t0_4.toInt ≤ 1 := btt0_4; omega)⟩) (by first | with_reducible exact q_fe btt0_5 | exact ⟨(by have t1 : 0 ≤ t0_5.toInt ∧ t0_5.toInt ≤ 1 := btt0_5; omega), (by have t1 : 0 ≤ t0_5.toInt ∧ t0_5.toInt ≤ 1 := btt0_5; omega)⟩) (by first | with_reducible exact q_fe btt0_9 | exact ⟨(by have t1 : 0 ≤ t0_9.toInt ∧ t0_9.toInt ≤ 12200 := btt0_9; omega), (by have t1 : 0 ≤ t0_9.toInt ∧ t0_9.toInt ≤ 12200 := btt0_9; omega)⟩)
    replace hT1 := (hu59 _ (by decide)).trans hT1
    replace hT2 := (hu59 _ (by decide)).trans hT2
    replace hT3 := (hu59 _ (by decide)).trans hT3
    replace hT4 := (hu59 _ (by decide)).trans hT4
    replace hT5 := (hu59 _ (by decide)).trans hT5
    replace hT6 := (hu59 _ (by decide)).trans hT6
    replace hF := q_us hF hu59 (by simp)
    refine lv_aload_n hx hb d_15_29_34 rfl (lv_at hl 0 rfl) ?_
    refine q_get (ci := 14) (j := 0) (v := .int lx42) C0 V i_DR rfl rfl hT0 (by decide) w_1996 rfl d_15_29_35 ?_
    refine lv_if_le (tgt := 42) hx hb d_15_29_38 (by decide) (fun c60 => ?_) (fun c60 => ?_)
    ·
      refine lv_aload_n hx hb d_15_29_42 rfl (lv_at hl 0 rfl) ?_
      refine lv_iconst (v := 2) hx hb d_15_29_43 (by decide) ?_
      refine q_put (ci := 14) (j := 20) (v := .int 2) (ty := .int) C0 V i_DR o_DR n_DR rfl rfl hT0 (by decide) w_2024 rfl rfl rfl rfl (Nat.le_of_ble_eq_true rfl) d_15_29_44 (fun H locs w62 hu63 hT0 V => ?_)
      replace hT0 : w62[134]? = (some (q 134, .inr (14, [.int lx42, .ref (q 135), .int t0_1, .ref (q 136), .ref (q 137), .ref (q 138), .ref (q 139), .ref (q 140), .int t0_2, .long t0_3, .int t0_4, .int t0_5, .ref (q 141), .int t0_6, .ref (q 142), .int t0_7, .ref (q 143), .int t0_8, .ref (q 144), .int t0_9, .int 2])) : Option (Nat × va_E)) := hT0
      replace hI := n_p134 hI hu63 hT0 (by first | with_reducible exact q_fe btt0_1 | exact ⟨(by have t1 : 0 ≤ t0_1.toInt ∧ t0_1.toInt ≤ 4100 := btt0_1; omega), (by have t1 : 0 ≤ t0_1.toInt ∧ t0_1.toInt ≤ 4100 := btt0_1; omega)⟩) (by first | with_reducible exact q_fe btt0_4 | exact ⟨(by have t1 : 0 ≤ t0_4.toInt ∧ t0_4.toInt ≤ 1 := btt0_4; omega), (by have t1 : 0 ≤ t0_4.toInt ∧ t0_4.toInt ≤ 1 := btt0_4; omega)⟩) (by first | with_reducible exact q_fe btt0_5 | exact ⟨(by have t1 : 0 ≤ t0_5.toInt ∧ t0_5.toInt ≤ 1 := btt0_5; omega), (by have t1 : 0 ≤ t0_5.toInt ∧ t0_5.toInt ≤ 1 := btt0_5; omega)⟩) (by first | with_reducible exact q_fe btt0_9 | exact ⟨(by have t1 : 0 ≤ t0_9.toInt ∧ t0_9.toInt ≤ 12200 := btt0_9; omega), (by have t1 : 0 ≤ t0_9.toInt ∧ t0_9.toInt ≤ 12200 := btt0_9; omega)⟩)
      replace hT1 := (hu63 _ (by decide)).trans hT1
      replace hT2 := (hu63 _ (by decide)).trans hT2
      replace hT3 := (hu63 _ (by decide)).trans hT3
      replace hT4 := (hu63 _ (by decide)).trans hT4
      replace hT5 := (hu63 _ (by decide)).trans hT5
      replace hT6 := (hu63 _ (by decide)).trans hT6
      replace hF := q_us hF hu63 (by simp)
      refine lv_aload_n hx hb d_15_29_47 rfl (lv_at hl 0 rfl) ?_
      refine lv_iconst (v := 1) hx hb d_15_29_48 (by decide) ?_
      refine q_put (ci := 14) (j := 8) (v := .int 1) (ty := .int) C0 V i_DR o_DR n_DR rfl rfl hT0 (by decide) w_2011 rfl rfl rfl rfl (Nat.le_of_ble_eq_true rfl) d_15_29_49 (fun H locs w64 hu65 hT0 V => ?_)
      replace hT0 : w64[134]? = (some (q 134, .inr (14, [.int lx42, .ref (q 135), .int t0_1, .ref (q 136), .ref (q 137), .ref (q 138), .ref (q 139), .ref (q 140), .int 1, .long t0_3, .int t0_4, .int t0_5, .ref (q 141), .int t0_6, .ref (q 142), .int t0_7, .ref (q 143), .int t0_8, .ref (q 144), .int t0_9, .int 2])) : Option (Nat × va_E)) := hT0
      replace hI := n_p134 hI hu65 hT0 (by first | with_reducible exact q_fe btt0_1 | exact ⟨(by have t1 : 0 ≤ t0_1.toInt ∧ t0_1.toInt ≤ 4100 := btt0_1; omega), (by have t1 : 0 ≤ t0_1.toInt ∧ t0_1.toInt ≤ 4100 := btt0_1; omega)⟩) (by first | with_reducible exact q_fe btt0_4 | exact ⟨(by have t1 : 0 ≤ t0_4.toInt ∧ t0_4.toInt ≤ 1 := btt0_4; omega), (by have t1 : 0 ≤ t0_4.toInt ∧ t0_4.toInt ≤ 1 := btt0_4; omega)⟩) (by first | with_reducible exact q_fe btt0_5 | exact ⟨(by have t1 : 0 ≤ t0_5.toInt ∧ t0_5.toInt ≤ 1 := btt0_5; omega), (by have t1 : 0 ≤ t0_5.toInt ∧ t0_5.toInt ≤ 1 := btt0_5; omega)⟩) (by first | with_reducible exact q_fe btt0_9 | exact ⟨(by have t1 : 0 ≤ t0_9.toInt ∧ t0_9.toInt ≤ 12200 := btt0_9; omega), (by have t1 : 0 ≤ t0_9.toInt ∧ t0_9.toInt ≤ 12200 := btt0_9; omega)⟩)
      replace hT1 := (hu65 _ (by decide)).trans hT1
      replace hT2 := (hu65 _ (by decide)).trans hT2
      replace hT3 := (hu65 _ (by decide)).trans hT3
      replace hT4 := (hu65 _ (by decide)).trans hT4
      replace hT5 := (hu65 _ (by decide)).trans hT5
      replace hT6 := (hu65 _ (by decide)).trans hT6
      replace hF := q_us hF hu65 (by simp)
      refine lv_aload_n hx hb d_15_29_52 rfl (lv_at hl 0 rfl) ?_
      refine q_get (ci := 14) (j := 7) (v := .ref (q 140)) C0 V i_DR rfl rfl hT0 (by decide) w_2010 rfl d_15_29_53 ?_
      refine lv_iconst (v := 0) hx hb d_15_29_56 (by decide) ?_
      refine lv_iconst (v := 1) hx hb d_15_29_57 (by decide) ?_
      refine q_iast C0 V hT5 (q_ix (x := 0) (by decide) (by omega) (by have e9 : (((4400 : Int32).toNatClampNeg : Nat) : Int) = 4400 := (by decide); omega)) d_15_29_58 (fun H locs w66 hu67 hT5 V => ?_)
      replace hI := n_ai' hI (n_r140 g q).1 hu67 hT5 (q_updB (fun _ => s_bnd) s_bnd)
      replace hT0 := (hu67 _ (by decide)).trans hT0
      replace hT1 := (hu67 _ (by decide)).trans hT1
      replace hT2 := (hu67 _ (by decide)).trans hT2
      replace hT3 := (hu67 _ (by decide)).trans hT3
      replace hT4 := (hu67 _ (by decide)).trans hT4
      replace hT6 := (hu67 _ (by decide)).trans hT6
      replace hF := q_us hF hu67 (by simp)
      obtain ⟨f68, e69⟩ := q_nm (upd t5_0 (0 : Int32).toNatClampNeg 1 : (Nat → Int32))
      rw [e69] at hT5
      refine lv_aload_n hx hb d_15_29_59 rfl (lv_at hl 0 rfl) ?_
      refine lv_lconst (v := 0) hx hb d_15_29_60 (by decide) ?_
      refine q_put (ci := 14) (j := 9) (v := .long 0) (ty := .long) C0 V i_DR o_DR n_DR rfl rfl hT0 (by decide) w_2012 rfl rfl rfl rfl (Nat.le_of_ble_eq_true rfl) d_15_29_61 (fun H locs w70 hu71 hT0 V => ?_)
      replace hT0 : w70[134]? = (some (q 134, .inr (14, [.int lx42, .ref (q 135), .int t0_1, .ref (q 136), .ref (q 137), .ref (q 138), .ref (q 139), .ref (q 140), .int 1, .long 0, .int t0_4, .int t0_5, .ref (q 141), .int t0_6, .ref (q 142), .int t0_7, .ref (q 143), .int t0_8, .ref (q 144), .int t0_9, .int 2])) : Option (Nat × va_E)) := hT0
      replace hI := n_p134 hI hu71 hT0 (by first | with_reducible exact q_fe btt0_1 | exact ⟨(by have t1 : 0 ≤ t0_1.toInt ∧ t0_1.toInt ≤ 4100 := btt0_1; omega), (by have t1 : 0 ≤ t0_1.toInt ∧ t0_1.toInt ≤ 4100 := btt0_1; omega)⟩) (by first | with_reducible exact q_fe btt0_4 | exact ⟨(by have t1 : 0 ≤ t0_4.toInt ∧ t0_4.toInt ≤ 1 := btt0_4; omega), (by have t1 : 0 ≤ t0_4.toInt ∧ t0_4.toInt ≤ 1 := btt0_4; omega)⟩) (by first | with_reducible exact q_fe btt0_5 | exact ⟨(by have t1 : 0 ≤ t0_5.toInt ∧ t0_5.toInt ≤ 1 := btt0_5; omega), (by have t1 : 0 ≤ t0_5.toInt ∧ t0_5.toInt ≤ 1 := btt0_5; omega)⟩) (by first | with_reducible exact q_fe btt0_9 | exact ⟨(by have t1 : 0 ≤ t0_9.toInt ∧ t0_9.toInt ≤ 12200 := btt0_9; omega), (by have t1 : 0 ≤ t0_9.toInt ∧ t0_9.toInt ≤ 12200 := btt0_9; omega)⟩)
      replace hT1 := (hu71 _ (by decide)).trans hT1
      replace hT2 := (hu71 _ (by decide)).trans hT2
      replace hT3 := (hu71 _ (by decide)).trans hT3
      replace hT4 := (hu71 _ (by decide)).trans hT4
      replace hT5 := (hu71 _ (by decide)).trans hT5
      replace hT6 := (hu71 _ (by decide)).trans hT6
      replace hF := q_us hF hu71 (by simp)
      refine lv_aload_n hx hb d_15_29_64 rfl (lv_at hl 0 rfl) ?_
      refine lv_iconst (v := 0) hx hb d_15_29_65 (by decide) ?_
      refine q_put (ci := 14) (j := 10) (v := .int 0) (ty := .boolean) C0 V i_DR o_DR n_DR rfl rfl hT0 (by decide) w_2013 rfl rfl rfl rfl (Nat.le_of_ble_eq_true rfl) d_15_29_66 (fun H locs w72 hu73 hT0 V => ?_)
      replace hT0 : w72[134]? = (some (q 134, .inr (14, [.int lx42, .ref (q 135), .int t0_1, .ref (q 136), .ref (q 137), .ref (q 138), .ref (q 139), .ref (q 140), .int 1, .long 0, .int 0, .int t0_5, .ref (q 141), .int t0_6, .ref (q 142), .int t0_7, .ref (q 143), .int t0_8, .ref (q 144), .int t0_9, .int 2])) : Option (Nat × va_E)) := hT0
      replace hI := n_p134 hI hu73 hT0 (by first | with_reducible exact q_fe btt0_1 | exact ⟨(by have t1 : 0 ≤ t0_1.toInt ∧ t0_1.toInt ≤ 4100 := btt0_1; omega), (by have t1 : 0 ≤ t0_1.toInt ∧ t0_1.toInt ≤ 4100 := btt0_1; omega)⟩) ⟨(by have z9 : (0 : Int32).toInt = 0 := rfl; omega), (by have z9 : (0 : Int32).toInt = 0 := rfl; omega)⟩ (by first | with_reducible exact q_fe btt0_5 | exact ⟨(by have t1 : 0 ≤ t0_5.toInt ∧ t0_5.toInt ≤ 1 := btt0_5; omega), (by have t1 : 0 ≤ t0_5.toInt ∧ t0_5.toInt ≤ 1 := btt0_5; omega)⟩) (by first | with_reducible exact q_fe btt0_9 | exact ⟨(by have t1 : 0 ≤ t0_9.toInt ∧ t0_9.toInt ≤ 12200 := btt0_9; omega), (by have t1 : 0 ≤ t0_9.toInt ∧ t0_9.toInt ≤ 12200 := btt0_9; omega)⟩)
      replace hT1 := (hu73 _ (by decide)).trans hT1
      replace hT2 := (hu73 _ (by decide)).trans hT2
      replace hT3 := (hu73 _ (by decide)).trans hT3
      replace hT4 := (hu73 _ (by decide)).trans hT4
      replace hT5 := (hu73 _ (by decide)).trans hT5
      replace hT6 := (hu73 _ (by decide)).trans hT6
      replace hF := q_us hF hu73 (by simp)
      refine lv_aload_n hx hb d_15_29_69 rfl (lv_at hl 0 rfl) ?_
      refine lv_iconst (v := 0) hx hb d_15_29_70 (by decide) ?_
      refine q_put (ci := 14) (j := 11) (v := .int 0) (ty := .boolean) C0 V i_DR o_DR n_DR rfl rfl hT0 (by decide) w_2014 rfl rfl rfl rfl (Nat.le_of_ble_eq_true rfl) d_15_29_71 (fun H locs w74 hu75 hT0 V => ?_)
      replace hT0 : w74[134]? = (some (q 134, .inr (14, [.int lx42, .ref (q 135), .int t0_1, .ref (q 136), .ref (q 137), .ref (q 138), .ref (q 139), .ref (q 140), .int 1, .long 0, .int 0, .int 0, .ref (q 141), .int t0_6, .ref (q 142), .int t0_7, .ref (q 143), .int t0_8, .ref (q 144), .int t0_9, .int 2])) : Option (Nat × va_E)) := hT0
      replace hI := n_p134 hI hu75 hT0 (by first | with_reducible exact q_fe btt0_1 | exact ⟨(by have t1 : 0 ≤ t0_1.toInt ∧ t0_1.toInt ≤ 4100 := btt0_1; omega), (by have t1 : 0 ≤ t0_1.toInt ∧ t0_1.toInt ≤ 4100 := btt0_1; omega)⟩) ⟨(by have z9 : (0 : Int32).toInt = 0 := rfl; omega), (by have z9 : (0 : Int32).toInt = 0 := rfl; omega)⟩ ⟨(by have z9 : (0 : Int32).toInt = 0 := rfl; omega), (by have z9 : (0 : Int32).toInt = 0 := rfl; omega)⟩ (by first | with_reducible exact q_fe btt0_9 | exact ⟨(by have t1 : 0 ≤ t0_9.toInt ∧ t0_9.toInt ≤ 12200 := btt0_9; omega), (by have t1 : 0 ≤ t0_9.toInt ∧ t0_9.toInt ≤ 12200 := btt0_9; omega)⟩)
      replace hT1 := (hu75 _ (by decide)).trans hT1
      replace hT2 := (hu75 _ (by decide)).trans hT2
      replace hT3 := (hu75 _ (by decide)).trans hT3
      replace hT4 := (hu75 _ (by decide)).trans hT4
      replace hT5 := (hu75 _ (by decide)).trans hT5
      replace hT6 := (hu75 _ (by decide)).trans hT6
      replace hF := q_us hF hu75 (by simp)
      refine lv_iconst (v := 0) hx hb d_15_29_74 (by decide) ?_
      refine lv_istore (lv' := [(4, .int 0), (0, .ref (q 134)), (1, .int x2), (2, .int x3), (3, .int x4)]) hx hb d_15_29_75 hl (by decide) rfl (fun ls hl => ?_)
      refine q_loop (X := Int32 × Int32 × Int32 × Int32 × Int64 × Int32 × Int32 × Int32 × Int32 × Int32 × Int32 × Int32 × (Nat → Int32) × (Nat → Int32)) (fun z H locs ls w111 => q_F (0 ≤ z.2.2.2.2.2.1.toInt) ∧ q_F (z.2.2.2.2.2.1.toInt ≤ 0) ∧ q_F (0 ≤ z.2.2.2.2.2.2.1.toInt) ∧ q_F (z.2.2.2.2.2.2.1.toInt ≤ 1) ∧ q_F (2 ≤ z.2.2.2.2.2.2.2.2.2.2.2.1.toInt) ∧ q_F (z.2.2.2.2.2.2.2.2.2.2.2.1.toInt ≤ 2) ∧ q_F (lx42.toInt ≤ z.2.1.toInt) ∧ q_F (z.2.1.toInt ≤ lx42.toInt) ∧ q_F (t0_1.toInt ≤ z.2.2.1.toInt) ∧ q_F (z.2.2.1.toInt ≤ t0_1.toInt) ∧ q_F (t0_6.toInt ≤ z.2.2.2.2.2.2.2.1.toInt) ∧ q_F (z.2.2.2.2.2.2.2.1.toInt ≤ t0_6.toInt) ∧ q_F (t0_7.toInt ≤ z.2.2.2.2.2.2.2.2.1.toInt) ∧ q_F (z.2.2.2.2.2.2.2.2.1.toInt ≤ t0_7.toInt) ∧ q_F (t0_8.toInt ≤ z.2.2.2.2.2.2.2.2.2.1.toInt) ∧ q_F (z.2.2.2.2.2.2.2.2.2.1.toInt ≤ t0_8.toInt) ∧ q_F (t0_9.toInt ≤ z.2.2.2.2.2.2.2.2.2.2.1.toInt) ∧ q_F (z.2.2.2.2.2.2.2.2.2.2.1.toInt ≤ t0_9.toInt) ∧ q_F (z.2.2.2.2.2.2.1.toInt ≤ z.1.toInt) ∧ q_Wd D g (va_A ws sz) s w111 H locs ∧ lv_has ls 5 [(4, .int z.1), (0, .ref (q 134)), (1, .int x2), (2, .int x3), (3, .int x4)] ∧ q_I (msh g q) q w111 ∧ q_un ws w111 [134, 136, 137, 138, 139, 140, 141] ∧ w111[134]? = (some (q 134, .inr (14, [.int z.2.1, .ref (q 135), .int z.2.2.1, .ref (q 136), .ref (q 137), .ref (q 138), .ref (q 139), .ref (q 140), .int z.2.2.2.1, .long z.2.2.2.2.1, .int z.2.2.2.2.2.1, .int z.2.2.2.2.2.2.1, .ref (q 141), .int z.2.2.2.2.2.2.2.1, .ref (q 142), .int z.2.2.2.2.2.2.2.2.1, .ref (q 143), .int z.2.2.2.2.2.2.2.2.2.1, .ref (q 144), .int z.2.2.2.2.2.2.2.2.2.2.1, .int z.2.2.2.2.2.2.2.2.2.2.2.1])) : Option (Nat × va_E)) ∧ w111[136]? = (some (q 136, .inl (g 0, (10000 : Int32).toNatClampNeg, .inl t1_0)) : Option (Nat × va_E)) ∧ w111[137]? = (some (q 137, .inl (g 0, (10 : Int32).toNatClampNeg, .inl t2_0)) : Option (Nat × va_E)) ∧ w111[138]? = (some (q 138, .inl (g 3, 10, .inl t3_0)) : Option (Nat × va_E)) ∧ w111[139]? = (some (q 139, .inl (g 0, (10 : Int32).toNatClampNeg, .inl t4_0)) : Option (Nat × va_E)) ∧ w111[140]? = (some (q 140, .inl (g 0, (4400 : Int32).toNatClampNeg, .inl z.2.2.2.2.2.2.2.2.2.2.2.2.1)) : Option (Nat × va_E)) ∧ w111[141]? = (some (q 141, .inl (g 0, (4400 : Int32).toNatClampNeg, .inl z.2.2.2.2.2.2.2.2.2.2.2.2.2)) : Option (Nat × va_E)) ∧ (∃ n, (x3.toInt - z.1.toInt).toNat < n ∧ F_DR_power_L77 x2 x3 x4 t0_0 t0_1 t0_2 t0_3 t0_4 t0_5 t0_6 t0_7 t0_8 t0_9 t0_10 t1_0 t2_0 t3_0 t4_0 t5_0 t6_0 lx42 n z.1 z.2.1 z.2.2.1 z.2.2.2.1 z.2.2.2.2.1 z.2.2.2.2.2.1 z.2.2.2.2.2.2.1 z.2.2.2.2.2.2.2.1 z.2.2.2.2.2.2.2.2.1 z.2.2.2.2.2.2.2.2.2.1 z.2.2.2.2.2.2.2.2.2.2.1 z.2.2.2.2.2.2.2.2.2.2.2.1 z.2.2.2.2.2.2.2.2.2.2.2.2.1 z.2.2.2.2.2.2.2.2.2.2.2.2.2 = (F_DR_power x2 x3 x4 t0_0 t0_1 t0_2 t0_3 t0_4 t0_5 t0_6 t0_7 t0_8 t0_9 t0_10 t1_0 t2_0 t3_0 t4_0 t5_0 t6_0) ∧ True ∧ S_DR_power_L77 x2 x3 x4 t0_0 t0_1 t0_2 t0_3 t0_4 t0_5 t0_6 t0_7 t0_8 t0_9 t0_10 t1_0 t2_0 t3_0 t4_0 t5_0 t6_0 lx42 n z.1 z.2.1 z.2.2.1 z.2.2.2.1 z.2.2.2.2.1 z.2.2.2.2.2.1 z.2.2.2.2.2.2.1 z.2.2.2.2.2.2.2.1 z.2.2.2.2.2.2.2.2.1 z.2.2.2.2.2.2.2.2.2.1 z.2.2.2.2.2.2.2.2.2.2.1 z.2.2.2.2.2.2.2.2.2.2.2.1 z.2.2.2.2.2.2.2.2.2.2.2.2.1 z.2.2.2.2.2.2.2.2.2.2.2.2.2)) (fun z => (x3.toInt - z.1.toInt).toNat) ?_ ((0 : Int32), (lx42 : Int32), (t0_1 : Int32), (1 : Int32), (0 : Int64), (0 : Int32), (0 : Int32), (t0_6 : Int32), (t0_7 : Int32), (t0_8 : Int32), (t0_9 : Int32), (2 : Int32), (f68 : (Nat → Int32)), (t6_0 : (Nat → Int32))) _ _ _ w74 ⟨(show q_F (0 ≤ 0) from (show 0 ≤ 0 from by omega)), (show q_F (0 ≤ 0) from (show 0 ≤ 0 from by omega)), (show q_F (0 ≤ 0) from (show 0 ≤ 0 from by omega)), (show q_F (0 ≤ 1) from (show 0 ≤ 1 from by omega)), (show q_F (2 ≤ 2) from (show 2 ≤ 2 from by omega)), (show q_F (2 ≤ 2) from (show 2 ≤ 2 from by omega)), (show q_F (lx42.toInt ≤ lx42.toInt) from (show lx42.toInt ≤ lx42.toInt from by omega)), (show q_F (lx42.toInt ≤ lx42.toInt) from (show lx42.toInt ≤ lx42.toInt from by omega)), (show q_F (t0_1.toInt ≤ t0_1.toInt) from (show t0_1.toInt ≤ t0_1.toInt from by omega)), (show q_F (t0_1.toInt ≤ t0_1.toInt) from (show t0_1.toInt ≤ t0_1.toInt from by omega)), (show q_F (t0_6.toInt ≤ t0_6.toInt) from (show t0_6.toInt ≤ t0_6.toInt from by omega)), (show q_F (t0_6.toInt ≤ t0_6.toInt) from (show t0_6.toInt ≤ t0_6.toInt from by omega)), (show q_F (t0_7.toInt ≤ t0_7.toInt) from (show t0_7.toInt ≤ t0_7.toInt from by omega)), (show q_F (t0_7.toInt ≤ t0_7.toInt) from (show t0_7.toInt ≤ t0_7.toInt from by omega)), (show q_F (t0_8.toInt ≤ t0_8.toInt) from (show t0_8.toInt ≤ t0_8.toInt from by omega)), (show q_F (t0_8.toInt ≤ t0_8.toInt) from (show t0_8.toInt ≤ t0_8.toInt from by omega)), (show q_F (t0_9.toInt ≤ t0_9.toInt) from (show t0_9.toInt ≤ t0_9.toInt from by omega)), (show q_F (t0_9.toInt ≤ t0_9.toInt) from (show t0_9.toInt ≤ t0_9.toInt from by omega)), (show q_F (0 ≤ 0) from (show 0 ≤ 0 from by omega)), V, q_lw hl (q_lw1 0 rfl (q_lw1 1 rfl (q_lw1 2 rfl (q_lw1 3 rfl (q_lw1 4 rfl q_lw0))))), hI, hF, hT0, hT1, hT2, hT3, hT4, hT5, hT6, ⟨((x3.toInt - (0 : Int32).toInt).toNat + 1), Nat.lt_succ_self _, (show F_DR_power_L77 x2 x3 x4 t0_0 t0_1 t0_2 t0_3 t0_4 t0_5 t0_6 t0_7 t0_8 t0_9 t0_10 t1_0 t2_0 t3_0 t4_0 t5_0 t6_0 lx42 ((x3.toInt - (0 : Int32).toInt).toNat + 1) 0 lx42 t0_1 1 0 0 0 t0_6 t0_7 t0_8 t0_9 2 f68 t6_0 = (F_DR_power x2 x3 x4 t0_0 t0_1 t0_2 t0_3 t0_4 t0_5 t0_6 t0_7 t0_8 t0_9 t0_10 t1_0 t2_0 t3_0 t4_0 t5_0 t6_0) from Eq.trans (by rw [← e69, F_DR_power_J31.eq_1, if_pos c60]) hR53), (show True ∧ S_DR_power_L77 x2 x3 x4 t0_0 t0_1 t0_2 t0_3 t0_4 t0_5 t0_6 t0_7 t0_8 t0_9 t0_10 t1_0 t2_0 t3_0 t4_0 t5_0 t6_0 lx42 ((x3.toInt - (0 : Int32).toInt).toNat + 1) 0 lx42 t0_1 1 0 0 0 t0_6 t0_7 t0_8 t0_9 2 f68 t6_0 from (by rw [← e69]; have h := hS54; rw [S_DR_power_J31.eq_1] at h; rw [if_pos c60] at h; with_reducible exact h))⟩⟩
      rintro ⟨lx77, lx78, lx79, lx80, lx81, lx82, lx83, lx84, lx85, lx86, lx87, lx88, lx89, lx90⟩ H locs ls w111 ⟨i91, i92, i93, i94, i95, i96, i97, i98, i99, i100, i101, i102, i103, i104, i105, i106, i107, i108, i109, V, hl, hI, hF, hO112, hO113, hO114, hO115, hO116, hO117, hO118, ⟨fu121, hf122, hR119, hS120⟩⟩ ih110
      obtain ⟨fm123, rfl⟩ : ∃ m, fu121 = m + 1 := ⟨fu121 - 1, by omega⟩
      replace i91 : q_F (0 ≤ lx82.toInt) := i91
      replace i92 : q_F (lx82.toInt ≤ 0) := i92
      replace i93 : q_F (0 ≤ lx83.toInt) := i93
      replace i94 : q_F (lx83.toInt ≤ 1) := i94
      replace i95 : q_F (2 ≤ lx88.toInt) := i95
      replace i96 : q_F (lx88.toInt ≤ 2) := i96
      replace i97 : q_F (lx42.toInt ≤ lx78.toInt) := i97
      replace i98 : q_F (lx78.toInt ≤ lx42.toInt) := i98
      replace i99 : q_F (t0_1.toInt ≤ lx79.toInt) := i99
      replace i100 : q_F (lx79.toInt ≤ t0_1.toInt) := i100
      replace i101 : q_F (t0_6.toInt ≤ lx84.toInt) := i101
      replace i102 : q_F (lx84.toInt ≤ t0_6.toInt) := i102
      replace i103 : q_F (t0_7.toInt ≤ lx85.toInt) := i103
      replace i104 : q_F (lx85.toInt ≤ t0_7.toInt) := i104
      replace i105 : q_F (t0_8.toInt ≤ lx86.toInt) := i105
      replace i106 : q_F (lx86.toInt ≤ t0_8.toInt) := i106
      replace i107 : q_F (t0_9.toInt ≤ lx87.toInt) := i107
      replace i108 : q_F (lx87.toInt ≤ t0_9.toInt) := i108
      replace i109 : q_F (lx83.toInt ≤ lx77.toInt) := i109
      replace hl : lv_has ls 5 [(4, .int lx77), (0, .ref (q 134)), (1, .int x2), (2, .int x3), (3, .int x4)] := hl
      replace hO112 : w111[134]? = (some (q 134, .inr (14, [.int lx78, .ref (q 135), .int lx79, .ref (q 136), .ref (q 137), .ref (q 138), .ref (q 139), .ref (q 140), .int lx80, .long lx81, .int lx82, .int lx83, .ref (q 141), .int lx84, .ref (q 142), .int lx85, .ref (q 143), .int lx86, .ref (q 144), .int lx87, .int lx88])) : Option (Nat × va_E)) := hO112
      replace hO113 : w111[136]? = (some (q 136, .inl (g 0, (10000 : Int32).toNatClampNeg, .inl t1_0)) : Option (Nat × va_E)) := hO113
      replace hO114 : w111[137]? = (some (q 137, .inl (g 0, (10 : Int32).toNatClampNeg, .inl t2_0)) : Option (Nat × va_E)) := hO114
      replace hO115 : w111[138]? = (some (q 138, .inl (g 3, 10, .inl t3_0)) : Option (Nat × va_E)) := hO115
      replace hO116 : w111[139]? = (some (q 139, .inl (g 0, (10 : Int32).toNatClampNeg, .inl t4_0)) : Option (Nat × va_E)) := hO116
      replace hO117 : w111[140]? = (some (q 140, .inl (g 0, (4400 : Int32).toNatClampNeg, .inl lx89)) : Option (Nat × va_E)) := hO117
      replace hO118 : w111[141]? = (some (q 141, .inl (g 0, (4400 : Int32).toNatClampNeg, .inl lx90)) : Option (Nat × va_E)) := hO118
      refine lv_iload hx hb d_15_29_77 (lv_at hl 0 rfl) ?_
      refine lv_iload_n hx hb d_15_29_79 rfl (lv_at hl 3 rfl) ?_
      refine lv_icmp_ge (tgt := 103) hx hb d_15_29_80 (by decide) (fun c124 => ?_) (fun c124 => ?_)
      ·
        refine lv_aload_n hx hb d_15_29_103 rfl (lv_at hl 1 rfl) ?_
        refine lv_iload_n hx hb d_15_29_104 rfl (lv_at hl 4 rfl) ?_
        have ob126 : True ∧ S_DR_store x4 lx78 lx79 lx80 lx81 lx82 lx83 lx84 lx85 lx86 lx87 lx88 t1_0 t2_0 t3_0 t4_0 lx89 := (by have h := hS120; rw [S_DR_power_L77.eq_2] at h; rw [if_pos c124] at h; with_reducible exact h.2.1)
        refine q_gov V (q_runV (As := [.int x4]) (rest := []) (d := 2) (mc := 0) (ms := 0) (ci := 14) C0 V rfl LV_DR_89 (X_DR_store l D g q w111  x4 hI lx78 lx79 lx80 lx81 lx82 lx83 lx84 lx85 lx86 lx87 lx88 hO112 t1_0 hO113 t2_0 hO114 t3_0 hO115 t4_0 hO116 lx89 hO117 ob126 _) rfl rfl hO112 rfl hl.1 rfl (Nat.le_of_ble_eq_true rfl) ⟨by decide, by decide⟩ ⟨Nat.le_of_ble_eq_true rfl, Nat.le_of_ble_eq_true rfl⟩ d_15_29_105) (fun u127 H locs hp128 V => ?_)
        obtain ⟨hI, hZ9⟩ := hp128
        obtain ⟨hu174, hZ9⟩ := hZ9
        obtain ⟨y130, hZ9⟩ := hZ9
        obtain ⟨y131, hZ9⟩ := hZ9
        obtain ⟨y132, hZ9⟩ := hZ9
        obtain ⟨y133, hZ9⟩ := hZ9
        obtain ⟨y134, hZ9⟩ := hZ9
        obtain ⟨y135, hZ9⟩ := hZ9
        obtain ⟨y136, hZ9⟩ := hZ9
        obtain ⟨y137, hZ9⟩ := hZ9
        obtain ⟨y138, hZ9⟩ := hZ9
        obtain ⟨y139, hZ9⟩ := hZ9
        obtain ⟨y140, hZ9⟩ := hZ9
        obtain ⟨f141, hZ9⟩ := hZ9
        obtain ⟨f143, hZ9⟩ := hZ9
        obtain ⟨f145, hZ9⟩ := hZ9
        obtain ⟨f147, hZ9⟩ := hZ9
        obtain ⟨f149, hZ9⟩ := hZ9
        obtain ⟨hO129, hZ9⟩ := hZ9
        obtain ⟨hA142, hZ9⟩ := hZ9
        obtain ⟨hA144, hZ9⟩ := hZ9
        obtain ⟨hA146, hZ9⟩ := hZ9
        obtain ⟨hA148, hZ9⟩ := hZ9
        obtain ⟨hA150, hZ9⟩ := hZ9
        obtain ⟨b151, hZ9⟩ := hZ9
        obtain ⟨b152, hZ9⟩ := hZ9
        obtain ⟨b153, hZ9⟩ := hZ9
        replace hZ9 := hZ9.2.2.2.2
        obtain ⟨b158, hZ9⟩ := hZ9
        obtain ⟨b159, hZ9⟩ := hZ9
        replace hZ9 := hZ9.2
        obtain ⟨b161, hZ9⟩ := hZ9
        obtain ⟨b162, hZ9⟩ := hZ9
        obtain ⟨b163, hZ9⟩ := hZ9
        obtain ⟨b164, hZ9⟩ := hZ9
        obtain ⟨b165, hZ9⟩ := hZ9
        obtain ⟨b166, hZ9⟩ := hZ9
        obtain ⟨b167, hZ9⟩ := hZ9
        replace hZ9 := hZ9.2
        obtain ⟨b169, hZ9⟩ := hZ9
        obtain ⟨b170, hZ9⟩ := hZ9
        replace hZ9 := hZ9.2
        obtain ⟨-, hE173⟩ := hZ9
        replace hO129 : u127[134]? = (some (q 134, .inr (14, [.int y130, .ref (q 135), .int y131, .ref (q 136), .ref (q 137), .ref (q 138), .ref (q 139), .ref (q 140), .int y132, .long y133, .int y134, .int y135, .ref (q 141), .int y136, .ref (q 142), .int y137, .ref (q 143), .int y138, .ref (q 144), .int y139, .int y140])) : Option (Nat × va_E)) := hO129
        replace hA142 : u127[136]? = (some (q 136, .inl (g 0, (10000 : Int32).toNatClampNeg, .inl f141)) : Option (Nat × va_E)) := hA142
        replace hA144 : u127[137]? = (some (q 137, .inl (g 0, (10 : Int32).toNatClampNeg, .inl f143)) : Option (Nat × va_E)) := hA144
        replace hA146 : u127[138]? = (some (q 138, .inl (g 3, 10, .inl f145)) : Option (Nat × va_E)) := hA146
        replace hA148 : u127[139]? = (some (q 139, .inl (g 0, (10 : Int32).toNatClampNeg, .inl f147)) : Option (Nat × va_E)) := hA148
        replace hA150 : u127[140]? = (some (q 140, .inl (g 0, (4400 : Int32).toNatClampNeg, .inl f149)) : Option (Nat × va_E)) := hA150
        obtain ⟨p175, e176⟩ : ∃ z, z = (F_DR_store x4 lx78 lx79 lx80 lx81 lx82 lx83 lx84 lx85 lx86 lx87 lx88 t1_0 t2_0 t3_0 t4_0 lx89) := ⟨_, rfl⟩
        have e177 : y130 = p175.1 := congrArg (fun z => z.1) (hE173.trans e176.symm)
        have e178 : y131 = p175.2.1 := congrArg (fun z => z.2.1) (hE173.trans e176.symm)
        have e179 : y132 = p175.2.2.1 := congrArg (fun z => z.2.2.1) (hE173.trans e176.symm)
        have e180 : y133 = p175.2.2.2.1 := congrArg (fun z => z.2.2.2.1) (hE173.trans e176.symm)
        have e181 : y134 = p175.2.2.2.2.1 := congrArg (fun z => z.2.2.2.2.1) (hE173.trans e176.symm)
        have e182 : y135 = p175.2.2.2.2.2.1 := congrArg (fun z => z.2.2.2.2.2.1) (hE173.trans e176.symm)
        have e183 : y136 = p175.2.2.2.2.2.2.1 := congrArg (fun z => z.2.2.2.2.2.2.1) (hE173.trans e176.symm)
        have e184 : y137 = p175.2.2.2.2.2.2.2.1 := congrArg (fun z => z.2.2.2.2.2.2.2.1) (hE173.trans e176.symm)
        have e185 : y138 = p175.2.2.2.2.2.2.2.2.1 := congrArg (fun z => z.2.2.2.2.2.2.2.2.1) (hE173.trans e176.symm)
        have e186 : y139 = p175.2.2.2.2.2.2.2.2.2.1 := congrArg (fun z => z.2.2.2.2.2.2.2.2.2.1) (hE173.trans e176.symm)
        have e187 : y140 = p175.2.2.2.2.2.2.2.2.2.2.1 := congrArg (fun z => z.2.2.2.2.2.2.2.2.2.2.1) (hE173.trans e176.symm)
        have e188 : f141 = p175.2.2.2.2.2.2.2.2.2.2.2.1 := congrArg (fun z => z.2.2.2.2.2.2.2.2.2.2.2.1) (hE173.trans e176.symm)
        have e189 : f143 = p175.2.2.2.2.2.2.2.2.2.2.2.2.1 := congrArg (fun z => z.2.2.2.2.2.2.2.2.2.2.2.2.1) (hE173.trans e176.symm)
        have e190 : f145 = p175.2.2.2.2.2.2.2.2.2.2.2.2.2.1 := congrArg (fun z => z.2.2.2.2.2.2.2.2.2.2.2.2.2.1) (hE173.trans e176.symm)
        have e191 : f147 = p175.2.2.2.2.2.2.2.2.2.2.2.2.2.2.1 := congrArg (fun z => z.2.2.2.2.2.2.2.2.2.2.2.2.2.2.1) (hE173.trans e176.symm)
        have e192 : f149 = p175.2.2.2.2.2.2.2.2.2.2.2.2.2.2.2 := congrArg (fun z => z.2.2.2.2.2.2.2.2.2.2.2.2.2.2.2) (hE173.trans e176.symm)
        replace b151 : q_F (0 ≤ y135.toInt) := b151
        replace b152 : q_F (lx79.toInt ≤ y131.toInt) := b152
        replace b153 : q_F (y131.toInt ≤ lx79.toInt) := b153
        replace b158 : q_F (lx82.toInt ≤ y134.toInt) := b158
        replace b159 : q_F (y134.toInt ≤ lx82.toInt) := b159
        replace b161 : q_F (y135.toInt ≤ lx83.toInt) := b161
        replace b162 : q_F (lx84.toInt ≤ y136.toInt) := b162
        replace b163 : q_F (y136.toInt ≤ lx84.toInt) := b163
        replace b164 : q_F (lx85.toInt ≤ y137.toInt) := b164
        replace b165 : q_F (y137.toInt ≤ lx85.toInt) := b165
        replace b166 : q_F (lx86.toInt ≤ y138.toInt) := b166
        replace b167 : q_F (y138.toInt ≤ lx86.toInt) := b167
        replace b169 : q_F (lx87.toInt ≤ y139.toInt) := b169
        replace b170 : q_F (y139.toInt ≤ lx87.toInt) := b170
        replace hO118 := (hu174 _ (by decide)).trans hO118
        replace hF := q_uc hF hu174 (by simp)
        have hR193 := (show F_DR_power_c105 (F_DR_power_L77 x2 x3 x4 t0_0 t0_1 t0_2 t0_3 t0_4 t0_5 t0_6 t0_7 t0_8 t0_9 t0_10 t1_0 t2_0 t3_0 t4_0 t5_0 t6_0 lx42 fm123) x2 x3 x4 t0_0 t0_1 t0_2 t0_3 t0_4 t0_5 t0_6 t0_7 t0_8 t0_9 t0_10 t1_0 t2_0 t3_0 t4_0 t5_0 t6_0 lx42 lx77 lx78 lx79 lx80 lx81 lx82 lx83 lx84 lx85 lx86 lx87 lx88 lx89 lx90 p175 = (F_DR_power x2 x3 x4 t0_0 t0_1 t0_2 t0_3 t0_4 t0_5 t0_6 t0_7 t0_8 t0_9 t0_10 t1_0 t2_0 t3_0 t4_0 t5_0 t6_0) from Eq.trans (by rw [e176, F_DR_power_L77.eq_2, if_pos c124]) hR119)
        have hS194 := (show True ∧ S_DR_power_c105 (S_DR_power_L77 x2 x3 x4 t0_0 t0_1 t0_2 t0_3 t0_4 t0_5 t0_6 t0_7 t0_8 t0_9 t0_10 t1_0 t2_0 t3_0 t4_0 t5_0 t6_0 lx42 fm123) x2 x3 x4 t0_0 t0_1 t0_2 t0_3 t0_4 t0_5 t0_6 t0_7 t0_8 t0_9 t0_10 t1_0 t2_0 t3_0 t4_0 t5_0 t6_0 lx42 lx77 lx78 lx79 lx80 lx81 lx82 lx83 lx84 lx85 lx86 lx87 lx88 lx89 lx90 p175 from (by rw [e176]; have h := hS120; rw [S_DR_power_L77.eq_2] at h; rw [if_pos c124] at h; replace h := q_s2 h; with_reducible exact h))
        exact q_retv C0 V (⟨hI, hF, y130, y131, y132, y133, y134, y135, y136, y137, y138, y139, y140, f141, f143, f145, f147, f149, lx90, hO129, hA142, hA144, hA146, hA148, hA150, hO118, (show 0 ≤ y134.toInt from (by have t1 : 0 ≤ lx82.toInt := i91; have t2 : lx82.toInt ≤ y134.toInt := b158; omega)), (show 0 ≤ y135.toInt from (by first | with_reducible exact q_fe b151 | (have t1 : 0 ≤ y135.toInt := b151; omega))), (show y135.toInt ≤ 1 from (by have t1 : lx83.toInt ≤ 1 := i94; have t2 : y135.toInt ≤ lx83.toInt := b161; omega)), (show t0_1.toInt ≤ y131.toInt from (by have t1 : t0_1.toInt ≤ lx79.toInt := i99; have t2 : lx79.toInt ≤ y131.toInt := b152; omega)), (show y131.toInt ≤ t0_1.toInt from (by have t1 : lx79.toInt ≤ t0_1.toInt := i100; have t2 : y131.toInt ≤ lx79.toInt := b153; omega)), (show y134.toInt ≤ t0_4.toInt from (by have t1 : 0 ≤ t0_4.toInt ∧ t0_4.toInt ≤ 1 := btt0_4; have t2 : lx82.toInt ≤ 0 := i92; have t3 : y134.toInt ≤ lx82.toInt := b159; omega)), (show t0_6.toInt ≤ y136.toInt from (by have t1 : t0_6.toInt ≤ lx84.toInt := i101; have t2 : lx84.toInt ≤ y136.toInt := b162; omega)), (show y136.toInt ≤ t0_6.toInt from (by have t1 : lx84.toInt ≤ t0_6.toInt := i102; have t2 : y136.toInt ≤ lx84.toInt := b163; omega)), (show t0_7.toInt ≤ y137.toInt from (by have t1 : t0_7.toInt ≤ lx85.toInt := i103; have t2 : lx85.toInt ≤ y137.toInt := b164; omega)), (show y137.toInt ≤ t0_7.toInt from (by have t1 : lx85.toInt ≤ t0_7.toInt := i104; have t2 : y137.toInt ≤ lx85.toInt := b165; omega)), (show t0_8.toInt ≤ y138.toInt from (by have t1 : t0_8.toInt ≤ lx86.toInt := i105; have t2 : lx86.toInt ≤ y138.toInt := b166; omega)), (show y138.toInt ≤ t0_8.toInt from (by have t1 : lx86.toInt ≤ t0_8.toInt := i106; have t2 : y138.toInt ≤ lx86.toInt := b167; omega)), (show t0_9.toInt ≤ y139.toInt from (by have t1 : t0_9.toInt ≤ lx87.toInt := i107; have t2 : lx87.toInt ≤ y139.toInt := b169; omega)), (show y139.toInt ≤ t0_9.toInt from (by have t1 : lx87.toInt ≤ t0_9.toInt := i108; have t2 : y139.toInt ≤ lx87.toInt := b170; omega)), (show (y130, y131, y132, y133, y134, y135, y136, y137, y138, y139, y140, f141, f143, f145, f147, f149, lx90) = (F_DR_power x2 x3 x4 t0_0 t0_1 t0_2 t0_3 t0_4 t0_5 t0_6 t0_7 t0_8 t0_9 t0_10 t1_0 t2_0 t3_0 t4_0 t5_0 t6_0) from Eq.trans (by rw [e192, e191, e190, e189, e188, e187, e186, e185, e184, e183, e182, e181, e180, e179, e178, e177, F_DR_power_c105.eq_1]) hR193)⟩) d_15_29_108
      ·
        have b198 : q_F (lx77.toInt < x3.toInt) := (q_nleI c124)
        refine lv_aload_n hx hb d_15_29_83 rfl (lv_at hl 1 rfl) ?_
        refine lv_iload_n hx hb d_15_29_84 rfl (lv_at hl 2 rfl) ?_
        have ob199 : True ∧ S_DR_times x2 lx78 lx79 lx80 lx81 lx82 lx83 lx84 lx85 lx86 lx87 lx88 t1_0 t2_0 t3_0 t4_0 lx89 lx90 := (by have h := hS120; rw [S_DR_power_L77.eq_2] at h; rw [if_neg c124] at h; with_reducible exact h.2.1)
        refine q_goi V (q_runV (As := [.int x2]) (rest := []) (d := 2) (mc := 0) (ms := 0) (ci := 14) C0 V rfl LV_DR_135 (X_DR_times l D g q w111  x2 hI lx78 lx79 lx80 lx81 lx82 lx83 lx84 lx85 lx86 lx87 lx88 hO112 t1_0 hO113 t2_0 hO114 t3_0 hO115 t4_0 hO116 lx89 hO117 lx90 hO118 ob199 _) rfl rfl hO112 rfl hl.1 rfl (Nat.le_of_ble_eq_true rfl) ⟨by decide, by decide⟩ ⟨Nat.le_of_ble_eq_true rfl, Nat.le_of_ble_eq_true rfl⟩ d_15_29_85) (fun a202 u200 H locs hp201 V => ?_)
        obtain ⟨hI, hZ9⟩ := hp201
        obtain ⟨hu250, hZ9⟩ := hZ9
        obtain ⟨y204, hZ9⟩ := hZ9
        obtain ⟨y205, hZ9⟩ := hZ9
        obtain ⟨y206, hZ9⟩ := hZ9
        obtain ⟨y207, hZ9⟩ := hZ9
        obtain ⟨y208, hZ9⟩ := hZ9
        obtain ⟨y209, hZ9⟩ := hZ9
        obtain ⟨y210, hZ9⟩ := hZ9
        obtain ⟨y211, hZ9⟩ := hZ9
        obtain ⟨y212, hZ9⟩ := hZ9
        obtain ⟨y213, hZ9⟩ := hZ9
        obtain ⟨y214, hZ9⟩ := hZ9
        obtain ⟨f215, hZ9⟩ := hZ9
        obtain ⟨f217, hZ9⟩ := hZ9
        obtain ⟨hO203, hZ9⟩ := hZ9
        obtain ⟨hA216, hZ9⟩ := hZ9
        obtain ⟨hA218, hZ9⟩ := hZ9
        replace hZ9 := hZ9.2.2
        obtain ⟨b221, hZ9⟩ := hZ9
        obtain ⟨b222, hZ9⟩ := hZ9
        replace hZ9 := hZ9.2.2
        obtain ⟨b225, hZ9⟩ := hZ9
        obtain ⟨b226, hZ9⟩ := hZ9
        replace hZ9 := hZ9.2.2
        obtain ⟨b229, hZ9⟩ := hZ9
        obtain ⟨b230, hZ9⟩ := hZ9
        replace hZ9 := hZ9.2.2
        obtain ⟨b233, hZ9⟩ := hZ9
        obtain ⟨b234, hZ9⟩ := hZ9
        replace hZ9 := hZ9.2.2
        obtain ⟨b237, hZ9⟩ := hZ9
        obtain ⟨b238, hZ9⟩ := hZ9
        obtain ⟨b239, hZ9⟩ := hZ9
        obtain ⟨b240, hZ9⟩ := hZ9
        obtain ⟨b241, hZ9⟩ := hZ9
        obtain ⟨b242, hZ9⟩ := hZ9
        replace hZ9 := hZ9.2.2
        obtain ⟨b245, hZ9⟩ := hZ9
        obtain ⟨b246, hZ9⟩ := hZ9
        obtain ⟨b247, hZ9⟩ := hZ9
        obtain ⟨b248, hE249⟩ := hZ9
        replace hO203 : u200[134]? = (some (q 134, .inr (14, [.int y204, .ref (q 135), .int y205, .ref (q 136), .ref (q 137), .ref (q 138), .ref (q 139), .ref (q 140), .int y206, .long y207, .int y208, .int y209, .ref (q 141), .int y210, .ref (q 142), .int y211, .ref (q 143), .int y212, .ref (q 144), .int y213, .int y214])) : Option (Nat × va_E)) := hO203
        replace hA216 : u200[140]? = (some (q 140, .inl (g 0, (4400 : Int32).toNatClampNeg, .inl f215)) : Option (Nat × va_E)) := hA216
        replace hA218 : u200[141]? = (some (q 141, .inl (g 0, (4400 : Int32).toNatClampNeg, .inl f217)) : Option (Nat × va_E)) := hA218
        obtain ⟨p251, e252⟩ : ∃ z, z = (F_DR_times x2 lx78 lx79 lx80 lx81 lx82 lx83 lx84 lx85 lx86 lx87 lx88 t1_0 t2_0 t3_0 t4_0 lx89 lx90) := ⟨_, rfl⟩
        have e253 : a202 = p251.1 := congrArg (fun z => z.1) (hE249.trans e252.symm)
        have e254 : y204 = p251.2.1 := congrArg (fun z => z.2.1) (hE249.trans e252.symm)
        have e255 : y205 = p251.2.2.1 := congrArg (fun z => z.2.2.1) (hE249.trans e252.symm)
        have e256 : y206 = p251.2.2.2.1 := congrArg (fun z => z.2.2.2.1) (hE249.trans e252.symm)
        have e257 : y207 = p251.2.2.2.2.1 := congrArg (fun z => z.2.2.2.2.1) (hE249.trans e252.symm)
        have e258 : y208 = p251.2.2.2.2.2.1 := congrArg (fun z => z.2.2.2.2.2.1) (hE249.trans e252.symm)
        have e259 : y209 = p251.2.2.2.2.2.2.1 := congrArg (fun z => z.2.2.2.2.2.2.1) (hE249.trans e252.symm)
        have e260 : y210 = p251.2.2.2.2.2.2.2.1 := congrArg (fun z => z.2.2.2.2.2.2.2.1) (hE249.trans e252.symm)
        have e261 : y211 = p251.2.2.2.2.2.2.2.2.1 := congrArg (fun z => z.2.2.2.2.2.2.2.2.1) (hE249.trans e252.symm)
        have e262 : y212 = p251.2.2.2.2.2.2.2.2.2.1 := congrArg (fun z => z.2.2.2.2.2.2.2.2.2.1) (hE249.trans e252.symm)
        have e263 : y213 = p251.2.2.2.2.2.2.2.2.2.2.1 := congrArg (fun z => z.2.2.2.2.2.2.2.2.2.2.1) (hE249.trans e252.symm)
        have e264 : y214 = p251.2.2.2.2.2.2.2.2.2.2.2.1 := congrArg (fun z => z.2.2.2.2.2.2.2.2.2.2.2.1) (hE249.trans e252.symm)
        have e265 : f215 = p251.2.2.2.2.2.2.2.2.2.2.2.2.1 := congrArg (fun z => z.2.2.2.2.2.2.2.2.2.2.2.2.1) (hE249.trans e252.symm)
        have e266 : f217 = p251.2.2.2.2.2.2.2.2.2.2.2.2.2 := congrArg (fun z => z.2.2.2.2.2.2.2.2.2.2.2.2.2) (hE249.trans e252.symm)
        replace b221 : q_F (0 ≤ y209.toInt) := b221
        replace b222 : q_F (y209.toInt ≤ 1) := b222
        replace b225 : q_F (lx78.toInt ≤ y204.toInt) := b225
        replace b226 : q_F (y204.toInt ≤ lx78.toInt) := b226
        replace b229 : q_F (lx79.toInt ≤ y205.toInt) := b229
        replace b230 : q_F (y205.toInt ≤ lx79.toInt) := b230
        replace b233 : q_F (lx82.toInt ≤ y208.toInt) := b233
        replace b234 : q_F (y208.toInt ≤ lx82.toInt) := b234
        replace b237 : q_F (lx84.toInt ≤ y210.toInt) := b237
        replace b238 : q_F (y210.toInt ≤ lx84.toInt) := b238
        replace b239 : q_F (lx85.toInt ≤ y211.toInt) := b239
        replace b240 : q_F (y211.toInt ≤ lx85.toInt) := b240
        replace b241 : q_F (lx86.toInt ≤ y212.toInt) := b241
        replace b242 : q_F (y212.toInt ≤ lx86.toInt) := b242
        replace b245 : q_F (lx87.toInt ≤ y213.toInt) := b245
        replace b246 : q_F (y213.toInt ≤ lx87.toInt) := b246
        replace b247 : q_F (lx88.toInt ≤ y214.toInt) := b247
        replace b248 : q_F (y214.toInt ≤ lx88.toInt) := b248
        replace hO113 := (hu250 _ (by decide)).trans hO113
        replace hO114 := (hu250 _ (by decide)).trans hO114
        replace hO115 := (hu250 _ (by decide)).trans hO115
        replace hO116 := (hu250 _ (by decide)).trans hO116
        replace hF := q_uc hF hu250 (by simp)
        have hR267 := (show F_DR_power_c85 (F_DR_power_L77 x2 x3 x4 t0_0 t0_1 t0_2 t0_3 t0_4 t0_5 t0_6 t0_7 t0_8 t0_9 t0_10 t1_0 t2_0 t3_0 t4_0 t5_0 t6_0 lx42 fm123) x2 x3 x4 t0_0 t0_1 t0_2 t0_3 t0_4 t0_5 t0_6 t0_7 t0_8 t0_9 t0_10 t1_0 t2_0 t3_0 t4_0 t5_0 t6_0 lx42 lx77 lx78 lx79 lx80 lx81 lx82 lx83 lx84 lx85 lx86 lx87 lx88 lx89 lx90 p251 = (F_DR_power x2 x3 x4 t0_0 t0_1 t0_2 t0_3 t0_4 t0_5 t0_6 t0_7 t0_8 t0_9 t0_10 t1_0 t2_0 t3_0 t4_0 t5_0 t6_0) from Eq.trans (by rw [e252, F_DR_power_L77.eq_2, if_neg c124]) hR119)
        have hS268 := (show True ∧ S_DR_power_c85 (S_DR_power_L77 x2 x3 x4 t0_0 t0_1 t0_2 t0_3 t0_4 t0_5 t0_6 t0_7 t0_8 t0_9 t0_10 t1_0 t2_0 t3_0 t4_0 t5_0 t6_0 lx42 fm123) x2 x3 x4 t0_0 t0_1 t0_2 t0_3 t0_4 t0_5 t0_6 t0_7 t0_8 t0_9 t0_10 t1_0 t2_0 t3_0 t4_0 t5_0 t6_0 lx42 lx77 lx78 lx79 lx80 lx81 lx82 lx83 lx84 lx85 lx86 lx87 lx88 lx89 lx90 p251 from (by rw [e252]; have h := hS120; rw [S_DR_power_L77.eq_2] at h; rw [if_neg c124] at h; replace h := q_s2 h; with_reducible exact h))
        refine lv_if_ne (tgt := 97) hx hb d_15_29_88 (by decide) (fun c272 => ?_) (fun c272 => ?_)
        ·
          obtain ⟨a274, e275⟩ := q_nm (lx77 + 1 : Int32)
          have b276 : q_F (a274.toInt = lx77.toInt + 1) := (by rw [← e275]; exact q_addI (y := 1) rfl (by decide) (by have _ := q_lo32 (x := lx77); have _ := q_hi32 (x := lx77); have t1 : lx77.toInt < x3.toInt := b198; have _ := q_lo32 (x := x3); have _ := q_hi32 (x := x3); omega) (by have _ := q_lo32 (x := lx77); have _ := q_hi32 (x := lx77); have t1 : lx77.toInt < x3.toInt := b198; have _ := q_lo32 (x := x3); have _ := q_hi32 (x := x3); omega))
          refine lv_iinc (v := a274) (lv' := [(4, .int a274), (0, .ref (q 134)), (1, .int x2), (2, .int x3), (3, .int x4)]) hx hb d_15_29_97 hl (k := 0) rfl (e275) (by decide) rfl (fun ls hl => ?_)
          refine lv_goto (tgt := 77) hx hb d_15_29_100 (by decide) ?_
          exact ih110 ((a274 : Int32), (y204 : Int32), (y205 : Int32), (y206 : Int32), (y207 : Int64), (y208 : Int32), (y209 : Int32), (y210 : Int32), (y211 : Int32), (y212 : Int32), (y213 : Int32), (y214 : Int32), (f215 : (Nat → Int32)), (f217 : (Nat → Int32))) _ _ _ _ (show (x3.toInt - a274.toInt).toNat < (x3.toInt - lx77.toInt).toNat from by have t1 : a274.toInt = lx77.toInt + 1 := b276; have t2 : lx77.toInt < x3.toInt := b198; omega) ⟨(show q_F (0 ≤ y208.toInt) from (show 0 ≤ y208.toInt from by have t1 : 0 ≤ lx82.toInt := i91; have t2 : lx82.toInt ≤ y208.toInt := b233; omega)), (show q_F (y208.toInt ≤ 0) from (show y208.toInt ≤ 0 from by have t1 : lx82.toInt ≤ 0 := i92; have t2 : y208.toInt ≤ lx82.toInt := b234; omega)), (show q_F (0 ≤ y209.toInt) from (show 0 ≤ y209.toInt from by have t1 : 0 ≤ y209.toInt := b221; omega)), (show q_F (y209.toInt ≤ 1) from (show y209.toInt ≤ 1 from by have t1 : y209.toInt ≤ 1 := b222; omega)), (show q_F (2 ≤ y214.toInt) from (show 2 ≤ y214.toInt from by have t1 : 2 ≤ lx88.toInt := i95; have t2 : lx88.toInt ≤ y214.toInt := b247; omega)), (show q_F (y214.toInt ≤ 2) from (show y214.toInt ≤ 2 from by have t1 : lx88.toInt ≤ 2 := i96; have t2 : y214.toInt ≤ lx88.toInt := b248; omega)), (show q_F (lx42.toInt ≤ y204.toInt) from (show lx42.toInt ≤ y204.toInt from by have t1 : lx42.toInt ≤ lx78.toInt := i97; have t2 : lx78.toInt ≤ y204.toInt := b225; omega)), (show q_F (y204.toInt ≤ lx42.toInt) from (show y204.toInt ≤ lx42.toInt from by have t1 : lx78.toInt ≤ lx42.toInt := i98; have t2 : y204.toInt ≤ lx78.toInt := b226; omega)), (show q_F (t0_1.toInt ≤ y205.toInt) from (show t0_1.toInt ≤ y205.toInt from by have t1 : t0_1.toInt ≤ lx79.toInt := i99; have t2 : lx79.toInt ≤ y205.toInt := b229; omega)), (show q_F (y205.toInt ≤ t0_1.toInt) from (show y205.toInt ≤ t0_1.toInt from by have t1 : lx79.toInt ≤ t0_1.toInt := i100; have t2 : y205.toInt ≤ lx79.toInt := b230; omega)), (show q_F (t0_6.toInt ≤ y210.toInt) from (show t0_6.toInt ≤ y210.toInt from by have t1 : t0_6.toInt ≤ lx84.toInt := i101; have t2 : lx84.toInt ≤ y210.toInt := b237; omega)), (show q_F (y210.toInt ≤ t0_6.toInt) from (show y210.toInt ≤ t0_6.toInt from by have t1 : lx84.toInt ≤ t0_6.toInt := i102; have t2 : y210.toInt ≤ lx84.toInt := b238; omega)), (show q_F (t0_7.toInt ≤ y211.toInt) from (show t0_7.toInt ≤ y211.toInt from by have t1 : t0_7.toInt ≤ lx85.toInt := i103; have t2 : lx85.toInt ≤ y211.toInt := b239; omega)), (show q_F (y211.toInt ≤ t0_7.toInt) from (show y211.toInt ≤ t0_7.toInt from by have t1 : lx85.toInt ≤ t0_7.toInt := i104; have t2 : y211.toInt ≤ lx85.toInt := b240; omega)), (show q_F (t0_8.toInt ≤ y212.toInt) from (show t0_8.toInt ≤ y212.toInt from by have t1 : t0_8.toInt ≤ lx86.toInt := i105; have t2 : lx86.toInt ≤ y212.toInt := b241; omega)), (show q_F (y212.toInt ≤ t0_8.toInt) from (show y212.toInt ≤ t0_8.toInt from by have t1 : lx86.toInt ≤ t0_8.toInt := i106; have t2 : y212.toInt ≤ lx86.toInt := b242; omega)), (show q_F (t0_9.toInt ≤ y213.toInt) from (show t0_9.toInt ≤ y213.toInt from by have t1 : t0_9.toInt ≤ lx87.toInt := i107; have t2 : lx87.toInt ≤ y213.toInt := b245; omega)), (show q_F (y213.toInt ≤ t0_9.toInt) from (show y213.toInt ≤ t0_9.toInt from by have t1 : lx87.toInt ≤ t0_9.toInt := i108; have t2 : y213.toInt ≤ lx87.toInt := b246; omega)), (show q_F (y209.toInt ≤ a274.toInt) from (show y209.toInt ≤ a274.toInt from by have t1 : 0 ≤ lx83.toInt := i93; have t2 : lx83.toInt ≤ lx77.toInt := i109; have t3 : y209.toInt ≤ 1 := b222; have t4 : a274.toInt = lx77.toInt + 1 := b276; omega)), V, q_lw hl (q_lw1 0 rfl (q_lw1 1 rfl (q_lw1 2 rfl (q_lw1 3 rfl (q_lw1 4 rfl q_lw0))))), hI, hF, hO203, hO113, hO114, hO115, hO116, hA216, hA218, ⟨fm123, Nat.lt_of_lt_of_le (show (x3.toInt - a274.toInt).toNat < (x3.toInt - lx77.toInt).toNat from by have t1 : a274.toInt = lx77.toInt + 1 := b276; have t2 : lx77.toInt < x3.toInt := b198; omega) (Nat.le_of_lt_succ hf122), (show F_DR_power_L77 x2 x3 x4 t0_0 t0_1 t0_2 t0_3 t0_4 t0_5 t0_6 t0_7 t0_8 t0_9 t0_10 t1_0 t2_0 t3_0 t4_0 t5_0 t6_0 lx42 fm123 a274 y204 y205 y206 y207 y208 y209 y210 y211 y212 y213 y214 f215 f217 = (F_DR_power x2 x3 x4 t0_0 t0_1 t0_2 t0_3 t0_4 t0_5 t0_6 t0_7 t0_8 t0_9 t0_10 t1_0 t2_0 t3_0 t4_0 t5_0 t6_0) from Eq.trans (by have c272x := c272; rw [e253] at c272x; rw [← e275, e266, e265, e264, e263, e262, e261, e260, e259, e258, e257, e256, e255, e254, F_DR_power_c85.eq_1, if_neg c272x]) hR267), (show True ∧ S_DR_power_L77 x2 x3 x4 t0_0 t0_1 t0_2 t0_3 t0_4 t0_5 t0_6 t0_7 t0_8 t0_9 t0_10 t1_0 t2_0 t3_0 t4_0 t5_0 t6_0 lx42 fm123 a274 y204 y205 y206 y207 y208 y209 y210 y211 y212 y213 y214 f215 f217 from (by rw [← e275, e266, e265, e264, e263, e262, e261, e260, e259, e258, e257, e256, e255, e254]; have h := hS268; rw [S_DR_power_c85.eq_1] at h; have c272x := c272; rw [e253] at c272x; rw [if_neg c272x] at h; with_reducible exact h))⟩⟩
        ·
          refine lv_aload_n hx hb d_15_29_91 rfl (lv_at hl 1 rfl) ?_
          refine lv_iconst (v := 2) hx hb d_15_29_92 (by decide) ?_
          refine q_put (ci := 14) (j := 0) (v := .int 2) (ty := .int) C0 V i_DR o_DR n_DR rfl rfl hO203 (by decide) w_1996 rfl rfl rfl rfl (Nat.le_of_ble_eq_true rfl) d_15_29_93 (fun H locs w278 hu279 hO203 V => ?_)
          replace hO203 : w278[134]? = (some (q 134, .inr (14, [.int 2, .ref (q 135), .int y205, .ref (q 136), .ref (q 137), .ref (q 138), .ref (q 139), .ref (q 140), .int y206, .long y207, .int y208, .int y209, .ref (q 141), .int y210, .ref (q 142), .int y211, .ref (q 143), .int y212, .ref (q 144), .int y213, .int y214])) : Option (Nat × va_E)) := hO203
          replace hI := n_p134 hI hu279 hO203 ⟨(by have t1 : 0 ≤ t0_1.toInt ∧ t0_1.toInt ≤ 4100 := btt0_1; have t2 : t0_1.toInt ≤ lx79.toInt := i99; have t3 : lx79.toInt ≤ y205.toInt := b229; omega), (by have t1 : 0 ≤ t0_1.toInt ∧ t0_1.toInt ≤ 4100 := btt0_1; have t2 : lx79.toInt ≤ t0_1.toInt := i100; have t3 : y205.toInt ≤ lx79.toInt := b230; omega)⟩ ⟨(by have t1 : 0 ≤ lx82.toInt := i91; have t2 : lx82.toInt ≤ y208.toInt := b233; omega), (by have t1 : lx82.toInt ≤ 0 := i92; have t2 : y208.toInt ≤ lx82.toInt := b234; omega)⟩ ⟨(by first | with_reducible exact q_fe b221 | (have t1 : 0 ≤ y209.toInt := b221; omega)), (by first | with_reducible exact q_fe b222 | (have t1 : y209.toInt ≤ 1 := b222; omega))⟩ ⟨(by have t1 : 0 ≤ t0_9.toInt ∧ t0_9.toInt ≤ 12200 := btt0_9; have t2 : t0_9.toInt ≤ lx87.toInt := i107; have t3 : lx87.toInt ≤ y213.toInt := b245; omega), (by have t1 : 0 ≤ t0_9.toInt ∧ t0_9.toInt ≤ 12200 := btt0_9; have t2 : lx87.toInt ≤ t0_9.toInt := i108; have t3 : y213.toInt ≤ lx87.toInt := b246; omega)⟩
          replace hO113 := (hu279 _ (by decide)).trans hO113
          replace hO114 := (hu279 _ (by decide)).trans hO114
          replace hO115 := (hu279 _ (by decide)).trans hO115
          replace hO116 := (hu279 _ (by decide)).trans hO116
          replace hA216 := (hu279 _ (by decide)).trans hA216
          replace hA218 := (hu279 _ (by decide)).trans hA218
          replace hF := q_us hF hu279 (by simp)
          exact q_retv C0 V (⟨hI, hF, 2, y205, y206, y207, y208, y209, y210, y211, y212, y213, y214, t1_0, t2_0, t3_0, t4_0, f215, f217, hO203, hO113, hO114, hO115, hO116, hA216, hA218, (show 0 ≤ y208.toInt from (by have z20 : (2 : Int32).toInt = 2 := rfl; have t1 : 0 ≤ lx82.toInt := i91; have t2 : lx82.toInt ≤ y208.toInt := b233; omega)), (show 0 ≤ y209.toInt from (by have z20 : (2 : Int32).toInt = 2 := rfl; have t1 : 0 ≤ y209.toInt := b221; omega)), (show y209.toInt ≤ 1 from (by have z20 : (2 : Int32).toInt = 2 := rfl; have t1 : y209.toInt ≤ 1 := b222; omega)), (show t0_1.toInt ≤ y205.toInt from (by have z20 : (2 : Int32).toInt = 2 := rfl; have t1 : t0_1.toInt ≤ lx79.toInt := i99; have t2 : lx79.toInt ≤ y205.toInt := b229; omega)), (show y205.toInt ≤ t0_1.toInt from (by have z20 : (2 : Int32).toInt = 2 := rfl; have t1 : lx79.toInt ≤ t0_1.toInt := i100; have t2 : y205.toInt ≤ lx79.toInt := b230; omega)), (show y208.toInt ≤ t0_4.toInt from (by have z20 : (2 : Int32).toInt = 2 := rfl; have t1 : 0 ≤ t0_4.toInt ∧ t0_4.toInt ≤ 1 := btt0_4; have t2 : lx82.toInt ≤ 0 := i92; have t3 : y208.toInt ≤ lx82.toInt := b234; omega)), (show t0_6.toInt ≤ y210.toInt from (by have z20 : (2 : Int32).toInt = 2 := rfl; have t1 : t0_6.toInt ≤ lx84.toInt := i101; have t2 : lx84.toInt ≤ y210.toInt := b237; omega)), (show y210.toInt ≤ t0_6.toInt from (by have z20 : (2 : Int32).toInt = 2 := rfl; have t1 : lx84.toInt ≤ t0_6.toInt := i102; have t2 : y210.toInt ≤ lx84.toInt := b238; omega)), (show t0_7.toInt ≤ y211.toInt from (by have z20 : (2 : Int32).toInt = 2 := rfl; have t1 : t0_7.toInt ≤ lx85.toInt := i103; have t2 : lx85.toInt ≤ y211.toInt := b239; omega)), (show y211.toInt ≤ t0_7.toInt from (by have z20 : (2 : Int32).toInt = 2 := rfl; have t1 : lx85.toInt ≤ t0_7.toInt := i104; have t2 : y211.toInt ≤ lx85.toInt := b240; omega)), (show t0_8.toInt ≤ y212.toInt from (by have z20 : (2 : Int32).toInt = 2 := rfl; have t1 : t0_8.toInt ≤ lx86.toInt := i105; have t2 : lx86.toInt ≤ y212.toInt := b241; omega)), (show y212.toInt ≤ t0_8.toInt from (by have z20 : (2 : Int32).toInt = 2 := rfl; have t1 : lx86.toInt ≤ t0_8.toInt := i106; have t2 : y212.toInt ≤ lx86.toInt := b242; omega)), (show t0_9.toInt ≤ y213.toInt from (by have z20 : (2 : Int32).toInt = 2 := rfl; have t1 : t0_9.toInt ≤ lx87.toInt := i107; have t2 : lx87.toInt ≤ y213.toInt := b245; omega)), (show y213.toInt ≤ t0_9.toInt from (by have z20 : (2 : Int32).toInt = 2 := rfl; have t1 : lx87.toInt ≤ t0_9.toInt := i108; have t2 : y213.toInt ≤ lx87.toInt := b246; omega)), (show ((2 : Int32), y205, y206, y207, y208, y209, y210, y211, y212, y213, y214, t1_0, t2_0, t3_0, t4_0, f215, f217) = (F_DR_power x2 x3 x4 t0_0 t0_1 t0_2 t0_3 t0_4 t0_5 t0_6 t0_7 t0_8 t0_9 t0_10 t1_0 t2_0 t3_0 t4_0 t5_0 t6_0) from Eq.trans (by have c272x := c272; rw [e253] at c272x; rw [e266, e265, e264, e263, e262, e261, e260, e259, e258, e257, e256, e255, F_DR_power_c85.eq_1, if_pos c272x]) hR267)⟩) d_15_29_96
    ·
      exact q_retv C0 V (⟨hI, hF, lx42, t0_1, t0_2, t0_3, t0_4, t0_5, t0_6, t0_7, t0_8, t0_9, t0_10, t1_0, t2_0, t3_0, t4_0, t5_0, t6_0, hT0, hT1, hT2, hT3, hT4, hT5, hT6, (show 0 ≤ t0_4.toInt from (by first | with_reducible exact (q_fe btt0_4).2 | with_reducible exact (q_fe btt0_4).1 | (have t1 : 0 ≤ t0_4.toInt ∧ t0_4.toInt ≤ 1 := btt0_4; omega))), (show 0 ≤ t0_5.toInt from (by first | with_reducible exact (q_fe btt0_5).2 | with_reducible exact (q_fe btt0_5).1 | (have t1 : 0 ≤ t0_5.toInt ∧ t0_5.toInt ≤ 1 := btt0_5; omega))), (show t0_5.toInt ≤ 1 from (by first | with_reducible exact (q_fe btt0_5).2 | with_reducible exact (q_fe btt0_5).1 | (have t1 : 0 ≤ t0_5.toInt ∧ t0_5.toInt ≤ 1 := btt0_5; omega))), (show t0_1.toInt ≤ t0_1.toInt from (by omega)), (show t0_1.toInt ≤ t0_1.toInt from (by omega)), (show t0_4.toInt ≤ t0_4.toInt from (by omega)), (show t0_6.toInt ≤ t0_6.toInt from (by omega)), (show t0_6.toInt ≤ t0_6.toInt from (by omega)), (show t0_7.toInt ≤ t0_7.toInt from (by omega)), (show t0_7.toInt ≤ t0_7.toInt from (by omega)), (show t0_8.toInt ≤ t0_8.toInt from (by omega)), (show t0_8.toInt ≤ t0_8.toInt from (by omega)), (show t0_9.toInt ≤ t0_9.toInt from (by omega)), (show t0_9.toInt ≤ t0_9.toInt from (by omega)), (show (lx42, t0_1, t0_2, t0_3, t0_4, t0_5, t0_6, t0_7, t0_8, t0_9, t0_10, t1_0, t2_0, t3_0, t4_0, t5_0, t6_0) = (F_DR_power x2 x3 x4 t0_0 t0_1 t0_2 t0_3 t0_4 t0_5 t0_6 t0_7 t0_8 t0_9 t0_10 t1_0 t2_0 t3_0 t4_0 t5_0 t6_0) from Eq.trans (by rw [F_DR_power_J31.eq_1, if_neg c60]) hR53)⟩) d_15_29_41
  ·
    intro J50
    refine q_join (X := Unit) (fun z H locs ls _ => q_Wd D g (va_A ws sz) s ws H locs ∧ lv_has ls 5 [(0, .ref (q 134)), (1, .int x2), (2, .int x3), (3, .int x4)] ∧ F_DR_power_J26 x2 x3 x4 t0_0 t0_1 t0_2 t0_3 t0_4 t0_5 t0_6 t0_7 t0_8 t0_9 t0_10 t1_0 t2_0 t3_0 t4_0 t5_0 t6_0 = (F_DR_power x2 x3 x4 t0_0 t0_1 t0_2 t0_3 t0_4 t0_5 t0_6 t0_7 t0_8 t0_9 t0_10 t1_0 t2_0 t3_0 t4_0 t5_0 t6_0) ∧ True ∧ S_DR_power_J26 x2 x3 x4 t0_0 t0_1 t0_2 t0_3 t0_4 t0_5 t0_6 t0_7 t0_8 t0_9 t0_10 t1_0 t2_0 t3_0 t4_0 t5_0 t6_0) (fun z => [.ref (q 134)]) 26 0 0 ?_ ?_
    ·
      rintro _ H locs ls _ ⟨V, hl, hR289, hS290⟩
      replace hl : lv_has ls 5 [(0, .ref (q 134)), (1, .int x2), (2, .int x3), (3, .int x4)] := hl
      refine lv_iconst (v := 1) hx hb d_15_29_26 (by decide) ?_
      refine lv_goto (tgt := 31) hx hb d_15_29_27 (by decide) ?_
      exact J50 ((1 : Int32)) _ _ _ ws ⟨(show q_F (0 ≤ 1) from (show 0 ≤ 1 from by omega)), (show q_F (1 ≤ 1) from (show 1 ≤ 1 from by omega)), V, q_lw hl (q_lw1 0 rfl (q_lw1 1 rfl (q_lw1 2 rfl (q_lw1 3 rfl q_lw0)))), (show F_DR_power_J31 x2 x3 x4 t0_0 t0_1 t0_2 t0_3 t0_4 t0_5 t0_6 t0_7 t0_8 t0_9 t0_10 t1_0 t2_0 t3_0 t4_0 t5_0 t6_0 1 = (F_DR_power x2 x3 x4 t0_0 t0_1 t0_2 t0_3 t0_4 t0_5 t0_6 t0_7 t0_8 t0_9 t0_10 t1_0 t2_0 t3_0 t4_0 t5_0 t6_0) from Eq.trans (by rw [F_DR_power_J26.eq_1]) hR289), (show True ∧ S_DR_power_J31 x2 x3 x4 t0_0 t0_1 t0_2 t0_3 t0_4 t0_5 t0_6 t0_7 t0_8 t0_9 t0_10 t1_0 t2_0 t3_0 t4_0 t5_0 t6_0 1 from (by have h := hS290; rw [S_DR_power_J26.eq_1] at h; with_reducible exact h))⟩
    ·
      intro J288
      refine lv_if_ne (tgt := 26) hx hb d_15_29_5 (by decide) (fun c294 => ?_) (fun c294 => ?_)
      ·
        exact J288 (()) _ _ _ ws ⟨V, q_lw hl (q_lw1 0 rfl (q_lw1 1 rfl (q_lw1 2 rfl (q_lw1 3 rfl q_lw0)))), (show F_DR_power_J26 x2 x3 x4 t0_0 t0_1 t0_2 t0_3 t0_4 t0_5 t0_6 t0_7 t0_8 t0_9 t0_10 t1_0 t2_0 t3_0 t4_0 t5_0 t6_0 = (F_DR_power x2 x3 x4 t0_0 t0_1 t0_2 t0_3 t0_4 t0_5 t0_6 t0_7 t0_8 t0_9 t0_10 t1_0 t2_0 t3_0 t4_0 t5_0 t6_0) from (by have c294x := c294; rw [e41] at c294x; rw [F_DR_power.eq_1, if_neg c294x])), (show True ∧ S_DR_power_J26 x2 x3 x4 t0_0 t0_1 t0_2 t0_3 t0_4 t0_5 t0_6 t0_7 t0_8 t0_9 t0_10 t1_0 t2_0 t3_0 t4_0 t5_0 t6_0 from (by have h := hS; rw [S_DR_power.eq_1] at h; have c294x := c294; rw [e41] at c294x; rw [if_neg c294x] at h; with_reducible exact h))⟩
      ·
        refine lv_iload_n hx hb d_15_29_8 rfl (lv_at hl 3 rfl) ?_
        refine q_goi V (q_runS (As := [.int x4]) (rest := [.ref (q 134)]) (d := 1) (mc := 0) (ms := 0) C0 V rfl LS_DR_113 (X_DR_no l D g q ws  x4 hI   _) rfl hl.1 rfl (Nat.le_of_ble_eq_true rfl) ⟨by decide, by decide⟩ ⟨Nat.le_of_ble_eq_true rfl, Nat.le_of_ble_eq_true rfl⟩ d_15_29_9) (fun a299 u297 H locs hp298 V => ?_)
        obtain ⟨rfl, b300, b301, hE302⟩ := hp298
        have e303 : a299 = (F_DR_no x4) := hE302
        clear b300
        clear b301
        refine lv_if_ne (tgt := 26) hx hb d_15_29_12 (by decide) (fun c304 => ?_) (fun c304 => ?_)
        ·
          exact J288 (()) _ _ _ ws ⟨V, q_lw hl (q_lw1 0 rfl (q_lw1 1 rfl (q_lw1 2 rfl (q_lw1 3 rfl q_lw0)))), (show F_DR_power_J26 x2 x3 x4 t0_0 t0_1 t0_2 t0_3 t0_4 t0_5 t0_6 t0_7 t0_8 t0_9 t0_10 t1_0 t2_0 t3_0 t4_0 t5_0 t6_0 = (F_DR_power x2 x3 x4 t0_0 t0_1 t0_2 t0_3 t0_4 t0_5 t0_6 t0_7 t0_8 t0_9 t0_10 t1_0 t2_0 t3_0 t4_0 t5_0 t6_0) from (by have c294x := c294; rw [e41] at c294x; have c304x := c304; rw [e303] at c304x; rw [F_DR_power.eq_1, if_pos c294x, if_neg c304x])), (show True ∧ S_DR_power_J26 x2 x3 x4 t0_0 t0_1 t0_2 t0_3 t0_4 t0_5 t0_6 t0_7 t0_8 t0_9 t0_10 t1_0 t2_0 t3_0 t4_0 t5_0 t6_0 from (by have h := hS; rw [S_DR_power.eq_1] at h; have c294x := c294; rw [e41] at c294x; rw [if_pos c294x] at h; have c304x := c304; rw [e303] at c304x; rw [if_neg c304x] at h; with_reducible exact h))⟩
        ·
          refine lv_iload_n hx hb d_15_29_15 rfl (lv_at hl 2 rfl) ?_
          refine lv_if_lt (tgt := 26) hx hb d_15_29_16 (by decide) (fun c307 => ?_) (fun c307 => ?_)
          ·
            exact J288 (()) _ _ _ ws ⟨V, q_lw hl (q_lw1 0 rfl (q_lw1 1 rfl (q_lw1 2 rfl (q_lw1 3 rfl q_lw0)))), (show F_DR_power_J26 x2 x3 x4 t0_0 t0_1 t0_2 t0_3 t0_4 t0_5 t0_6 t0_7 t0_8 t0_9 t0_10 t1_0 t2_0 t3_0 t4_0 t5_0 t6_0 = (F_DR_power x2 x3 x4 t0_0 t0_1 t0_2 t0_3 t0_4 t0_5 t0_6 t0_7 t0_8 t0_9 t0_10 t1_0 t2_0 t3_0 t4_0 t5_0 t6_0) from (by have c294x := c294; rw [e41] at c294x; have c304x := c304; rw [e303] at c304x; rw [F_DR_power.eq_1, if_pos c294x, if_pos c304x, if_pos c307])), (show True ∧ S_DR_power_J26 x2 x3 x4 t0_0 t0_1 t0_2 t0_3 t0_4 t0_5 t0_6 t0_7 t0_8 t0_9 t0_10 t1_0 t2_0 t3_0 t4_0 t5_0 t6_0 from (by have h := hS; rw [S_DR_power.eq_1] at h; have c294x := c294; rw [e41] at c294x; rw [if_pos c294x] at h; have c304x := c304; rw [e303] at c304x; rw [if_pos c304x] at h; rw [if_pos c307] at h; with_reducible exact h))⟩
          ·
            refine lv_iload_n hx hb d_15_29_19 rfl (lv_at hl 2 rfl) ?_
            refine lv_sipush (v := 999) hx hb d_15_29_20 (by decide) ?_
            refine lv_icmp_le (tgt := 30) hx hb d_15_29_23 (by decide) (fun c310 => ?_) (fun c310 => ?_)
            ·
              refine lv_iconst (v := 0) hx hb d_15_29_30 (by decide) ?_
              exact J50 ((0 : Int32)) _ _ _ ws ⟨(show q_F (0 ≤ 0) from (show 0 ≤ 0 from by omega)), (show q_F (0 ≤ 1) from (show 0 ≤ 1 from by omega)), V, q_lw hl (q_lw1 0 rfl (q_lw1 1 rfl (q_lw1 2 rfl (q_lw1 3 rfl q_lw0)))), (show F_DR_power_J31 x2 x3 x4 t0_0 t0_1 t0_2 t0_3 t0_4 t0_5 t0_6 t0_7 t0_8 t0_9 t0_10 t1_0 t2_0 t3_0 t4_0 t5_0 t6_0 0 = (F_DR_power x2 x3 x4 t0_0 t0_1 t0_2 t0_3 t0_4 t0_5 t0_6 t0_7 t0_8 t0_9 t0_10 t1_0 t2_0 t3_0 t4_0 t5_0 t6_0) from (by have c294x := c294; rw [e41] at c294x; have c304x := c304; rw [e303] at c304x; rw [F_DR_power.eq_1, if_pos c294x, if_pos c304x, if_neg c307, if_pos c310])), (show True ∧ S_DR_power_J31 x2 x3 x4 t0_0 t0_1 t0_2 t0_3 t0_4 t0_5 t0_6 t0_7 t0_8 t0_9 t0_10 t1_0 t2_0 t3_0 t4_0 t5_0 t6_0 0 from (by have h := hS; rw [S_DR_power.eq_1] at h; have c294x := c294; rw [e41] at c294x; rw [if_pos c294x] at h; have c304x := c304; rw [e303] at c304x; rw [if_pos c304x] at h; rw [if_neg c307] at h; rw [if_pos c310] at h; with_reducible exact h))⟩
            ·
              exact J288 (()) _ _ _ ws ⟨V, q_lw hl (q_lw1 0 rfl (q_lw1 1 rfl (q_lw1 2 rfl (q_lw1 3 rfl q_lw0)))), (show F_DR_power_J26 x2 x3 x4 t0_0 t0_1 t0_2 t0_3 t0_4 t0_5 t0_6 t0_7 t0_8 t0_9 t0_10 t1_0 t2_0 t3_0 t4_0 t5_0 t6_0 = (F_DR_power x2 x3 x4 t0_0 t0_1 t0_2 t0_3 t0_4 t0_5 t0_6 t0_7 t0_8 t0_9 t0_10 t1_0 t2_0 t3_0 t4_0 t5_0 t6_0) from (by have c294x := c294; rw [e41] at c294x; have c304x := c304; rw [e303] at c304x; rw [F_DR_power.eq_1, if_pos c294x, if_pos c304x, if_neg c307, if_neg c310])), (show True ∧ S_DR_power_J26 x2 x3 x4 t0_0 t0_1 t0_2 t0_3 t0_4 t0_5 t0_6 t0_7 t0_8 t0_9 t0_10 t1_0 t2_0 t3_0 t4_0 t5_0 t6_0 from (by have h := hS; rw [S_DR_power.eq_1] at h; have c294x := c294; rw [e41] at c294x; rw [if_pos c294x] at h; have c304x := c304; rw [e303] at c304x; rw [if_pos c304x] at h; rw [if_neg c307] at h; rw [if_neg c310] at h; with_reducible exact h))⟩
theorem d_15_46_0 : decode prog_15_method_46_code 0 = .ok (.aload_n 0, 1) := by decide +kernel
theorem d_15_46_1 : decode prog_15_method_46_code 1 = .ok (.iload_n 1, 1) := by decide +kernel
theorem d_15_46_2 : decode prog_15_method_46_code 2 = .ok (.invokestatic 113, 3) := by decide +kernel
theorem d_15_46_20 : decode prog_15_method_46_code 20 = .ok (.putfield 41, 3) := by decide +kernel
theorem d_15_46_23 : decode prog_15_method_46_code 23 = .ok (.aload_n 0, 1) := by decide +kernel
theorem d_15_46_24 : decode prog_15_method_46_code 24 = .ok (.getfield 41, 3) := by decide +kernel
theorem d_15_46_27 : decode prog_15_method_46_code 27 = .ok (.ifCond .ne 29, 3) := by decide +kernel
theorem d_15_46_56 : decode prog_15_method_46_code 56 = .ok (.return_, 1) := by decide +kernel
theorem d_15_46_30 : decode prog_15_method_46_code 30 = .ok (.aload_n 0, 1) := by decide +kernel
theorem d_15_46_31 : decode prog_15_method_46_code 31 = .ok (.iconst 2, 1) := by decide +kernel
theorem d_15_46_32 : decode prog_15_method_46_code 32 = .ok (.putfield 66, 3) := by decide +kernel
theorem d_15_46_35 : decode prog_15_method_46_code 35 = .ok (.aload_n 0, 1) := by decide +kernel
theorem d_15_46_36 : decode prog_15_method_46_code 36 = .ok (.iload_n 1, 1) := by decide +kernel
theorem d_15_46_37 : decode prog_15_method_46_code 37 = .ok (.invokevirtual 132, 3) := by decide +kernel
theorem d_15_46_40 : decode prog_15_method_46_code 40 = .ok (.aload_n 0, 1) := by decide +kernel
theorem d_15_46_41 : decode prog_15_method_46_code 41 = .ok (.aload_n 0, 1) := by decide +kernel
theorem d_15_46_42 : decode prog_15_method_46_code 42 = .ok (.getfield 48, 3) := by decide +kernel
theorem d_15_46_45 : decode prog_15_method_46_code 45 = .ok (.iload_n 3, 1) := by decide +kernel
theorem d_15_46_46 : decode prog_15_method_46_code 46 = .ok (.i2l, 1) := by decide +kernel
theorem d_15_46_47 : decode prog_15_method_46_code 47 = .ok (.lsub, 1) := by decide +kernel
theorem d_15_46_48 : decode prog_15_method_46_code 48 = .ok (.putfield 48, 3) := by decide +kernel
theorem d_15_46_51 : decode prog_15_method_46_code 51 = .ok (.aload_n 0, 1) := by decide +kernel
theorem d_15_46_52 : decode prog_15_method_46_code 52 = .ok (.iload_n 2, 1) := by decide +kernel
theorem d_15_46_53 : decode prog_15_method_46_code 53 = .ok (.invokevirtual 89, 3) := by decide +kernel
theorem d_15_46_15 : decode prog_15_method_46_code 15 = .ok (.iconst 1, 1) := by decide +kernel
theorem d_15_46_16 : decode prog_15_method_46_code 16 = .ok (.goto 4, 3) := by decide +kernel
theorem d_15_46_5 : decode prog_15_method_46_code 5 = .ok (.ifCond .ne 10, 3) := by decide +kernel
theorem d_15_46_8 : decode prog_15_method_46_code 8 = .ok (.iload_n 2, 1) := by decide +kernel
theorem d_15_46_9 : decode prog_15_method_46_code 9 = .ok (.invokestatic 113, 3) := by decide +kernel
theorem d_15_46_12 : decode prog_15_method_46_code 12 = .ok (.ifCond .eq 7, 3) := by decide +kernel
theorem d_15_46_19 : decode prog_15_method_46_code 19 = .ok (.iconst 0, 1) := by decide +kernel
def y_DR_shift : MethodName := ⟨"NumberHouseModel$DecimalRows", "shift", "(III)V"⟩
def F_DR_shift_c53 (x2 : Int32) (x3 : Int32) (x4 : Int32) (t0_0 : Int32) (t0_1 : Int32) (t0_2 : Int32) (t0_3 : Int64) (t0_4 : Int32) (t0_5 : Int32) (t0_6 : Int32) (t0_7 : Int32) (t0_8 : Int32) (t0_9 : Int32) (t0_10 : Int32) (t1_0 : (Nat → Int32)) (t2_0 : (Nat → Int32)) (t3_0 : (Nat → Int32)) (t4_0 : (Nat → Int32)) (t5_0 : (Nat → Int32)) (lx39 : Int32) (p103 : (Int32 × Int32 × Int32 × Int64 × Int32 × Int32 × Int32 × Int32 × Int32 × Int32 × Int32 × (Nat → Int32))) (p179 : (Int32 × Int32 × Int32 × Int64 × Int32 × Int32 × Int32 × Int32 × Int32 × Int32 × Int32 × (Nat → Int32) × (Nat → Int32) × (Nat → Int32) × (Nat → Int32) × (Nat → Int32))) : Int32 × Int32 × Int32 × Int64 × Int32 × Int32 × Int32 × Int32 × Int32 × Int32 × Int32 × (Nat → Int32) × (Nat → Int32) × (Nat → Int32) × (Nat → Int32) × (Nat → Int32) := ((p179.1 : Int32), (p179.2.1 : Int32), (p179.2.2.1 : Int32), (p179.2.2.2.1 : Int64), (p179.2.2.2.2.1 : Int32), (p179.2.2.2.2.2.1 : Int32), (p179.2.2.2.2.2.2.1 : Int32), (p179.2.2.2.2.2.2.2.1 : Int32), (p179.2.2.2.2.2.2.2.2.1 : Int32), (p179.2.2.2.2.2.2.2.2.2.1 : Int32), (p179.2.2.2.2.2.2.2.2.2.2.1 : Int32), (p179.2.2.2.2.2.2.2.2.2.2.2.1 : (Nat → Int32)), (p179.2.2.2.2.2.2.2.2.2.2.2.2.1 : (Nat → Int32)), (p179.2.2.2.2.2.2.2.2.2.2.2.2.2.1 : (Nat → Int32)), (p179.2.2.2.2.2.2.2.2.2.2.2.2.2.2.1 : (Nat → Int32)), (p179.2.2.2.2.2.2.2.2.2.2.2.2.2.2.2 : (Nat → Int32)))
def F_DR_shift_c37 (x2 : Int32) (x3 : Int32) (x4 : Int32) (t0_0 : Int32) (t0_1 : Int32) (t0_2 : Int32) (t0_3 : Int64) (t0_4 : Int32) (t0_5 : Int32) (t0_6 : Int32) (t0_7 : Int32) (t0_8 : Int32) (t0_9 : Int32) (t0_10 : Int32) (t1_0 : (Nat → Int32)) (t2_0 : (Nat → Int32)) (t3_0 : (Nat → Int32)) (t4_0 : (Nat → Int32)) (t5_0 : (Nat → Int32)) (lx39 : Int32) (p103 : (Int32 × Int32 × Int32 × Int64 × Int32 × Int32 × Int32 × Int32 × Int32 × Int32 × Int32 × (Nat → Int32))) : Int32 × Int32 × Int32 × Int64 × Int32 × Int32 × Int32 × Int32 × Int32 × Int32 × Int32 × (Nat → Int32) × (Nat → Int32) × (Nat → Int32) × (Nat → Int32) × (Nat → Int32) := F_DR_shift_c53 x2 x3 x4 t0_0 t0_1 t0_2 t0_3 t0_4 t0_5 t0_6 t0_7 t0_8 t0_9 t0_10 t1_0 t2_0 t3_0 t4_0 t5_0 lx39 p103 ((F_DR_store x3 (p103.1 : Int32) (p103.2.1 : Int32) (p103.2.2.1 : Int32) ((p103.2.2.2.1 : Int64) - (x4.toInt64 : Int64) : Int64) (p103.2.2.2.2.1 : Int32) (p103.2.2.2.2.2.1 : Int32) (p103.2.2.2.2.2.2.1 : Int32) (p103.2.2.2.2.2.2.2.1 : Int32) (p103.2.2.2.2.2.2.2.2.1 : Int32) (p103.2.2.2.2.2.2.2.2.2.1 : Int32) (p103.2.2.2.2.2.2.2.2.2.2.1 : Int32) t1_0 t2_0 t3_0 t4_0 (p103.2.2.2.2.2.2.2.2.2.2.2 : (Nat → Int32))) : (Int32 × Int32 × Int32 × Int64 × Int32 × Int32 × Int32 × Int32 × Int32 × Int32 × Int32 × (Nat → Int32) × (Nat → Int32) × (Nat → Int32) × (Nat → Int32) × (Nat → Int32)))
def F_DR_shift_J20 (x2 : Int32) (x3 : Int32) (x4 : Int32) (t0_0 : Int32) (t0_1 : Int32) (t0_2 : Int32) (t0_3 : Int64) (t0_4 : Int32) (t0_5 : Int32) (t0_6 : Int32) (t0_7 : Int32) (t0_8 : Int32) (t0_9 : Int32) (t0_10 : Int32) (t1_0 : (Nat → Int32)) (t2_0 : (Nat → Int32)) (t3_0 : (Nat → Int32)) (t4_0 : (Nat → Int32)) (t5_0 : (Nat → Int32)) (lx39 : Int32) : Int32 × Int32 × Int32 × Int64 × Int32 × Int32 × Int32 × Int32 × Int32 × Int32 × Int32 × (Nat → Int32) × (Nat → Int32) × (Nat → Int32) × (Nat → Int32) × (Nat → Int32) := if lx39 = (0 : Int32) then (F_DR_shift_c37 x2 x3 x4 t0_0 t0_1 t0_2 t0_3 t0_4 t0_5 t0_6 t0_7 t0_8 t0_9 t0_10 t1_0 t2_0 t3_0 t4_0 t5_0 lx39 ((F_DR_load x2 lx39 t0_1 t0_2 t0_3 t0_4 t0_5 t0_6 t0_7 t0_8 t0_9 (2 : Int32) t1_0 t2_0 t3_0 t4_0 t5_0) : (Int32 × Int32 × Int32 × Int64 × Int32 × Int32 × Int32 × Int32 × Int32 × Int32 × Int32 × (Nat → Int32)))) else ((lx39, t0_1, t0_2, t0_3, t0_4, t0_5, t0_6, t0_7, t0_8, t0_9, t0_10, t1_0, t2_0, t3_0, t4_0, t5_0))
def F_DR_shift_J15 (x2 : Int32) (x3 : Int32) (x4 : Int32) (t0_0 : Int32) (t0_1 : Int32) (t0_2 : Int32) (t0_3 : Int64) (t0_4 : Int32) (t0_5 : Int32) (t0_6 : Int32) (t0_7 : Int32) (t0_8 : Int32) (t0_9 : Int32) (t0_10 : Int32) (t1_0 : (Nat → Int32)) (t2_0 : (Nat → Int32)) (t3_0 : (Nat → Int32)) (t4_0 : (Nat → Int32)) (t5_0 : (Nat → Int32)) : Int32 × Int32 × Int32 × Int64 × Int32 × Int32 × Int32 × Int32 × Int32 × Int32 × Int32 × (Nat → Int32) × (Nat → Int32) × (Nat → Int32) × (Nat → Int32) × (Nat → Int32) := F_DR_shift_J20 x2 x3 x4 t0_0 t0_1 t0_2 t0_3 t0_4 t0_5 t0_6 t0_7 t0_8 t0_9 t0_10 t1_0 t2_0 t3_0 t4_0 t5_0 1
def F_DR_shift (x2 : Int32) (x3 : Int32) (x4 : Int32) (t0_0 : Int32) (t0_1 : Int32) (t0_2 : Int32) (t0_3 : Int64) (t0_4 : Int32) (t0_5 : Int32) (t0_6 : Int32) (t0_7 : Int32) (t0_8 : Int32) (t0_9 : Int32) (t0_10 : Int32) (t1_0 : (Nat → Int32)) (t2_0 : (Nat → Int32)) (t3_0 : (Nat → Int32)) (t4_0 : (Nat → Int32)) (t5_0 : (Nat → Int32)) : Int32 × Int32 × Int32 × Int64 × Int32 × Int32 × Int32 × Int32 × Int32 × Int32 × Int32 × (Nat → Int32) × (Nat → Int32) × (Nat → Int32) × (Nat → Int32) × (Nat → Int32) := if ((F_DR_no x2) : Int32) = (0 : Int32) then (if ((F_DR_no x3) : Int32) = (0 : Int32) then (F_DR_shift_J20 x2 x3 x4 t0_0 t0_1 t0_2 t0_3 t0_4 t0_5 t0_6 t0_7 t0_8 t0_9 t0_10 t1_0 t2_0 t3_0 t4_0 t5_0 0) else (F_DR_shift_J15 x2 x3 x4 t0_0 t0_1 t0_2 t0_3 t0_4 t0_5 t0_6 t0_7 t0_8 t0_9 t0_10 t1_0 t2_0 t3_0 t4_0 t5_0)) else (F_DR_shift_J15 x2 x3 x4 t0_0 t0_1 t0_2 t0_3 t0_4 t0_5 t0_6 t0_7 t0_8 t0_9 t0_10 t1_0 t2_0 t3_0 t4_0 t5_0)
def S_DR_shift_c53 (x2 : Int32) (x3 : Int32) (x4 : Int32) (t0_0 : Int32) (t0_1 : Int32) (t0_2 : Int32) (t0_3 : Int64) (t0_4 : Int32) (t0_5 : Int32) (t0_6 : Int32) (t0_7 : Int32) (t0_8 : Int32) (t0_9 : Int32) (t0_10 : Int32) (t1_0 : (Nat → Int32)) (t2_0 : (Nat → Int32)) (t3_0 : (Nat → Int32)) (t4_0 : (Nat → Int32)) (t5_0 : (Nat → Int32)) (lx39 : Int32) (p103 : (Int32 × Int32 × Int32 × Int64 × Int32 × Int32 × Int32 × Int32 × Int32 × Int32 × Int32 × (Nat → Int32))) (p179 : (Int32 × Int32 × Int32 × Int64 × Int32 × Int32 × Int32 × Int32 × Int32 × Int32 × Int32 × (Nat → Int32) × (Nat → Int32) × (Nat → Int32) × (Nat → Int32) × (Nat → Int32))) : Prop := True
def S_DR_shift_c37 (x2 : Int32) (x3 : Int32) (x4 : Int32) (t0_0 : Int32) (t0_1 : Int32) (t0_2 : Int32) (t0_3 : Int64) (t0_4 : Int32) (t0_5 : Int32) (t0_6 : Int32) (t0_7 : Int32) (t0_8 : Int32) (t0_9 : Int32) (t0_10 : Int32) (t1_0 : (Nat → Int32)) (t2_0 : (Nat → Int32)) (t3_0 : (Nat → Int32)) (t4_0 : (Nat → Int32)) (t5_0 : (Nat → Int32)) (lx39 : Int32) (p103 : (Int32 × Int32 × Int32 × Int64 × Int32 × Int32 × Int32 × Int32 × Int32 × Int32 × Int32 × (Nat → Int32))) : Prop := (True ∧ S_DR_store x3 (p103.1 : Int32) (p103.2.1 : Int32) (p103.2.2.1 : Int32) ((p103.2.2.2.1 : Int64) - (x4.toInt64 : Int64) : Int64) (p103.2.2.2.2.1 : Int32) (p103.2.2.2.2.2.1 : Int32) (p103.2.2.2.2.2.2.1 : Int32) (p103.2.2.2.2.2.2.2.1 : Int32) (p103.2.2.2.2.2.2.2.2.1 : Int32) (p103.2.2.2.2.2.2.2.2.2.1 : Int32) (p103.2.2.2.2.2.2.2.2.2.2.1 : Int32) t1_0 t2_0 t3_0 t4_0 (p103.2.2.2.2.2.2.2.2.2.2.2 : (Nat → Int32))) ∧ (S_DR_shift_c53 x2 x3 x4 t0_0 t0_1 t0_2 t0_3 t0_4 t0_5 t0_6 t0_7 t0_8 t0_9 t0_10 t1_0 t2_0 t3_0 t4_0 t5_0 lx39 p103 ((F_DR_store x3 (p103.1 : Int32) (p103.2.1 : Int32) (p103.2.2.1 : Int32) ((p103.2.2.2.1 : Int64) - (x4.toInt64 : Int64) : Int64) (p103.2.2.2.2.1 : Int32) (p103.2.2.2.2.2.1 : Int32) (p103.2.2.2.2.2.2.1 : Int32) (p103.2.2.2.2.2.2.2.1 : Int32) (p103.2.2.2.2.2.2.2.2.1 : Int32) (p103.2.2.2.2.2.2.2.2.2.1 : Int32) (p103.2.2.2.2.2.2.2.2.2.2.1 : Int32) t1_0 t2_0 t3_0 t4_0 (p103.2.2.2.2.2.2.2.2.2.2.2 : (Nat → Int32))) : (Int32 × Int32 × Int32 × Int64 × Int32 × Int32 × Int32 × Int32 × Int32 × Int32 × Int32 × (Nat → Int32) × (Nat → Int32) × (Nat → Int32) × (Nat → Int32) × (Nat → Int32))))
def S_DR_shift_J20 (x2 : Int32) (x3 : Int32) (x4 : Int32) (t0_0 : Int32) (t0_1 : Int32) (t0_2 : Int32) (t0_3 : Int64) (t0_4 : Int32) (t0_5 : Int32) (t0_6 : Int32) (t0_7 : Int32) (t0_8 : Int32) (t0_9 : Int32) (t0_10 : Int32) (t1_0 : (Nat → Int32)) (t2_0 : (Nat → Int32)) (t3_0 : (Nat → Int32)) (t4_0 : (Nat → Int32)) (t5_0 : (Nat → Int32)) (lx39 : Int32) : Prop := if lx39 = (0 : Int32) then ((True ∧ S_DR_load x2 lx39 t0_1 t0_2 t0_3 t0_4 t0_5 t0_6 t0_7 t0_8 t0_9 (2 : Int32) t1_0 t2_0 t3_0 t4_0 t5_0) ∧ (S_DR_shift_c37 x2 x3 x4 t0_0 t0_1 t0_2 t0_3 t0_4 t0_5 t0_6 t0_7 t0_8 t0_9 t0_10 t1_0 t2_0 t3_0 t4_0 t5_0 lx39 ((F_DR_load x2 lx39 t0_1 t0_2 t0_3 t0_4 t0_5 t0_6 t0_7 t0_8 t0_9 (2 : Int32) t1_0 t2_0 t3_0 t4_0 t5_0) : (Int32 × Int32 × Int32 × Int64 × Int32 × Int32 × Int32 × Int32 × Int32 × Int32 × Int32 × (Nat → Int32))))) else (True)
def S_DR_shift_J15 (x2 : Int32) (x3 : Int32) (x4 : Int32) (t0_0 : Int32) (t0_1 : Int32) (t0_2 : Int32) (t0_3 : Int64) (t0_4 : Int32) (t0_5 : Int32) (t0_6 : Int32) (t0_7 : Int32) (t0_8 : Int32) (t0_9 : Int32) (t0_10 : Int32) (t1_0 : (Nat → Int32)) (t2_0 : (Nat → Int32)) (t3_0 : (Nat → Int32)) (t4_0 : (Nat → Int32)) (t5_0 : (Nat → Int32)) : Prop := S_DR_shift_J20 x2 x3 x4 t0_0 t0_1 t0_2 t0_3 t0_4 t0_5 t0_6 t0_7 t0_8 t0_9 t0_10 t1_0 t2_0 t3_0 t4_0 t5_0 1
def S_DR_shift (x2 : Int32) (x3 : Int32) (x4 : Int32) (t0_0 : Int32) (t0_1 : Int32) (t0_2 : Int32) (t0_3 : Int64) (t0_4 : Int32) (t0_5 : Int32) (t0_6 : Int32) (t0_7 : Int32) (t0_8 : Int32) (t0_9 : Int32) (t0_10 : Int32) (t1_0 : (Nat → Int32)) (t2_0 : (Nat → Int32)) (t3_0 : (Nat → Int32)) (t4_0 : (Nat → Int32)) (t5_0 : (Nat → Int32)) : Prop := if ((F_DR_no x2) : Int32) = (0 : Int32) then (if ((F_DR_no x3) : Int32) = (0 : Int32) then (S_DR_shift_J20 x2 x3 x4 t0_0 t0_1 t0_2 t0_3 t0_4 t0_5 t0_6 t0_7 t0_8 t0_9 t0_10 t1_0 t2_0 t3_0 t4_0 t5_0 0) else (S_DR_shift_J15 x2 x3 x4 t0_0 t0_1 t0_2 t0_3 t0_4 t0_5 t0_6 t0_7 t0_8 t0_9 t0_10 t1_0 t2_0 t3_0 t4_0 t5_0)) else (S_DR_shift_J15 x2 x3 x4 t0_0 t0_1 t0_2 t0_3 t0_4 t0_5 t0_6 t0_7 t0_8 t0_9 t0_10 t1_0 t2_0 t3_0 t4_0 t5_0)
set_option maxRecDepth 100000 in
set_option maxHeartbeats 4000000 in
theorem X_DR_shift (l : Launch) (D : va_G) (g : Nat → ClassId) (q : Nat → Nat) (ws : va_W) (x2 : Int32) (x3 : Int32) (x4 : Int32) (hI : q_I (msh g q) q ws) (t0_0 : Int32) (t0_1 : Int32) (t0_2 : Int32) (t0_3 : Int64) (t0_4 : Int32) (t0_5 : Int32) (t0_6 : Int32) (t0_7 : Int32) (t0_8 : Int32) (t0_9 : Int32) (t0_10 : Int32) (hT0 : ws[134]? = (some (q 134, .inr (14, [.int t0_0, .ref (q 135), .int t0_1, .ref (q 136), .ref (q 137), .ref (q 138), .ref (q 139), .ref (q 140), .int t0_2, .long t0_3, .int t0_4, .int t0_5, .ref (q 141), .int t0_6, .ref (q 142), .int t0_7, .ref (q 143), .int t0_8, .ref (q 144), .int t0_9, .int t0_10])) : Option (Nat × va_E))) (t1_0 : (Nat → Int32)) (hT1 : ws[136]? = (some (q 136, .inl (g 0, (10000 : Int32).toNatClampNeg, .inl t1_0)) : Option (Nat × va_E))) (t2_0 : (Nat → Int32)) (hT2 : ws[137]? = (some (q 137, .inl (g 0, (10 : Int32).toNatClampNeg, .inl t2_0)) : Option (Nat × va_E))) (t3_0 : (Nat → Int32)) (hT3 : ws[138]? = (some (q 138, .inl (g 3, 10, .inl t3_0)) : Option (Nat × va_E))) (t4_0 : (Nat → Int32)) (hT4 : ws[139]? = (some (q 139, .inl (g 0, (10 : Int32).toNatClampNeg, .inl t4_0)) : Option (Nat × va_E))) (t5_0 : (Nat → Int32)) (hT5 : ws[140]? = (some (q 140, .inl (g 0, (4400 : Int32).toNatClampNeg, .inl t5_0)) : Option (Nat × va_E))) (hS : True ∧ S_DR_shift x2 x3 x4 t0_0 t0_1 t0_2 t0_3 t0_4 t0_5 t0_6 t0_7 t0_8 t0_9 t0_10 t1_0 t2_0 t3_0 t4_0 t5_0) : q_mV l y_DR_shift prog_15_method_46_code 4 3 0 0 D g [.ref (q 134), .int x2, .int x3, .int x4] ws (fun u => q_I (msh g q) q u ∧ q_un ws u [134, 136, 137, 138, 139, 140] ∧ ∃ (u0_0 : Int32) (u0_1 : Int32) (u0_2 : Int32) (u0_3 : Int64) (u0_4 : Int32) (u0_5 : Int32) (u0_6 : Int32) (u0_7 : Int32) (u0_8 : Int32) (u0_9 : Int32) (u0_10 : Int32) (u1_0 : (Nat → Int32)) (u2_0 : (Nat → Int32)) (u3_0 : (Nat → Int32)) (u4_0 : (Nat → Int32)) (u5_0 : (Nat → Int32)), u[134]? = (some (q 134, .inr (14, [.int u0_0, .ref (q 135), .int u0_1, .ref (q 136), .ref (q 137), .ref (q 138), .ref (q 139), .ref (q 140), .int u0_2, .long u0_3, .int u0_4, .int u0_5, .ref (q 141), .int u0_6, .ref (q 142), .int u0_7, .ref (q 143), .int u0_8, .ref (q 144), .int u0_9, .int u0_10])) : Option (Nat × va_E)) ∧ u[136]? = (some (q 136, .inl (g 0, (10000 : Int32).toNatClampNeg, .inl u1_0)) : Option (Nat × va_E)) ∧ u[137]? = (some (q 137, .inl (g 0, (10 : Int32).toNatClampNeg, .inl u2_0)) : Option (Nat × va_E)) ∧ u[138]? = (some (q 138, .inl (g 3, 10, .inl u3_0)) : Option (Nat × va_E)) ∧ u[139]? = (some (q 139, .inl (g 0, (10 : Int32).toNatClampNeg, .inl u4_0)) : Option (Nat × va_E)) ∧ u[140]? = (some (q 140, .inl (g 0, (4400 : Int32).toNatClampNeg, .inl u5_0)) : Option (Nat × va_E)) ∧ (0 ≤ u0_4.toInt) ∧ (0 ≤ u0_5.toInt) ∧ (u0_5.toInt ≤ 1) ∧ (t0_1.toInt ≤ u0_1.toInt) ∧ (u0_1.toInt ≤ t0_1.toInt) ∧ (u0_4.toInt ≤ t0_4.toInt) ∧ (t0_6.toInt ≤ u0_6.toInt) ∧ (u0_6.toInt ≤ t0_6.toInt) ∧ (t0_7.toInt ≤ u0_7.toInt) ∧ (u0_7.toInt ≤ t0_7.toInt) ∧ (t0_8.toInt ≤ u0_8.toInt) ∧ (u0_8.toInt ≤ t0_8.toInt) ∧ (t0_9.toInt ≤ u0_9.toInt) ∧ (u0_9.toInt ≤ t0_9.toInt) ∧ (u0_0, u0_1, u0_2, u0_3, u0_4, u0_5, u0_6, u0_7, u0_8, u0_9, u0_10, u1_0, u2_0, u3_0, u4_0, u5_0) = (F_DR_shift x2 x3 x4 t0_0 t0_1 t0_2 t0_3 t0_4 t0_5 t0_6 t0_7 t0_8 t0_9 t0_10 t1_0 t2_0 t3_0 t4_0 t5_0)) := by
  intro sz
  refine q_into (by decide) (Nat.le_of_ble_eq_true rfl) ?_
  intro p e s m below meth c ls hsz C0 V hl
  have hx := C0.1
  have hb := C0.2.1
  obtain ⟨btt0_1, hZ9⟩ := n_w134 hI hT0
  obtain ⟨btt0_4, hZ9⟩ := hZ9
  obtain ⟨btt0_5, btt0_9⟩ := hZ9
  replace btt0_1 : q_F (0 ≤ t0_1.toInt ∧ t0_1.toInt ≤ 4100) := btt0_1
  replace btt0_4 : q_F (0 ≤ t0_4.toInt ∧ t0_4.toInt ≤ 1) := btt0_4
  replace btt0_5 : q_F (0 ≤ t0_5.toInt ∧ t0_5.toInt ≤ 1) := btt0_5
  replace btt0_9 : q_F (0 ≤ t0_9.toInt ∧ t0_9.toInt ≤ 12200) := btt0_9
  have hF : q_un ws ws [134, 136, 137, 138, 139, 140] := q_u0
  have hl : lv_has ls 4 [(0, .ref (q 134)), (1, .int x2), (2, .int x3), (3, .int x4)] := hl
  refine lv_aload_n hx hb d_15_46_0 rfl (lv_at hl 0 rfl) ?_
  refine lv_iload_n hx hb d_15_46_1 rfl (lv_at hl 1 rfl) ?_
  refine q_goi V (q_runS (As := [.int x2]) (rest := [.ref (q 134)]) (d := 1) (mc := 0) (ms := 0) C0 V rfl LS_DR_113 (X_DR_no l D g q ws  x2 hI   _) rfl hl.1 rfl (Nat.le_of_ble_eq_true rfl) ⟨by decide, by decide⟩ ⟨Nat.le_of_ble_eq_true rfl, Nat.le_of_ble_eq_true rfl⟩ d_15_46_2) (fun a34 u32 H locs hp33 V => ?_)
  obtain ⟨rfl, b35, b36, hE37⟩ := hp33
  have e38 : a34 = (F_DR_no x2) := hE37
  clear b35
  clear b36
  refine q_join (X := Int32) (fun z H locs ls _ => q_F (0 ≤ z.toInt) ∧ q_F (z.toInt ≤ 1) ∧ q_Wd D g (va_A ws sz) s ws H locs ∧ lv_has ls 4 [(0, .ref (q 134)), (1, .int x2), (2, .int x3), (3, .int x4)] ∧ F_DR_shift_J20 x2 x3 x4 t0_0 t0_1 t0_2 t0_3 t0_4 t0_5 t0_6 t0_7 t0_8 t0_9 t0_10 t1_0 t2_0 t3_0 t4_0 t5_0 z = (F_DR_shift x2 x3 x4 t0_0 t0_1 t0_2 t0_3 t0_4 t0_5 t0_6 t0_7 t0_8 t0_9 t0_10 t1_0 t2_0 t3_0 t4_0 t5_0) ∧ True ∧ S_DR_shift_J20 x2 x3 x4 t0_0 t0_1 t0_2 t0_3 t0_4 t0_5 t0_6 t0_7 t0_8 t0_9 t0_10 t1_0 t2_0 t3_0 t4_0 t5_0 z) (fun z => [.int z, .ref (q 134)]) 20 0 0 ?_ ?_
  ·
    rintro lx39 H locs ls _ hZ9
    replace hZ9 := hZ9.2.2
    obtain ⟨V, hZ9⟩ := hZ9
    obtain ⟨hl, hZ9⟩ := hZ9
    obtain ⟨hR49, hS50⟩ := hZ9
    replace hl : lv_has ls 4 [(0, .ref (q 134)), (1, .int x2), (2, .int x3), (3, .int x4)] := hl
    refine q_put (ci := 14) (j := 0) (v := .int lx39) (ty := .int) C0 V i_DR o_DR n_DR rfl rfl hT0 (by decide) w_1996 rfl rfl rfl rfl (Nat.le_of_ble_eq_true rfl) d_15_46_20 (fun H locs w54 hu55 hT0 V => ?_)
    replace hT0 : w54[134]? = (some (q 134, .inr (14, [.int lx39, .ref (q 135), .int t0_1, .ref (q 136), .ref (q 137), .ref (q 138), .ref (q 139), .ref (q 140), .int t0_2, .long t0_3, .int t0_4, .int t0_5, .ref (q 141), .int t0_6, .ref (q 142), .int t0_7, .ref (q 143), .int t0_8, .ref (q 144), .int t0_9, .int t0_10])) : Option (Nat × va_E)) := hT0
    replace hI := n_p134 hI hu55 hT0 (by first | with_reducible exact q_fe btt0_1 | exact ⟨(by have t1 : 0 ≤ t0_1.toInt ∧ t0_1.toInt ≤ 4100 := btt0_1; omega), (by have t1 : 0 ≤ t0_1.toInt ∧ t0_1.toInt ≤ 4100 := btt0_1; omega)⟩) (by first | with_reducible exact q_fe btt0_4 | exact ⟨(by have t1 : 0 ≤ t0_4.toInt ∧ t0_4.toInt ≤ 1 := btt0_4; omega), (by have t1 : 0 ≤ t0_4.toInt ∧ t0_4.toInt ≤ 1 := btt0_4; omega)⟩) (by first | with_reducible exact q_fe btt0_5 | exact ⟨(by have t1 : 0 ≤ t0_5.toInt ∧ t0_5.toInt ≤ 1 := btt0_5; omega), (by have t1 : 0 ≤ t0_5.toInt ∧ t0_5.toInt ≤ 1 := btt0_5; omega)⟩) (by first | with_reducible exact q_fe btt0_9 | exact ⟨(by have t1 : 0 ≤ t0_9.toInt ∧ t0_9.toInt ≤ 12200 := btt0_9; omega), (by have t1 : 0 ≤ t0_9.toInt ∧ t0_9.toInt ≤ 12200 := btt0_9; omega)⟩)
    replace hT1 := (hu55 _ (by decide)).trans hT1
    replace hT2 := (hu55 _ (by decide)).trans hT2
    replace hT3 := (hu55 _ (by decide)).trans hT3
    replace hT4 := (hu55 _ (by decide)).trans hT4
    replace hT5 := (hu55 _ (by decide)).trans hT5
    replace hF := q_us hF hu55 (by simp)
    refine lv_aload_n hx hb d_15_46_23 rfl (lv_at hl 0 rfl) ?_
    refine q_get (ci := 14) (j := 0) (v := .int lx39) C0 V i_DR rfl rfl hT0 (by decide) w_1996 rfl d_15_46_24 ?_
    refine lv_if_ne (tgt := 56) hx hb d_15_46_27 (by decide) (fun c56 => ?_) (fun c56 => ?_)
    ·
      exact q_retv C0 V (⟨hI, hF, lx39, t0_1, t0_2, t0_3, t0_4, t0_5, t0_6, t0_7, t0_8, t0_9, t0_10, t1_0, t2_0, t3_0, t4_0, t5_0, hT0, hT1, hT2, hT3, hT4, hT5, (show 0 ≤ t0_4.toInt from (by first | with_reducible exact (q_fe btt0_4).2 | with_reducible exact (q_fe btt0_4).1 | (have t1 : 0 ≤ t0_4.toInt ∧ t0_4.toInt ≤ 1 := btt0_4; omega))), (show 0 ≤ t0_5.toInt from (by first | with_reducible exact (q_fe btt0_5).2 | with_reducible exact (q_fe btt0_5).1 | (have t1 : 0 ≤ t0_5.toInt ∧ t0_5.toInt ≤ 1 := btt0_5; omega))), (show t0_5.toInt ≤ 1 from (by first | with_reducible exact (q_fe btt0_5).2 | with_reducible exact (q_fe btt0_5).1 | (have t1 : 0 ≤ t0_5.toInt ∧ t0_5.toInt ≤ 1 := btt0_5; omega))), (show t0_1.toInt ≤ t0_1.toInt from (by omega)), (show t0_1.toInt ≤ t0_1.toInt from (by omega)), (show t0_4.toInt ≤ t0_4.toInt from (by omega)), (show t0_6.toInt ≤ t0_6.toInt from (by omega)), (show t0_6.toInt ≤ t0_6.toInt from (by omega)), (show t0_7.toInt ≤ t0_7.toInt from (by omega)), (show t0_7.toInt ≤ t0_7.toInt from (by omega)), (show t0_8.toInt ≤ t0_8.toInt from (by omega)), (show t0_8.toInt ≤ t0_8.toInt from (by omega)), (show t0_9.toInt ≤ t0_9.toInt from (by omega)), (show t0_9.toInt ≤ t0_9.toInt from (by omega)), (show (lx39, t0_1, t0_2, t0_3, t0_4, t0_5, t0_6, t0_7, t0_8, t0_9, t0_10, t1_0, t2_0, t3_0, t4_0, t5_0) = (F_DR_shift x2 x3 x4 t0_0 t0_1 t0_2 t0_3 t0_4 t0_5 t0_6 t0_7 t0_8 t0_9 t0_10 t1_0 t2_0 t3_0 t4_0 t5_0) from Eq.trans (by rw [F_DR_shift_J20.eq_1, if_neg c56]) hR49)⟩) d_15_46_56
    ·
      refine lv_aload_n hx hb d_15_46_30 rfl (lv_at hl 0 rfl) ?_
      refine lv_iconst (v := 2) hx hb d_15_46_31 (by decide) ?_
      refine q_put (ci := 14) (j := 20) (v := .int 2) (ty := .int) C0 V i_DR o_DR n_DR rfl rfl hT0 (by decide) w_2024 rfl rfl rfl rfl (Nat.le_of_ble_eq_true rfl) d_15_46_32 (fun H locs w59 hu60 hT0 V => ?_)
      replace hT0 : w59[134]? = (some (q 134, .inr (14, [.int lx39, .ref (q 135), .int t0_1, .ref (q 136), .ref (q 137), .ref (q 138), .ref (q 139), .ref (q 140), .int t0_2, .long t0_3, .int t0_4, .int t0_5, .ref (q 141), .int t0_6, .ref (q 142), .int t0_7, .ref (q 143), .int t0_8, .ref (q 144), .int t0_9, .int 2])) : Option (Nat × va_E)) := hT0
      replace hI := n_p134 hI hu60 hT0 (by first | with_reducible exact q_fe btt0_1 | exact ⟨(by have t1 : 0 ≤ t0_1.toInt ∧ t0_1.toInt ≤ 4100 := btt0_1; omega), (by have t1 : 0 ≤ t0_1.toInt ∧ t0_1.toInt ≤ 4100 := btt0_1; omega)⟩) (by first | with_reducible exact q_fe btt0_4 | exact ⟨(by have t1 : 0 ≤ t0_4.toInt ∧ t0_4.toInt ≤ 1 := btt0_4; omega), (by have t1 : 0 ≤ t0_4.toInt ∧ t0_4.toInt ≤ 1 := btt0_4; omega)⟩) (by first | with_reducible exact q_fe btt0_5 | exact ⟨(by have t1 : 0 ≤ t0_5.toInt ∧ t0_5.toInt ≤ 1 := btt0_5; omega), (by have t1 : 0 ≤ t0_5.toInt ∧ t0_5.toInt ≤ 1 := btt0_5; omega)⟩) (by first | with_reducible exact q_fe btt0_9 | exact ⟨(by have t1 : 0 ≤ t0_9.toInt ∧ t0_9.toInt ≤ 12200 := btt0_9; omega), (by have t1 : 0 ≤ t0_9.toInt ∧ t0_9.toInt ≤ 12200 := btt0_9; omega)⟩)
      replace hT1 := (hu60 _ (by decide)).trans hT1
      replace hT2 := (hu60 _ (by decide)).trans hT2
      replace hT3 := (hu60 _ (by decide)).trans hT3
      replace hT4 := (hu60 _ (by decide)).trans hT4
      replace hT5 := (hu60 _ (by decide)).trans hT5
      replace hF := q_us hF hu60 (by simp)
      refine lv_aload_n hx hb d_15_46_35 rfl (lv_at hl 0 rfl) ?_
      refine lv_iload_n hx hb d_15_46_36 rfl (lv_at hl 1 rfl) ?_
      have ob61 : True ∧ S_DR_load x2 lx39 t0_1 t0_2 t0_3 t0_4 t0_5 t0_6 t0_7 t0_8 t0_9 (2 : Int32) t1_0 t2_0 t3_0 t4_0 t5_0 := (by have h := hS50; rw [S_DR_shift_J20.eq_1] at h; rw [if_pos c56] at h; with_reducible exact h.2.1)
      refine q_gov V (q_runV (As := [.int x2]) (rest := []) (d := 1) (mc := 0) (ms := 0) (ci := 14) C0 V rfl LV_DR_132 (X_DR_load l D g q w59  x2 hI lx39 t0_1 t0_2 t0_3 t0_4 t0_5 t0_6 t0_7 t0_8 t0_9 2 hT0 t1_0 hT1 t2_0 hT2 t3_0 hT3 t4_0 hT4 t5_0 hT5 ob61 _) rfl rfl hT0 rfl hl.1 rfl (Nat.le_of_ble_eq_true rfl) ⟨by decide, by decide⟩ ⟨Nat.le_of_ble_eq_true rfl, Nat.le_of_ble_eq_true rfl⟩ d_15_46_37) (fun u62 H locs hp63 V => ?_)
      obtain ⟨hI, hZ9⟩ := hp63
      obtain ⟨hu102, hZ9⟩ := hZ9
      obtain ⟨y65, hZ9⟩ := hZ9
      obtain ⟨y66, hZ9⟩ := hZ9
      obtain ⟨y67, hZ9⟩ := hZ9
      obtain ⟨y68, hZ9⟩ := hZ9
      obtain ⟨y69, hZ9⟩ := hZ9
      obtain ⟨y70, hZ9⟩ := hZ9
      obtain ⟨y71, hZ9⟩ := hZ9
      obtain ⟨y72, hZ9⟩ := hZ9
      obtain ⟨y73, hZ9⟩ := hZ9
      obtain ⟨y74, hZ9⟩ := hZ9
      obtain ⟨y75, hZ9⟩ := hZ9
      obtain ⟨f76, hZ9⟩ := hZ9
      obtain ⟨hO64, hZ9⟩ := hZ9
      obtain ⟨hA77, hZ9⟩ := hZ9
      replace hZ9 := hZ9.2.2
      obtain ⟨b80, hZ9⟩ := hZ9
      obtain ⟨b81, hZ9⟩ := hZ9
      replace hZ9 := hZ9.2.2
      obtain ⟨b84, hZ9⟩ := hZ9
      obtain ⟨b85, hZ9⟩ := hZ9
      replace hZ9 := hZ9.2.2
      obtain ⟨b88, hZ9⟩ := hZ9
      obtain ⟨b89, hZ9⟩ := hZ9
      obtain ⟨b90, hZ9⟩ := hZ9
      obtain ⟨b91, hZ9⟩ := hZ9
      obtain ⟨b92, hZ9⟩ := hZ9
      obtain ⟨b93, hZ9⟩ := hZ9
      obtain ⟨b94, hZ9⟩ := hZ9
      obtain ⟨b95, hZ9⟩ := hZ9
      replace hZ9 := hZ9.2.2.2
      obtain ⟨b99, hZ9⟩ := hZ9
      obtain ⟨b100, hE101⟩ := hZ9
      replace hO64 : u62[134]? = (some (q 134, .inr (14, [.int y65, .ref (q 135), .int y66, .ref (q 136), .ref (q 137), .ref (q 138), .ref (q 139), .ref (q 140), .int y67, .long y68, .int y69, .int y70, .ref (q 141), .int y71, .ref (q 142), .int y72, .ref (q 143), .int y73, .ref (q 144), .int y74, .int y75])) : Option (Nat × va_E)) := hO64
      replace hA77 : u62[140]? = (some (q 140, .inl (g 0, (4400 : Int32).toNatClampNeg, .inl f76)) : Option (Nat × va_E)) := hA77
      obtain ⟨p103, e104⟩ : ∃ z, z = (F_DR_load x2 lx39 t0_1 t0_2 t0_3 t0_4 t0_5 t0_6 t0_7 t0_8 t0_9 (2 : Int32) t1_0 t2_0 t3_0 t4_0 t5_0) := ⟨_, rfl⟩
      have e105 : y65 = p103.1 := congrArg (fun z => z.1) (hE101.trans e104.symm)
      have e106 : y66 = p103.2.1 := congrArg (fun z => z.2.1) (hE101.trans e104.symm)
      have e107 : y67 = p103.2.2.1 := congrArg (fun z => z.2.2.1) (hE101.trans e104.symm)
      have e108 : y68 = p103.2.2.2.1 := congrArg (fun z => z.2.2.2.1) (hE101.trans e104.symm)
      have e109 : y69 = p103.2.2.2.2.1 := congrArg (fun z => z.2.2.2.2.1) (hE101.trans e104.symm)
      have e110 : y70 = p103.2.2.2.2.2.1 := congrArg (fun z => z.2.2.2.2.2.1) (hE101.trans e104.symm)
      have e111 : y71 = p103.2.2.2.2.2.2.1 := congrArg (fun z => z.2.2.2.2.2.2.1) (hE101.trans e104.symm)
      have e112 : y72 = p103.2.2.2.2.2.2.2.1 := congrArg (fun z => z.2.2.2.2.2.2.2.1) (hE101.trans e104.symm)
      have e113 : y73 = p103.2.2.2.2.2.2.2.2.1 := congrArg (fun z => z.2.2.2.2.2.2.2.2.1) (hE101.trans e104.symm)
      have e114 : y74 = p103.2.2.2.2.2.2.2.2.2.1 := congrArg (fun z => z.2.2.2.2.2.2.2.2.2.1) (hE101.trans e104.symm)
      have e115 : y75 = p103.2.2.2.2.2.2.2.2.2.2.1 := congrArg (fun z => z.2.2.2.2.2.2.2.2.2.2.1) (hE101.trans e104.symm)
      have e116 : f76 = p103.2.2.2.2.2.2.2.2.2.2.2 := congrArg (fun z => z.2.2.2.2.2.2.2.2.2.2.2) (hE101.trans e104.symm)
      replace b80 : q_F (0 ≤ y69.toInt) := b80
      replace b81 : q_F (y69.toInt ≤ 0) := b81
      replace b84 : q_F (t0_1.toInt ≤ y66.toInt) := b84
      replace b85 : q_F (y66.toInt ≤ t0_1.toInt) := b85
      replace b88 : q_F (t0_6.toInt ≤ y71.toInt) := b88
      replace b89 : q_F (y71.toInt ≤ t0_6.toInt) := b89
      replace b90 : q_F (t0_7.toInt ≤ y72.toInt) := b90
      replace b91 : q_F (y72.toInt ≤ t0_7.toInt) := b91
      replace b92 : q_F (t0_8.toInt ≤ y73.toInt) := b92
      replace b93 : q_F (y73.toInt ≤ t0_8.toInt) := b93
      replace b94 : q_F (t0_9.toInt ≤ y74.toInt) := b94
      replace b95 : q_F (y74.toInt ≤ t0_9.toInt) := b95
      replace b99 : q_F (y70.toInt ≤ y69.toInt + 1) := b99
      replace b100 : q_F (y69.toInt ≤ y70.toInt) := b100
      replace hT1 := (hu102 _ (by decide)).trans hT1
      replace hT2 := (hu102 _ (by decide)).trans hT2
      replace hT3 := (hu102 _ (by decide)).trans hT3
      replace hT4 := (hu102 _ (by decide)).trans hT4
      replace hF := q_uc hF hu102 (by simp)
      have hR117 := (show F_DR_shift_c37 x2 x3 x4 t0_0 t0_1 t0_2 t0_3 t0_4 t0_5 t0_6 t0_7 t0_8 t0_9 t0_10 t1_0 t2_0 t3_0 t4_0 t5_0 lx39 p103 = (F_DR_shift x2 x3 x4 t0_0 t0_1 t0_2 t0_3 t0_4 t0_5 t0_6 t0_7 t0_8 t0_9 t0_10 t1_0 t2_0 t3_0 t4_0 t5_0) from Eq.trans (by rw [e104, F_DR_shift_J20.eq_1, if_pos c56]) hR49)
      have hS118 := (show True ∧ S_DR_shift_c37 x2 x3 x4 t0_0 t0_1 t0_2 t0_3 t0_4 t0_5 t0_6 t0_7 t0_8 t0_9 t0_10 t1_0 t2_0 t3_0 t4_0 t5_0 lx39 p103 from (by rw [e104]; have h := hS50; rw [S_DR_shift_J20.eq_1] at h; rw [if_pos c56] at h; replace h := q_s2 h; with_reducible exact h))
      refine lv_aload_n hx hb d_15_46_40 rfl (lv_at hl 0 rfl) ?_
      refine lv_aload_n hx hb d_15_46_41 rfl (lv_at hl 0 rfl) ?_
      refine q_get (ci := 14) (j := 9) (v := .long y68) C0 V i_DR rfl rfl hO64 (by decide) w_2012 rfl d_15_46_42 ?_
      refine lv_iload_n hx hb d_15_46_45 rfl (lv_at hl 3 rfl) ?_
      refine lv_i2l hx hb d_15_46_46 rfl ?_
      obtain ⟨j122, e123⟩ := q_nm (x4.toInt64 : Int64)
      refine q_tl (v := j122) e123 ?_
      refine lv_lsub hx hb d_15_46_47 ?_
      obtain ⟨j125, e126⟩ := q_nm (y68 - j122 : Int64)
      refine q_tl (v := j125) e126 ?_
      refine q_put (ci := 14) (j := 9) (v := .long j125) (ty := .long) C0 V i_DR o_DR n_DR rfl rfl hO64 (by decide) w_2012 rfl rfl rfl rfl (Nat.le_of_ble_eq_true rfl) d_15_46_48 (fun H locs w128 hu129 hO64 V => ?_)
      replace hO64 : w128[134]? = (some (q 134, .inr (14, [.int y65, .ref (q 135), .int y66, .ref (q 136), .ref (q 137), .ref (q 138), .ref (q 139), .ref (q 140), .int y67, .long j125, .int y69, .int y70, .ref (q 141), .int y71, .ref (q 142), .int y72, .ref (q 143), .int y73, .ref (q 144), .int y74, .int y75])) : Option (Nat × va_E)) := hO64
      replace hI := n_p134 hI hu129 hO64 ⟨(by have t1 : 0 ≤ t0_1.toInt ∧ t0_1.toInt ≤ 4100 := btt0_1; have t2 : t0_1.toInt ≤ y66.toInt := b84; omega), (by have t1 : 0 ≤ t0_1.toInt ∧ t0_1.toInt ≤ 4100 := btt0_1; have t2 : y66.toInt ≤ t0_1.toInt := b85; omega)⟩ ⟨(by first | with_reducible exact q_fe b80 | (have t1 : 0 ≤ y69.toInt := b80; omega)), (by first | with_reducible exact q_fe b81 | (have t1 : y69.toInt ≤ 0 := b81; omega))⟩ ⟨(by have t1 : 0 ≤ y69.toInt := b80; have t2 : y69.toInt ≤ y70.toInt := b100; omega), (by have t1 : y69.toInt ≤ 0 := b81; have t2 : y70.toInt ≤ y69.toInt + 1 := b99; omega)⟩ ⟨(by have t1 : 0 ≤ t0_9.toInt ∧ t0_9.toInt ≤ 12200 := btt0_9; have t2 : t0_9.toInt ≤ y74.toInt := b94; omega), (by have t1 : 0 ≤ t0_9.toInt ∧ t0_9.toInt ≤ 12200 := btt0_9; have t2 : y74.toInt ≤ t0_9.toInt := b95; omega)⟩
      replace hT1 := (hu129 _ (by decide)).trans hT1
      replace hT2 := (hu129 _ (by decide)).trans hT2
      replace hT3 := (hu129 _ (by decide)).trans hT3
      replace hT4 := (hu129 _ (by decide)).trans hT4
      replace hA77 := (hu129 _ (by decide)).trans hA77
      replace hF := q_us hF hu129 (by simp)
      refine lv_aload_n hx hb d_15_46_51 rfl (lv_at hl 0 rfl) ?_
      refine lv_iload_n hx hb d_15_46_52 rfl (lv_at hl 2 rfl) ?_
      have ob130 : True ∧ S_DR_store x3 y65 y66 y67 j125 y69 y70 y71 y72 y73 y74 y75 t1_0 t2_0 t3_0 t4_0 f76 := (by rw [← e126, ← e123, e116, e115, e114, e113, e112, e111, e110, e109, e108, e107, e106, e105]; have h := hS118; rw [S_DR_shift_c37.eq_1] at h; with_reducible exact h.2.1)
      refine q_gov V (q_runV (As := [.int x3]) (rest := []) (d := 2) (mc := 0) (ms := 0) (ci := 14) C0 V rfl LV_DR_89 (X_DR_store l D g q w128  x3 hI y65 y66 y67 j125 y69 y70 y71 y72 y73 y74 y75 hO64 t1_0 hT1 t2_0 hT2 t3_0 hT3 t4_0 hT4 f76 hA77 ob130 _) rfl rfl hO64 rfl hl.1 rfl (Nat.le_of_ble_eq_true rfl) ⟨by decide, by decide⟩ ⟨Nat.le_of_ble_eq_true rfl, Nat.le_of_ble_eq_true rfl⟩ d_15_46_53) (fun u131 H locs hp132 V => ?_)
      obtain ⟨hI, hZ9⟩ := hp132
      obtain ⟨hu178, hZ9⟩ := hZ9
      obtain ⟨y134, hZ9⟩ := hZ9
      obtain ⟨y135, hZ9⟩ := hZ9
      obtain ⟨y136, hZ9⟩ := hZ9
      obtain ⟨y137, hZ9⟩ := hZ9
      obtain ⟨y138, hZ9⟩ := hZ9
      obtain ⟨y139, hZ9⟩ := hZ9
      obtain ⟨y140, hZ9⟩ := hZ9
      obtain ⟨y141, hZ9⟩ := hZ9
      obtain ⟨y142, hZ9⟩ := hZ9
      obtain ⟨y143, hZ9⟩ := hZ9
      obtain ⟨y144, hZ9⟩ := hZ9
      obtain ⟨f145, hZ9⟩ := hZ9
      obtain ⟨f147, hZ9⟩ := hZ9
      obtain ⟨f149, hZ9⟩ := hZ9
      obtain ⟨f151, hZ9⟩ := hZ9
      obtain ⟨f153, hZ9⟩ := hZ9
      obtain ⟨hO133, hZ9⟩ := hZ9
      obtain ⟨hA146, hZ9⟩ := hZ9
      obtain ⟨hA148, hZ9⟩ := hZ9
      obtain ⟨hA150, hZ9⟩ := hZ9
      obtain ⟨hA152, hZ9⟩ := hZ9
      obtain ⟨hA154, hZ9⟩ := hZ9
      obtain ⟨b155, hZ9⟩ := hZ9
      obtain ⟨b156, hZ9⟩ := hZ9
      obtain ⟨b157, hZ9⟩ := hZ9
      replace hZ9 := hZ9.2.2.2.2
      obtain ⟨b162, hZ9⟩ := hZ9
      obtain ⟨b163, hZ9⟩ := hZ9
      replace hZ9 := hZ9.2
      obtain ⟨b165, hZ9⟩ := hZ9
      obtain ⟨b166, hZ9⟩ := hZ9
      obtain ⟨b167, hZ9⟩ := hZ9
      obtain ⟨b168, hZ9⟩ := hZ9
      obtain ⟨b169, hZ9⟩ := hZ9
      obtain ⟨b170, hZ9⟩ := hZ9
      obtain ⟨b171, hZ9⟩ := hZ9
      replace hZ9 := hZ9.2
      obtain ⟨b173, hZ9⟩ := hZ9
      obtain ⟨b174, hZ9⟩ := hZ9
      replace hZ9 := hZ9.2
      obtain ⟨-, hE177⟩ := hZ9
      replace hO133 : u131[134]? = (some (q 134, .inr (14, [.int y134, .ref (q 135), .int y135, .ref (q 136), .ref (q 137), .ref (q 138), .ref (q 139), .ref (q 140), .int y136, .long y137, .int y138, .int y139, .ref (q 141), .int y140, .ref (q 142), .int y141, .ref (q 143), .int y142, .ref (q 144), .int y143, .int y144])) : Option (Nat × va_E)) := hO133
      replace hA146 : u131[136]? = (some (q 136, .inl (g 0, (10000 : Int32).toNatClampNeg, .inl f145)) : Option (Nat × va_E)) := hA146
      replace hA148 : u131[137]? = (some (q 137, .inl (g 0, (10 : Int32).toNatClampNeg, .inl f147)) : Option (Nat × va_E)) := hA148
      replace hA150 : u131[138]? = (some (q 138, .inl (g 3, 10, .inl f149)) : Option (Nat × va_E)) := hA150
      replace hA152 : u131[139]? = (some (q 139, .inl (g 0, (10 : Int32).toNatClampNeg, .inl f151)) : Option (Nat × va_E)) := hA152
      replace hA154 : u131[140]? = (some (q 140, .inl (g 0, (4400 : Int32).toNatClampNeg, .inl f153)) : Option (Nat × va_E)) := hA154
      obtain ⟨p179, e180⟩ : ∃ z, z = (F_DR_store x3 y65 y66 y67 j125 y69 y70 y71 y72 y73 y74 y75 t1_0 t2_0 t3_0 t4_0 f76) := ⟨_, rfl⟩
      have e181 : y134 = p179.1 := congrArg (fun z => z.1) (hE177.trans e180.symm)
      have e182 : y135 = p179.2.1 := congrArg (fun z => z.2.1) (hE177.trans e180.symm)
      have e183 : y136 = p179.2.2.1 := congrArg (fun z => z.2.2.1) (hE177.trans e180.symm)
      have e184 : y137 = p179.2.2.2.1 := congrArg (fun z => z.2.2.2.1) (hE177.trans e180.symm)
      have e185 : y138 = p179.2.2.2.2.1 := congrArg (fun z => z.2.2.2.2.1) (hE177.trans e180.symm)
      have e186 : y139 = p179.2.2.2.2.2.1 := congrArg (fun z => z.2.2.2.2.2.1) (hE177.trans e180.symm)
      have e187 : y140 = p179.2.2.2.2.2.2.1 := congrArg (fun z => z.2.2.2.2.2.2.1) (hE177.trans e180.symm)
      have e188 : y141 = p179.2.2.2.2.2.2.2.1 := congrArg (fun z => z.2.2.2.2.2.2.2.1) (hE177.trans e180.symm)
      have e189 : y142 = p179.2.2.2.2.2.2.2.2.1 := congrArg (fun z => z.2.2.2.2.2.2.2.2.1) (hE177.trans e180.symm)
      have e190 : y143 = p179.2.2.2.2.2.2.2.2.2.1 := congrArg (fun z => z.2.2.2.2.2.2.2.2.2.1) (hE177.trans e180.symm)
      have e191 : y144 = p179.2.2.2.2.2.2.2.2.2.2.1 := congrArg (fun z => z.2.2.2.2.2.2.2.2.2.2.1) (hE177.trans e180.symm)
      have e192 : f145 = p179.2.2.2.2.2.2.2.2.2.2.2.1 := congrArg (fun z => z.2.2.2.2.2.2.2.2.2.2.2.1) (hE177.trans e180.symm)
      have e193 : f147 = p179.2.2.2.2.2.2.2.2.2.2.2.2.1 := congrArg (fun z => z.2.2.2.2.2.2.2.2.2.2.2.2.1) (hE177.trans e180.symm)
      have e194 : f149 = p179.2.2.2.2.2.2.2.2.2.2.2.2.2.1 := congrArg (fun z => z.2.2.2.2.2.2.2.2.2.2.2.2.2.1) (hE177.trans e180.symm)
      have e195 : f151 = p179.2.2.2.2.2.2.2.2.2.2.2.2.2.2.1 := congrArg (fun z => z.2.2.2.2.2.2.2.2.2.2.2.2.2.2.1) (hE177.trans e180.symm)
      have e196 : f153 = p179.2.2.2.2.2.2.2.2.2.2.2.2.2.2.2 := congrArg (fun z => z.2.2.2.2.2.2.2.2.2.2.2.2.2.2.2) (hE177.trans e180.symm)
      replace b155 : q_F (0 ≤ y139.toInt) := b155
      replace b156 : q_F (y66.toInt ≤ y135.toInt) := b156
      replace b157 : q_F (y135.toInt ≤ y66.toInt) := b157
      replace b162 : q_F (y69.toInt ≤ y138.toInt) := b162
      replace b163 : q_F (y138.toInt ≤ y69.toInt) := b163
      replace b165 : q_F (y139.toInt ≤ y70.toInt) := b165
      replace b166 : q_F (y71.toInt ≤ y140.toInt) := b166
      replace b167 : q_F (y140.toInt ≤ y71.toInt) := b167
      replace b168 : q_F (y72.toInt ≤ y141.toInt) := b168
      replace b169 : q_F (y141.toInt ≤ y72.toInt) := b169
      replace b170 : q_F (y73.toInt ≤ y142.toInt) := b170
      replace b171 : q_F (y142.toInt ≤ y73.toInt) := b171
      replace b173 : q_F (y74.toInt ≤ y143.toInt) := b173
      replace b174 : q_F (y143.toInt ≤ y74.toInt) := b174
      replace hF := q_uc hF hu178 (by simp)
      have hR197 := (show F_DR_shift_c53 x2 x3 x4 t0_0 t0_1 t0_2 t0_3 t0_4 t0_5 t0_6 t0_7 t0_8 t0_9 t0_10 t1_0 t2_0 t3_0 t4_0 t5_0 lx39 p103 p179 = (F_DR_shift x2 x3 x4 t0_0 t0_1 t0_2 t0_3 t0_4 t0_5 t0_6 t0_7 t0_8 t0_9 t0_10 t1_0 t2_0 t3_0 t4_0 t5_0) from Eq.trans (by rw [e180, ← e126, ← e123, e116, e115, e114, e113, e112, e111, e110, e109, e108, e107, e106, e105, F_DR_shift_c37.eq_1]) hR117)
      have hS198 := (show True ∧ S_DR_shift_c53 x2 x3 x4 t0_0 t0_1 t0_2 t0_3 t0_4 t0_5 t0_6 t0_7 t0_8 t0_9 t0_10 t1_0 t2_0 t3_0 t4_0 t5_0 lx39 p103 p179 from (by rw [e180, ← e126, ← e123, e116, e115, e114, e113, e112, e111, e110, e109, e108, e107, e106, e105]; have h := hS118; rw [S_DR_shift_c37.eq_1] at h; replace h := q_s2 h; with_reducible exact h))
      exact q_retv C0 V (⟨hI, hF, y134, y135, y136, y137, y138, y139, y140, y141, y142, y143, y144, f145, f147, f149, f151, f153, hO133, hA146, hA148, hA150, hA152, hA154, (show 0 ≤ y138.toInt from (by have t1 : 0 ≤ y69.toInt := b80; have t2 : y69.toInt ≤ y138.toInt := b162; omega)), (show 0 ≤ y139.toInt from (by first | with_reducible exact q_fe b155 | (have t1 : 0 ≤ y139.toInt := b155; omega))), (show y139.toInt ≤ 1 from (by have t1 : y69.toInt ≤ 0 := b81; have t2 : y70.toInt ≤ y69.toInt + 1 := b99; have t3 : y139.toInt ≤ y70.toInt := b165; omega)), (show t0_1.toInt ≤ y135.toInt from (by have t1 : t0_1.toInt ≤ y66.toInt := b84; have t2 : y66.toInt ≤ y135.toInt := b156; omega)), (show y135.toInt ≤ t0_1.toInt from (by have t1 : y66.toInt ≤ t0_1.toInt := b85; have t2 : y135.toInt ≤ y66.toInt := b157; omega)), (show y138.toInt ≤ t0_4.toInt from (by have t1 : 0 ≤ t0_4.toInt ∧ t0_4.toInt ≤ 1 := btt0_4; have t2 : y69.toInt ≤ 0 := b81; have t3 : y138.toInt ≤ y69.toInt := b163; omega)), (show t0_6.toInt ≤ y140.toInt from (by have t1 : t0_6.toInt ≤ y71.toInt := b88; have t2 : y71.toInt ≤ y140.toInt := b166; omega)), (show y140.toInt ≤ t0_6.toInt from (by have t1 : y71.toInt ≤ t0_6.toInt := b89; have t2 : y140.toInt ≤ y71.toInt := b167; omega)), (show t0_7.toInt ≤ y141.toInt from (by have t1 : t0_7.toInt ≤ y72.toInt := b90; have t2 : y72.toInt ≤ y141.toInt := b168; omega)), (show y141.toInt ≤ t0_7.toInt from (by have t1 : y72.toInt ≤ t0_7.toInt := b91; have t2 : y141.toInt ≤ y72.toInt := b169; omega)), (show t0_8.toInt ≤ y142.toInt from (by have t1 : t0_8.toInt ≤ y73.toInt := b92; have t2 : y73.toInt ≤ y142.toInt := b170; omega)), (show y142.toInt ≤ t0_8.toInt from (by have t1 : y73.toInt ≤ t0_8.toInt := b93; have t2 : y142.toInt ≤ y73.toInt := b171; omega)), (show t0_9.toInt ≤ y143.toInt from (by have t1 : t0_9.toInt ≤ y74.toInt := b94; have t2 : y74.toInt ≤ y143.toInt := b173; omega)), (show y143.toInt ≤ t0_9.toInt from (by have t1 : y74.toInt ≤ t0_9.toInt := b95; have t2 : y143.toInt ≤ y74.toInt := b174; omega)), (show (y134, y135, y136, y137, y138, y139, y140, y141, y142, y143, y144, f145, f147, f149, f151, f153) = (F_DR_shift x2 x3 x4 t0_0 t0_1 t0_2 t0_3 t0_4 t0_5 t0_6 t0_7 t0_8 t0_9 t0_10 t1_0 t2_0 t3_0 t4_0 t5_0) from Eq.trans (by rw [e196, e195, e194, e193, e192, e191, e190, e189, e188, e187, e186, e185, e184, e183, e182, e181, F_DR_shift_c53.eq_1]) hR197)⟩) d_15_46_56
  ·
    intro J46
    refine q_join (X := Unit) (fun z H locs ls _ => q_Wd D g (va_A ws sz) s ws H locs ∧ lv_has ls 4 [(0, .ref (q 134)), (1, .int x2), (2, .int x3), (3, .int x4)] ∧ F_DR_shift_J15 x2 x3 x4 t0_0 t0_1 t0_2 t0_3 t0_4 t0_5 t0_6 t0_7 t0_8 t0_9 t0_10 t1_0 t2_0 t3_0 t4_0 t5_0 = (F_DR_shift x2 x3 x4 t0_0 t0_1 t0_2 t0_3 t0_4 t0_5 t0_6 t0_7 t0_8 t0_9 t0_10 t1_0 t2_0 t3_0 t4_0 t5_0) ∧ True ∧ S_DR_shift_J15 x2 x3 x4 t0_0 t0_1 t0_2 t0_3 t0_4 t0_5 t0_6 t0_7 t0_8 t0_9 t0_10 t1_0 t2_0 t3_0 t4_0 t5_0) (fun z => [.ref (q 134)]) 15 0 0 ?_ ?_
    ·
      rintro _ H locs ls _ ⟨V, hl, hR209, hS210⟩
      replace hl : lv_has ls 4 [(0, .ref (q 134)), (1, .int x2), (2, .int x3), (3, .int x4)] := hl
      refine lv_iconst (v := 1) hx hb d_15_46_15 (by decide) ?_
      refine lv_goto (tgt := 20) hx hb d_15_46_16 (by decide) ?_
      exact J46 ((1 : Int32)) _ _ _ ws ⟨(show q_F (0 ≤ 1) from (show 0 ≤ 1 from by omega)), (show q_F (1 ≤ 1) from (show 1 ≤ 1 from by omega)), V, q_lw hl (q_lw1 0 rfl (q_lw1 1 rfl (q_lw1 2 rfl (q_lw1 3 rfl q_lw0)))), (show F_DR_shift_J20 x2 x3 x4 t0_0 t0_1 t0_2 t0_3 t0_4 t0_5 t0_6 t0_7 t0_8 t0_9 t0_10 t1_0 t2_0 t3_0 t4_0 t5_0 1 = (F_DR_shift x2 x3 x4 t0_0 t0_1 t0_2 t0_3 t0_4 t0_5 t0_6 t0_7 t0_8 t0_9 t0_10 t1_0 t2_0 t3_0 t4_0 t5_0) from Eq.trans (by rw [F_DR_shift_J15.eq_1]) hR209), (show True ∧ S_DR_shift_J20 x2 x3 x4 t0_0 t0_1 t0_2 t0_3 t0_4 t0_5 t0_6 t0_7 t0_8 t0_9 t0_10 t1_0 t2_0 t3_0 t4_0 t5_0 1 from (by have h := hS210; rw [S_DR_shift_J15.eq_1] at h; with_reducible exact h))⟩
    ·
      intro J208
      refine lv_if_ne (tgt := 15) hx hb d_15_46_5 (by decide) (fun c214 => ?_) (fun c214 => ?_)
      ·
        exact J208 (()) _ _ _ ws ⟨V, q_lw hl (q_lw1 0 rfl (q_lw1 1 rfl (q_lw1 2 rfl (q_lw1 3 rfl q_lw0)))), (show F_DR_shift_J15 x2 x3 x4 t0_0 t0_1 t0_2 t0_3 t0_4 t0_5 t0_6 t0_7 t0_8 t0_9 t0_10 t1_0 t2_0 t3_0 t4_0 t5_0 = (F_DR_shift x2 x3 x4 t0_0 t0_1 t0_2 t0_3 t0_4 t0_5 t0_6 t0_7 t0_8 t0_9 t0_10 t1_0 t2_0 t3_0 t4_0 t5_0) from (by have c214x := c214; rw [e38] at c214x; rw [F_DR_shift.eq_1, if_neg c214x])), (show True ∧ S_DR_shift_J15 x2 x3 x4 t0_0 t0_1 t0_2 t0_3 t0_4 t0_5 t0_6 t0_7 t0_8 t0_9 t0_10 t1_0 t2_0 t3_0 t4_0 t5_0 from (by have h := hS; rw [S_DR_shift.eq_1] at h; have c214x := c214; rw [e38] at c214x; rw [if_neg c214x] at h; with_reducible exact h))⟩
      ·
        refine lv_iload_n hx hb d_15_46_8 rfl (lv_at hl 2 rfl) ?_
        refine q_goi V (q_runS (As := [.int x3]) (rest := [.ref (q 134)]) (d := 1) (mc := 0) (ms := 0) C0 V rfl LS_DR_113 (X_DR_no l D g q ws  x3 hI   _) rfl hl.1 rfl (Nat.le_of_ble_eq_true rfl) ⟨by decide, by decide⟩ ⟨Nat.le_of_ble_eq_true rfl, Nat.le_of_ble_eq_true rfl⟩ d_15_46_9) (fun a219 u217 H locs hp218 V => ?_)
        obtain ⟨rfl, b220, b221, hE222⟩ := hp218
        have e223 : a219 = (F_DR_no x3) := hE222
        clear b220
        clear b221
        refine lv_if_eq (tgt := 19) hx hb d_15_46_12 (by decide) (fun c224 => ?_) (fun c224 => ?_)
        ·
          refine lv_iconst (v := 0) hx hb d_15_46_19 (by decide) ?_
          exact J46 ((0 : Int32)) _ _ _ ws ⟨(show q_F (0 ≤ 0) from (show 0 ≤ 0 from by omega)), (show q_F (0 ≤ 1) from (show 0 ≤ 1 from by omega)), V, q_lw hl (q_lw1 0 rfl (q_lw1 1 rfl (q_lw1 2 rfl (q_lw1 3 rfl q_lw0)))), (show F_DR_shift_J20 x2 x3 x4 t0_0 t0_1 t0_2 t0_3 t0_4 t0_5 t0_6 t0_7 t0_8 t0_9 t0_10 t1_0 t2_0 t3_0 t4_0 t5_0 0 = (F_DR_shift x2 x3 x4 t0_0 t0_1 t0_2 t0_3 t0_4 t0_5 t0_6 t0_7 t0_8 t0_9 t0_10 t1_0 t2_0 t3_0 t4_0 t5_0) from (by have c214x := c214; rw [e38] at c214x; have c224x := c224; rw [e223] at c224x; rw [F_DR_shift.eq_1, if_pos c214x, if_pos c224x])), (show True ∧ S_DR_shift_J20 x2 x3 x4 t0_0 t0_1 t0_2 t0_3 t0_4 t0_5 t0_6 t0_7 t0_8 t0_9 t0_10 t1_0 t2_0 t3_0 t4_0 t5_0 0 from (by have h := hS; rw [S_DR_shift.eq_1] at h; have c214x := c214; rw [e38] at c214x; rw [if_pos c214x] at h; have c224x := c224; rw [e223] at c224x; rw [if_pos c224x] at h; with_reducible exact h))⟩
        ·
          exact J208 (()) _ _ _ ws ⟨V, q_lw hl (q_lw1 0 rfl (q_lw1 1 rfl (q_lw1 2 rfl (q_lw1 3 rfl q_lw0)))), (show F_DR_shift_J15 x2 x3 x4 t0_0 t0_1 t0_2 t0_3 t0_4 t0_5 t0_6 t0_7 t0_8 t0_9 t0_10 t1_0 t2_0 t3_0 t4_0 t5_0 = (F_DR_shift x2 x3 x4 t0_0 t0_1 t0_2 t0_3 t0_4 t0_5 t0_6 t0_7 t0_8 t0_9 t0_10 t1_0 t2_0 t3_0 t4_0 t5_0) from (by have c214x := c214; rw [e38] at c214x; have c224x := c224; rw [e223] at c224x; rw [F_DR_shift.eq_1, if_pos c214x, if_neg c224x])), (show True ∧ S_DR_shift_J15 x2 x3 x4 t0_0 t0_1 t0_2 t0_3 t0_4 t0_5 t0_6 t0_7 t0_8 t0_9 t0_10 t1_0 t2_0 t3_0 t4_0 t5_0 from (by have h := hS; rw [S_DR_shift.eq_1] at h; have c214x := c214; rw [e38] at c214x; rw [if_pos c214x] at h; have c224x := c224; rw [e223] at c224x; rw [if_neg c224x] at h; with_reducible exact h))⟩

theorem d_15_14_0 : decode prog_15_method_14_code 0 = .ok (.aload_n 0, 1) := by decide +kernel
theorem d_15_14_1 : decode prog_15_method_14_code 1 = .ok (.getfield 45, 3) := by decide +kernel
theorem d_15_14_4 : decode prog_15_method_14_code 4 = .ok (.istore_n 1, 1) := by decide +kernel
theorem d_15_14_5 : decode prog_15_method_14_code 5 = .ok (.iload_n 1, 1) := by decide +kernel
theorem d_15_14_6 : decode prog_15_method_14_code 6 = .ok (.iconst 1, 1) := by decide +kernel
theorem d_15_14_7 : decode prog_15_method_14_code 7 = .ok (.if_icmp .le 20, 3) := by decide +kernel
theorem d_15_14_27 : decode prog_15_method_14_code 27 = .ok (.iload_n 1, 1) := by decide +kernel
theorem d_15_14_28 : decode prog_15_method_14_code 28 = .ok (.ireturn, 1) := by decide +kernel
theorem d_15_14_10 : decode prog_15_method_14_code 10 = .ok (.aload_n 0, 1) := by decide +kernel
theorem d_15_14_11 : decode prog_15_method_14_code 11 = .ok (.getfield 26, 3) := by decide +kernel
theorem d_15_14_14 : decode prog_15_method_14_code 14 = .ok (.iload_n 1, 1) := by decide +kernel
theorem d_15_14_15 : decode prog_15_method_14_code 15 = .ok (.iconst 1, 1) := by decide +kernel
theorem d_15_14_16 : decode prog_15_method_14_code 16 = .ok (.isub, 1) := by decide +kernel
theorem d_15_14_17 : decode prog_15_method_14_code 17 = .ok (.iaload, 1) := by decide +kernel
theorem d_15_14_18 : decode prog_15_method_14_code 18 = .ok (.ifCond .ne 9, 3) := by decide +kernel
theorem d_15_14_21 : decode prog_15_method_14_code 21 = .ok (.iinc 1 (-1), 3) := by decide +kernel
theorem d_15_14_24 : decode prog_15_method_14_code 24 = .ok (.goto (-19), 3) := by decide +kernel
def y_DR_needed : MethodName := ⟨"NumberHouseModel$DecimalRows", "needed", "()I"⟩
def F_DR_needed_L5 (t0_0 : Int32) (t0_1 : Int32) (t0_2 : Int32) (t0_3 : Int64) (t0_4 : Int32) (t0_5 : Int32) (t0_6 : Int32) (t0_7 : Int32) (t0_8 : Int32) (t0_9 : Int32) (t0_10 : Int32) (t1_0 : (Nat → Int32)) : Nat → Int32 → Int32
  | 0, _ => default
  | fm + 1, lx21 => if lx21 ≤ (1 : Int32) then (lx21) else (if (t1_0 (lx21 - 1 : Int32).toNatClampNeg : Int32) = (0 : Int32) then (F_DR_needed_L5 t0_0 t0_1 t0_2 t0_3 t0_4 t0_5 t0_6 t0_7 t0_8 t0_9 t0_10 t1_0 fm (lx21 + (-1) : Int32)) else (lx21))
def F_DR_needed (t0_0 : Int32) (t0_1 : Int32) (t0_2 : Int32) (t0_3 : Int64) (t0_4 : Int32) (t0_5 : Int32) (t0_6 : Int32) (t0_7 : Int32) (t0_8 : Int32) (t0_9 : Int32) (t0_10 : Int32) (t1_0 : (Nat → Int32)) : Int32 := F_DR_needed_L5 t0_0 t0_1 t0_2 t0_3 t0_4 t0_5 t0_6 t0_7 t0_8 t0_9 t0_10 t1_0 ((t0_2.toInt - ((-1))).toNat + 1) t0_2
def S_DR_needed_L5 (t0_0 : Int32) (t0_1 : Int32) (t0_2 : Int32) (t0_3 : Int64) (t0_4 : Int32) (t0_5 : Int32) (t0_6 : Int32) (t0_7 : Int32) (t0_8 : Int32) (t0_9 : Int32) (t0_10 : Int32) (t1_0 : (Nat → Int32)) : Nat → Int32 → Prop
  | 0, _ => False
  | fm + 1, lx21 => if lx21 ≤ (1 : Int32) then (True) else (((lx21 - 1 : Int32).toInt ≤ 4399) ∧ (if (t1_0 (lx21 - 1 : Int32).toNatClampNeg : Int32) = (0 : Int32) then (S_DR_needed_L5 t0_0 t0_1 t0_2 t0_3 t0_4 t0_5 t0_6 t0_7 t0_8 t0_9 t0_10 t1_0 fm (lx21 + (-1) : Int32)) else (True)))
def S_DR_needed (t0_0 : Int32) (t0_1 : Int32) (t0_2 : Int32) (t0_3 : Int64) (t0_4 : Int32) (t0_5 : Int32) (t0_6 : Int32) (t0_7 : Int32) (t0_8 : Int32) (t0_9 : Int32) (t0_10 : Int32) (t1_0 : (Nat → Int32)) : Prop := S_DR_needed_L5 t0_0 t0_1 t0_2 t0_3 t0_4 t0_5 t0_6 t0_7 t0_8 t0_9 t0_10 t1_0 ((t0_2.toInt - ((-1))).toNat + 1) t0_2
set_option maxRecDepth 100000 in
set_option maxHeartbeats 4000000 in
theorem X_DR_needed (l : Launch) (D : va_G) (g : Nat → ClassId) (q : Nat → Nat) (ws : va_W) (hI : q_I (msh g q) q ws) (t0_0 : Int32) (t0_1 : Int32) (t0_2 : Int32) (t0_3 : Int64) (t0_4 : Int32) (t0_5 : Int32) (t0_6 : Int32) (t0_7 : Int32) (t0_8 : Int32) (t0_9 : Int32) (t0_10 : Int32) (hT0 : ws[134]? = (some (q 134, .inr (14, [.int t0_0, .ref (q 135), .int t0_1, .ref (q 136), .ref (q 137), .ref (q 138), .ref (q 139), .ref (q 140), .int t0_2, .long t0_3, .int t0_4, .int t0_5, .ref (q 141), .int t0_6, .ref (q 142), .int t0_7, .ref (q 143), .int t0_8, .ref (q 144), .int t0_9, .int t0_10])) : Option (Nat × va_E))) (t1_0 : (Nat → Int32)) (hT1 : ws[140]? = (some (q 140, .inl (g 0, (4400 : Int32).toNatClampNeg, .inl t1_0)) : Option (Nat × va_E))) (hS : True ∧ S_DR_needed t0_0 t0_1 t0_2 t0_3 t0_4 t0_5 t0_6 t0_7 t0_8 t0_9 t0_10 t1_0) : q_mI l y_DR_needed prog_15_method_14_code 2 (.int) 1 0 0 D g [.ref (q 134)] ws (fun r u => ws = u ∧ (r.toInt ≤ 4400) ∧ (r.toInt ≤ t0_2.toInt) ∧ r = (F_DR_needed t0_0 t0_1 t0_2 t0_3 t0_4 t0_5 t0_6 t0_7 t0_8 t0_9 t0_10 t1_0)) := by
  intro sz
  refine q_into (by decide) (Nat.le_of_ble_eq_true rfl) ?_
  intro p e s m below meth c ls hsz C0 V hl
  have hx := C0.1
  have hb := C0.2.1
  have hZ9 := (n_w134 hI hT0).2.2
  obtain ⟨-, btt0_9⟩ := hZ9
  clear btt0_9
  have hl : lv_has ls 2 [(0, .ref (q 134))] := hl
  refine lv_aload_n hx hb d_15_14_0 rfl (lv_at hl 0 rfl) ?_
  refine q_get (ci := 14) (j := 8) (v := .int t0_2) C0 V i_DR rfl rfl hT0 (by decide) w_2011 rfl d_15_14_1 ?_
  refine lv_istore_n (lv' := [(1, .int t0_2), (0, .ref (q 134))]) hx hb d_15_14_4 rfl hl (by decide) rfl (fun ls hl => ?_)
  refine q_loop (X := Int32) (fun z H locs ls _ => q_F (z.toInt ≤ t0_2.toInt) ∧ q_Wd D g (va_A ws sz) s ws H locs ∧ lv_has ls 2 [(1, .int z), (0, .ref (q 134))] ∧ (∃ n, (z.toInt - ((-1))).toNat < n ∧ F_DR_needed_L5 t0_0 t0_1 t0_2 t0_3 t0_4 t0_5 t0_6 t0_7 t0_8 t0_9 t0_10 t1_0 n z = (F_DR_needed t0_0 t0_1 t0_2 t0_3 t0_4 t0_5 t0_6 t0_7 t0_8 t0_9 t0_10 t1_0) ∧ True ∧ S_DR_needed_L5 t0_0 t0_1 t0_2 t0_3 t0_4 t0_5 t0_6 t0_7 t0_8 t0_9 t0_10 t1_0 n z)) (fun z => (z.toInt - ((-1))).toNat) ?_ ((t0_2 : Int32)) _ _ _ ws ⟨(show q_F (t0_2.toInt ≤ t0_2.toInt) from (show t0_2.toInt ≤ t0_2.toInt from by omega)), V, q_lw hl (q_lw1 0 rfl (q_lw1 1 rfl q_lw0)), ⟨((t0_2.toInt - ((-1))).toNat + 1), Nat.lt_succ_self _, (show F_DR_needed_L5 t0_0 t0_1 t0_2 t0_3 t0_4 t0_5 t0_6 t0_7 t0_8 t0_9 t0_10 t1_0 ((t0_2.toInt - ((-1))).toNat + 1) t0_2 = (F_DR_needed t0_0 t0_1 t0_2 t0_3 t0_4 t0_5 t0_6 t0_7 t0_8 t0_9 t0_10 t1_0) from (by rw [F_DR_needed.eq_1])), (show True ∧ S_DR_needed_L5 t0_0 t0_1 t0_2 t0_3 t0_4 t0_5 t0_6 t0_7 t0_8 t0_9 t0_10 t1_0 ((t0_2.toInt - ((-1))).toNat + 1) t0_2 from (by have h := hS; rw [S_DR_needed.eq_1] at h; with_reducible exact h))⟩⟩
  rintro lx21 H locs ls _ ⟨i22, V, hl, ⟨fu26, hf27, hR24, hS25⟩⟩ ih23
  obtain ⟨fm28, rfl⟩ : ∃ m, fu26 = m + 1 := ⟨fu26 - 1, by omega⟩
  replace i22 : q_F (lx21.toInt ≤ t0_2.toInt) := i22
  replace hl : lv_has ls 2 [(1, .int lx21), (0, .ref (q 134))] := hl
  refine lv_iload_n hx hb d_15_14_5 rfl (lv_at hl 0 rfl) ?_
  refine lv_iconst (v := 1) hx hb d_15_14_6 (by decide) ?_
  refine lv_icmp_le (tgt := 27) hx hb d_15_14_7 (by decide) (fun c29 => ?_) (fun c29 => ?_)
  ·
    have b30 : q_F (lx21.toInt ≤ 1) := (q_leI c29)
    refine lv_iload_n hx hb d_15_14_27 rfl (lv_at hl 0 rfl) ?_
    exact q_reti C0 V (⟨rfl, (show lx21.toInt ≤ 4400 from (by first | with_reducible exact q_fe b30 | (have t1 : lx21.toInt ≤ 1 := b30; omega))), (show lx21.toInt ≤ t0_2.toInt from (by first | with_reducible exact q_fe i22 | (have t1 : lx21.toInt ≤ t0_2.toInt := i22; omega))), (show lx21 = (F_DR_needed t0_0 t0_1 t0_2 t0_3 t0_4 t0_5 t0_6 t0_7 t0_8 t0_9 t0_10 t1_0) from Eq.trans (by rw [F_DR_needed_L5.eq_2, if_pos c29]) hR24)⟩) d_15_14_28
  ·
    have b31 : q_F (1 < lx21.toInt) := (q_nleI c29)
    refine lv_aload_n hx hb d_15_14_10 rfl (lv_at hl 1 rfl) ?_
    refine q_get (ci := 14) (j := 7) (v := .ref (q 140)) C0 V i_DR rfl rfl hT0 (by decide) w_2010 rfl d_15_14_11 ?_
    refine lv_iload_n hx hb d_15_14_14 rfl (lv_at hl 0 rfl) ?_
    refine lv_iconst (v := 1) hx hb d_15_14_15 (by decide) ?_
    refine lv_isub hx hb d_15_14_16 ?_
    obtain ⟨a32, e33⟩ := q_nm (lx21 - 1 : Int32)
    refine q_ti (v := a32) e33 ?_
    have b34 : q_F (a32.toInt = lx21.toInt - 1) := (by rw [← e33]; show (lx21 - 1 : Int32).toInt = lx21.toInt - 1; exact q_subI (x := lx21.toInt) (y := 1) rfl (by decide) (by have t1 : 1 < lx21.toInt := b31; have _ := q_lo32 (x := lx21); have _ := q_hi32 (x := lx21); omega) (by have t1 : 1 < lx21.toInt := b31; have _ := q_lo32 (x := lx21); have _ := q_hi32 (x := lx21); omega))
    have ob35 : q_F (a32.toInt ≤ 4399) := (by rw [← e33]; have h := hS25; rw [S_DR_needed_L5.eq_2] at h; rw [if_neg c29] at h; exact h.2.1)
    refine q_iald C0 V hT1 (q_ix (x := a32.toInt) rfl (by have t1 : 1 < lx21.toInt := b31; have t2 : a32.toInt = lx21.toInt - 1 := b34; omega) (by have t1 : 1 < lx21.toInt := b31; have t2 : a32.toInt = lx21.toInt - 1 := b34; have t3 : a32.toInt ≤ 4399 := ob35; have e9 : (((4400 : Int32).toNatClampNeg : Nat) : Int) = 4400 := (by decide); omega)) d_15_14_17 ?_
    obtain ⟨a36, e37⟩ := q_nm (t1_0 a32.toNatClampNeg : Int32)
    refine q_ti (v := a36) e37 ?_
    refine lv_if_ne (tgt := 27) hx hb d_15_14_18 (by decide) (fun c38 => ?_) (fun c38 => ?_)
    ·
      refine lv_iload_n hx hb d_15_14_27 rfl (lv_at hl 0 rfl) ?_
      exact q_reti C0 V (⟨rfl, (show lx21.toInt ≤ 4400 from (by have t1 : a32.toInt = lx21.toInt - 1 := b34; have t2 : a32.toInt ≤ 4399 := ob35; omega)), (show lx21.toInt ≤ t0_2.toInt from (by first | with_reducible exact q_fe i22 | (have t1 : lx21.toInt ≤ t0_2.toInt := i22; omega))), (show lx21 = (F_DR_needed t0_0 t0_1 t0_2 t0_3 t0_4 t0_5 t0_6 t0_7 t0_8 t0_9 t0_10 t1_0) from Eq.trans (by have c38x := c38; rw [← e37, ← e33] at c38x; rw [F_DR_needed_L5.eq_2, if_neg c29, if_neg c38x]) hR24)⟩) d_15_14_28
    ·
      obtain ⟨a41, e42⟩ := q_nm (lx21 + (-1) : Int32)
      have b43 : q_F (a41.toInt = lx21.toInt + (-1)) := (by rw [← e42]; exact q_addI (y := (-1)) rfl (by decide) (by have t1 : 1 < lx21.toInt := b31; have t2 : a32.toInt = lx21.toInt - 1 := b34; have _ := q_lo32 (x := a32); have _ := q_hi32 (x := a32); omega) (by have t1 : 1 < lx21.toInt := b31; have t2 : a32.toInt = lx21.toInt - 1 := b34; have _ := q_lo32 (x := a32); have _ := q_hi32 (x := a32); omega))
      refine lv_iinc (v := a41) (lv' := [(1, .int a41), (0, .ref (q 134))]) hx hb d_15_14_21 hl (k := 0) rfl (e42) (by decide) rfl (fun ls hl => ?_)
      refine lv_goto (tgt := 5) hx hb d_15_14_24 (by decide) ?_
      exact ih23 ((a41 : Int32)) _ _ _ ws (show (a41.toInt - ((-1))).toNat < (lx21.toInt - ((-1))).toNat from by have t1 : a41.toInt = lx21.toInt + (-1) := b43; have t2 : 1 < lx21.toInt := b31; omega) ⟨(show q_F (a41.toInt ≤ t0_2.toInt) from (show a41.toInt ≤ t0_2.toInt from by have t1 : lx21.toInt ≤ t0_2.toInt := i22; have t2 : a41.toInt = lx21.toInt + (-1) := b43; omega)), V, q_lw hl (q_lw1 0 rfl (q_lw1 1 rfl q_lw0)), ⟨fm28, Nat.lt_of_lt_of_le (show (a41.toInt - ((-1))).toNat < (lx21.toInt - ((-1))).toNat from by have t1 : a41.toInt = lx21.toInt + (-1) := b43; have t2 : 1 < lx21.toInt := b31; omega) (Nat.le_of_lt_succ hf27), (show F_DR_needed_L5 t0_0 t0_1 t0_2 t0_3 t0_4 t0_5 t0_6 t0_7 t0_8 t0_9 t0_10 t1_0 fm28 a41 = (F_DR_needed t0_0 t0_1 t0_2 t0_3 t0_4 t0_5 t0_6 t0_7 t0_8 t0_9 t0_10 t1_0) from Eq.trans (by have c38x := c38; rw [← e37, ← e33] at c38x; rw [← e42, F_DR_needed_L5.eq_2, if_neg c29, if_pos c38x]) hR24), (show True ∧ S_DR_needed_L5 t0_0 t0_1 t0_2 t0_3 t0_4 t0_5 t0_6 t0_7 t0_8 t0_9 t0_10 t1_0 fm28 a41 from (by rw [← e42]; have h := hS25; rw [S_DR_needed_L5.eq_2] at h; rw [if_neg c29] at h; replace h := q_s2 h; have c38x := c38; rw [← e37, ← e33] at c38x; rw [if_pos c38x] at h; with_reducible exact h))⟩⟩
theorem d_15_45_0 : decode prog_15_method_45_code 0 = .ok (.aload_n 0, 1) := by decide +kernel
theorem d_15_45_1 : decode prog_15_method_45_code 1 = .ok (.iload_n 1, 1) := by decide +kernel
theorem d_15_45_2 : decode prog_15_method_45_code 2 = .ok (.invokestatic 113, 3) := by decide +kernel
theorem d_15_45_20 : decode prog_15_method_45_code 20 = .ok (.putfield 41, 3) := by decide +kernel
theorem d_15_45_23 : decode prog_15_method_45_code 23 = .ok (.aload_n 0, 1) := by decide +kernel
theorem d_15_45_24 : decode prog_15_method_45_code 24 = .ok (.getfield 41, 3) := by decide +kernel
theorem d_15_45_27 : decode prog_15_method_45_code 27 = .ok (.ifCond .le 4, 3) := by decide +kernel
theorem d_15_45_31 : decode prog_15_method_45_code 31 = .ok (.aload_n 0, 1) := by decide +kernel
theorem d_15_45_32 : decode prog_15_method_45_code 32 = .ok (.iconst 2, 1) := by decide +kernel
theorem d_15_45_33 : decode prog_15_method_45_code 33 = .ok (.putfield 66, 3) := by decide +kernel
theorem d_15_45_36 : decode prog_15_method_45_code 36 = .ok (.aload_n 0, 1) := by decide +kernel
theorem d_15_45_37 : decode prog_15_method_45_code 37 = .ok (.iload_n 1, 1) := by decide +kernel
theorem d_15_45_38 : decode prog_15_method_45_code 38 = .ok (.invokevirtual 132, 3) := by decide +kernel
theorem d_15_45_41 : decode prog_15_method_45_code 41 = .ok (.aload_n 0, 1) := by decide +kernel
theorem d_15_45_42 : decode prog_15_method_45_code 42 = .ok (.getfield 26, 3) := by decide +kernel
theorem d_15_45_45 : decode prog_15_method_45_code 45 = .ok (.iconst 0, 1) := by decide +kernel
theorem d_15_45_46 : decode prog_15_method_45_code 46 = .ok (.iaload, 1) := by decide +kernel
theorem d_15_45_47 : decode prog_15_method_45_code 47 = .ok (.ifCond .ne 11, 3) := by decide +kernel
theorem d_15_45_58 : decode prog_15_method_45_code 58 = .ok (.aload_n 0, 1) := by decide +kernel
theorem d_15_45_59 : decode prog_15_method_45_code 59 = .ok (.invokevirtual 93, 3) := by decide +kernel
set_option maxRecDepth 100000 in
theorem w_2863 : (Cond.code ({ cls := "NumberHouseModel$DecimalRows", name := "needed", desc := "()I" } : MethodName) prog_15_method_14_code (2 : Nat) (some .int)) ∈ q_tbl := q_of12 223 rfl (by decide +kernel)
set_option maxRecDepth 100000 in
theorem w_2860 : (Cond.methodLink "NumberHouseModel$DecimalRows" (93 : Nat) ({ cls := "NumberHouseModel$DecimalRows", name := "needed", desc := "()I" } : MethodName)) ∈ q_tbl := q_of12 220 rfl (by decide +kernel)
set_option maxRecDepth 100000 in
theorem w_2862 : (Cond.instanceMethod ({ cls := "NumberHouseModel$DecimalRows", name := "needed", desc := "()I" } : MethodName)) ∈ q_tbl := q_of12 222 rfl (by decide +kernel)
theorem ws_123 : Cond.selects "NumberHouseModel$DecimalRows" (⟨"NumberHouseModel$DecimalRows", "needed", "()I"⟩ : MethodName) (⟨"NumberHouseModel$DecimalRows", "needed", "()I"⟩ : MethodName) ∈ q_tbl := q_ofs 123 (by decide +kernel) (by decide +kernel)
theorem LV_DR_93 : q_LV "NumberHouseModel$DecimalRows" 93 y_DR_needed prog_15_method_14_code 2 (some .int) 0 := ⟨w_2863, w_16, w_2860, w_2862, ws_123, ⟨by decide, by decide, by decide +kernel⟩⟩
theorem d_15_45_62 : decode prog_15_method_45_code 62 = .ok (.istore_n 3, 1) := by decide +kernel
theorem d_15_45_63 : decode prog_15_method_45_code 63 = .ok (.aload_n 0, 1) := by decide +kernel
theorem d_15_45_64 : decode prog_15_method_45_code 64 = .ok (.aload_n 0, 1) := by decide +kernel
theorem d_15_45_65 : decode prog_15_method_45_code 65 = .ok (.getfield 48, 3) := by decide +kernel
theorem d_15_45_68 : decode prog_15_method_45_code 68 = .ok (.aload_n 0, 1) := by decide +kernel
theorem d_15_45_69 : decode prog_15_method_45_code 69 = .ok (.getfield 45, 3) := by decide +kernel
theorem d_15_45_72 : decode prog_15_method_45_code 72 = .ok (.iload_n 3, 1) := by decide +kernel
theorem d_15_45_73 : decode prog_15_method_45_code 73 = .ok (.isub, 1) := by decide +kernel
theorem d_15_45_74 : decode prog_15_method_45_code 74 = .ok (.i2l, 1) := by decide +kernel
theorem d_15_45_75 : decode prog_15_method_45_code 75 = .ok (.lsub, 1) := by decide +kernel
theorem d_15_45_76 : decode prog_15_method_45_code 76 = .ok (.putfield 48, 3) := by decide +kernel
theorem d_15_45_79 : decode prog_15_method_45_code 79 = .ok (.aload_n 0, 1) := by decide +kernel
theorem d_15_45_80 : decode prog_15_method_45_code 80 = .ok (.iload_n 3, 1) := by decide +kernel
theorem d_15_45_81 : decode prog_15_method_45_code 81 = .ok (.putfield 45, 3) := by decide +kernel
theorem d_15_45_84 : decode prog_15_method_45_code 84 = .ok (.aload_n 0, 1) := by decide +kernel
theorem d_15_45_85 : decode prog_15_method_45_code 85 = .ok (.iload_n 2, 1) := by decide +kernel
theorem d_15_45_86 : decode prog_15_method_45_code 86 = .ok (.invokevirtual 89, 3) := by decide +kernel
theorem d_15_45_89 : decode prog_15_method_45_code 89 = .ok (.return_, 1) := by decide +kernel
theorem d_15_45_50 : decode prog_15_method_45_code 50 = .ok (.aload_n 0, 1) := by decide +kernel
theorem d_15_45_51 : decode prog_15_method_45_code 51 = .ok (.lconst 0, 1) := by decide +kernel
theorem d_15_45_52 : decode prog_15_method_45_code 52 = .ok (.putfield 48, 3) := by decide +kernel
theorem d_15_45_55 : decode prog_15_method_45_code 55 = .ok (.goto 29, 3) := by decide +kernel
theorem d_15_45_30 : decode prog_15_method_45_code 30 = .ok (.return_, 1) := by decide +kernel
theorem d_15_45_15 : decode prog_15_method_45_code 15 = .ok (.iconst 1, 1) := by decide +kernel
theorem d_15_45_16 : decode prog_15_method_45_code 16 = .ok (.goto 4, 3) := by decide +kernel
theorem d_15_45_5 : decode prog_15_method_45_code 5 = .ok (.ifCond .ne 10, 3) := by decide +kernel
theorem d_15_45_8 : decode prog_15_method_45_code 8 = .ok (.iload_n 2, 1) := by decide +kernel
theorem d_15_45_9 : decode prog_15_method_45_code 9 = .ok (.invokestatic 113, 3) := by decide +kernel
theorem d_15_45_12 : decode prog_15_method_45_code 12 = .ok (.ifCond .eq 7, 3) := by decide +kernel
theorem d_15_45_19 : decode prog_15_method_45_code 19 = .ok (.iconst 0, 1) := by decide +kernel
def y_DR_strip : MethodName := ⟨"NumberHouseModel$DecimalRows", "strip", "(II)V"⟩
def F_DR_strip_c86 (x2 : Int32) (x3 : Int32) (t0_0 : Int32) (t0_1 : Int32) (t0_2 : Int32) (t0_3 : Int64) (t0_4 : Int32) (t0_5 : Int32) (t0_6 : Int32) (t0_7 : Int32) (t0_8 : Int32) (t0_9 : Int32) (t0_10 : Int32) (t1_0 : (Nat → Int32)) (t2_0 : (Nat → Int32)) (t3_0 : (Nat → Int32)) (t4_0 : (Nat → Int32)) (t5_0 : (Nat → Int32)) (lx39 : Int32) (p102 : (Int32 × Int32 × Int32 × Int64 × Int32 × Int32 × Int32 × Int32 × Int32 × Int32 × Int32 × (Nat → Int32))) (a128 : Int32) (p194 : (Int32 × Int32 × Int32 × Int64 × Int32 × Int32 × Int32 × Int32 × Int32 × Int32 × Int32 × (Nat → Int32) × (Nat → Int32) × (Nat → Int32) × (Nat → Int32) × (Nat → Int32))) : Int32 × Int32 × Int32 × Int64 × Int32 × Int32 × Int32 × Int32 × Int32 × Int32 × Int32 × (Nat → Int32) × (Nat → Int32) × (Nat → Int32) × (Nat → Int32) × (Nat → Int32) := ((p194.1 : Int32), (p194.2.1 : Int32), (p194.2.2.1 : Int32), (p194.2.2.2.1 : Int64), (p194.2.2.2.2.1 : Int32), (p194.2.2.2.2.2.1 : Int32), (p194.2.2.2.2.2.2.1 : Int32), (p194.2.2.2.2.2.2.2.1 : Int32), (p194.2.2.2.2.2.2.2.2.1 : Int32), (p194.2.2.2.2.2.2.2.2.2.1 : Int32), (p194.2.2.2.2.2.2.2.2.2.2.1 : Int32), (p194.2.2.2.2.2.2.2.2.2.2.2.1 : (Nat → Int32)), (p194.2.2.2.2.2.2.2.2.2.2.2.2.1 : (Nat → Int32)), (p194.2.2.2.2.2.2.2.2.2.2.2.2.2.1 : (Nat → Int32)), (p194.2.2.2.2.2.2.2.2.2.2.2.2.2.2.1 : (Nat → Int32)), (p194.2.2.2.2.2.2.2.2.2.2.2.2.2.2.2 : (Nat → Int32)))
def F_DR_strip_c86_4 (x2 : Int32) (x3 : Int32) (t0_0 : Int32) (t0_1 : Int32) (t0_2 : Int32) (t0_3 : Int64) (t0_4 : Int32) (t0_5 : Int32) (t0_6 : Int32) (t0_7 : Int32) (t0_8 : Int32) (t0_9 : Int32) (t0_10 : Int32) (t1_0 : (Nat → Int32)) (t2_0 : (Nat → Int32)) (t3_0 : (Nat → Int32)) (t4_0 : (Nat → Int32)) (t5_0 : (Nat → Int32)) (lx39 : Int32) (p102 : (Int32 × Int32 × Int32 × Int64 × Int32 × Int32 × Int32 × Int32 × Int32 × Int32 × Int32 × (Nat → Int32))) (p269 : (Int32 × Int32 × Int32 × Int64 × Int32 × Int32 × Int32 × Int32 × Int32 × Int32 × Int32 × (Nat → Int32) × (Nat → Int32) × (Nat → Int32) × (Nat → Int32) × (Nat → Int32))) : Int32 × Int32 × Int32 × Int64 × Int32 × Int32 × Int32 × Int32 × Int32 × Int32 × Int32 × (Nat → Int32) × (Nat → Int32) × (Nat → Int32) × (Nat → Int32) × (Nat → Int32) := ((p269.1 : Int32), (p269.2.1 : Int32), (p269.2.2.1 : Int32), (p269.2.2.2.1 : Int64), (p269.2.2.2.2.1 : Int32), (p269.2.2.2.2.2.1 : Int32), (p269.2.2.2.2.2.2.1 : Int32), (p269.2.2.2.2.2.2.2.1 : Int32), (p269.2.2.2.2.2.2.2.2.1 : Int32), (p269.2.2.2.2.2.2.2.2.2.1 : Int32), (p269.2.2.2.2.2.2.2.2.2.2.1 : Int32), (p269.2.2.2.2.2.2.2.2.2.2.2.1 : (Nat → Int32)), (p269.2.2.2.2.2.2.2.2.2.2.2.2.1 : (Nat → Int32)), (p269.2.2.2.2.2.2.2.2.2.2.2.2.2.1 : (Nat → Int32)), (p269.2.2.2.2.2.2.2.2.2.2.2.2.2.2.1 : (Nat → Int32)), (p269.2.2.2.2.2.2.2.2.2.2.2.2.2.2.2 : (Nat → Int32)))
def F_DR_strip_c38 (x2 : Int32) (x3 : Int32) (t0_0 : Int32) (t0_1 : Int32) (t0_2 : Int32) (t0_3 : Int64) (t0_4 : Int32) (t0_5 : Int32) (t0_6 : Int32) (t0_7 : Int32) (t0_8 : Int32) (t0_9 : Int32) (t0_10 : Int32) (t1_0 : (Nat → Int32)) (t2_0 : (Nat → Int32)) (t3_0 : (Nat → Int32)) (t4_0 : (Nat → Int32)) (t5_0 : (Nat → Int32)) (lx39 : Int32) (p102 : (Int32 × Int32 × Int32 × Int64 × Int32 × Int32 × Int32 × Int32 × Int32 × Int32 × Int32 × (Nat → Int32))) : Int32 × Int32 × Int32 × Int64 × Int32 × Int32 × Int32 × Int32 × Int32 × Int32 × Int32 × (Nat → Int32) × (Nat → Int32) × (Nat → Int32) × (Nat → Int32) × (Nat → Int32) := if ((p102.2.2.2.2.2.2.2.2.2.2.2 : (Nat → Int32)) (0 : Int32).toNatClampNeg : Int32) = (0 : Int32) then (F_DR_strip_c86_4 x2 x3 t0_0 t0_1 t0_2 t0_3 t0_4 t0_5 t0_6 t0_7 t0_8 t0_9 t0_10 t1_0 t2_0 t3_0 t4_0 t5_0 lx39 p102 ((F_DR_store x3 (p102.1 : Int32) (p102.2.1 : Int32) (p102.2.2.1 : Int32) (0 : Int64) (p102.2.2.2.2.1 : Int32) (p102.2.2.2.2.2.1 : Int32) (p102.2.2.2.2.2.2.1 : Int32) (p102.2.2.2.2.2.2.2.1 : Int32) (p102.2.2.2.2.2.2.2.2.1 : Int32) (p102.2.2.2.2.2.2.2.2.2.1 : Int32) (p102.2.2.2.2.2.2.2.2.2.2.1 : Int32) t1_0 t2_0 t3_0 t4_0 (p102.2.2.2.2.2.2.2.2.2.2.2 : (Nat → Int32))) : (Int32 × Int32 × Int32 × Int64 × Int32 × Int32 × Int32 × Int32 × Int32 × Int32 × Int32 × (Nat → Int32) × (Nat → Int32) × (Nat → Int32) × (Nat → Int32) × (Nat → Int32)))) else (F_DR_strip_c86 x2 x3 t0_0 t0_1 t0_2 t0_3 t0_4 t0_5 t0_6 t0_7 t0_8 t0_9 t0_10 t1_0 t2_0 t3_0 t4_0 t5_0 lx39 p102 ((F_DR_needed (p102.1 : Int32) (p102.2.1 : Int32) (p102.2.2.1 : Int32) (p102.2.2.2.1 : Int64) (p102.2.2.2.2.1 : Int32) (p102.2.2.2.2.2.1 : Int32) (p102.2.2.2.2.2.2.1 : Int32) (p102.2.2.2.2.2.2.2.1 : Int32) (p102.2.2.2.2.2.2.2.2.1 : Int32) (p102.2.2.2.2.2.2.2.2.2.1 : Int32) (p102.2.2.2.2.2.2.2.2.2.2.1 : Int32) (p102.2.2.2.2.2.2.2.2.2.2.2 : (Nat → Int32))) : Int32) ((F_DR_store x3 (p102.1 : Int32) (p102.2.1 : Int32) ((F_DR_needed (p102.1 : Int32) (p102.2.1 : Int32) (p102.2.2.1 : Int32) (p102.2.2.2.1 : Int64) (p102.2.2.2.2.1 : Int32) (p102.2.2.2.2.2.1 : Int32) (p102.2.2.2.2.2.2.1 : Int32) (p102.2.2.2.2.2.2.2.1 : Int32) (p102.2.2.2.2.2.2.2.2.1 : Int32) (p102.2.2.2.2.2.2.2.2.2.1 : Int32) (p102.2.2.2.2.2.2.2.2.2.2.1 : Int32) (p102.2.2.2.2.2.2.2.2.2.2.2 : (Nat → Int32))) : Int32) ((p102.2.2.2.1 : Int64) - (((p102.2.2.1 : Int32) - ((F_DR_needed (p102.1 : Int32) (p102.2.1 : Int32) (p102.2.2.1 : Int32) (p102.2.2.2.1 : Int64) (p102.2.2.2.2.1 : Int32) (p102.2.2.2.2.2.1 : Int32) (p102.2.2.2.2.2.2.1 : Int32) (p102.2.2.2.2.2.2.2.1 : Int32) (p102.2.2.2.2.2.2.2.2.1 : Int32) (p102.2.2.2.2.2.2.2.2.2.1 : Int32) (p102.2.2.2.2.2.2.2.2.2.2.1 : Int32) (p102.2.2.2.2.2.2.2.2.2.2.2 : (Nat → Int32))) : Int32) : Int32).toInt64 : Int64) : Int64) (p102.2.2.2.2.1 : Int32) (p102.2.2.2.2.2.1 : Int32) (p102.2.2.2.2.2.2.1 : Int32) (p102.2.2.2.2.2.2.2.1 : Int32) (p102.2.2.2.2.2.2.2.2.1 : Int32) (p102.2.2.2.2.2.2.2.2.2.1 : Int32) (p102.2.2.2.2.2.2.2.2.2.2.1 : Int32) t1_0 t2_0 t3_0 t4_0 (p102.2.2.2.2.2.2.2.2.2.2.2 : (Nat → Int32))) : (Int32 × Int32 × Int32 × Int64 × Int32 × Int32 × Int32 × Int32 × Int32 × Int32 × Int32 × (Nat → Int32) × (Nat → Int32) × (Nat → Int32) × (Nat → Int32) × (Nat → Int32))))
def F_DR_strip_J20 (x2 : Int32) (x3 : Int32) (t0_0 : Int32) (t0_1 : Int32) (t0_2 : Int32) (t0_3 : Int64) (t0_4 : Int32) (t0_5 : Int32) (t0_6 : Int32) (t0_7 : Int32) (t0_8 : Int32) (t0_9 : Int32) (t0_10 : Int32) (t1_0 : (Nat → Int32)) (t2_0 : (Nat → Int32)) (t3_0 : (Nat → Int32)) (t4_0 : (Nat → Int32)) (t5_0 : (Nat → Int32)) (lx39 : Int32) : Int32 × Int32 × Int32 × Int64 × Int32 × Int32 × Int32 × Int32 × Int32 × Int32 × Int32 × (Nat → Int32) × (Nat → Int32) × (Nat → Int32) × (Nat → Int32) × (Nat → Int32) := if lx39 ≤ (0 : Int32) then (F_DR_strip_c38 x2 x3 t0_0 t0_1 t0_2 t0_3 t0_4 t0_5 t0_6 t0_7 t0_8 t0_9 t0_10 t1_0 t2_0 t3_0 t4_0 t5_0 lx39 ((F_DR_load x2 lx39 t0_1 t0_2 t0_3 t0_4 t0_5 t0_6 t0_7 t0_8 t0_9 (2 : Int32) t1_0 t2_0 t3_0 t4_0 t5_0) : (Int32 × Int32 × Int32 × Int64 × Int32 × Int32 × Int32 × Int32 × Int32 × Int32 × Int32 × (Nat → Int32)))) else ((lx39, t0_1, t0_2, t0_3, t0_4, t0_5, t0_6, t0_7, t0_8, t0_9, t0_10, t1_0, t2_0, t3_0, t4_0, t5_0))
def F_DR_strip_J15 (x2 : Int32) (x3 : Int32) (t0_0 : Int32) (t0_1 : Int32) (t0_2 : Int32) (t0_3 : Int64) (t0_4 : Int32) (t0_5 : Int32) (t0_6 : Int32) (t0_7 : Int32) (t0_8 : Int32) (t0_9 : Int32) (t0_10 : Int32) (t1_0 : (Nat → Int32)) (t2_0 : (Nat → Int32)) (t3_0 : (Nat → Int32)) (t4_0 : (Nat → Int32)) (t5_0 : (Nat → Int32)) : Int32 × Int32 × Int32 × Int64 × Int32 × Int32 × Int32 × Int32 × Int32 × Int32 × Int32 × (Nat → Int32) × (Nat → Int32) × (Nat → Int32) × (Nat → Int32) × (Nat → Int32) := F_DR_strip_J20 x2 x3 t0_0 t0_1 t0_2 t0_3 t0_4 t0_5 t0_6 t0_7 t0_8 t0_9 t0_10 t1_0 t2_0 t3_0 t4_0 t5_0 1
def F_DR_strip (x2 : Int32) (x3 : Int32) (t0_0 : Int32) (t0_1 : Int32) (t0_2 : Int32) (t0_3 : Int64) (t0_4 : Int32) (t0_5 : Int32) (t0_6 : Int32) (t0_7 : Int32) (t0_8 : Int32) (t0_9 : Int32) (t0_10 : Int32) (t1_0 : (Nat → Int32)) (t2_0 : (Nat → Int32)) (t3_0 : (Nat → Int32)) (t4_0 : (Nat → Int32)) (t5_0 : (Nat → Int32)) : Int32 × Int32 × Int32 × Int64 × Int32 × Int32 × Int32 × Int32 × Int32 × Int32 × Int32 × (Nat → Int32) × (Nat → Int32) × (Nat → Int32) × (Nat → Int32) × (Nat → Int32) := if ((F_DR_no x2) : Int32) = (0 : Int32) then (if ((F_DR_no x3) : Int32) = (0 : Int32) then (F_DR_strip_J20 x2 x3 t0_0 t0_1 t0_2 t0_3 t0_4 t0_5 t0_6 t0_7 t0_8 t0_9 t0_10 t1_0 t2_0 t3_0 t4_0 t5_0 0) else (F_DR_strip_J15 x2 x3 t0_0 t0_1 t0_2 t0_3 t0_4 t0_5 t0_6 t0_7 t0_8 t0_9 t0_10 t1_0 t2_0 t3_0 t4_0 t5_0)) else (F_DR_strip_J15 x2 x3 t0_0 t0_1 t0_2 t0_3 t0_4 t0_5 t0_6 t0_7 t0_8 t0_9 t0_10 t1_0 t2_0 t3_0 t4_0 t5_0)
def S_DR_strip_c86 (x2 : Int32) (x3 : Int32) (t0_0 : Int32) (t0_1 : Int32) (t0_2 : Int32) (t0_3 : Int64) (t0_4 : Int32) (t0_5 : Int32) (t0_6 : Int32) (t0_7 : Int32) (t0_8 : Int32) (t0_9 : Int32) (t0_10 : Int32) (t1_0 : (Nat → Int32)) (t2_0 : (Nat → Int32)) (t3_0 : (Nat → Int32)) (t4_0 : (Nat → Int32)) (t5_0 : (Nat → Int32)) (lx39 : Int32) (p102 : (Int32 × Int32 × Int32 × Int64 × Int32 × Int32 × Int32 × Int32 × Int32 × Int32 × Int32 × (Nat → Int32))) (a128 : Int32) (p194 : (Int32 × Int32 × Int32 × Int64 × Int32 × Int32 × Int32 × Int32 × Int32 × Int32 × Int32 × (Nat → Int32) × (Nat → Int32) × (Nat → Int32) × (Nat → Int32) × (Nat → Int32))) : Prop := True
def S_DR_strip_c86_4 (x2 : Int32) (x3 : Int32) (t0_0 : Int32) (t0_1 : Int32) (t0_2 : Int32) (t0_3 : Int64) (t0_4 : Int32) (t0_5 : Int32) (t0_6 : Int32) (t0_7 : Int32) (t0_8 : Int32) (t0_9 : Int32) (t0_10 : Int32) (t1_0 : (Nat → Int32)) (t2_0 : (Nat → Int32)) (t3_0 : (Nat → Int32)) (t4_0 : (Nat → Int32)) (t5_0 : (Nat → Int32)) (lx39 : Int32) (p102 : (Int32 × Int32 × Int32 × Int64 × Int32 × Int32 × Int32 × Int32 × Int32 × Int32 × Int32 × (Nat → Int32))) (p269 : (Int32 × Int32 × Int32 × Int64 × Int32 × Int32 × Int32 × Int32 × Int32 × Int32 × Int32 × (Nat → Int32) × (Nat → Int32) × (Nat → Int32) × (Nat → Int32) × (Nat → Int32))) : Prop := True
def S_DR_strip_c38 (x2 : Int32) (x3 : Int32) (t0_0 : Int32) (t0_1 : Int32) (t0_2 : Int32) (t0_3 : Int64) (t0_4 : Int32) (t0_5 : Int32) (t0_6 : Int32) (t0_7 : Int32) (t0_8 : Int32) (t0_9 : Int32) (t0_10 : Int32) (t1_0 : (Nat → Int32)) (t2_0 : (Nat → Int32)) (t3_0 : (Nat → Int32)) (t4_0 : (Nat → Int32)) (t5_0 : (Nat → Int32)) (lx39 : Int32) (p102 : (Int32 × Int32 × Int32 × Int64 × Int32 × Int32 × Int32 × Int32 × Int32 × Int32 × Int32 × (Nat → Int32))) : Prop := if ((p102.2.2.2.2.2.2.2.2.2.2.2 : (Nat → Int32)) (0 : Int32).toNatClampNeg : Int32) = (0 : Int32) then ((True ∧ S_DR_store x3 (p102.1 : Int32) (p102.2.1 : Int32) (p102.2.2.1 : Int32) (0 : Int64) (p102.2.2.2.2.1 : Int32) (p102.2.2.2.2.2.1 : Int32) (p102.2.2.2.2.2.2.1 : Int32) (p102.2.2.2.2.2.2.2.1 : Int32) (p102.2.2.2.2.2.2.2.2.1 : Int32) (p102.2.2.2.2.2.2.2.2.2.1 : Int32) (p102.2.2.2.2.2.2.2.2.2.2.1 : Int32) t1_0 t2_0 t3_0 t4_0 (p102.2.2.2.2.2.2.2.2.2.2.2 : (Nat → Int32))) ∧ (S_DR_strip_c86_4 x2 x3 t0_0 t0_1 t0_2 t0_3 t0_4 t0_5 t0_6 t0_7 t0_8 t0_9 t0_10 t1_0 t2_0 t3_0 t4_0 t5_0 lx39 p102 ((F_DR_store x3 (p102.1 : Int32) (p102.2.1 : Int32) (p102.2.2.1 : Int32) (0 : Int64) (p102.2.2.2.2.1 : Int32) (p102.2.2.2.2.2.1 : Int32) (p102.2.2.2.2.2.2.1 : Int32) (p102.2.2.2.2.2.2.2.1 : Int32) (p102.2.2.2.2.2.2.2.2.1 : Int32) (p102.2.2.2.2.2.2.2.2.2.1 : Int32) (p102.2.2.2.2.2.2.2.2.2.2.1 : Int32) t1_0 t2_0 t3_0 t4_0 (p102.2.2.2.2.2.2.2.2.2.2.2 : (Nat → Int32))) : (Int32 × Int32 × Int32 × Int64 × Int32 × Int32 × Int32 × Int32 × Int32 × Int32 × Int32 × (Nat → Int32) × (Nat → Int32) × (Nat → Int32) × (Nat → Int32) × (Nat → Int32))))) else ((True ∧ S_DR_needed (p102.1 : Int32) (p102.2.1 : Int32) (p102.2.2.1 : Int32) (p102.2.2.2.1 : Int64) (p102.2.2.2.2.1 : Int32) (p102.2.2.2.2.2.1 : Int32) (p102.2.2.2.2.2.2.1 : Int32) (p102.2.2.2.2.2.2.2.1 : Int32) (p102.2.2.2.2.2.2.2.2.1 : Int32) (p102.2.2.2.2.2.2.2.2.2.1 : Int32) (p102.2.2.2.2.2.2.2.2.2.2.1 : Int32) (p102.2.2.2.2.2.2.2.2.2.2.2 : (Nat → Int32))) ∧ ((True ∧ S_DR_store x3 (p102.1 : Int32) (p102.2.1 : Int32) ((F_DR_needed (p102.1 : Int32) (p102.2.1 : Int32) (p102.2.2.1 : Int32) (p102.2.2.2.1 : Int64) (p102.2.2.2.2.1 : Int32) (p102.2.2.2.2.2.1 : Int32) (p102.2.2.2.2.2.2.1 : Int32) (p102.2.2.2.2.2.2.2.1 : Int32) (p102.2.2.2.2.2.2.2.2.1 : Int32) (p102.2.2.2.2.2.2.2.2.2.1 : Int32) (p102.2.2.2.2.2.2.2.2.2.2.1 : Int32) (p102.2.2.2.2.2.2.2.2.2.2.2 : (Nat → Int32))) : Int32) ((p102.2.2.2.1 : Int64) - (((p102.2.2.1 : Int32) - ((F_DR_needed (p102.1 : Int32) (p102.2.1 : Int32) (p102.2.2.1 : Int32) (p102.2.2.2.1 : Int64) (p102.2.2.2.2.1 : Int32) (p102.2.2.2.2.2.1 : Int32) (p102.2.2.2.2.2.2.1 : Int32) (p102.2.2.2.2.2.2.2.1 : Int32) (p102.2.2.2.2.2.2.2.2.1 : Int32) (p102.2.2.2.2.2.2.2.2.2.1 : Int32) (p102.2.2.2.2.2.2.2.2.2.2.1 : Int32) (p102.2.2.2.2.2.2.2.2.2.2.2 : (Nat → Int32))) : Int32) : Int32).toInt64 : Int64) : Int64) (p102.2.2.2.2.1 : Int32) (p102.2.2.2.2.2.1 : Int32) (p102.2.2.2.2.2.2.1 : Int32) (p102.2.2.2.2.2.2.2.1 : Int32) (p102.2.2.2.2.2.2.2.2.1 : Int32) (p102.2.2.2.2.2.2.2.2.2.1 : Int32) (p102.2.2.2.2.2.2.2.2.2.2.1 : Int32) t1_0 t2_0 t3_0 t4_0 (p102.2.2.2.2.2.2.2.2.2.2.2 : (Nat → Int32))) ∧ (S_DR_strip_c86 x2 x3 t0_0 t0_1 t0_2 t0_3 t0_4 t0_5 t0_6 t0_7 t0_8 t0_9 t0_10 t1_0 t2_0 t3_0 t4_0 t5_0 lx39 p102 ((F_DR_needed (p102.1 : Int32) (p102.2.1 : Int32) (p102.2.2.1 : Int32) (p102.2.2.2.1 : Int64) (p102.2.2.2.2.1 : Int32) (p102.2.2.2.2.2.1 : Int32) (p102.2.2.2.2.2.2.1 : Int32) (p102.2.2.2.2.2.2.2.1 : Int32) (p102.2.2.2.2.2.2.2.2.1 : Int32) (p102.2.2.2.2.2.2.2.2.2.1 : Int32) (p102.2.2.2.2.2.2.2.2.2.2.1 : Int32) (p102.2.2.2.2.2.2.2.2.2.2.2 : (Nat → Int32))) : Int32) ((F_DR_store x3 (p102.1 : Int32) (p102.2.1 : Int32) ((F_DR_needed (p102.1 : Int32) (p102.2.1 : Int32) (p102.2.2.1 : Int32) (p102.2.2.2.1 : Int64) (p102.2.2.2.2.1 : Int32) (p102.2.2.2.2.2.1 : Int32) (p102.2.2.2.2.2.2.1 : Int32) (p102.2.2.2.2.2.2.2.1 : Int32) (p102.2.2.2.2.2.2.2.2.1 : Int32) (p102.2.2.2.2.2.2.2.2.2.1 : Int32) (p102.2.2.2.2.2.2.2.2.2.2.1 : Int32) (p102.2.2.2.2.2.2.2.2.2.2.2 : (Nat → Int32))) : Int32) ((p102.2.2.2.1 : Int64) - (((p102.2.2.1 : Int32) - ((F_DR_needed (p102.1 : Int32) (p102.2.1 : Int32) (p102.2.2.1 : Int32) (p102.2.2.2.1 : Int64) (p102.2.2.2.2.1 : Int32) (p102.2.2.2.2.2.1 : Int32) (p102.2.2.2.2.2.2.1 : Int32) (p102.2.2.2.2.2.2.2.1 : Int32) (p102.2.2.2.2.2.2.2.2.1 : Int32) (p102.2.2.2.2.2.2.2.2.2.1 : Int32) (p102.2.2.2.2.2.2.2.2.2.2.1 : Int32) (p102.2.2.2.2.2.2.2.2.2.2.2 : (Nat → Int32))) : Int32) : Int32).toInt64 : Int64) : Int64) (p102.2.2.2.2.1 : Int32) (p102.2.2.2.2.2.1 : Int32) (p102.2.2.2.2.2.2.1 : Int32) (p102.2.2.2.2.2.2.2.1 : Int32) (p102.2.2.2.2.2.2.2.2.1 : Int32) (p102.2.2.2.2.2.2.2.2.2.1 : Int32) (p102.2.2.2.2.2.2.2.2.2.2.1 : Int32) t1_0 t2_0 t3_0 t4_0 (p102.2.2.2.2.2.2.2.2.2.2.2 : (Nat → Int32))) : (Int32 × Int32 × Int32 × Int64 × Int32 × Int32 × Int32 × Int32 × Int32 × Int32 × Int32 × (Nat → Int32) × (Nat → Int32) × (Nat → Int32) × (Nat → Int32) × (Nat → Int32))))))
def S_DR_strip_J20 (x2 : Int32) (x3 : Int32) (t0_0 : Int32) (t0_1 : Int32) (t0_2 : Int32) (t0_3 : Int64) (t0_4 : Int32) (t0_5 : Int32) (t0_6 : Int32) (t0_7 : Int32) (t0_8 : Int32) (t0_9 : Int32) (t0_10 : Int32) (t1_0 : (Nat → Int32)) (t2_0 : (Nat → Int32)) (t3_0 : (Nat → Int32)) (t4_0 : (Nat → Int32)) (t5_0 : (Nat → Int32)) (lx39 : Int32) : Prop := if lx39 ≤ (0 : Int32) then ((True ∧ S_DR_load x2 lx39 t0_1 t0_2 t0_3 t0_4 t0_5 t0_6 t0_7 t0_8 t0_9 (2 : Int32) t1_0 t2_0 t3_0 t4_0 t5_0) ∧ (S_DR_strip_c38 x2 x3 t0_0 t0_1 t0_2 t0_3 t0_4 t0_5 t0_6 t0_7 t0_8 t0_9 t0_10 t1_0 t2_0 t3_0 t4_0 t5_0 lx39 ((F_DR_load x2 lx39 t0_1 t0_2 t0_3 t0_4 t0_5 t0_6 t0_7 t0_8 t0_9 (2 : Int32) t1_0 t2_0 t3_0 t4_0 t5_0) : (Int32 × Int32 × Int32 × Int64 × Int32 × Int32 × Int32 × Int32 × Int32 × Int32 × Int32 × (Nat → Int32))))) else (True)
def S_DR_strip_J15 (x2 : Int32) (x3 : Int32) (t0_0 : Int32) (t0_1 : Int32) (t0_2 : Int32) (t0_3 : Int64) (t0_4 : Int32) (t0_5 : Int32) (t0_6 : Int32) (t0_7 : Int32) (t0_8 : Int32) (t0_9 : Int32) (t0_10 : Int32) (t1_0 : (Nat → Int32)) (t2_0 : (Nat → Int32)) (t3_0 : (Nat → Int32)) (t4_0 : (Nat → Int32)) (t5_0 : (Nat → Int32)) : Prop := S_DR_strip_J20 x2 x3 t0_0 t0_1 t0_2 t0_3 t0_4 t0_5 t0_6 t0_7 t0_8 t0_9 t0_10 t1_0 t2_0 t3_0 t4_0 t5_0 1
def S_DR_strip (x2 : Int32) (x3 : Int32) (t0_0 : Int32) (t0_1 : Int32) (t0_2 : Int32) (t0_3 : Int64) (t0_4 : Int32) (t0_5 : Int32) (t0_6 : Int32) (t0_7 : Int32) (t0_8 : Int32) (t0_9 : Int32) (t0_10 : Int32) (t1_0 : (Nat → Int32)) (t2_0 : (Nat → Int32)) (t3_0 : (Nat → Int32)) (t4_0 : (Nat → Int32)) (t5_0 : (Nat → Int32)) : Prop := if ((F_DR_no x2) : Int32) = (0 : Int32) then (if ((F_DR_no x3) : Int32) = (0 : Int32) then (S_DR_strip_J20 x2 x3 t0_0 t0_1 t0_2 t0_3 t0_4 t0_5 t0_6 t0_7 t0_8 t0_9 t0_10 t1_0 t2_0 t3_0 t4_0 t5_0 0) else (S_DR_strip_J15 x2 x3 t0_0 t0_1 t0_2 t0_3 t0_4 t0_5 t0_6 t0_7 t0_8 t0_9 t0_10 t1_0 t2_0 t3_0 t4_0 t5_0)) else (S_DR_strip_J15 x2 x3 t0_0 t0_1 t0_2 t0_3 t0_4 t0_5 t0_6 t0_7 t0_8 t0_9 t0_10 t1_0 t2_0 t3_0 t4_0 t5_0)
set_option maxRecDepth 100000 in
set_option maxHeartbeats 4000000 in
theorem X_DR_strip (l : Launch) (D : va_G) (g : Nat → ClassId) (q : Nat → Nat) (ws : va_W) (x2 : Int32) (x3 : Int32) (hI : q_I (msh g q) q ws) (t0_0 : Int32) (t0_1 : Int32) (t0_2 : Int32) (t0_3 : Int64) (t0_4 : Int32) (t0_5 : Int32) (t0_6 : Int32) (t0_7 : Int32) (t0_8 : Int32) (t0_9 : Int32) (t0_10 : Int32) (hT0 : ws[134]? = (some (q 134, .inr (14, [.int t0_0, .ref (q 135), .int t0_1, .ref (q 136), .ref (q 137), .ref (q 138), .ref (q 139), .ref (q 140), .int t0_2, .long t0_3, .int t0_4, .int t0_5, .ref (q 141), .int t0_6, .ref (q 142), .int t0_7, .ref (q 143), .int t0_8, .ref (q 144), .int t0_9, .int t0_10])) : Option (Nat × va_E))) (t1_0 : (Nat → Int32)) (hT1 : ws[136]? = (some (q 136, .inl (g 0, (10000 : Int32).toNatClampNeg, .inl t1_0)) : Option (Nat × va_E))) (t2_0 : (Nat → Int32)) (hT2 : ws[137]? = (some (q 137, .inl (g 0, (10 : Int32).toNatClampNeg, .inl t2_0)) : Option (Nat × va_E))) (t3_0 : (Nat → Int32)) (hT3 : ws[138]? = (some (q 138, .inl (g 3, 10, .inl t3_0)) : Option (Nat × va_E))) (t4_0 : (Nat → Int32)) (hT4 : ws[139]? = (some (q 139, .inl (g 0, (10 : Int32).toNatClampNeg, .inl t4_0)) : Option (Nat × va_E))) (t5_0 : (Nat → Int32)) (hT5 : ws[140]? = (some (q 140, .inl (g 0, (4400 : Int32).toNatClampNeg, .inl t5_0)) : Option (Nat × va_E))) (hS : True ∧ S_DR_strip x2 x3 t0_0 t0_1 t0_2 t0_3 t0_4 t0_5 t0_6 t0_7 t0_8 t0_9 t0_10 t1_0 t2_0 t3_0 t4_0 t5_0) : q_mV l y_DR_strip prog_15_method_45_code 4 3 0 0 D g [.ref (q 134), .int x2, .int x3] ws (fun u => q_I (msh g q) q u ∧ q_un ws u [134, 136, 137, 138, 139, 140] ∧ ∃ (u0_0 : Int32) (u0_1 : Int32) (u0_2 : Int32) (u0_3 : Int64) (u0_4 : Int32) (u0_5 : Int32) (u0_6 : Int32) (u0_7 : Int32) (u0_8 : Int32) (u0_9 : Int32) (u0_10 : Int32) (u1_0 : (Nat → Int32)) (u2_0 : (Nat → Int32)) (u3_0 : (Nat → Int32)) (u4_0 : (Nat → Int32)) (u5_0 : (Nat → Int32)), u[134]? = (some (q 134, .inr (14, [.int u0_0, .ref (q 135), .int u0_1, .ref (q 136), .ref (q 137), .ref (q 138), .ref (q 139), .ref (q 140), .int u0_2, .long u0_3, .int u0_4, .int u0_5, .ref (q 141), .int u0_6, .ref (q 142), .int u0_7, .ref (q 143), .int u0_8, .ref (q 144), .int u0_9, .int u0_10])) : Option (Nat × va_E)) ∧ u[136]? = (some (q 136, .inl (g 0, (10000 : Int32).toNatClampNeg, .inl u1_0)) : Option (Nat × va_E)) ∧ u[137]? = (some (q 137, .inl (g 0, (10 : Int32).toNatClampNeg, .inl u2_0)) : Option (Nat × va_E)) ∧ u[138]? = (some (q 138, .inl (g 3, 10, .inl u3_0)) : Option (Nat × va_E)) ∧ u[139]? = (some (q 139, .inl (g 0, (10 : Int32).toNatClampNeg, .inl u4_0)) : Option (Nat × va_E)) ∧ u[140]? = (some (q 140, .inl (g 0, (4400 : Int32).toNatClampNeg, .inl u5_0)) : Option (Nat × va_E)) ∧ (0 ≤ u0_4.toInt) ∧ (0 ≤ u0_5.toInt) ∧ (u0_5.toInt ≤ 1) ∧ (t0_1.toInt ≤ u0_1.toInt) ∧ (u0_1.toInt ≤ t0_1.toInt) ∧ (u0_4.toInt ≤ t0_4.toInt) ∧ (t0_6.toInt ≤ u0_6.toInt) ∧ (u0_6.toInt ≤ t0_6.toInt) ∧ (t0_7.toInt ≤ u0_7.toInt) ∧ (u0_7.toInt ≤ t0_7.toInt) ∧ (t0_8.toInt ≤ u0_8.toInt) ∧ (u0_8.toInt ≤ t0_8.toInt) ∧ (t0_9.toInt ≤ u0_9.toInt) ∧ (u0_9.toInt ≤ t0_9.toInt) ∧ (u0_0, u0_1, u0_2, u0_3, u0_4, u0_5, u0_6, u0_7, u0_8, u0_9, u0_10, u1_0, u2_0, u3_0, u4_0, u5_0) = (F_DR_strip x2 x3 t0_0 t0_1 t0_2 t0_3 t0_4 t0_5 t0_6 t0_7 t0_8 t0_9 t0_10 t1_0 t2_0 t3_0 t4_0 t5_0)) := by
  intro sz
  refine q_into (by decide) (Nat.le_of_ble_eq_true rfl) ?_
  intro p e s m below meth c ls hsz C0 V hl
  have hx := C0.1
  have hb := C0.2.1
  obtain ⟨btt0_1, hZ9⟩ := n_w134 hI hT0
  obtain ⟨btt0_4, hZ9⟩ := hZ9
  obtain ⟨btt0_5, btt0_9⟩ := hZ9
  replace btt0_1 : q_F (0 ≤ t0_1.toInt ∧ t0_1.toInt ≤ 4100) := btt0_1
  replace btt0_4 : q_F (0 ≤ t0_4.toInt ∧ t0_4.toInt ≤ 1) := btt0_4
  replace btt0_5 : q_F (0 ≤ t0_5.toInt ∧ t0_5.toInt ≤ 1) := btt0_5
  replace btt0_9 : q_F (0 ≤ t0_9.toInt ∧ t0_9.toInt ≤ 12200) := btt0_9
  have hF : q_un ws ws [134, 136, 137, 138, 139, 140] := q_u0
  have hl : lv_has ls 4 [(0, .ref (q 134)), (1, .int x2), (2, .int x3)] := hl
  refine lv_aload_n hx hb d_15_45_0 rfl (lv_at hl 0 rfl) ?_
  refine lv_iload_n hx hb d_15_45_1 rfl (lv_at hl 1 rfl) ?_
  refine q_goi V (q_runS (As := [.int x2]) (rest := [.ref (q 134)]) (d := 1) (mc := 0) (ms := 0) C0 V rfl LS_DR_113 (X_DR_no l D g q ws  x2 hI   _) rfl hl.1 rfl (Nat.le_of_ble_eq_true rfl) ⟨by decide, by decide⟩ ⟨Nat.le_of_ble_eq_true rfl, Nat.le_of_ble_eq_true rfl⟩ d_15_45_2) (fun a34 u32 H locs hp33 V => ?_)
  obtain ⟨rfl, b35, b36, hE37⟩ := hp33
  have e38 : a34 = (F_DR_no x2) := hE37
  clear b35
  clear b36
  refine q_join (X := Int32) (fun z H locs ls _ => q_F (0 ≤ z.toInt) ∧ q_F (z.toInt ≤ 1) ∧ q_Wd D g (va_A ws sz) s ws H locs ∧ lv_has ls 4 [(0, .ref (q 134)), (1, .int x2), (2, .int x3)] ∧ F_DR_strip_J20 x2 x3 t0_0 t0_1 t0_2 t0_3 t0_4 t0_5 t0_6 t0_7 t0_8 t0_9 t0_10 t1_0 t2_0 t3_0 t4_0 t5_0 z = (F_DR_strip x2 x3 t0_0 t0_1 t0_2 t0_3 t0_4 t0_5 t0_6 t0_7 t0_8 t0_9 t0_10 t1_0 t2_0 t3_0 t4_0 t5_0) ∧ True ∧ S_DR_strip_J20 x2 x3 t0_0 t0_1 t0_2 t0_3 t0_4 t0_5 t0_6 t0_7 t0_8 t0_9 t0_10 t1_0 t2_0 t3_0 t4_0 t5_0 z) (fun z => [.int z, .ref (q 134)]) 20 0 0 ?_ ?_
  ·
    rintro lx39 H locs ls _ hZ9
    replace hZ9 := hZ9.2.2
    obtain ⟨V, hZ9⟩ := hZ9
    obtain ⟨hl, hZ9⟩ := hZ9
    obtain ⟨hR49, hS50⟩ := hZ9
    replace hl : lv_has ls 4 [(0, .ref (q 134)), (1, .int x2), (2, .int x3)] := hl
    refine q_put (ci := 14) (j := 0) (v := .int lx39) (ty := .int) C0 V i_DR o_DR n_DR rfl rfl hT0 (by decide) w_1996 rfl rfl rfl rfl (Nat.le_of_ble_eq_true rfl) d_15_45_20 (fun H locs w54 hu55 hT0 V => ?_)
    replace hT0 : w54[134]? = (some (q 134, .inr (14, [.int lx39, .ref (q 135), .int t0_1, .ref (q 136), .ref (q 137), .ref (q 138), .ref (q 139), .ref (q 140), .int t0_2, .long t0_3, .int t0_4, .int t0_5, .ref (q 141), .int t0_6, .ref (q 142), .int t0_7, .ref (q 143), .int t0_8, .ref (q 144), .int t0_9, .int t0_10])) : Option (Nat × va_E)) := hT0
    replace hI := n_p134 hI hu55 hT0 (by first | with_reducible exact q_fe btt0_1 | exact ⟨(by have t1 : 0 ≤ t0_1.toInt ∧ t0_1.toInt ≤ 4100 := btt0_1; omega), (by have t1 : 0 ≤ t0_1.toInt ∧ t0_1.toInt ≤ 4100 := btt0_1; omega)⟩) (by first | with_reducible exact q_fe btt0_4 | exact ⟨(by have t1 : 0 ≤ t0_4.toInt ∧ t0_4.toInt ≤ 1 := btt0_4; omega), (by have t1 : 0 ≤ t0_4.toInt ∧ t0_4.toInt ≤ 1 := btt0_4; omega)⟩) (by first | with_reducible exact q_fe btt0_5 | exact ⟨(by have t1 : 0 ≤ t0_5.toInt ∧ t0_5.toInt ≤ 1 := btt0_5; omega), (by have t1 : 0 ≤ t0_5.toInt ∧ t0_5.toInt ≤ 1 := btt0_5; omega)⟩) (by first | with_reducible exact q_fe btt0_9 | exact ⟨(by have t1 : 0 ≤ t0_9.toInt ∧ t0_9.toInt ≤ 12200 := btt0_9; omega), (by have t1 : 0 ≤ t0_9.toInt ∧ t0_9.toInt ≤ 12200 := btt0_9; omega)⟩)
    replace hT1 := (hu55 _ (by decide)).trans hT1
    replace hT2 := (hu55 _ (by decide)).trans hT2
    replace hT3 := (hu55 _ (by decide)).trans hT3
    replace hT4 := (hu55 _ (by decide)).trans hT4
    replace hT5 := (hu55 _ (by decide)).trans hT5
    replace hF := q_us hF hu55 (by simp)
    refine lv_aload_n hx hb d_15_45_23 rfl (lv_at hl 0 rfl) ?_
    refine q_get (ci := 14) (j := 0) (v := .int lx39) C0 V i_DR rfl rfl hT0 (by decide) w_1996 rfl d_15_45_24 ?_
    refine lv_if_le (tgt := 31) hx hb d_15_45_27 (by decide) (fun c56 => ?_) (fun c56 => ?_)
    ·
      refine lv_aload_n hx hb d_15_45_31 rfl (lv_at hl 0 rfl) ?_
      refine lv_iconst (v := 2) hx hb d_15_45_32 (by decide) ?_
      refine q_put (ci := 14) (j := 20) (v := .int 2) (ty := .int) C0 V i_DR o_DR n_DR rfl rfl hT0 (by decide) w_2024 rfl rfl rfl rfl (Nat.le_of_ble_eq_true rfl) d_15_45_33 (fun H locs w58 hu59 hT0 V => ?_)
      replace hT0 : w58[134]? = (some (q 134, .inr (14, [.int lx39, .ref (q 135), .int t0_1, .ref (q 136), .ref (q 137), .ref (q 138), .ref (q 139), .ref (q 140), .int t0_2, .long t0_3, .int t0_4, .int t0_5, .ref (q 141), .int t0_6, .ref (q 142), .int t0_7, .ref (q 143), .int t0_8, .ref (q 144), .int t0_9, .int 2])) : Option (Nat × va_E)) := hT0
      replace hI := n_p134 hI hu59 hT0 (by first | with_reducible exact q_fe btt0_1 | exact ⟨(by have t1 : 0 ≤ t0_1.toInt ∧ t0_1.toInt ≤ 4100 := btt0_1; omega), (by have t1 : 0 ≤ t0_1.toInt ∧ t0_1.toInt ≤ 4100 := btt0_1; omega)⟩) (by first | with_reducible exact q_fe btt0_4 | exact ⟨(by have t1 : 0 ≤ t0_4.toInt ∧ t0_4.toInt ≤ 1 := btt0_4; omega), (by have t1 : 0 ≤ t0_4.toInt ∧ t0_4.toInt ≤ 1 := btt0_4; omega)⟩) (by first | with_reducible exact q_fe btt0_5 | exact ⟨(by have t1 : 0 ≤ t0_5.toInt ∧ t0_5.toInt ≤ 1 := btt0_5; omega), (by have t1 : 0 ≤ t0_5.toInt ∧ t0_5.toInt ≤ 1 := btt0_5; omega)⟩) (by first | with_reducible exact q_fe btt0_9 | exact ⟨(by have t1 : 0 ≤ t0_9.toInt ∧ t0_9.toInt ≤ 12200 := btt0_9; omega), (by have t1 : 0 ≤ t0_9.toInt ∧ t0_9.toInt ≤ 12200 := btt0_9; omega)⟩)
      replace hT1 := (hu59 _ (by decide)).trans hT1
      replace hT2 := (hu59 _ (by decide)).trans hT2
      replace hT3 := (hu59 _ (by decide)).trans hT3
      replace hT4 := (hu59 _ (by decide)).trans hT4
      replace hT5 := (hu59 _ (by decide)).trans hT5
      replace hF := q_us hF hu59 (by simp)
      refine lv_aload_n hx hb d_15_45_36 rfl (lv_at hl 0 rfl) ?_
      refine lv_iload_n hx hb d_15_45_37 rfl (lv_at hl 1 rfl) ?_
      have ob60 : True ∧ S_DR_load x2 lx39 t0_1 t0_2 t0_3 t0_4 t0_5 t0_6 t0_7 t0_8 t0_9 (2 : Int32) t1_0 t2_0 t3_0 t4_0 t5_0 := (by have h := hS50; rw [S_DR_strip_J20.eq_1] at h; rw [if_pos c56] at h; with_reducible exact h.2.1)
      refine q_gov V (q_runV (As := [.int x2]) (rest := []) (d := 1) (mc := 0) (ms := 0) (ci := 14) C0 V rfl LV_DR_132 (X_DR_load l D g q w58  x2 hI lx39 t0_1 t0_2 t0_3 t0_4 t0_5 t0_6 t0_7 t0_8 t0_9 2 hT0 t1_0 hT1 t2_0 hT2 t3_0 hT3 t4_0 hT4 t5_0 hT5 ob60 _) rfl rfl hT0 rfl hl.1 rfl (Nat.le_of_ble_eq_true rfl) ⟨by decide, by decide⟩ ⟨Nat.le_of_ble_eq_true rfl, Nat.le_of_ble_eq_true rfl⟩ d_15_45_38) (fun u61 H locs hp62 V => ?_)
      obtain ⟨hI, hZ9⟩ := hp62
      obtain ⟨hu101, hZ9⟩ := hZ9
      obtain ⟨y64, hZ9⟩ := hZ9
      obtain ⟨y65, hZ9⟩ := hZ9
      obtain ⟨y66, hZ9⟩ := hZ9
      obtain ⟨y67, hZ9⟩ := hZ9
      obtain ⟨y68, hZ9⟩ := hZ9
      obtain ⟨y69, hZ9⟩ := hZ9
      obtain ⟨y70, hZ9⟩ := hZ9
      obtain ⟨y71, hZ9⟩ := hZ9
      obtain ⟨y72, hZ9⟩ := hZ9
      obtain ⟨y73, hZ9⟩ := hZ9
      obtain ⟨y74, hZ9⟩ := hZ9
      obtain ⟨f75, hZ9⟩ := hZ9
      obtain ⟨hO63, hZ9⟩ := hZ9
      obtain ⟨hA76, hZ9⟩ := hZ9
      replace hZ9 := hZ9.2.2
      obtain ⟨b79, hZ9⟩ := hZ9
      obtain ⟨b80, hZ9⟩ := hZ9
      replace hZ9 := hZ9.2.2
      obtain ⟨b83, hZ9⟩ := hZ9
      obtain ⟨b84, hZ9⟩ := hZ9
      replace hZ9 := hZ9.2.2
      obtain ⟨b87, hZ9⟩ := hZ9
      obtain ⟨b88, hZ9⟩ := hZ9
      obtain ⟨b89, hZ9⟩ := hZ9
      obtain ⟨b90, hZ9⟩ := hZ9
      obtain ⟨b91, hZ9⟩ := hZ9
      obtain ⟨b92, hZ9⟩ := hZ9
      obtain ⟨b93, hZ9⟩ := hZ9
      obtain ⟨b94, hZ9⟩ := hZ9
      replace hZ9 := hZ9.2.2.2
      obtain ⟨b98, hZ9⟩ := hZ9
      obtain ⟨b99, hE100⟩ := hZ9
      replace hO63 : u61[134]? = (some (q 134, .inr (14, [.int y64, .ref (q 135), .int y65, .ref (q 136), .ref (q 137), .ref (q 138), .ref (q 139), .ref (q 140), .int y66, .long y67, .int y68, .int y69, .ref (q 141), .int y70, .ref (q 142), .int y71, .ref (q 143), .int y72, .ref (q 144), .int y73, .int y74])) : Option (Nat × va_E)) := hO63
      replace hA76 : u61[140]? = (some (q 140, .inl (g 0, (4400 : Int32).toNatClampNeg, .inl f75)) : Option (Nat × va_E)) := hA76
      obtain ⟨p102, e103⟩ : ∃ z, z = (F_DR_load x2 lx39 t0_1 t0_2 t0_3 t0_4 t0_5 t0_6 t0_7 t0_8 t0_9 (2 : Int32) t1_0 t2_0 t3_0 t4_0 t5_0) := ⟨_, rfl⟩
      have e104 : y64 = p102.1 := congrArg (fun z => z.1) (hE100.trans e103.symm)
      have e105 : y65 = p102.2.1 := congrArg (fun z => z.2.1) (hE100.trans e103.symm)
      have e106 : y66 = p102.2.2.1 := congrArg (fun z => z.2.2.1) (hE100.trans e103.symm)
      have e107 : y67 = p102.2.2.2.1 := congrArg (fun z => z.2.2.2.1) (hE100.trans e103.symm)
      have e108 : y68 = p102.2.2.2.2.1 := congrArg (fun z => z.2.2.2.2.1) (hE100.trans e103.symm)
      have e109 : y69 = p102.2.2.2.2.2.1 := congrArg (fun z => z.2.2.2.2.2.1) (hE100.trans e103.symm)
      have e110 : y70 = p102.2.2.2.2.2.2.1 := congrArg (fun z => z.2.2.2.2.2.2.1) (hE100.trans e103.symm)
      have e111 : y71 = p102.2.2.2.2.2.2.2.1 := congrArg (fun z => z.2.2.2.2.2.2.2.1) (hE100.trans e103.symm)
      have e112 : y72 = p102.2.2.2.2.2.2.2.2.1 := congrArg (fun z => z.2.2.2.2.2.2.2.2.1) (hE100.trans e103.symm)
      have e113 : y73 = p102.2.2.2.2.2.2.2.2.2.1 := congrArg (fun z => z.2.2.2.2.2.2.2.2.2.1) (hE100.trans e103.symm)
      have e114 : y74 = p102.2.2.2.2.2.2.2.2.2.2.1 := congrArg (fun z => z.2.2.2.2.2.2.2.2.2.2.1) (hE100.trans e103.symm)
      have e115 : f75 = p102.2.2.2.2.2.2.2.2.2.2.2 := congrArg (fun z => z.2.2.2.2.2.2.2.2.2.2.2) (hE100.trans e103.symm)
      replace b79 : q_F (0 ≤ y68.toInt) := b79
      replace b80 : q_F (y68.toInt ≤ 0) := b80
      replace b83 : q_F (t0_1.toInt ≤ y65.toInt) := b83
      replace b84 : q_F (y65.toInt ≤ t0_1.toInt) := b84
      replace b87 : q_F (t0_6.toInt ≤ y70.toInt) := b87
      replace b88 : q_F (y70.toInt ≤ t0_6.toInt) := b88
      replace b89 : q_F (t0_7.toInt ≤ y71.toInt) := b89
      replace b90 : q_F (y71.toInt ≤ t0_7.toInt) := b90
      replace b91 : q_F (t0_8.toInt ≤ y72.toInt) := b91
      replace b92 : q_F (y72.toInt ≤ t0_8.toInt) := b92
      replace b93 : q_F (t0_9.toInt ≤ y73.toInt) := b93
      replace b94 : q_F (y73.toInt ≤ t0_9.toInt) := b94
      replace b98 : q_F (y69.toInt ≤ y68.toInt + 1) := b98
      replace b99 : q_F (y68.toInt ≤ y69.toInt) := b99
      replace hT1 := (hu101 _ (by decide)).trans hT1
      replace hT2 := (hu101 _ (by decide)).trans hT2
      replace hT3 := (hu101 _ (by decide)).trans hT3
      replace hT4 := (hu101 _ (by decide)).trans hT4
      replace hF := q_uc hF hu101 (by simp)
      have hR116 := (show F_DR_strip_c38 x2 x3 t0_0 t0_1 t0_2 t0_3 t0_4 t0_5 t0_6 t0_7 t0_8 t0_9 t0_10 t1_0 t2_0 t3_0 t4_0 t5_0 lx39 p102 = (F_DR_strip x2 x3 t0_0 t0_1 t0_2 t0_3 t0_4 t0_5 t0_6 t0_7 t0_8 t0_9 t0_10 t1_0 t2_0 t3_0 t4_0 t5_0) from Eq.trans (by rw [e103, F_DR_strip_J20.eq_1, if_pos c56]) hR49)
      have hS117 := (show True ∧ S_DR_strip_c38 x2 x3 t0_0 t0_1 t0_2 t0_3 t0_4 t0_5 t0_6 t0_7 t0_8 t0_9 t0_10 t1_0 t2_0 t3_0 t4_0 t5_0 lx39 p102 from (by rw [e103]; have h := hS50; rw [S_DR_strip_J20.eq_1] at h; rw [if_pos c56] at h; replace h := q_s2 h; with_reducible exact h))
      refine lv_aload_n hx hb d_15_45_41 rfl (lv_at hl 0 rfl) ?_
      refine q_get (ci := 14) (j := 7) (v := .ref (q 140)) C0 V i_DR rfl rfl hO63 (by decide) w_2010 rfl d_15_45_42 ?_
      refine lv_iconst (v := 0) hx hb d_15_45_45 (by decide) ?_
      refine q_iald C0 V hA76 (q_ix (x := 0) (by decide) (by omega) (by have e9 : (((4400 : Int32).toNatClampNeg : Nat) : Int) = 4400 := (by decide); omega)) d_15_45_46 ?_
      obtain ⟨a121, e122⟩ := q_nm (f75 (0 : Int32).toNatClampNeg : Int32)
      refine q_ti (v := a121) e122 ?_
      refine lv_if_ne (tgt := 58) hx hb d_15_45_47 (by decide) (fun c123 => ?_) (fun c123 => ?_)
      ·
        refine lv_aload_n hx hb d_15_45_58 rfl (lv_at hl 0 rfl) ?_
        have ob125 : True ∧ S_DR_needed y64 y65 y66 y67 y68 y69 y70 y71 y72 y73 y74 f75 := (by rw [e115, e114, e113, e112, e111, e110, e109, e108, e107, e106, e105, e104]; have h := hS117; rw [S_DR_strip_c38.eq_1] at h; have c123x := c123; rw [← e122, e115] at c123x; rw [if_neg c123x] at h; with_reducible exact h.2.1)
        refine q_goi V (q_runV (As := []) (rest := []) (d := 1) (mc := 0) (ms := 0) (ci := 14) C0 V rfl LV_DR_93 (X_DR_needed l D g q u61   hI y64 y65 y66 y67 y68 y69 y70 y71 y72 y73 y74 hO63 f75 hA76 ob125 _) rfl rfl hO63 rfl hl.1 rfl (Nat.le_of_ble_eq_true rfl) ⟨by decide, by decide⟩ ⟨Nat.le_of_ble_eq_true rfl, Nat.le_of_ble_eq_true rfl⟩ d_15_45_59) (fun a128 u126 H locs hp127 V => ?_)
        obtain ⟨rfl, b129, b130, hE131⟩ := hp127
        have e132 : a128 = (F_DR_needed y64 y65 y66 y67 y68 y69 y70 y71 y72 y73 y74 f75) := hE131
        clear b129
        clear b130
        refine lv_istore_n (lv' := [(3, .int a128), (0, .ref (q 134)), (1, .int x2), (2, .int x3)]) hx hb d_15_45_62 rfl hl (by decide) rfl (fun ls hl => ?_)
        refine lv_aload_n hx hb d_15_45_63 rfl (lv_at hl 1 rfl) ?_
        refine lv_aload_n hx hb d_15_45_64 rfl (lv_at hl 1 rfl) ?_
        refine q_get (ci := 14) (j := 9) (v := .long y67) C0 V i_DR rfl rfl hO63 (by decide) w_2012 rfl d_15_45_65 ?_
        refine lv_aload_n hx hb d_15_45_68 rfl (lv_at hl 1 rfl) ?_
        refine q_get (ci := 14) (j := 8) (v := .int y66) C0 V i_DR rfl rfl hO63 (by decide) w_2011 rfl d_15_45_69 ?_
        refine lv_iload_n hx hb d_15_45_72 rfl (lv_at hl 0 rfl) ?_
        refine lv_isub hx hb d_15_45_73 ?_
        obtain ⟨a133, e134⟩ := q_nm (y66 - a128 : Int32)
        refine q_ti (v := a133) e134 ?_
        refine lv_i2l hx hb d_15_45_74 rfl ?_
        obtain ⟨j135, e136⟩ := q_nm (a133.toInt64 : Int64)
        refine q_tl (v := j135) e136 ?_
        refine lv_lsub hx hb d_15_45_75 ?_
        obtain ⟨j138, e139⟩ := q_nm (y67 - j135 : Int64)
        refine q_tl (v := j138) e139 ?_
        refine q_put (ci := 14) (j := 9) (v := .long j138) (ty := .long) C0 V i_DR o_DR n_DR rfl rfl hO63 (by decide) w_2012 rfl rfl rfl rfl (Nat.le_of_ble_eq_true rfl) d_15_45_76 (fun H locs w141 hu142 hO63 V => ?_)
        replace hO63 : w141[134]? = (some (q 134, .inr (14, [.int y64, .ref (q 135), .int y65, .ref (q 136), .ref (q 137), .ref (q 138), .ref (q 139), .ref (q 140), .int y66, .long j138, .int y68, .int y69, .ref (q 141), .int y70, .ref (q 142), .int y71, .ref (q 143), .int y72, .ref (q 144), .int y73, .int y74])) : Option (Nat × va_E)) := hO63
        replace hI := n_p134 hI hu142 hO63 ⟨(by have t1 : 0 ≤ t0_1.toInt ∧ t0_1.toInt ≤ 4100 := btt0_1; have t2 : t0_1.toInt ≤ y65.toInt := b83; omega), (by have t1 : 0 ≤ t0_1.toInt ∧ t0_1.toInt ≤ 4100 := btt0_1; have t2 : y65.toInt ≤ t0_1.toInt := b84; omega)⟩ ⟨(by first | with_reducible exact q_fe b79 | (have t1 : 0 ≤ y68.toInt := b79; omega)), (by first | with_reducible exact q_fe b80 | (have t1 : y68.toInt ≤ 0 := b80; omega))⟩ ⟨(by have t1 : 0 ≤ y68.toInt := b79; have t2 : y68.toInt ≤ y69.toInt := b99; omega), (by have t1 : y68.toInt ≤ 0 := b80; have t2 : y69.toInt ≤ y68.toInt + 1 := b98; omega)⟩ ⟨(by have t1 : 0 ≤ t0_9.toInt ∧ t0_9.toInt ≤ 12200 := btt0_9; have t2 : t0_9.toInt ≤ y73.toInt := b93; omega), (by have t1 : 0 ≤ t0_9.toInt ∧ t0_9.toInt ≤ 12200 := btt0_9; have t2 : y73.toInt ≤ t0_9.toInt := b94; omega)⟩
        replace hT1 := (hu142 _ (by decide)).trans hT1
        replace hT2 := (hu142 _ (by decide)).trans hT2
        replace hT3 := (hu142 _ (by decide)).trans hT3
        replace hT4 := (hu142 _ (by decide)).trans hT4
        replace hA76 := (hu142 _ (by decide)).trans hA76
        replace hF := q_us hF hu142 (by simp)
        refine lv_aload_n hx hb d_15_45_79 rfl (lv_at hl 1 rfl) ?_
        refine lv_iload_n hx hb d_15_45_80 rfl (lv_at hl 0 rfl) ?_
        refine q_put (ci := 14) (j := 8) (v := .int a128) (ty := .int) C0 V i_DR o_DR n_DR rfl rfl hO63 (by decide) w_2011 rfl rfl rfl rfl (Nat.le_of_ble_eq_true rfl) d_15_45_81 (fun H locs w143 hu144 hO63 V => ?_)
        replace hO63 : w143[134]? = (some (q 134, .inr (14, [.int y64, .ref (q 135), .int y65, .ref (q 136), .ref (q 137), .ref (q 138), .ref (q 139), .ref (q 140), .int a128, .long j138, .int y68, .int y69, .ref (q 141), .int y70, .ref (q 142), .int y71, .ref (q 143), .int y72, .ref (q 144), .int y73, .int y74])) : Option (Nat × va_E)) := hO63
        replace hI := n_p134 hI hu144 hO63 ⟨(by have t1 : 0 ≤ t0_1.toInt ∧ t0_1.toInt ≤ 4100 := btt0_1; have t2 : t0_1.toInt ≤ y65.toInt := b83; omega), (by have t1 : 0 ≤ t0_1.toInt ∧ t0_1.toInt ≤ 4100 := btt0_1; have t2 : y65.toInt ≤ t0_1.toInt := b84; omega)⟩ ⟨(by first | with_reducible exact q_fe b79 | (have t1 : 0 ≤ y68.toInt := b79; omega)), (by first | with_reducible exact q_fe b80 | (have t1 : y68.toInt ≤ 0 := b80; omega))⟩ ⟨(by have t1 : 0 ≤ y68.toInt := b79; have t2 : y68.toInt ≤ y69.toInt := b99; omega), (by have t1 : y68.toInt ≤ 0 := b80; have t2 : y69.toInt ≤ y68.toInt + 1 := b98; omega)⟩ ⟨(by have t1 : 0 ≤ t0_9.toInt ∧ t0_9.toInt ≤ 12200 := btt0_9; have t2 : t0_9.toInt ≤ y73.toInt := b93; omega), (by have t1 : 0 ≤ t0_9.toInt ∧ t0_9.toInt ≤ 12200 := btt0_9; have t2 : y73.toInt ≤ t0_9.toInt := b94; omega)⟩
        replace hT1 := (hu144 _ (by decide)).trans hT1
        replace hT2 := (hu144 _ (by decide)).trans hT2
        replace hT3 := (hu144 _ (by decide)).trans hT3
        replace hT4 := (hu144 _ (by decide)).trans hT4
        replace hA76 := (hu144 _ (by decide)).trans hA76
        replace hF := q_us hF hu144 (by simp)
        refine lv_aload_n hx hb d_15_45_84 rfl (lv_at hl 1 rfl) ?_
        refine lv_iload_n hx hb d_15_45_85 rfl (lv_at hl 3 rfl) ?_
        have ob145 : True ∧ S_DR_store x3 y64 y65 a128 j138 y68 y69 y70 y71 y72 y73 y74 t1_0 t2_0 t3_0 t4_0 f75 := (by rw [← e139, ← e136, ← e134, e132, e115, e114, e113, e112, e111, e110, e109, e108, e107, e106, e105, e104]; have h := hS117; rw [S_DR_strip_c38.eq_1] at h; have c123x := c123; rw [← e122, e115] at c123x; rw [if_neg c123x] at h; replace h := q_s2 h; with_reducible exact h.2.1)
        refine q_gov V (q_runV (As := [.int x3]) (rest := []) (d := 2) (mc := 0) (ms := 0) (ci := 14) C0 V rfl LV_DR_89 (X_DR_store l D g q w143  x3 hI y64 y65 a128 j138 y68 y69 y70 y71 y72 y73 y74 hO63 t1_0 hT1 t2_0 hT2 t3_0 hT3 t4_0 hT4 f75 hA76 ob145 _) rfl rfl hO63 rfl hl.1 rfl (Nat.le_of_ble_eq_true rfl) ⟨by decide, by decide⟩ ⟨Nat.le_of_ble_eq_true rfl, Nat.le_of_ble_eq_true rfl⟩ d_15_45_86) (fun u146 H locs hp147 V => ?_)
        obtain ⟨hI, hZ9⟩ := hp147
        obtain ⟨hu193, hZ9⟩ := hZ9
        obtain ⟨y149, hZ9⟩ := hZ9
        obtain ⟨y150, hZ9⟩ := hZ9
        obtain ⟨y151, hZ9⟩ := hZ9
        obtain ⟨y152, hZ9⟩ := hZ9
        obtain ⟨y153, hZ9⟩ := hZ9
        obtain ⟨y154, hZ9⟩ := hZ9
        obtain ⟨y155, hZ9⟩ := hZ9
        obtain ⟨y156, hZ9⟩ := hZ9
        obtain ⟨y157, hZ9⟩ := hZ9
        obtain ⟨y158, hZ9⟩ := hZ9
        obtain ⟨y159, hZ9⟩ := hZ9
        obtain ⟨f160, hZ9⟩ := hZ9
        obtain ⟨f162, hZ9⟩ := hZ9
        obtain ⟨f164, hZ9⟩ := hZ9
        obtain ⟨f166, hZ9⟩ := hZ9
        obtain ⟨f168, hZ9⟩ := hZ9
        obtain ⟨hO148, hZ9⟩ := hZ9
        obtain ⟨hA161, hZ9⟩ := hZ9
        obtain ⟨hA163, hZ9⟩ := hZ9
        obtain ⟨hA165, hZ9⟩ := hZ9
        obtain ⟨hA167, hZ9⟩ := hZ9
        obtain ⟨hA169, hZ9⟩ := hZ9
        obtain ⟨b170, hZ9⟩ := hZ9
        obtain ⟨b171, hZ9⟩ := hZ9
        obtain ⟨b172, hZ9⟩ := hZ9
        replace hZ9 := hZ9.2.2.2.2
        obtain ⟨b177, hZ9⟩ := hZ9
        obtain ⟨b178, hZ9⟩ := hZ9
        replace hZ9 := hZ9.2
        obtain ⟨b180, hZ9⟩ := hZ9
        obtain ⟨b181, hZ9⟩ := hZ9
        obtain ⟨b182, hZ9⟩ := hZ9
        obtain ⟨b183, hZ9⟩ := hZ9
        obtain ⟨b184, hZ9⟩ := hZ9
        obtain ⟨b185, hZ9⟩ := hZ9
        obtain ⟨b186, hZ9⟩ := hZ9
        replace hZ9 := hZ9.2
        obtain ⟨b188, hZ9⟩ := hZ9
        obtain ⟨b189, hZ9⟩ := hZ9
        replace hZ9 := hZ9.2
        obtain ⟨-, hE192⟩ := hZ9
        replace hO148 : u146[134]? = (some (q 134, .inr (14, [.int y149, .ref (q 135), .int y150, .ref (q 136), .ref (q 137), .ref (q 138), .ref (q 139), .ref (q 140), .int y151, .long y152, .int y153, .int y154, .ref (q 141), .int y155, .ref (q 142), .int y156, .ref (q 143), .int y157, .ref (q 144), .int y158, .int y159])) : Option (Nat × va_E)) := hO148
        replace hA161 : u146[136]? = (some (q 136, .inl (g 0, (10000 : Int32).toNatClampNeg, .inl f160)) : Option (Nat × va_E)) := hA161
        replace hA163 : u146[137]? = (some (q 137, .inl (g 0, (10 : Int32).toNatClampNeg, .inl f162)) : Option (Nat × va_E)) := hA163
        replace hA165 : u146[138]? = (some (q 138, .inl (g 3, 10, .inl f164)) : Option (Nat × va_E)) := hA165
        replace hA167 : u146[139]? = (some (q 139, .inl (g 0, (10 : Int32).toNatClampNeg, .inl f166)) : Option (Nat × va_E)) := hA167
        replace hA169 : u146[140]? = (some (q 140, .inl (g 0, (4400 : Int32).toNatClampNeg, .inl f168)) : Option (Nat × va_E)) := hA169
        obtain ⟨p194, e195⟩ : ∃ z, z = (F_DR_store x3 y64 y65 a128 j138 y68 y69 y70 y71 y72 y73 y74 t1_0 t2_0 t3_0 t4_0 f75) := ⟨_, rfl⟩
        have e196 : y149 = p194.1 := congrArg (fun z => z.1) (hE192.trans e195.symm)
        have e197 : y150 = p194.2.1 := congrArg (fun z => z.2.1) (hE192.trans e195.symm)
        have e198 : y151 = p194.2.2.1 := congrArg (fun z => z.2.2.1) (hE192.trans e195.symm)
        have e199 : y152 = p194.2.2.2.1 := congrArg (fun z => z.2.2.2.1) (hE192.trans e195.symm)
        have e200 : y153 = p194.2.2.2.2.1 := congrArg (fun z => z.2.2.2.2.1) (hE192.trans e195.symm)
        have e201 : y154 = p194.2.2.2.2.2.1 := congrArg (fun z => z.2.2.2.2.2.1) (hE192.trans e195.symm)
        have e202 : y155 = p194.2.2.2.2.2.2.1 := congrArg (fun z => z.2.2.2.2.2.2.1) (hE192.trans e195.symm)
        have e203 : y156 = p194.2.2.2.2.2.2.2.1 := congrArg (fun z => z.2.2.2.2.2.2.2.1) (hE192.trans e195.symm)
        have e204 : y157 = p194.2.2.2.2.2.2.2.2.1 := congrArg (fun z => z.2.2.2.2.2.2.2.2.1) (hE192.trans e195.symm)
        have e205 : y158 = p194.2.2.2.2.2.2.2.2.2.1 := congrArg (fun z => z.2.2.2.2.2.2.2.2.2.1) (hE192.trans e195.symm)
        have e206 : y159 = p194.2.2.2.2.2.2.2.2.2.2.1 := congrArg (fun z => z.2.2.2.2.2.2.2.2.2.2.1) (hE192.trans e195.symm)
        have e207 : f160 = p194.2.2.2.2.2.2.2.2.2.2.2.1 := congrArg (fun z => z.2.2.2.2.2.2.2.2.2.2.2.1) (hE192.trans e195.symm)
        have e208 : f162 = p194.2.2.2.2.2.2.2.2.2.2.2.2.1 := congrArg (fun z => z.2.2.2.2.2.2.2.2.2.2.2.2.1) (hE192.trans e195.symm)
        have e209 : f164 = p194.2.2.2.2.2.2.2.2.2.2.2.2.2.1 := congrArg (fun z => z.2.2.2.2.2.2.2.2.2.2.2.2.2.1) (hE192.trans e195.symm)
        have e210 : f166 = p194.2.2.2.2.2.2.2.2.2.2.2.2.2.2.1 := congrArg (fun z => z.2.2.2.2.2.2.2.2.2.2.2.2.2.2.1) (hE192.trans e195.symm)
        have e211 : f168 = p194.2.2.2.2.2.2.2.2.2.2.2.2.2.2.2 := congrArg (fun z => z.2.2.2.2.2.2.2.2.2.2.2.2.2.2.2) (hE192.trans e195.symm)
        replace b170 : q_F (0 ≤ y154.toInt) := b170
        replace b171 : q_F (y65.toInt ≤ y150.toInt) := b171
        replace b172 : q_F (y150.toInt ≤ y65.toInt) := b172
        replace b177 : q_F (y68.toInt ≤ y153.toInt) := b177
        replace b178 : q_F (y153.toInt ≤ y68.toInt) := b178
        replace b180 : q_F (y154.toInt ≤ y69.toInt) := b180
        replace b181 : q_F (y70.toInt ≤ y155.toInt) := b181
        replace b182 : q_F (y155.toInt ≤ y70.toInt) := b182
        replace b183 : q_F (y71.toInt ≤ y156.toInt) := b183
        replace b184 : q_F (y156.toInt ≤ y71.toInt) := b184
        replace b185 : q_F (y72.toInt ≤ y157.toInt) := b185
        replace b186 : q_F (y157.toInt ≤ y72.toInt) := b186
        replace b188 : q_F (y73.toInt ≤ y158.toInt) := b188
        replace b189 : q_F (y158.toInt ≤ y73.toInt) := b189
        replace hF := q_uc hF hu193 (by simp)
        have hR212 := (show F_DR_strip_c86 x2 x3 t0_0 t0_1 t0_2 t0_3 t0_4 t0_5 t0_6 t0_7 t0_8 t0_9 t0_10 t1_0 t2_0 t3_0 t4_0 t5_0 lx39 p102 a128 p194 = (F_DR_strip x2 x3 t0_0 t0_1 t0_2 t0_3 t0_4 t0_5 t0_6 t0_7 t0_8 t0_9 t0_10 t1_0 t2_0 t3_0 t4_0 t5_0) from Eq.trans (by have c123x := c123; rw [← e122, e115] at c123x; rw [e195, ← e139, ← e136, ← e134, e132, e115, e114, e113, e112, e111, e110, e109, e108, e107, e106, e105, e104, F_DR_strip_c38.eq_1, if_neg c123x]) hR116)
        have hS213 := (show True ∧ S_DR_strip_c86 x2 x3 t0_0 t0_1 t0_2 t0_3 t0_4 t0_5 t0_6 t0_7 t0_8 t0_9 t0_10 t1_0 t2_0 t3_0 t4_0 t5_0 lx39 p102 a128 p194 from (by rw [e195, ← e139, ← e136, ← e134, e132, e115, e114, e113, e112, e111, e110, e109, e108, e107, e106, e105, e104]; have h := hS117; rw [S_DR_strip_c38.eq_1] at h; have c123x := c123; rw [← e122, e115] at c123x; rw [if_neg c123x] at h; replace h := q_s2 h; replace h := q_s2 h; with_reducible exact h))
        exact q_retv C0 V (⟨hI, hF, y149, y150, y151, y152, y153, y154, y155, y156, y157, y158, y159, f160, f162, f164, f166, f168, hO148, hA161, hA163, hA165, hA167, hA169, (show 0 ≤ y153.toInt from (by have t1 : 0 ≤ y68.toInt := b79; have t2 : y68.toInt ≤ y153.toInt := b177; omega)), (show 0 ≤ y154.toInt from (by first | with_reducible exact q_fe b170 | (have t1 : 0 ≤ y154.toInt := b170; omega))), (show y154.toInt ≤ 1 from (by have t1 : y68.toInt ≤ 0 := b80; have t2 : y69.toInt ≤ y68.toInt + 1 := b98; have t3 : y154.toInt ≤ y69.toInt := b180; omega)), (show t0_1.toInt ≤ y150.toInt from (by have t1 : t0_1.toInt ≤ y65.toInt := b83; have t2 : y65.toInt ≤ y150.toInt := b171; omega)), (show y150.toInt ≤ t0_1.toInt from (by have t1 : y65.toInt ≤ t0_1.toInt := b84; have t2 : y150.toInt ≤ y65.toInt := b172; omega)), (show y153.toInt ≤ t0_4.toInt from (by have t1 : 0 ≤ t0_4.toInt ∧ t0_4.toInt ≤ 1 := btt0_4; have t2 : y68.toInt ≤ 0 := b80; have t3 : y153.toInt ≤ y68.toInt := b178; omega)), (show t0_6.toInt ≤ y155.toInt from (by have t1 : t0_6.toInt ≤ y70.toInt := b87; have t2 : y70.toInt ≤ y155.toInt := b181; omega)), (show y155.toInt ≤ t0_6.toInt from (by have t1 : y70.toInt ≤ t0_6.toInt := b88; have t2 : y155.toInt ≤ y70.toInt := b182; omega)), (show t0_7.toInt ≤ y156.toInt from (by have t1 : t0_7.toInt ≤ y71.toInt := b89; have t2 : y71.toInt ≤ y156.toInt := b183; omega)), (show y156.toInt ≤ t0_7.toInt from (by have t1 : y71.toInt ≤ t0_7.toInt := b90; have t2 : y156.toInt ≤ y71.toInt := b184; omega)), (show t0_8.toInt ≤ y157.toInt from (by have t1 : t0_8.toInt ≤ y72.toInt := b91; have t2 : y72.toInt ≤ y157.toInt := b185; omega)), (show y157.toInt ≤ t0_8.toInt from (by have t1 : y72.toInt ≤ t0_8.toInt := b92; have t2 : y157.toInt ≤ y72.toInt := b186; omega)), (show t0_9.toInt ≤ y158.toInt from (by have t1 : t0_9.toInt ≤ y73.toInt := b93; have t2 : y73.toInt ≤ y158.toInt := b188; omega)), (show y158.toInt ≤ t0_9.toInt from (by have t1 : y73.toInt ≤ t0_9.toInt := b94; have t2 : y158.toInt ≤ y73.toInt := b189; omega)), (show (y149, y150, y151, y152, y153, y154, y155, y156, y157, y158, y159, f160, f162, f164, f166, f168) = (F_DR_strip x2 x3 t0_0 t0_1 t0_2 t0_3 t0_4 t0_5 t0_6 t0_7 t0_8 t0_9 t0_10 t1_0 t2_0 t3_0 t4_0 t5_0) from Eq.trans (by rw [e211, e210, e209, e208, e207, e206, e205, e204, e203, e202, e201, e200, e199, e198, e197, e196, F_DR_strip_c86.eq_1]) hR212)⟩) d_15_45_89
      ·
        refine lv_aload_n hx hb d_15_45_50 rfl (lv_at hl 0 rfl) ?_
        refine lv_lconst (v := 0) hx hb d_15_45_51 (by decide) ?_
        refine q_put (ci := 14) (j := 9) (v := .long 0) (ty := .long) C0 V i_DR o_DR n_DR rfl rfl hO63 (by decide) w_2012 rfl rfl rfl rfl (Nat.le_of_ble_eq_true rfl) d_15_45_52 (fun H locs w218 hu219 hO63 V => ?_)
        replace hO63 : w218[134]? = (some (q 134, .inr (14, [.int y64, .ref (q 135), .int y65, .ref (q 136), .ref (q 137), .ref (q 138), .ref (q 139), .ref (q 140), .int y66, .long 0, .int y68, .int y69, .ref (q 141), .int y70, .ref (q 142), .int y71, .ref (q 143), .int y72, .ref (q 144), .int y73, .int y74])) : Option (Nat × va_E)) := hO63
        replace hI := n_p134 hI hu219 hO63 ⟨(by have t1 : 0 ≤ t0_1.toInt ∧ t0_1.toInt ≤ 4100 := btt0_1; have t2 : t0_1.toInt ≤ y65.toInt := b83; omega), (by have t1 : 0 ≤ t0_1.toInt ∧ t0_1.toInt ≤ 4100 := btt0_1; have t2 : y65.toInt ≤ t0_1.toInt := b84; omega)⟩ ⟨(by first | with_reducible exact q_fe b79 | (have t1 : 0 ≤ y68.toInt := b79; omega)), (by first | with_reducible exact q_fe b80 | (have t1 : y68.toInt ≤ 0 := b80; omega))⟩ ⟨(by have t1 : 0 ≤ y68.toInt := b79; have t2 : y68.toInt ≤ y69.toInt := b99; omega), (by have t1 : y68.toInt ≤ 0 := b80; have t2 : y69.toInt ≤ y68.toInt + 1 := b98; omega)⟩ ⟨(by have t1 : 0 ≤ t0_9.toInt ∧ t0_9.toInt ≤ 12200 := btt0_9; have t2 : t0_9.toInt ≤ y73.toInt := b93; omega), (by have t1 : 0 ≤ t0_9.toInt ∧ t0_9.toInt ≤ 12200 := btt0_9; have t2 : y73.toInt ≤ t0_9.toInt := b94; omega)⟩
        replace hT1 := (hu219 _ (by decide)).trans hT1
        replace hT2 := (hu219 _ (by decide)).trans hT2
        replace hT3 := (hu219 _ (by decide)).trans hT3
        replace hT4 := (hu219 _ (by decide)).trans hT4
        replace hA76 := (hu219 _ (by decide)).trans hA76
        replace hF := q_us hF hu219 (by simp)
        refine lv_goto (tgt := 84) hx hb d_15_45_55 (by decide) ?_
        refine lv_aload_n hx hb d_15_45_84 rfl (lv_at hl 0 rfl) ?_
        refine lv_iload_n hx hb d_15_45_85 rfl (lv_at hl 2 rfl) ?_
        have ob220 : True ∧ S_DR_store x3 y64 y65 y66 (0 : Int64) y68 y69 y70 y71 y72 y73 y74 t1_0 t2_0 t3_0 t4_0 f75 := (by rw [e115, e114, e113, e112, e111, e110, e109, e108, e106, e105, e104]; have h := hS117; rw [S_DR_strip_c38.eq_1] at h; have c123x := c123; rw [← e122, e115] at c123x; rw [if_pos c123x] at h; with_reducible exact h.2.1)
        refine q_gov V (q_runV (As := [.int x3]) (rest := []) (d := 2) (mc := 0) (ms := 0) (ci := 14) C0 V rfl LV_DR_89 (X_DR_store l D g q w218  x3 hI y64 y65 y66 0 y68 y69 y70 y71 y72 y73 y74 hO63 t1_0 hT1 t2_0 hT2 t3_0 hT3 t4_0 hT4 f75 hA76 ob220 _) rfl rfl hO63 rfl hl.1 rfl (Nat.le_of_ble_eq_true rfl) ⟨by decide, by decide⟩ ⟨Nat.le_of_ble_eq_true rfl, Nat.le_of_ble_eq_true rfl⟩ d_15_45_86) (fun u221 H locs hp222 V => ?_)
        obtain ⟨hI, hZ9⟩ := hp222
        obtain ⟨hu268, hZ9⟩ := hZ9
        obtain ⟨y224, hZ9⟩ := hZ9
        obtain ⟨y225, hZ9⟩ := hZ9
        obtain ⟨y226, hZ9⟩ := hZ9
        obtain ⟨y227, hZ9⟩ := hZ9
        obtain ⟨y228, hZ9⟩ := hZ9
        obtain ⟨y229, hZ9⟩ := hZ9
        obtain ⟨y230, hZ9⟩ := hZ9
        obtain ⟨y231, hZ9⟩ := hZ9
        obtain ⟨y232, hZ9⟩ := hZ9
        obtain ⟨y233, hZ9⟩ := hZ9
        obtain ⟨y234, hZ9⟩ := hZ9
        obtain ⟨f235, hZ9⟩ := hZ9
        obtain ⟨f237, hZ9⟩ := hZ9
        obtain ⟨f239, hZ9⟩ := hZ9
        obtain ⟨f241, hZ9⟩ := hZ9
        obtain ⟨f243, hZ9⟩ := hZ9
        obtain ⟨hO223, hZ9⟩ := hZ9
        obtain ⟨hA236, hZ9⟩ := hZ9
        obtain ⟨hA238, hZ9⟩ := hZ9
        obtain ⟨hA240, hZ9⟩ := hZ9
        obtain ⟨hA242, hZ9⟩ := hZ9
        obtain ⟨hA244, hZ9⟩ := hZ9
        obtain ⟨b245, hZ9⟩ := hZ9
        obtain ⟨b246, hZ9⟩ := hZ9
        obtain ⟨b247, hZ9⟩ := hZ9
        replace hZ9 := hZ9.2.2.2.2
        obtain ⟨b252, hZ9⟩ := hZ9
        obtain ⟨b253, hZ9⟩ := hZ9
        replace hZ9 := hZ9.2
        obtain ⟨b255, hZ9⟩ := hZ9
        obtain ⟨b256, hZ9⟩ := hZ9
        obtain ⟨b257, hZ9⟩ := hZ9
        obtain ⟨b258, hZ9⟩ := hZ9
        obtain ⟨b259, hZ9⟩ := hZ9
        obtain ⟨b260, hZ9⟩ := hZ9
        obtain ⟨b261, hZ9⟩ := hZ9
        replace hZ9 := hZ9.2
        obtain ⟨b263, hZ9⟩ := hZ9
        obtain ⟨b264, hZ9⟩ := hZ9
        replace hZ9 := hZ9.2
        obtain ⟨-, hE267⟩ := hZ9
        replace hO223 : u221[134]? = (some (q 134, .inr (14, [.int y224, .ref (q 135), .int y225, .ref (q 136), .ref (q 137), .ref (q 138), .ref (q 139), .ref (q 140), .int y226, .long y227, .int y228, .int y229, .ref (q 141), .int y230, .ref (q 142), .int y231, .ref (q 143), .int y232, .ref (q 144), .int y233, .int y234])) : Option (Nat × va_E)) := hO223
        replace hA236 : u221[136]? = (some (q 136, .inl (g 0, (10000 : Int32).toNatClampNeg, .inl f235)) : Option (Nat × va_E)) := hA236
        replace hA238 : u221[137]? = (some (q 137, .inl (g 0, (10 : Int32).toNatClampNeg, .inl f237)) : Option (Nat × va_E)) := hA238
        replace hA240 : u221[138]? = (some (q 138, .inl (g 3, 10, .inl f239)) : Option (Nat × va_E)) := hA240
        replace hA242 : u221[139]? = (some (q 139, .inl (g 0, (10 : Int32).toNatClampNeg, .inl f241)) : Option (Nat × va_E)) := hA242
        replace hA244 : u221[140]? = (some (q 140, .inl (g 0, (4400 : Int32).toNatClampNeg, .inl f243)) : Option (Nat × va_E)) := hA244
        obtain ⟨p269, e270⟩ : ∃ z, z = (F_DR_store x3 y64 y65 y66 (0 : Int64) y68 y69 y70 y71 y72 y73 y74 t1_0 t2_0 t3_0 t4_0 f75) := ⟨_, rfl⟩
        have e271 : y224 = p269.1 := congrArg (fun z => z.1) (hE267.trans e270.symm)
        have e272 : y225 = p269.2.1 := congrArg (fun z => z.2.1) (hE267.trans e270.symm)
        have e273 : y226 = p269.2.2.1 := congrArg (fun z => z.2.2.1) (hE267.trans e270.symm)
        have e274 : y227 = p269.2.2.2.1 := congrArg (fun z => z.2.2.2.1) (hE267.trans e270.symm)
        have e275 : y228 = p269.2.2.2.2.1 := congrArg (fun z => z.2.2.2.2.1) (hE267.trans e270.symm)
        have e276 : y229 = p269.2.2.2.2.2.1 := congrArg (fun z => z.2.2.2.2.2.1) (hE267.trans e270.symm)
        have e277 : y230 = p269.2.2.2.2.2.2.1 := congrArg (fun z => z.2.2.2.2.2.2.1) (hE267.trans e270.symm)
        have e278 : y231 = p269.2.2.2.2.2.2.2.1 := congrArg (fun z => z.2.2.2.2.2.2.2.1) (hE267.trans e270.symm)
        have e279 : y232 = p269.2.2.2.2.2.2.2.2.1 := congrArg (fun z => z.2.2.2.2.2.2.2.2.1) (hE267.trans e270.symm)
        have e280 : y233 = p269.2.2.2.2.2.2.2.2.2.1 := congrArg (fun z => z.2.2.2.2.2.2.2.2.2.1) (hE267.trans e270.symm)
        have e281 : y234 = p269.2.2.2.2.2.2.2.2.2.2.1 := congrArg (fun z => z.2.2.2.2.2.2.2.2.2.2.1) (hE267.trans e270.symm)
        have e282 : f235 = p269.2.2.2.2.2.2.2.2.2.2.2.1 := congrArg (fun z => z.2.2.2.2.2.2.2.2.2.2.2.1) (hE267.trans e270.symm)
        have e283 : f237 = p269.2.2.2.2.2.2.2.2.2.2.2.2.1 := congrArg (fun z => z.2.2.2.2.2.2.2.2.2.2.2.2.1) (hE267.trans e270.symm)
        have e284 : f239 = p269.2.2.2.2.2.2.2.2.2.2.2.2.2.1 := congrArg (fun z => z.2.2.2.2.2.2.2.2.2.2.2.2.2.1) (hE267.trans e270.symm)
        have e285 : f241 = p269.2.2.2.2.2.2.2.2.2.2.2.2.2.2.1 := congrArg (fun z => z.2.2.2.2.2.2.2.2.2.2.2.2.2.2.1) (hE267.trans e270.symm)
        have e286 : f243 = p269.2.2.2.2.2.2.2.2.2.2.2.2.2.2.2 := congrArg (fun z => z.2.2.2.2.2.2.2.2.2.2.2.2.2.2.2) (hE267.trans e270.symm)
        replace b245 : q_F (0 ≤ y229.toInt) := b245
        replace b246 : q_F (y65.toInt ≤ y225.toInt) := b246
        replace b247 : q_F (y225.toInt ≤ y65.toInt) := b247
        replace b252 : q_F (y68.toInt ≤ y228.toInt) := b252
        replace b253 : q_F (y228.toInt ≤ y68.toInt) := b253
        replace b255 : q_F (y229.toInt ≤ y69.toInt) := b255
        replace b256 : q_F (y70.toInt ≤ y230.toInt) := b256
        replace b257 : q_F (y230.toInt ≤ y70.toInt) := b257
        replace b258 : q_F (y71.toInt ≤ y231.toInt) := b258
        replace b259 : q_F (y231.toInt ≤ y71.toInt) := b259
        replace b260 : q_F (y72.toInt ≤ y232.toInt) := b260
        replace b261 : q_F (y232.toInt ≤ y72.toInt) := b261
        replace b263 : q_F (y73.toInt ≤ y233.toInt) := b263
        replace b264 : q_F (y233.toInt ≤ y73.toInt) := b264
        replace hF := q_uc hF hu268 (by simp)
        have hR287 := (show F_DR_strip_c86_4 x2 x3 t0_0 t0_1 t0_2 t0_3 t0_4 t0_5 t0_6 t0_7 t0_8 t0_9 t0_10 t1_0 t2_0 t3_0 t4_0 t5_0 lx39 p102 p269 = (F_DR_strip x2 x3 t0_0 t0_1 t0_2 t0_3 t0_4 t0_5 t0_6 t0_7 t0_8 t0_9 t0_10 t1_0 t2_0 t3_0 t4_0 t5_0) from Eq.trans (by have c123x := c123; rw [← e122, e115] at c123x; rw [e270, e115, e114, e113, e112, e111, e110, e109, e108, e106, e105, e104, F_DR_strip_c38.eq_1, if_pos c123x]) hR116)
        have hS288 := (show True ∧ S_DR_strip_c86_4 x2 x3 t0_0 t0_1 t0_2 t0_3 t0_4 t0_5 t0_6 t0_7 t0_8 t0_9 t0_10 t1_0 t2_0 t3_0 t4_0 t5_0 lx39 p102 p269 from (by rw [e270, e115, e114, e113, e112, e111, e110, e109, e108, e106, e105, e104]; have h := hS117; rw [S_DR_strip_c38.eq_1] at h; have c123x := c123; rw [← e122, e115] at c123x; rw [if_pos c123x] at h; replace h := q_s2 h; with_reducible exact h))
        exact q_retv C0 V (⟨hI, hF, y224, y225, y226, y227, y228, y229, y230, y231, y232, y233, y234, f235, f237, f239, f241, f243, hO223, hA236, hA238, hA240, hA242, hA244, (show 0 ≤ y228.toInt from (by have t1 : 0 ≤ y68.toInt := b79; have t2 : y68.toInt ≤ y228.toInt := b252; omega)), (show 0 ≤ y229.toInt from (by first | with_reducible exact q_fe b245 | (have t1 : 0 ≤ y229.toInt := b245; omega))), (show y229.toInt ≤ 1 from (by have t1 : y68.toInt ≤ 0 := b80; have t2 : y69.toInt ≤ y68.toInt + 1 := b98; have t3 : y229.toInt ≤ y69.toInt := b255; omega)), (show t0_1.toInt ≤ y225.toInt from (by have t1 : t0_1.toInt ≤ y65.toInt := b83; have t2 : y65.toInt ≤ y225.toInt := b246; omega)), (show y225.toInt ≤ t0_1.toInt from (by have t1 : y65.toInt ≤ t0_1.toInt := b84; have t2 : y225.toInt ≤ y65.toInt := b247; omega)), (show y228.toInt ≤ t0_4.toInt from (by have t1 : 0 ≤ t0_4.toInt ∧ t0_4.toInt ≤ 1 := btt0_4; have t2 : y68.toInt ≤ 0 := b80; have t3 : y228.toInt ≤ y68.toInt := b253; omega)), (show t0_6.toInt ≤ y230.toInt from (by have t1 : t0_6.toInt ≤ y70.toInt := b87; have t2 : y70.toInt ≤ y230.toInt := b256; omega)), (show y230.toInt ≤ t0_6.toInt from (by have t1 : y70.toInt ≤ t0_6.toInt := b88; have t2 : y230.toInt ≤ y70.toInt := b257; omega)), (show t0_7.toInt ≤ y231.toInt from (by have t1 : t0_7.toInt ≤ y71.toInt := b89; have t2 : y71.toInt ≤ y231.toInt := b258; omega)), (show y231.toInt ≤ t0_7.toInt from (by have t1 : y71.toInt ≤ t0_7.toInt := b90; have t2 : y231.toInt ≤ y71.toInt := b259; omega)), (show t0_8.toInt ≤ y232.toInt from (by have t1 : t0_8.toInt ≤ y72.toInt := b91; have t2 : y72.toInt ≤ y232.toInt := b260; omega)), (show y232.toInt ≤ t0_8.toInt from (by have t1 : y72.toInt ≤ t0_8.toInt := b92; have t2 : y232.toInt ≤ y72.toInt := b261; omega)), (show t0_9.toInt ≤ y233.toInt from (by have t1 : t0_9.toInt ≤ y73.toInt := b93; have t2 : y73.toInt ≤ y233.toInt := b263; omega)), (show y233.toInt ≤ t0_9.toInt from (by have t1 : y73.toInt ≤ t0_9.toInt := b94; have t2 : y233.toInt ≤ y73.toInt := b264; omega)), (show (y224, y225, y226, y227, y228, y229, y230, y231, y232, y233, y234, f235, f237, f239, f241, f243) = (F_DR_strip x2 x3 t0_0 t0_1 t0_2 t0_3 t0_4 t0_5 t0_6 t0_7 t0_8 t0_9 t0_10 t1_0 t2_0 t3_0 t4_0 t5_0) from Eq.trans (by rw [e286, e285, e284, e283, e282, e281, e280, e279, e278, e277, e276, e275, e274, e273, e272, e271, F_DR_strip_c86_4.eq_1]) hR287)⟩) d_15_45_89
    ·
      exact q_retv C0 V (⟨hI, hF, lx39, t0_1, t0_2, t0_3, t0_4, t0_5, t0_6, t0_7, t0_8, t0_9, t0_10, t1_0, t2_0, t3_0, t4_0, t5_0, hT0, hT1, hT2, hT3, hT4, hT5, (show 0 ≤ t0_4.toInt from (by first | with_reducible exact (q_fe btt0_4).2 | with_reducible exact (q_fe btt0_4).1 | (have t1 : 0 ≤ t0_4.toInt ∧ t0_4.toInt ≤ 1 := btt0_4; omega))), (show 0 ≤ t0_5.toInt from (by first | with_reducible exact (q_fe btt0_5).2 | with_reducible exact (q_fe btt0_5).1 | (have t1 : 0 ≤ t0_5.toInt ∧ t0_5.toInt ≤ 1 := btt0_5; omega))), (show t0_5.toInt ≤ 1 from (by first | with_reducible exact (q_fe btt0_5).2 | with_reducible exact (q_fe btt0_5).1 | (have t1 : 0 ≤ t0_5.toInt ∧ t0_5.toInt ≤ 1 := btt0_5; omega))), (show t0_1.toInt ≤ t0_1.toInt from (by omega)), (show t0_1.toInt ≤ t0_1.toInt from (by omega)), (show t0_4.toInt ≤ t0_4.toInt from (by omega)), (show t0_6.toInt ≤ t0_6.toInt from (by omega)), (show t0_6.toInt ≤ t0_6.toInt from (by omega)), (show t0_7.toInt ≤ t0_7.toInt from (by omega)), (show t0_7.toInt ≤ t0_7.toInt from (by omega)), (show t0_8.toInt ≤ t0_8.toInt from (by omega)), (show t0_8.toInt ≤ t0_8.toInt from (by omega)), (show t0_9.toInt ≤ t0_9.toInt from (by omega)), (show t0_9.toInt ≤ t0_9.toInt from (by omega)), (show (lx39, t0_1, t0_2, t0_3, t0_4, t0_5, t0_6, t0_7, t0_8, t0_9, t0_10, t1_0, t2_0, t3_0, t4_0, t5_0) = (F_DR_strip x2 x3 t0_0 t0_1 t0_2 t0_3 t0_4 t0_5 t0_6 t0_7 t0_8 t0_9 t0_10 t1_0 t2_0 t3_0 t4_0 t5_0) from Eq.trans (by rw [F_DR_strip_J20.eq_1, if_neg c56]) hR49)⟩) d_15_45_30
  ·
    intro J46
    refine q_join (X := Unit) (fun z H locs ls _ => q_Wd D g (va_A ws sz) s ws H locs ∧ lv_has ls 4 [(0, .ref (q 134)), (1, .int x2), (2, .int x3)] ∧ F_DR_strip_J15 x2 x3 t0_0 t0_1 t0_2 t0_3 t0_4 t0_5 t0_6 t0_7 t0_8 t0_9 t0_10 t1_0 t2_0 t3_0 t4_0 t5_0 = (F_DR_strip x2 x3 t0_0 t0_1 t0_2 t0_3 t0_4 t0_5 t0_6 t0_7 t0_8 t0_9 t0_10 t1_0 t2_0 t3_0 t4_0 t5_0) ∧ True ∧ S_DR_strip_J15 x2 x3 t0_0 t0_1 t0_2 t0_3 t0_4 t0_5 t0_6 t0_7 t0_8 t0_9 t0_10 t1_0 t2_0 t3_0 t4_0 t5_0) (fun z => [.ref (q 134)]) 15 0 0 ?_ ?_
    ·
      rintro _ H locs ls _ ⟨V, hl, hR300, hS301⟩
      replace hl : lv_has ls 4 [(0, .ref (q 134)), (1, .int x2), (2, .int x3)] := hl
      refine lv_iconst (v := 1) hx hb d_15_45_15 (by decide) ?_
      refine lv_goto (tgt := 20) hx hb d_15_45_16 (by decide) ?_
      exact J46 ((1 : Int32)) _ _ _ ws ⟨(show q_F (0 ≤ 1) from (show 0 ≤ 1 from by omega)), (show q_F (1 ≤ 1) from (show 1 ≤ 1 from by omega)), V, q_lw hl (q_lw1 0 rfl (q_lw1 1 rfl (q_lw1 2 rfl q_lw0))), (show F_DR_strip_J20 x2 x3 t0_0 t0_1 t0_2 t0_3 t0_4 t0_5 t0_6 t0_7 t0_8 t0_9 t0_10 t1_0 t2_0 t3_0 t4_0 t5_0 1 = (F_DR_strip x2 x3 t0_0 t0_1 t0_2 t0_3 t0_4 t0_5 t0_6 t0_7 t0_8 t0_9 t0_10 t1_0 t2_0 t3_0 t4_0 t5_0) from Eq.trans (by rw [F_DR_strip_J15.eq_1]) hR300), (show True ∧ S_DR_strip_J20 x2 x3 t0_0 t0_1 t0_2 t0_3 t0_4 t0_5 t0_6 t0_7 t0_8 t0_9 t0_10 t1_0 t2_0 t3_0 t4_0 t5_0 1 from (by have h := hS301; rw [S_DR_strip_J15.eq_1] at h; with_reducible exact h))⟩
    ·
      intro J299
      refine lv_if_ne (tgt := 15) hx hb d_15_45_5 (by decide) (fun c305 => ?_) (fun c305 => ?_)
      ·
        exact J299 (()) _ _ _ ws ⟨V, q_lw hl (q_lw1 0 rfl (q_lw1 1 rfl (q_lw1 2 rfl q_lw0))), (show F_DR_strip_J15 x2 x3 t0_0 t0_1 t0_2 t0_3 t0_4 t0_5 t0_6 t0_7 t0_8 t0_9 t0_10 t1_0 t2_0 t3_0 t4_0 t5_0 = (F_DR_strip x2 x3 t0_0 t0_1 t0_2 t0_3 t0_4 t0_5 t0_6 t0_7 t0_8 t0_9 t0_10 t1_0 t2_0 t3_0 t4_0 t5_0) from (by have c305x := c305; rw [e38] at c305x; rw [F_DR_strip.eq_1, if_neg c305x])), (show True ∧ S_DR_strip_J15 x2 x3 t0_0 t0_1 t0_2 t0_3 t0_4 t0_5 t0_6 t0_7 t0_8 t0_9 t0_10 t1_0 t2_0 t3_0 t4_0 t5_0 from (by have h := hS; rw [S_DR_strip.eq_1] at h; have c305x := c305; rw [e38] at c305x; rw [if_neg c305x] at h; with_reducible exact h))⟩
      ·
        refine lv_iload_n hx hb d_15_45_8 rfl (lv_at hl 2 rfl) ?_
        refine q_goi V (q_runS (As := [.int x3]) (rest := [.ref (q 134)]) (d := 1) (mc := 0) (ms := 0) C0 V rfl LS_DR_113 (X_DR_no l D g q ws  x3 hI   _) rfl hl.1 rfl (Nat.le_of_ble_eq_true rfl) ⟨by decide, by decide⟩ ⟨Nat.le_of_ble_eq_true rfl, Nat.le_of_ble_eq_true rfl⟩ d_15_45_9) (fun a310 u308 H locs hp309 V => ?_)
        obtain ⟨rfl, b311, b312, hE313⟩ := hp309
        have e314 : a310 = (F_DR_no x3) := hE313
        clear b311
        clear b312
        refine lv_if_eq (tgt := 19) hx hb d_15_45_12 (by decide) (fun c315 => ?_) (fun c315 => ?_)
        ·
          refine lv_iconst (v := 0) hx hb d_15_45_19 (by decide) ?_
          exact J46 ((0 : Int32)) _ _ _ ws ⟨(show q_F (0 ≤ 0) from (show 0 ≤ 0 from by omega)), (show q_F (0 ≤ 1) from (show 0 ≤ 1 from by omega)), V, q_lw hl (q_lw1 0 rfl (q_lw1 1 rfl (q_lw1 2 rfl q_lw0))), (show F_DR_strip_J20 x2 x3 t0_0 t0_1 t0_2 t0_3 t0_4 t0_5 t0_6 t0_7 t0_8 t0_9 t0_10 t1_0 t2_0 t3_0 t4_0 t5_0 0 = (F_DR_strip x2 x3 t0_0 t0_1 t0_2 t0_3 t0_4 t0_5 t0_6 t0_7 t0_8 t0_9 t0_10 t1_0 t2_0 t3_0 t4_0 t5_0) from (by have c305x := c305; rw [e38] at c305x; have c315x := c315; rw [e314] at c315x; rw [F_DR_strip.eq_1, if_pos c305x, if_pos c315x])), (show True ∧ S_DR_strip_J20 x2 x3 t0_0 t0_1 t0_2 t0_3 t0_4 t0_5 t0_6 t0_7 t0_8 t0_9 t0_10 t1_0 t2_0 t3_0 t4_0 t5_0 0 from (by have h := hS; rw [S_DR_strip.eq_1] at h; have c305x := c305; rw [e38] at c305x; rw [if_pos c305x] at h; have c315x := c315; rw [e314] at c315x; rw [if_pos c315x] at h; with_reducible exact h))⟩
        ·
          exact J299 (()) _ _ _ ws ⟨V, q_lw hl (q_lw1 0 rfl (q_lw1 1 rfl (q_lw1 2 rfl q_lw0))), (show F_DR_strip_J15 x2 x3 t0_0 t0_1 t0_2 t0_3 t0_4 t0_5 t0_6 t0_7 t0_8 t0_9 t0_10 t1_0 t2_0 t3_0 t4_0 t5_0 = (F_DR_strip x2 x3 t0_0 t0_1 t0_2 t0_3 t0_4 t0_5 t0_6 t0_7 t0_8 t0_9 t0_10 t1_0 t2_0 t3_0 t4_0 t5_0) from (by have c305x := c305; rw [e38] at c305x; have c315x := c315; rw [e314] at c315x; rw [F_DR_strip.eq_1, if_pos c305x, if_neg c315x])), (show True ∧ S_DR_strip_J15 x2 x3 t0_0 t0_1 t0_2 t0_3 t0_4 t0_5 t0_6 t0_7 t0_8 t0_9 t0_10 t1_0 t2_0 t3_0 t4_0 t5_0 from (by have h := hS; rw [S_DR_strip.eq_1] at h; have c305x := c305; rw [e38] at c305x; rw [if_pos c305x] at h; have c315x := c315; rw [e314] at c315x; rw [if_neg c315x] at h; with_reducible exact h))⟩
theorem d_15_4_0 : decode prog_15_method_4_code 0 = .ok (.iload_n 0, 1) := by decide +kernel
theorem d_15_4_1 : decode prog_15_method_4_code 1 = .ok (.ifCond .lt 9, 3) := by decide +kernel
theorem d_15_4_10 : decode prog_15_method_4_code 10 = .ok (.iconst 1, 1) := by decide +kernel
theorem d_15_4_11 : decode prog_15_method_4_code 11 = .ok (.goto 4, 3) := by decide +kernel
theorem d_15_4_15 : decode prog_15_method_4_code 15 = .ok (.ireturn, 1) := by decide +kernel
theorem d_15_4_4 : decode prog_15_method_4_code 4 = .ok (.iload_n 0, 1) := by decide +kernel
theorem d_15_4_5 : decode prog_15_method_4_code 5 = .ok (.bipush 7, 2) := by decide +kernel
theorem d_15_4_7 : decode prog_15_method_4_code 7 = .ok (.if_icmp .le 7, 3) := by decide +kernel
theorem d_15_4_14 : decode prog_15_method_4_code 14 = .ok (.iconst 0, 1) := by decide +kernel
def y_DR_noMode : MethodName := ⟨"NumberHouseModel$DecimalRows", "noMode", "(I)Z"⟩
def F_DR_noMode (x1 : Int32) : Int32 := if x1 < (0 : Int32) then ((1 : Int32)) else (if x1 ≤ (7 : Int32) then ((0 : Int32)) else ((1 : Int32)))
set_option maxRecDepth 100000 in
set_option maxHeartbeats 4000000 in
theorem X_DR_noMode (l : Launch) (D : va_G) (g : Nat → ClassId) (q : Nat → Nat) (ws : va_W) (x1 : Int32) (hI : q_I (msh g q) q ws) : q_mI l y_DR_noMode prog_15_method_4_code 1 (.boolean) 1 0 0 D g [.int x1] ws (fun r u => ws = u ∧ (0 ≤ r.toInt) ∧ (r.toInt ≤ 1) ∧ r = (F_DR_noMode x1)) := by
  intro sz
  refine q_into (by decide) (Nat.le_of_ble_eq_true rfl) ?_
  intro p e s m below meth c ls hsz C0 V hl
  have hx := C0.1
  have hb := C0.2.1
  have hl : lv_has ls 1 [(0, .int x1)] := hl
  refine lv_iload_n hx hb d_15_4_0 rfl (lv_at hl 0 rfl) ?_
  refine lv_if_lt (tgt := 10) hx hb d_15_4_1 (by decide) (fun c1 => ?_) (fun c1 => ?_)
  ·
    refine lv_iconst (v := 1) hx hb d_15_4_10 (by decide) ?_
    refine lv_goto (tgt := 15) hx hb d_15_4_11 (by decide) ?_
    exact q_retz C0 V (by decide) (⟨rfl, (show 0 ≤ (1 : Int32).toInt from (by have z1 : (1 : Int32).toInt = 1 := rfl; omega)), (show (1 : Int32).toInt ≤ 1 from (by have z1 : (1 : Int32).toInt = 1 := rfl; omega)), (show (1 : Int32) = (F_DR_noMode x1) from (by rw [F_DR_noMode.eq_1, if_pos c1]))⟩) d_15_4_15
  ·
    refine lv_iload_n hx hb d_15_4_4 rfl (lv_at hl 0 rfl) ?_
    refine lv_bipush (v := 7) hx hb d_15_4_5 (by decide) ?_
    refine lv_icmp_le (tgt := 14) hx hb d_15_4_7 (by decide) (fun c4 => ?_) (fun c4 => ?_)
    ·
      refine lv_iconst (v := 0) hx hb d_15_4_14 (by decide) ?_
      exact q_retz C0 V (by decide) (⟨rfl, (show 0 ≤ (0 : Int32).toInt from (by have z1 : (0 : Int32).toInt = 0 := rfl; omega)), (show (0 : Int32).toInt ≤ 1 from (by have z1 : (0 : Int32).toInt = 0 := rfl; omega)), (show (0 : Int32) = (F_DR_noMode x1) from (by rw [F_DR_noMode.eq_1, if_neg c1, if_pos c4]))⟩) d_15_4_15
    ·
      refine lv_iconst (v := 1) hx hb d_15_4_10 (by decide) ?_
      refine lv_goto (tgt := 15) hx hb d_15_4_11 (by decide) ?_
      exact q_retz C0 V (by decide) (⟨rfl, (show 0 ≤ (1 : Int32).toInt from (by have z1 : (1 : Int32).toInt = 1 := rfl; omega)), (show (1 : Int32).toInt ≤ 1 from (by have z1 : (1 : Int32).toInt = 1 := rfl; omega)), (show (1 : Int32) = (F_DR_noMode x1) from (by rw [F_DR_noMode.eq_1, if_neg c1, if_neg c4]))⟩) d_15_4_15
theorem d_15_36_0 : decode prog_15_method_36_code 0 = .ok (.aload_n 0, 1) := by decide +kernel
theorem d_15_36_1 : decode prog_15_method_36_code 1 = .ok (.getfield 45, 3) := by decide +kernel
theorem d_15_36_4 : decode prog_15_method_36_code 4 = .ok (.ifCond .gt 7, 3) := by decide +kernel
theorem d_15_36_11 : decode prog_15_method_36_code 11 = .ok (.aload_n 0, 1) := by decide +kernel
theorem d_15_36_12 : decode prog_15_method_36_code 12 = .ok (.getfield 26, 3) := by decide +kernel
theorem d_15_36_15 : decode prog_15_method_36_code 15 = .ok (.aload_n 0, 1) := by decide +kernel
theorem d_15_36_16 : decode prog_15_method_36_code 16 = .ok (.getfield 45, 3) := by decide +kernel
theorem d_15_36_19 : decode prog_15_method_36_code 19 = .ok (.iload_n 1, 1) := by decide +kernel
theorem d_15_36_20 : decode prog_15_method_36_code 20 = .ok (.iastore, 1) := by decide +kernel
theorem d_15_36_21 : decode prog_15_method_36_code 21 = .ok (.aload_n 0, 1) := by decide +kernel
theorem d_15_36_22 : decode prog_15_method_36_code 22 = .ok (.dup, 1) := by decide +kernel
theorem d_15_36_23 : decode prog_15_method_36_code 23 = .ok (.getfield 45, 3) := by decide +kernel
theorem d_15_36_26 : decode prog_15_method_36_code 26 = .ok (.iconst 1, 1) := by decide +kernel
theorem d_15_36_27 : decode prog_15_method_36_code 27 = .ok (.iadd, 1) := by decide +kernel
theorem d_15_36_28 : decode prog_15_method_36_code 28 = .ok (.putfield 45, 3) := by decide +kernel
theorem d_15_36_31 : decode prog_15_method_36_code 31 = .ok (.return_, 1) := by decide +kernel
theorem d_15_36_7 : decode prog_15_method_36_code 7 = .ok (.iload_n 1, 1) := by decide +kernel
theorem d_15_36_8 : decode prog_15_method_36_code 8 = .ok (.ifCond .le 23, 3) := by decide +kernel
def y_DR_append : MethodName := ⟨"NumberHouseModel$DecimalRows", "append", "(I)V"⟩
def F_DR_append (x2 : Int32) (t0_0 : Int32) (t0_1 : Int32) (t0_2 : Int32) (t0_3 : Int64) (t0_4 : Int32) (t0_5 : Int32) (t0_6 : Int32) (t0_7 : Int32) (t0_8 : Int32) (t0_9 : Int32) (t0_10 : Int32) (t1_0 : (Nat → Int32)) : Int32 × Int32 × Int32 × Int64 × Int32 × Int32 × Int32 × Int32 × Int32 × Int32 × Int32 × (Nat → Int32) := if (0 : Int32) < t0_2 then ((t0_0, t0_1, (t0_2 + 1 : Int32), t0_3, t0_4, t0_5, t0_6, t0_7, t0_8, t0_9, t0_10, (upd t1_0 t0_2.toNatClampNeg x2 : (Nat → Int32)))) else (if x2 ≤ (0 : Int32) then ((t0_0, t0_1, t0_2, t0_3, t0_4, t0_5, t0_6, t0_7, t0_8, t0_9, t0_10, t1_0)) else ((t0_0, t0_1, (t0_2 + 1 : Int32), t0_3, t0_4, t0_5, t0_6, t0_7, t0_8, t0_9, t0_10, (upd t1_0 t0_2.toNatClampNeg x2 : (Nat → Int32)))))
def S_DR_append (x2 : Int32) (t0_0 : Int32) (t0_1 : Int32) (t0_2 : Int32) (t0_3 : Int64) (t0_4 : Int32) (t0_5 : Int32) (t0_6 : Int32) (t0_7 : Int32) (t0_8 : Int32) (t0_9 : Int32) (t0_10 : Int32) (t1_0 : (Nat → Int32)) : Prop := if (0 : Int32) < t0_2 then ((t0_2.toInt ≤ 4399) ∧ (True)) else (if x2 ≤ (0 : Int32) then (True) else ((0 ≤ t0_2.toInt) ∧ (True)))
set_option maxRecDepth 100000 in
set_option maxHeartbeats 4000000 in
theorem X_DR_append (l : Launch) (D : va_G) (g : Nat → ClassId) (q : Nat → Nat) (ws : va_W) (x2 : Int32) (hI : q_I (msh g q) q ws) (t0_0 : Int32) (t0_1 : Int32) (t0_2 : Int32) (t0_3 : Int64) (t0_4 : Int32) (t0_5 : Int32) (t0_6 : Int32) (t0_7 : Int32) (t0_8 : Int32) (t0_9 : Int32) (t0_10 : Int32) (hT0 : ws[134]? = (some (q 134, .inr (14, [.int t0_0, .ref (q 135), .int t0_1, .ref (q 136), .ref (q 137), .ref (q 138), .ref (q 139), .ref (q 140), .int t0_2, .long t0_3, .int t0_4, .int t0_5, .ref (q 141), .int t0_6, .ref (q 142), .int t0_7, .ref (q 143), .int t0_8, .ref (q 144), .int t0_9, .int t0_10])) : Option (Nat × va_E))) (t1_0 : (Nat → Int32)) (hT1 : ws[140]? = (some (q 140, .inl (g 0, (4400 : Int32).toNatClampNeg, .inl t1_0)) : Option (Nat × va_E))) (hS : True ∧ S_DR_append x2 t0_0 t0_1 t0_2 t0_3 t0_4 t0_5 t0_6 t0_7 t0_8 t0_9 t0_10 t1_0) : q_mV l y_DR_append prog_15_method_36_code 2 1 0 0 D g [.ref (q 134), .int x2] ws (fun u => q_I (msh g q) q u ∧ q_un ws u [134, 140] ∧ ∃ (u0_0 : Int32) (u0_1 : Int32) (u0_2 : Int32) (u0_3 : Int64) (u0_4 : Int32) (u0_5 : Int32) (u0_6 : Int32) (u0_7 : Int32) (u0_8 : Int32) (u0_9 : Int32) (u0_10 : Int32) (u1_0 : (Nat → Int32)), u[134]? = (some (q 134, .inr (14, [.int u0_0, .ref (q 135), .int u0_1, .ref (q 136), .ref (q 137), .ref (q 138), .ref (q 139), .ref (q 140), .int u0_2, .long u0_3, .int u0_4, .int u0_5, .ref (q 141), .int u0_6, .ref (q 142), .int u0_7, .ref (q 143), .int u0_8, .ref (q 144), .int u0_9, .int u0_10])) : Option (Nat × va_E)) ∧ u[140]? = (some (q 140, .inl (g 0, (4400 : Int32).toNatClampNeg, .inl u1_0)) : Option (Nat × va_E)) ∧ (u0_2.toInt ≤ 4400) ∧ (t0_0.toInt ≤ u0_0.toInt) ∧ (u0_0.toInt ≤ t0_0.toInt) ∧ (t0_1.toInt ≤ u0_1.toInt) ∧ (u0_1.toInt ≤ t0_1.toInt) ∧ (t0_2.toInt ≤ u0_1.toInt + 4399) ∧ (t0_2.toInt ≤ u0_2.toInt) ∧ (u0_2.toInt ≤ t0_2.toInt + 1) ∧ (t0_3.toInt ≤ u0_3.toInt) ∧ (u0_3.toInt ≤ t0_3.toInt) ∧ (t0_2.toInt ≤ u0_4.toInt + 4399) ∧ (t0_4.toInt ≤ u0_4.toInt) ∧ (u0_4.toInt ≤ t0_4.toInt) ∧ (t0_2.toInt ≤ u0_5.toInt + 4399) ∧ (t0_5.toInt ≤ u0_5.toInt) ∧ (u0_5.toInt ≤ t0_5.toInt) ∧ (t0_6.toInt ≤ u0_6.toInt) ∧ (u0_6.toInt ≤ t0_6.toInt) ∧ (t0_7.toInt ≤ u0_7.toInt) ∧ (u0_7.toInt ≤ t0_7.toInt) ∧ (t0_8.toInt ≤ u0_8.toInt) ∧ (u0_8.toInt ≤ t0_8.toInt) ∧ (t0_2.toInt ≤ u0_9.toInt + 4399) ∧ (t0_9.toInt ≤ u0_9.toInt) ∧ (u0_9.toInt ≤ t0_9.toInt) ∧ (t0_10.toInt ≤ u0_10.toInt) ∧ (u0_10.toInt ≤ t0_10.toInt) ∧ (u0_0, u0_1, u0_2, u0_3, u0_4, u0_5, u0_6, u0_7, u0_8, u0_9, u0_10, u1_0) = (F_DR_append x2 t0_0 t0_1 t0_2 t0_3 t0_4 t0_5 t0_6 t0_7 t0_8 t0_9 t0_10 t1_0)) := by
  intro sz
  refine q_into (by decide) (Nat.le_of_ble_eq_true rfl) ?_
  intro p e s m below meth c ls hsz C0 V hl
  have hx := C0.1
  have hb := C0.2.1
  obtain ⟨btt0_1, hZ9⟩ := n_w134 hI hT0
  obtain ⟨btt0_4, hZ9⟩ := hZ9
  obtain ⟨btt0_5, btt0_9⟩ := hZ9
  replace btt0_1 : q_F (0 ≤ t0_1.toInt ∧ t0_1.toInt ≤ 4100) := btt0_1
  replace btt0_4 : q_F (0 ≤ t0_4.toInt ∧ t0_4.toInt ≤ 1) := btt0_4
  replace btt0_5 : q_F (0 ≤ t0_5.toInt ∧ t0_5.toInt ≤ 1) := btt0_5
  replace btt0_9 : q_F (0 ≤ t0_9.toInt ∧ t0_9.toInt ≤ 12200) := btt0_9
  have hF : q_un ws ws [134, 140] := q_u0
  have hl : lv_has ls 2 [(0, .ref (q 134)), (1, .int x2)] := hl
  refine lv_aload_n hx hb d_15_36_0 rfl (lv_at hl 0 rfl) ?_
  refine q_get (ci := 14) (j := 8) (v := .int t0_2) C0 V i_DR rfl rfl hT0 (by decide) w_2011 rfl d_15_36_1 ?_
  refine lv_if_gt (tgt := 11) hx hb d_15_36_4 (by decide) (fun c20 => ?_) (fun c20 => ?_)
  ·
    have b21 : q_F (0 < t0_2.toInt) := (q_ltI c20)
    refine lv_aload_n hx hb d_15_36_11 rfl (lv_at hl 0 rfl) ?_
    refine q_get (ci := 14) (j := 7) (v := .ref (q 140)) C0 V i_DR rfl rfl hT0 (by decide) w_2010 rfl d_15_36_12 ?_
    refine lv_aload_n hx hb d_15_36_15 rfl (lv_at hl 0 rfl) ?_
    refine q_get (ci := 14) (j := 8) (v := .int t0_2) C0 V i_DR rfl rfl hT0 (by decide) w_2011 rfl d_15_36_16 ?_
    refine lv_iload_n hx hb d_15_36_19 rfl (lv_at hl 1 rfl) ?_
    have ob22 : q_F (t0_2.toInt ≤ 4399) := (by have h := hS; rw [S_DR_append.eq_1] at h; rw [if_pos c20] at h; exact h.2.1)
    refine q_iast C0 V hT1 (q_ix (x := t0_2.toInt) rfl (by first | with_reducible exact q_fe b21 | (have t1 : 0 < t0_2.toInt := b21; omega)) (by have t1 : 0 < t0_2.toInt := b21; have t2 : t0_2.toInt ≤ 4399 := ob22; have e9 : (((4400 : Int32).toNatClampNeg : Nat) : Int) = 4400 := (by decide); omega)) d_15_36_20 (fun H locs w23 hu24 hT1 V => ?_)
    replace hI := n_ai' hI (n_r140 g q).1 hu24 hT1 (q_updB (fun _ => s_bnd) s_bnd)
    replace hT0 := (hu24 _ (by decide)).trans hT0
    replace hF := q_us hF hu24 (by simp)
    obtain ⟨f25, e26⟩ := q_nm (upd t1_0 t0_2.toNatClampNeg x2 : (Nat → Int32))
    rw [e26] at hT1
    refine lv_aload_n hx hb d_15_36_21 rfl (lv_at hl 0 rfl) ?_
    refine lv_dup hx hb d_15_36_22 rfl ?_
    refine q_get (ci := 14) (j := 8) (v := .int t0_2) C0 V i_DR rfl rfl hT0 (by decide) w_2011 rfl d_15_36_23 ?_
    refine lv_iconst (v := 1) hx hb d_15_36_26 (by decide) ?_
    refine lv_iadd hx hb d_15_36_27 ?_
    obtain ⟨a27, e28⟩ := q_nm (t0_2 + 1 : Int32)
    refine q_ti (v := a27) e28 ?_
    have b29 : q_F (a27.toInt = t0_2.toInt + 1) := (by rw [← e28]; show (t0_2 + 1 : Int32).toInt = t0_2.toInt + 1; exact q_addI (x := t0_2.toInt) (y := 1) rfl (by decide) (by have t1 : 0 < t0_2.toInt := b21; have t2 : t0_2.toInt ≤ 4399 := ob22; omega) (by have t1 : 0 < t0_2.toInt := b21; have t2 : t0_2.toInt ≤ 4399 := ob22; omega))
    refine q_put (ci := 14) (j := 8) (v := .int a27) (ty := .int) C0 V i_DR o_DR n_DR rfl rfl hT0 (by decide) w_2011 rfl rfl rfl rfl (Nat.le_of_ble_eq_true rfl) d_15_36_28 (fun H locs w30 hu31 hT0 V => ?_)
    replace hT0 : w30[134]? = (some (q 134, .inr (14, [.int t0_0, .ref (q 135), .int t0_1, .ref (q 136), .ref (q 137), .ref (q 138), .ref (q 139), .ref (q 140), .int a27, .long t0_3, .int t0_4, .int t0_5, .ref (q 141), .int t0_6, .ref (q 142), .int t0_7, .ref (q 143), .int t0_8, .ref (q 144), .int t0_9, .int t0_10])) : Option (Nat × va_E)) := hT0
    replace hI := n_p134 hI hu31 hT0 (by first | with_reducible exact q_fe btt0_1 | exact ⟨(by have t1 : 0 ≤ t0_1.toInt ∧ t0_1.toInt ≤ 4100 := btt0_1; omega), (by have t1 : 0 ≤ t0_1.toInt ∧ t0_1.toInt ≤ 4100 := btt0_1; omega)⟩) (by first | with_reducible exact q_fe btt0_4 | exact ⟨(by have t1 : 0 ≤ t0_4.toInt ∧ t0_4.toInt ≤ 1 := btt0_4; omega), (by have t1 : 0 ≤ t0_4.toInt ∧ t0_4.toInt ≤ 1 := btt0_4; omega)⟩) (by first | with_reducible exact q_fe btt0_5 | exact ⟨(by have t1 : 0 ≤ t0_5.toInt ∧ t0_5.toInt ≤ 1 := btt0_5; omega), (by have t1 : 0 ≤ t0_5.toInt ∧ t0_5.toInt ≤ 1 := btt0_5; omega)⟩) (by first | with_reducible exact q_fe btt0_9 | exact ⟨(by have t1 : 0 ≤ t0_9.toInt ∧ t0_9.toInt ≤ 12200 := btt0_9; omega), (by have t1 : 0 ≤ t0_9.toInt ∧ t0_9.toInt ≤ 12200 := btt0_9; omega)⟩)
    replace hT1 := (hu31 _ (by decide)).trans hT1
    replace hF := q_us hF hu31 (by simp)
    exact q_retv C0 V (⟨hI, hF, t0_0, t0_1, a27, t0_3, t0_4, t0_5, t0_6, t0_7, t0_8, t0_9, t0_10, f25, hT0, hT1, (show a27.toInt ≤ 4400 from (by have t1 : t0_2.toInt ≤ 4399 := ob22; have t2 : a27.toInt = t0_2.toInt + 1 := b29; omega)), (show t0_0.toInt ≤ t0_0.toInt from (by omega)), (show t0_0.toInt ≤ t0_0.toInt from (by omega)), (show t0_1.toInt ≤ t0_1.toInt from (by omega)), (show t0_1.toInt ≤ t0_1.toInt from (by omega)), (show t0_2.toInt ≤ t0_1.toInt + 4399 from (by have t1 : 0 ≤ t0_1.toInt ∧ t0_1.toInt ≤ 4100 := btt0_1; have t2 : t0_2.toInt ≤ 4399 := ob22; omega)), (show t0_2.toInt ≤ a27.toInt from (by first | with_reducible exact q_fe b29 | (have t1 : a27.toInt = t0_2.toInt + 1 := b29; omega))), (show a27.toInt ≤ t0_2.toInt + 1 from (by first | with_reducible exact q_fe b29 | (have t1 : a27.toInt = t0_2.toInt + 1 := b29; omega))), (show t0_3.toInt ≤ t0_3.toInt from (by omega)), (show t0_3.toInt ≤ t0_3.toInt from (by omega)), (show t0_2.toInt ≤ t0_4.toInt + 4399 from (by have t1 : 0 ≤ t0_4.toInt ∧ t0_4.toInt ≤ 1 := btt0_4; have t2 : t0_2.toInt ≤ 4399 := ob22; omega)), (show t0_4.toInt ≤ t0_4.toInt from (by omega)), (show t0_4.toInt ≤ t0_4.toInt from (by omega)), (show t0_2.toInt ≤ t0_5.toInt + 4399 from (by have t1 : 0 ≤ t0_5.toInt ∧ t0_5.toInt ≤ 1 := btt0_5; have t2 : t0_2.toInt ≤ 4399 := ob22; omega)), (show t0_5.toInt ≤ t0_5.toInt from (by omega)), (show t0_5.toInt ≤ t0_5.toInt from (by omega)), (show t0_6.toInt ≤ t0_6.toInt from (by omega)), (show t0_6.toInt ≤ t0_6.toInt from (by omega)), (show t0_7.toInt ≤ t0_7.toInt from (by omega)), (show t0_7.toInt ≤ t0_7.toInt from (by omega)), (show t0_8.toInt ≤ t0_8.toInt from (by omega)), (show t0_8.toInt ≤ t0_8.toInt from (by omega)), (show t0_2.toInt ≤ t0_9.toInt + 4399 from (by have t1 : 0 ≤ t0_9.toInt ∧ t0_9.toInt ≤ 12200 := btt0_9; have t2 : t0_2.toInt ≤ 4399 := ob22; omega)), (show t0_9.toInt ≤ t0_9.toInt from (by omega)), (show t0_9.toInt ≤ t0_9.toInt from (by omega)), (show t0_10.toInt ≤ t0_10.toInt from (by omega)), (show t0_10.toInt ≤ t0_10.toInt from (by omega)), (show (t0_0, t0_1, a27, t0_3, t0_4, t0_5, t0_6, t0_7, t0_8, t0_9, t0_10, f25) = (F_DR_append x2 t0_0 t0_1 t0_2 t0_3 t0_4 t0_5 t0_6 t0_7 t0_8 t0_9 t0_10 t1_0) from (by rw [← e28, ← e26, F_DR_append.eq_1, if_pos c20]))⟩) d_15_36_31
  ·
    have b32 : q_F (t0_2.toInt ≤ 0) := (q_nltI c20)
    refine lv_iload_n hx hb d_15_36_7 rfl (lv_at hl 1 rfl) ?_
    refine lv_if_le (tgt := 31) hx hb d_15_36_8 (by decide) (fun c33 => ?_) (fun c33 => ?_)
    ·
      exact q_retv C0 V (⟨hI, hF, t0_0, t0_1, t0_2, t0_3, t0_4, t0_5, t0_6, t0_7, t0_8, t0_9, t0_10, t1_0, hT0, hT1, (show t0_2.toInt ≤ 4400 from (by first | with_reducible exact q_fe b32 | (have t1 : t0_2.toInt ≤ 0 := b32; omega))), (show t0_0.toInt ≤ t0_0.toInt from (by omega)), (show t0_0.toInt ≤ t0_0.toInt from (by omega)), (show t0_1.toInt ≤ t0_1.toInt from (by omega)), (show t0_1.toInt ≤ t0_1.toInt from (by omega)), (show t0_2.toInt ≤ t0_1.toInt + 4399 from (by have t1 : 0 ≤ t0_1.toInt ∧ t0_1.toInt ≤ 4100 := btt0_1; have t2 : t0_2.toInt ≤ 0 := b32; omega)), (show t0_2.toInt ≤ t0_2.toInt from (by omega)), (show t0_2.toInt ≤ t0_2.toInt + 1 from (by omega)), (show t0_3.toInt ≤ t0_3.toInt from (by omega)), (show t0_3.toInt ≤ t0_3.toInt from (by omega)), (show t0_2.toInt ≤ t0_4.toInt + 4399 from (by have t1 : 0 ≤ t0_4.toInt ∧ t0_4.toInt ≤ 1 := btt0_4; have t2 : t0_2.toInt ≤ 0 := b32; omega)), (show t0_4.toInt ≤ t0_4.toInt from (by omega)), (show t0_4.toInt ≤ t0_4.toInt from (by omega)), (show t0_2.toInt ≤ t0_5.toInt + 4399 from (by have t1 : 0 ≤ t0_5.toInt ∧ t0_5.toInt ≤ 1 := btt0_5; have t2 : t0_2.toInt ≤ 0 := b32; omega)), (show t0_5.toInt ≤ t0_5.toInt from (by omega)), (show t0_5.toInt ≤ t0_5.toInt from (by omega)), (show t0_6.toInt ≤ t0_6.toInt from (by omega)), (show t0_6.toInt ≤ t0_6.toInt from (by omega)), (show t0_7.toInt ≤ t0_7.toInt from (by omega)), (show t0_7.toInt ≤ t0_7.toInt from (by omega)), (show t0_8.toInt ≤ t0_8.toInt from (by omega)), (show t0_8.toInt ≤ t0_8.toInt from (by omega)), (show t0_2.toInt ≤ t0_9.toInt + 4399 from (by have t1 : 0 ≤ t0_9.toInt ∧ t0_9.toInt ≤ 12200 := btt0_9; have t2 : t0_2.toInt ≤ 0 := b32; omega)), (show t0_9.toInt ≤ t0_9.toInt from (by omega)), (show t0_9.toInt ≤ t0_9.toInt from (by omega)), (show t0_10.toInt ≤ t0_10.toInt from (by omega)), (show t0_10.toInt ≤ t0_10.toInt from (by omega)), (show (t0_0, t0_1, t0_2, t0_3, t0_4, t0_5, t0_6, t0_7, t0_8, t0_9, t0_10, t1_0) = (F_DR_append x2 t0_0 t0_1 t0_2 t0_3 t0_4 t0_5 t0_6 t0_7 t0_8 t0_9 t0_10 t1_0) from (by rw [F_DR_append.eq_1, if_neg c20, if_pos c33]))⟩) d_15_36_31
    ·
      refine lv_aload_n hx hb d_15_36_11 rfl (lv_at hl 0 rfl) ?_
      refine q_get (ci := 14) (j := 7) (v := .ref (q 140)) C0 V i_DR rfl rfl hT0 (by decide) w_2010 rfl d_15_36_12 ?_
      refine lv_aload_n hx hb d_15_36_15 rfl (lv_at hl 0 rfl) ?_
      refine q_get (ci := 14) (j := 8) (v := .int t0_2) C0 V i_DR rfl rfl hT0 (by decide) w_2011 rfl d_15_36_16 ?_
      refine lv_iload_n hx hb d_15_36_19 rfl (lv_at hl 1 rfl) ?_
      have ob36 : q_F (0 ≤ t0_2.toInt) := (by have h := hS; rw [S_DR_append.eq_1] at h; rw [if_neg c20] at h; rw [if_neg c33] at h; exact h.2.1)
      refine q_iast C0 V hT1 (q_ix (x := t0_2.toInt) rfl (by first | with_reducible exact q_fe ob36 | (have t1 : 0 ≤ t0_2.toInt := ob36; omega)) (by have t1 : 0 ≤ t0_2.toInt := ob36; have t2 : t0_2.toInt ≤ 0 := b32; have e9 : (((4400 : Int32).toNatClampNeg : Nat) : Int) = 4400 := (by decide); omega)) d_15_36_20 (fun H locs w37 hu38 hT1 V => ?_)
      replace hI := n_ai' hI (n_r140 g q).1 hu38 hT1 (q_updB (fun _ => s_bnd) s_bnd)
      replace hT0 := (hu38 _ (by decide)).trans hT0
      replace hF := q_us hF hu38 (by simp)
      obtain ⟨f39, e40⟩ := q_nm (upd t1_0 t0_2.toNatClampNeg x2 : (Nat → Int32))
      rw [e40] at hT1
      refine lv_aload_n hx hb d_15_36_21 rfl (lv_at hl 0 rfl) ?_
      refine lv_dup hx hb d_15_36_22 rfl ?_
      refine q_get (ci := 14) (j := 8) (v := .int t0_2) C0 V i_DR rfl rfl hT0 (by decide) w_2011 rfl d_15_36_23 ?_
      refine lv_iconst (v := 1) hx hb d_15_36_26 (by decide) ?_
      refine lv_iadd hx hb d_15_36_27 ?_
      obtain ⟨a41, e42⟩ := q_nm (t0_2 + 1 : Int32)
      refine q_ti (v := a41) e42 ?_
      have b43 : q_F (a41.toInt = t0_2.toInt + 1) := (by rw [← e42]; show (t0_2 + 1 : Int32).toInt = t0_2.toInt + 1; exact q_addI (x := t0_2.toInt) (y := 1) rfl (by decide) (by have t1 : 0 ≤ t0_2.toInt := ob36; have t2 : t0_2.toInt ≤ 0 := b32; omega) (by have t1 : 0 ≤ t0_2.toInt := ob36; have t2 : t0_2.toInt ≤ 0 := b32; omega))
      refine q_put (ci := 14) (j := 8) (v := .int a41) (ty := .int) C0 V i_DR o_DR n_DR rfl rfl hT0 (by decide) w_2011 rfl rfl rfl rfl (Nat.le_of_ble_eq_true rfl) d_15_36_28 (fun H locs w44 hu45 hT0 V => ?_)
      replace hT0 : w44[134]? = (some (q 134, .inr (14, [.int t0_0, .ref (q 135), .int t0_1, .ref (q 136), .ref (q 137), .ref (q 138), .ref (q 139), .ref (q 140), .int a41, .long t0_3, .int t0_4, .int t0_5, .ref (q 141), .int t0_6, .ref (q 142), .int t0_7, .ref (q 143), .int t0_8, .ref (q 144), .int t0_9, .int t0_10])) : Option (Nat × va_E)) := hT0
      replace hI := n_p134 hI hu45 hT0 (by first | with_reducible exact q_fe btt0_1 | exact ⟨(by have t1 : 0 ≤ t0_1.toInt ∧ t0_1.toInt ≤ 4100 := btt0_1; omega), (by have t1 : 0 ≤ t0_1.toInt ∧ t0_1.toInt ≤ 4100 := btt0_1; omega)⟩) (by first | with_reducible exact q_fe btt0_4 | exact ⟨(by have t1 : 0 ≤ t0_4.toInt ∧ t0_4.toInt ≤ 1 := btt0_4; omega), (by have t1 : 0 ≤ t0_4.toInt ∧ t0_4.toInt ≤ 1 := btt0_4; omega)⟩) (by first | with_reducible exact q_fe btt0_5 | exact ⟨(by have t1 : 0 ≤ t0_5.toInt ∧ t0_5.toInt ≤ 1 := btt0_5; omega), (by have t1 : 0 ≤ t0_5.toInt ∧ t0_5.toInt ≤ 1 := btt0_5; omega)⟩) (by first | with_reducible exact q_fe btt0_9 | exact ⟨(by have t1 : 0 ≤ t0_9.toInt ∧ t0_9.toInt ≤ 12200 := btt0_9; omega), (by have t1 : 0 ≤ t0_9.toInt ∧ t0_9.toInt ≤ 12200 := btt0_9; omega)⟩)
      replace hT1 := (hu45 _ (by decide)).trans hT1
      replace hF := q_us hF hu45 (by simp)
      exact q_retv C0 V (⟨hI, hF, t0_0, t0_1, a41, t0_3, t0_4, t0_5, t0_6, t0_7, t0_8, t0_9, t0_10, f39, hT0, hT1, (show a41.toInt ≤ 4400 from (by have t1 : t0_2.toInt ≤ 0 := b32; have t2 : a41.toInt = t0_2.toInt + 1 := b43; omega)), (show t0_0.toInt ≤ t0_0.toInt from (by omega)), (show t0_0.toInt ≤ t0_0.toInt from (by omega)), (show t0_1.toInt ≤ t0_1.toInt from (by omega)), (show t0_1.toInt ≤ t0_1.toInt from (by omega)), (show t0_2.toInt ≤ t0_1.toInt + 4399 from (by have t1 : 0 ≤ t0_1.toInt ∧ t0_1.toInt ≤ 4100 := btt0_1; have t2 : t0_2.toInt ≤ 0 := b32; omega)), (show t0_2.toInt ≤ a41.toInt from (by first | with_reducible exact q_fe b43 | (have t1 : a41.toInt = t0_2.toInt + 1 := b43; omega))), (show a41.toInt ≤ t0_2.toInt + 1 from (by first | with_reducible exact q_fe b43 | (have t1 : a41.toInt = t0_2.toInt + 1 := b43; omega))), (show t0_3.toInt ≤ t0_3.toInt from (by omega)), (show t0_3.toInt ≤ t0_3.toInt from (by omega)), (show t0_2.toInt ≤ t0_4.toInt + 4399 from (by have t1 : 0 ≤ t0_4.toInt ∧ t0_4.toInt ≤ 1 := btt0_4; have t2 : t0_2.toInt ≤ 0 := b32; omega)), (show t0_4.toInt ≤ t0_4.toInt from (by omega)), (show t0_4.toInt ≤ t0_4.toInt from (by omega)), (show t0_2.toInt ≤ t0_5.toInt + 4399 from (by have t1 : 0 ≤ t0_5.toInt ∧ t0_5.toInt ≤ 1 := btt0_5; have t2 : t0_2.toInt ≤ 0 := b32; omega)), (show t0_5.toInt ≤ t0_5.toInt from (by omega)), (show t0_5.toInt ≤ t0_5.toInt from (by omega)), (show t0_6.toInt ≤ t0_6.toInt from (by omega)), (show t0_6.toInt ≤ t0_6.toInt from (by omega)), (show t0_7.toInt ≤ t0_7.toInt from (by omega)), (show t0_7.toInt ≤ t0_7.toInt from (by omega)), (show t0_8.toInt ≤ t0_8.toInt from (by omega)), (show t0_8.toInt ≤ t0_8.toInt from (by omega)), (show t0_2.toInt ≤ t0_9.toInt + 4399 from (by have t1 : 0 ≤ t0_9.toInt ∧ t0_9.toInt ≤ 12200 := btt0_9; have t2 : t0_2.toInt ≤ 0 := b32; omega)), (show t0_9.toInt ≤ t0_9.toInt from (by omega)), (show t0_9.toInt ≤ t0_9.toInt from (by omega)), (show t0_10.toInt ≤ t0_10.toInt from (by omega)), (show t0_10.toInt ≤ t0_10.toInt from (by omega)), (show (t0_0, t0_1, a41, t0_3, t0_4, t0_5, t0_6, t0_7, t0_8, t0_9, t0_10, f39) = (F_DR_append x2 t0_0 t0_1 t0_2 t0_3 t0_4 t0_5 t0_6 t0_7 t0_8 t0_9 t0_10 t1_0) from (by rw [← e42, ← e40, F_DR_append.eq_1, if_neg c20, if_neg c33]))⟩) d_15_36_31
theorem d_15_34_0 : decode prog_15_method_34_code 0 = .ok (.iconst 0, 1) := by decide +kernel
theorem d_15_34_1 : decode prog_15_method_34_code 1 = .ok (.istore_n 1, 1) := by decide +kernel
theorem d_15_34_2 : decode prog_15_method_34_code 2 = .ok (.iconst 0, 1) := by decide +kernel
theorem d_15_34_3 : decode prog_15_method_34_code 3 = .ok (.istore_n 2, 1) := by decide +kernel
theorem d_15_34_4 : decode prog_15_method_34_code 4 = .ok (.iload_n 2, 1) := by decide +kernel
theorem d_15_34_5 : decode prog_15_method_34_code 5 = .ok (.aload_n 0, 1) := by decide +kernel
theorem d_15_34_6 : decode prog_15_method_34_code 6 = .ok (.getfield 138, 3) := by decide +kernel
theorem d_15_34_9 : decode prog_15_method_34_code 9 = .ok (.if_icmp .gt 28, 3) := by decide +kernel
theorem d_15_34_37 : decode prog_15_method_34_code 37 = .ok (.iload_n 1, 1) := by decide +kernel
theorem d_15_34_38 : decode prog_15_method_34_code 38 = .ok (.ireturn, 1) := by decide +kernel
theorem d_15_34_12 : decode prog_15_method_34_code 12 = .ok (.iload_n 1, 1) := by decide +kernel
theorem d_15_34_13 : decode prog_15_method_34_code 13 = .ok (.ifCond .ne 12, 3) := by decide +kernel
theorem d_15_34_25 : decode prog_15_method_34_code 25 = .ok (.iconst 1, 1) := by decide +kernel
theorem d_15_34_26 : decode prog_15_method_34_code 26 = .ok (.goto 4, 3) := by decide +kernel
theorem d_15_34_30 : decode prog_15_method_34_code 30 = .ok (.istore_n 1, 1) := by decide +kernel
theorem d_15_34_31 : decode prog_15_method_34_code 31 = .ok (.iinc 2 1, 3) := by decide +kernel
theorem d_15_34_34 : decode prog_15_method_34_code 34 = .ok (.goto (-30), 3) := by decide +kernel
theorem d_15_34_16 : decode prog_15_method_34_code 16 = .ok (.aload_n 0, 1) := by decide +kernel
theorem d_15_34_17 : decode prog_15_method_34_code 17 = .ok (.getfield 35, 3) := by decide +kernel
theorem d_15_34_20 : decode prog_15_method_34_code 20 = .ok (.iload_n 2, 1) := by decide +kernel
theorem d_15_34_21 : decode prog_15_method_34_code 21 = .ok (.iaload, 1) := by decide +kernel
theorem d_15_34_22 : decode prog_15_method_34_code 22 = .ok (.ifCond .eq 7, 3) := by decide +kernel
theorem d_15_34_29 : decode prog_15_method_34_code 29 = .ok (.iconst 0, 1) := by decide +kernel
def y_DR_isLeft : MethodName := ⟨"NumberHouseModel$DecimalRows", "isLeft", "()Z"⟩
def F_DR_isLeft_L4 (t0_0 : Int32) (t0_1 : Int32) (t0_2 : Int32) (t0_3 : Int64) (t0_4 : Int32) (t0_5 : Int32) (t0_6 : Int32) (t0_7 : Int32) (t0_8 : Int32) (t0_9 : Int32) (t0_10 : Int32) (t1_0 : (Nat → Int32)) : Nat → Int32 → Int32 → Int32
  | 0, _, _ => default
  | fm + 1, lx22, lx23 => if t0_7 < lx22 then (lx23) else (if lx23 = (0 : Int32) then (if (t1_0 lx22.toNatClampNeg : Int32) = (0 : Int32) then (F_DR_isLeft_L4 t0_0 t0_1 t0_2 t0_3 t0_4 t0_5 t0_6 t0_7 t0_8 t0_9 t0_10 t1_0 fm (lx22 + 1 : Int32) 0) else (F_DR_isLeft_L4 t0_0 t0_1 t0_2 t0_3 t0_4 t0_5 t0_6 t0_7 t0_8 t0_9 t0_10 t1_0 fm (lx22 + 1 : Int32) 1)) else (F_DR_isLeft_L4 t0_0 t0_1 t0_2 t0_3 t0_4 t0_5 t0_6 t0_7 t0_8 t0_9 t0_10 t1_0 fm (lx22 + 1 : Int32) 1))
def F_DR_isLeft (t0_0 : Int32) (t0_1 : Int32) (t0_2 : Int32) (t0_3 : Int64) (t0_4 : Int32) (t0_5 : Int32) (t0_6 : Int32) (t0_7 : Int32) (t0_8 : Int32) (t0_9 : Int32) (t0_10 : Int32) (t1_0 : (Nat → Int32)) : Int32 := F_DR_isLeft_L4 t0_0 t0_1 t0_2 t0_3 t0_4 t0_5 t0_6 t0_7 t0_8 t0_9 t0_10 t1_0 1000000 0 0
def S_DR_isLeft_L4 (t0_0 : Int32) (t0_1 : Int32) (t0_2 : Int32) (t0_3 : Int64) (t0_4 : Int32) (t0_5 : Int32) (t0_6 : Int32) (t0_7 : Int32) (t0_8 : Int32) (t0_9 : Int32) (t0_10 : Int32) (t1_0 : (Nat → Int32)) : Nat → Int32 → Int32 → Prop
  | 0, _, _ => False
  | fm + 1, lx22, lx23 => if t0_7 < lx22 then (True) else (if lx23 = (0 : Int32) then ((0 ≤ lx22.toInt) ∧ ((lx22.toInt ≤ 2201) ∧ (if (t1_0 lx22.toNatClampNeg : Int32) = (0 : Int32) then (S_DR_isLeft_L4 t0_0 t0_1 t0_2 t0_3 t0_4 t0_5 t0_6 t0_7 t0_8 t0_9 t0_10 t1_0 fm (lx22 + 1 : Int32) 0) else (S_DR_isLeft_L4 t0_0 t0_1 t0_2 t0_3 t0_4 t0_5 t0_6 t0_7 t0_8 t0_9 t0_10 t1_0 fm (lx22 + 1 : Int32) 1)))) else (S_DR_isLeft_L4 t0_0 t0_1 t0_2 t0_3 t0_4 t0_5 t0_6 t0_7 t0_8 t0_9 t0_10 t1_0 fm (lx22 + 1 : Int32) 1))
def S_DR_isLeft (t0_0 : Int32) (t0_1 : Int32) (t0_2 : Int32) (t0_3 : Int64) (t0_4 : Int32) (t0_5 : Int32) (t0_6 : Int32) (t0_7 : Int32) (t0_8 : Int32) (t0_9 : Int32) (t0_10 : Int32) (t1_0 : (Nat → Int32)) : Prop := S_DR_isLeft_L4 t0_0 t0_1 t0_2 t0_3 t0_4 t0_5 t0_6 t0_7 t0_8 t0_9 t0_10 t1_0 1000000 0 0
set_option maxRecDepth 100000 in
set_option maxHeartbeats 4000000 in
theorem X_DR_isLeft (l : Launch) (D : va_G) (g : Nat → ClassId) (q : Nat → Nat) (ws : va_W) (hI : q_I (msh g q) q ws) (t0_0 : Int32) (t0_1 : Int32) (t0_2 : Int32) (t0_3 : Int64) (t0_4 : Int32) (t0_5 : Int32) (t0_6 : Int32) (t0_7 : Int32) (t0_8 : Int32) (t0_9 : Int32) (t0_10 : Int32) (hT0 : ws[134]? = (some (q 134, .inr (14, [.int t0_0, .ref (q 135), .int t0_1, .ref (q 136), .ref (q 137), .ref (q 138), .ref (q 139), .ref (q 140), .int t0_2, .long t0_3, .int t0_4, .int t0_5, .ref (q 141), .int t0_6, .ref (q 142), .int t0_7, .ref (q 143), .int t0_8, .ref (q 144), .int t0_9, .int t0_10])) : Option (Nat × va_E))) (t1_0 : (Nat → Int32)) (hT1 : ws[143]? = (some (q 143, .inl (g 0, (2202 : Int32).toNatClampNeg, .inl t1_0)) : Option (Nat × va_E))) (hS : True ∧ S_DR_isLeft t0_0 t0_1 t0_2 t0_3 t0_4 t0_5 t0_6 t0_7 t0_8 t0_9 t0_10 t1_0) : q_mI l y_DR_isLeft prog_15_method_34_code 3 (.boolean) 1 0 0 D g [.ref (q 134)] ws (fun r u => ws = u ∧ (0 ≤ r.toInt) ∧ (r.toInt ≤ 1) ∧ r = (F_DR_isLeft t0_0 t0_1 t0_2 t0_3 t0_4 t0_5 t0_6 t0_7 t0_8 t0_9 t0_10 t1_0)) := by
  intro sz
  refine q_into (by decide) (Nat.le_of_ble_eq_true rfl) ?_
  intro p e s m below meth c ls hsz C0 V hl
  have hx := C0.1
  have hb := C0.2.1
  have hZ9 := (n_w134 hI hT0).2.2
  obtain ⟨-, btt0_9⟩ := hZ9
  clear btt0_9
  have hl : lv_has ls 3 [(0, .ref (q 134))] := hl
  refine lv_iconst (v := 0) hx hb d_15_34_0 (by decide) ?_
  refine lv_istore_n (lv' := [(1, .int 0), (0, .ref (q 134))]) hx hb d_15_34_1 rfl hl (by decide) rfl (fun ls hl => ?_)
  refine lv_iconst (v := 0) hx hb d_15_34_2 (by decide) ?_
  refine lv_istore_n (lv' := [(2, .int 0), (1, .int 0), (0, .ref (q 134))]) hx hb d_15_34_3 rfl hl (by decide) rfl (fun ls hl => ?_)
  refine q_loop (X := Nat × Int32 × Int32) (fun z H locs ls _ => q_F (0 ≤ z.2.2.toInt) ∧ q_F (z.2.2.toInt ≤ 1) ∧ q_Wd D g (va_A ws sz) s ws H locs ∧ lv_has ls 3 [(2, .int z.2.1), (1, .int z.2.2), (0, .ref (q 134))] ∧ F_DR_isLeft_L4 t0_0 t0_1 t0_2 t0_3 t0_4 t0_5 t0_6 t0_7 t0_8 t0_9 t0_10 t1_0 z.1 z.2.1 z.2.2 = (F_DR_isLeft t0_0 t0_1 t0_2 t0_3 t0_4 t0_5 t0_6 t0_7 t0_8 t0_9 t0_10 t1_0) ∧ True ∧ S_DR_isLeft_L4 t0_0 t0_1 t0_2 t0_3 t0_4 t0_5 t0_6 t0_7 t0_8 t0_9 t0_10 t1_0 z.1 z.2.1 z.2.2) (fun z => z.1) ?_ ((1000000 : Nat), (0 : Int32), (0 : Int32)) _ _ _ ws ⟨(show q_F (0 ≤ 0) from (show 0 ≤ 0 from by omega)), (show q_F (0 ≤ 1) from (show 0 ≤ 1 from by omega)), V, q_lw hl (q_lw1 0 rfl (q_lw1 1 rfl (q_lw1 2 rfl q_lw0))), (show F_DR_isLeft_L4 t0_0 t0_1 t0_2 t0_3 t0_4 t0_5 t0_6 t0_7 t0_8 t0_9 t0_10 t1_0 1000000 0 0 = (F_DR_isLeft t0_0 t0_1 t0_2 t0_3 t0_4 t0_5 t0_6 t0_7 t0_8 t0_9 t0_10 t1_0) from (by rw [F_DR_isLeft.eq_1])), (show True ∧ S_DR_isLeft_L4 t0_0 t0_1 t0_2 t0_3 t0_4 t0_5 t0_6 t0_7 t0_8 t0_9 t0_10 t1_0 1000000 0 0 from (by have h := hS; rw [S_DR_isLeft.eq_1] at h; with_reducible exact h))⟩
  rintro ⟨fu29, lx22, lx23⟩ H locs ls _ ⟨i24, i25, V, hl, hR27, hS28⟩ ih26
  obtain ⟨fm31, rfl⟩ : ∃ m, fu29 = m + 1 := Nat.exists_eq_succ_of_ne_zero (fun e => by subst e; rw [S_DR_isLeft_L4.eq_1] at hS28; exact hS28.2)
  replace i24 : q_F (0 ≤ lx23.toInt) := i24
  replace i25 : q_F (lx23.toInt ≤ 1) := i25
  replace hl : lv_has ls 3 [(2, .int lx22), (1, .int lx23), (0, .ref (q 134))] := hl
  refine lv_iload_n hx hb d_15_34_4 rfl (lv_at hl 0 rfl) ?_
  refine lv_aload_n hx hb d_15_34_5 rfl (lv_at hl 2 rfl) ?_
  refine q_get (ci := 14) (j := 15) (v := .int t0_7) C0 V i_DR rfl rfl hT0 (by decide) w_2018 rfl d_15_34_6 ?_
  refine lv_icmp_gt (tgt := 37) hx hb d_15_34_9 (by decide) (fun c32 => ?_) (fun c32 => ?_)
  ·
    refine lv_iload_n hx hb d_15_34_37 rfl (lv_at hl 1 rfl) ?_
    exact q_retz C0 V (q_nz01 (q_Ile (x := 0) (y := lx23.toInt) (by decide) rfl (by first | with_reducible exact q_fe i24 | (have t1 : 0 ≤ lx23.toInt := i24; omega))) (q_Ile (x := lx23.toInt) (y := 1) rfl (by decide) (by first | with_reducible exact q_fe i25 | (have t1 : lx23.toInt ≤ 1 := i25; omega)))) (⟨rfl, (show 0 ≤ lx23.toInt from (by first | with_reducible exact q_fe i24 | (have t1 : 0 ≤ lx23.toInt := i24; omega))), (show lx23.toInt ≤ 1 from (by first | with_reducible exact q_fe i25 | (have t1 : lx23.toInt ≤ 1 := i25; omega))), (show lx23 = (F_DR_isLeft t0_0 t0_1 t0_2 t0_3 t0_4 t0_5 t0_6 t0_7 t0_8 t0_9 t0_10 t1_0) from Eq.trans (by rw [F_DR_isLeft_L4.eq_2, if_pos c32]) hR27)⟩) d_15_34_38
  ·
    refine lv_iload_n hx hb d_15_34_12 rfl (lv_at hl 1 rfl) ?_
    refine lv_if_ne (tgt := 25) hx hb d_15_34_13 (by decide) (fun c35 => ?_) (fun c35 => ?_)
    ·
      refine lv_iconst (v := 1) hx hb d_15_34_25 (by decide) ?_
      refine lv_goto (tgt := 30) hx hb d_15_34_26 (by decide) ?_
      refine lv_istore_n (lv' := [(1, .int 1), (2, .int lx22), (0, .ref (q 134))]) hx hb d_15_34_30 rfl hl (by decide) rfl (fun ls hl => ?_)
      obtain ⟨a37, e38⟩ := q_nm (lx22 + 1 : Int32)
      refine lv_iinc (v := a37) (lv' := [(2, .int a37), (1, .int 1), (0, .ref (q 134))]) hx hb d_15_34_31 hl (k := 1) rfl (e38) (by decide) rfl (fun ls hl => ?_)
      refine lv_goto (tgt := 4) hx hb d_15_34_34 (by decide) ?_
      exact ih26 ((fm31 : Nat), (a37 : Int32), (1 : Int32)) _ _ _ ws (Nat.lt_succ_self _) ⟨(show q_F (0 ≤ 1) from (show 0 ≤ 1 from by omega)), (show q_F (1 ≤ 1) from (show 1 ≤ 1 from by omega)), V, q_lw hl (q_lw1 0 rfl (q_lw1 1 rfl (q_lw1 2 rfl q_lw0))), (show F_DR_isLeft_L4 t0_0 t0_1 t0_2 t0_3 t0_4 t0_5 t0_6 t0_7 t0_8 t0_9 t0_10 t1_0 fm31 a37 1 = (F_DR_isLeft t0_0 t0_1 t0_2 t0_3 t0_4 t0_5 t0_6 t0_7 t0_8 t0_9 t0_10 t1_0) from Eq.trans (by rw [← e38, F_DR_isLeft_L4.eq_2, if_neg c32, if_neg c35]) hR27), (show True ∧ S_DR_isLeft_L4 t0_0 t0_1 t0_2 t0_3 t0_4 t0_5 t0_6 t0_7 t0_8 t0_9 t0_10 t1_0 fm31 a37 1 from (by rw [← e38]; have h := hS28; rw [S_DR_isLeft_L4.eq_2] at h; rw [if_neg c32] at h; rw [if_neg c35] at h; with_reducible exact h))⟩
    ·
      refine lv_aload_n hx hb d_15_34_16 rfl (lv_at hl 2 rfl) ?_
      refine q_get (ci := 14) (j := 16) (v := .ref (q 143)) C0 V i_DR rfl rfl hT0 (by decide) w_2019 rfl d_15_34_17 ?_
      refine lv_iload_n hx hb d_15_34_20 rfl (lv_at hl 0 rfl) ?_
      have ob40 : q_F (0 ≤ lx22.toInt) := (by have h := hS28; rw [S_DR_isLeft_L4.eq_2] at h; rw [if_neg c32] at h; rw [if_pos c35] at h; exact h.2.1)
      have ob41 : q_F (lx22.toInt ≤ 2201) := (by have h := hS28; rw [S_DR_isLeft_L4.eq_2] at h; rw [if_neg c32] at h; rw [if_pos c35] at h; replace h := q_s2 h; exact h.2.1)
      refine q_iald C0 V hT1 (q_ix (x := lx22.toInt) rfl (by first | with_reducible exact q_fe ob40 | (have t1 : 0 ≤ lx22.toInt := ob40; omega)) (by have t1 : 0 ≤ lx22.toInt := ob40; have t2 : lx22.toInt ≤ 2201 := ob41; have e9 : (((2202 : Int32).toNatClampNeg : Nat) : Int) = 2202 := (by decide); omega)) d_15_34_21 ?_
      obtain ⟨a42, e43⟩ := q_nm (t1_0 lx22.toNatClampNeg : Int32)
      refine q_ti (v := a42) e43 ?_
      refine lv_if_eq (tgt := 29) hx hb d_15_34_22 (by decide) (fun c44 => ?_) (fun c44 => ?_)
      ·
        refine lv_iconst (v := 0) hx hb d_15_34_29 (by decide) ?_
        refine lv_istore_n (lv' := [(1, .int 0), (2, .int lx22), (0, .ref (q 134))]) hx hb d_15_34_30 rfl hl (by decide) rfl (fun ls hl => ?_)
        obtain ⟨a46, e47⟩ := q_nm (lx22 + 1 : Int32)
        refine lv_iinc (v := a46) (lv' := [(2, .int a46), (1, .int 0), (0, .ref (q 134))]) hx hb d_15_34_31 hl (k := 1) rfl (e47) (by decide) rfl (fun ls hl => ?_)
        refine lv_goto (tgt := 4) hx hb d_15_34_34 (by decide) ?_
        exact ih26 ((fm31 : Nat), (a46 : Int32), (0 : Int32)) _ _ _ ws (Nat.lt_succ_self _) ⟨(show q_F (0 ≤ 0) from (show 0 ≤ 0 from by omega)), (show q_F (0 ≤ 1) from (show 0 ≤ 1 from by omega)), V, q_lw hl (q_lw1 0 rfl (q_lw1 1 rfl (q_lw1 2 rfl q_lw0))), (show F_DR_isLeft_L4 t0_0 t0_1 t0_2 t0_3 t0_4 t0_5 t0_6 t0_7 t0_8 t0_9 t0_10 t1_0 fm31 a46 0 = (F_DR_isLeft t0_0 t0_1 t0_2 t0_3 t0_4 t0_5 t0_6 t0_7 t0_8 t0_9 t0_10 t1_0) from Eq.trans (by have c44x := c44; rw [← e43] at c44x; rw [← e47, F_DR_isLeft_L4.eq_2, if_neg c32, if_pos c35, if_pos c44x]) hR27), (show True ∧ S_DR_isLeft_L4 t0_0 t0_1 t0_2 t0_3 t0_4 t0_5 t0_6 t0_7 t0_8 t0_9 t0_10 t1_0 fm31 a46 0 from (by rw [← e47]; have h := hS28; rw [S_DR_isLeft_L4.eq_2] at h; rw [if_neg c32] at h; rw [if_pos c35] at h; replace h := q_s2 h; replace h := q_s2 h; have c44x := c44; rw [← e43] at c44x; rw [if_pos c44x] at h; with_reducible exact h))⟩
      ·
        refine lv_iconst (v := 1) hx hb d_15_34_25 (by decide) ?_
        refine lv_goto (tgt := 30) hx hb d_15_34_26 (by decide) ?_
        refine lv_istore_n (lv' := [(1, .int 1), (2, .int lx22), (0, .ref (q 134))]) hx hb d_15_34_30 rfl hl (by decide) rfl (fun ls hl => ?_)
        obtain ⟨a50, e51⟩ := q_nm (lx22 + 1 : Int32)
        refine lv_iinc (v := a50) (lv' := [(2, .int a50), (1, .int 1), (0, .ref (q 134))]) hx hb d_15_34_31 hl (k := 1) rfl (e51) (by decide) rfl (fun ls hl => ?_)
        refine lv_goto (tgt := 4) hx hb d_15_34_34 (by decide) ?_
        exact ih26 ((fm31 : Nat), (a50 : Int32), (1 : Int32)) _ _ _ ws (Nat.lt_succ_self _) ⟨(show q_F (0 ≤ 1) from (show 0 ≤ 1 from by omega)), (show q_F (1 ≤ 1) from (show 1 ≤ 1 from by omega)), V, q_lw hl (q_lw1 0 rfl (q_lw1 1 rfl (q_lw1 2 rfl q_lw0))), (show F_DR_isLeft_L4 t0_0 t0_1 t0_2 t0_3 t0_4 t0_5 t0_6 t0_7 t0_8 t0_9 t0_10 t1_0 fm31 a50 1 = (F_DR_isLeft t0_0 t0_1 t0_2 t0_3 t0_4 t0_5 t0_6 t0_7 t0_8 t0_9 t0_10 t1_0) from Eq.trans (by have c44x := c44; rw [← e43] at c44x; rw [← e51, F_DR_isLeft_L4.eq_2, if_neg c32, if_pos c35, if_neg c44x]) hR27), (show True ∧ S_DR_isLeft_L4 t0_0 t0_1 t0_2 t0_3 t0_4 t0_5 t0_6 t0_7 t0_8 t0_9 t0_10 t1_0 fm31 a50 1 from (by rw [← e51]; have h := hS28; rw [S_DR_isLeft_L4.eq_2] at h; rw [if_neg c32] at h; rw [if_pos c35] at h; replace h := q_s2 h; replace h := q_s2 h; have c44x := c44; rw [← e43] at c44x; rw [if_neg c44x] at h; with_reducible exact h))⟩

