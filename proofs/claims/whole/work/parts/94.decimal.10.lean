theorem d_15_29_0 : decode prog_15_method_29_code 0 = .ok (.aload_n 0, 1) := by decide +kernel
theorem d_15_29_1 : decode prog_15_method_29_code 1 = .ok (.iload_n 1, 1) := by decide +kernel
theorem d_15_29_2 : decode prog_15_method_29_code 2 = .ok (.invokestatic 113, 3) := by decide +kernel
theorem d_15_29_31 : decode prog_15_method_29_code 31 = .ok (.putfield 41, 3) := by decide +kernel
theorem d_15_29_34 : decode prog_15_method_29_code 34 = .ok (.aload_n 0, 1) := by decide +kernel
theorem d_15_29_35 : decode prog_15_method_29_code 35 = .ok (.getfield 41, 3) := by decide +kernel
theorem d_15_29_38 : decode prog_15_method_29_code 38 = .ok (.ifCond .le 4, 3) := by decide +kernel
theorem d_15_29_42 : decode prog_15_method_29_code 42 = .ok (.aload_n 0, 1) := by decide +kernel
theorem d_15_29_43 : decode prog_15_method_29_code 43 = .ok (.iconst 2, 1) := by decide +kernel
theorem d_15_29_44 : decode prog_15_method_29_code 44 = .ok (.putfield 66, 3) := by decide +kernel
theorem d_15_29_47 : decode prog_15_method_29_code 47 = .ok (.aload_n 0, 1) := by decide +kernel
theorem d_15_29_48 : decode prog_15_method_29_code 48 = .ok (.iconst 1, 1) := by decide +kernel
theorem d_15_29_49 : decode prog_15_method_29_code 49 = .ok (.putfield 45, 3) := by decide +kernel
theorem d_15_29_52 : decode prog_15_method_29_code 52 = .ok (.aload_n 0, 1) := by decide +kernel
theorem d_15_29_53 : decode prog_15_method_29_code 53 = .ok (.getfield 26, 3) := by decide +kernel
theorem d_15_29_56 : decode prog_15_method_29_code 56 = .ok (.iconst 0, 1) := by decide +kernel
theorem d_15_29_57 : decode prog_15_method_29_code 57 = .ok (.iconst 1, 1) := by decide +kernel
theorem d_15_29_58 : decode prog_15_method_29_code 58 = .ok (.iastore, 1) := by decide +kernel
theorem d_15_29_59 : decode prog_15_method_29_code 59 = .ok (.aload_n 0, 1) := by decide +kernel
theorem d_15_29_60 : decode prog_15_method_29_code 60 = .ok (.lconst 0, 1) := by decide +kernel
theorem d_15_29_61 : decode prog_15_method_29_code 61 = .ok (.putfield 48, 3) := by decide +kernel
theorem d_15_29_64 : decode prog_15_method_29_code 64 = .ok (.aload_n 0, 1) := by decide +kernel
theorem d_15_29_65 : decode prog_15_method_29_code 65 = .ok (.iconst 0, 1) := by decide +kernel
theorem d_15_29_66 : decode prog_15_method_29_code 66 = .ok (.putfield 52, 3) := by decide +kernel
theorem d_15_29_69 : decode prog_15_method_29_code 69 = .ok (.aload_n 0, 1) := by decide +kernel
theorem d_15_29_70 : decode prog_15_method_29_code 70 = .ok (.iconst 0, 1) := by decide +kernel
theorem d_15_29_71 : decode prog_15_method_29_code 71 = .ok (.putfield 56, 3) := by decide +kernel
theorem d_15_29_74 : decode prog_15_method_29_code 74 = .ok (.iconst 0, 1) := by decide +kernel
theorem d_15_29_75 : decode prog_15_method_29_code 75 = .ok (.istore 4, 2) := by decide +kernel
theorem d_15_29_77 : decode prog_15_method_29_code 77 = .ok (.iload 4, 2) := by decide +kernel
theorem d_15_29_79 : decode prog_15_method_29_code 79 = .ok (.iload_n 2, 1) := by decide +kernel
theorem d_15_29_80 : decode prog_15_method_29_code 80 = .ok (.if_icmp .ge 23, 3) := by decide +kernel
theorem d_15_29_103 : decode prog_15_method_29_code 103 = .ok (.aload_n 0, 1) := by decide +kernel
theorem d_15_29_104 : decode prog_15_method_29_code 104 = .ok (.iload_n 3, 1) := by decide +kernel
theorem d_15_29_105 : decode prog_15_method_29_code 105 = .ok (.invokevirtual 89, 3) := by decide +kernel
theorem d_15_29_108 : decode prog_15_method_29_code 108 = .ok (.return_, 1) := by decide +kernel
theorem d_15_29_83 : decode prog_15_method_29_code 83 = .ok (.aload_n 0, 1) := by decide +kernel
theorem d_15_29_84 : decode prog_15_method_29_code 84 = .ok (.iload_n 1, 1) := by decide +kernel
theorem d_15_29_85 : decode prog_15_method_29_code 85 = .ok (.invokevirtual 135, 3) := by decide +kernel
theorem d_15_29_88 : decode prog_15_method_29_code 88 = .ok (.ifCond .ne 9, 3) := by decide +kernel
theorem d_15_29_97 : decode prog_15_method_29_code 97 = .ok (.iinc 4 1, 3) := by decide +kernel
theorem d_15_29_100 : decode prog_15_method_29_code 100 = .ok (.goto (-23), 3) := by decide +kernel
theorem d_15_29_91 : decode prog_15_method_29_code 91 = .ok (.aload_n 0, 1) := by decide +kernel
theorem d_15_29_92 : decode prog_15_method_29_code 92 = .ok (.iconst 2, 1) := by decide +kernel
theorem d_15_29_93 : decode prog_15_method_29_code 93 = .ok (.putfield 41, 3) := by decide +kernel
theorem d_15_29_96 : decode prog_15_method_29_code 96 = .ok (.return_, 1) := by decide +kernel
theorem d_15_29_41 : decode prog_15_method_29_code 41 = .ok (.return_, 1) := by decide +kernel
theorem d_15_29_26 : decode prog_15_method_29_code 26 = .ok (.iconst 1, 1) := by decide +kernel
theorem d_15_29_27 : decode prog_15_method_29_code 27 = .ok (.goto 4, 3) := by decide +kernel
theorem d_15_29_5 : decode prog_15_method_29_code 5 = .ok (.ifCond .ne 21, 3) := by decide +kernel
theorem d_15_29_8 : decode prog_15_method_29_code 8 = .ok (.iload_n 3, 1) := by decide +kernel
theorem d_15_29_9 : decode prog_15_method_29_code 9 = .ok (.invokestatic 113, 3) := by decide +kernel
theorem d_15_29_12 : decode prog_15_method_29_code 12 = .ok (.ifCond .ne 14, 3) := by decide +kernel
theorem d_15_29_15 : decode prog_15_method_29_code 15 = .ok (.iload_n 2, 1) := by decide +kernel
theorem d_15_29_16 : decode prog_15_method_29_code 16 = .ok (.ifCond .lt 10, 3) := by decide +kernel
theorem d_15_29_19 : decode prog_15_method_29_code 19 = .ok (.iload_n 2, 1) := by decide +kernel
theorem d_15_29_20 : decode prog_15_method_29_code 20 = .ok (.sipush 999, 3) := by decide +kernel
theorem d_15_29_23 : decode prog_15_method_29_code 23 = .ok (.if_icmp .le 7, 3) := by decide +kernel
theorem d_15_29_30 : decode prog_15_method_29_code 30 = .ok (.iconst 0, 1) := by decide +kernel
def y_DR_power : MethodName := ⟨"NumberHouseModel$DecimalRows", "power", "(III)V"⟩
def F_DR_power_c105 (K_F_DR_power_L77 : Int32 → Int32 → Int32 → Int32 → Int64 → Int32 → Int32 → Int32 → Int32 → Int32 → Int32 → Int32 → (Nat → Int32) → (Nat → Int32) → (Int32 × Int32 × Int32 × Int64 × Int32 × Int32 × Int32 × Int32 × Int32 × Int32 × Int32 × (Nat → Int32) × (Nat → Int32) × (Nat → Int32) × (Nat → Int32) × (Nat → Int32) × (Nat → Int32))) (x2 : Int32) (x3 : Int32) (x4 : Int32) (t0_0 : Int32) (t0_1 : Int32) (t0_2 : Int32) (t0_3 : Int64) (t0_4 : Int32) (t0_5 : Int32) (t0_6 : Int32) (t0_7 : Int32) (t0_8 : Int32) (t0_9 : Int32) (t0_10 : Int32) (t1_0 : (Nat → Int32)) (t2_0 : (Nat → Int32)) (t3_0 : (Nat → Int32)) (t4_0 : (Nat → Int32)) (t5_0 : (Nat → Int32)) (t6_0 : (Nat → Int32)) (lx42 : Int32) (lx77 : Int32) (lx78 : Int32) (lx79 : Int32) (lx80 : Int32) (lx81 : Int64) (lx82 : Int32) (lx83 : Int32) (lx84 : Int32) (lx85 : Int32) (lx86 : Int32) (lx87 : Int32) (lx88 : Int32) (lx89 : (Nat → Int32)) (lx90 : (Nat → Int32)) (p175 : (Int32 × Int32 × Int32 × Int64 × Int32 × Int32 × Int32 × Int32 × Int32 × Int32 × Int32 × (Nat → Int32) × (Nat → Int32) × (Nat → Int32) × (Nat → Int32) × (Nat → Int32))) : Int32 × Int32 × Int32 × Int64 × Int32 × Int32 × Int32 × Int32 × Int32 × Int32 × Int32 × (Nat → Int32) × (Nat → Int32) × (Nat → Int32) × (Nat → Int32) × (Nat → Int32) × (Nat → Int32) := ((p175.1 : Int32), (p175.2.1 : Int32), (p175.2.2.1 : Int32), (p175.2.2.2.1 : Int64), (p175.2.2.2.2.1 : Int32), (p175.2.2.2.2.2.1 : Int32), (p175.2.2.2.2.2.2.1 : Int32), (p175.2.2.2.2.2.2.2.1 : Int32), (p175.2.2.2.2.2.2.2.2.1 : Int32), (p175.2.2.2.2.2.2.2.2.2.1 : Int32), (p175.2.2.2.2.2.2.2.2.2.2.1 : Int32), (p175.2.2.2.2.2.2.2.2.2.2.2.1 : (Nat → Int32)), (p175.2.2.2.2.2.2.2.2.2.2.2.2.1 : (Nat → Int32)), (p175.2.2.2.2.2.2.2.2.2.2.2.2.2.1 : (Nat → Int32)), (p175.2.2.2.2.2.2.2.2.2.2.2.2.2.2.1 : (Nat → Int32)), (p175.2.2.2.2.2.2.2.2.2.2.2.2.2.2.2 : (Nat → Int32)), lx90)
def F_DR_power_c85 (K_F_DR_power_L77 : Int32 → Int32 → Int32 → Int32 → Int64 → Int32 → Int32 → Int32 → Int32 → Int32 → Int32 → Int32 → (Nat → Int32) → (Nat → Int32) → (Int32 × Int32 × Int32 × Int64 × Int32 × Int32 × Int32 × Int32 × Int32 × Int32 × Int32 × (Nat → Int32) × (Nat → Int32) × (Nat → Int32) × (Nat → Int32) × (Nat → Int32) × (Nat → Int32))) (x2 : Int32) (x3 : Int32) (x4 : Int32) (t0_0 : Int32) (t0_1 : Int32) (t0_2 : Int32) (t0_3 : Int64) (t0_4 : Int32) (t0_5 : Int32) (t0_6 : Int32) (t0_7 : Int32) (t0_8 : Int32) (t0_9 : Int32) (t0_10 : Int32) (t1_0 : (Nat → Int32)) (t2_0 : (Nat → Int32)) (t3_0 : (Nat → Int32)) (t4_0 : (Nat → Int32)) (t5_0 : (Nat → Int32)) (t6_0 : (Nat → Int32)) (lx42 : Int32) (lx77 : Int32) (lx78 : Int32) (lx79 : Int32) (lx80 : Int32) (lx81 : Int64) (lx82 : Int32) (lx83 : Int32) (lx84 : Int32) (lx85 : Int32) (lx86 : Int32) (lx87 : Int32) (lx88 : Int32) (lx89 : (Nat → Int32)) (lx90 : (Nat → Int32)) (p251 : (Int32 × Int32 × Int32 × Int32 × Int64 × Int32 × Int32 × Int32 × Int32 × Int32 × Int32 × Int32 × (Nat → Int32) × (Nat → Int32))) : Int32 × Int32 × Int32 × Int64 × Int32 × Int32 × Int32 × Int32 × Int32 × Int32 × Int32 × (Nat → Int32) × (Nat → Int32) × (Nat → Int32) × (Nat → Int32) × (Nat → Int32) × (Nat → Int32) := if (p251.1 : Int32) = (0 : Int32) then (((2 : Int32), (p251.2.2.1 : Int32), (p251.2.2.2.1 : Int32), (p251.2.2.2.2.1 : Int64), (p251.2.2.2.2.2.1 : Int32), (p251.2.2.2.2.2.2.1 : Int32), (p251.2.2.2.2.2.2.2.1 : Int32), (p251.2.2.2.2.2.2.2.2.1 : Int32), (p251.2.2.2.2.2.2.2.2.2.1 : Int32), (p251.2.2.2.2.2.2.2.2.2.2.1 : Int32), (p251.2.2.2.2.2.2.2.2.2.2.2.1 : Int32), t1_0, t2_0, t3_0, t4_0, (p251.2.2.2.2.2.2.2.2.2.2.2.2.1 : (Nat → Int32)), (p251.2.2.2.2.2.2.2.2.2.2.2.2.2 : (Nat → Int32)))) else (K_F_DR_power_L77 (lx77 + 1 : Int32) (p251.2.1 : Int32) (p251.2.2.1 : Int32) (p251.2.2.2.1 : Int32) (p251.2.2.2.2.1 : Int64) (p251.2.2.2.2.2.1 : Int32) (p251.2.2.2.2.2.2.1 : Int32) (p251.2.2.2.2.2.2.2.1 : Int32) (p251.2.2.2.2.2.2.2.2.1 : Int32) (p251.2.2.2.2.2.2.2.2.2.1 : Int32) (p251.2.2.2.2.2.2.2.2.2.2.1 : Int32) (p251.2.2.2.2.2.2.2.2.2.2.2.1 : Int32) (p251.2.2.2.2.2.2.2.2.2.2.2.2.1 : (Nat → Int32)) (p251.2.2.2.2.2.2.2.2.2.2.2.2.2 : (Nat → Int32)))
def F_DR_power_L77 (x2 : Int32) (x3 : Int32) (x4 : Int32) (t0_0 : Int32) (t0_1 : Int32) (t0_2 : Int32) (t0_3 : Int64) (t0_4 : Int32) (t0_5 : Int32) (t0_6 : Int32) (t0_7 : Int32) (t0_8 : Int32) (t0_9 : Int32) (t0_10 : Int32) (t1_0 : (Nat → Int32)) (t2_0 : (Nat → Int32)) (t3_0 : (Nat → Int32)) (t4_0 : (Nat → Int32)) (t5_0 : (Nat → Int32)) (t6_0 : (Nat → Int32)) (lx42 : Int32) : Nat → Int32 → Int32 → Int32 → Int32 → Int64 → Int32 → Int32 → Int32 → Int32 → Int32 → Int32 → Int32 → (Nat → Int32) → (Nat → Int32) → (Int32 × Int32 × Int32 × Int64 × Int32 × Int32 × Int32 × Int32 × Int32 × Int32 × Int32 × (Nat → Int32) × (Nat → Int32) × (Nat → Int32) × (Nat → Int32) × (Nat → Int32) × (Nat → Int32))
  | 0, _, _, _, _, _, _, _, _, _, _, _, _, _, _ => default
  | fm + 1, lx77, lx78, lx79, lx80, lx81, lx82, lx83, lx84, lx85, lx86, lx87, lx88, lx89, lx90 => if x3 ≤ lx77 then (F_DR_power_c105 (F_DR_power_L77 x2 x3 x4 t0_0 t0_1 t0_2 t0_3 t0_4 t0_5 t0_6 t0_7 t0_8 t0_9 t0_10 t1_0 t2_0 t3_0 t4_0 t5_0 t6_0 lx42 fm) x2 x3 x4 t0_0 t0_1 t0_2 t0_3 t0_4 t0_5 t0_6 t0_7 t0_8 t0_9 t0_10 t1_0 t2_0 t3_0 t4_0 t5_0 t6_0 lx42 lx77 lx78 lx79 lx80 lx81 lx82 lx83 lx84 lx85 lx86 lx87 lx88 lx89 lx90 ((F_DR_store x4 lx78 lx79 lx80 lx81 lx82 lx83 lx84 lx85 lx86 lx87 lx88 t1_0 t2_0 t3_0 t4_0 lx89) : (Int32 × Int32 × Int32 × Int64 × Int32 × Int32 × Int32 × Int32 × Int32 × Int32 × Int32 × (Nat → Int32) × (Nat → Int32) × (Nat → Int32) × (Nat → Int32) × (Nat → Int32)))) else (F_DR_power_c85 (F_DR_power_L77 x2 x3 x4 t0_0 t0_1 t0_2 t0_3 t0_4 t0_5 t0_6 t0_7 t0_8 t0_9 t0_10 t1_0 t2_0 t3_0 t4_0 t5_0 t6_0 lx42 fm) x2 x3 x4 t0_0 t0_1 t0_2 t0_3 t0_4 t0_5 t0_6 t0_7 t0_8 t0_9 t0_10 t1_0 t2_0 t3_0 t4_0 t5_0 t6_0 lx42 lx77 lx78 lx79 lx80 lx81 lx82 lx83 lx84 lx85 lx86 lx87 lx88 lx89 lx90 ((F_DR_times x2 lx78 lx79 lx80 lx81 lx82 lx83 lx84 lx85 lx86 lx87 lx88 t1_0 t2_0 t3_0 t4_0 lx89 lx90) : (Int32 × Int32 × Int32 × Int32 × Int64 × Int32 × Int32 × Int32 × Int32 × Int32 × Int32 × Int32 × (Nat → Int32) × (Nat → Int32))))
def F_DR_power_J31 (x2 : Int32) (x3 : Int32) (x4 : Int32) (t0_0 : Int32) (t0_1 : Int32) (t0_2 : Int32) (t0_3 : Int64) (t0_4 : Int32) (t0_5 : Int32) (t0_6 : Int32) (t0_7 : Int32) (t0_8 : Int32) (t0_9 : Int32) (t0_10 : Int32) (t1_0 : (Nat → Int32)) (t2_0 : (Nat → Int32)) (t3_0 : (Nat → Int32)) (t4_0 : (Nat → Int32)) (t5_0 : (Nat → Int32)) (t6_0 : (Nat → Int32)) (lx42 : Int32) : Int32 × Int32 × Int32 × Int64 × Int32 × Int32 × Int32 × Int32 × Int32 × Int32 × Int32 × (Nat → Int32) × (Nat → Int32) × (Nat → Int32) × (Nat → Int32) × (Nat → Int32) × (Nat → Int32) := if lx42 ≤ (0 : Int32) then (F_DR_power_L77 x2 x3 x4 t0_0 t0_1 t0_2 t0_3 t0_4 t0_5 t0_6 t0_7 t0_8 t0_9 t0_10 t1_0 t2_0 t3_0 t4_0 t5_0 t6_0 lx42 ((x3.toInt - (0 : Int32).toInt).toNat + 1) 0 lx42 t0_1 1 0 0 0 t0_6 t0_7 t0_8 t0_9 2 (upd t5_0 (0 : Int32).toNatClampNeg 1 : (Nat → Int32)) t6_0) else ((lx42, t0_1, t0_2, t0_3, t0_4, t0_5, t0_6, t0_7, t0_8, t0_9, t0_10, t1_0, t2_0, t3_0, t4_0, t5_0, t6_0))
def F_DR_power_J26 (x2 : Int32) (x3 : Int32) (x4 : Int32) (t0_0 : Int32) (t0_1 : Int32) (t0_2 : Int32) (t0_3 : Int64) (t0_4 : Int32) (t0_5 : Int32) (t0_6 : Int32) (t0_7 : Int32) (t0_8 : Int32) (t0_9 : Int32) (t0_10 : Int32) (t1_0 : (Nat → Int32)) (t2_0 : (Nat → Int32)) (t3_0 : (Nat → Int32)) (t4_0 : (Nat → Int32)) (t5_0 : (Nat → Int32)) (t6_0 : (Nat → Int32)) : Int32 × Int32 × Int32 × Int64 × Int32 × Int32 × Int32 × Int32 × Int32 × Int32 × Int32 × (Nat → Int32) × (Nat → Int32) × (Nat → Int32) × (Nat → Int32) × (Nat → Int32) × (Nat → Int32) := F_DR_power_J31 x2 x3 x4 t0_0 t0_1 t0_2 t0_3 t0_4 t0_5 t0_6 t0_7 t0_8 t0_9 t0_10 t1_0 t2_0 t3_0 t4_0 t5_0 t6_0 1
def F_DR_power (x2 : Int32) (x3 : Int32) (x4 : Int32) (t0_0 : Int32) (t0_1 : Int32) (t0_2 : Int32) (t0_3 : Int64) (t0_4 : Int32) (t0_5 : Int32) (t0_6 : Int32) (t0_7 : Int32) (t0_8 : Int32) (t0_9 : Int32) (t0_10 : Int32) (t1_0 : (Nat → Int32)) (t2_0 : (Nat → Int32)) (t3_0 : (Nat → Int32)) (t4_0 : (Nat → Int32)) (t5_0 : (Nat → Int32)) (t6_0 : (Nat → Int32)) : Int32 × Int32 × Int32 × Int64 × Int32 × Int32 × Int32 × Int32 × Int32 × Int32 × Int32 × (Nat → Int32) × (Nat → Int32) × (Nat → Int32) × (Nat → Int32) × (Nat → Int32) × (Nat → Int32) := if ((F_DR_no x2) : Int32) = (0 : Int32) then (if ((F_DR_no x4) : Int32) = (0 : Int32) then (if x3 < (0 : Int32) then (F_DR_power_J26 x2 x3 x4 t0_0 t0_1 t0_2 t0_3 t0_4 t0_5 t0_6 t0_7 t0_8 t0_9 t0_10 t1_0 t2_0 t3_0 t4_0 t5_0 t6_0) else (if x3 ≤ (999 : Int32) then (F_DR_power_J31 x2 x3 x4 t0_0 t0_1 t0_2 t0_3 t0_4 t0_5 t0_6 t0_7 t0_8 t0_9 t0_10 t1_0 t2_0 t3_0 t4_0 t5_0 t6_0 0) else (F_DR_power_J26 x2 x3 x4 t0_0 t0_1 t0_2 t0_3 t0_4 t0_5 t0_6 t0_7 t0_8 t0_9 t0_10 t1_0 t2_0 t3_0 t4_0 t5_0 t6_0))) else (F_DR_power_J26 x2 x3 x4 t0_0 t0_1 t0_2 t0_3 t0_4 t0_5 t0_6 t0_7 t0_8 t0_9 t0_10 t1_0 t2_0 t3_0 t4_0 t5_0 t6_0)) else (F_DR_power_J26 x2 x3 x4 t0_0 t0_1 t0_2 t0_3 t0_4 t0_5 t0_6 t0_7 t0_8 t0_9 t0_10 t1_0 t2_0 t3_0 t4_0 t5_0 t6_0)
def S_DR_power_c105 (K_S_DR_power_L77 : Int32 → Int32 → Int32 → Int32 → Int64 → Int32 → Int32 → Int32 → Int32 → Int32 → Int32 → Int32 → (Nat → Int32) → (Nat → Int32) → Prop) (x2 : Int32) (x3 : Int32) (x4 : Int32) (t0_0 : Int32) (t0_1 : Int32) (t0_2 : Int32) (t0_3 : Int64) (t0_4 : Int32) (t0_5 : Int32) (t0_6 : Int32) (t0_7 : Int32) (t0_8 : Int32) (t0_9 : Int32) (t0_10 : Int32) (t1_0 : (Nat → Int32)) (t2_0 : (Nat → Int32)) (t3_0 : (Nat → Int32)) (t4_0 : (Nat → Int32)) (t5_0 : (Nat → Int32)) (t6_0 : (Nat → Int32)) (lx42 : Int32) (lx77 : Int32) (lx78 : Int32) (lx79 : Int32) (lx80 : Int32) (lx81 : Int64) (lx82 : Int32) (lx83 : Int32) (lx84 : Int32) (lx85 : Int32) (lx86 : Int32) (lx87 : Int32) (lx88 : Int32) (lx89 : (Nat → Int32)) (lx90 : (Nat → Int32)) (p175 : (Int32 × Int32 × Int32 × Int64 × Int32 × Int32 × Int32 × Int32 × Int32 × Int32 × Int32 × (Nat → Int32) × (Nat → Int32) × (Nat → Int32) × (Nat → Int32) × (Nat → Int32))) : Prop := True
def S_DR_power_c85 (K_S_DR_power_L77 : Int32 → Int32 → Int32 → Int32 → Int64 → Int32 → Int32 → Int32 → Int32 → Int32 → Int32 → Int32 → (Nat → Int32) → (Nat → Int32) → Prop) (x2 : Int32) (x3 : Int32) (x4 : Int32) (t0_0 : Int32) (t0_1 : Int32) (t0_2 : Int32) (t0_3 : Int64) (t0_4 : Int32) (t0_5 : Int32) (t0_6 : Int32) (t0_7 : Int32) (t0_8 : Int32) (t0_9 : Int32) (t0_10 : Int32) (t1_0 : (Nat → Int32)) (t2_0 : (Nat → Int32)) (t3_0 : (Nat → Int32)) (t4_0 : (Nat → Int32)) (t5_0 : (Nat → Int32)) (t6_0 : (Nat → Int32)) (lx42 : Int32) (lx77 : Int32) (lx78 : Int32) (lx79 : Int32) (lx80 : Int32) (lx81 : Int64) (lx82 : Int32) (lx83 : Int32) (lx84 : Int32) (lx85 : Int32) (lx86 : Int32) (lx87 : Int32) (lx88 : Int32) (lx89 : (Nat → Int32)) (lx90 : (Nat → Int32)) (p251 : (Int32 × Int32 × Int32 × Int32 × Int64 × Int32 × Int32 × Int32 × Int32 × Int32 × Int32 × Int32 × (Nat → Int32) × (Nat → Int32))) : Prop := if (p251.1 : Int32) = (0 : Int32) then (True) else (K_S_DR_power_L77 (lx77 + 1 : Int32) (p251.2.1 : Int32) (p251.2.2.1 : Int32) (p251.2.2.2.1 : Int32) (p251.2.2.2.2.1 : Int64) (p251.2.2.2.2.2.1 : Int32) (p251.2.2.2.2.2.2.1 : Int32) (p251.2.2.2.2.2.2.2.1 : Int32) (p251.2.2.2.2.2.2.2.2.1 : Int32) (p251.2.2.2.2.2.2.2.2.2.1 : Int32) (p251.2.2.2.2.2.2.2.2.2.2.1 : Int32) (p251.2.2.2.2.2.2.2.2.2.2.2.1 : Int32) (p251.2.2.2.2.2.2.2.2.2.2.2.2.1 : (Nat → Int32)) (p251.2.2.2.2.2.2.2.2.2.2.2.2.2 : (Nat → Int32)))
def S_DR_power_L77 (x2 : Int32) (x3 : Int32) (x4 : Int32) (t0_0 : Int32) (t0_1 : Int32) (t0_2 : Int32) (t0_3 : Int64) (t0_4 : Int32) (t0_5 : Int32) (t0_6 : Int32) (t0_7 : Int32) (t0_8 : Int32) (t0_9 : Int32) (t0_10 : Int32) (t1_0 : (Nat → Int32)) (t2_0 : (Nat → Int32)) (t3_0 : (Nat → Int32)) (t4_0 : (Nat → Int32)) (t5_0 : (Nat → Int32)) (t6_0 : (Nat → Int32)) (lx42 : Int32) : Nat → Int32 → Int32 → Int32 → Int32 → Int64 → Int32 → Int32 → Int32 → Int32 → Int32 → Int32 → Int32 → (Nat → Int32) → (Nat → Int32) → Prop
  | 0, _, _, _, _, _, _, _, _, _, _, _, _, _, _ => False
  | fm + 1, lx77, lx78, lx79, lx80, lx81, lx82, lx83, lx84, lx85, lx86, lx87, lx88, lx89, lx90 => if x3 ≤ lx77 then ((True ∧ S_DR_store x4 lx78 lx79 lx80 lx81 lx82 lx83 lx84 lx85 lx86 lx87 lx88 t1_0 t2_0 t3_0 t4_0 lx89) ∧ (S_DR_power_c105 (S_DR_power_L77 x2 x3 x4 t0_0 t0_1 t0_2 t0_3 t0_4 t0_5 t0_6 t0_7 t0_8 t0_9 t0_10 t1_0 t2_0 t3_0 t4_0 t5_0 t6_0 lx42 fm) x2 x3 x4 t0_0 t0_1 t0_2 t0_3 t0_4 t0_5 t0_6 t0_7 t0_8 t0_9 t0_10 t1_0 t2_0 t3_0 t4_0 t5_0 t6_0 lx42 lx77 lx78 lx79 lx80 lx81 lx82 lx83 lx84 lx85 lx86 lx87 lx88 lx89 lx90 ((F_DR_store x4 lx78 lx79 lx80 lx81 lx82 lx83 lx84 lx85 lx86 lx87 lx88 t1_0 t2_0 t3_0 t4_0 lx89) : (Int32 × Int32 × Int32 × Int64 × Int32 × Int32 × Int32 × Int32 × Int32 × Int32 × Int32 × (Nat → Int32) × (Nat → Int32) × (Nat → Int32) × (Nat → Int32) × (Nat → Int32))))) else ((True ∧ S_DR_times x2 lx78 lx79 lx80 lx81 lx82 lx83 lx84 lx85 lx86 lx87 lx88 t1_0 t2_0 t3_0 t4_0 lx89 lx90) ∧ (S_DR_power_c85 (S_DR_power_L77 x2 x3 x4 t0_0 t0_1 t0_2 t0_3 t0_4 t0_5 t0_6 t0_7 t0_8 t0_9 t0_10 t1_0 t2_0 t3_0 t4_0 t5_0 t6_0 lx42 fm) x2 x3 x4 t0_0 t0_1 t0_2 t0_3 t0_4 t0_5 t0_6 t0_7 t0_8 t0_9 t0_10 t1_0 t2_0 t3_0 t4_0 t5_0 t6_0 lx42 lx77 lx78 lx79 lx80 lx81 lx82 lx83 lx84 lx85 lx86 lx87 lx88 lx89 lx90 ((F_DR_times x2 lx78 lx79 lx80 lx81 lx82 lx83 lx84 lx85 lx86 lx87 lx88 t1_0 t2_0 t3_0 t4_0 lx89 lx90) : (Int32 × Int32 × Int32 × Int32 × Int64 × Int32 × Int32 × Int32 × Int32 × Int32 × Int32 × Int32 × (Nat → Int32) × (Nat → Int32)))))
def S_DR_power_J31 (x2 : Int32) (x3 : Int32) (x4 : Int32) (t0_0 : Int32) (t0_1 : Int32) (t0_2 : Int32) (t0_3 : Int64) (t0_4 : Int32) (t0_5 : Int32) (t0_6 : Int32) (t0_7 : Int32) (t0_8 : Int32) (t0_9 : Int32) (t0_10 : Int32) (t1_0 : (Nat → Int32)) (t2_0 : (Nat → Int32)) (t3_0 : (Nat → Int32)) (t4_0 : (Nat → Int32)) (t5_0 : (Nat → Int32)) (t6_0 : (Nat → Int32)) (lx42 : Int32) : Prop := if lx42 ≤ (0 : Int32) then (S_DR_power_L77 x2 x3 x4 t0_0 t0_1 t0_2 t0_3 t0_4 t0_5 t0_6 t0_7 t0_8 t0_9 t0_10 t1_0 t2_0 t3_0 t4_0 t5_0 t6_0 lx42 ((x3.toInt - (0 : Int32).toInt).toNat + 1) 0 lx42 t0_1 1 0 0 0 t0_6 t0_7 t0_8 t0_9 2 (upd t5_0 (0 : Int32).toNatClampNeg 1 : (Nat → Int32)) t6_0) else (True)
def S_DR_power_J26 (x2 : Int32) (x3 : Int32) (x4 : Int32) (t0_0 : Int32) (t0_1 : Int32) (t0_2 : Int32) (t0_3 : Int64) (t0_4 : Int32) (t0_5 : Int32) (t0_6 : Int32) (t0_7 : Int32) (t0_8 : Int32) (t0_9 : Int32) (t0_10 : Int32) (t1_0 : (Nat → Int32)) (t2_0 : (Nat → Int32)) (t3_0 : (Nat → Int32)) (t4_0 : (Nat → Int32)) (t5_0 : (Nat → Int32)) (t6_0 : (Nat → Int32)) : Prop := S_DR_power_J31 x2 x3 x4 t0_0 t0_1 t0_2 t0_3 t0_4 t0_5 t0_6 t0_7 t0_8 t0_9 t0_10 t1_0 t2_0 t3_0 t4_0 t5_0 t6_0 1
def S_DR_power (x2 : Int32) (x3 : Int32) (x4 : Int32) (t0_0 : Int32) (t0_1 : Int32) (t0_2 : Int32) (t0_3 : Int64) (t0_4 : Int32) (t0_5 : Int32) (t0_6 : Int32) (t0_7 : Int32) (t0_8 : Int32) (t0_9 : Int32) (t0_10 : Int32) (t1_0 : (Nat → Int32)) (t2_0 : (Nat → Int32)) (t3_0 : (Nat → Int32)) (t4_0 : (Nat → Int32)) (t5_0 : (Nat → Int32)) (t6_0 : (Nat → Int32)) : Prop := if ((F_DR_no x2) : Int32) = (0 : Int32) then (if ((F_DR_no x4) : Int32) = (0 : Int32) then (if x3 < (0 : Int32) then (S_DR_power_J26 x2 x3 x4 t0_0 t0_1 t0_2 t0_3 t0_4 t0_5 t0_6 t0_7 t0_8 t0_9 t0_10 t1_0 t2_0 t3_0 t4_0 t5_0 t6_0) else (if x3 ≤ (999 : Int32) then (S_DR_power_J31 x2 x3 x4 t0_0 t0_1 t0_2 t0_3 t0_4 t0_5 t0_6 t0_7 t0_8 t0_9 t0_10 t1_0 t2_0 t3_0 t4_0 t5_0 t6_0 0) else (S_DR_power_J26 x2 x3 x4 t0_0 t0_1 t0_2 t0_3 t0_4 t0_5 t0_6 t0_7 t0_8 t0_9 t0_10 t1_0 t2_0 t3_0 t4_0 t5_0 t6_0))) else (S_DR_power_J26 x2 x3 x4 t0_0 t0_1 t0_2 t0_3 t0_4 t0_5 t0_6 t0_7 t0_8 t0_9 t0_10 t1_0 t2_0 t3_0 t4_0 t5_0 t6_0)) else (S_DR_power_J26 x2 x3 x4 t0_0 t0_1 t0_2 t0_3 t0_4 t0_5 t0_6 t0_7 t0_8 t0_9 t0_10 t1_0 t2_0 t3_0 t4_0 t5_0 t6_0)
set_option maxRecDepth 100000 in
set_option maxHeartbeats 4000000 in
theorem X_DR_power (l : Launch) (D : va_G) (g : Nat → ClassId) (q : Nat → Nat) (ws : va_W) (x2 : Int32) (x3 : Int32) (x4 : Int32) (hI : q_I (msh g q) q ws) (t0_0 : Int32) (t0_1 : Int32) (t0_2 : Int32) (t0_3 : Int64) (t0_4 : Int32) (t0_5 : Int32) (t0_6 : Int32) (t0_7 : Int32) (t0_8 : Int32) (t0_9 : Int32) (t0_10 : Int32) (hT0 : ws[134]? = (some (q 134, .inr (14, [.int t0_0, .ref (q 135), .int t0_1, .ref (q 136), .ref (q 137), .ref (q 138), .ref (q 139), .ref (q 140), .int t0_2, .long t0_3, .int t0_4, .int t0_5, .ref (q 141), .int t0_6, .ref (q 142), .int t0_7, .ref (q 143), .int t0_8, .ref (q 144), .int t0_9, .int t0_10])) : Option (Nat × va_E))) (t1_0 : (Nat → Int32)) (hT1 : ws[136]? = (some (q 136, .inl (g 0, (10000 : Int32).toNatClampNeg, .inl t1_0)) : Option (Nat × va_E))) (t2_0 : (Nat → Int32)) (hT2 : ws[137]? = (some (q 137, .inl (g 0, (10 : Int32).toNatClampNeg, .inl t2_0)) : Option (Nat × va_E))) (t3_0 : (Nat → Int32)) (hT3 : ws[138]? = (some (q 138, .inl (g 3, 10, .inl t3_0)) : Option (Nat × va_E))) (t4_0 : (Nat → Int32)) (hT4 : ws[139]? = (some (q 139, .inl (g 0, (10 : Int32).toNatClampNeg, .inl t4_0)) : Option (Nat × va_E))) (t5_0 : (Nat → Int32)) (hT5 : ws[140]? = (some (q 140, .inl (g 0, (4400 : Int32).toNatClampNeg, .inl t5_0)) : Option (Nat × va_E))) (t6_0 : (Nat → Int32)) (hT6 : ws[141]? = (some (q 141, .inl (g 0, (4400 : Int32).toNatClampNeg, .inl t6_0)) : Option (Nat × va_E))) (hS : True ∧ S_DR_power x2 x3 x4 t0_0 t0_1 t0_2 t0_3 t0_4 t0_5 t0_6 t0_7 t0_8 t0_9 t0_10 t1_0 t2_0 t3_0 t4_0 t5_0 t6_0) : q_mV l y_DR_power prog_15_method_29_code 5 3 0 0 D g [.ref (q 134), .int x2, .int x3, .int x4] ws (fun u => q_I (msh g q) q u ∧ q_un ws u [134, 136, 137, 138, 139, 140, 141] ∧ ∃ (u0_0 : Int32) (u0_1 : Int32) (u0_2 : Int32) (u0_3 : Int64) (u0_4 : Int32) (u0_5 : Int32) (u0_6 : Int32) (u0_7 : Int32) (u0_8 : Int32) (u0_9 : Int32) (u0_10 : Int32) (u1_0 : (Nat → Int32)) (u2_0 : (Nat → Int32)) (u3_0 : (Nat → Int32)) (u4_0 : (Nat → Int32)) (u5_0 : (Nat → Int32)) (u6_0 : (Nat → Int32)), u[134]? = (some (q 134, .inr (14, [.int u0_0, .ref (q 135), .int u0_1, .ref (q 136), .ref (q 137), .ref (q 138), .ref (q 139), .ref (q 140), .int u0_2, .long u0_3, .int u0_4, .int u0_5, .ref (q 141), .int u0_6, .ref (q 142), .int u0_7, .ref (q 143), .int u0_8, .ref (q 144), .int u0_9, .int u0_10])) : Option (Nat × va_E)) ∧ u[136]? = (some (q 136, .inl (g 0, (10000 : Int32).toNatClampNeg, .inl u1_0)) : Option (Nat × va_E)) ∧ u[137]? = (some (q 137, .inl (g 0, (10 : Int32).toNatClampNeg, .inl u2_0)) : Option (Nat × va_E)) ∧ u[138]? = (some (q 138, .inl (g 3, 10, .inl u3_0)) : Option (Nat × va_E)) ∧ u[139]? = (some (q 139, .inl (g 0, (10 : Int32).toNatClampNeg, .inl u4_0)) : Option (Nat × va_E)) ∧ u[140]? = (some (q 140, .inl (g 0, (4400 : Int32).toNatClampNeg, .inl u5_0)) : Option (Nat × va_E)) ∧ u[141]? = (some (q 141, .inl (g 0, (4400 : Int32).toNatClampNeg, .inl u6_0)) : Option (Nat × va_E)) ∧ (0 ≤ u0_4.toInt) ∧ (0 ≤ u0_5.toInt) ∧ (u0_5.toInt ≤ 1) ∧ (t0_1.toInt ≤ u0_1.toInt) ∧ (u0_1.toInt ≤ t0_1.toInt) ∧ (u0_4.toInt ≤ t0_4.toInt) ∧ (t0_6.toInt ≤ u0_6.toInt) ∧ (u0_6.toInt ≤ t0_6.toInt) ∧ (t0_7.toInt ≤ u0_7.toInt) ∧ (u0_7.toInt ≤ t0_7.toInt) ∧ (t0_8.toInt ≤ u0_8.toInt) ∧ (u0_8.toInt ≤ t0_8.toInt) ∧ (t0_9.toInt ≤ u0_9.toInt) ∧ (u0_9.toInt ≤ t0_9.toInt) ∧ (u0_0, u0_1, u0_2, u0_3, u0_4, u0_5, u0_6, u0_7, u0_8, u0_9, u0_10, u1_0, u2_0, u3_0, u4_0, u5_0, u6_0) = (F_DR_power x2 x3 x4 t0_0 t0_1 t0_2 t0_3 t0_4 t0_5 t0_6 t0_7 t0_8 t0_9 t0_10 t1_0 t2_0 t3_0 t4_0 t5_0 t6_0)) := by
  intro sz
  refine q_into (by decide) (Nat.le_of_ble_eq_true rfl) ?_
  intro p e s m below meth c ls hsz C0 V hl
  have hx := C0.1
  have hb := C0.2.1
  obtain ⟨yy0_0, yy0_1, yy0_2, yy0_3, yy0_4, yy0_5, yy0_6, yy0_7, yy0_8, yy0_9, yy0_10, hh0, btt0_1, btt0_4, btt0_5, btt0_9⟩ := n_o134 hI
  obtain ⟨rfl, rfl, rfl, rfl, rfl, rfl, rfl, rfl, rfl, rfl, rfl⟩ : t0_0 = yy0_0 ∧ t0_1 = yy0_1 ∧ t0_2 = yy0_2 ∧ t0_3 = yy0_3 ∧ t0_4 = yy0_4 ∧ t0_5 = yy0_5 ∧ t0_6 = yy0_6 ∧ t0_7 = yy0_7 ∧ t0_8 = yy0_8 ∧ t0_9 = yy0_9 ∧ t0_10 = yy0_10 := by have z := Option.some.inj (hT0.symm.trans hh0); simpa using z
  replace btt0_1 : q_F (0 ≤ t0_1.toInt ∧ t0_1.toInt ≤ 4100) := btt0_1
  replace btt0_4 : q_F (0 ≤ t0_4.toInt ∧ t0_4.toInt ≤ 1) := btt0_4
  replace btt0_5 : q_F (0 ≤ t0_5.toInt ∧ t0_5.toInt ≤ 1) := btt0_5
  replace btt0_9 : q_F (0 ≤ t0_9.toInt ∧ t0_9.toInt ≤ 12200) := btt0_9
  have hF : q_un ws ws [134, 136, 137, 138, 139, 140, 141] := q_u0
  have hl : lv_has ls 5 [(0, .ref (q 134)), (1, .int x2), (2, .int x3), (3, .int x4)] := hl
  refine lv_aload_n hx hb d_15_29_0 rfl (lv_at hl 0 rfl) ?_
  refine lv_iload_n hx hb d_15_29_1 rfl (lv_at hl 1 rfl) ?_
  refine q_goi V (q_runS (As := [.int x2]) (rest := [.ref (q 134)]) (d := 1) (mc := 0) (ms := 0) C0 V rfl LS_DR_113 (X_DR_no l D g q ws  x2 hI   _) rfl hl.1 rfl (Nat.le_of_ble_eq_true rfl) ⟨by decide, by decide⟩ ⟨Nat.le_of_ble_eq_true rfl, Nat.le_of_ble_eq_true rfl⟩ d_15_29_2) (fun a37 u35 H locs hp36 V => ?_)
  obtain ⟨rfl, b38, b39, hE40⟩ := hp36
  have e41 : a37 = (F_DR_no x2) := hE40
  replace b38 : q_F (0 ≤ a37.toInt) := b38
  replace b39 : q_F (a37.toInt ≤ 1) := b39
  refine q_join (X := Int32) (fun z H locs ls _ => q_F (0 ≤ z.toInt) ∧ q_F (z.toInt ≤ 1) ∧ q_Wd D g (va_A ws sz) s ws H locs ∧ lv_has ls 5 [(0, .ref (q 134)), (1, .int x2), (2, .int x3), (3, .int x4)] ∧ F_DR_power_J31 x2 x3 x4 t0_0 t0_1 t0_2 t0_3 t0_4 t0_5 t0_6 t0_7 t0_8 t0_9 t0_10 t1_0 t2_0 t3_0 t4_0 t5_0 t6_0 z = (F_DR_power x2 x3 x4 t0_0 t0_1 t0_2 t0_3 t0_4 t0_5 t0_6 t0_7 t0_8 t0_9 t0_10 t1_0 t2_0 t3_0 t4_0 t5_0 t6_0) ∧ True ∧ S_DR_power_J31 x2 x3 x4 t0_0 t0_1 t0_2 t0_3 t0_4 t0_5 t0_6 t0_7 t0_8 t0_9 t0_10 t1_0 t2_0 t3_0 t4_0 t5_0 t6_0 z) (fun z => [.int z, .ref (q 134)]) 31 0 0 ?_ ?_
  ·
    rintro lx42 H locs ls _ ⟨i51, i52, V, hl, hR53, hS54⟩
    replace i51 : q_F (0 ≤ lx42.toInt) := i51
    replace i52 : q_F (lx42.toInt ≤ 1) := i52
    replace hl : lv_has ls 5 [(0, .ref (q 134)), (1, .int x2), (2, .int x3), (3, .int x4)] := hl
    refine q_put (ci := 14) (j := 0) (v := .int lx42) (ty := .int) C0 V i_DR o_DR n_DR rfl rfl hT0 (by decide) w_1996 rfl rfl rfl rfl (Nat.le_of_ble_eq_true rfl) d_15_29_31 (fun H locs w58 hu59 hT0 V => ?_)
    replace hT0 : w58[134]? = (some (q 134, .inr (14, [.int lx42, .ref (q 135), .int t0_1, .ref (q 136), .ref (q 137), .ref (q 138), .ref (q 139), .ref (q 140), .int t0_2, .long t0_3, .int t0_4, .int t0_5, .ref (q 141), .int t0_6, .ref (q 142), .int t0_7, .ref (q 143), .int t0_8, .ref (q 144), .int t0_9, .int t0_10])) : Option (Nat × va_E)) := hT0
    replace hI := n_p134 hI hu59 hT0 ⟨(by have t1 : 0 ≤ t0_1.toInt ∧ t0_1.toInt ≤ 4100 := btt0_1; omega), (by have t1 : 0 ≤ t0_1.toInt ∧ t0_1.toInt ≤ 4100 := btt0_1; omega)⟩ ⟨(by have t1 : 0 ≤ t0_4.toInt ∧ t0_4.toInt ≤ 1 := btt0_4; omega), (by have t1 : 0 ≤ t0_4.toInt ∧ t0_4.toInt ≤ 1 := btt0_4; omega)⟩ ⟨(by have t1 : 0 ≤ t0_5.toInt ∧ t0_5.toInt ≤ 1 := btt0_5; omega), (by have t1 : 0 ≤ t0_5.toInt ∧ t0_5.toInt ≤ 1 := btt0_5; omega)⟩ ⟨(by have t1 : 0 ≤ t0_9.toInt ∧ t0_9.toInt ≤ 12200 := btt0_9; omega), (by have t1 : 0 ≤ t0_9.toInt ∧ t0_9.toInt ≤ 12200 := btt0_9; omega)⟩
    replace hT1 := (hu59 _ (by decide)).trans hT1
    replace hT2 := (hu59 _ (by decide)).trans hT2
    replace hT3 := (hu59 _ (by decide)).trans hT3
    replace hT4 := (hu59 _ (by decide)).trans hT4
    replace hT5 := (hu59 _ (by decide)).trans hT5
    replace hT6 := (hu59 _ (by decide)).trans hT6
    replace hF := q_us hF hu59 (by simp)
    refine lv_aload_n hx hb d_15_29_34 rfl (lv_at hl 0 rfl) ?_
    refine q_get (ci := 14) (j := 0) (v := .int lx42) C0 V i_DR rfl rfl hT0 (by decide) w_1996 rfl d_15_29_35 ?_
    refine lv_if_le (tgt := 42) hx hb d_15_29_38 (by decide) (fun c60 => ?_) (fun c60 => ?_)
    ·
      have b61 : q_F (lx42.toInt ≤ 0) := (q_leI c60)
      refine lv_aload_n hx hb d_15_29_42 rfl (lv_at hl 0 rfl) ?_
      refine lv_iconst (v := 2) hx hb d_15_29_43 (by decide) ?_
      refine q_put (ci := 14) (j := 20) (v := .int 2) (ty := .int) C0 V i_DR o_DR n_DR rfl rfl hT0 (by decide) w_2024 rfl rfl rfl rfl (Nat.le_of_ble_eq_true rfl) d_15_29_44 (fun H locs w62 hu63 hT0 V => ?_)
      replace hT0 : w62[134]? = (some (q 134, .inr (14, [.int lx42, .ref (q 135), .int t0_1, .ref (q 136), .ref (q 137), .ref (q 138), .ref (q 139), .ref (q 140), .int t0_2, .long t0_3, .int t0_4, .int t0_5, .ref (q 141), .int t0_6, .ref (q 142), .int t0_7, .ref (q 143), .int t0_8, .ref (q 144), .int t0_9, .int 2])) : Option (Nat × va_E)) := hT0
      replace hI := n_p134 hI hu63 hT0 ⟨(by have t1 : 0 ≤ t0_1.toInt ∧ t0_1.toInt ≤ 4100 := btt0_1; omega), (by have t1 : 0 ≤ t0_1.toInt ∧ t0_1.toInt ≤ 4100 := btt0_1; omega)⟩ ⟨(by have t1 : 0 ≤ t0_4.toInt ∧ t0_4.toInt ≤ 1 := btt0_4; omega), (by have t1 : 0 ≤ t0_4.toInt ∧ t0_4.toInt ≤ 1 := btt0_4; omega)⟩ ⟨(by have t1 : 0 ≤ t0_5.toInt ∧ t0_5.toInt ≤ 1 := btt0_5; omega), (by have t1 : 0 ≤ t0_5.toInt ∧ t0_5.toInt ≤ 1 := btt0_5; omega)⟩ ⟨(by have t1 : 0 ≤ t0_9.toInt ∧ t0_9.toInt ≤ 12200 := btt0_9; omega), (by have t1 : 0 ≤ t0_9.toInt ∧ t0_9.toInt ≤ 12200 := btt0_9; omega)⟩
      replace hT1 := (hu63 _ (by decide)).trans hT1
      replace hT2 := (hu63 _ (by decide)).trans hT2
      replace hT3 := (hu63 _ (by decide)).trans hT3
      replace hT4 := (hu63 _ (by decide)).trans hT4
      replace hT5 := (hu63 _ (by decide)).trans hT5
      replace hT6 := (hu63 _ (by decide)).trans hT6
      replace hF := q_us hF hu63 (by simp)
      refine lv_aload_n hx hb d_15_29_47 rfl (lv_at hl 0 rfl) ?_
      refine lv_iconst (v := 1) hx hb d_15_29_48 (by decide) ?_
      refine q_put (ci := 14) (j := 8) (v := .int 1) (ty := .int) C0 V i_DR o_DR n_DR rfl rfl hT0 (by decide) w_2011 rfl rfl rfl rfl (Nat.le_of_ble_eq_true rfl) d_15_29_49 (fun H locs w64 hu65 hT0 V => ?_)
      replace hT0 : w64[134]? = (some (q 134, .inr (14, [.int lx42, .ref (q 135), .int t0_1, .ref (q 136), .ref (q 137), .ref (q 138), .ref (q 139), .ref (q 140), .int 1, .long t0_3, .int t0_4, .int t0_5, .ref (q 141), .int t0_6, .ref (q 142), .int t0_7, .ref (q 143), .int t0_8, .ref (q 144), .int t0_9, .int 2])) : Option (Nat × va_E)) := hT0
      replace hI := n_p134 hI hu65 hT0 ⟨(by have t1 : 0 ≤ t0_1.toInt ∧ t0_1.toInt ≤ 4100 := btt0_1; omega), (by have t1 : 0 ≤ t0_1.toInt ∧ t0_1.toInt ≤ 4100 := btt0_1; omega)⟩ ⟨(by have t1 : 0 ≤ t0_4.toInt ∧ t0_4.toInt ≤ 1 := btt0_4; omega), (by have t1 : 0 ≤ t0_4.toInt ∧ t0_4.toInt ≤ 1 := btt0_4; omega)⟩ ⟨(by have t1 : 0 ≤ t0_5.toInt ∧ t0_5.toInt ≤ 1 := btt0_5; omega), (by have t1 : 0 ≤ t0_5.toInt ∧ t0_5.toInt ≤ 1 := btt0_5; omega)⟩ ⟨(by have t1 : 0 ≤ t0_9.toInt ∧ t0_9.toInt ≤ 12200 := btt0_9; omega), (by have t1 : 0 ≤ t0_9.toInt ∧ t0_9.toInt ≤ 12200 := btt0_9; omega)⟩
      replace hT1 := (hu65 _ (by decide)).trans hT1
      replace hT2 := (hu65 _ (by decide)).trans hT2
      replace hT3 := (hu65 _ (by decide)).trans hT3
      replace hT4 := (hu65 _ (by decide)).trans hT4
      replace hT5 := (hu65 _ (by decide)).trans hT5
      replace hT6 := (hu65 _ (by decide)).trans hT6
      replace hF := q_us hF hu65 (by simp)
      refine lv_aload_n hx hb d_15_29_52 rfl (lv_at hl 0 rfl) ?_
      refine q_get (ci := 14) (j := 7) (v := .ref (q 140)) C0 V i_DR rfl rfl hT0 (by decide) w_2010 rfl d_15_29_53 ?_
      refine lv_iconst (v := 0) hx hb d_15_29_56 (by decide) ?_
      refine lv_iconst (v := 1) hx hb d_15_29_57 (by decide) ?_
      refine q_iast C0 V hT5 (q_ix (x := 0) (by decide) (by omega) (by have e9 : (((4400 : Int32).toNatClampNeg : Nat) : Int) = 4400 := (by decide); omega)) d_15_29_58 (fun H locs w66 hu67 hT5 V => ?_)
      replace hI := n_ai' hI (n_r140 g q).1 hu67 hT5 (q_updB (fun _ => s_bnd) s_bnd)
      replace hT0 := (hu67 _ (by decide)).trans hT0
      replace hT1 := (hu67 _ (by decide)).trans hT1
      replace hT2 := (hu67 _ (by decide)).trans hT2
      replace hT3 := (hu67 _ (by decide)).trans hT3
      replace hT4 := (hu67 _ (by decide)).trans hT4
      replace hT6 := (hu67 _ (by decide)).trans hT6
      replace hF := q_us hF hu67 (by simp)
      obtain ⟨f68, e69⟩ := q_nm (upd t5_0 (0 : Int32).toNatClampNeg 1 : (Nat → Int32))
      rw [e69] at hT5
      refine lv_aload_n hx hb d_15_29_59 rfl (lv_at hl 0 rfl) ?_
      refine lv_lconst (v := 0) hx hb d_15_29_60 (by decide) ?_
      refine q_put (ci := 14) (j := 9) (v := .long 0) (ty := .long) C0 V i_DR o_DR n_DR rfl rfl hT0 (by decide) w_2012 rfl rfl rfl rfl (Nat.le_of_ble_eq_true rfl) d_15_29_61 (fun H locs w70 hu71 hT0 V => ?_)
      replace hT0 : w70[134]? = (some (q 134, .inr (14, [.int lx42, .ref (q 135), .int t0_1, .ref (q 136), .ref (q 137), .ref (q 138), .ref (q 139), .ref (q 140), .int 1, .long 0, .int t0_4, .int t0_5, .ref (q 141), .int t0_6, .ref (q 142), .int t0_7, .ref (q 143), .int t0_8, .ref (q 144), .int t0_9, .int 2])) : Option (Nat × va_E)) := hT0
      replace hI := n_p134 hI hu71 hT0 ⟨(by have t1 : 0 ≤ t0_1.toInt ∧ t0_1.toInt ≤ 4100 := btt0_1; omega), (by have t1 : 0 ≤ t0_1.toInt ∧ t0_1.toInt ≤ 4100 := btt0_1; omega)⟩ ⟨(by have t1 : 0 ≤ t0_4.toInt ∧ t0_4.toInt ≤ 1 := btt0_4; omega), (by have t1 : 0 ≤ t0_4.toInt ∧ t0_4.toInt ≤ 1 := btt0_4; omega)⟩ ⟨(by have t1 : 0 ≤ t0_5.toInt ∧ t0_5.toInt ≤ 1 := btt0_5; omega), (by have t1 : 0 ≤ t0_5.toInt ∧ t0_5.toInt ≤ 1 := btt0_5; omega)⟩ ⟨(by have t1 : 0 ≤ t0_9.toInt ∧ t0_9.toInt ≤ 12200 := btt0_9; omega), (by have t1 : 0 ≤ t0_9.toInt ∧ t0_9.toInt ≤ 12200 := btt0_9; omega)⟩
      replace hT1 := (hu71 _ (by decide)).trans hT1
      replace hT2 := (hu71 _ (by decide)).trans hT2
      replace hT3 := (hu71 _ (by decide)).trans hT3
      replace hT4 := (hu71 _ (by decide)).trans hT4
      replace hT5 := (hu71 _ (by decide)).trans hT5
      replace hT6 := (hu71 _ (by decide)).trans hT6
      replace hF := q_us hF hu71 (by simp)
      refine lv_aload_n hx hb d_15_29_64 rfl (lv_at hl 0 rfl) ?_
      refine lv_iconst (v := 0) hx hb d_15_29_65 (by decide) ?_
      refine q_put (ci := 14) (j := 10) (v := .int 0) (ty := .boolean) C0 V i_DR o_DR n_DR rfl rfl hT0 (by decide) w_2013 rfl rfl rfl rfl (Nat.le_of_ble_eq_true rfl) d_15_29_66 (fun H locs w72 hu73 hT0 V => ?_)
      replace hT0 : w72[134]? = (some (q 134, .inr (14, [.int lx42, .ref (q 135), .int t0_1, .ref (q 136), .ref (q 137), .ref (q 138), .ref (q 139), .ref (q 140), .int 1, .long 0, .int 0, .int t0_5, .ref (q 141), .int t0_6, .ref (q 142), .int t0_7, .ref (q 143), .int t0_8, .ref (q 144), .int t0_9, .int 2])) : Option (Nat × va_E)) := hT0
      replace hI := n_p134 hI hu73 hT0 ⟨(by have t1 : 0 ≤ t0_1.toInt ∧ t0_1.toInt ≤ 4100 := btt0_1; omega), (by have t1 : 0 ≤ t0_1.toInt ∧ t0_1.toInt ≤ 4100 := btt0_1; omega)⟩ ⟨(by have z9 : (0 : Int32).toInt = 0 := rfl; omega), (by have z9 : (0 : Int32).toInt = 0 := rfl; omega)⟩ ⟨(by have t1 : 0 ≤ t0_5.toInt ∧ t0_5.toInt ≤ 1 := btt0_5; omega), (by have t1 : 0 ≤ t0_5.toInt ∧ t0_5.toInt ≤ 1 := btt0_5; omega)⟩ ⟨(by have t1 : 0 ≤ t0_9.toInt ∧ t0_9.toInt ≤ 12200 := btt0_9; omega), (by have t1 : 0 ≤ t0_9.toInt ∧ t0_9.toInt ≤ 12200 := btt0_9; omega)⟩
      replace hT1 := (hu73 _ (by decide)).trans hT1
      replace hT2 := (hu73 _ (by decide)).trans hT2
      replace hT3 := (hu73 _ (by decide)).trans hT3
      replace hT4 := (hu73 _ (by decide)).trans hT4
      replace hT5 := (hu73 _ (by decide)).trans hT5
      replace hT6 := (hu73 _ (by decide)).trans hT6
      replace hF := q_us hF hu73 (by simp)
      refine lv_aload_n hx hb d_15_29_69 rfl (lv_at hl 0 rfl) ?_
      refine lv_iconst (v := 0) hx hb d_15_29_70 (by decide) ?_
      refine q_put (ci := 14) (j := 11) (v := .int 0) (ty := .boolean) C0 V i_DR o_DR n_DR rfl rfl hT0 (by decide) w_2014 rfl rfl rfl rfl (Nat.le_of_ble_eq_true rfl) d_15_29_71 (fun H locs w74 hu75 hT0 V => ?_)
      replace hT0 : w74[134]? = (some (q 134, .inr (14, [.int lx42, .ref (q 135), .int t0_1, .ref (q 136), .ref (q 137), .ref (q 138), .ref (q 139), .ref (q 140), .int 1, .long 0, .int 0, .int 0, .ref (q 141), .int t0_6, .ref (q 142), .int t0_7, .ref (q 143), .int t0_8, .ref (q 144), .int t0_9, .int 2])) : Option (Nat × va_E)) := hT0
      replace hI := n_p134 hI hu75 hT0 ⟨(by have t1 : 0 ≤ t0_1.toInt ∧ t0_1.toInt ≤ 4100 := btt0_1; omega), (by have t1 : 0 ≤ t0_1.toInt ∧ t0_1.toInt ≤ 4100 := btt0_1; omega)⟩ ⟨(by have z9 : (0 : Int32).toInt = 0 := rfl; omega), (by have z9 : (0 : Int32).toInt = 0 := rfl; omega)⟩ ⟨(by have z9 : (0 : Int32).toInt = 0 := rfl; omega), (by have z9 : (0 : Int32).toInt = 0 := rfl; omega)⟩ ⟨(by have t1 : 0 ≤ t0_9.toInt ∧ t0_9.toInt ≤ 12200 := btt0_9; omega), (by have t1 : 0 ≤ t0_9.toInt ∧ t0_9.toInt ≤ 12200 := btt0_9; omega)⟩
      replace hT1 := (hu75 _ (by decide)).trans hT1
      replace hT2 := (hu75 _ (by decide)).trans hT2
      replace hT3 := (hu75 _ (by decide)).trans hT3
      replace hT4 := (hu75 _ (by decide)).trans hT4
      replace hT5 := (hu75 _ (by decide)).trans hT5
      replace hT6 := (hu75 _ (by decide)).trans hT6
      replace hF := q_us hF hu75 (by simp)
      refine lv_iconst (v := 0) hx hb d_15_29_74 (by decide) ?_
      refine lv_istore (lv' := [(4, .int 0), (0, .ref (q 134)), (1, .int x2), (2, .int x3), (3, .int x4)]) hx hb d_15_29_75 hl (by decide) rfl (fun ls hl => ?_)
      refine q_loop (X := Int32 × Int32 × Int32 × Int32 × Int64 × Int32 × Int32 × Int32 × Int32 × Int32 × Int32 × Int32 × (Nat → Int32) × (Nat → Int32)) (fun z H locs ls w111 => q_F (0 ≤ z.2.2.2.2.2.1.toInt) ∧ q_F (z.2.2.2.2.2.1.toInt ≤ 0) ∧ q_F (0 ≤ z.2.2.2.2.2.2.1.toInt) ∧ q_F (z.2.2.2.2.2.2.1.toInt ≤ 1) ∧ q_F (2 ≤ z.2.2.2.2.2.2.2.2.2.2.2.1.toInt) ∧ q_F (z.2.2.2.2.2.2.2.2.2.2.2.1.toInt ≤ 2) ∧ q_F (lx42.toInt ≤ z.2.1.toInt) ∧ q_F (z.2.1.toInt ≤ lx42.toInt) ∧ q_F (t0_1.toInt ≤ z.2.2.1.toInt) ∧ q_F (z.2.2.1.toInt ≤ t0_1.toInt) ∧ q_F (t0_6.toInt ≤ z.2.2.2.2.2.2.2.1.toInt) ∧ q_F (z.2.2.2.2.2.2.2.1.toInt ≤ t0_6.toInt) ∧ q_F (t0_7.toInt ≤ z.2.2.2.2.2.2.2.2.1.toInt) ∧ q_F (z.2.2.2.2.2.2.2.2.1.toInt ≤ t0_7.toInt) ∧ q_F (t0_8.toInt ≤ z.2.2.2.2.2.2.2.2.2.1.toInt) ∧ q_F (z.2.2.2.2.2.2.2.2.2.1.toInt ≤ t0_8.toInt) ∧ q_F (t0_9.toInt ≤ z.2.2.2.2.2.2.2.2.2.2.1.toInt) ∧ q_F (z.2.2.2.2.2.2.2.2.2.2.1.toInt ≤ t0_9.toInt) ∧ q_F (z.2.2.2.2.2.2.1.toInt ≤ z.1.toInt) ∧ q_Wd D g (va_A ws sz) s w111 H locs ∧ lv_has ls 5 [(4, .int z.1), (0, .ref (q 134)), (1, .int x2), (2, .int x3), (3, .int x4)] ∧ q_I (msh g q) q w111 ∧ q_un ws w111 [134, 136, 137, 138, 139, 140, 141] ∧ w111[134]? = (some (q 134, .inr (14, [.int z.2.1, .ref (q 135), .int z.2.2.1, .ref (q 136), .ref (q 137), .ref (q 138), .ref (q 139), .ref (q 140), .int z.2.2.2.1, .long z.2.2.2.2.1, .int z.2.2.2.2.2.1, .int z.2.2.2.2.2.2.1, .ref (q 141), .int z.2.2.2.2.2.2.2.1, .ref (q 142), .int z.2.2.2.2.2.2.2.2.1, .ref (q 143), .int z.2.2.2.2.2.2.2.2.2.1, .ref (q 144), .int z.2.2.2.2.2.2.2.2.2.2.1, .int z.2.2.2.2.2.2.2.2.2.2.2.1])) : Option (Nat × va_E)) ∧ w111[136]? = (some (q 136, .inl (g 0, (10000 : Int32).toNatClampNeg, .inl t1_0)) : Option (Nat × va_E)) ∧ w111[137]? = (some (q 137, .inl (g 0, (10 : Int32).toNatClampNeg, .inl t2_0)) : Option (Nat × va_E)) ∧ w111[138]? = (some (q 138, .inl (g 3, 10, .inl t3_0)) : Option (Nat × va_E)) ∧ w111[139]? = (some (q 139, .inl (g 0, (10 : Int32).toNatClampNeg, .inl t4_0)) : Option (Nat × va_E)) ∧ w111[140]? = (some (q 140, .inl (g 0, (4400 : Int32).toNatClampNeg, .inl z.2.2.2.2.2.2.2.2.2.2.2.2.1)) : Option (Nat × va_E)) ∧ w111[141]? = (some (q 141, .inl (g 0, (4400 : Int32).toNatClampNeg, .inl z.2.2.2.2.2.2.2.2.2.2.2.2.2)) : Option (Nat × va_E)) ∧ (∃ n, (x3.toInt - z.1.toInt).toNat < n ∧ F_DR_power_L77 x2 x3 x4 t0_0 t0_1 t0_2 t0_3 t0_4 t0_5 t0_6 t0_7 t0_8 t0_9 t0_10 t1_0 t2_0 t3_0 t4_0 t5_0 t6_0 lx42 n z.1 z.2.1 z.2.2.1 z.2.2.2.1 z.2.2.2.2.1 z.2.2.2.2.2.1 z.2.2.2.2.2.2.1 z.2.2.2.2.2.2.2.1 z.2.2.2.2.2.2.2.2.1 z.2.2.2.2.2.2.2.2.2.1 z.2.2.2.2.2.2.2.2.2.2.1 z.2.2.2.2.2.2.2.2.2.2.2.1 z.2.2.2.2.2.2.2.2.2.2.2.2.1 z.2.2.2.2.2.2.2.2.2.2.2.2.2 = (F_DR_power x2 x3 x4 t0_0 t0_1 t0_2 t0_3 t0_4 t0_5 t0_6 t0_7 t0_8 t0_9 t0_10 t1_0 t2_0 t3_0 t4_0 t5_0 t6_0) ∧ True ∧ S_DR_power_L77 x2 x3 x4 t0_0 t0_1 t0_2 t0_3 t0_4 t0_5 t0_6 t0_7 t0_8 t0_9 t0_10 t1_0 t2_0 t3_0 t4_0 t5_0 t6_0 lx42 n z.1 z.2.1 z.2.2.1 z.2.2.2.1 z.2.2.2.2.1 z.2.2.2.2.2.1 z.2.2.2.2.2.2.1 z.2.2.2.2.2.2.2.1 z.2.2.2.2.2.2.2.2.1 z.2.2.2.2.2.2.2.2.2.1 z.2.2.2.2.2.2.2.2.2.2.1 z.2.2.2.2.2.2.2.2.2.2.2.1 z.2.2.2.2.2.2.2.2.2.2.2.2.1 z.2.2.2.2.2.2.2.2.2.2.2.2.2)) (fun z => (x3.toInt - z.1.toInt).toNat) ?_ ((0 : Int32), (lx42 : Int32), (t0_1 : Int32), (1 : Int32), (0 : Int64), (0 : Int32), (0 : Int32), (t0_6 : Int32), (t0_7 : Int32), (t0_8 : Int32), (t0_9 : Int32), (2 : Int32), (f68 : (Nat → Int32)), (t6_0 : (Nat → Int32))) _ _ _ w74 ⟨(show q_F (0 ≤ 0) from (show 0 ≤ 0 from by omega)), (show q_F (0 ≤ 0) from (show 0 ≤ 0 from by omega)), (show q_F (0 ≤ 0) from (show 0 ≤ 0 from by omega)), (show q_F (0 ≤ 1) from (show 0 ≤ 1 from by omega)), (show q_F (2 ≤ 2) from (show 2 ≤ 2 from by omega)), (show q_F (2 ≤ 2) from (show 2 ≤ 2 from by omega)), (show q_F (lx42.toInt ≤ lx42.toInt) from (show lx42.toInt ≤ lx42.toInt from by omega)), (show q_F (lx42.toInt ≤ lx42.toInt) from (show lx42.toInt ≤ lx42.toInt from by omega)), (show q_F (t0_1.toInt ≤ t0_1.toInt) from (show t0_1.toInt ≤ t0_1.toInt from by omega)), (show q_F (t0_1.toInt ≤ t0_1.toInt) from (show t0_1.toInt ≤ t0_1.toInt from by omega)), (show q_F (t0_6.toInt ≤ t0_6.toInt) from (show t0_6.toInt ≤ t0_6.toInt from by omega)), (show q_F (t0_6.toInt ≤ t0_6.toInt) from (show t0_6.toInt ≤ t0_6.toInt from by omega)), (show q_F (t0_7.toInt ≤ t0_7.toInt) from (show t0_7.toInt ≤ t0_7.toInt from by omega)), (show q_F (t0_7.toInt ≤ t0_7.toInt) from (show t0_7.toInt ≤ t0_7.toInt from by omega)), (show q_F (t0_8.toInt ≤ t0_8.toInt) from (show t0_8.toInt ≤ t0_8.toInt from by omega)), (show q_F (t0_8.toInt ≤ t0_8.toInt) from (show t0_8.toInt ≤ t0_8.toInt from by omega)), (show q_F (t0_9.toInt ≤ t0_9.toInt) from (show t0_9.toInt ≤ t0_9.toInt from by omega)), (show q_F (t0_9.toInt ≤ t0_9.toInt) from (show t0_9.toInt ≤ t0_9.toInt from by omega)), (show q_F (0 ≤ 0) from (show 0 ≤ 0 from by omega)), V, q_lw hl (q_lw1 0 rfl (q_lw1 1 rfl (q_lw1 2 rfl (q_lw1 3 rfl (q_lw1 4 rfl q_lw0))))), hI, hF, hT0, hT1, hT2, hT3, hT4, hT5, hT6, ⟨((x3.toInt - (0 : Int32).toInt).toNat + 1), Nat.lt_succ_self _, (show F_DR_power_L77 x2 x3 x4 t0_0 t0_1 t0_2 t0_3 t0_4 t0_5 t0_6 t0_7 t0_8 t0_9 t0_10 t1_0 t2_0 t3_0 t4_0 t5_0 t6_0 lx42 ((x3.toInt - (0 : Int32).toInt).toNat + 1) 0 lx42 t0_1 1 0 0 0 t0_6 t0_7 t0_8 t0_9 2 f68 t6_0 = (F_DR_power x2 x3 x4 t0_0 t0_1 t0_2 t0_3 t0_4 t0_5 t0_6 t0_7 t0_8 t0_9 t0_10 t1_0 t2_0 t3_0 t4_0 t5_0 t6_0) from Eq.trans (by rw [← e69, F_DR_power_J31.eq_1, if_pos c60]) hR53), (show True ∧ S_DR_power_L77 x2 x3 x4 t0_0 t0_1 t0_2 t0_3 t0_4 t0_5 t0_6 t0_7 t0_8 t0_9 t0_10 t1_0 t2_0 t3_0 t4_0 t5_0 t6_0 lx42 ((x3.toInt - (0 : Int32).toInt).toNat + 1) 0 lx42 t0_1 1 0 0 0 t0_6 t0_7 t0_8 t0_9 2 f68 t6_0 from (by rw [← e69]; have h := hS54; rw [S_DR_power_J31.eq_1] at h; rw [if_pos c60] at h; with_reducible exact h))⟩⟩
      rintro ⟨lx77, lx78, lx79, lx80, lx81, lx82, lx83, lx84, lx85, lx86, lx87, lx88, lx89, lx90⟩ H locs ls w111 ⟨i91, i92, i93, i94, i95, i96, i97, i98, i99, i100, i101, i102, i103, i104, i105, i106, i107, i108, i109, V, hl, hI, hF, hO112, hO113, hO114, hO115, hO116, hO117, hO118, ⟨fu121, hf122, hR119, hS120⟩⟩ ih110
      obtain ⟨fm123, rfl⟩ : ∃ m, fu121 = m + 1 := ⟨fu121 - 1, by omega⟩
      replace i91 : q_F (0 ≤ lx82.toInt) := i91
      replace i92 : q_F (lx82.toInt ≤ 0) := i92
      replace i93 : q_F (0 ≤ lx83.toInt) := i93
      replace i94 : q_F (lx83.toInt ≤ 1) := i94
      replace i95 : q_F (2 ≤ lx88.toInt) := i95
      replace i96 : q_F (lx88.toInt ≤ 2) := i96
      replace i97 : q_F (lx42.toInt ≤ lx78.toInt) := i97
      replace i98 : q_F (lx78.toInt ≤ lx42.toInt) := i98
      replace i99 : q_F (t0_1.toInt ≤ lx79.toInt) := i99
      replace i100 : q_F (lx79.toInt ≤ t0_1.toInt) := i100
      replace i101 : q_F (t0_6.toInt ≤ lx84.toInt) := i101
      replace i102 : q_F (lx84.toInt ≤ t0_6.toInt) := i102
      replace i103 : q_F (t0_7.toInt ≤ lx85.toInt) := i103
      replace i104 : q_F (lx85.toInt ≤ t0_7.toInt) := i104
      replace i105 : q_F (t0_8.toInt ≤ lx86.toInt) := i105
      replace i106 : q_F (lx86.toInt ≤ t0_8.toInt) := i106
      replace i107 : q_F (t0_9.toInt ≤ lx87.toInt) := i107
      replace i108 : q_F (lx87.toInt ≤ t0_9.toInt) := i108
      replace i109 : q_F (lx83.toInt ≤ lx77.toInt) := i109
      replace hl : lv_has ls 5 [(4, .int lx77), (0, .ref (q 134)), (1, .int x2), (2, .int x3), (3, .int x4)] := hl
      replace hO112 : w111[134]? = (some (q 134, .inr (14, [.int lx78, .ref (q 135), .int lx79, .ref (q 136), .ref (q 137), .ref (q 138), .ref (q 139), .ref (q 140), .int lx80, .long lx81, .int lx82, .int lx83, .ref (q 141), .int lx84, .ref (q 142), .int lx85, .ref (q 143), .int lx86, .ref (q 144), .int lx87, .int lx88])) : Option (Nat × va_E)) := hO112
      replace hO113 : w111[136]? = (some (q 136, .inl (g 0, (10000 : Int32).toNatClampNeg, .inl t1_0)) : Option (Nat × va_E)) := hO113
      replace hO114 : w111[137]? = (some (q 137, .inl (g 0, (10 : Int32).toNatClampNeg, .inl t2_0)) : Option (Nat × va_E)) := hO114
      replace hO115 : w111[138]? = (some (q 138, .inl (g 3, 10, .inl t3_0)) : Option (Nat × va_E)) := hO115
      replace hO116 : w111[139]? = (some (q 139, .inl (g 0, (10 : Int32).toNatClampNeg, .inl t4_0)) : Option (Nat × va_E)) := hO116
      replace hO117 : w111[140]? = (some (q 140, .inl (g 0, (4400 : Int32).toNatClampNeg, .inl lx89)) : Option (Nat × va_E)) := hO117
      replace hO118 : w111[141]? = (some (q 141, .inl (g 0, (4400 : Int32).toNatClampNeg, .inl lx90)) : Option (Nat × va_E)) := hO118
      refine lv_iload hx hb d_15_29_77 (lv_at hl 0 rfl) ?_
      refine lv_iload_n hx hb d_15_29_79 rfl (lv_at hl 3 rfl) ?_
      refine lv_icmp_ge (tgt := 103) hx hb d_15_29_80 (by decide) (fun c124 => ?_) (fun c124 => ?_)
      ·
        have b125 : q_F (x3.toInt ≤ lx77.toInt) := (q_leI c124)
        refine lv_aload_n hx hb d_15_29_103 rfl (lv_at hl 1 rfl) ?_
        refine lv_iload_n hx hb d_15_29_104 rfl (lv_at hl 4 rfl) ?_
        have ob126 : True ∧ S_DR_store x4 lx78 lx79 lx80 lx81 lx82 lx83 lx84 lx85 lx86 lx87 lx88 t1_0 t2_0 t3_0 t4_0 lx89 := (by have h := hS120; rw [S_DR_power_L77.eq_2] at h; rw [if_pos c124] at h; with_reducible exact h.2.1)
        refine q_gov V (q_runV (As := [.int x4]) (rest := []) (d := 2) (mc := 0) (ms := 0) (ci := 14) C0 V rfl LV_DR_89 (X_DR_store l D g q w111  x4 hI lx78 lx79 lx80 lx81 lx82 lx83 lx84 lx85 lx86 lx87 lx88 hO112 t1_0 hO113 t2_0 hO114 t3_0 hO115 t4_0 hO116 lx89 hO117 ob126 _) rfl rfl hO112 rfl hl.1 rfl (Nat.le_of_ble_eq_true rfl) ⟨by decide, by decide⟩ ⟨Nat.le_of_ble_eq_true rfl, Nat.le_of_ble_eq_true rfl⟩ d_15_29_105) (fun u127 H locs hp128 V => ?_)
        obtain ⟨hI, hu174, y130, y131, y132, y133, y134, y135, y136, y137, y138, y139, y140, f141, f143, f145, f147, f149, hO129, hA142, hA144, hA146, hA148, hA150, b151, b152, b153, b154, b155, b156, b157, b158, b159, b160, b161, b162, b163, b164, b165, b166, b167, b168, b169, b170, b171, b172, hE173⟩ := hp128
        replace hO129 : u127[134]? = (some (q 134, .inr (14, [.int y130, .ref (q 135), .int y131, .ref (q 136), .ref (q 137), .ref (q 138), .ref (q 139), .ref (q 140), .int y132, .long y133, .int y134, .int y135, .ref (q 141), .int y136, .ref (q 142), .int y137, .ref (q 143), .int y138, .ref (q 144), .int y139, .int y140])) : Option (Nat × va_E)) := hO129
        replace hA142 : u127[136]? = (some (q 136, .inl (g 0, (10000 : Int32).toNatClampNeg, .inl f141)) : Option (Nat × va_E)) := hA142
        replace hA144 : u127[137]? = (some (q 137, .inl (g 0, (10 : Int32).toNatClampNeg, .inl f143)) : Option (Nat × va_E)) := hA144
        replace hA146 : u127[138]? = (some (q 138, .inl (g 3, 10, .inl f145)) : Option (Nat × va_E)) := hA146
        replace hA148 : u127[139]? = (some (q 139, .inl (g 0, (10 : Int32).toNatClampNeg, .inl f147)) : Option (Nat × va_E)) := hA148
        replace hA150 : u127[140]? = (some (q 140, .inl (g 0, (4400 : Int32).toNatClampNeg, .inl f149)) : Option (Nat × va_E)) := hA150
        obtain ⟨p175, e176⟩ : ∃ z, z = (F_DR_store x4 lx78 lx79 lx80 lx81 lx82 lx83 lx84 lx85 lx86 lx87 lx88 t1_0 t2_0 t3_0 t4_0 lx89) := ⟨_, rfl⟩
        have e177 : y130 = p175.1 := congrArg (fun z => z.1) (hE173.trans e176.symm)
        have e178 : y131 = p175.2.1 := congrArg (fun z => z.2.1) (hE173.trans e176.symm)
        have e179 : y132 = p175.2.2.1 := congrArg (fun z => z.2.2.1) (hE173.trans e176.symm)
        have e180 : y133 = p175.2.2.2.1 := congrArg (fun z => z.2.2.2.1) (hE173.trans e176.symm)
        have e181 : y134 = p175.2.2.2.2.1 := congrArg (fun z => z.2.2.2.2.1) (hE173.trans e176.symm)
        have e182 : y135 = p175.2.2.2.2.2.1 := congrArg (fun z => z.2.2.2.2.2.1) (hE173.trans e176.symm)
        have e183 : y136 = p175.2.2.2.2.2.2.1 := congrArg (fun z => z.2.2.2.2.2.2.1) (hE173.trans e176.symm)
        have e184 : y137 = p175.2.2.2.2.2.2.2.1 := congrArg (fun z => z.2.2.2.2.2.2.2.1) (hE173.trans e176.symm)
        have e185 : y138 = p175.2.2.2.2.2.2.2.2.1 := congrArg (fun z => z.2.2.2.2.2.2.2.2.1) (hE173.trans e176.symm)
        have e186 : y139 = p175.2.2.2.2.2.2.2.2.2.1 := congrArg (fun z => z.2.2.2.2.2.2.2.2.2.1) (hE173.trans e176.symm)
        have e187 : y140 = p175.2.2.2.2.2.2.2.2.2.2.1 := congrArg (fun z => z.2.2.2.2.2.2.2.2.2.2.1) (hE173.trans e176.symm)
        have e188 : f141 = p175.2.2.2.2.2.2.2.2.2.2.2.1 := congrArg (fun z => z.2.2.2.2.2.2.2.2.2.2.2.1) (hE173.trans e176.symm)
        have e189 : f143 = p175.2.2.2.2.2.2.2.2.2.2.2.2.1 := congrArg (fun z => z.2.2.2.2.2.2.2.2.2.2.2.2.1) (hE173.trans e176.symm)
        have e190 : f145 = p175.2.2.2.2.2.2.2.2.2.2.2.2.2.1 := congrArg (fun z => z.2.2.2.2.2.2.2.2.2.2.2.2.2.1) (hE173.trans e176.symm)
        have e191 : f147 = p175.2.2.2.2.2.2.2.2.2.2.2.2.2.2.1 := congrArg (fun z => z.2.2.2.2.2.2.2.2.2.2.2.2.2.2.1) (hE173.trans e176.symm)
        have e192 : f149 = p175.2.2.2.2.2.2.2.2.2.2.2.2.2.2.2 := congrArg (fun z => z.2.2.2.2.2.2.2.2.2.2.2.2.2.2.2) (hE173.trans e176.symm)
        replace b151 : q_F (0 ≤ y135.toInt) := b151
        replace b152 : q_F (lx79.toInt ≤ y131.toInt) := b152
        replace b153 : q_F (y131.toInt ≤ lx79.toInt) := b153
        replace b154 : q_F (lx80.toInt ≤ y131.toInt + 24400) := b154
        replace b155 : q_F (lx81.toInt ≤ y133.toInt) := b155
        replace b156 : q_F (y133.toInt ≤ lx81.toInt) := b156
        replace b157 : q_F (lx80.toInt ≤ y134.toInt + 24400) := b157
        replace b158 : q_F (lx82.toInt ≤ y134.toInt) := b158
        replace b159 : q_F (y134.toInt ≤ lx82.toInt) := b159
        replace b160 : q_F (lx80.toInt ≤ y135.toInt + 24400) := b160
        replace b161 : q_F (y135.toInt ≤ lx83.toInt) := b161
        replace b162 : q_F (lx84.toInt ≤ y136.toInt) := b162
        replace b163 : q_F (y136.toInt ≤ lx84.toInt) := b163
        replace b164 : q_F (lx85.toInt ≤ y137.toInt) := b164
        replace b165 : q_F (y137.toInt ≤ lx85.toInt) := b165
        replace b166 : q_F (lx86.toInt ≤ y138.toInt) := b166
        replace b167 : q_F (y138.toInt ≤ lx86.toInt) := b167
        replace b168 : q_F (lx80.toInt ≤ y139.toInt + 24400) := b168
        replace b169 : q_F (lx87.toInt ≤ y139.toInt) := b169
        replace b170 : q_F (y139.toInt ≤ lx87.toInt) := b170
        replace b171 : q_F (lx88.toInt ≤ y140.toInt) := b171
        replace b172 : q_F (y140.toInt ≤ lx88.toInt) := b172
        replace hO118 := (hu174 _ (by decide)).trans hO118
        replace hF := q_uc hF hu174 (by simp)
        have hR193 := (show F_DR_power_c105 (F_DR_power_L77 x2 x3 x4 t0_0 t0_1 t0_2 t0_3 t0_4 t0_5 t0_6 t0_7 t0_8 t0_9 t0_10 t1_0 t2_0 t3_0 t4_0 t5_0 t6_0 lx42 fm123) x2 x3 x4 t0_0 t0_1 t0_2 t0_3 t0_4 t0_5 t0_6 t0_7 t0_8 t0_9 t0_10 t1_0 t2_0 t3_0 t4_0 t5_0 t6_0 lx42 lx77 lx78 lx79 lx80 lx81 lx82 lx83 lx84 lx85 lx86 lx87 lx88 lx89 lx90 p175 = (F_DR_power x2 x3 x4 t0_0 t0_1 t0_2 t0_3 t0_4 t0_5 t0_6 t0_7 t0_8 t0_9 t0_10 t1_0 t2_0 t3_0 t4_0 t5_0 t6_0) from Eq.trans (by rw [e176, F_DR_power_L77.eq_2, if_pos c124]) hR119)
        have hS194 := (show True ∧ S_DR_power_c105 (S_DR_power_L77 x2 x3 x4 t0_0 t0_1 t0_2 t0_3 t0_4 t0_5 t0_6 t0_7 t0_8 t0_9 t0_10 t1_0 t2_0 t3_0 t4_0 t5_0 t6_0 lx42 fm123) x2 x3 x4 t0_0 t0_1 t0_2 t0_3 t0_4 t0_5 t0_6 t0_7 t0_8 t0_9 t0_10 t1_0 t2_0 t3_0 t4_0 t5_0 t6_0 lx42 lx77 lx78 lx79 lx80 lx81 lx82 lx83 lx84 lx85 lx86 lx87 lx88 lx89 lx90 p175 from (by rw [e176]; have h := hS120; rw [S_DR_power_L77.eq_2] at h; rw [if_pos c124] at h; replace h := q_s2 h; with_reducible exact h))
        exact q_retv C0 V (⟨hI, hF, y130, y131, y132, y133, y134, y135, y136, y137, y138, y139, y140, f141, f143, f145, f147, f149, lx90, hO129, hA142, hA144, hA146, hA148, hA150, hO118, (show 0 ≤ y134.toInt from (by have t1 : 0 ≤ lx82.toInt := i91; have t2 : lx82.toInt ≤ y134.toInt := b158; omega)), (show 0 ≤ y135.toInt from (by have t1 : 0 ≤ y135.toInt := b151; omega)), (show y135.toInt ≤ 1 from (by have t1 : lx83.toInt ≤ 1 := i94; have t2 : y135.toInt ≤ lx83.toInt := b161; omega)), (show t0_1.toInt ≤ y131.toInt from (by have t1 : t0_1.toInt ≤ lx79.toInt := i99; have t2 : lx79.toInt ≤ y131.toInt := b152; omega)), (show y131.toInt ≤ t0_1.toInt from (by have t1 : lx79.toInt ≤ t0_1.toInt := i100; have t2 : y131.toInt ≤ lx79.toInt := b153; omega)), (show y134.toInt ≤ t0_4.toInt from (by have t1 : 0 ≤ t0_4.toInt ∧ t0_4.toInt ≤ 1 := btt0_4; have t2 : lx82.toInt ≤ 0 := i92; have t3 : y134.toInt ≤ lx82.toInt := b159; omega)), (show t0_6.toInt ≤ y136.toInt from (by have t1 : t0_6.toInt ≤ lx84.toInt := i101; have t2 : lx84.toInt ≤ y136.toInt := b162; omega)), (show y136.toInt ≤ t0_6.toInt from (by have t1 : lx84.toInt ≤ t0_6.toInt := i102; have t2 : y136.toInt ≤ lx84.toInt := b163; omega)), (show t0_7.toInt ≤ y137.toInt from (by have t1 : t0_7.toInt ≤ lx85.toInt := i103; have t2 : lx85.toInt ≤ y137.toInt := b164; omega)), (show y137.toInt ≤ t0_7.toInt from (by have t1 : lx85.toInt ≤ t0_7.toInt := i104; have t2 : y137.toInt ≤ lx85.toInt := b165; omega)), (show t0_8.toInt ≤ y138.toInt from (by have t1 : t0_8.toInt ≤ lx86.toInt := i105; have t2 : lx86.toInt ≤ y138.toInt := b166; omega)), (show y138.toInt ≤ t0_8.toInt from (by have t1 : lx86.toInt ≤ t0_8.toInt := i106; have t2 : y138.toInt ≤ lx86.toInt := b167; omega)), (show t0_9.toInt ≤ y139.toInt from (by have t1 : t0_9.toInt ≤ lx87.toInt := i107; have t2 : lx87.toInt ≤ y139.toInt := b169; omega)), (show y139.toInt ≤ t0_9.toInt from (by have t1 : lx87.toInt ≤ t0_9.toInt := i108; have t2 : y139.toInt ≤ lx87.toInt := b170; omega)), (show (y130, y131, y132, y133, y134, y135, y136, y137, y138, y139, y140, f141, f143, f145, f147, f149, lx90) = (F_DR_power x2 x3 x4 t0_0 t0_1 t0_2 t0_3 t0_4 t0_5 t0_6 t0_7 t0_8 t0_9 t0_10 t1_0 t2_0 t3_0 t4_0 t5_0 t6_0) from Eq.trans (by rw [e192, e191, e190, e189, e188, e187, e186, e185, e184, e183, e182, e181, e180, e179, e178, e177, F_DR_power_c105.eq_1]) hR193)⟩) d_15_29_108
      ·
        have b198 : q_F (lx77.toInt < x3.toInt) := (q_nleI c124)
        refine lv_aload_n hx hb d_15_29_83 rfl (lv_at hl 1 rfl) ?_
        refine lv_iload_n hx hb d_15_29_84 rfl (lv_at hl 2 rfl) ?_
        have ob199 : True ∧ S_DR_times x2 lx78 lx79 lx80 lx81 lx82 lx83 lx84 lx85 lx86 lx87 lx88 t1_0 t2_0 t3_0 t4_0 lx89 lx90 := (by have h := hS120; rw [S_DR_power_L77.eq_2] at h; rw [if_neg c124] at h; with_reducible exact h.2.1)
        refine q_goi V (q_runV (As := [.int x2]) (rest := []) (d := 2) (mc := 0) (ms := 0) (ci := 14) C0 V rfl LV_DR_135 (X_DR_times l D g q w111  x2 hI lx78 lx79 lx80 lx81 lx82 lx83 lx84 lx85 lx86 lx87 lx88 hO112 t1_0 hO113 t2_0 hO114 t3_0 hO115 t4_0 hO116 lx89 hO117 lx90 hO118 ob199 _) rfl rfl hO112 rfl hl.1 rfl (Nat.le_of_ble_eq_true rfl) ⟨by decide, by decide⟩ ⟨Nat.le_of_ble_eq_true rfl, Nat.le_of_ble_eq_true rfl⟩ d_15_29_85) (fun a202 u200 H locs hp201 V => ?_)
        obtain ⟨hI, hu250, y204, y205, y206, y207, y208, y209, y210, y211, y212, y213, y214, f215, f217, hO203, hA216, hA218, b219, b220, b221, b222, b223, b224, b225, b226, b227, b228, b229, b230, b231, b232, b233, b234, b235, b236, b237, b238, b239, b240, b241, b242, b243, b244, b245, b246, b247, b248, hE249⟩ := hp201
        replace hO203 : u200[134]? = (some (q 134, .inr (14, [.int y204, .ref (q 135), .int y205, .ref (q 136), .ref (q 137), .ref (q 138), .ref (q 139), .ref (q 140), .int y206, .long y207, .int y208, .int y209, .ref (q 141), .int y210, .ref (q 142), .int y211, .ref (q 143), .int y212, .ref (q 144), .int y213, .int y214])) : Option (Nat × va_E)) := hO203
        replace hA216 : u200[140]? = (some (q 140, .inl (g 0, (4400 : Int32).toNatClampNeg, .inl f215)) : Option (Nat × va_E)) := hA216
        replace hA218 : u200[141]? = (some (q 141, .inl (g 0, (4400 : Int32).toNatClampNeg, .inl f217)) : Option (Nat × va_E)) := hA218
        obtain ⟨p251, e252⟩ : ∃ z, z = (F_DR_times x2 lx78 lx79 lx80 lx81 lx82 lx83 lx84 lx85 lx86 lx87 lx88 t1_0 t2_0 t3_0 t4_0 lx89 lx90) := ⟨_, rfl⟩
        have e253 : a202 = p251.1 := congrArg (fun z => z.1) (hE249.trans e252.symm)
        have e254 : y204 = p251.2.1 := congrArg (fun z => z.2.1) (hE249.trans e252.symm)
        have e255 : y205 = p251.2.2.1 := congrArg (fun z => z.2.2.1) (hE249.trans e252.symm)
        have e256 : y206 = p251.2.2.2.1 := congrArg (fun z => z.2.2.2.1) (hE249.trans e252.symm)
        have e257 : y207 = p251.2.2.2.2.1 := congrArg (fun z => z.2.2.2.2.1) (hE249.trans e252.symm)
        have e258 : y208 = p251.2.2.2.2.2.1 := congrArg (fun z => z.2.2.2.2.2.1) (hE249.trans e252.symm)
        have e259 : y209 = p251.2.2.2.2.2.2.1 := congrArg (fun z => z.2.2.2.2.2.2.1) (hE249.trans e252.symm)
        have e260 : y210 = p251.2.2.2.2.2.2.2.1 := congrArg (fun z => z.2.2.2.2.2.2.2.1) (hE249.trans e252.symm)
        have e261 : y211 = p251.2.2.2.2.2.2.2.2.1 := congrArg (fun z => z.2.2.2.2.2.2.2.2.1) (hE249.trans e252.symm)
        have e262 : y212 = p251.2.2.2.2.2.2.2.2.2.1 := congrArg (fun z => z.2.2.2.2.2.2.2.2.2.1) (hE249.trans e252.symm)
        have e263 : y213 = p251.2.2.2.2.2.2.2.2.2.2.1 := congrArg (fun z => z.2.2.2.2.2.2.2.2.2.2.1) (hE249.trans e252.symm)
        have e264 : y214 = p251.2.2.2.2.2.2.2.2.2.2.2.1 := congrArg (fun z => z.2.2.2.2.2.2.2.2.2.2.2.1) (hE249.trans e252.symm)
        have e265 : f215 = p251.2.2.2.2.2.2.2.2.2.2.2.2.1 := congrArg (fun z => z.2.2.2.2.2.2.2.2.2.2.2.2.1) (hE249.trans e252.symm)
        have e266 : f217 = p251.2.2.2.2.2.2.2.2.2.2.2.2.2 := congrArg (fun z => z.2.2.2.2.2.2.2.2.2.2.2.2.2) (hE249.trans e252.symm)
        replace b219 : q_F (0 ≤ a202.toInt) := b219
        replace b220 : q_F (a202.toInt ≤ 1) := b220
        replace b221 : q_F (0 ≤ y209.toInt) := b221
        replace b222 : q_F (y209.toInt ≤ 1) := b222
        replace b223 : q_F (x2.toInt ≤ a202.toInt + 9) := b223
        replace b224 : q_F (a202.toInt ≤ x2.toInt + 1) := b224
        replace b225 : q_F (lx78.toInt ≤ y204.toInt) := b225
        replace b226 : q_F (y204.toInt ≤ lx78.toInt) := b226
        replace b227 : q_F (x2.toInt ≤ y205.toInt + 9) := b227
        replace b228 : q_F (y205.toInt ≤ x2.toInt + 4100) := b228
        replace b229 : q_F (lx79.toInt ≤ y205.toInt) := b229
        replace b230 : q_F (y205.toInt ≤ lx79.toInt) := b230
        replace b231 : q_F (x2.toInt ≤ y208.toInt + 9) := b231
        replace b232 : q_F (y208.toInt ≤ x2.toInt + 1) := b232
        replace b233 : q_F (lx82.toInt ≤ y208.toInt) := b233
        replace b234 : q_F (y208.toInt ≤ lx82.toInt) := b234
        replace b235 : q_F (x2.toInt ≤ y209.toInt + 9) := b235
        replace b236 : q_F (y209.toInt ≤ x2.toInt + 1) := b236
        replace b237 : q_F (lx84.toInt ≤ y210.toInt) := b237
        replace b238 : q_F (y210.toInt ≤ lx84.toInt) := b238
        replace b239 : q_F (lx85.toInt ≤ y211.toInt) := b239
        replace b240 : q_F (y211.toInt ≤ lx85.toInt) := b240
        replace b241 : q_F (lx86.toInt ≤ y212.toInt) := b241
        replace b242 : q_F (y212.toInt ≤ lx86.toInt) := b242
        replace b243 : q_F (x2.toInt ≤ y213.toInt + 9) := b243
        replace b244 : q_F (y213.toInt ≤ x2.toInt + 12200) := b244
        replace b245 : q_F (lx87.toInt ≤ y213.toInt) := b245
        replace b246 : q_F (y213.toInt ≤ lx87.toInt) := b246
        replace b247 : q_F (lx88.toInt ≤ y214.toInt) := b247
        replace b248 : q_F (y214.toInt ≤ lx88.toInt) := b248
        replace hO113 := (hu250 _ (by decide)).trans hO113
        replace hO114 := (hu250 _ (by decide)).trans hO114
        replace hO115 := (hu250 _ (by decide)).trans hO115
        replace hO116 := (hu250 _ (by decide)).trans hO116
        replace hF := q_uc hF hu250 (by simp)
        have hR267 := (show F_DR_power_c85 (F_DR_power_L77 x2 x3 x4 t0_0 t0_1 t0_2 t0_3 t0_4 t0_5 t0_6 t0_7 t0_8 t0_9 t0_10 t1_0 t2_0 t3_0 t4_0 t5_0 t6_0 lx42 fm123) x2 x3 x4 t0_0 t0_1 t0_2 t0_3 t0_4 t0_5 t0_6 t0_7 t0_8 t0_9 t0_10 t1_0 t2_0 t3_0 t4_0 t5_0 t6_0 lx42 lx77 lx78 lx79 lx80 lx81 lx82 lx83 lx84 lx85 lx86 lx87 lx88 lx89 lx90 p251 = (F_DR_power x2 x3 x4 t0_0 t0_1 t0_2 t0_3 t0_4 t0_5 t0_6 t0_7 t0_8 t0_9 t0_10 t1_0 t2_0 t3_0 t4_0 t5_0 t6_0) from Eq.trans (by rw [e252, F_DR_power_L77.eq_2, if_neg c124]) hR119)
        have hS268 := (show True ∧ S_DR_power_c85 (S_DR_power_L77 x2 x3 x4 t0_0 t0_1 t0_2 t0_3 t0_4 t0_5 t0_6 t0_7 t0_8 t0_9 t0_10 t1_0 t2_0 t3_0 t4_0 t5_0 t6_0 lx42 fm123) x2 x3 x4 t0_0 t0_1 t0_2 t0_3 t0_4 t0_5 t0_6 t0_7 t0_8 t0_9 t0_10 t1_0 t2_0 t3_0 t4_0 t5_0 t6_0 lx42 lx77 lx78 lx79 lx80 lx81 lx82 lx83 lx84 lx85 lx86 lx87 lx88 lx89 lx90 p251 from (by rw [e252]; have h := hS120; rw [S_DR_power_L77.eq_2] at h; rw [if_neg c124] at h; replace h := q_s2 h; with_reducible exact h))
        refine lv_if_ne (tgt := 97) hx hb d_15_29_88 (by decide) (fun c272 => ?_) (fun c272 => ?_)
        ·
          have b273 : q_F (a202.toInt ≠ 0) := (q_neI c272)
          obtain ⟨a274, e275⟩ := q_nm (lx77 + 1 : Int32)
          have b276 : q_F (a274.toInt = lx77.toInt + 1) := (by rw [← e275]; exact q_addI (y := 1) rfl (by decide) (by have _ := q_lo32 (x := lx77); have _ := q_hi32 (x := lx77); have t1 : lx77.toInt < x3.toInt := b198; have _ := q_lo32 (x := x3); have _ := q_hi32 (x := x3); omega) (by have _ := q_lo32 (x := lx77); have _ := q_hi32 (x := lx77); have t1 : lx77.toInt < x3.toInt := b198; have _ := q_lo32 (x := x3); have _ := q_hi32 (x := x3); omega))
          refine lv_iinc (v := a274) (lv' := [(4, .int a274), (0, .ref (q 134)), (1, .int x2), (2, .int x3), (3, .int x4)]) hx hb d_15_29_97 hl (k := 0) rfl (e275) (by decide) rfl (fun ls hl => ?_)
          refine lv_goto (tgt := 77) hx hb d_15_29_100 (by decide) ?_
          exact ih110 ((a274 : Int32), (y204 : Int32), (y205 : Int32), (y206 : Int32), (y207 : Int64), (y208 : Int32), (y209 : Int32), (y210 : Int32), (y211 : Int32), (y212 : Int32), (y213 : Int32), (y214 : Int32), (f215 : (Nat → Int32)), (f217 : (Nat → Int32))) _ _ _ _ (show (x3.toInt - a274.toInt).toNat < (x3.toInt - lx77.toInt).toNat from by have t1 : a274.toInt = lx77.toInt + 1 := b276; have t2 : lx77.toInt < x3.toInt := b198; omega) ⟨(show q_F (0 ≤ y208.toInt) from (show 0 ≤ y208.toInt from by have t1 : 0 ≤ lx82.toInt := i91; have t2 : lx82.toInt ≤ y208.toInt := b233; omega)), (show q_F (y208.toInt ≤ 0) from (show y208.toInt ≤ 0 from by have t1 : lx82.toInt ≤ 0 := i92; have t2 : y208.toInt ≤ lx82.toInt := b234; omega)), (show q_F (0 ≤ y209.toInt) from (show 0 ≤ y209.toInt from by have t1 : 0 ≤ y209.toInt := b221; omega)), (show q_F (y209.toInt ≤ 1) from (show y209.toInt ≤ 1 from by have t1 : y209.toInt ≤ 1 := b222; omega)), (show q_F (2 ≤ y214.toInt) from (show 2 ≤ y214.toInt from by have t1 : 2 ≤ lx88.toInt := i95; have t2 : lx88.toInt ≤ y214.toInt := b247; omega)), (show q_F (y214.toInt ≤ 2) from (show y214.toInt ≤ 2 from by have t1 : lx88.toInt ≤ 2 := i96; have t2 : y214.toInt ≤ lx88.toInt := b248; omega)), (show q_F (lx42.toInt ≤ y204.toInt) from (show lx42.toInt ≤ y204.toInt from by have t1 : lx42.toInt ≤ lx78.toInt := i97; have t2 : lx78.toInt ≤ y204.toInt := b225; omega)), (show q_F (y204.toInt ≤ lx42.toInt) from (show y204.toInt ≤ lx42.toInt from by have t1 : lx78.toInt ≤ lx42.toInt := i98; have t2 : y204.toInt ≤ lx78.toInt := b226; omega)), (show q_F (t0_1.toInt ≤ y205.toInt) from (show t0_1.toInt ≤ y205.toInt from by have t1 : t0_1.toInt ≤ lx79.toInt := i99; have t2 : lx79.toInt ≤ y205.toInt := b229; omega)), (show q_F (y205.toInt ≤ t0_1.toInt) from (show y205.toInt ≤ t0_1.toInt from by have t1 : lx79.toInt ≤ t0_1.toInt := i100; have t2 : y205.toInt ≤ lx79.toInt := b230; omega)), (show q_F (t0_6.toInt ≤ y210.toInt) from (show t0_6.toInt ≤ y210.toInt from by have t1 : t0_6.toInt ≤ lx84.toInt := i101; have t2 : lx84.toInt ≤ y210.toInt := b237; omega)), (show q_F (y210.toInt ≤ t0_6.toInt) from (show y210.toInt ≤ t0_6.toInt from by have t1 : lx84.toInt ≤ t0_6.toInt := i102; have t2 : y210.toInt ≤ lx84.toInt := b238; omega)), (show q_F (t0_7.toInt ≤ y211.toInt) from (show t0_7.toInt ≤ y211.toInt from by have t1 : t0_7.toInt ≤ lx85.toInt := i103; have t2 : lx85.toInt ≤ y211.toInt := b239; omega)), (show q_F (y211.toInt ≤ t0_7.toInt) from (show y211.toInt ≤ t0_7.toInt from by have t1 : lx85.toInt ≤ t0_7.toInt := i104; have t2 : y211.toInt ≤ lx85.toInt := b240; omega)), (show q_F (t0_8.toInt ≤ y212.toInt) from (show t0_8.toInt ≤ y212.toInt from by have t1 : t0_8.toInt ≤ lx86.toInt := i105; have t2 : lx86.toInt ≤ y212.toInt := b241; omega)), (show q_F (y212.toInt ≤ t0_8.toInt) from (show y212.toInt ≤ t0_8.toInt from by have t1 : lx86.toInt ≤ t0_8.toInt := i106; have t2 : y212.toInt ≤ lx86.toInt := b242; omega)), (show q_F (t0_9.toInt ≤ y213.toInt) from (show t0_9.toInt ≤ y213.toInt from by have t1 : t0_9.toInt ≤ lx87.toInt := i107; have t2 : lx87.toInt ≤ y213.toInt := b245; omega)), (show q_F (y213.toInt ≤ t0_9.toInt) from (show y213.toInt ≤ t0_9.toInt from by have t1 : lx87.toInt ≤ t0_9.toInt := i108; have t2 : y213.toInt ≤ lx87.toInt := b246; omega)), (show q_F (y209.toInt ≤ a274.toInt) from (show y209.toInt ≤ a274.toInt from by have t1 : 0 ≤ lx83.toInt := i93; have t2 : lx83.toInt ≤ lx77.toInt := i109; have t3 : y209.toInt ≤ 1 := b222; have t4 : a274.toInt = lx77.toInt + 1 := b276; omega)), V, q_lw hl (q_lw1 0 rfl (q_lw1 1 rfl (q_lw1 2 rfl (q_lw1 3 rfl (q_lw1 4 rfl q_lw0))))), hI, hF, hO203, hO113, hO114, hO115, hO116, hA216, hA218, ⟨fm123, Nat.lt_of_lt_of_le (show (x3.toInt - a274.toInt).toNat < (x3.toInt - lx77.toInt).toNat from by have t1 : a274.toInt = lx77.toInt + 1 := b276; have t2 : lx77.toInt < x3.toInt := b198; omega) (Nat.le_of_lt_succ hf122), (show F_DR_power_L77 x2 x3 x4 t0_0 t0_1 t0_2 t0_3 t0_4 t0_5 t0_6 t0_7 t0_8 t0_9 t0_10 t1_0 t2_0 t3_0 t4_0 t5_0 t6_0 lx42 fm123 a274 y204 y205 y206 y207 y208 y209 y210 y211 y212 y213 y214 f215 f217 = (F_DR_power x2 x3 x4 t0_0 t0_1 t0_2 t0_3 t0_4 t0_5 t0_6 t0_7 t0_8 t0_9 t0_10 t1_0 t2_0 t3_0 t4_0 t5_0 t6_0) from Eq.trans (by have c272x := c272; rw [e253] at c272x; rw [← e275, e266, e265, e264, e263, e262, e261, e260, e259, e258, e257, e256, e255, e254, F_DR_power_c85.eq_1, if_neg c272x]) hR267), (show True ∧ S_DR_power_L77 x2 x3 x4 t0_0 t0_1 t0_2 t0_3 t0_4 t0_5 t0_6 t0_7 t0_8 t0_9 t0_10 t1_0 t2_0 t3_0 t4_0 t5_0 t6_0 lx42 fm123 a274 y204 y205 y206 y207 y208 y209 y210 y211 y212 y213 y214 f215 f217 from (by rw [← e275, e266, e265, e264, e263, e262, e261, e260, e259, e258, e257, e256, e255, e254]; have h := hS268; rw [S_DR_power_c85.eq_1] at h; have c272x := c272; rw [e253] at c272x; rw [if_neg c272x] at h; with_reducible exact h))⟩⟩
        ·
          have b277 : q_F (a202.toInt = 0) := (q_eqI c272)
          refine lv_aload_n hx hb d_15_29_91 rfl (lv_at hl 1 rfl) ?_
          refine lv_iconst (v := 2) hx hb d_15_29_92 (by decide) ?_
          refine q_put (ci := 14) (j := 0) (v := .int 2) (ty := .int) C0 V i_DR o_DR n_DR rfl rfl hO203 (by decide) w_1996 rfl rfl rfl rfl (Nat.le_of_ble_eq_true rfl) d_15_29_93 (fun H locs w278 hu279 hO203 V => ?_)
          replace hO203 : w278[134]? = (some (q 134, .inr (14, [.int 2, .ref (q 135), .int y205, .ref (q 136), .ref (q 137), .ref (q 138), .ref (q 139), .ref (q 140), .int y206, .long y207, .int y208, .int y209, .ref (q 141), .int y210, .ref (q 142), .int y211, .ref (q 143), .int y212, .ref (q 144), .int y213, .int y214])) : Option (Nat × va_E)) := hO203
          replace hI := n_p134 hI hu279 hO203 ⟨(by have t1 : 0 ≤ t0_1.toInt ∧ t0_1.toInt ≤ 4100 := btt0_1; have t2 : t0_1.toInt ≤ lx79.toInt := i99; have t3 : lx79.toInt ≤ y205.toInt := b229; omega), (by have t1 : 0 ≤ t0_1.toInt ∧ t0_1.toInt ≤ 4100 := btt0_1; have t2 : lx79.toInt ≤ t0_1.toInt := i100; have t3 : y205.toInt ≤ lx79.toInt := b230; omega)⟩ ⟨(by have t1 : 0 ≤ lx82.toInt := i91; have t2 : lx82.toInt ≤ y208.toInt := b233; omega), (by have t1 : lx82.toInt ≤ 0 := i92; have t2 : y208.toInt ≤ lx82.toInt := b234; omega)⟩ ⟨(by have t1 : 0 ≤ y209.toInt := b221; omega), (by have t1 : y209.toInt ≤ 1 := b222; omega)⟩ ⟨(by have t1 : 0 ≤ t0_9.toInt ∧ t0_9.toInt ≤ 12200 := btt0_9; have t2 : t0_9.toInt ≤ lx87.toInt := i107; have t3 : lx87.toInt ≤ y213.toInt := b245; omega), (by have t1 : 0 ≤ t0_9.toInt ∧ t0_9.toInt ≤ 12200 := btt0_9; have t2 : lx87.toInt ≤ t0_9.toInt := i108; have t3 : y213.toInt ≤ lx87.toInt := b246; omega)⟩
          replace hO113 := (hu279 _ (by decide)).trans hO113
          replace hO114 := (hu279 _ (by decide)).trans hO114
          replace hO115 := (hu279 _ (by decide)).trans hO115
          replace hO116 := (hu279 _ (by decide)).trans hO116
          replace hA216 := (hu279 _ (by decide)).trans hA216
          replace hA218 := (hu279 _ (by decide)).trans hA218
          replace hF := q_us hF hu279 (by simp)
          exact q_retv C0 V (⟨hI, hF, 2, y205, y206, y207, y208, y209, y210, y211, y212, y213, y214, t1_0, t2_0, t3_0, t4_0, f215, f217, hO203, hO113, hO114, hO115, hO116, hA216, hA218, (show 0 ≤ y208.toInt from (by have z20 : (2 : Int32).toInt = 2 := rfl; have t1 : 0 ≤ lx82.toInt := i91; have t2 : lx82.toInt ≤ y208.toInt := b233; omega)), (show 0 ≤ y209.toInt from (by have z20 : (2 : Int32).toInt = 2 := rfl; have t1 : 0 ≤ y209.toInt := b221; omega)), (show y209.toInt ≤ 1 from (by have z20 : (2 : Int32).toInt = 2 := rfl; have t1 : y209.toInt ≤ 1 := b222; omega)), (show t0_1.toInt ≤ y205.toInt from (by have z20 : (2 : Int32).toInt = 2 := rfl; have t1 : t0_1.toInt ≤ lx79.toInt := i99; have t2 : lx79.toInt ≤ y205.toInt := b229; omega)), (show y205.toInt ≤ t0_1.toInt from (by have z20 : (2 : Int32).toInt = 2 := rfl; have t1 : lx79.toInt ≤ t0_1.toInt := i100; have t2 : y205.toInt ≤ lx79.toInt := b230; omega)), (show y208.toInt ≤ t0_4.toInt from (by have z20 : (2 : Int32).toInt = 2 := rfl; have t1 : 0 ≤ t0_4.toInt ∧ t0_4.toInt ≤ 1 := btt0_4; have t2 : lx82.toInt ≤ 0 := i92; have t3 : y208.toInt ≤ lx82.toInt := b234; omega)), (show t0_6.toInt ≤ y210.toInt from (by have z20 : (2 : Int32).toInt = 2 := rfl; have t1 : t0_6.toInt ≤ lx84.toInt := i101; have t2 : lx84.toInt ≤ y210.toInt := b237; omega)), (show y210.toInt ≤ t0_6.toInt from (by have z20 : (2 : Int32).toInt = 2 := rfl; have t1 : lx84.toInt ≤ t0_6.toInt := i102; have t2 : y210.toInt ≤ lx84.toInt := b238; omega)), (show t0_7.toInt ≤ y211.toInt from (by have z20 : (2 : Int32).toInt = 2 := rfl; have t1 : t0_7.toInt ≤ lx85.toInt := i103; have t2 : lx85.toInt ≤ y211.toInt := b239; omega)), (show y211.toInt ≤ t0_7.toInt from (by have z20 : (2 : Int32).toInt = 2 := rfl; have t1 : lx85.toInt ≤ t0_7.toInt := i104; have t2 : y211.toInt ≤ lx85.toInt := b240; omega)), (show t0_8.toInt ≤ y212.toInt from (by have z20 : (2 : Int32).toInt = 2 := rfl; have t1 : t0_8.toInt ≤ lx86.toInt := i105; have t2 : lx86.toInt ≤ y212.toInt := b241; omega)), (show y212.toInt ≤ t0_8.toInt from (by have z20 : (2 : Int32).toInt = 2 := rfl; have t1 : lx86.toInt ≤ t0_8.toInt := i106; have t2 : y212.toInt ≤ lx86.toInt := b242; omega)), (show t0_9.toInt ≤ y213.toInt from (by have z20 : (2 : Int32).toInt = 2 := rfl; have t1 : t0_9.toInt ≤ lx87.toInt := i107; have t2 : lx87.toInt ≤ y213.toInt := b245; omega)), (show y213.toInt ≤ t0_9.toInt from (by have z20 : (2 : Int32).toInt = 2 := rfl; have t1 : lx87.toInt ≤ t0_9.toInt := i108; have t2 : y213.toInt ≤ lx87.toInt := b246; omega)), (show ((2 : Int32), y205, y206, y207, y208, y209, y210, y211, y212, y213, y214, t1_0, t2_0, t3_0, t4_0, f215, f217) = (F_DR_power x2 x3 x4 t0_0 t0_1 t0_2 t0_3 t0_4 t0_5 t0_6 t0_7 t0_8 t0_9 t0_10 t1_0 t2_0 t3_0 t4_0 t5_0 t6_0) from Eq.trans (by have c272x := c272; rw [e253] at c272x; rw [e266, e265, e264, e263, e262, e261, e260, e259, e258, e257, e256, e255, F_DR_power_c85.eq_1, if_pos c272x]) hR267)⟩) d_15_29_96
    ·
      have b280 : q_F (0 < lx42.toInt) := (q_nleI c60)
      exact q_retv C0 V (⟨hI, hF, lx42, t0_1, t0_2, t0_3, t0_4, t0_5, t0_6, t0_7, t0_8, t0_9, t0_10, t1_0, t2_0, t3_0, t4_0, t5_0, t6_0, hT0, hT1, hT2, hT3, hT4, hT5, hT6, (show 0 ≤ t0_4.toInt from (by have t1 : 0 ≤ t0_4.toInt ∧ t0_4.toInt ≤ 1 := btt0_4; omega)), (show 0 ≤ t0_5.toInt from (by have t1 : 0 ≤ t0_5.toInt ∧ t0_5.toInt ≤ 1 := btt0_5; omega)), (show t0_5.toInt ≤ 1 from (by have t1 : 0 ≤ t0_5.toInt ∧ t0_5.toInt ≤ 1 := btt0_5; omega)), (show t0_1.toInt ≤ t0_1.toInt from (by omega)), (show t0_1.toInt ≤ t0_1.toInt from (by omega)), (show t0_4.toInt ≤ t0_4.toInt from (by omega)), (show t0_6.toInt ≤ t0_6.toInt from (by omega)), (show t0_6.toInt ≤ t0_6.toInt from (by omega)), (show t0_7.toInt ≤ t0_7.toInt from (by omega)), (show t0_7.toInt ≤ t0_7.toInt from (by omega)), (show t0_8.toInt ≤ t0_8.toInt from (by omega)), (show t0_8.toInt ≤ t0_8.toInt from (by omega)), (show t0_9.toInt ≤ t0_9.toInt from (by omega)), (show t0_9.toInt ≤ t0_9.toInt from (by omega)), (show (lx42, t0_1, t0_2, t0_3, t0_4, t0_5, t0_6, t0_7, t0_8, t0_9, t0_10, t1_0, t2_0, t3_0, t4_0, t5_0, t6_0) = (F_DR_power x2 x3 x4 t0_0 t0_1 t0_2 t0_3 t0_4 t0_5 t0_6 t0_7 t0_8 t0_9 t0_10 t1_0 t2_0 t3_0 t4_0 t5_0 t6_0) from Eq.trans (by rw [F_DR_power_J31.eq_1, if_neg c60]) hR53)⟩) d_15_29_41
  ·
    intro J50
    refine q_join (X := Unit) (fun z H locs ls _ => q_Wd D g (va_A ws sz) s ws H locs ∧ lv_has ls 5 [(0, .ref (q 134)), (1, .int x2), (2, .int x3), (3, .int x4)] ∧ F_DR_power_J26 x2 x3 x4 t0_0 t0_1 t0_2 t0_3 t0_4 t0_5 t0_6 t0_7 t0_8 t0_9 t0_10 t1_0 t2_0 t3_0 t4_0 t5_0 t6_0 = (F_DR_power x2 x3 x4 t0_0 t0_1 t0_2 t0_3 t0_4 t0_5 t0_6 t0_7 t0_8 t0_9 t0_10 t1_0 t2_0 t3_0 t4_0 t5_0 t6_0) ∧ True ∧ S_DR_power_J26 x2 x3 x4 t0_0 t0_1 t0_2 t0_3 t0_4 t0_5 t0_6 t0_7 t0_8 t0_9 t0_10 t1_0 t2_0 t3_0 t4_0 t5_0 t6_0) (fun z => [.ref (q 134)]) 26 0 0 ?_ ?_
    ·
      rintro _ H locs ls _ ⟨V, hl, hR289, hS290⟩
      replace hl : lv_has ls 5 [(0, .ref (q 134)), (1, .int x2), (2, .int x3), (3, .int x4)] := hl
      refine lv_iconst (v := 1) hx hb d_15_29_26 (by decide) ?_
      refine lv_goto (tgt := 31) hx hb d_15_29_27 (by decide) ?_
      exact J50 ((1 : Int32)) _ _ _ ws ⟨(show q_F (0 ≤ 1) from (show 0 ≤ 1 from by omega)), (show q_F (1 ≤ 1) from (show 1 ≤ 1 from by omega)), V, q_lw hl (q_lw1 0 rfl (q_lw1 1 rfl (q_lw1 2 rfl (q_lw1 3 rfl q_lw0)))), (show F_DR_power_J31 x2 x3 x4 t0_0 t0_1 t0_2 t0_3 t0_4 t0_5 t0_6 t0_7 t0_8 t0_9 t0_10 t1_0 t2_0 t3_0 t4_0 t5_0 t6_0 1 = (F_DR_power x2 x3 x4 t0_0 t0_1 t0_2 t0_3 t0_4 t0_5 t0_6 t0_7 t0_8 t0_9 t0_10 t1_0 t2_0 t3_0 t4_0 t5_0 t6_0) from Eq.trans (by rw [F_DR_power_J26.eq_1]) hR289), (show True ∧ S_DR_power_J31 x2 x3 x4 t0_0 t0_1 t0_2 t0_3 t0_4 t0_5 t0_6 t0_7 t0_8 t0_9 t0_10 t1_0 t2_0 t3_0 t4_0 t5_0 t6_0 1 from (by have h := hS290; rw [S_DR_power_J26.eq_1] at h; with_reducible exact h))⟩
    ·
      intro J288
      refine lv_if_ne (tgt := 26) hx hb d_15_29_5 (by decide) (fun c294 => ?_) (fun c294 => ?_)
      ·
        have b295 : q_F (a37.toInt ≠ 0) := (q_neI c294)
        exact J288 (()) _ _ _ ws ⟨V, q_lw hl (q_lw1 0 rfl (q_lw1 1 rfl (q_lw1 2 rfl (q_lw1 3 rfl q_lw0)))), (show F_DR_power_J26 x2 x3 x4 t0_0 t0_1 t0_2 t0_3 t0_4 t0_5 t0_6 t0_7 t0_8 t0_9 t0_10 t1_0 t2_0 t3_0 t4_0 t5_0 t6_0 = (F_DR_power x2 x3 x4 t0_0 t0_1 t0_2 t0_3 t0_4 t0_5 t0_6 t0_7 t0_8 t0_9 t0_10 t1_0 t2_0 t3_0 t4_0 t5_0 t6_0) from (by have c294x := c294; rw [e41] at c294x; rw [F_DR_power.eq_1, if_neg c294x])), (show True ∧ S_DR_power_J26 x2 x3 x4 t0_0 t0_1 t0_2 t0_3 t0_4 t0_5 t0_6 t0_7 t0_8 t0_9 t0_10 t1_0 t2_0 t3_0 t4_0 t5_0 t6_0 from (by have h := hS; rw [S_DR_power.eq_1] at h; have c294x := c294; rw [e41] at c294x; rw [if_neg c294x] at h; with_reducible exact h))⟩
      ·
        have b296 : q_F (a37.toInt = 0) := (q_eqI c294)
        refine lv_iload_n hx hb d_15_29_8 rfl (lv_at hl 3 rfl) ?_
        refine q_goi V (q_runS (As := [.int x4]) (rest := [.ref (q 134)]) (d := 1) (mc := 0) (ms := 0) C0 V rfl LS_DR_113 (X_DR_no l D g q ws  x4 hI   _) rfl hl.1 rfl (Nat.le_of_ble_eq_true rfl) ⟨by decide, by decide⟩ ⟨Nat.le_of_ble_eq_true rfl, Nat.le_of_ble_eq_true rfl⟩ d_15_29_9) (fun a299 u297 H locs hp298 V => ?_)
        obtain ⟨rfl, b300, b301, hE302⟩ := hp298
        have e303 : a299 = (F_DR_no x4) := hE302
        replace b300 : q_F (0 ≤ a299.toInt) := b300
        replace b301 : q_F (a299.toInt ≤ 1) := b301
        refine lv_if_ne (tgt := 26) hx hb d_15_29_12 (by decide) (fun c304 => ?_) (fun c304 => ?_)
        ·
          have b305 : q_F (a299.toInt ≠ 0) := (q_neI c304)
          exact J288 (()) _ _ _ ws ⟨V, q_lw hl (q_lw1 0 rfl (q_lw1 1 rfl (q_lw1 2 rfl (q_lw1 3 rfl q_lw0)))), (show F_DR_power_J26 x2 x3 x4 t0_0 t0_1 t0_2 t0_3 t0_4 t0_5 t0_6 t0_7 t0_8 t0_9 t0_10 t1_0 t2_0 t3_0 t4_0 t5_0 t6_0 = (F_DR_power x2 x3 x4 t0_0 t0_1 t0_2 t0_3 t0_4 t0_5 t0_6 t0_7 t0_8 t0_9 t0_10 t1_0 t2_0 t3_0 t4_0 t5_0 t6_0) from (by have c294x := c294; rw [e41] at c294x; have c304x := c304; rw [e303] at c304x; rw [F_DR_power.eq_1, if_pos c294x, if_neg c304x])), (show True ∧ S_DR_power_J26 x2 x3 x4 t0_0 t0_1 t0_2 t0_3 t0_4 t0_5 t0_6 t0_7 t0_8 t0_9 t0_10 t1_0 t2_0 t3_0 t4_0 t5_0 t6_0 from (by have h := hS; rw [S_DR_power.eq_1] at h; have c294x := c294; rw [e41] at c294x; rw [if_pos c294x] at h; have c304x := c304; rw [e303] at c304x; rw [if_neg c304x] at h; with_reducible exact h))⟩
        ·
          have b306 : q_F (a299.toInt = 0) := (q_eqI c304)
          refine lv_iload_n hx hb d_15_29_15 rfl (lv_at hl 2 rfl) ?_
          refine lv_if_lt (tgt := 26) hx hb d_15_29_16 (by decide) (fun c307 => ?_) (fun c307 => ?_)
          ·
            have b308 : q_F (x3.toInt < 0) := (q_ltI c307)
            exact J288 (()) _ _ _ ws ⟨V, q_lw hl (q_lw1 0 rfl (q_lw1 1 rfl (q_lw1 2 rfl (q_lw1 3 rfl q_lw0)))), (show F_DR_power_J26 x2 x3 x4 t0_0 t0_1 t0_2 t0_3 t0_4 t0_5 t0_6 t0_7 t0_8 t0_9 t0_10 t1_0 t2_0 t3_0 t4_0 t5_0 t6_0 = (F_DR_power x2 x3 x4 t0_0 t0_1 t0_2 t0_3 t0_4 t0_5 t0_6 t0_7 t0_8 t0_9 t0_10 t1_0 t2_0 t3_0 t4_0 t5_0 t6_0) from (by have c294x := c294; rw [e41] at c294x; have c304x := c304; rw [e303] at c304x; rw [F_DR_power.eq_1, if_pos c294x, if_pos c304x, if_pos c307])), (show True ∧ S_DR_power_J26 x2 x3 x4 t0_0 t0_1 t0_2 t0_3 t0_4 t0_5 t0_6 t0_7 t0_8 t0_9 t0_10 t1_0 t2_0 t3_0 t4_0 t5_0 t6_0 from (by have h := hS; rw [S_DR_power.eq_1] at h; have c294x := c294; rw [e41] at c294x; rw [if_pos c294x] at h; have c304x := c304; rw [e303] at c304x; rw [if_pos c304x] at h; rw [if_pos c307] at h; with_reducible exact h))⟩
          ·
            have b309 : q_F (0 ≤ x3.toInt) := (q_nltI c307)
            refine lv_iload_n hx hb d_15_29_19 rfl (lv_at hl 2 rfl) ?_
            refine lv_sipush (v := 999) hx hb d_15_29_20 (by decide) ?_
            refine lv_icmp_le (tgt := 30) hx hb d_15_29_23 (by decide) (fun c310 => ?_) (fun c310 => ?_)
            ·
              have b311 : q_F (x3.toInt ≤ 999) := (q_leI c310)
              refine lv_iconst (v := 0) hx hb d_15_29_30 (by decide) ?_
              exact J50 ((0 : Int32)) _ _ _ ws ⟨(show q_F (0 ≤ 0) from (show 0 ≤ 0 from by omega)), (show q_F (0 ≤ 1) from (show 0 ≤ 1 from by omega)), V, q_lw hl (q_lw1 0 rfl (q_lw1 1 rfl (q_lw1 2 rfl (q_lw1 3 rfl q_lw0)))), (show F_DR_power_J31 x2 x3 x4 t0_0 t0_1 t0_2 t0_3 t0_4 t0_5 t0_6 t0_7 t0_8 t0_9 t0_10 t1_0 t2_0 t3_0 t4_0 t5_0 t6_0 0 = (F_DR_power x2 x3 x4 t0_0 t0_1 t0_2 t0_3 t0_4 t0_5 t0_6 t0_7 t0_8 t0_9 t0_10 t1_0 t2_0 t3_0 t4_0 t5_0 t6_0) from (by have c294x := c294; rw [e41] at c294x; have c304x := c304; rw [e303] at c304x; rw [F_DR_power.eq_1, if_pos c294x, if_pos c304x, if_neg c307, if_pos c310])), (show True ∧ S_DR_power_J31 x2 x3 x4 t0_0 t0_1 t0_2 t0_3 t0_4 t0_5 t0_6 t0_7 t0_8 t0_9 t0_10 t1_0 t2_0 t3_0 t4_0 t5_0 t6_0 0 from (by have h := hS; rw [S_DR_power.eq_1] at h; have c294x := c294; rw [e41] at c294x; rw [if_pos c294x] at h; have c304x := c304; rw [e303] at c304x; rw [if_pos c304x] at h; rw [if_neg c307] at h; rw [if_pos c310] at h; with_reducible exact h))⟩
            ·
              have b312 : q_F (999 < x3.toInt) := (q_nleI c310)
              exact J288 (()) _ _ _ ws ⟨V, q_lw hl (q_lw1 0 rfl (q_lw1 1 rfl (q_lw1 2 rfl (q_lw1 3 rfl q_lw0)))), (show F_DR_power_J26 x2 x3 x4 t0_0 t0_1 t0_2 t0_3 t0_4 t0_5 t0_6 t0_7 t0_8 t0_9 t0_10 t1_0 t2_0 t3_0 t4_0 t5_0 t6_0 = (F_DR_power x2 x3 x4 t0_0 t0_1 t0_2 t0_3 t0_4 t0_5 t0_6 t0_7 t0_8 t0_9 t0_10 t1_0 t2_0 t3_0 t4_0 t5_0 t6_0) from (by have c294x := c294; rw [e41] at c294x; have c304x := c304; rw [e303] at c304x; rw [F_DR_power.eq_1, if_pos c294x, if_pos c304x, if_neg c307, if_neg c310])), (show True ∧ S_DR_power_J26 x2 x3 x4 t0_0 t0_1 t0_2 t0_3 t0_4 t0_5 t0_6 t0_7 t0_8 t0_9 t0_10 t1_0 t2_0 t3_0 t4_0 t5_0 t6_0 from (by have h := hS; rw [S_DR_power.eq_1] at h; have c294x := c294; rw [e41] at c294x; rw [if_pos c294x] at h; have c304x := c304; rw [e303] at c304x; rw [if_pos c304x] at h; rw [if_neg c307] at h; rw [if_neg c310] at h; with_reducible exact h))⟩
theorem d_15_46_0 : decode prog_15_method_46_code 0 = .ok (.aload_n 0, 1) := by decide +kernel
theorem d_15_46_1 : decode prog_15_method_46_code 1 = .ok (.iload_n 1, 1) := by decide +kernel
theorem d_15_46_2 : decode prog_15_method_46_code 2 = .ok (.invokestatic 113, 3) := by decide +kernel
theorem d_15_46_20 : decode prog_15_method_46_code 20 = .ok (.putfield 41, 3) := by decide +kernel
theorem d_15_46_23 : decode prog_15_method_46_code 23 = .ok (.aload_n 0, 1) := by decide +kernel
theorem d_15_46_24 : decode prog_15_method_46_code 24 = .ok (.getfield 41, 3) := by decide +kernel
theorem d_15_46_27 : decode prog_15_method_46_code 27 = .ok (.ifCond .ne 29, 3) := by decide +kernel
theorem d_15_46_56 : decode prog_15_method_46_code 56 = .ok (.return_, 1) := by decide +kernel
theorem d_15_46_30 : decode prog_15_method_46_code 30 = .ok (.aload_n 0, 1) := by decide +kernel
theorem d_15_46_31 : decode prog_15_method_46_code 31 = .ok (.iconst 2, 1) := by decide +kernel
theorem d_15_46_32 : decode prog_15_method_46_code 32 = .ok (.putfield 66, 3) := by decide +kernel
theorem d_15_46_35 : decode prog_15_method_46_code 35 = .ok (.aload_n 0, 1) := by decide +kernel
theorem d_15_46_36 : decode prog_15_method_46_code 36 = .ok (.iload_n 1, 1) := by decide +kernel
theorem d_15_46_37 : decode prog_15_method_46_code 37 = .ok (.invokevirtual 132, 3) := by decide +kernel
theorem d_15_46_40 : decode prog_15_method_46_code 40 = .ok (.aload_n 0, 1) := by decide +kernel
theorem d_15_46_41 : decode prog_15_method_46_code 41 = .ok (.aload_n 0, 1) := by decide +kernel
theorem d_15_46_42 : decode prog_15_method_46_code 42 = .ok (.getfield 48, 3) := by decide +kernel
theorem d_15_46_45 : decode prog_15_method_46_code 45 = .ok (.iload_n 3, 1) := by decide +kernel
theorem d_15_46_46 : decode prog_15_method_46_code 46 = .ok (.i2l, 1) := by decide +kernel
theorem d_15_46_47 : decode prog_15_method_46_code 47 = .ok (.lsub, 1) := by decide +kernel
theorem d_15_46_48 : decode prog_15_method_46_code 48 = .ok (.putfield 48, 3) := by decide +kernel
theorem d_15_46_51 : decode prog_15_method_46_code 51 = .ok (.aload_n 0, 1) := by decide +kernel
theorem d_15_46_52 : decode prog_15_method_46_code 52 = .ok (.iload_n 2, 1) := by decide +kernel
theorem d_15_46_53 : decode prog_15_method_46_code 53 = .ok (.invokevirtual 89, 3) := by decide +kernel
theorem d_15_46_15 : decode prog_15_method_46_code 15 = .ok (.iconst 1, 1) := by decide +kernel
theorem d_15_46_16 : decode prog_15_method_46_code 16 = .ok (.goto 4, 3) := by decide +kernel
theorem d_15_46_5 : decode prog_15_method_46_code 5 = .ok (.ifCond .ne 10, 3) := by decide +kernel
theorem d_15_46_8 : decode prog_15_method_46_code 8 = .ok (.iload_n 2, 1) := by decide +kernel
theorem d_15_46_9 : decode prog_15_method_46_code 9 = .ok (.invokestatic 113, 3) := by decide +kernel
theorem d_15_46_12 : decode prog_15_method_46_code 12 = .ok (.ifCond .eq 7, 3) := by decide +kernel
theorem d_15_46_19 : decode prog_15_method_46_code 19 = .ok (.iconst 0, 1) := by decide +kernel
def y_DR_shift : MethodName := ⟨"NumberHouseModel$DecimalRows", "shift", "(III)V"⟩
def F_DR_shift_c53 (x2 : Int32) (x3 : Int32) (x4 : Int32) (t0_0 : Int32) (t0_1 : Int32) (t0_2 : Int32) (t0_3 : Int64) (t0_4 : Int32) (t0_5 : Int32) (t0_6 : Int32) (t0_7 : Int32) (t0_8 : Int32) (t0_9 : Int32) (t0_10 : Int32) (t1_0 : (Nat → Int32)) (t2_0 : (Nat → Int32)) (t3_0 : (Nat → Int32)) (t4_0 : (Nat → Int32)) (t5_0 : (Nat → Int32)) (lx39 : Int32) (p103 : (Int32 × Int32 × Int32 × Int64 × Int32 × Int32 × Int32 × Int32 × Int32 × Int32 × Int32 × (Nat → Int32))) (p179 : (Int32 × Int32 × Int32 × Int64 × Int32 × Int32 × Int32 × Int32 × Int32 × Int32 × Int32 × (Nat → Int32) × (Nat → Int32) × (Nat → Int32) × (Nat → Int32) × (Nat → Int32))) : Int32 × Int32 × Int32 × Int64 × Int32 × Int32 × Int32 × Int32 × Int32 × Int32 × Int32 × (Nat → Int32) × (Nat → Int32) × (Nat → Int32) × (Nat → Int32) × (Nat → Int32) := ((p179.1 : Int32), (p179.2.1 : Int32), (p179.2.2.1 : Int32), (p179.2.2.2.1 : Int64), (p179.2.2.2.2.1 : Int32), (p179.2.2.2.2.2.1 : Int32), (p179.2.2.2.2.2.2.1 : Int32), (p179.2.2.2.2.2.2.2.1 : Int32), (p179.2.2.2.2.2.2.2.2.1 : Int32), (p179.2.2.2.2.2.2.2.2.2.1 : Int32), (p179.2.2.2.2.2.2.2.2.2.2.1 : Int32), (p179.2.2.2.2.2.2.2.2.2.2.2.1 : (Nat → Int32)), (p179.2.2.2.2.2.2.2.2.2.2.2.2.1 : (Nat → Int32)), (p179.2.2.2.2.2.2.2.2.2.2.2.2.2.1 : (Nat → Int32)), (p179.2.2.2.2.2.2.2.2.2.2.2.2.2.2.1 : (Nat → Int32)), (p179.2.2.2.2.2.2.2.2.2.2.2.2.2.2.2 : (Nat → Int32)))
def F_DR_shift_c37 (x2 : Int32) (x3 : Int32) (x4 : Int32) (t0_0 : Int32) (t0_1 : Int32) (t0_2 : Int32) (t0_3 : Int64) (t0_4 : Int32) (t0_5 : Int32) (t0_6 : Int32) (t0_7 : Int32) (t0_8 : Int32) (t0_9 : Int32) (t0_10 : Int32) (t1_0 : (Nat → Int32)) (t2_0 : (Nat → Int32)) (t3_0 : (Nat → Int32)) (t4_0 : (Nat → Int32)) (t5_0 : (Nat → Int32)) (lx39 : Int32) (p103 : (Int32 × Int32 × Int32 × Int64 × Int32 × Int32 × Int32 × Int32 × Int32 × Int32 × Int32 × (Nat → Int32))) : Int32 × Int32 × Int32 × Int64 × Int32 × Int32 × Int32 × Int32 × Int32 × Int32 × Int32 × (Nat → Int32) × (Nat → Int32) × (Nat → Int32) × (Nat → Int32) × (Nat → Int32) := F_DR_shift_c53 x2 x3 x4 t0_0 t0_1 t0_2 t0_3 t0_4 t0_5 t0_6 t0_7 t0_8 t0_9 t0_10 t1_0 t2_0 t3_0 t4_0 t5_0 lx39 p103 ((F_DR_store x3 (p103.1 : Int32) (p103.2.1 : Int32) (p103.2.2.1 : Int32) ((p103.2.2.2.1 : Int64) - (x4.toInt64 : Int64) : Int64) (p103.2.2.2.2.1 : Int32) (p103.2.2.2.2.2.1 : Int32) (p103.2.2.2.2.2.2.1 : Int32) (p103.2.2.2.2.2.2.2.1 : Int32) (p103.2.2.2.2.2.2.2.2.1 : Int32) (p103.2.2.2.2.2.2.2.2.2.1 : Int32) (p103.2.2.2.2.2.2.2.2.2.2.1 : Int32) t1_0 t2_0 t3_0 t4_0 (p103.2.2.2.2.2.2.2.2.2.2.2 : (Nat → Int32))) : (Int32 × Int32 × Int32 × Int64 × Int32 × Int32 × Int32 × Int32 × Int32 × Int32 × Int32 × (Nat → Int32) × (Nat → Int32) × (Nat → Int32) × (Nat → Int32) × (Nat → Int32)))
def F_DR_shift_J20 (x2 : Int32) (x3 : Int32) (x4 : Int32) (t0_0 : Int32) (t0_1 : Int32) (t0_2 : Int32) (t0_3 : Int64) (t0_4 : Int32) (t0_5 : Int32) (t0_6 : Int32) (t0_7 : Int32) (t0_8 : Int32) (t0_9 : Int32) (t0_10 : Int32) (t1_0 : (Nat → Int32)) (t2_0 : (Nat → Int32)) (t3_0 : (Nat → Int32)) (t4_0 : (Nat → Int32)) (t5_0 : (Nat → Int32)) (lx39 : Int32) : Int32 × Int32 × Int32 × Int64 × Int32 × Int32 × Int32 × Int32 × Int32 × Int32 × Int32 × (Nat → Int32) × (Nat → Int32) × (Nat → Int32) × (Nat → Int32) × (Nat → Int32) := if lx39 = (0 : Int32) then (F_DR_shift_c37 x2 x3 x4 t0_0 t0_1 t0_2 t0_3 t0_4 t0_5 t0_6 t0_7 t0_8 t0_9 t0_10 t1_0 t2_0 t3_0 t4_0 t5_0 lx39 ((F_DR_load x2 lx39 t0_1 t0_2 t0_3 t0_4 t0_5 t0_6 t0_7 t0_8 t0_9 (2 : Int32) t1_0 t2_0 t3_0 t4_0 t5_0) : (Int32 × Int32 × Int32 × Int64 × Int32 × Int32 × Int32 × Int32 × Int32 × Int32 × Int32 × (Nat → Int32)))) else ((lx39, t0_1, t0_2, t0_3, t0_4, t0_5, t0_6, t0_7, t0_8, t0_9, t0_10, t1_0, t2_0, t3_0, t4_0, t5_0))
def F_DR_shift_J15 (x2 : Int32) (x3 : Int32) (x4 : Int32) (t0_0 : Int32) (t0_1 : Int32) (t0_2 : Int32) (t0_3 : Int64) (t0_4 : Int32) (t0_5 : Int32) (t0_6 : Int32) (t0_7 : Int32) (t0_8 : Int32) (t0_9 : Int32) (t0_10 : Int32) (t1_0 : (Nat → Int32)) (t2_0 : (Nat → Int32)) (t3_0 : (Nat → Int32)) (t4_0 : (Nat → Int32)) (t5_0 : (Nat → Int32)) : Int32 × Int32 × Int32 × Int64 × Int32 × Int32 × Int32 × Int32 × Int32 × Int32 × Int32 × (Nat → Int32) × (Nat → Int32) × (Nat → Int32) × (Nat → Int32) × (Nat → Int32) := F_DR_shift_J20 x2 x3 x4 t0_0 t0_1 t0_2 t0_3 t0_4 t0_5 t0_6 t0_7 t0_8 t0_9 t0_10 t1_0 t2_0 t3_0 t4_0 t5_0 1
def F_DR_shift (x2 : Int32) (x3 : Int32) (x4 : Int32) (t0_0 : Int32) (t0_1 : Int32) (t0_2 : Int32) (t0_3 : Int64) (t0_4 : Int32) (t0_5 : Int32) (t0_6 : Int32) (t0_7 : Int32) (t0_8 : Int32) (t0_9 : Int32) (t0_10 : Int32) (t1_0 : (Nat → Int32)) (t2_0 : (Nat → Int32)) (t3_0 : (Nat → Int32)) (t4_0 : (Nat → Int32)) (t5_0 : (Nat → Int32)) : Int32 × Int32 × Int32 × Int64 × Int32 × Int32 × Int32 × Int32 × Int32 × Int32 × Int32 × (Nat → Int32) × (Nat → Int32) × (Nat → Int32) × (Nat → Int32) × (Nat → Int32) := if ((F_DR_no x2) : Int32) = (0 : Int32) then (if ((F_DR_no x3) : Int32) = (0 : Int32) then (F_DR_shift_J20 x2 x3 x4 t0_0 t0_1 t0_2 t0_3 t0_4 t0_5 t0_6 t0_7 t0_8 t0_9 t0_10 t1_0 t2_0 t3_0 t4_0 t5_0 0) else (F_DR_shift_J15 x2 x3 x4 t0_0 t0_1 t0_2 t0_3 t0_4 t0_5 t0_6 t0_7 t0_8 t0_9 t0_10 t1_0 t2_0 t3_0 t4_0 t5_0)) else (F_DR_shift_J15 x2 x3 x4 t0_0 t0_1 t0_2 t0_3 t0_4 t0_5 t0_6 t0_7 t0_8 t0_9 t0_10 t1_0 t2_0 t3_0 t4_0 t5_0)
def S_DR_shift_c53 (x2 : Int32) (x3 : Int32) (x4 : Int32) (t0_0 : Int32) (t0_1 : Int32) (t0_2 : Int32) (t0_3 : Int64) (t0_4 : Int32) (t0_5 : Int32) (t0_6 : Int32) (t0_7 : Int32) (t0_8 : Int32) (t0_9 : Int32) (t0_10 : Int32) (t1_0 : (Nat → Int32)) (t2_0 : (Nat → Int32)) (t3_0 : (Nat → Int32)) (t4_0 : (Nat → Int32)) (t5_0 : (Nat → Int32)) (lx39 : Int32) (p103 : (Int32 × Int32 × Int32 × Int64 × Int32 × Int32 × Int32 × Int32 × Int32 × Int32 × Int32 × (Nat → Int32))) (p179 : (Int32 × Int32 × Int32 × Int64 × Int32 × Int32 × Int32 × Int32 × Int32 × Int32 × Int32 × (Nat → Int32) × (Nat → Int32) × (Nat → Int32) × (Nat → Int32) × (Nat → Int32))) : Prop := True
def S_DR_shift_c37 (x2 : Int32) (x3 : Int32) (x4 : Int32) (t0_0 : Int32) (t0_1 : Int32) (t0_2 : Int32) (t0_3 : Int64) (t0_4 : Int32) (t0_5 : Int32) (t0_6 : Int32) (t0_7 : Int32) (t0_8 : Int32) (t0_9 : Int32) (t0_10 : Int32) (t1_0 : (Nat → Int32)) (t2_0 : (Nat → Int32)) (t3_0 : (Nat → Int32)) (t4_0 : (Nat → Int32)) (t5_0 : (Nat → Int32)) (lx39 : Int32) (p103 : (Int32 × Int32 × Int32 × Int64 × Int32 × Int32 × Int32 × Int32 × Int32 × Int32 × Int32 × (Nat → Int32))) : Prop := (True ∧ S_DR_store x3 (p103.1 : Int32) (p103.2.1 : Int32) (p103.2.2.1 : Int32) ((p103.2.2.2.1 : Int64) - (x4.toInt64 : Int64) : Int64) (p103.2.2.2.2.1 : Int32) (p103.2.2.2.2.2.1 : Int32) (p103.2.2.2.2.2.2.1 : Int32) (p103.2.2.2.2.2.2.2.1 : Int32) (p103.2.2.2.2.2.2.2.2.1 : Int32) (p103.2.2.2.2.2.2.2.2.2.1 : Int32) (p103.2.2.2.2.2.2.2.2.2.2.1 : Int32) t1_0 t2_0 t3_0 t4_0 (p103.2.2.2.2.2.2.2.2.2.2.2 : (Nat → Int32))) ∧ (S_DR_shift_c53 x2 x3 x4 t0_0 t0_1 t0_2 t0_3 t0_4 t0_5 t0_6 t0_7 t0_8 t0_9 t0_10 t1_0 t2_0 t3_0 t4_0 t5_0 lx39 p103 ((F_DR_store x3 (p103.1 : Int32) (p103.2.1 : Int32) (p103.2.2.1 : Int32) ((p103.2.2.2.1 : Int64) - (x4.toInt64 : Int64) : Int64) (p103.2.2.2.2.1 : Int32) (p103.2.2.2.2.2.1 : Int32) (p103.2.2.2.2.2.2.1 : Int32) (p103.2.2.2.2.2.2.2.1 : Int32) (p103.2.2.2.2.2.2.2.2.1 : Int32) (p103.2.2.2.2.2.2.2.2.2.1 : Int32) (p103.2.2.2.2.2.2.2.2.2.2.1 : Int32) t1_0 t2_0 t3_0 t4_0 (p103.2.2.2.2.2.2.2.2.2.2.2 : (Nat → Int32))) : (Int32 × Int32 × Int32 × Int64 × Int32 × Int32 × Int32 × Int32 × Int32 × Int32 × Int32 × (Nat → Int32) × (Nat → Int32) × (Nat → Int32) × (Nat → Int32) × (Nat → Int32))))
def S_DR_shift_J20 (x2 : Int32) (x3 : Int32) (x4 : Int32) (t0_0 : Int32) (t0_1 : Int32) (t0_2 : Int32) (t0_3 : Int64) (t0_4 : Int32) (t0_5 : Int32) (t0_6 : Int32) (t0_7 : Int32) (t0_8 : Int32) (t0_9 : Int32) (t0_10 : Int32) (t1_0 : (Nat → Int32)) (t2_0 : (Nat → Int32)) (t3_0 : (Nat → Int32)) (t4_0 : (Nat → Int32)) (t5_0 : (Nat → Int32)) (lx39 : Int32) : Prop := if lx39 = (0 : Int32) then ((True ∧ S_DR_load x2 lx39 t0_1 t0_2 t0_3 t0_4 t0_5 t0_6 t0_7 t0_8 t0_9 (2 : Int32) t1_0 t2_0 t3_0 t4_0 t5_0) ∧ (S_DR_shift_c37 x2 x3 x4 t0_0 t0_1 t0_2 t0_3 t0_4 t0_5 t0_6 t0_7 t0_8 t0_9 t0_10 t1_0 t2_0 t3_0 t4_0 t5_0 lx39 ((F_DR_load x2 lx39 t0_1 t0_2 t0_3 t0_4 t0_5 t0_6 t0_7 t0_8 t0_9 (2 : Int32) t1_0 t2_0 t3_0 t4_0 t5_0) : (Int32 × Int32 × Int32 × Int64 × Int32 × Int32 × Int32 × Int32 × Int32 × Int32 × Int32 × (Nat → Int32))))) else (True)
def S_DR_shift_J15 (x2 : Int32) (x3 : Int32) (x4 : Int32) (t0_0 : Int32) (t0_1 : Int32) (t0_2 : Int32) (t0_3 : Int64) (t0_4 : Int32) (t0_5 : Int32) (t0_6 : Int32) (t0_7 : Int32) (t0_8 : Int32) (t0_9 : Int32) (t0_10 : Int32) (t1_0 : (Nat → Int32)) (t2_0 : (Nat → Int32)) (t3_0 : (Nat → Int32)) (t4_0 : (Nat → Int32)) (t5_0 : (Nat → Int32)) : Prop := S_DR_shift_J20 x2 x3 x4 t0_0 t0_1 t0_2 t0_3 t0_4 t0_5 t0_6 t0_7 t0_8 t0_9 t0_10 t1_0 t2_0 t3_0 t4_0 t5_0 1
def S_DR_shift (x2 : Int32) (x3 : Int32) (x4 : Int32) (t0_0 : Int32) (t0_1 : Int32) (t0_2 : Int32) (t0_3 : Int64) (t0_4 : Int32) (t0_5 : Int32) (t0_6 : Int32) (t0_7 : Int32) (t0_8 : Int32) (t0_9 : Int32) (t0_10 : Int32) (t1_0 : (Nat → Int32)) (t2_0 : (Nat → Int32)) (t3_0 : (Nat → Int32)) (t4_0 : (Nat → Int32)) (t5_0 : (Nat → Int32)) : Prop := if ((F_DR_no x2) : Int32) = (0 : Int32) then (if ((F_DR_no x3) : Int32) = (0 : Int32) then (S_DR_shift_J20 x2 x3 x4 t0_0 t0_1 t0_2 t0_3 t0_4 t0_5 t0_6 t0_7 t0_8 t0_9 t0_10 t1_0 t2_0 t3_0 t4_0 t5_0 0) else (S_DR_shift_J15 x2 x3 x4 t0_0 t0_1 t0_2 t0_3 t0_4 t0_5 t0_6 t0_7 t0_8 t0_9 t0_10 t1_0 t2_0 t3_0 t4_0 t5_0)) else (S_DR_shift_J15 x2 x3 x4 t0_0 t0_1 t0_2 t0_3 t0_4 t0_5 t0_6 t0_7 t0_8 t0_9 t0_10 t1_0 t2_0 t3_0 t4_0 t5_0)
set_option maxRecDepth 100000 in
set_option maxHeartbeats 4000000 in
theorem X_DR_shift (l : Launch) (D : va_G) (g : Nat → ClassId) (q : Nat → Nat) (ws : va_W) (x2 : Int32) (x3 : Int32) (x4 : Int32) (hI : q_I (msh g q) q ws) (t0_0 : Int32) (t0_1 : Int32) (t0_2 : Int32) (t0_3 : Int64) (t0_4 : Int32) (t0_5 : Int32) (t0_6 : Int32) (t0_7 : Int32) (t0_8 : Int32) (t0_9 : Int32) (t0_10 : Int32) (hT0 : ws[134]? = (some (q 134, .inr (14, [.int t0_0, .ref (q 135), .int t0_1, .ref (q 136), .ref (q 137), .ref (q 138), .ref (q 139), .ref (q 140), .int t0_2, .long t0_3, .int t0_4, .int t0_5, .ref (q 141), .int t0_6, .ref (q 142), .int t0_7, .ref (q 143), .int t0_8, .ref (q 144), .int t0_9, .int t0_10])) : Option (Nat × va_E))) (t1_0 : (Nat → Int32)) (hT1 : ws[136]? = (some (q 136, .inl (g 0, (10000 : Int32).toNatClampNeg, .inl t1_0)) : Option (Nat × va_E))) (t2_0 : (Nat → Int32)) (hT2 : ws[137]? = (some (q 137, .inl (g 0, (10 : Int32).toNatClampNeg, .inl t2_0)) : Option (Nat × va_E))) (t3_0 : (Nat → Int32)) (hT3 : ws[138]? = (some (q 138, .inl (g 3, 10, .inl t3_0)) : Option (Nat × va_E))) (t4_0 : (Nat → Int32)) (hT4 : ws[139]? = (some (q 139, .inl (g 0, (10 : Int32).toNatClampNeg, .inl t4_0)) : Option (Nat × va_E))) (t5_0 : (Nat → Int32)) (hT5 : ws[140]? = (some (q 140, .inl (g 0, (4400 : Int32).toNatClampNeg, .inl t5_0)) : Option (Nat × va_E))) (hS : True ∧ S_DR_shift x2 x3 x4 t0_0 t0_1 t0_2 t0_3 t0_4 t0_5 t0_6 t0_7 t0_8 t0_9 t0_10 t1_0 t2_0 t3_0 t4_0 t5_0) : q_mV l y_DR_shift prog_15_method_46_code 4 3 0 0 D g [.ref (q 134), .int x2, .int x3, .int x4] ws (fun u => q_I (msh g q) q u ∧ q_un ws u [134, 136, 137, 138, 139, 140] ∧ ∃ (u0_0 : Int32) (u0_1 : Int32) (u0_2 : Int32) (u0_3 : Int64) (u0_4 : Int32) (u0_5 : Int32) (u0_6 : Int32) (u0_7 : Int32) (u0_8 : Int32) (u0_9 : Int32) (u0_10 : Int32) (u1_0 : (Nat → Int32)) (u2_0 : (Nat → Int32)) (u3_0 : (Nat → Int32)) (u4_0 : (Nat → Int32)) (u5_0 : (Nat → Int32)), u[134]? = (some (q 134, .inr (14, [.int u0_0, .ref (q 135), .int u0_1, .ref (q 136), .ref (q 137), .ref (q 138), .ref (q 139), .ref (q 140), .int u0_2, .long u0_3, .int u0_4, .int u0_5, .ref (q 141), .int u0_6, .ref (q 142), .int u0_7, .ref (q 143), .int u0_8, .ref (q 144), .int u0_9, .int u0_10])) : Option (Nat × va_E)) ∧ u[136]? = (some (q 136, .inl (g 0, (10000 : Int32).toNatClampNeg, .inl u1_0)) : Option (Nat × va_E)) ∧ u[137]? = (some (q 137, .inl (g 0, (10 : Int32).toNatClampNeg, .inl u2_0)) : Option (Nat × va_E)) ∧ u[138]? = (some (q 138, .inl (g 3, 10, .inl u3_0)) : Option (Nat × va_E)) ∧ u[139]? = (some (q 139, .inl (g 0, (10 : Int32).toNatClampNeg, .inl u4_0)) : Option (Nat × va_E)) ∧ u[140]? = (some (q 140, .inl (g 0, (4400 : Int32).toNatClampNeg, .inl u5_0)) : Option (Nat × va_E)) ∧ (0 ≤ u0_4.toInt) ∧ (0 ≤ u0_5.toInt) ∧ (u0_5.toInt ≤ 1) ∧ (t0_1.toInt ≤ u0_1.toInt) ∧ (u0_1.toInt ≤ t0_1.toInt) ∧ (u0_4.toInt ≤ t0_4.toInt) ∧ (t0_6.toInt ≤ u0_6.toInt) ∧ (u0_6.toInt ≤ t0_6.toInt) ∧ (t0_7.toInt ≤ u0_7.toInt) ∧ (u0_7.toInt ≤ t0_7.toInt) ∧ (t0_8.toInt ≤ u0_8.toInt) ∧ (u0_8.toInt ≤ t0_8.toInt) ∧ (t0_9.toInt ≤ u0_9.toInt) ∧ (u0_9.toInt ≤ t0_9.toInt) ∧ (u0_0, u0_1, u0_2, u0_3, u0_4, u0_5, u0_6, u0_7, u0_8, u0_9, u0_10, u1_0, u2_0, u3_0, u4_0, u5_0) = (F_DR_shift x2 x3 x4 t0_0 t0_1 t0_2 t0_3 t0_4 t0_5 t0_6 t0_7 t0_8 t0_9 t0_10 t1_0 t2_0 t3_0 t4_0 t5_0)) := by
  intro sz
  refine q_into (by decide) (Nat.le_of_ble_eq_true rfl) ?_
  intro p e s m below meth c ls hsz C0 V hl
  have hx := C0.1
  have hb := C0.2.1
  obtain ⟨yy0_0, yy0_1, yy0_2, yy0_3, yy0_4, yy0_5, yy0_6, yy0_7, yy0_8, yy0_9, yy0_10, hh0, btt0_1, btt0_4, btt0_5, btt0_9⟩ := n_o134 hI
  obtain ⟨rfl, rfl, rfl, rfl, rfl, rfl, rfl, rfl, rfl, rfl, rfl⟩ : t0_0 = yy0_0 ∧ t0_1 = yy0_1 ∧ t0_2 = yy0_2 ∧ t0_3 = yy0_3 ∧ t0_4 = yy0_4 ∧ t0_5 = yy0_5 ∧ t0_6 = yy0_6 ∧ t0_7 = yy0_7 ∧ t0_8 = yy0_8 ∧ t0_9 = yy0_9 ∧ t0_10 = yy0_10 := by have z := Option.some.inj (hT0.symm.trans hh0); simpa using z
  replace btt0_1 : q_F (0 ≤ t0_1.toInt ∧ t0_1.toInt ≤ 4100) := btt0_1
  replace btt0_4 : q_F (0 ≤ t0_4.toInt ∧ t0_4.toInt ≤ 1) := btt0_4
  replace btt0_5 : q_F (0 ≤ t0_5.toInt ∧ t0_5.toInt ≤ 1) := btt0_5
  replace btt0_9 : q_F (0 ≤ t0_9.toInt ∧ t0_9.toInt ≤ 12200) := btt0_9
  have hF : q_un ws ws [134, 136, 137, 138, 139, 140] := q_u0
  have hl : lv_has ls 4 [(0, .ref (q 134)), (1, .int x2), (2, .int x3), (3, .int x4)] := hl
  refine lv_aload_n hx hb d_15_46_0 rfl (lv_at hl 0 rfl) ?_
  refine lv_iload_n hx hb d_15_46_1 rfl (lv_at hl 1 rfl) ?_
  refine q_goi V (q_runS (As := [.int x2]) (rest := [.ref (q 134)]) (d := 1) (mc := 0) (ms := 0) C0 V rfl LS_DR_113 (X_DR_no l D g q ws  x2 hI   _) rfl hl.1 rfl (Nat.le_of_ble_eq_true rfl) ⟨by decide, by decide⟩ ⟨Nat.le_of_ble_eq_true rfl, Nat.le_of_ble_eq_true rfl⟩ d_15_46_2) (fun a34 u32 H locs hp33 V => ?_)
  obtain ⟨rfl, b35, b36, hE37⟩ := hp33
  have e38 : a34 = (F_DR_no x2) := hE37
  replace b35 : q_F (0 ≤ a34.toInt) := b35
  replace b36 : q_F (a34.toInt ≤ 1) := b36
  refine q_join (X := Int32) (fun z H locs ls _ => q_F (0 ≤ z.toInt) ∧ q_F (z.toInt ≤ 1) ∧ q_Wd D g (va_A ws sz) s ws H locs ∧ lv_has ls 4 [(0, .ref (q 134)), (1, .int x2), (2, .int x3), (3, .int x4)] ∧ F_DR_shift_J20 x2 x3 x4 t0_0 t0_1 t0_2 t0_3 t0_4 t0_5 t0_6 t0_7 t0_8 t0_9 t0_10 t1_0 t2_0 t3_0 t4_0 t5_0 z = (F_DR_shift x2 x3 x4 t0_0 t0_1 t0_2 t0_3 t0_4 t0_5 t0_6 t0_7 t0_8 t0_9 t0_10 t1_0 t2_0 t3_0 t4_0 t5_0) ∧ True ∧ S_DR_shift_J20 x2 x3 x4 t0_0 t0_1 t0_2 t0_3 t0_4 t0_5 t0_6 t0_7 t0_8 t0_9 t0_10 t1_0 t2_0 t3_0 t4_0 t5_0 z) (fun z => [.int z, .ref (q 134)]) 20 0 0 ?_ ?_
  ·
    rintro lx39 H locs ls _ ⟨i47, i48, V, hl, hR49, hS50⟩
    replace i47 : q_F (0 ≤ lx39.toInt) := i47
    replace i48 : q_F (lx39.toInt ≤ 1) := i48
    replace hl : lv_has ls 4 [(0, .ref (q 134)), (1, .int x2), (2, .int x3), (3, .int x4)] := hl
    refine q_put (ci := 14) (j := 0) (v := .int lx39) (ty := .int) C0 V i_DR o_DR n_DR rfl rfl hT0 (by decide) w_1996 rfl rfl rfl rfl (Nat.le_of_ble_eq_true rfl) d_15_46_20 (fun H locs w54 hu55 hT0 V => ?_)
    replace hT0 : w54[134]? = (some (q 134, .inr (14, [.int lx39, .ref (q 135), .int t0_1, .ref (q 136), .ref (q 137), .ref (q 138), .ref (q 139), .ref (q 140), .int t0_2, .long t0_3, .int t0_4, .int t0_5, .ref (q 141), .int t0_6, .ref (q 142), .int t0_7, .ref (q 143), .int t0_8, .ref (q 144), .int t0_9, .int t0_10])) : Option (Nat × va_E)) := hT0
    replace hI := n_p134 hI hu55 hT0 ⟨(by have t1 : 0 ≤ t0_1.toInt ∧ t0_1.toInt ≤ 4100 := btt0_1; omega), (by have t1 : 0 ≤ t0_1.toInt ∧ t0_1.toInt ≤ 4100 := btt0_1; omega)⟩ ⟨(by have t1 : 0 ≤ t0_4.toInt ∧ t0_4.toInt ≤ 1 := btt0_4; omega), (by have t1 : 0 ≤ t0_4.toInt ∧ t0_4.toInt ≤ 1 := btt0_4; omega)⟩ ⟨(by have t1 : 0 ≤ t0_5.toInt ∧ t0_5.toInt ≤ 1 := btt0_5; omega), (by have t1 : 0 ≤ t0_5.toInt ∧ t0_5.toInt ≤ 1 := btt0_5; omega)⟩ ⟨(by have t1 : 0 ≤ t0_9.toInt ∧ t0_9.toInt ≤ 12200 := btt0_9; omega), (by have t1 : 0 ≤ t0_9.toInt ∧ t0_9.toInt ≤ 12200 := btt0_9; omega)⟩
    replace hT1 := (hu55 _ (by decide)).trans hT1
    replace hT2 := (hu55 _ (by decide)).trans hT2
    replace hT3 := (hu55 _ (by decide)).trans hT3
    replace hT4 := (hu55 _ (by decide)).trans hT4
    replace hT5 := (hu55 _ (by decide)).trans hT5
    replace hF := q_us hF hu55 (by simp)
    refine lv_aload_n hx hb d_15_46_23 rfl (lv_at hl 0 rfl) ?_
    refine q_get (ci := 14) (j := 0) (v := .int lx39) C0 V i_DR rfl rfl hT0 (by decide) w_1996 rfl d_15_46_24 ?_
    refine lv_if_ne (tgt := 56) hx hb d_15_46_27 (by decide) (fun c56 => ?_) (fun c56 => ?_)
    ·
      have b57 : q_F (lx39.toInt ≠ 0) := (q_neI c56)
      exact q_retv C0 V (⟨hI, hF, lx39, t0_1, t0_2, t0_3, t0_4, t0_5, t0_6, t0_7, t0_8, t0_9, t0_10, t1_0, t2_0, t3_0, t4_0, t5_0, hT0, hT1, hT2, hT3, hT4, hT5, (show 0 ≤ t0_4.toInt from (by have t1 : 0 ≤ t0_4.toInt ∧ t0_4.toInt ≤ 1 := btt0_4; omega)), (show 0 ≤ t0_5.toInt from (by have t1 : 0 ≤ t0_5.toInt ∧ t0_5.toInt ≤ 1 := btt0_5; omega)), (show t0_5.toInt ≤ 1 from (by have t1 : 0 ≤ t0_5.toInt ∧ t0_5.toInt ≤ 1 := btt0_5; omega)), (show t0_1.toInt ≤ t0_1.toInt from (by omega)), (show t0_1.toInt ≤ t0_1.toInt from (by omega)), (show t0_4.toInt ≤ t0_4.toInt from (by omega)), (show t0_6.toInt ≤ t0_6.toInt from (by omega)), (show t0_6.toInt ≤ t0_6.toInt from (by omega)), (show t0_7.toInt ≤ t0_7.toInt from (by omega)), (show t0_7.toInt ≤ t0_7.toInt from (by omega)), (show t0_8.toInt ≤ t0_8.toInt from (by omega)), (show t0_8.toInt ≤ t0_8.toInt from (by omega)), (show t0_9.toInt ≤ t0_9.toInt from (by omega)), (show t0_9.toInt ≤ t0_9.toInt from (by omega)), (show (lx39, t0_1, t0_2, t0_3, t0_4, t0_5, t0_6, t0_7, t0_8, t0_9, t0_10, t1_0, t2_0, t3_0, t4_0, t5_0) = (F_DR_shift x2 x3 x4 t0_0 t0_1 t0_2 t0_3 t0_4 t0_5 t0_6 t0_7 t0_8 t0_9 t0_10 t1_0 t2_0 t3_0 t4_0 t5_0) from Eq.trans (by rw [F_DR_shift_J20.eq_1, if_neg c56]) hR49)⟩) d_15_46_56
    ·
      have b58 : q_F (lx39.toInt = 0) := (q_eqI c56)
      refine lv_aload_n hx hb d_15_46_30 rfl (lv_at hl 0 rfl) ?_
      refine lv_iconst (v := 2) hx hb d_15_46_31 (by decide) ?_
      refine q_put (ci := 14) (j := 20) (v := .int 2) (ty := .int) C0 V i_DR o_DR n_DR rfl rfl hT0 (by decide) w_2024 rfl rfl rfl rfl (Nat.le_of_ble_eq_true rfl) d_15_46_32 (fun H locs w59 hu60 hT0 V => ?_)
      replace hT0 : w59[134]? = (some (q 134, .inr (14, [.int lx39, .ref (q 135), .int t0_1, .ref (q 136), .ref (q 137), .ref (q 138), .ref (q 139), .ref (q 140), .int t0_2, .long t0_3, .int t0_4, .int t0_5, .ref (q 141), .int t0_6, .ref (q 142), .int t0_7, .ref (q 143), .int t0_8, .ref (q 144), .int t0_9, .int 2])) : Option (Nat × va_E)) := hT0
      replace hI := n_p134 hI hu60 hT0 ⟨(by have t1 : 0 ≤ t0_1.toInt ∧ t0_1.toInt ≤ 4100 := btt0_1; omega), (by have t1 : 0 ≤ t0_1.toInt ∧ t0_1.toInt ≤ 4100 := btt0_1; omega)⟩ ⟨(by have t1 : 0 ≤ t0_4.toInt ∧ t0_4.toInt ≤ 1 := btt0_4; omega), (by have t1 : 0 ≤ t0_4.toInt ∧ t0_4.toInt ≤ 1 := btt0_4; omega)⟩ ⟨(by have t1 : 0 ≤ t0_5.toInt ∧ t0_5.toInt ≤ 1 := btt0_5; omega), (by have t1 : 0 ≤ t0_5.toInt ∧ t0_5.toInt ≤ 1 := btt0_5; omega)⟩ ⟨(by have t1 : 0 ≤ t0_9.toInt ∧ t0_9.toInt ≤ 12200 := btt0_9; omega), (by have t1 : 0 ≤ t0_9.toInt ∧ t0_9.toInt ≤ 12200 := btt0_9; omega)⟩
      replace hT1 := (hu60 _ (by decide)).trans hT1
      replace hT2 := (hu60 _ (by decide)).trans hT2
      replace hT3 := (hu60 _ (by decide)).trans hT3
      replace hT4 := (hu60 _ (by decide)).trans hT4
      replace hT5 := (hu60 _ (by decide)).trans hT5
      replace hF := q_us hF hu60 (by simp)
      refine lv_aload_n hx hb d_15_46_35 rfl (lv_at hl 0 rfl) ?_
      refine lv_iload_n hx hb d_15_46_36 rfl (lv_at hl 1 rfl) ?_
      have ob61 : True ∧ S_DR_load x2 lx39 t0_1 t0_2 t0_3 t0_4 t0_5 t0_6 t0_7 t0_8 t0_9 (2 : Int32) t1_0 t2_0 t3_0 t4_0 t5_0 := (by have h := hS50; rw [S_DR_shift_J20.eq_1] at h; rw [if_pos c56] at h; with_reducible exact h.2.1)
      refine q_gov V (q_runV (As := [.int x2]) (rest := []) (d := 1) (mc := 0) (ms := 0) (ci := 14) C0 V rfl LV_DR_132 (X_DR_load l D g q w59  x2 hI lx39 t0_1 t0_2 t0_3 t0_4 t0_5 t0_6 t0_7 t0_8 t0_9 2 hT0 t1_0 hT1 t2_0 hT2 t3_0 hT3 t4_0 hT4 t5_0 hT5 ob61 _) rfl rfl hT0 rfl hl.1 rfl (Nat.le_of_ble_eq_true rfl) ⟨by decide, by decide⟩ ⟨Nat.le_of_ble_eq_true rfl, Nat.le_of_ble_eq_true rfl⟩ d_15_46_37) (fun u62 H locs hp63 V => ?_)
      obtain ⟨hI, hu102, y65, y66, y67, y68, y69, y70, y71, y72, y73, y74, y75, f76, hO64, hA77, b78, b79, b80, b81, b82, b83, b84, b85, b86, b87, b88, b89, b90, b91, b92, b93, b94, b95, b96, b97, b98, b99, b100, hE101⟩ := hp63
      replace hO64 : u62[134]? = (some (q 134, .inr (14, [.int y65, .ref (q 135), .int y66, .ref (q 136), .ref (q 137), .ref (q 138), .ref (q 139), .ref (q 140), .int y67, .long y68, .int y69, .int y70, .ref (q 141), .int y71, .ref (q 142), .int y72, .ref (q 143), .int y73, .ref (q 144), .int y74, .int y75])) : Option (Nat × va_E)) := hO64
      replace hA77 : u62[140]? = (some (q 140, .inl (g 0, (4400 : Int32).toNatClampNeg, .inl f76)) : Option (Nat × va_E)) := hA77
      obtain ⟨p103, e104⟩ : ∃ z, z = (F_DR_load x2 lx39 t0_1 t0_2 t0_3 t0_4 t0_5 t0_6 t0_7 t0_8 t0_9 (2 : Int32) t1_0 t2_0 t3_0 t4_0 t5_0) := ⟨_, rfl⟩
      have e105 : y65 = p103.1 := congrArg (fun z => z.1) (hE101.trans e104.symm)
      have e106 : y66 = p103.2.1 := congrArg (fun z => z.2.1) (hE101.trans e104.symm)
      have e107 : y67 = p103.2.2.1 := congrArg (fun z => z.2.2.1) (hE101.trans e104.symm)
      have e108 : y68 = p103.2.2.2.1 := congrArg (fun z => z.2.2.2.1) (hE101.trans e104.symm)
      have e109 : y69 = p103.2.2.2.2.1 := congrArg (fun z => z.2.2.2.2.1) (hE101.trans e104.symm)
      have e110 : y70 = p103.2.2.2.2.2.1 := congrArg (fun z => z.2.2.2.2.2.1) (hE101.trans e104.symm)
      have e111 : y71 = p103.2.2.2.2.2.2.1 := congrArg (fun z => z.2.2.2.2.2.2.1) (hE101.trans e104.symm)
      have e112 : y72 = p103.2.2.2.2.2.2.2.1 := congrArg (fun z => z.2.2.2.2.2.2.2.1) (hE101.trans e104.symm)
      have e113 : y73 = p103.2.2.2.2.2.2.2.2.1 := congrArg (fun z => z.2.2.2.2.2.2.2.2.1) (hE101.trans e104.symm)
      have e114 : y74 = p103.2.2.2.2.2.2.2.2.2.1 := congrArg (fun z => z.2.2.2.2.2.2.2.2.2.1) (hE101.trans e104.symm)
      have e115 : y75 = p103.2.2.2.2.2.2.2.2.2.2.1 := congrArg (fun z => z.2.2.2.2.2.2.2.2.2.2.1) (hE101.trans e104.symm)
      have e116 : f76 = p103.2.2.2.2.2.2.2.2.2.2.2 := congrArg (fun z => z.2.2.2.2.2.2.2.2.2.2.2) (hE101.trans e104.symm)
      replace b78 : q_F (0 ≤ y68.toInt + 2147483648) := b78
      replace b79 : q_F (y68.toInt ≤ 2147483647) := b79
      replace b80 : q_F (0 ≤ y69.toInt) := b80
      replace b81 : q_F (y69.toInt ≤ 0) := b81
      replace b82 : q_F (lx39.toInt ≤ y65.toInt) := b82
      replace b83 : q_F (y65.toInt ≤ lx39.toInt) := b83
      replace b84 : q_F (t0_1.toInt ≤ y66.toInt) := b84
      replace b85 : q_F (y66.toInt ≤ t0_1.toInt) := b85
      replace b86 : q_F (x2.toInt ≤ y69.toInt + 9) := b86
      replace b87 : q_F (y69.toInt ≤ x2.toInt) := b87
      replace b88 : q_F (t0_6.toInt ≤ y71.toInt) := b88
      replace b89 : q_F (y71.toInt ≤ t0_6.toInt) := b89
      replace b90 : q_F (t0_7.toInt ≤ y72.toInt) := b90
      replace b91 : q_F (y72.toInt ≤ t0_7.toInt) := b91
      replace b92 : q_F (t0_8.toInt ≤ y73.toInt) := b92
      replace b93 : q_F (y73.toInt ≤ t0_8.toInt) := b93
      replace b94 : q_F (t0_9.toInt ≤ y74.toInt) := b94
      replace b95 : q_F (y74.toInt ≤ t0_9.toInt) := b95
      replace b96 : q_F (2 ≤ y75.toInt) := b96
      replace b97 : q_F (y75.toInt ≤ 2) := b97
      replace b98 : q_F (y67.toInt ≤ y69.toInt + 12200) := b98
      replace b99 : q_F (y70.toInt ≤ y69.toInt + 1) := b99
      replace b100 : q_F (y69.toInt ≤ y70.toInt) := b100
      replace hT1 := (hu102 _ (by decide)).trans hT1
      replace hT2 := (hu102 _ (by decide)).trans hT2
      replace hT3 := (hu102 _ (by decide)).trans hT3
      replace hT4 := (hu102 _ (by decide)).trans hT4
      replace hF := q_uc hF hu102 (by simp)
      have hR117 := (show F_DR_shift_c37 x2 x3 x4 t0_0 t0_1 t0_2 t0_3 t0_4 t0_5 t0_6 t0_7 t0_8 t0_9 t0_10 t1_0 t2_0 t3_0 t4_0 t5_0 lx39 p103 = (F_DR_shift x2 x3 x4 t0_0 t0_1 t0_2 t0_3 t0_4 t0_5 t0_6 t0_7 t0_8 t0_9 t0_10 t1_0 t2_0 t3_0 t4_0 t5_0) from Eq.trans (by rw [e104, F_DR_shift_J20.eq_1, if_pos c56]) hR49)
      have hS118 := (show True ∧ S_DR_shift_c37 x2 x3 x4 t0_0 t0_1 t0_2 t0_3 t0_4 t0_5 t0_6 t0_7 t0_8 t0_9 t0_10 t1_0 t2_0 t3_0 t4_0 t5_0 lx39 p103 from (by rw [e104]; have h := hS50; rw [S_DR_shift_J20.eq_1] at h; rw [if_pos c56] at h; replace h := q_s2 h; with_reducible exact h))
      refine lv_aload_n hx hb d_15_46_40 rfl (lv_at hl 0 rfl) ?_
      refine lv_aload_n hx hb d_15_46_41 rfl (lv_at hl 0 rfl) ?_
      refine q_get (ci := 14) (j := 9) (v := .long y68) C0 V i_DR rfl rfl hO64 (by decide) w_2012 rfl d_15_46_42 ?_
      refine lv_iload_n hx hb d_15_46_45 rfl (lv_at hl 3 rfl) ?_
      refine lv_i2l hx hb d_15_46_46 rfl ?_
      obtain ⟨j122, e123⟩ := q_nm (x4.toInt64 : Int64)
      refine q_tl (v := j122) e123 ?_
      have b124 : q_F (j122.toInt = x4.toInt) := (by rw [← e123]; show (x4.toInt64 : Int64).toInt = x4.toInt; exact q_i2l rfl)
      refine lv_lsub hx hb d_15_46_47 ?_
      obtain ⟨j125, e126⟩ := q_nm (y68 - j122 : Int64)
      refine q_tl (v := j125) e126 ?_
      have b127 : q_F (j125.toInt = y68.toInt - j122.toInt) := (by rw [← e126]; show (y68 - j122 : Int64).toInt = y68.toInt - j122.toInt; exact q_subL (x := y68.toInt) (y := j122.toInt) rfl rfl (by have t1 : 0 ≤ y68.toInt + 2147483648 := b78; have t2 : j122.toInt = x4.toInt := b124; have _ := q_lo32 (x := x4); have _ := q_hi32 (x := x4); have t3 : y68.toInt ≤ 2147483647 := b79; omega) (by have t1 : 0 ≤ y68.toInt + 2147483648 := b78; have t2 : j122.toInt = x4.toInt := b124; have _ := q_lo32 (x := x4); have _ := q_hi32 (x := x4); have t3 : y68.toInt ≤ 2147483647 := b79; omega))
      refine q_put (ci := 14) (j := 9) (v := .long j125) (ty := .long) C0 V i_DR o_DR n_DR rfl rfl hO64 (by decide) w_2012 rfl rfl rfl rfl (Nat.le_of_ble_eq_true rfl) d_15_46_48 (fun H locs w128 hu129 hO64 V => ?_)
      replace hO64 : w128[134]? = (some (q 134, .inr (14, [.int y65, .ref (q 135), .int y66, .ref (q 136), .ref (q 137), .ref (q 138), .ref (q 139), .ref (q 140), .int y67, .long j125, .int y69, .int y70, .ref (q 141), .int y71, .ref (q 142), .int y72, .ref (q 143), .int y73, .ref (q 144), .int y74, .int y75])) : Option (Nat × va_E)) := hO64
      replace hI := n_p134 hI hu129 hO64 ⟨(by have t1 : 0 ≤ t0_1.toInt ∧ t0_1.toInt ≤ 4100 := btt0_1; have t2 : t0_1.toInt ≤ y66.toInt := b84; omega), (by have t1 : 0 ≤ t0_1.toInt ∧ t0_1.toInt ≤ 4100 := btt0_1; have t2 : y66.toInt ≤ t0_1.toInt := b85; omega)⟩ ⟨(by have t1 : 0 ≤ y69.toInt := b80; omega), (by have t1 : y69.toInt ≤ 0 := b81; omega)⟩ ⟨(by have t1 : 0 ≤ y69.toInt := b80; have t2 : y69.toInt ≤ y70.toInt := b100; omega), (by have t1 : y69.toInt ≤ 0 := b81; have t2 : y70.toInt ≤ y69.toInt + 1 := b99; omega)⟩ ⟨(by have t1 : 0 ≤ t0_9.toInt ∧ t0_9.toInt ≤ 12200 := btt0_9; have t2 : t0_9.toInt ≤ y74.toInt := b94; omega), (by have t1 : 0 ≤ t0_9.toInt ∧ t0_9.toInt ≤ 12200 := btt0_9; have t2 : y74.toInt ≤ t0_9.toInt := b95; omega)⟩
      replace hT1 := (hu129 _ (by decide)).trans hT1
      replace hT2 := (hu129 _ (by decide)).trans hT2
      replace hT3 := (hu129 _ (by decide)).trans hT3
      replace hT4 := (hu129 _ (by decide)).trans hT4
      replace hA77 := (hu129 _ (by decide)).trans hA77
      replace hF := q_us hF hu129 (by simp)
      refine lv_aload_n hx hb d_15_46_51 rfl (lv_at hl 0 rfl) ?_
      refine lv_iload_n hx hb d_15_46_52 rfl (lv_at hl 2 rfl) ?_
      have ob130 : True ∧ S_DR_store x3 y65 y66 y67 j125 y69 y70 y71 y72 y73 y74 y75 t1_0 t2_0 t3_0 t4_0 f76 := (by rw [← e126, ← e123, e116, e115, e114, e113, e112, e111, e110, e109, e108, e107, e106, e105]; have h := hS118; rw [S_DR_shift_c37.eq_1] at h; with_reducible exact h.2.1)
      refine q_gov V (q_runV (As := [.int x3]) (rest := []) (d := 2) (mc := 0) (ms := 0) (ci := 14) C0 V rfl LV_DR_89 (X_DR_store l D g q w128  x3 hI y65 y66 y67 j125 y69 y70 y71 y72 y73 y74 y75 hO64 t1_0 hT1 t2_0 hT2 t3_0 hT3 t4_0 hT4 f76 hA77 ob130 _) rfl rfl hO64 rfl hl.1 rfl (Nat.le_of_ble_eq_true rfl) ⟨by decide, by decide⟩ ⟨Nat.le_of_ble_eq_true rfl, Nat.le_of_ble_eq_true rfl⟩ d_15_46_53) (fun u131 H locs hp132 V => ?_)
      obtain ⟨hI, hu178, y134, y135, y136, y137, y138, y139, y140, y141, y142, y143, y144, f145, f147, f149, f151, f153, hO133, hA146, hA148, hA150, hA152, hA154, b155, b156, b157, b158, b159, b160, b161, b162, b163, b164, b165, b166, b167, b168, b169, b170, b171, b172, b173, b174, b175, b176, hE177⟩ := hp132
      replace hO133 : u131[134]? = (some (q 134, .inr (14, [.int y134, .ref (q 135), .int y135, .ref (q 136), .ref (q 137), .ref (q 138), .ref (q 139), .ref (q 140), .int y136, .long y137, .int y138, .int y139, .ref (q 141), .int y140, .ref (q 142), .int y141, .ref (q 143), .int y142, .ref (q 144), .int y143, .int y144])) : Option (Nat × va_E)) := hO133
      replace hA146 : u131[136]? = (some (q 136, .inl (g 0, (10000 : Int32).toNatClampNeg, .inl f145)) : Option (Nat × va_E)) := hA146
      replace hA148 : u131[137]? = (some (q 137, .inl (g 0, (10 : Int32).toNatClampNeg, .inl f147)) : Option (Nat × va_E)) := hA148
      replace hA150 : u131[138]? = (some (q 138, .inl (g 3, 10, .inl f149)) : Option (Nat × va_E)) := hA150
      replace hA152 : u131[139]? = (some (q 139, .inl (g 0, (10 : Int32).toNatClampNeg, .inl f151)) : Option (Nat × va_E)) := hA152
      replace hA154 : u131[140]? = (some (q 140, .inl (g 0, (4400 : Int32).toNatClampNeg, .inl f153)) : Option (Nat × va_E)) := hA154
      obtain ⟨p179, e180⟩ : ∃ z, z = (F_DR_store x3 y65 y66 y67 j125 y69 y70 y71 y72 y73 y74 y75 t1_0 t2_0 t3_0 t4_0 f76) := ⟨_, rfl⟩
      have e181 : y134 = p179.1 := congrArg (fun z => z.1) (hE177.trans e180.symm)
      have e182 : y135 = p179.2.1 := congrArg (fun z => z.2.1) (hE177.trans e180.symm)
      have e183 : y136 = p179.2.2.1 := congrArg (fun z => z.2.2.1) (hE177.trans e180.symm)
      have e184 : y137 = p179.2.2.2.1 := congrArg (fun z => z.2.2.2.1) (hE177.trans e180.symm)
      have e185 : y138 = p179.2.2.2.2.1 := congrArg (fun z => z.2.2.2.2.1) (hE177.trans e180.symm)
      have e186 : y139 = p179.2.2.2.2.2.1 := congrArg (fun z => z.2.2.2.2.2.1) (hE177.trans e180.symm)
      have e187 : y140 = p179.2.2.2.2.2.2.1 := congrArg (fun z => z.2.2.2.2.2.2.1) (hE177.trans e180.symm)
      have e188 : y141 = p179.2.2.2.2.2.2.2.1 := congrArg (fun z => z.2.2.2.2.2.2.2.1) (hE177.trans e180.symm)
      have e189 : y142 = p179.2.2.2.2.2.2.2.2.1 := congrArg (fun z => z.2.2.2.2.2.2.2.2.1) (hE177.trans e180.symm)
      have e190 : y143 = p179.2.2.2.2.2.2.2.2.2.1 := congrArg (fun z => z.2.2.2.2.2.2.2.2.2.1) (hE177.trans e180.symm)
      have e191 : y144 = p179.2.2.2.2.2.2.2.2.2.2.1 := congrArg (fun z => z.2.2.2.2.2.2.2.2.2.2.1) (hE177.trans e180.symm)
      have e192 : f145 = p179.2.2.2.2.2.2.2.2.2.2.2.1 := congrArg (fun z => z.2.2.2.2.2.2.2.2.2.2.2.1) (hE177.trans e180.symm)
      have e193 : f147 = p179.2.2.2.2.2.2.2.2.2.2.2.2.1 := congrArg (fun z => z.2.2.2.2.2.2.2.2.2.2.2.2.1) (hE177.trans e180.symm)
      have e194 : f149 = p179.2.2.2.2.2.2.2.2.2.2.2.2.2.1 := congrArg (fun z => z.2.2.2.2.2.2.2.2.2.2.2.2.2.1) (hE177.trans e180.symm)
      have e195 : f151 = p179.2.2.2.2.2.2.2.2.2.2.2.2.2.2.1 := congrArg (fun z => z.2.2.2.2.2.2.2.2.2.2.2.2.2.2.1) (hE177.trans e180.symm)
      have e196 : f153 = p179.2.2.2.2.2.2.2.2.2.2.2.2.2.2.2 := congrArg (fun z => z.2.2.2.2.2.2.2.2.2.2.2.2.2.2.2) (hE177.trans e180.symm)
      replace b155 : q_F (0 ≤ y139.toInt) := b155
      replace b156 : q_F (y66.toInt ≤ y135.toInt) := b156
      replace b157 : q_F (y135.toInt ≤ y66.toInt) := b157
      replace b158 : q_F (y67.toInt ≤ y135.toInt + 24400) := b158
      replace b159 : q_F (j125.toInt ≤ y137.toInt) := b159
      replace b160 : q_F (y137.toInt ≤ j125.toInt) := b160
      replace b161 : q_F (y67.toInt ≤ y138.toInt + 24400) := b161
      replace b162 : q_F (y69.toInt ≤ y138.toInt) := b162
      replace b163 : q_F (y138.toInt ≤ y69.toInt) := b163
      replace b164 : q_F (y67.toInt ≤ y139.toInt + 24400) := b164
      replace b165 : q_F (y139.toInt ≤ y70.toInt) := b165
      replace b166 : q_F (y71.toInt ≤ y140.toInt) := b166
      replace b167 : q_F (y140.toInt ≤ y71.toInt) := b167
      replace b168 : q_F (y72.toInt ≤ y141.toInt) := b168
      replace b169 : q_F (y141.toInt ≤ y72.toInt) := b169
      replace b170 : q_F (y73.toInt ≤ y142.toInt) := b170
      replace b171 : q_F (y142.toInt ≤ y73.toInt) := b171
      replace b172 : q_F (y67.toInt ≤ y143.toInt + 24400) := b172
      replace b173 : q_F (y74.toInt ≤ y143.toInt) := b173
      replace b174 : q_F (y143.toInt ≤ y74.toInt) := b174
      replace b175 : q_F (y75.toInt ≤ y144.toInt) := b175
      replace b176 : q_F (y144.toInt ≤ y75.toInt) := b176
      replace hF := q_uc hF hu178 (by simp)
      have hR197 := (show F_DR_shift_c53 x2 x3 x4 t0_0 t0_1 t0_2 t0_3 t0_4 t0_5 t0_6 t0_7 t0_8 t0_9 t0_10 t1_0 t2_0 t3_0 t4_0 t5_0 lx39 p103 p179 = (F_DR_shift x2 x3 x4 t0_0 t0_1 t0_2 t0_3 t0_4 t0_5 t0_6 t0_7 t0_8 t0_9 t0_10 t1_0 t2_0 t3_0 t4_0 t5_0) from Eq.trans (by rw [e180, ← e126, ← e123, e116, e115, e114, e113, e112, e111, e110, e109, e108, e107, e106, e105, F_DR_shift_c37.eq_1]) hR117)
      have hS198 := (show True ∧ S_DR_shift_c53 x2 x3 x4 t0_0 t0_1 t0_2 t0_3 t0_4 t0_5 t0_6 t0_7 t0_8 t0_9 t0_10 t1_0 t2_0 t3_0 t4_0 t5_0 lx39 p103 p179 from (by rw [e180, ← e126, ← e123, e116, e115, e114, e113, e112, e111, e110, e109, e108, e107, e106, e105]; have h := hS118; rw [S_DR_shift_c37.eq_1] at h; replace h := q_s2 h; with_reducible exact h))
      exact q_retv C0 V (⟨hI, hF, y134, y135, y136, y137, y138, y139, y140, y141, y142, y143, y144, f145, f147, f149, f151, f153, hO133, hA146, hA148, hA150, hA152, hA154, (show 0 ≤ y138.toInt from (by have t1 : 0 ≤ y69.toInt := b80; have t2 : y69.toInt ≤ y138.toInt := b162; omega)), (show 0 ≤ y139.toInt from (by have t1 : 0 ≤ y139.toInt := b155; omega)), (show y139.toInt ≤ 1 from (by have t1 : y69.toInt ≤ 0 := b81; have t2 : y70.toInt ≤ y69.toInt + 1 := b99; have t3 : y139.toInt ≤ y70.toInt := b165; omega)), (show t0_1.toInt ≤ y135.toInt from (by have t1 : t0_1.toInt ≤ y66.toInt := b84; have t2 : y66.toInt ≤ y135.toInt := b156; omega)), (show y135.toInt ≤ t0_1.toInt from (by have t1 : y66.toInt ≤ t0_1.toInt := b85; have t2 : y135.toInt ≤ y66.toInt := b157; omega)), (show y138.toInt ≤ t0_4.toInt from (by have t1 : 0 ≤ t0_4.toInt ∧ t0_4.toInt ≤ 1 := btt0_4; have t2 : y69.toInt ≤ 0 := b81; have t3 : y138.toInt ≤ y69.toInt := b163; omega)), (show t0_6.toInt ≤ y140.toInt from (by have t1 : t0_6.toInt ≤ y71.toInt := b88; have t2 : y71.toInt ≤ y140.toInt := b166; omega)), (show y140.toInt ≤ t0_6.toInt from (by have t1 : y71.toInt ≤ t0_6.toInt := b89; have t2 : y140.toInt ≤ y71.toInt := b167; omega)), (show t0_7.toInt ≤ y141.toInt from (by have t1 : t0_7.toInt ≤ y72.toInt := b90; have t2 : y72.toInt ≤ y141.toInt := b168; omega)), (show y141.toInt ≤ t0_7.toInt from (by have t1 : y72.toInt ≤ t0_7.toInt := b91; have t2 : y141.toInt ≤ y72.toInt := b169; omega)), (show t0_8.toInt ≤ y142.toInt from (by have t1 : t0_8.toInt ≤ y73.toInt := b92; have t2 : y73.toInt ≤ y142.toInt := b170; omega)), (show y142.toInt ≤ t0_8.toInt from (by have t1 : y73.toInt ≤ t0_8.toInt := b93; have t2 : y142.toInt ≤ y73.toInt := b171; omega)), (show t0_9.toInt ≤ y143.toInt from (by have t1 : t0_9.toInt ≤ y74.toInt := b94; have t2 : y74.toInt ≤ y143.toInt := b173; omega)), (show y143.toInt ≤ t0_9.toInt from (by have t1 : y74.toInt ≤ t0_9.toInt := b95; have t2 : y143.toInt ≤ y74.toInt := b174; omega)), (show (y134, y135, y136, y137, y138, y139, y140, y141, y142, y143, y144, f145, f147, f149, f151, f153) = (F_DR_shift x2 x3 x4 t0_0 t0_1 t0_2 t0_3 t0_4 t0_5 t0_6 t0_7 t0_8 t0_9 t0_10 t1_0 t2_0 t3_0 t4_0 t5_0) from Eq.trans (by rw [e196, e195, e194, e193, e192, e191, e190, e189, e188, e187, e186, e185, e184, e183, e182, e181, F_DR_shift_c53.eq_1]) hR197)⟩) d_15_46_56
  ·
    intro J46
    refine q_join (X := Unit) (fun z H locs ls _ => q_Wd D g (va_A ws sz) s ws H locs ∧ lv_has ls 4 [(0, .ref (q 134)), (1, .int x2), (2, .int x3), (3, .int x4)] ∧ F_DR_shift_J15 x2 x3 x4 t0_0 t0_1 t0_2 t0_3 t0_4 t0_5 t0_6 t0_7 t0_8 t0_9 t0_10 t1_0 t2_0 t3_0 t4_0 t5_0 = (F_DR_shift x2 x3 x4 t0_0 t0_1 t0_2 t0_3 t0_4 t0_5 t0_6 t0_7 t0_8 t0_9 t0_10 t1_0 t2_0 t3_0 t4_0 t5_0) ∧ True ∧ S_DR_shift_J15 x2 x3 x4 t0_0 t0_1 t0_2 t0_3 t0_4 t0_5 t0_6 t0_7 t0_8 t0_9 t0_10 t1_0 t2_0 t3_0 t4_0 t5_0) (fun z => [.ref (q 134)]) 15 0 0 ?_ ?_
    ·
      rintro _ H locs ls _ ⟨V, hl, hR209, hS210⟩
      replace hl : lv_has ls 4 [(0, .ref (q 134)), (1, .int x2), (2, .int x3), (3, .int x4)] := hl
      refine lv_iconst (v := 1) hx hb d_15_46_15 (by decide) ?_
      refine lv_goto (tgt := 20) hx hb d_15_46_16 (by decide) ?_
      exact J46 ((1 : Int32)) _ _ _ ws ⟨(show q_F (0 ≤ 1) from (show 0 ≤ 1 from by omega)), (show q_F (1 ≤ 1) from (show 1 ≤ 1 from by omega)), V, q_lw hl (q_lw1 0 rfl (q_lw1 1 rfl (q_lw1 2 rfl (q_lw1 3 rfl q_lw0)))), (show F_DR_shift_J20 x2 x3 x4 t0_0 t0_1 t0_2 t0_3 t0_4 t0_5 t0_6 t0_7 t0_8 t0_9 t0_10 t1_0 t2_0 t3_0 t4_0 t5_0 1 = (F_DR_shift x2 x3 x4 t0_0 t0_1 t0_2 t0_3 t0_4 t0_5 t0_6 t0_7 t0_8 t0_9 t0_10 t1_0 t2_0 t3_0 t4_0 t5_0) from Eq.trans (by rw [F_DR_shift_J15.eq_1]) hR209), (show True ∧ S_DR_shift_J20 x2 x3 x4 t0_0 t0_1 t0_2 t0_3 t0_4 t0_5 t0_6 t0_7 t0_8 t0_9 t0_10 t1_0 t2_0 t3_0 t4_0 t5_0 1 from (by have h := hS210; rw [S_DR_shift_J15.eq_1] at h; with_reducible exact h))⟩
    ·
      intro J208
      refine lv_if_ne (tgt := 15) hx hb d_15_46_5 (by decide) (fun c214 => ?_) (fun c214 => ?_)
      ·
        have b215 : q_F (a34.toInt ≠ 0) := (q_neI c214)
        exact J208 (()) _ _ _ ws ⟨V, q_lw hl (q_lw1 0 rfl (q_lw1 1 rfl (q_lw1 2 rfl (q_lw1 3 rfl q_lw0)))), (show F_DR_shift_J15 x2 x3 x4 t0_0 t0_1 t0_2 t0_3 t0_4 t0_5 t0_6 t0_7 t0_8 t0_9 t0_10 t1_0 t2_0 t3_0 t4_0 t5_0 = (F_DR_shift x2 x3 x4 t0_0 t0_1 t0_2 t0_3 t0_4 t0_5 t0_6 t0_7 t0_8 t0_9 t0_10 t1_0 t2_0 t3_0 t4_0 t5_0) from (by have c214x := c214; rw [e38] at c214x; rw [F_DR_shift.eq_1, if_neg c214x])), (show True ∧ S_DR_shift_J15 x2 x3 x4 t0_0 t0_1 t0_2 t0_3 t0_4 t0_5 t0_6 t0_7 t0_8 t0_9 t0_10 t1_0 t2_0 t3_0 t4_0 t5_0 from (by have h := hS; rw [S_DR_shift.eq_1] at h; have c214x := c214; rw [e38] at c214x; rw [if_neg c214x] at h; with_reducible exact h))⟩
      ·
        have b216 : q_F (a34.toInt = 0) := (q_eqI c214)
        refine lv_iload_n hx hb d_15_46_8 rfl (lv_at hl 2 rfl) ?_
        refine q_goi V (q_runS (As := [.int x3]) (rest := [.ref (q 134)]) (d := 1) (mc := 0) (ms := 0) C0 V rfl LS_DR_113 (X_DR_no l D g q ws  x3 hI   _) rfl hl.1 rfl (Nat.le_of_ble_eq_true rfl) ⟨by decide, by decide⟩ ⟨Nat.le_of_ble_eq_true rfl, Nat.le_of_ble_eq_true rfl⟩ d_15_46_9) (fun a219 u217 H locs hp218 V => ?_)
        obtain ⟨rfl, b220, b221, hE222⟩ := hp218
        have e223 : a219 = (F_DR_no x3) := hE222
        replace b220 : q_F (0 ≤ a219.toInt) := b220
        replace b221 : q_F (a219.toInt ≤ 1) := b221
        refine lv_if_eq (tgt := 19) hx hb d_15_46_12 (by decide) (fun c224 => ?_) (fun c224 => ?_)
        ·
          have b225 : q_F (a219.toInt = 0) := (q_eqI c224)
          refine lv_iconst (v := 0) hx hb d_15_46_19 (by decide) ?_
          exact J46 ((0 : Int32)) _ _ _ ws ⟨(show q_F (0 ≤ 0) from (show 0 ≤ 0 from by omega)), (show q_F (0 ≤ 1) from (show 0 ≤ 1 from by omega)), V, q_lw hl (q_lw1 0 rfl (q_lw1 1 rfl (q_lw1 2 rfl (q_lw1 3 rfl q_lw0)))), (show F_DR_shift_J20 x2 x3 x4 t0_0 t0_1 t0_2 t0_3 t0_4 t0_5 t0_6 t0_7 t0_8 t0_9 t0_10 t1_0 t2_0 t3_0 t4_0 t5_0 0 = (F_DR_shift x2 x3 x4 t0_0 t0_1 t0_2 t0_3 t0_4 t0_5 t0_6 t0_7 t0_8 t0_9 t0_10 t1_0 t2_0 t3_0 t4_0 t5_0) from (by have c214x := c214; rw [e38] at c214x; have c224x := c224; rw [e223] at c224x; rw [F_DR_shift.eq_1, if_pos c214x, if_pos c224x])), (show True ∧ S_DR_shift_J20 x2 x3 x4 t0_0 t0_1 t0_2 t0_3 t0_4 t0_5 t0_6 t0_7 t0_8 t0_9 t0_10 t1_0 t2_0 t3_0 t4_0 t5_0 0 from (by have h := hS; rw [S_DR_shift.eq_1] at h; have c214x := c214; rw [e38] at c214x; rw [if_pos c214x] at h; have c224x := c224; rw [e223] at c224x; rw [if_pos c224x] at h; with_reducible exact h))⟩
        ·
          have b226 : q_F (a219.toInt ≠ 0) := (q_neI c224)
          exact J208 (()) _ _ _ ws ⟨V, q_lw hl (q_lw1 0 rfl (q_lw1 1 rfl (q_lw1 2 rfl (q_lw1 3 rfl q_lw0)))), (show F_DR_shift_J15 x2 x3 x4 t0_0 t0_1 t0_2 t0_3 t0_4 t0_5 t0_6 t0_7 t0_8 t0_9 t0_10 t1_0 t2_0 t3_0 t4_0 t5_0 = (F_DR_shift x2 x3 x4 t0_0 t0_1 t0_2 t0_3 t0_4 t0_5 t0_6 t0_7 t0_8 t0_9 t0_10 t1_0 t2_0 t3_0 t4_0 t5_0) from (by have c214x := c214; rw [e38] at c214x; have c224x := c224; rw [e223] at c224x; rw [F_DR_shift.eq_1, if_pos c214x, if_neg c224x])), (show True ∧ S_DR_shift_J15 x2 x3 x4 t0_0 t0_1 t0_2 t0_3 t0_4 t0_5 t0_6 t0_7 t0_8 t0_9 t0_10 t1_0 t2_0 t3_0 t4_0 t5_0 from (by have h := hS; rw [S_DR_shift.eq_1] at h; have c214x := c214; rw [e38] at c214x; rw [if_pos c214x] at h; have c224x := c224; rw [e223] at c224x; rw [if_neg c224x] at h; with_reducible exact h))⟩
