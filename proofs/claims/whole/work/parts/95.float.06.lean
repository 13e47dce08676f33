theorem d_17_37_0 : decode prog_17_method_37_code 0 = .ok (.aload_n 0, 1) := by decide +kernel
theorem d_17_37_1 : decode prog_17_method_37_code 1 = .ok (.lload_n 1, 1) := by decide +kernel
theorem d_17_37_2 : decode prog_17_method_37_code 2 = .ok (.iconst 1, 1) := by decide +kernel
theorem d_17_37_3 : decode prog_17_method_37_code 3 = .ok (.invokestatic 122, 3) := by decide +kernel
theorem d_17_37_14 : decode prog_17_method_37_code 14 = .ok (.putfield 31, 3) := by decide +kernel
theorem d_17_37_17 : decode prog_17_method_37_code 17 = .ok (.aload_n 0, 1) := by decide +kernel
theorem d_17_37_18 : decode prog_17_method_37_code 18 = .ok (.getfield 31, 3) := by decide +kernel
theorem d_17_37_21 : decode prog_17_method_37_code 21 = .ok (.ifCond .le 5, 3) := by decide +kernel
theorem d_17_37_26 : decode prog_17_method_37_code 26 = .ok (.aload_n 0, 1) := by decide +kernel
theorem d_17_37_27 : decode prog_17_method_37_code 27 = .ok (.lload_n 1, 1) := by decide +kernel
theorem d_17_37_28 : decode prog_17_method_37_code 28 = .ok (.iconst 1, 1) := by decide +kernel
theorem d_17_37_29 : decode prog_17_method_37_code 29 = .ok (.invokevirtual 126, 3) := by decide +kernel
theorem d_17_37_32 : decode prog_17_method_37_code 32 = .ok (.aload_n 0, 1) := by decide +kernel
theorem d_17_37_33 : decode prog_17_method_37_code 33 = .ok (.getfield 41, 3) := by decide +kernel
theorem d_17_37_46 : decode prog_17_method_37_code 46 = .ok (.lstore_n 3, 1) := by decide +kernel
theorem d_17_37_47 : decode prog_17_method_37_code 47 = .ok (.aload_n 0, 1) := by decide +kernel
theorem d_17_37_48 : decode prog_17_method_37_code 48 = .ok (.invokevirtual 130, 3) := by decide +kernel
theorem d_17_37_51 : decode prog_17_method_37_code 51 = .ok (.ifCond .ne 24, 3) := by decide +kernel
theorem d_17_37_75 : decode prog_17_method_37_code 75 = .ok (.aload_n 0, 1) := by decide +kernel
theorem d_17_37_76 : decode prog_17_method_37_code 76 = .ok (.getfield 52, 3) := by decide +kernel
theorem d_17_37_79 : decode prog_17_method_37_code 79 = .ok (.lconst 0, 1) := by decide +kernel
theorem d_17_37_80 : decode prog_17_method_37_code 80 = .ok (.lcmp, 1) := by decide +kernel
theorem d_17_37_81 : decode prog_17_method_37_code 81 = .ok (.ifCond .ne 5, 3) := by decide +kernel
theorem d_17_37_86 : decode prog_17_method_37_code 86 = .ok (.aload_n 0, 1) := by decide +kernel
theorem d_17_37_87 : decode prog_17_method_37_code 87 = .ok (.getfield 52, 3) := by decide +kernel
theorem d_17_37_90 : decode prog_17_method_37_code 90 = .ok (.lstore 5, 2) := by decide +kernel
theorem d_17_37_92 : decode prog_17_method_37_code 92 = .ok (.aload_n 0, 1) := by decide +kernel
theorem d_17_37_93 : decode prog_17_method_37_code 93 = .ok (.getfield 55, 3) := by decide +kernel
theorem d_17_37_96 : decode prog_17_method_37_code 96 = .ok (.istore 7, 2) := by decide +kernel
theorem d_17_37_98 : decode prog_17_method_37_code 98 = .ok (.lload 5, 2) := by decide +kernel
theorem d_17_37_100 : decode prog_17_method_37_code 100 = .ok (.ldc2_w 188, 3) := by decide +kernel
set_option maxRecDepth 100000 in
theorem w_2946 : (Cond.constantLong "NumberHouseModel$FloatRows" (188 : Nat) (4503599627370496 : Int64)) ∈ q_tbl := q_of13 66 rfl (by decide +kernel)
theorem d_17_37_103 : decode prog_17_method_37_code 103 = .ok (.lcmp, 1) := by decide +kernel
theorem d_17_37_104 : decode prog_17_method_37_code 104 = .ok (.ifCond .ge 15, 3) := by decide +kernel
theorem d_17_37_119 : decode prog_17_method_37_code 119 = .ok (.lload_n 3, 1) := by decide +kernel
theorem d_17_37_120 : decode prog_17_method_37_code 120 = .ok (.iload 7, 2) := by decide +kernel
theorem d_17_37_122 : decode prog_17_method_37_code 122 = .ok (.sipush 1075, 3) := by decide +kernel
theorem d_17_37_125 : decode prog_17_method_37_code 125 = .ok (.iadd, 1) := by decide +kernel
theorem d_17_37_126 : decode prog_17_method_37_code 126 = .ok (.i2l, 1) := by decide +kernel
theorem d_17_37_127 : decode prog_17_method_37_code 127 = .ok (.bipush 52, 2) := by decide +kernel
theorem d_17_37_129 : decode prog_17_method_37_code 129 = .ok (.lshl, 1) := by decide +kernel
theorem d_17_37_130 : decode prog_17_method_37_code 130 = .ok (.lload 5, 2) := by decide +kernel
theorem d_17_37_132 : decode prog_17_method_37_code 132 = .ok (.ladd, 1) := by decide +kernel
theorem d_17_37_133 : decode prog_17_method_37_code 133 = .ok (.ldc2_w 188, 3) := by decide +kernel
theorem d_17_37_136 : decode prog_17_method_37_code 136 = .ok (.lsub, 1) := by decide +kernel
theorem d_17_37_137 : decode prog_17_method_37_code 137 = .ok (.lor, 1) := by decide +kernel
theorem d_17_37_138 : decode prog_17_method_37_code 138 = .ok (.lreturn, 1) := by decide +kernel
theorem d_17_37_107 : decode prog_17_method_37_code 107 = .ok (.lload 5, 2) := by decide +kernel
theorem d_17_37_109 : decode prog_17_method_37_code 109 = .ok (.iconst 1, 1) := by decide +kernel
theorem d_17_37_110 : decode prog_17_method_37_code 110 = .ok (.lshl, 1) := by decide +kernel
theorem d_17_37_111 : decode prog_17_method_37_code 111 = .ok (.lstore 5, 2) := by decide +kernel
theorem d_17_37_113 : decode prog_17_method_37_code 113 = .ok (.iinc 7 (-1), 3) := by decide +kernel
theorem d_17_37_116 : decode prog_17_method_37_code 116 = .ok (.goto (-18), 3) := by decide +kernel
theorem d_17_37_84 : decode prog_17_method_37_code 84 = .ok (.lload_n 3, 1) := by decide +kernel
theorem d_17_37_85 : decode prog_17_method_37_code 85 = .ok (.lreturn, 1) := by decide +kernel
theorem d_17_37_54 : decode prog_17_method_37_code 54 = .ok (.aload_n 0, 1) := by decide +kernel
theorem d_17_37_55 : decode prog_17_method_37_code 55 = .ok (.getfield 48, 3) := by decide +kernel
theorem d_17_37_58 : decode prog_17_method_37_code 58 = .ok (.lconst 0, 1) := by decide +kernel
theorem d_17_37_59 : decode prog_17_method_37_code 59 = .ok (.lcmp, 1) := by decide +kernel
theorem d_17_37_60 : decode prog_17_method_37_code 60 = .ok (.ifCond .eq 9, 3) := by decide +kernel
theorem d_17_37_69 : decode prog_17_method_37_code 69 = .ok (.lload_n 3, 1) := by decide +kernel
theorem d_17_37_70 : decode prog_17_method_37_code 70 = .ok (.ldc2_w 186, 3) := by decide +kernel
set_option maxRecDepth 100000 in
theorem w_2945 : (Cond.constantLong "NumberHouseModel$FloatRows" (186 : Nat) (9218868437227405312 : Int64)) ∈ q_tbl := q_of13 65 rfl (by decide +kernel)
theorem d_17_37_73 : decode prog_17_method_37_code 73 = .ok (.lor, 1) := by decide +kernel
theorem d_17_37_74 : decode prog_17_method_37_code 74 = .ok (.lreturn, 1) := by decide +kernel
theorem d_17_37_63 : decode prog_17_method_37_code 63 = .ok (.ldc2_w 184, 3) := by decide +kernel
set_option maxRecDepth 100000 in
theorem w_2944 : (Cond.constantLong "NumberHouseModel$FloatRows" (184 : Nat) (9221120237041090560 : Int64)) ∈ q_tbl := q_of13 64 rfl (by decide +kernel)
theorem d_17_37_66 : decode prog_17_method_37_code 66 = .ok (.goto 8, 3) := by decide +kernel
theorem d_17_37_36 : decode prog_17_method_37_code 36 = .ok (.ifCond .eq 9, 3) := by decide +kernel
theorem d_17_37_45 : decode prog_17_method_37_code 45 = .ok (.lconst 0, 1) := by decide +kernel
theorem d_17_37_39 : decode prog_17_method_37_code 39 = .ok (.ldc2_w 182, 3) := by decide +kernel
set_option maxRecDepth 100000 in
theorem w_2943 : (Cond.constantLong "NumberHouseModel$FloatRows" (182 : Nat) (-9223372036854775808 : Int64)) ∈ q_tbl := q_of13 63 rfl (by decide +kernel)
theorem d_17_37_42 : decode prog_17_method_37_code 42 = .ok (.goto 4, 3) := by decide +kernel
theorem d_17_37_24 : decode prog_17_method_37_code 24 = .ok (.lconst 0, 1) := by decide +kernel
theorem d_17_37_25 : decode prog_17_method_37_code 25 = .ok (.lreturn, 1) := by decide +kernel
theorem d_17_37_6 : decode prog_17_method_37_code 6 = .ok (.ifCond .eq 7, 3) := by decide +kernel
theorem d_17_37_13 : decode prog_17_method_37_code 13 = .ok (.iconst 0, 1) := by decide +kernel
theorem d_17_37_9 : decode prog_17_method_37_code 9 = .ok (.iconst 1, 1) := by decide +kernel
theorem d_17_37_10 : decode prog_17_method_37_code 10 = .ok (.goto 4, 3) := by decide +kernel
def y_FR_widened : MethodName := ⟨"NumberHouseModel$FloatRows", "widened", "(J)J"⟩
def F_FR_widened_L98 (x2 : Int64) (t0_0 : Int32) (t0_1 : Int32) (t0_2 : Int32) (t0_3 : Int32) (t0_4 : Int64) (t0_5 : Int32) (t0_6 : Int32) (t0_7 : Int64) (t0_8 : Int32) (t0_9 : Int64) (t0_10 : Int32) (lx21 : Int32) (p72 : (Int32 × Int32 × Int32 × Int32 × Int64 × Int32 × Int32 × Int64 × Int32 × Int64 × Int32)) (y38 : Int32) (y39 : Int32) (y40 : Int32) (y41 : Int32) (y42 : Int64) (y43 : Int32) (y44 : Int32) (y45 : Int64) (y46 : Int32) (y47 : Int64) (y48 : Int32) (lx90 : Int64) : Nat → Int32 → Int64 → (Int64 × Int32 × Int32 × Int32 × Int32 × Int64 × Int32 × Int32 × Int64 × Int32 × Int64 × Int32)
  | 0, _, _ => default
  | fm + 1, lx115, lx116 => if (0 : Int32) ≤ (lg_cmp lx116 4503599627370496 : Int32) then (((lx90 ||| (((((lx115 + 1075 : Int32).toInt64 : Int64) <<< ((52 : Int32).toInt64 &&& 63) : Int64) + lx116 : Int64) - 4503599627370496 : Int64) : Int64), y38, y39, y40, y41, y42, y43, y44, y45, y46, y47, y48)) else (F_FR_widened_L98 x2 t0_0 t0_1 t0_2 t0_3 t0_4 t0_5 t0_6 t0_7 t0_8 t0_9 t0_10 lx21 p72 y38 y39 y40 y41 y42 y43 y44 y45 y46 y47 y48 lx90 fm (lx115 + (-1) : Int32) (lx116 <<< ((1 : Int32).toInt64 &&& 63) : Int64))
def F_FR_widened_J46 (x2 : Int64) (t0_0 : Int32) (t0_1 : Int32) (t0_2 : Int32) (t0_3 : Int32) (t0_4 : Int64) (t0_5 : Int32) (t0_6 : Int32) (t0_7 : Int64) (t0_8 : Int32) (t0_9 : Int64) (t0_10 : Int32) (lx21 : Int32) (p72 : (Int32 × Int32 × Int32 × Int32 × Int64 × Int32 × Int32 × Int64 × Int32 × Int64 × Int32)) (y38 : Int32) (y39 : Int32) (y40 : Int32) (y41 : Int32) (y42 : Int64) (y43 : Int32) (y44 : Int32) (y45 : Int64) (y46 : Int32) (y47 : Int64) (y48 : Int32) (lx90 : Int64) : Int64 × Int32 × Int32 × Int32 × Int32 × Int64 × Int32 × Int32 × Int64 × Int32 × Int64 × Int32 := if ((F_FR_isFinite y38 y39 y40 y41 y42 y43 y44 y45 y46 y47 y48) : Int32) = (0 : Int32) then (if (lg_cmp y42 0 : Int32) = (0 : Int32) then (((lx90 ||| 9218868437227405312 : Int64), y38, y39, y40, y41, y42, y43, y44, y45, y46, y47, y48)) else (((9221120237041090560 : Int64), y38, y39, y40, y41, y42, y43, y44, y45, y46, y47, y48))) else (if (lg_cmp y45 0 : Int32) = (0 : Int32) then ((lx90, y38, y39, y40, y41, y42, y43, y44, y45, y46, y47, y48)) else (F_FR_widened_L98 x2 t0_0 t0_1 t0_2 t0_3 t0_4 t0_5 t0_6 t0_7 t0_8 t0_9 t0_10 lx21 p72 y38 y39 y40 y41 y42 y43 y44 y45 y46 y47 y48 lx90 1000000 y46 y45))
def F_FR_widened_c29 (x2 : Int64) (t0_0 : Int32) (t0_1 : Int32) (t0_2 : Int32) (t0_3 : Int32) (t0_4 : Int64) (t0_5 : Int32) (t0_6 : Int32) (t0_7 : Int64) (t0_8 : Int32) (t0_9 : Int64) (t0_10 : Int32) (lx21 : Int32) (p72 : (Int32 × Int32 × Int32 × Int32 × Int64 × Int32 × Int32 × Int64 × Int32 × Int64 × Int32)) : Int64 × Int32 × Int32 × Int32 × Int32 × Int64 × Int32 × Int32 × Int64 × Int32 × Int64 × Int32 := if (p72.2.2.1 : Int32) = (0 : Int32) then (F_FR_widened_J46 x2 t0_0 t0_1 t0_2 t0_3 t0_4 t0_5 t0_6 t0_7 t0_8 t0_9 t0_10 lx21 p72 (p72.1 : Int32) (p72.2.1 : Int32) (p72.2.2.1 : Int32) (p72.2.2.2.1 : Int32) (p72.2.2.2.2.1 : Int64) (p72.2.2.2.2.2.1 : Int32) (p72.2.2.2.2.2.2.1 : Int32) (p72.2.2.2.2.2.2.2.1 : Int64) (p72.2.2.2.2.2.2.2.2.1 : Int32) (p72.2.2.2.2.2.2.2.2.2.1 : Int64) (p72.2.2.2.2.2.2.2.2.2.2 : Int32) 0) else (F_FR_widened_J46 x2 t0_0 t0_1 t0_2 t0_3 t0_4 t0_5 t0_6 t0_7 t0_8 t0_9 t0_10 lx21 p72 (p72.1 : Int32) (p72.2.1 : Int32) (p72.2.2.1 : Int32) (p72.2.2.2.1 : Int32) (p72.2.2.2.2.1 : Int64) (p72.2.2.2.2.2.1 : Int32) (p72.2.2.2.2.2.2.1 : Int32) (p72.2.2.2.2.2.2.2.1 : Int64) (p72.2.2.2.2.2.2.2.2.1 : Int32) (p72.2.2.2.2.2.2.2.2.2.1 : Int64) (p72.2.2.2.2.2.2.2.2.2.2 : Int32) (-9223372036854775808))
def F_FR_widened_J14 (x2 : Int64) (t0_0 : Int32) (t0_1 : Int32) (t0_2 : Int32) (t0_3 : Int32) (t0_4 : Int64) (t0_5 : Int32) (t0_6 : Int32) (t0_7 : Int64) (t0_8 : Int32) (t0_9 : Int64) (t0_10 : Int32) (lx21 : Int32) : Int64 × Int32 × Int32 × Int32 × Int32 × Int64 × Int32 × Int32 × Int64 × Int32 × Int64 × Int32 := if lx21 ≤ (0 : Int32) then (F_FR_widened_c29 x2 t0_0 t0_1 t0_2 t0_3 t0_4 t0_5 t0_6 t0_7 t0_8 t0_9 t0_10 lx21 ((F_FR_open x2 (1 : Int32) lx21 t0_1 t0_2 t0_3 t0_4 t0_5 t0_6 t0_7 t0_8 t0_9 t0_10) : (Int32 × Int32 × Int32 × Int32 × Int64 × Int32 × Int32 × Int64 × Int32 × Int64 × Int32))) else (((0 : Int64), lx21, t0_1, t0_2, t0_3, t0_4, t0_5, t0_6, t0_7, t0_8, t0_9, t0_10))
def F_FR_widened (x2 : Int64) (t0_0 : Int32) (t0_1 : Int32) (t0_2 : Int32) (t0_3 : Int32) (t0_4 : Int64) (t0_5 : Int32) (t0_6 : Int32) (t0_7 : Int64) (t0_8 : Int32) (t0_9 : Int64) (t0_10 : Int32) : Int64 × Int32 × Int32 × Int32 × Int32 × Int64 × Int32 × Int32 × Int64 × Int32 × Int64 × Int32 := if ((F_FR_isWrong x2 (1 : Int32)) : Int32) = (0 : Int32) then (F_FR_widened_J14 x2 t0_0 t0_1 t0_2 t0_3 t0_4 t0_5 t0_6 t0_7 t0_8 t0_9 t0_10 0) else (F_FR_widened_J14 x2 t0_0 t0_1 t0_2 t0_3 t0_4 t0_5 t0_6 t0_7 t0_8 t0_9 t0_10 1)
def S_FR_widened_L98 (x2 : Int64) (t0_0 : Int32) (t0_1 : Int32) (t0_2 : Int32) (t0_3 : Int32) (t0_4 : Int64) (t0_5 : Int32) (t0_6 : Int32) (t0_7 : Int64) (t0_8 : Int32) (t0_9 : Int64) (t0_10 : Int32) (lx21 : Int32) (p72 : (Int32 × Int32 × Int32 × Int32 × Int64 × Int32 × Int32 × Int64 × Int32 × Int64 × Int32)) (y38 : Int32) (y39 : Int32) (y40 : Int32) (y41 : Int32) (y42 : Int64) (y43 : Int32) (y44 : Int32) (y45 : Int64) (y46 : Int32) (y47 : Int64) (y48 : Int32) (lx90 : Int64) : Nat → Int32 → Int64 → Prop
  | 0, _, _ => False
  | fm + 1, lx115, lx116 => if (0 : Int32) ≤ (lg_cmp lx116 4503599627370496 : Int32) then (True) else (S_FR_widened_L98 x2 t0_0 t0_1 t0_2 t0_3 t0_4 t0_5 t0_6 t0_7 t0_8 t0_9 t0_10 lx21 p72 y38 y39 y40 y41 y42 y43 y44 y45 y46 y47 y48 lx90 fm (lx115 + (-1) : Int32) (lx116 <<< ((1 : Int32).toInt64 &&& 63) : Int64))
def S_FR_widened_J46 (x2 : Int64) (t0_0 : Int32) (t0_1 : Int32) (t0_2 : Int32) (t0_3 : Int32) (t0_4 : Int64) (t0_5 : Int32) (t0_6 : Int32) (t0_7 : Int64) (t0_8 : Int32) (t0_9 : Int64) (t0_10 : Int32) (lx21 : Int32) (p72 : (Int32 × Int32 × Int32 × Int32 × Int64 × Int32 × Int32 × Int64 × Int32 × Int64 × Int32)) (y38 : Int32) (y39 : Int32) (y40 : Int32) (y41 : Int32) (y42 : Int64) (y43 : Int32) (y44 : Int32) (y45 : Int64) (y46 : Int32) (y47 : Int64) (y48 : Int32) (lx90 : Int64) : Prop := if ((F_FR_isFinite y38 y39 y40 y41 y42 y43 y44 y45 y46 y47 y48) : Int32) = (0 : Int32) then (if (lg_cmp y42 0 : Int32) = (0 : Int32) then (True) else (True)) else (if (lg_cmp y45 0 : Int32) = (0 : Int32) then (True) else (S_FR_widened_L98 x2 t0_0 t0_1 t0_2 t0_3 t0_4 t0_5 t0_6 t0_7 t0_8 t0_9 t0_10 lx21 p72 y38 y39 y40 y41 y42 y43 y44 y45 y46 y47 y48 lx90 1000000 y46 y45))
def S_FR_widened_c29 (x2 : Int64) (t0_0 : Int32) (t0_1 : Int32) (t0_2 : Int32) (t0_3 : Int32) (t0_4 : Int64) (t0_5 : Int32) (t0_6 : Int32) (t0_7 : Int64) (t0_8 : Int32) (t0_9 : Int64) (t0_10 : Int32) (lx21 : Int32) (p72 : (Int32 × Int32 × Int32 × Int32 × Int64 × Int32 × Int32 × Int64 × Int32 × Int64 × Int32)) : Prop := if (p72.2.2.1 : Int32) = (0 : Int32) then (S_FR_widened_J46 x2 t0_0 t0_1 t0_2 t0_3 t0_4 t0_5 t0_6 t0_7 t0_8 t0_9 t0_10 lx21 p72 (p72.1 : Int32) (p72.2.1 : Int32) (p72.2.2.1 : Int32) (p72.2.2.2.1 : Int32) (p72.2.2.2.2.1 : Int64) (p72.2.2.2.2.2.1 : Int32) (p72.2.2.2.2.2.2.1 : Int32) (p72.2.2.2.2.2.2.2.1 : Int64) (p72.2.2.2.2.2.2.2.2.1 : Int32) (p72.2.2.2.2.2.2.2.2.2.1 : Int64) (p72.2.2.2.2.2.2.2.2.2.2 : Int32) 0) else (S_FR_widened_J46 x2 t0_0 t0_1 t0_2 t0_3 t0_4 t0_5 t0_6 t0_7 t0_8 t0_9 t0_10 lx21 p72 (p72.1 : Int32) (p72.2.1 : Int32) (p72.2.2.1 : Int32) (p72.2.2.2.1 : Int32) (p72.2.2.2.2.1 : Int64) (p72.2.2.2.2.2.1 : Int32) (p72.2.2.2.2.2.2.1 : Int32) (p72.2.2.2.2.2.2.2.1 : Int64) (p72.2.2.2.2.2.2.2.2.1 : Int32) (p72.2.2.2.2.2.2.2.2.2.1 : Int64) (p72.2.2.2.2.2.2.2.2.2.2 : Int32) (-9223372036854775808))
def S_FR_widened_J14 (x2 : Int64) (t0_0 : Int32) (t0_1 : Int32) (t0_2 : Int32) (t0_3 : Int32) (t0_4 : Int64) (t0_5 : Int32) (t0_6 : Int32) (t0_7 : Int64) (t0_8 : Int32) (t0_9 : Int64) (t0_10 : Int32) (lx21 : Int32) : Prop := if lx21 ≤ (0 : Int32) then (S_FR_widened_c29 x2 t0_0 t0_1 t0_2 t0_3 t0_4 t0_5 t0_6 t0_7 t0_8 t0_9 t0_10 lx21 ((F_FR_open x2 (1 : Int32) lx21 t0_1 t0_2 t0_3 t0_4 t0_5 t0_6 t0_7 t0_8 t0_9 t0_10) : (Int32 × Int32 × Int32 × Int32 × Int64 × Int32 × Int32 × Int64 × Int32 × Int64 × Int32))) else (True)
def S_FR_widened (x2 : Int64) (t0_0 : Int32) (t0_1 : Int32) (t0_2 : Int32) (t0_3 : Int32) (t0_4 : Int64) (t0_5 : Int32) (t0_6 : Int32) (t0_7 : Int64) (t0_8 : Int32) (t0_9 : Int64) (t0_10 : Int32) : Prop := if ((F_FR_isWrong x2 (1 : Int32)) : Int32) = (0 : Int32) then (S_FR_widened_J14 x2 t0_0 t0_1 t0_2 t0_3 t0_4 t0_5 t0_6 t0_7 t0_8 t0_9 t0_10 0) else (S_FR_widened_J14 x2 t0_0 t0_1 t0_2 t0_3 t0_4 t0_5 t0_6 t0_7 t0_8 t0_9 t0_10 1)
set_option maxRecDepth 100000 in
set_option maxHeartbeats 4000000 in
theorem X_FR_widened (l : Launch) (D : va_G) (g : Nat → ClassId) (q : Nat → Nat) (ws : va_W) (x2 : Int64) (hI : q_I (msh g q) q ws) (t0_0 : Int32) (t0_1 : Int32) (t0_2 : Int32) (t0_3 : Int32) (t0_4 : Int64) (t0_5 : Int32) (t0_6 : Int32) (t0_7 : Int64) (t0_8 : Int32) (t0_9 : Int64) (t0_10 : Int32) (hT0 : ws[145]? = (some (q 145, .inr (15, [.int t0_0, .ref (q 146), .ref (q 147), .ref (q 148), .ref (q 149), .ref (q 150), .ref (q 151), .ref (q 152), .int t0_1, .int t0_2, .int t0_3, .long t0_4, .int t0_5, .int t0_6, .long t0_7, .int t0_8, .long t0_9, .int t0_10])) : Option (Nat × va_E))) (hS : True ∧ S_FR_widened x2 t0_0 t0_1 t0_2 t0_3 t0_4 t0_5 t0_6 t0_7 t0_8 t0_9 t0_10) : q_mL l y_FR_widened prog_17_method_37_code 8 2 0 0 D g [.ref (q 145), .long x2] ws (fun r u => q_I (msh g q) q u ∧ q_un ws u [145] ∧ ∃ (u0_0 : Int32) (u0_1 : Int32) (u0_2 : Int32) (u0_3 : Int32) (u0_4 : Int64) (u0_5 : Int32) (u0_6 : Int32) (u0_7 : Int64) (u0_8 : Int32) (u0_9 : Int64) (u0_10 : Int32), u[145]? = (some (q 145, .inr (15, [.int u0_0, .ref (q 146), .ref (q 147), .ref (q 148), .ref (q 149), .ref (q 150), .ref (q 151), .ref (q 152), .int u0_1, .int u0_2, .int u0_3, .long u0_4, .int u0_5, .int u0_6, .long u0_7, .int u0_8, .long u0_9, .int u0_10])) : Option (Nat × va_E)) ∧ (0 ≤ u0_0.toInt) ∧ (u0_0.toInt ≤ 1) ∧ (0 ≤ u0_2.toInt) ∧ (u0_2.toInt ≤ 1) ∧ (t0_1.toInt ≤ u0_1.toInt) ∧ (u0_1.toInt ≤ t0_1.toInt) ∧ (t0_9.toInt ≤ u0_9.toInt) ∧ (u0_9.toInt ≤ t0_9.toInt) ∧ (t0_10.toInt ≤ u0_10.toInt) ∧ (u0_10.toInt ≤ t0_10.toInt) ∧ (r, u0_0, u0_1, u0_2, u0_3, u0_4, u0_5, u0_6, u0_7, u0_8, u0_9, u0_10) = (F_FR_widened x2 t0_0 t0_1 t0_2 t0_3 t0_4 t0_5 t0_6 t0_7 t0_8 t0_9 t0_10)) := by
  intro sz
  refine q_into (by decide) (Nat.le_of_ble_eq_true rfl) ?_
  intro p e s m below meth c ls hsz C0 V hl
  have hx := C0.1
  have hb := C0.2.1
  obtain ⟨yy0_0, yy0_1, yy0_2, yy0_3, yy0_4, yy0_5, yy0_6, yy0_7, yy0_8, yy0_9, yy0_10, hh0, btt0_2⟩ := n_o145 hI
  obtain ⟨rfl, rfl, rfl, rfl, rfl, rfl, rfl, rfl, rfl, rfl, rfl⟩ : t0_0 = yy0_0 ∧ t0_1 = yy0_1 ∧ t0_2 = yy0_2 ∧ t0_3 = yy0_3 ∧ t0_4 = yy0_4 ∧ t0_5 = yy0_5 ∧ t0_6 = yy0_6 ∧ t0_7 = yy0_7 ∧ t0_8 = yy0_8 ∧ t0_9 = yy0_9 ∧ t0_10 = yy0_10 := by have z := Option.some.inj (hT0.symm.trans hh0); simpa using z
  replace btt0_2 : q_F (0 ≤ t0_2.toInt ∧ t0_2.toInt ≤ 1) := btt0_2
  have hF : q_un ws ws [145] := q_u0
  have hl : lv_has ls 8 [(0, .ref (q 145)), (1, .long x2)] := hl
  refine lv_aload_n hx hb d_17_37_0 rfl (lv_at hl 0 rfl) ?_
  refine lv_lload_n hx hb d_17_37_1 rfl (lv_at hl 1 rfl) ?_
  refine lv_iconst (v := 1) hx hb d_17_37_2 (by decide) ?_
  refine q_goi V (q_runS (As := [.long x2, .int 1]) (rest := [.ref (q 145)]) (d := 1) (mc := 0) (ms := 0) C0 V rfl LS_FR_122 (X_FR_isWrong l D g q ws  x2 1 hI  ⟨(by have y0 : (1 : Int32).toInt = 1 := rfl; omega), (by have y0 : (1 : Int32).toInt = 1 := rfl; omega)⟩ _) rfl hl.1 rfl (Nat.le_of_ble_eq_true rfl) ⟨by decide, by decide⟩ ⟨Nat.le_of_ble_eq_true rfl, Nat.le_of_ble_eq_true rfl⟩ d_17_37_3) (fun a16 u14 H locs hp15 V => ?_)
  obtain ⟨rfl, b17, b18, hE19⟩ := hp15
  have e20 : a16 = (F_FR_isWrong x2 (1 : Int32)) := hE19
  replace b17 : q_F (0 ≤ a16.toInt) := b17
  replace b18 : q_F (a16.toInt ≤ 1) := b18
  refine q_join (X := Int32) (fun z H locs ls _ => q_F (0 ≤ z.toInt) ∧ q_F (z.toInt ≤ 1) ∧ q_Wd D g (va_A ws sz) s ws H locs ∧ lv_has ls 8 [(0, .ref (q 145)), (1, .long x2)] ∧ F_FR_widened_J14 x2 t0_0 t0_1 t0_2 t0_3 t0_4 t0_5 t0_6 t0_7 t0_8 t0_9 t0_10 z = (F_FR_widened x2 t0_0 t0_1 t0_2 t0_3 t0_4 t0_5 t0_6 t0_7 t0_8 t0_9 t0_10) ∧ True ∧ S_FR_widened_J14 x2 t0_0 t0_1 t0_2 t0_3 t0_4 t0_5 t0_6 t0_7 t0_8 t0_9 t0_10 z) (fun z => [.int z, .ref (q 145)]) 14 0 0 ?_ ?_
  ·
    rintro lx21 H locs ls _ ⟨i24, i25, V, hl, hR26, hS27⟩
    replace i24 : q_F (0 ≤ lx21.toInt) := i24
    replace i25 : q_F (lx21.toInt ≤ 1) := i25
    replace hl : lv_has ls 8 [(0, .ref (q 145)), (1, .long x2)] := hl
    refine q_put (ci := 15) (j := 0) (v := .int lx21) (ty := .int) C0 V i_FR o_FR n_FR rfl rfl hT0 (by decide) w_2074 rfl rfl rfl rfl (Nat.le_of_ble_eq_true rfl) d_17_37_14 (fun H locs w31 hu32 hT0 V => ?_)
    replace hT0 : w31[145]? = (some (q 145, .inr (15, [.int lx21, .ref (q 146), .ref (q 147), .ref (q 148), .ref (q 149), .ref (q 150), .ref (q 151), .ref (q 152), .int t0_1, .int t0_2, .int t0_3, .long t0_4, .int t0_5, .int t0_6, .long t0_7, .int t0_8, .long t0_9, .int t0_10])) : Option (Nat × va_E)) := hT0
    replace hI := n_p145 hI hu32 hT0 ⟨(by have t1 : 0 ≤ t0_2.toInt ∧ t0_2.toInt ≤ 1 := btt0_2; omega), (by have t1 : 0 ≤ t0_2.toInt ∧ t0_2.toInt ≤ 1 := btt0_2; omega)⟩
    replace hF := q_us hF hu32 (by simp)
    refine lv_aload_n hx hb d_17_37_17 rfl (lv_at hl 0 rfl) ?_
    refine q_get (ci := 15) (j := 0) (v := .int lx21) C0 V i_FR rfl rfl hT0 (by decide) w_2074 rfl d_17_37_18 ?_
    refine lv_if_le (tgt := 26) hx hb d_17_37_21 (by decide) (fun c33 => ?_) (fun c33 => ?_)
    ·
      have b34 : q_F (lx21.toInt ≤ 0) := (q_leI c33)
      refine lv_aload_n hx hb d_17_37_26 rfl (lv_at hl 0 rfl) ?_
      refine lv_lload_n hx hb d_17_37_27 rfl (lv_at hl 1 rfl) ?_
      refine lv_iconst (v := 1) hx hb d_17_37_28 (by decide) ?_
      refine q_gov V (q_runV (As := [.long x2, .int 1]) (rest := []) (d := 1) (mc := 0) (ms := 0) (ci := 15) C0 V rfl LV_FR_126 (X_FR_open l D g q w31  x2 1 hI lx21 t0_1 t0_2 t0_3 t0_4 t0_5 t0_6 t0_7 t0_8 t0_9 t0_10 hT0 ⟨(by have y0 : (1 : Int32).toInt = 1 := rfl; omega), (by have y0 : (1 : Int32).toInt = 1 := rfl; omega)⟩ _) rfl rfl hT0 rfl hl.1 rfl (Nat.le_of_ble_eq_true rfl) ⟨by decide, by decide⟩ ⟨Nat.le_of_ble_eq_true rfl, Nat.le_of_ble_eq_true rfl⟩ d_17_37_29) (fun u35 H locs hp36 V => ?_)
      obtain ⟨hI, hu71, y38, y39, y40, y41, y42, y43, y44, y45, y46, y47, y48, hO37, b49, b50, b51, b52, b53, b54, b55, b56, b57, b58, b59, b60, b61, b62, b63, b64, b65, b66, b67, b68, b69, hE70⟩ := hp36
      replace hO37 : u35[145]? = (some (q 145, .inr (15, [.int y38, .ref (q 146), .ref (q 147), .ref (q 148), .ref (q 149), .ref (q 150), .ref (q 151), .ref (q 152), .int y39, .int y40, .int y41, .long y42, .int y43, .int y44, .long y45, .int y46, .long y47, .int y48])) : Option (Nat × va_E)) := hO37
      obtain ⟨p72, e73⟩ : ∃ z, z = (F_FR_open x2 (1 : Int32) lx21 t0_1 t0_2 t0_3 t0_4 t0_5 t0_6 t0_7 t0_8 t0_9 t0_10) := ⟨_, rfl⟩
      have e74 : y38 = p72.1 := congrArg (fun z => z.1) (hE70.trans e73.symm)
      have e75 : y39 = p72.2.1 := congrArg (fun z => z.2.1) (hE70.trans e73.symm)
      have e76 : y40 = p72.2.2.1 := congrArg (fun z => z.2.2.1) (hE70.trans e73.symm)
      have e77 : y41 = p72.2.2.2.1 := congrArg (fun z => z.2.2.2.1) (hE70.trans e73.symm)
      have e78 : y42 = p72.2.2.2.2.1 := congrArg (fun z => z.2.2.2.2.1) (hE70.trans e73.symm)
      have e79 : y43 = p72.2.2.2.2.2.1 := congrArg (fun z => z.2.2.2.2.2.1) (hE70.trans e73.symm)
      have e80 : y44 = p72.2.2.2.2.2.2.1 := congrArg (fun z => z.2.2.2.2.2.2.1) (hE70.trans e73.symm)
      have e81 : y45 = p72.2.2.2.2.2.2.2.1 := congrArg (fun z => z.2.2.2.2.2.2.2.1) (hE70.trans e73.symm)
      have e82 : y46 = p72.2.2.2.2.2.2.2.2.1 := congrArg (fun z => z.2.2.2.2.2.2.2.2.1) (hE70.trans e73.symm)
      have e83 : y47 = p72.2.2.2.2.2.2.2.2.2.1 := congrArg (fun z => z.2.2.2.2.2.2.2.2.2.1) (hE70.trans e73.symm)
      have e84 : y48 = p72.2.2.2.2.2.2.2.2.2.2 := congrArg (fun z => z.2.2.2.2.2.2.2.2.2.2) (hE70.trans e73.symm)
      replace b49 : q_F (0 ≤ y40.toInt) := b49
      replace b50 : q_F (y40.toInt ≤ 1) := b50
      replace b51 : q_F (0 ≤ y41.toInt) := b51
      replace b52 : q_F (23 ≤ y43.toInt) := b52
      replace b53 : q_F (y43.toInt ≤ 52) := b53
      replace b54 : q_F (255 ≤ y44.toInt) := b54
      replace b55 : q_F (y44.toInt ≤ 2047) := b55
      replace b56 : q_F (lx21.toInt ≤ y38.toInt) := b56
      replace b57 : q_F (y38.toInt ≤ lx21.toInt) := b57
      replace b58 : q_F (t0_1.toInt ≤ y39.toInt) := b58
      replace b59 : q_F (y39.toInt ≤ t0_1.toInt) := b59
      replace b60 : q_F (1 ≤ y46.toInt + 1074) := b60
      replace b61 : q_F (y46.toInt ≤ 1 + 1896) := b61
      replace b62 : q_F (t0_9.toInt ≤ y47.toInt) := b62
      replace b63 : q_F (y47.toInt ≤ t0_9.toInt) := b63
      replace b64 : q_F (t0_10.toInt ≤ y48.toInt) := b64
      replace b65 : q_F (y48.toInt ≤ t0_10.toInt) := b65
      replace b66 : q_F (y41.toInt ≤ y44.toInt) := b66
      replace b67 : q_F (y46.toInt + 149 ≤ y41.toInt) := b67
      replace b68 : q_F (y41.toInt ≤ y46.toInt + 1075) := b68
      replace b69 : q_F (y46.toInt + 150 ≤ y44.toInt) := b69
      replace hF := q_uc hF hu71 (by simp)
      have hR85 := (show F_FR_widened_c29 x2 t0_0 t0_1 t0_2 t0_3 t0_4 t0_5 t0_6 t0_7 t0_8 t0_9 t0_10 lx21 p72 = (F_FR_widened x2 t0_0 t0_1 t0_2 t0_3 t0_4 t0_5 t0_6 t0_7 t0_8 t0_9 t0_10) from Eq.trans (by rw [e73, F_FR_widened_J14.eq_1, if_pos c33]) hR26)
      have hS86 := (show True ∧ S_FR_widened_c29 x2 t0_0 t0_1 t0_2 t0_3 t0_4 t0_5 t0_6 t0_7 t0_8 t0_9 t0_10 lx21 p72 from (by rw [e73]; have h := hS27; rw [S_FR_widened_J14.eq_1] at h; rw [if_pos c33] at h; with_reducible exact h))
      refine lv_aload_n hx hb d_17_37_32 rfl (lv_at hl 0 rfl) ?_
      refine q_get (ci := 15) (j := 9) (v := .int y40) C0 V i_FR rfl rfl hO37 (by decide) w_2085 rfl d_17_37_33 ?_
      refine q_join (X := Int64) (fun z H locs ls _ => q_F (z.toInt ≤ 0) ∧ q_Wd D g (va_A ws sz) s u35 H locs ∧ lv_has ls 8 [(0, .ref (q 145))] ∧ F_FR_widened_J46 x2 t0_0 t0_1 t0_2 t0_3 t0_4 t0_5 t0_6 t0_7 t0_8 t0_9 t0_10 lx21 p72 y38 y39 y40 y41 y42 y43 y44 y45 y46 y47 y48 z = (F_FR_widened x2 t0_0 t0_1 t0_2 t0_3 t0_4 t0_5 t0_6 t0_7 t0_8 t0_9 t0_10) ∧ True ∧ S_FR_widened_J46 x2 t0_0 t0_1 t0_2 t0_3 t0_4 t0_5 t0_6 t0_7 t0_8 t0_9 t0_10 lx21 p72 y38 y39 y40 y41 y42 y43 y44 y45 y46 y47 y48 z) (fun z => [.long z]) 46 0 0 ?_ ?_
      ·
        rintro lx90 H locs ls _ ⟨i93, V, hl, hR94, hS95⟩
        replace i93 : q_F (lx90.toInt ≤ 0) := i93
        replace hl : lv_has ls 8 [(0, .ref (q 145))] := hl
        refine lv_lstore_n (lv' := [(3, .long lx90), (0, .ref (q 145))]) hx hb d_17_37_46 rfl hl (by decide) rfl (fun ls hl => ?_)
        refine lv_aload_n hx hb d_17_37_47 rfl (lv_at hl 1 rfl) ?_
        refine q_goi V (q_runV (As := []) (rest := []) (d := 1) (mc := 0) (ms := 0) (ci := 15) C0 V rfl LV_FR_130 (X_FR_isFinite l D g q u35   hI y38 y39 y40 y41 y42 y43 y44 y45 y46 y47 y48 hO37  _) rfl rfl hO37 rfl hl.1 rfl (Nat.le_of_ble_eq_true rfl) ⟨by decide, by decide⟩ ⟨Nat.le_of_ble_eq_true rfl, Nat.le_of_ble_eq_true rfl⟩ d_17_37_48) (fun a101 u99 H locs hp100 V => ?_)
        obtain ⟨rfl, b102, b103, hE104⟩ := hp100
        have e105 : a101 = (F_FR_isFinite y38 y39 y40 y41 y42 y43 y44 y45 y46 y47 y48) := hE104
        replace b102 : q_F (0 ≤ a101.toInt) := b102
        replace b103 : q_F (a101.toInt ≤ 1) := b103
        refine lv_if_ne (tgt := 75) hx hb d_17_37_51 (by decide) (fun c106 => ?_) (fun c106 => ?_)
        ·
          have b107 : q_F (a101.toInt ≠ 0) := (q_neI c106)
          refine lv_aload_n hx hb d_17_37_75 rfl (lv_at hl 1 rfl) ?_
          refine q_get (ci := 15) (j := 14) (v := .long y45) C0 V i_FR rfl rfl hO37 (by decide) w_2090 rfl d_17_37_76 ?_
          refine lv_lconst (v := 0) hx hb d_17_37_79 (by decide) ?_
          refine W.lcmp hx hb d_17_37_80 ?_
          obtain ⟨a108, e109⟩ := q_nm (lg_cmp y45 0 : Int32)
          refine q_ti (v := a108) e109 ?_
          have b110 : q_F (-1 ≤ a108.toInt ∧ a108.toInt ≤ 1 ∧ ((a108.toInt = -1 ∧ y45.toInt < 0) ∨ (a108.toInt = 0 ∧ y45.toInt = 0) ∨ (a108.toInt = 1 ∧ 0 < y45.toInt))) := (by rw [← e109]; show -1 ≤ (lg_cmp y45 0 : Int32).toInt ∧ (lg_cmp y45 0 : Int32).toInt ≤ 1 ∧ (((lg_cmp y45 0 : Int32).toInt = -1 ∧ y45.toInt < 0) ∨ ((lg_cmp y45 0 : Int32).toInt = 0 ∧ y45.toInt = 0) ∨ ((lg_cmp y45 0 : Int32).toInt = 1 ∧ 0 < y45.toInt)); exact (by have y1 : (0 : Int64).toInt = 0 := rfl; have z := s_lcmp (a := y45) (b := 0); omega))
          refine lv_if_ne (tgt := 86) hx hb d_17_37_81 (by decide) (fun c111 => ?_) (fun c111 => ?_)
          ·
            have b112 : q_F (a108.toInt ≠ 0) := (q_neI c111)
            refine lv_aload_n hx hb d_17_37_86 rfl (lv_at hl 1 rfl) ?_
            refine q_get (ci := 15) (j := 14) (v := .long y45) C0 V i_FR rfl rfl hO37 (by decide) w_2090 rfl d_17_37_87 ?_
            refine lv_lstore (lv' := [(5, .long y45), (3, .long lx90), (0, .ref (q 145))]) hx hb d_17_37_90 hl (by decide) rfl (fun ls hl => ?_)
            refine lv_aload_n hx hb d_17_37_92 rfl (lv_at hl 2 rfl) ?_
            refine q_get (ci := 15) (j := 15) (v := .int y46) C0 V i_FR rfl rfl hO37 (by decide) w_2091 rfl d_17_37_93 ?_
            refine lv_istore (lv' := [(7, .int y46), (5, .long y45), (3, .long lx90), (0, .ref (q 145))]) hx hb d_17_37_96 hl (by decide) rfl (fun ls hl => ?_)
            refine q_loop (X := Nat × Int32 × Int64) (fun z H locs ls _ => q_Wd D g (va_A ws sz) s u35 H locs ∧ lv_has ls 8 [(7, .int z.2.1), (5, .long z.2.2), (3, .long lx90)] ∧ F_FR_widened_L98 x2 t0_0 t0_1 t0_2 t0_3 t0_4 t0_5 t0_6 t0_7 t0_8 t0_9 t0_10 lx21 p72 y38 y39 y40 y41 y42 y43 y44 y45 y46 y47 y48 lx90 z.1 z.2.1 z.2.2 = (F_FR_widened x2 t0_0 t0_1 t0_2 t0_3 t0_4 t0_5 t0_6 t0_7 t0_8 t0_9 t0_10) ∧ True ∧ S_FR_widened_L98 x2 t0_0 t0_1 t0_2 t0_3 t0_4 t0_5 t0_6 t0_7 t0_8 t0_9 t0_10 lx21 p72 y38 y39 y40 y41 y42 y43 y44 y45 y46 y47 y48 lx90 z.1 z.2.1 z.2.2) (fun z => z.1) ?_ ((1000000 : Nat), (y46 : Int32), (y45 : Int64)) _ _ _ u35 ⟨V, q_lw hl (q_lw1 0 rfl (q_lw1 1 rfl (q_lw1 2 rfl q_lw0))), (show F_FR_widened_L98 x2 t0_0 t0_1 t0_2 t0_3 t0_4 t0_5 t0_6 t0_7 t0_8 t0_9 t0_10 lx21 p72 y38 y39 y40 y41 y42 y43 y44 y45 y46 y47 y48 lx90 1000000 y46 y45 = (F_FR_widened x2 t0_0 t0_1 t0_2 t0_3 t0_4 t0_5 t0_6 t0_7 t0_8 t0_9 t0_10) from Eq.trans (by have c106x := c106; rw [e105] at c106x; have c111x := c111; rw [← e109] at c111x; rw [F_FR_widened_J46.eq_1, if_neg c106x, if_neg c111x]) hR94), (show True ∧ S_FR_widened_L98 x2 t0_0 t0_1 t0_2 t0_3 t0_4 t0_5 t0_6 t0_7 t0_8 t0_9 t0_10 lx21 p72 y38 y39 y40 y41 y42 y43 y44 y45 y46 y47 y48 lx90 1000000 y46 y45 from (by have h := hS95; rw [S_FR_widened_J46.eq_1] at h; have c106x := c106; rw [e105] at c106x; rw [if_neg c106x] at h; have c111x := c111; rw [← e109] at c111x; rw [if_neg c111x] at h; with_reducible exact h))⟩
            rintro ⟨fu120, lx115, lx116⟩ H locs ls _ ⟨V, hl, hR118, hS119⟩ ih117
            obtain ⟨fm122, rfl⟩ : ∃ m, fu120 = m + 1 := Nat.exists_eq_succ_of_ne_zero (fun e => by subst e; rw [S_FR_widened_L98.eq_1] at hS119; exact hS119.2)
            replace hl : lv_has ls 8 [(7, .int lx115), (5, .long lx116), (3, .long lx90)] := hl
            refine lv_lload hx hb d_17_37_98 (lv_at hl 1 rfl) ?_
            refine q_ldc2 C0 rfl w_2946 d_17_37_100 ?_
            refine W.lcmp hx hb d_17_37_103 ?_
            obtain ⟨a123, e124⟩ := q_nm (lg_cmp lx116 4503599627370496 : Int32)
            refine q_ti (v := a123) e124 ?_
            have b125 : q_F (-1 ≤ a123.toInt ∧ a123.toInt ≤ 1 ∧ ((a123.toInt = -1 ∧ lx116.toInt < 4503599627370496) ∨ (a123.toInt = 0 ∧ lx116.toInt = 4503599627370496) ∨ (a123.toInt = 1 ∧ 4503599627370496 < lx116.toInt))) := (by rw [← e124]; show -1 ≤ (lg_cmp lx116 4503599627370496 : Int32).toInt ∧ (lg_cmp lx116 4503599627370496 : Int32).toInt ≤ 1 ∧ (((lg_cmp lx116 4503599627370496 : Int32).toInt = -1 ∧ lx116.toInt < 4503599627370496) ∨ ((lg_cmp lx116 4503599627370496 : Int32).toInt = 0 ∧ lx116.toInt = 4503599627370496) ∨ ((lg_cmp lx116 4503599627370496 : Int32).toInt = 1 ∧ 4503599627370496 < lx116.toInt)); exact (by have y1 : (4503599627370496 : Int64).toInt = 4503599627370496 := rfl; have z := s_lcmp (a := lx116) (b := 4503599627370496); omega))
            refine lv_if_ge (tgt := 119) hx hb d_17_37_104 (by decide) (fun c126 => ?_) (fun c126 => ?_)
            ·
              have b127 : q_F (0 ≤ a123.toInt) := (q_leI c126)
              refine lv_lload_n hx hb d_17_37_119 rfl (lv_at hl 2 rfl) ?_
              refine lv_iload hx hb d_17_37_120 (lv_at hl 0 rfl) ?_
              refine lv_sipush (v := 1075) hx hb d_17_37_122 (by decide) ?_
              refine lv_iadd hx hb d_17_37_125 ?_
              obtain ⟨a128, e129⟩ := q_nm (lx115 + 1075 : Int32)
              refine q_ti (v := a128) e129 ?_
              refine lv_i2l hx hb d_17_37_126 rfl ?_
              obtain ⟨j130, e131⟩ := q_nm (a128.toInt64 : Int64)
              refine q_tl (v := j130) e131 ?_
              have b132 : q_F (j130.toInt = a128.toInt) := (by rw [← e131]; show (a128.toInt64 : Int64).toInt = a128.toInt; exact q_i2l rfl)
              refine lv_bipush (v := 52) hx hb d_17_37_127 (by decide) ?_
              refine lv_lshl hx hb d_17_37_129 rfl ?_
              obtain ⟨j133, e134⟩ := q_nm (j130 <<< ((52 : Int32).toInt64 &&& 63) : Int64)
              refine q_tl (v := j133) e134 ?_
              refine lv_lload hx hb d_17_37_130 (lv_at hl 1 rfl) ?_
              refine lv_ladd hx hb d_17_37_132 ?_
              obtain ⟨j135, e136⟩ := q_nm (j133 + lx116 : Int64)
              refine q_tl (v := j135) e136 ?_
              refine q_ldc2 C0 rfl w_2946 d_17_37_133 ?_
              refine lv_lsub hx hb d_17_37_136 ?_
              obtain ⟨j137, e138⟩ := q_nm (j135 - 4503599627370496 : Int64)
              refine q_tl (v := j137) e138 ?_
              refine lv_lor hx hb d_17_37_137 ?_
              obtain ⟨j139, e140⟩ := q_nm (lx90 ||| j137 : Int64)
              refine q_tl (v := j139) e140 ?_
              exact q_retl C0 V (⟨hI, hF, y38, y39, y40, y41, y42, y43, y44, y45, y46, y47, y48, hO37, (show 0 ≤ y38.toInt from (by have t1 : 0 ≤ lx21.toInt := i24; have t2 : lx21.toInt ≤ y38.toInt := b56; omega)), (show y38.toInt ≤ 1 from (by have t1 : lx21.toInt ≤ 1 := i25; have t2 : y38.toInt ≤ lx21.toInt := b57; omega)), (show 0 ≤ y40.toInt from (by have t1 : 0 ≤ y40.toInt := b49; omega)), (show y40.toInt ≤ 1 from (by have t1 : y40.toInt ≤ 1 := b50; omega)), (show t0_1.toInt ≤ y39.toInt from (by have t1 : t0_1.toInt ≤ y39.toInt := b58; omega)), (show y39.toInt ≤ t0_1.toInt from (by have t1 : y39.toInt ≤ t0_1.toInt := b59; omega)), (show t0_9.toInt ≤ y47.toInt from (by have t1 : t0_9.toInt ≤ y47.toInt := b62; omega)), (show y47.toInt ≤ t0_9.toInt from (by have t1 : y47.toInt ≤ t0_9.toInt := b63; omega)), (show t0_10.toInt ≤ y48.toInt from (by have t1 : t0_10.toInt ≤ y48.toInt := b64; omega)), (show y48.toInt ≤ t0_10.toInt from (by have t1 : y48.toInt ≤ t0_10.toInt := b65; omega)), (show (j139, y38, y39, y40, y41, y42, y43, y44, y45, y46, y47, y48) = (F_FR_widened x2 t0_0 t0_1 t0_2 t0_3 t0_4 t0_5 t0_6 t0_7 t0_8 t0_9 t0_10) from Eq.trans (by have c126x := c126; rw [← e124] at c126x; rw [← e140, ← e138, ← e136, ← e134, ← e131, ← e129, F_FR_widened_L98.eq_2, if_pos c126x]) hR118)⟩) d_17_37_138
            ·
              have b141 : q_F (a123.toInt < 0) := (q_nleI c126)
              refine lv_lload hx hb d_17_37_107 (lv_at hl 1 rfl) ?_
              refine lv_iconst (v := 1) hx hb d_17_37_109 (by decide) ?_
              refine lv_lshl hx hb d_17_37_110 rfl ?_
              obtain ⟨j142, e143⟩ := q_nm (lx116 <<< ((1 : Int32).toInt64 &&& 63) : Int64)
              refine q_tl (v := j142) e143 ?_
              refine lv_lstore (lv' := [(5, .long j142), (7, .int lx115), (3, .long lx90)]) hx hb d_17_37_111 hl (by decide) rfl (fun ls hl => ?_)
              obtain ⟨a144, e145⟩ := q_nm (lx115 + (-1) : Int32)
              refine lv_iinc (v := a144) (lv' := [(7, .int a144), (5, .long j142), (3, .long lx90)]) hx hb d_17_37_113 hl (k := 1) rfl (e145) (by decide) rfl (fun ls hl => ?_)
              refine lv_goto (tgt := 98) hx hb d_17_37_116 (by decide) ?_
              exact ih117 ((fm122 : Nat), (a144 : Int32), (j142 : Int64)) _ _ _ u35 (Nat.lt_succ_self _) ⟨V, q_lw hl (q_lw1 0 rfl (q_lw1 1 rfl (q_lw1 2 rfl q_lw0))), (show F_FR_widened_L98 x2 t0_0 t0_1 t0_2 t0_3 t0_4 t0_5 t0_6 t0_7 t0_8 t0_9 t0_10 lx21 p72 y38 y39 y40 y41 y42 y43 y44 y45 y46 y47 y48 lx90 fm122 a144 j142 = (F_FR_widened x2 t0_0 t0_1 t0_2 t0_3 t0_4 t0_5 t0_6 t0_7 t0_8 t0_9 t0_10) from Eq.trans (by have c126x := c126; rw [← e124] at c126x; rw [← e145, ← e143, F_FR_widened_L98.eq_2, if_neg c126x]) hR118), (show True ∧ S_FR_widened_L98 x2 t0_0 t0_1 t0_2 t0_3 t0_4 t0_5 t0_6 t0_7 t0_8 t0_9 t0_10 lx21 p72 y38 y39 y40 y41 y42 y43 y44 y45 y46 y47 y48 lx90 fm122 a144 j142 from (by rw [← e145, ← e143]; have h := hS119; rw [S_FR_widened_L98.eq_2] at h; have c126x := c126; rw [← e124] at c126x; rw [if_neg c126x] at h; with_reducible exact h))⟩
          ·
            have b146 : q_F (a108.toInt = 0) := (q_eqI c111)
            refine lv_lload_n hx hb d_17_37_84 rfl (lv_at hl 0 rfl) ?_
            exact q_retl C0 V (⟨hI, hF, y38, y39, y40, y41, y42, y43, y44, y45, y46, y47, y48, hO37, (show 0 ≤ y38.toInt from (by have t1 : 0 ≤ lx21.toInt := i24; have t2 : lx21.toInt ≤ y38.toInt := b56; omega)), (show y38.toInt ≤ 1 from (by have t1 : lx21.toInt ≤ 1 := i25; have t2 : y38.toInt ≤ lx21.toInt := b57; omega)), (show 0 ≤ y40.toInt from (by have t1 : 0 ≤ y40.toInt := b49; omega)), (show y40.toInt ≤ 1 from (by have t1 : y40.toInt ≤ 1 := b50; omega)), (show t0_1.toInt ≤ y39.toInt from (by have t1 : t0_1.toInt ≤ y39.toInt := b58; omega)), (show y39.toInt ≤ t0_1.toInt from (by have t1 : y39.toInt ≤ t0_1.toInt := b59; omega)), (show t0_9.toInt ≤ y47.toInt from (by have t1 : t0_9.toInt ≤ y47.toInt := b62; omega)), (show y47.toInt ≤ t0_9.toInt from (by have t1 : y47.toInt ≤ t0_9.toInt := b63; omega)), (show t0_10.toInt ≤ y48.toInt from (by have t1 : t0_10.toInt ≤ y48.toInt := b64; omega)), (show y48.toInt ≤ t0_10.toInt from (by have t1 : y48.toInt ≤ t0_10.toInt := b65; omega)), (show (lx90, y38, y39, y40, y41, y42, y43, y44, y45, y46, y47, y48) = (F_FR_widened x2 t0_0 t0_1 t0_2 t0_3 t0_4 t0_5 t0_6 t0_7 t0_8 t0_9 t0_10) from Eq.trans (by have c106x := c106; rw [e105] at c106x; have c111x := c111; rw [← e109] at c111x; rw [F_FR_widened_J46.eq_1, if_neg c106x, if_pos c111x]) hR94)⟩) d_17_37_85
        ·
          have b147 : q_F (a101.toInt = 0) := (q_eqI c106)
          refine lv_aload_n hx hb d_17_37_54 rfl (lv_at hl 1 rfl) ?_
          refine q_get (ci := 15) (j := 11) (v := .long y42) C0 V i_FR rfl rfl hO37 (by decide) w_2087 rfl d_17_37_55 ?_
          refine lv_lconst (v := 0) hx hb d_17_37_58 (by decide) ?_
          refine W.lcmp hx hb d_17_37_59 ?_
          obtain ⟨a148, e149⟩ := q_nm (lg_cmp y42 0 : Int32)
          refine q_ti (v := a148) e149 ?_
          have b150 : q_F (-1 ≤ a148.toInt ∧ a148.toInt ≤ 1 ∧ ((a148.toInt = -1 ∧ y42.toInt < 0) ∨ (a148.toInt = 0 ∧ y42.toInt = 0) ∨ (a148.toInt = 1 ∧ 0 < y42.toInt))) := (by rw [← e149]; show -1 ≤ (lg_cmp y42 0 : Int32).toInt ∧ (lg_cmp y42 0 : Int32).toInt ≤ 1 ∧ (((lg_cmp y42 0 : Int32).toInt = -1 ∧ y42.toInt < 0) ∨ ((lg_cmp y42 0 : Int32).toInt = 0 ∧ y42.toInt = 0) ∨ ((lg_cmp y42 0 : Int32).toInt = 1 ∧ 0 < y42.toInt)); exact (by have y1 : (0 : Int64).toInt = 0 := rfl; have z := s_lcmp (a := y42) (b := 0); omega))
          refine lv_if_eq (tgt := 69) hx hb d_17_37_60 (by decide) (fun c151 => ?_) (fun c151 => ?_)
          ·
            have b152 : q_F (a148.toInt = 0) := (q_eqI c151)
            refine lv_lload_n hx hb d_17_37_69 rfl (lv_at hl 0 rfl) ?_
            refine q_ldc2 C0 rfl w_2945 d_17_37_70 ?_
            refine lv_lor hx hb d_17_37_73 ?_
            obtain ⟨j153, e154⟩ := q_nm (lx90 ||| 9218868437227405312 : Int64)
            refine q_tl (v := j153) e154 ?_
            exact q_retl C0 V (⟨hI, hF, y38, y39, y40, y41, y42, y43, y44, y45, y46, y47, y48, hO37, (show 0 ≤ y38.toInt from (by have t1 : 0 ≤ lx21.toInt := i24; have t2 : lx21.toInt ≤ y38.toInt := b56; omega)), (show y38.toInt ≤ 1 from (by have t1 : lx21.toInt ≤ 1 := i25; have t2 : y38.toInt ≤ lx21.toInt := b57; omega)), (show 0 ≤ y40.toInt from (by have t1 : 0 ≤ y40.toInt := b49; omega)), (show y40.toInt ≤ 1 from (by have t1 : y40.toInt ≤ 1 := b50; omega)), (show t0_1.toInt ≤ y39.toInt from (by have t1 : t0_1.toInt ≤ y39.toInt := b58; omega)), (show y39.toInt ≤ t0_1.toInt from (by have t1 : y39.toInt ≤ t0_1.toInt := b59; omega)), (show t0_9.toInt ≤ y47.toInt from (by have t1 : t0_9.toInt ≤ y47.toInt := b62; omega)), (show y47.toInt ≤ t0_9.toInt from (by have t1 : y47.toInt ≤ t0_9.toInt := b63; omega)), (show t0_10.toInt ≤ y48.toInt from (by have t1 : t0_10.toInt ≤ y48.toInt := b64; omega)), (show y48.toInt ≤ t0_10.toInt from (by have t1 : y48.toInt ≤ t0_10.toInt := b65; omega)), (show (j153, y38, y39, y40, y41, y42, y43, y44, y45, y46, y47, y48) = (F_FR_widened x2 t0_0 t0_1 t0_2 t0_3 t0_4 t0_5 t0_6 t0_7 t0_8 t0_9 t0_10) from Eq.trans (by have c106x := c106; rw [e105] at c106x; have c151x := c151; rw [← e149] at c151x; rw [← e154, F_FR_widened_J46.eq_1, if_pos c106x, if_pos c151x]) hR94)⟩) d_17_37_74
          ·
            have b155 : q_F (a148.toInt ≠ 0) := (q_neI c151)
            refine q_ldc2 C0 rfl w_2944 d_17_37_63 ?_
            refine lv_goto (tgt := 74) hx hb d_17_37_66 (by decide) ?_
            exact q_retl C0 V (⟨hI, hF, y38, y39, y40, y41, y42, y43, y44, y45, y46, y47, y48, hO37, (show 0 ≤ y38.toInt from (by have z12 : (9221120237041090560 : Int64).toInt = 9221120237041090560 := rfl; have t1 : 0 ≤ lx21.toInt := i24; have t2 : lx21.toInt ≤ y38.toInt := b56; omega)), (show y38.toInt ≤ 1 from (by have z12 : (9221120237041090560 : Int64).toInt = 9221120237041090560 := rfl; have t1 : lx21.toInt ≤ 1 := i25; have t2 : y38.toInt ≤ lx21.toInt := b57; omega)), (show 0 ≤ y40.toInt from (by have z12 : (9221120237041090560 : Int64).toInt = 9221120237041090560 := rfl; have t1 : 0 ≤ y40.toInt := b49; omega)), (show y40.toInt ≤ 1 from (by have z12 : (9221120237041090560 : Int64).toInt = 9221120237041090560 := rfl; have t1 : y40.toInt ≤ 1 := b50; omega)), (show t0_1.toInt ≤ y39.toInt from (by have z12 : (9221120237041090560 : Int64).toInt = 9221120237041090560 := rfl; have t1 : t0_1.toInt ≤ y39.toInt := b58; omega)), (show y39.toInt ≤ t0_1.toInt from (by have z12 : (9221120237041090560 : Int64).toInt = 9221120237041090560 := rfl; have t1 : y39.toInt ≤ t0_1.toInt := b59; omega)), (show t0_9.toInt ≤ y47.toInt from (by have z12 : (9221120237041090560 : Int64).toInt = 9221120237041090560 := rfl; have t1 : t0_9.toInt ≤ y47.toInt := b62; omega)), (show y47.toInt ≤ t0_9.toInt from (by have z12 : (9221120237041090560 : Int64).toInt = 9221120237041090560 := rfl; have t1 : y47.toInt ≤ t0_9.toInt := b63; omega)), (show t0_10.toInt ≤ y48.toInt from (by have z12 : (9221120237041090560 : Int64).toInt = 9221120237041090560 := rfl; have t1 : t0_10.toInt ≤ y48.toInt := b64; omega)), (show y48.toInt ≤ t0_10.toInt from (by have z12 : (9221120237041090560 : Int64).toInt = 9221120237041090560 := rfl; have t1 : y48.toInt ≤ t0_10.toInt := b65; omega)), (show ((9221120237041090560 : Int64), y38, y39, y40, y41, y42, y43, y44, y45, y46, y47, y48) = (F_FR_widened x2 t0_0 t0_1 t0_2 t0_3 t0_4 t0_5 t0_6 t0_7 t0_8 t0_9 t0_10) from Eq.trans (by have c106x := c106; rw [e105] at c106x; have c151x := c151; rw [← e149] at c151x; rw [F_FR_widened_J46.eq_1, if_pos c106x, if_neg c151x]) hR94)⟩) d_17_37_74
      ·
        intro J92
        refine lv_if_eq (tgt := 45) hx hb d_17_37_36 (by decide) (fun c156 => ?_) (fun c156 => ?_)
        ·
          have b157 : q_F (y40.toInt = 0) := (q_eqI c156)
          refine lv_lconst (v := 0) hx hb d_17_37_45 (by decide) ?_
          exact J92 ((0 : Int64)) _ _ _ u35 ⟨(show q_F (0 ≤ 0) from (show 0 ≤ 0 from by omega)), V, q_lw hl (q_lw1 0 rfl q_lw0), (show F_FR_widened_J46 x2 t0_0 t0_1 t0_2 t0_3 t0_4 t0_5 t0_6 t0_7 t0_8 t0_9 t0_10 lx21 p72 y38 y39 y40 y41 y42 y43 y44 y45 y46 y47 y48 0 = (F_FR_widened x2 t0_0 t0_1 t0_2 t0_3 t0_4 t0_5 t0_6 t0_7 t0_8 t0_9 t0_10) from Eq.trans (by have c156x := c156; rw [e76] at c156x; rw [e84, e83, e82, e81, e80, e79, e78, e77, e76, e75, e74, F_FR_widened_c29.eq_1, if_pos c156x]) hR85), (show True ∧ S_FR_widened_J46 x2 t0_0 t0_1 t0_2 t0_3 t0_4 t0_5 t0_6 t0_7 t0_8 t0_9 t0_10 lx21 p72 y38 y39 y40 y41 y42 y43 y44 y45 y46 y47 y48 0 from (by rw [e84, e83, e82, e81, e80, e79, e78, e77, e76, e75, e74]; have h := hS86; rw [S_FR_widened_c29.eq_1] at h; have c156x := c156; rw [e76] at c156x; rw [if_pos c156x] at h; with_reducible exact h))⟩
        ·
          have b158 : q_F (y40.toInt ≠ 0) := (q_neI c156)
          refine q_ldc2 C0 rfl w_2943 d_17_37_39 ?_
          refine lv_goto (tgt := 46) hx hb d_17_37_42 (by decide) ?_
          exact J92 (((-9223372036854775808) : Int64)) _ _ _ u35 ⟨(show q_F ((-9223372036854775808) ≤ 0) from (show (-9223372036854775808) ≤ 0 from by omega)), V, q_lw hl (q_lw1 0 rfl q_lw0), (show F_FR_widened_J46 x2 t0_0 t0_1 t0_2 t0_3 t0_4 t0_5 t0_6 t0_7 t0_8 t0_9 t0_10 lx21 p72 y38 y39 y40 y41 y42 y43 y44 y45 y46 y47 y48 (-9223372036854775808) = (F_FR_widened x2 t0_0 t0_1 t0_2 t0_3 t0_4 t0_5 t0_6 t0_7 t0_8 t0_9 t0_10) from Eq.trans (by have c156x := c156; rw [e76] at c156x; rw [e84, e83, e82, e81, e80, e79, e78, e77, e76, e75, e74, F_FR_widened_c29.eq_1, if_neg c156x]) hR85), (show True ∧ S_FR_widened_J46 x2 t0_0 t0_1 t0_2 t0_3 t0_4 t0_5 t0_6 t0_7 t0_8 t0_9 t0_10 lx21 p72 y38 y39 y40 y41 y42 y43 y44 y45 y46 y47 y48 (-9223372036854775808) from (by rw [e84, e83, e82, e81, e80, e79, e78, e77, e76, e75, e74]; have h := hS86; rw [S_FR_widened_c29.eq_1] at h; have c156x := c156; rw [e76] at c156x; rw [if_neg c156x] at h; with_reducible exact h))⟩
    ·
      have b159 : q_F (0 < lx21.toInt) := (q_nleI c33)
      refine lv_lconst (v := 0) hx hb d_17_37_24 (by decide) ?_
      exact q_retl C0 V (⟨hI, hF, lx21, t0_1, t0_2, t0_3, t0_4, t0_5, t0_6, t0_7, t0_8, t0_9, t0_10, hT0, (show 0 ≤ lx21.toInt from (by have z12 : (0 : Int64).toInt = 0 := rfl; have t1 : 0 ≤ lx21.toInt := i24; omega)), (show lx21.toInt ≤ 1 from (by have z12 : (0 : Int64).toInt = 0 := rfl; have t1 : lx21.toInt ≤ 1 := i25; omega)), (show 0 ≤ t0_2.toInt from (by have z12 : (0 : Int64).toInt = 0 := rfl; have t1 : 0 ≤ t0_2.toInt ∧ t0_2.toInt ≤ 1 := btt0_2; omega)), (show t0_2.toInt ≤ 1 from (by have z12 : (0 : Int64).toInt = 0 := rfl; have t1 : 0 ≤ t0_2.toInt ∧ t0_2.toInt ≤ 1 := btt0_2; omega)), (show t0_1.toInt ≤ t0_1.toInt from (by have z12 : (0 : Int64).toInt = 0 := rfl; omega)), (show t0_1.toInt ≤ t0_1.toInt from (by have z12 : (0 : Int64).toInt = 0 := rfl; omega)), (show t0_9.toInt ≤ t0_9.toInt from (by have z12 : (0 : Int64).toInt = 0 := rfl; omega)), (show t0_9.toInt ≤ t0_9.toInt from (by have z12 : (0 : Int64).toInt = 0 := rfl; omega)), (show t0_10.toInt ≤ t0_10.toInt from (by have z12 : (0 : Int64).toInt = 0 := rfl; omega)), (show t0_10.toInt ≤ t0_10.toInt from (by have z12 : (0 : Int64).toInt = 0 := rfl; omega)), (show ((0 : Int64), lx21, t0_1, t0_2, t0_3, t0_4, t0_5, t0_6, t0_7, t0_8, t0_9, t0_10) = (F_FR_widened x2 t0_0 t0_1 t0_2 t0_3 t0_4 t0_5 t0_6 t0_7 t0_8 t0_9 t0_10) from Eq.trans (by rw [F_FR_widened_J14.eq_1, if_neg c33]) hR26)⟩) d_17_37_25
  ·
    intro J23
    refine lv_if_eq (tgt := 13) hx hb d_17_37_6 (by decide) (fun c160 => ?_) (fun c160 => ?_)
    ·
      have b161 : q_F (a16.toInt = 0) := (q_eqI c160)
      refine lv_iconst (v := 0) hx hb d_17_37_13 (by decide) ?_
      exact J23 ((0 : Int32)) _ _ _ ws ⟨(show q_F (0 ≤ 0) from (show 0 ≤ 0 from by omega)), (show q_F (0 ≤ 1) from (show 0 ≤ 1 from by omega)), V, q_lw hl (q_lw1 0 rfl (q_lw1 1 rfl q_lw0)), (show F_FR_widened_J14 x2 t0_0 t0_1 t0_2 t0_3 t0_4 t0_5 t0_6 t0_7 t0_8 t0_9 t0_10 0 = (F_FR_widened x2 t0_0 t0_1 t0_2 t0_3 t0_4 t0_5 t0_6 t0_7 t0_8 t0_9 t0_10) from (by have c160x := c160; rw [e20] at c160x; rw [F_FR_widened.eq_1, if_pos c160x])), (show True ∧ S_FR_widened_J14 x2 t0_0 t0_1 t0_2 t0_3 t0_4 t0_5 t0_6 t0_7 t0_8 t0_9 t0_10 0 from (by have h := hS; rw [S_FR_widened.eq_1] at h; have c160x := c160; rw [e20] at c160x; rw [if_pos c160x] at h; with_reducible exact h))⟩
    ·
      have b162 : q_F (a16.toInt ≠ 0) := (q_neI c160)
      refine lv_iconst (v := 1) hx hb d_17_37_9 (by decide) ?_
      refine lv_goto (tgt := 14) hx hb d_17_37_10 (by decide) ?_
      exact J23 ((1 : Int32)) _ _ _ ws ⟨(show q_F (0 ≤ 1) from (show 0 ≤ 1 from by omega)), (show q_F (1 ≤ 1) from (show 1 ≤ 1 from by omega)), V, q_lw hl (q_lw1 0 rfl (q_lw1 1 rfl q_lw0)), (show F_FR_widened_J14 x2 t0_0 t0_1 t0_2 t0_3 t0_4 t0_5 t0_6 t0_7 t0_8 t0_9 t0_10 1 = (F_FR_widened x2 t0_0 t0_1 t0_2 t0_3 t0_4 t0_5 t0_6 t0_7 t0_8 t0_9 t0_10) from (by have c160x := c160; rw [e20] at c160x; rw [F_FR_widened.eq_1, if_neg c160x])), (show True ∧ S_FR_widened_J14 x2 t0_0 t0_1 t0_2 t0_3 t0_4 t0_5 t0_6 t0_7 t0_8 t0_9 t0_10 1 from (by have h := hS; rw [S_FR_widened.eq_1] at h; have c160x := c160; rw [e20] at c160x; rw [if_neg c160x] at h; with_reducible exact h))⟩
theorem d_17_28_0 : decode prog_17_method_28_code 0 = .ok (.aload_n 0, 1) := by decide +kernel
theorem d_17_28_1 : decode prog_17_method_28_code 1 = .ok (.aload_n 0, 1) := by decide +kernel
theorem d_17_28_2 : decode prog_17_method_28_code 2 = .ok (.getfield 55, 3) := by decide +kernel
theorem d_17_28_5 : decode prog_17_method_28_code 5 = .ok (.invokevirtual 61, 3) := by decide +kernel
theorem d_17_28_8 : decode prog_17_method_28_code 8 = .ok (.aload_n 0, 1) := by decide +kernel
theorem d_17_28_9 : decode prog_17_method_28_code 9 = .ok (.aload_n 0, 1) := by decide +kernel
theorem d_17_28_10 : decode prog_17_method_28_code 10 = .ok (.getfield 16, 3) := by decide +kernel
theorem d_17_28_13 : decode prog_17_method_28_code 13 = .ok (.aload_n 0, 1) := by decide +kernel
theorem d_17_28_14 : decode prog_17_method_28_code 14 = .ok (.getfield 52, 3) := by decide +kernel
theorem d_17_28_17 : decode prog_17_method_28_code 17 = .ok (.invokevirtual 67, 3) := by decide +kernel
theorem d_17_28_20 : decode prog_17_method_28_code 20 = .ok (.return_, 1) := by decide +kernel
def y_FR_setValue : MethodName := ⟨"NumberHouseModel$FloatRows", "setValue", "()V"⟩
def F_FR_setValue_c17 (t0_0 : Int32) (t0_1 : Int32) (t0_2 : Int32) (t0_3 : Int32) (t0_4 : Int64) (t0_5 : Int32) (t0_6 : Int32) (t0_7 : Int64) (t0_8 : Int32) (t0_9 : Int64) (t0_10 : Int32) (t1_0 : (Nat → Int32)) (t2_0 : (Nat → Int32)) (t3_0 : (Nat → Int32)) (f25 : (Nat → Int32)) (p39 : ((Nat → Int32) × (Nat → Int32))) : (Nat → Int32) × (Nat → Int32) × (Nat → Int32) := (f25, (p39.1 : (Nat → Int32)), (p39.2 : (Nat → Int32)))
def F_FR_setValue (t0_0 : Int32) (t0_1 : Int32) (t0_2 : Int32) (t0_3 : Int32) (t0_4 : Int64) (t0_5 : Int32) (t0_6 : Int32) (t0_7 : Int64) (t0_8 : Int32) (t0_9 : Int64) (t0_10 : Int32) (t1_0 : (Nat → Int32)) (t2_0 : (Nat → Int32)) (t3_0 : (Nat → Int32)) : (Nat → Int32) × (Nat → Int32) × (Nat → Int32) := F_FR_setValue_c17 t0_0 t0_1 t0_2 t0_3 t0_4 t0_5 t0_6 t0_7 t0_8 t0_9 t0_10 t1_0 t2_0 t3_0 ((F_FR_setUnit t0_8 t0_0 t0_1 t0_2 t0_3 t0_4 t0_5 t0_6 t0_7 t0_8 t0_9 t0_10 t1_0) : (Nat → Int32)) ((F_FR_set (1404 : Int32) t0_7 t0_0 t0_1 t0_2 t0_3 t0_4 t0_5 t0_6 t0_7 t0_8 t0_9 t0_10 ((F_FR_setUnit t0_8 t0_0 t0_1 t0_2 t0_3 t0_4 t0_5 t0_6 t0_7 t0_8 t0_9 t0_10 t1_0) : (Nat → Int32)) t2_0 t3_0) : ((Nat → Int32) × (Nat → Int32)))
def S_FR_setValue_c17 (t0_0 : Int32) (t0_1 : Int32) (t0_2 : Int32) (t0_3 : Int32) (t0_4 : Int64) (t0_5 : Int32) (t0_6 : Int32) (t0_7 : Int64) (t0_8 : Int32) (t0_9 : Int64) (t0_10 : Int32) (t1_0 : (Nat → Int32)) (t2_0 : (Nat → Int32)) (t3_0 : (Nat → Int32)) (f25 : (Nat → Int32)) (p39 : ((Nat → Int32) × (Nat → Int32))) : Prop := True
def S_FR_setValue (t0_0 : Int32) (t0_1 : Int32) (t0_2 : Int32) (t0_3 : Int32) (t0_4 : Int64) (t0_5 : Int32) (t0_6 : Int32) (t0_7 : Int64) (t0_8 : Int32) (t0_9 : Int64) (t0_10 : Int32) (t1_0 : (Nat → Int32)) (t2_0 : (Nat → Int32)) (t3_0 : (Nat → Int32)) : Prop := (True ∧ S_FR_set (1404 : Int32) t0_7 t0_0 t0_1 t0_2 t0_3 t0_4 t0_5 t0_6 t0_7 t0_8 t0_9 t0_10 ((F_FR_setUnit t0_8 t0_0 t0_1 t0_2 t0_3 t0_4 t0_5 t0_6 t0_7 t0_8 t0_9 t0_10 t1_0) : (Nat → Int32)) t2_0 t3_0) ∧ (S_FR_setValue_c17 t0_0 t0_1 t0_2 t0_3 t0_4 t0_5 t0_6 t0_7 t0_8 t0_9 t0_10 t1_0 t2_0 t3_0 ((F_FR_setUnit t0_8 t0_0 t0_1 t0_2 t0_3 t0_4 t0_5 t0_6 t0_7 t0_8 t0_9 t0_10 t1_0) : (Nat → Int32)) ((F_FR_set (1404 : Int32) t0_7 t0_0 t0_1 t0_2 t0_3 t0_4 t0_5 t0_6 t0_7 t0_8 t0_9 t0_10 ((F_FR_setUnit t0_8 t0_0 t0_1 t0_2 t0_3 t0_4 t0_5 t0_6 t0_7 t0_8 t0_9 t0_10 t1_0) : (Nat → Int32)) t2_0 t3_0) : ((Nat → Int32) × (Nat → Int32))))
set_option maxRecDepth 100000 in
set_option maxHeartbeats 4000000 in
theorem X_FR_setValue (l : Launch) (D : va_G) (g : Nat → ClassId) (q : Nat → Nat) (ws : va_W) (hI : q_I (msh g q) q ws) (t0_0 : Int32) (t0_1 : Int32) (t0_2 : Int32) (t0_3 : Int32) (t0_4 : Int64) (t0_5 : Int32) (t0_6 : Int32) (t0_7 : Int64) (t0_8 : Int32) (t0_9 : Int64) (t0_10 : Int32) (hT0 : ws[145]? = (some (q 145, .inr (15, [.int t0_0, .ref (q 146), .ref (q 147), .ref (q 148), .ref (q 149), .ref (q 150), .ref (q 151), .ref (q 152), .int t0_1, .int t0_2, .int t0_3, .long t0_4, .int t0_5, .int t0_6, .long t0_7, .int t0_8, .long t0_9, .int t0_10])) : Option (Nat × va_E))) (t1_0 : (Nat → Int32)) (hT1 : ws[146]? = (some (q 146, .inl (g 0, (156 : Int32).toNatClampNeg, .inl t1_0)) : Option (Nat × va_E))) (t2_0 : (Nat → Int32)) (hT2 : ws[147]? = (some (q 147, .inl (g 0, (156 : Int32).toNatClampNeg, .inl t2_0)) : Option (Nat × va_E))) (t3_0 : (Nat → Int32)) (hT3 : ws[148]? = (some (q 148, .inl (g 0, (1404 : Int32).toNatClampNeg, .inl t3_0)) : Option (Nat × va_E))) (hS : True ∧ S_FR_setValue t0_0 t0_1 t0_2 t0_3 t0_4 t0_5 t0_6 t0_7 t0_8 t0_9 t0_10 t1_0 t2_0 t3_0) : q_mV l y_FR_setValue prog_17_method_28_code 1 2 0 0 D g [.ref (q 145)] ws (fun u => q_I (msh g q) q u ∧ q_un ws u [146, 147, 148] ∧ ∃ (u1_0 : (Nat → Int32)) (u2_0 : (Nat → Int32)) (u3_0 : (Nat → Int32)), u[146]? = (some (q 146, .inl (g 0, (156 : Int32).toNatClampNeg, .inl u1_0)) : Option (Nat × va_E)) ∧ u[147]? = (some (q 147, .inl (g 0, (156 : Int32).toNatClampNeg, .inl u2_0)) : Option (Nat × va_E)) ∧ u[148]? = (some (q 148, .inl (g 0, (1404 : Int32).toNatClampNeg, .inl u3_0)) : Option (Nat × va_E)) ∧ (u1_0, u2_0, u3_0) = (F_FR_setValue t0_0 t0_1 t0_2 t0_3 t0_4 t0_5 t0_6 t0_7 t0_8 t0_9 t0_10 t1_0 t2_0 t3_0)) := by
  intro sz
  refine q_into (by decide) (Nat.le_of_ble_eq_true rfl) ?_
  intro p e s m below meth c ls hsz C0 V hl
  have hx := C0.1
  have hb := C0.2.1
  obtain ⟨yy0_0, yy0_1, yy0_2, yy0_3, yy0_4, yy0_5, yy0_6, yy0_7, yy0_8, yy0_9, yy0_10, hh0, btt0_2⟩ := n_o145 hI
  obtain ⟨rfl, rfl, rfl, rfl, rfl, rfl, rfl, rfl, rfl, rfl, rfl⟩ : t0_0 = yy0_0 ∧ t0_1 = yy0_1 ∧ t0_2 = yy0_2 ∧ t0_3 = yy0_3 ∧ t0_4 = yy0_4 ∧ t0_5 = yy0_5 ∧ t0_6 = yy0_6 ∧ t0_7 = yy0_7 ∧ t0_8 = yy0_8 ∧ t0_9 = yy0_9 ∧ t0_10 = yy0_10 := by have z := Option.some.inj (hT0.symm.trans hh0); simpa using z
  replace btt0_2 : q_F (0 ≤ t0_2.toInt ∧ t0_2.toInt ≤ 1) := btt0_2
  have hF : q_un ws ws [146, 147, 148] := q_u0
  have hl : lv_has ls 1 [(0, .ref (q 145))] := hl
  refine lv_aload_n hx hb d_17_28_0 rfl (lv_at hl 0 rfl) ?_
  refine lv_aload_n hx hb d_17_28_1 rfl (lv_at hl 0 rfl) ?_
  refine q_get (ci := 15) (j := 15) (v := .int t0_8) C0 V i_FR rfl rfl hT0 (by decide) w_2091 rfl d_17_28_2 ?_
  refine q_gov V (q_runV (As := [.int t0_8]) (rest := []) (d := 1) (mc := 0) (ms := 0) (ci := 15) C0 V rfl LV_FR_61 (X_FR_setUnit l D g q ws  t0_8 hI t0_0 t0_1 t0_2 t0_3 t0_4 t0_5 t0_6 t0_7 t0_8 t0_9 t0_10 hT0 t1_0 hT1  _) rfl rfl hT0 rfl hl.1 rfl (Nat.le_of_ble_eq_true rfl) ⟨by decide, by decide⟩ ⟨Nat.le_of_ble_eq_true rfl, Nat.le_of_ble_eq_true rfl⟩ d_17_28_5) (fun u23 H locs hp24 V => ?_)
  obtain ⟨hI, hu28, f25, hA26, hE27⟩ := hp24
  replace hA26 : u23[146]? = (some (q 146, .inl (g 0, (156 : Int32).toNatClampNeg, .inl f25)) : Option (Nat × va_E)) := hA26
  have e29 : f25 = (F_FR_setUnit t0_8 t0_0 t0_1 t0_2 t0_3 t0_4 t0_5 t0_6 t0_7 t0_8 t0_9 t0_10 t1_0) := hE27
  replace hT0 := (hu28 _ (by decide)).trans hT0
  replace hT2 := (hu28 _ (by decide)).trans hT2
  replace hT3 := (hu28 _ (by decide)).trans hT3
  replace hF := q_uc hF hu28 (by simp)
  refine lv_aload_n hx hb d_17_28_8 rfl (lv_at hl 0 rfl) ?_
  refine lv_aload_n hx hb d_17_28_9 rfl (lv_at hl 0 rfl) ?_
  refine q_get (ci := 15) (j := 3) (v := .ref (q 148)) C0 V i_FR rfl rfl hT0 (by decide) w_2078 rfl d_17_28_10 ?_
  refine lv_aload_n hx hb d_17_28_13 rfl (lv_at hl 0 rfl) ?_
  refine q_get (ci := 15) (j := 14) (v := .long t0_7) C0 V i_FR rfl rfl hT0 (by decide) w_2090 rfl d_17_28_14 ?_
  have ob30 : True ∧ S_FR_set (1404 : Int32) t0_7 t0_0 t0_1 t0_2 t0_3 t0_4 t0_5 t0_6 t0_7 t0_8 t0_9 t0_10 f25 t2_0 t3_0 := (by rw [e29]; have h := hS; rw [S_FR_setValue.eq_1] at h; with_reducible exact h.2.1)
  refine q_gov V (q_runV (As := [.ref (q 148), .long t0_7]) (rest := []) (d := 1) (mc := 0) (ms := 0) (ci := 15) C0 V rfl LV_FR_67 (X_FR_set l D g q u23 148 1404 (n_r148 g q) t0_7 (by decide) (by decide) hI t0_0 t0_1 t0_2 t0_3 t0_4 t0_5 t0_6 t0_7 t0_8 t0_9 t0_10 hT0 f25 hA26 t2_0 hT2 t3_0 hT3 ob30 _) rfl rfl hT0 rfl hl.1 rfl (Nat.le_of_ble_eq_true rfl) ⟨by decide, by decide⟩ ⟨Nat.le_of_ble_eq_true rfl, Nat.le_of_ble_eq_true rfl⟩ d_17_28_17) (fun u31 H locs hp32 V => ?_)
  obtain ⟨hI, hu38, f33, f35, hA34, hA36, hE37⟩ := hp32
  replace hA34 : u31[147]? = (some (q 147, .inl (g 0, (156 : Int32).toNatClampNeg, .inl f33)) : Option (Nat × va_E)) := hA34
  replace hA36 : u31[148]? = (some (q 148, .inl (g 0, (1404 : Int32).toNatClampNeg, .inl f35)) : Option (Nat × va_E)) := hA36
  obtain ⟨p39, e40⟩ : ∃ z, z = (F_FR_set (1404 : Int32) t0_7 t0_0 t0_1 t0_2 t0_3 t0_4 t0_5 t0_6 t0_7 t0_8 t0_9 t0_10 f25 t2_0 t3_0) := ⟨_, rfl⟩
  have e41 : f33 = p39.1 := congrArg (fun z => z.1) (hE37.trans e40.symm)
  have e42 : f35 = p39.2 := congrArg (fun z => z.2) (hE37.trans e40.symm)
  replace hT0 := (hu38 _ (by decide)).trans hT0
  replace hA26 := (hu38 _ (by decide)).trans hA26
  replace hF := q_uc hF hu38 (by simp)
  have hR43 := (show F_FR_setValue_c17 t0_0 t0_1 t0_2 t0_3 t0_4 t0_5 t0_6 t0_7 t0_8 t0_9 t0_10 t1_0 t2_0 t3_0 f25 p39 = (F_FR_setValue t0_0 t0_1 t0_2 t0_3 t0_4 t0_5 t0_6 t0_7 t0_8 t0_9 t0_10 t1_0 t2_0 t3_0) from (by rw [e40, e29, F_FR_setValue.eq_1]))
  have hS44 := (show True ∧ S_FR_setValue_c17 t0_0 t0_1 t0_2 t0_3 t0_4 t0_5 t0_6 t0_7 t0_8 t0_9 t0_10 t1_0 t2_0 t3_0 f25 p39 from (by rw [e40, e29]; have h := hS; rw [S_FR_setValue.eq_1] at h; replace h := q_s2 h; with_reducible exact h))
  exact q_retv C0 V (⟨hI, hF, f25, f33, f35, hA26, hA34, hA36, (show (f25, f33, f35) = (F_FR_setValue t0_0 t0_1 t0_2 t0_3 t0_4 t0_5 t0_6 t0_7 t0_8 t0_9 t0_10 t1_0 t2_0 t3_0) from Eq.trans (by rw [e42, e41, F_FR_setValue_c17.eq_1]) hR43)⟩) d_17_28_20
theorem d_17_26_0 : decode prog_17_method_26_code 0 = .ok (.iconst 0, 1) := by decide +kernel
theorem d_17_26_1 : decode prog_17_method_26_code 1 = .ok (.istore_n 3, 1) := by decide +kernel
theorem d_17_26_2 : decode prog_17_method_26_code 2 = .ok (.iconst 0, 1) := by decide +kernel
theorem d_17_26_3 : decode prog_17_method_26_code 3 = .ok (.istore 4, 2) := by decide +kernel
theorem d_17_26_5 : decode prog_17_method_26_code 5 = .ok (.iload 4, 2) := by decide +kernel
theorem d_17_26_7 : decode prog_17_method_26_code 7 = .ok (.iload_n 1, 1) := by decide +kernel
theorem d_17_26_8 : decode prog_17_method_26_code 8 = .ok (.if_icmp .ge 29, 3) := by decide +kernel
theorem d_17_26_37 : decode prog_17_method_26_code 37 = .ok (.iload_n 3, 1) := by decide +kernel
theorem d_17_26_38 : decode prog_17_method_26_code 38 = .ok (.ifCond .eq 7, 3) := by decide +kernel
theorem d_17_26_45 : decode prog_17_method_26_code 45 = .ok (.iconst 0, 1) := by decide +kernel
theorem d_17_26_46 : decode prog_17_method_26_code 46 = .ok (.ireturn, 1) := by decide +kernel
theorem d_17_26_41 : decode prog_17_method_26_code 41 = .ok (.iload_n 2, 1) := by decide +kernel
theorem d_17_26_42 : decode prog_17_method_26_code 42 = .ok (.ifCond .ne 5, 3) := by decide +kernel
theorem d_17_26_47 : decode prog_17_method_26_code 47 = .ok (.aload_n 0, 1) := by decide +kernel
theorem d_17_26_48 : decode prog_17_method_26_code 48 = .ok (.iload_n 1, 1) := by decide +kernel
theorem d_17_26_49 : decode prog_17_method_26_code 49 = .ok (.invokevirtual 98, 3) := by decide +kernel
theorem d_17_26_52 : decode prog_17_method_26_code 52 = .ok (.istore 4, 2) := by decide +kernel
theorem d_17_26_54 : decode prog_17_method_26_code 54 = .ok (.iload_n 2, 1) := by decide +kernel
theorem d_17_26_55 : decode prog_17_method_26_code 55 = .ok (.iconst 1, 1) := by decide +kernel
theorem d_17_26_56 : decode prog_17_method_26_code 56 = .ok (.if_icmp .eq 30, 3) := by decide +kernel
theorem d_17_26_86 : decode prog_17_method_26_code 86 = .ok (.iconst 1, 1) := by decide +kernel
theorem d_17_26_87 : decode prog_17_method_26_code 87 = .ok (.goto 4, 3) := by decide +kernel
theorem d_17_26_91 : decode prog_17_method_26_code 91 = .ok (.ireturn, 1) := by decide +kernel
theorem d_17_26_59 : decode prog_17_method_26_code 59 = .ok (.iload 4, 2) := by decide +kernel
theorem d_17_26_61 : decode prog_17_method_26_code 61 = .ok (.ifCond .gt 25, 3) := by decide +kernel
theorem d_17_26_64 : decode prog_17_method_26_code 64 = .ok (.iload 4, 2) := by decide +kernel
theorem d_17_26_66 : decode prog_17_method_26_code 66 = .ok (.ifCond .ne 24, 3) := by decide +kernel
theorem d_17_26_90 : decode prog_17_method_26_code 90 = .ok (.iconst 0, 1) := by decide +kernel
theorem d_17_26_69 : decode prog_17_method_26_code 69 = .ok (.iload_n 2, 1) := by decide +kernel
theorem d_17_26_70 : decode prog_17_method_26_code 70 = .ok (.iconst 2, 1) := by decide +kernel
theorem d_17_26_71 : decode prog_17_method_26_code 71 = .ok (.if_icmp .eq 15, 3) := by decide +kernel
theorem d_17_26_74 : decode prog_17_method_26_code 74 = .ok (.aload_n 0, 1) := by decide +kernel
theorem d_17_26_75 : decode prog_17_method_26_code 75 = .ok (.getfield 16, 3) := by decide +kernel
theorem d_17_26_78 : decode prog_17_method_26_code 78 = .ok (.iload_n 1, 1) := by decide +kernel
theorem d_17_26_79 : decode prog_17_method_26_code 79 = .ok (.iaload, 1) := by decide +kernel
theorem d_17_26_80 : decode prog_17_method_26_code 80 = .ok (.iconst 2, 1) := by decide +kernel
theorem d_17_26_81 : decode prog_17_method_26_code 81 = .ok (.irem, 1) := by decide +kernel
theorem d_17_26_82 : decode prog_17_method_26_code 82 = .ok (.iconst 1, 1) := by decide +kernel
theorem d_17_26_83 : decode prog_17_method_26_code 83 = .ok (.if_icmp .ne 7, 3) := by decide +kernel
theorem d_17_26_11 : decode prog_17_method_26_code 11 = .ok (.iload_n 3, 1) := by decide +kernel
theorem d_17_26_12 : decode prog_17_method_26_code 12 = .ok (.ifCond .ne 13, 3) := by decide +kernel
theorem d_17_26_25 : decode prog_17_method_26_code 25 = .ok (.iconst 1, 1) := by decide +kernel
theorem d_17_26_26 : decode prog_17_method_26_code 26 = .ok (.goto 4, 3) := by decide +kernel
theorem d_17_26_30 : decode prog_17_method_26_code 30 = .ok (.istore_n 3, 1) := by decide +kernel
theorem d_17_26_31 : decode prog_17_method_26_code 31 = .ok (.iinc 4 1, 3) := by decide +kernel
theorem d_17_26_34 : decode prog_17_method_26_code 34 = .ok (.goto (-29), 3) := by decide +kernel
theorem d_17_26_15 : decode prog_17_method_26_code 15 = .ok (.aload_n 0, 1) := by decide +kernel
theorem d_17_26_16 : decode prog_17_method_26_code 16 = .ok (.getfield 16, 3) := by decide +kernel
theorem d_17_26_19 : decode prog_17_method_26_code 19 = .ok (.iload 4, 2) := by decide +kernel
theorem d_17_26_21 : decode prog_17_method_26_code 21 = .ok (.iaload, 1) := by decide +kernel
theorem d_17_26_22 : decode prog_17_method_26_code 22 = .ok (.ifCond .eq 7, 3) := by decide +kernel
theorem d_17_26_29 : decode prog_17_method_26_code 29 = .ok (.iconst 0, 1) := by decide +kernel
def y_FR_isMore : MethodName := ⟨"NumberHouseModel$FloatRows", "isMore", "(II)Z"⟩
def F_FR_isMore_L5 (x2 : Int32) (x3 : Int32) (t0_0 : Int32) (t0_1 : Int32) (t0_2 : Int32) (t0_3 : Int32) (t0_4 : Int64) (t0_5 : Int32) (t0_6 : Int32) (t0_7 : Int64) (t0_8 : Int32) (t0_9 : Int64) (t0_10 : Int32) (t1_0 : (Nat → Int32)) : Nat → Int32 → Int32 → Int32
  | 0, _, _ => default
  | fm + 1, lx19, lx20 => if x2 ≤ lx19 then (if lx20 = (0 : Int32) then ((0 : Int32)) else (if x3 = (0 : Int32) then ((0 : Int32)) else (if x3 = (1 : Int32) then ((1 : Int32)) else (if (0 : Int32) < ((F_FR_half x2 t0_0 t0_1 t0_2 t0_3 t0_4 t0_5 t0_6 t0_7 t0_8 t0_9 t0_10 t1_0) : Int32) then ((1 : Int32)) else (if ((F_FR_half x2 t0_0 t0_1 t0_2 t0_3 t0_4 t0_5 t0_6 t0_7 t0_8 t0_9 t0_10 t1_0) : Int32) = (0 : Int32) then (if x3 = (2 : Int32) then ((1 : Int32)) else (if ((t1_0 x2.toNatClampNeg : Int32) - (t1_0 x2.toNatClampNeg : Int32) / 2 * 2 : Int32) = (1 : Int32) then ((1 : Int32)) else ((0 : Int32)))) else ((0 : Int32))))))) else (if lx20 = (0 : Int32) then (if (t1_0 lx19.toNatClampNeg : Int32) = (0 : Int32) then (F_FR_isMore_L5 x2 x3 t0_0 t0_1 t0_2 t0_3 t0_4 t0_5 t0_6 t0_7 t0_8 t0_9 t0_10 t1_0 fm (lx19 + 1 : Int32) 0) else (F_FR_isMore_L5 x2 x3 t0_0 t0_1 t0_2 t0_3 t0_4 t0_5 t0_6 t0_7 t0_8 t0_9 t0_10 t1_0 fm (lx19 + 1 : Int32) 1)) else (F_FR_isMore_L5 x2 x3 t0_0 t0_1 t0_2 t0_3 t0_4 t0_5 t0_6 t0_7 t0_8 t0_9 t0_10 t1_0 fm (lx19 + 1 : Int32) 1))
def F_FR_isMore (x2 : Int32) (x3 : Int32) (t0_0 : Int32) (t0_1 : Int32) (t0_2 : Int32) (t0_3 : Int32) (t0_4 : Int64) (t0_5 : Int32) (t0_6 : Int32) (t0_7 : Int64) (t0_8 : Int32) (t0_9 : Int64) (t0_10 : Int32) (t1_0 : (Nat → Int32)) : Int32 := F_FR_isMore_L5 x2 x3 t0_0 t0_1 t0_2 t0_3 t0_4 t0_5 t0_6 t0_7 t0_8 t0_9 t0_10 t1_0 ((x2.toInt - (0 : Int32).toInt).toNat + 1) 0 0
def S_FR_isMore_L5 (x2 : Int32) (x3 : Int32) (t0_0 : Int32) (t0_1 : Int32) (t0_2 : Int32) (t0_3 : Int32) (t0_4 : Int64) (t0_5 : Int32) (t0_6 : Int32) (t0_7 : Int64) (t0_8 : Int32) (t0_9 : Int64) (t0_10 : Int32) (t1_0 : (Nat → Int32)) : Nat → Int32 → Int32 → Prop
  | 0, _, _ => False
  | fm + 1, lx19, lx20 => if x2 ≤ lx19 then (if lx20 = (0 : Int32) then (True) else (if x3 = (0 : Int32) then (True) else ((True ∧ S_FR_half x2 t0_0 t0_1 t0_2 t0_3 t0_4 t0_5 t0_6 t0_7 t0_8 t0_9 t0_10 t1_0) ∧ (if x3 = (1 : Int32) then (True) else (if (0 : Int32) < ((F_FR_half x2 t0_0 t0_1 t0_2 t0_3 t0_4 t0_5 t0_6 t0_7 t0_8 t0_9 t0_10 t1_0) : Int32) then (True) else (if ((F_FR_half x2 t0_0 t0_1 t0_2 t0_3 t0_4 t0_5 t0_6 t0_7 t0_8 t0_9 t0_10 t1_0) : Int32) = (0 : Int32) then (if x3 = (2 : Int32) then (True) else ((0 ≤ x2.toInt) ∧ ((x2.toInt ≤ 1403) ∧ (if ((t1_0 x2.toNatClampNeg : Int32) - (t1_0 x2.toNatClampNeg : Int32) / 2 * 2 : Int32) = (1 : Int32) then (True) else (True))))) else (True))))))) else (if lx20 = (0 : Int32) then ((lx19.toInt ≤ 1403) ∧ (if (t1_0 lx19.toNatClampNeg : Int32) = (0 : Int32) then (S_FR_isMore_L5 x2 x3 t0_0 t0_1 t0_2 t0_3 t0_4 t0_5 t0_6 t0_7 t0_8 t0_9 t0_10 t1_0 fm (lx19 + 1 : Int32) 0) else (S_FR_isMore_L5 x2 x3 t0_0 t0_1 t0_2 t0_3 t0_4 t0_5 t0_6 t0_7 t0_8 t0_9 t0_10 t1_0 fm (lx19 + 1 : Int32) 1))) else (S_FR_isMore_L5 x2 x3 t0_0 t0_1 t0_2 t0_3 t0_4 t0_5 t0_6 t0_7 t0_8 t0_9 t0_10 t1_0 fm (lx19 + 1 : Int32) 1))
def S_FR_isMore (x2 : Int32) (x3 : Int32) (t0_0 : Int32) (t0_1 : Int32) (t0_2 : Int32) (t0_3 : Int32) (t0_4 : Int64) (t0_5 : Int32) (t0_6 : Int32) (t0_7 : Int64) (t0_8 : Int32) (t0_9 : Int64) (t0_10 : Int32) (t1_0 : (Nat → Int32)) : Prop := S_FR_isMore_L5 x2 x3 t0_0 t0_1 t0_2 t0_3 t0_4 t0_5 t0_6 t0_7 t0_8 t0_9 t0_10 t1_0 ((x2.toInt - (0 : Int32).toInt).toNat + 1) 0 0
set_option maxRecDepth 100000 in
set_option maxHeartbeats 4000000 in
theorem X_FR_isMore (l : Launch) (D : va_G) (g : Nat → ClassId) (q : Nat → Nat) (ws : va_W) (x2 : Int32) (x3 : Int32) (hI : q_I (msh g q) q ws) (t0_0 : Int32) (t0_1 : Int32) (t0_2 : Int32) (t0_3 : Int32) (t0_4 : Int64) (t0_5 : Int32) (t0_6 : Int32) (t0_7 : Int64) (t0_8 : Int32) (t0_9 : Int64) (t0_10 : Int32) (hT0 : ws[145]? = (some (q 145, .inr (15, [.int t0_0, .ref (q 146), .ref (q 147), .ref (q 148), .ref (q 149), .ref (q 150), .ref (q 151), .ref (q 152), .int t0_1, .int t0_2, .int t0_3, .long t0_4, .int t0_5, .int t0_6, .long t0_7, .int t0_8, .long t0_9, .int t0_10])) : Option (Nat × va_E))) (t1_0 : (Nat → Int32)) (hT1 : ws[148]? = (some (q 148, .inl (g 0, (1404 : Int32).toNatClampNeg, .inl t1_0)) : Option (Nat × va_E))) (hS : True ∧ S_FR_isMore x2 x3 t0_0 t0_1 t0_2 t0_3 t0_4 t0_5 t0_6 t0_7 t0_8 t0_9 t0_10 t1_0) : q_mI l y_FR_isMore prog_17_method_26_code 5 (.boolean) 2 0 0 D g [.ref (q 145), .int x2, .int x3] ws (fun r u => ws = u ∧ (0 ≤ r.toInt) ∧ (r.toInt ≤ 1) ∧ r = (F_FR_isMore x2 x3 t0_0 t0_1 t0_2 t0_3 t0_4 t0_5 t0_6 t0_7 t0_8 t0_9 t0_10 t1_0)) := by
  intro sz
  refine q_into (by decide) (Nat.le_of_ble_eq_true rfl) ?_
  intro p e s m below meth c ls hsz C0 V hl
  have hx := C0.1
  have hb := C0.2.1
  obtain ⟨yy0_0, yy0_1, yy0_2, yy0_3, yy0_4, yy0_5, yy0_6, yy0_7, yy0_8, yy0_9, yy0_10, hh0, btt0_2⟩ := n_o145 hI
  obtain ⟨rfl, rfl, rfl, rfl, rfl, rfl, rfl, rfl, rfl, rfl, rfl⟩ : t0_0 = yy0_0 ∧ t0_1 = yy0_1 ∧ t0_2 = yy0_2 ∧ t0_3 = yy0_3 ∧ t0_4 = yy0_4 ∧ t0_5 = yy0_5 ∧ t0_6 = yy0_6 ∧ t0_7 = yy0_7 ∧ t0_8 = yy0_8 ∧ t0_9 = yy0_9 ∧ t0_10 = yy0_10 := by have z := Option.some.inj (hT0.symm.trans hh0); simpa using z
  replace btt0_2 : q_F (0 ≤ t0_2.toInt ∧ t0_2.toInt ≤ 1) := btt0_2
  have hl : lv_has ls 5 [(0, .ref (q 145)), (1, .int x2), (2, .int x3)] := hl
  refine lv_iconst (v := 0) hx hb d_17_26_0 (by decide) ?_
  refine lv_istore_n (lv' := [(3, .int 0), (0, .ref (q 145)), (1, .int x2), (2, .int x3)]) hx hb d_17_26_1 rfl hl (by decide) rfl (fun ls hl => ?_)
  refine lv_iconst (v := 0) hx hb d_17_26_2 (by decide) ?_
  refine lv_istore (lv' := [(4, .int 0), (3, .int 0), (0, .ref (q 145)), (1, .int x2), (2, .int x3)]) hx hb d_17_26_3 hl (by decide) rfl (fun ls hl => ?_)
  refine q_loop (X := Int32 × Int32) (fun z H locs ls _ => q_F (0 ≤ z.2.toInt) ∧ q_F (z.2.toInt ≤ 1) ∧ q_F (z.2.toInt ≤ z.1.toInt) ∧ q_Wd D g (va_A ws sz) s ws H locs ∧ lv_has ls 5 [(4, .int z.1), (3, .int z.2), (0, .ref (q 145)), (1, .int x2), (2, .int x3)] ∧ (∃ n, (x2.toInt - z.1.toInt).toNat < n ∧ F_FR_isMore_L5 x2 x3 t0_0 t0_1 t0_2 t0_3 t0_4 t0_5 t0_6 t0_7 t0_8 t0_9 t0_10 t1_0 n z.1 z.2 = (F_FR_isMore x2 x3 t0_0 t0_1 t0_2 t0_3 t0_4 t0_5 t0_6 t0_7 t0_8 t0_9 t0_10 t1_0) ∧ True ∧ S_FR_isMore_L5 x2 x3 t0_0 t0_1 t0_2 t0_3 t0_4 t0_5 t0_6 t0_7 t0_8 t0_9 t0_10 t1_0 n z.1 z.2)) (fun z => (x2.toInt - z.1.toInt).toNat) ?_ ((0 : Int32), (0 : Int32)) _ _ _ ws ⟨(show q_F (0 ≤ 0) from (show 0 ≤ 0 from by omega)), (show q_F (0 ≤ 1) from (show 0 ≤ 1 from by omega)), (show q_F (0 ≤ 0) from (show 0 ≤ 0 from by omega)), V, q_lw hl (q_lw1 0 rfl (q_lw1 1 rfl (q_lw1 2 rfl (q_lw1 3 rfl (q_lw1 4 rfl q_lw0))))), ⟨((x2.toInt - (0 : Int32).toInt).toNat + 1), Nat.lt_succ_self _, (show F_FR_isMore_L5 x2 x3 t0_0 t0_1 t0_2 t0_3 t0_4 t0_5 t0_6 t0_7 t0_8 t0_9 t0_10 t1_0 ((x2.toInt - (0 : Int32).toInt).toNat + 1) 0 0 = (F_FR_isMore x2 x3 t0_0 t0_1 t0_2 t0_3 t0_4 t0_5 t0_6 t0_7 t0_8 t0_9 t0_10 t1_0) from (by rw [F_FR_isMore.eq_1])), (show True ∧ S_FR_isMore_L5 x2 x3 t0_0 t0_1 t0_2 t0_3 t0_4 t0_5 t0_6 t0_7 t0_8 t0_9 t0_10 t1_0 ((x2.toInt - (0 : Int32).toInt).toNat + 1) 0 0 from (by have h := hS; rw [S_FR_isMore.eq_1] at h; with_reducible exact h))⟩⟩
  rintro ⟨lx19, lx20⟩ H locs ls _ ⟨i21, i22, i23, V, hl, ⟨fu27, hf28, hR25, hS26⟩⟩ ih24
  obtain ⟨fm29, rfl⟩ : ∃ m, fu27 = m + 1 := ⟨fu27 - 1, by omega⟩
  replace i21 : q_F (0 ≤ lx20.toInt) := i21
  replace i22 : q_F (lx20.toInt ≤ 1) := i22
  replace i23 : q_F (lx20.toInt ≤ lx19.toInt) := i23
  replace hl : lv_has ls 5 [(4, .int lx19), (3, .int lx20), (0, .ref (q 145)), (1, .int x2), (2, .int x3)] := hl
  refine lv_iload hx hb d_17_26_5 (lv_at hl 0 rfl) ?_
  refine lv_iload_n hx hb d_17_26_7 rfl (lv_at hl 3 rfl) ?_
  refine lv_icmp_ge (tgt := 37) hx hb d_17_26_8 (by decide) (fun c30 => ?_) (fun c30 => ?_)
  ·
    have b31 : q_F (x2.toInt ≤ lx19.toInt) := (q_leI c30)
    refine lv_iload_n hx hb d_17_26_37 rfl (lv_at hl 1 rfl) ?_
    refine lv_if_eq (tgt := 45) hx hb d_17_26_38 (by decide) (fun c32 => ?_) (fun c32 => ?_)
    ·
      have b33 : q_F (lx20.toInt = 0) := (q_eqI c32)
      refine lv_iconst (v := 0) hx hb d_17_26_45 (by decide) ?_
      exact q_retz C0 V (by decide) (⟨rfl, (show 0 ≤ (0 : Int32).toInt from (by have z14 : (0 : Int32).toInt = 0 := rfl; omega)), (show (0 : Int32).toInt ≤ 1 from (by have z14 : (0 : Int32).toInt = 0 := rfl; omega)), (show (0 : Int32) = (F_FR_isMore x2 x3 t0_0 t0_1 t0_2 t0_3 t0_4 t0_5 t0_6 t0_7 t0_8 t0_9 t0_10 t1_0) from Eq.trans (by rw [F_FR_isMore_L5.eq_2, if_pos c30, if_pos c32]) hR25)⟩) d_17_26_46
    ·
      have b34 : q_F (lx20.toInt ≠ 0) := (q_neI c32)
      refine lv_iload_n hx hb d_17_26_41 rfl (lv_at hl 4 rfl) ?_
      refine lv_if_ne (tgt := 47) hx hb d_17_26_42 (by decide) (fun c35 => ?_) (fun c35 => ?_)
      ·
        have b36 : q_F (x3.toInt ≠ 0) := (q_neI c35)
        refine lv_aload_n hx hb d_17_26_47 rfl (lv_at hl 2 rfl) ?_
        refine lv_iload_n hx hb d_17_26_48 rfl (lv_at hl 3 rfl) ?_
        have ob37 : True ∧ S_FR_half x2 t0_0 t0_1 t0_2 t0_3 t0_4 t0_5 t0_6 t0_7 t0_8 t0_9 t0_10 t1_0 := (by have h := hS26; rw [S_FR_isMore_L5.eq_2] at h; rw [if_pos c30] at h; rw [if_neg c32] at h; rw [if_neg c35] at h; with_reducible exact h.2.1)
        refine q_goi V (q_runV (As := [.int x2]) (rest := []) (d := 1) (mc := 0) (ms := 0) (ci := 15) C0 V rfl LV_FR_98 (X_FR_half l D g q ws  x2 hI t0_0 t0_1 t0_2 t0_3 t0_4 t0_5 t0_6 t0_7 t0_8 t0_9 t0_10 hT0 t1_0 hT1 ob37 _) rfl rfl hT0 rfl hl.1 rfl (Nat.le_of_ble_eq_true rfl) ⟨by decide, by decide⟩ ⟨Nat.le_of_ble_eq_true rfl, Nat.le_of_ble_eq_true rfl⟩ d_17_26_49) (fun a40 u38 H locs hp39 V => ?_)
        obtain ⟨rfl, b41, b42, hE43⟩ := hp39
        have e44 : a40 = (F_FR_half x2 t0_0 t0_1 t0_2 t0_3 t0_4 t0_5 t0_6 t0_7 t0_8 t0_9 t0_10 t1_0) := hE43
        replace b41 : q_F (0 ≤ a40.toInt + 1) := b41
        replace b42 : q_F (a40.toInt ≤ 1) := b42
        refine lv_istore (lv' := [(4, .int a40), (3, .int lx20), (0, .ref (q 145)), (1, .int x2), (2, .int x3)]) hx hb d_17_26_52 hl (by decide) rfl (fun ls hl => ?_)
        refine lv_iload_n hx hb d_17_26_54 rfl (lv_at hl 4 rfl) ?_
        refine lv_iconst (v := 1) hx hb d_17_26_55 (by decide) ?_
        refine lv_icmp_eq (tgt := 86) hx hb d_17_26_56 (by decide) (fun c45 => ?_) (fun c45 => ?_)
        ·
          have b46 : q_F (x3.toInt = 1) := (q_eqI c45)
          refine lv_iconst (v := 1) hx hb d_17_26_86 (by decide) ?_
          refine lv_goto (tgt := 91) hx hb d_17_26_87 (by decide) ?_
          exact q_retz C0 V (by decide) (⟨rfl, (show 0 ≤ (1 : Int32).toInt from (by have z14 : (1 : Int32).toInt = 1 := rfl; omega)), (show (1 : Int32).toInt ≤ 1 from (by have z14 : (1 : Int32).toInt = 1 := rfl; omega)), (show (1 : Int32) = (F_FR_isMore x2 x3 t0_0 t0_1 t0_2 t0_3 t0_4 t0_5 t0_6 t0_7 t0_8 t0_9 t0_10 t1_0) from Eq.trans (by rw [F_FR_isMore_L5.eq_2, if_pos c30, if_neg c32, if_neg c35, if_pos c45]) hR25)⟩) d_17_26_91
        ·
          have b47 : q_F (x3.toInt ≠ 1) := (q_neI c45)
          refine lv_iload hx hb d_17_26_59 (lv_at hl 0 rfl) ?_
          refine lv_if_gt (tgt := 86) hx hb d_17_26_61 (by decide) (fun c48 => ?_) (fun c48 => ?_)
          ·
            have b49 : q_F (0 < a40.toInt) := (q_ltI c48)
            refine lv_iconst (v := 1) hx hb d_17_26_86 (by decide) ?_
            refine lv_goto (tgt := 91) hx hb d_17_26_87 (by decide) ?_
            exact q_retz C0 V (by decide) (⟨rfl, (show 0 ≤ (1 : Int32).toInt from (by have z14 : (1 : Int32).toInt = 1 := rfl; omega)), (show (1 : Int32).toInt ≤ 1 from (by have z14 : (1 : Int32).toInt = 1 := rfl; omega)), (show (1 : Int32) = (F_FR_isMore x2 x3 t0_0 t0_1 t0_2 t0_3 t0_4 t0_5 t0_6 t0_7 t0_8 t0_9 t0_10 t1_0) from Eq.trans (by have c48x := c48; rw [e44] at c48x; rw [F_FR_isMore_L5.eq_2, if_pos c30, if_neg c32, if_neg c35, if_neg c45, if_pos c48x]) hR25)⟩) d_17_26_91
          ·
            have b50 : q_F (a40.toInt ≤ 0) := (q_nltI c48)
            refine lv_iload hx hb d_17_26_64 (lv_at hl 0 rfl) ?_
            refine lv_if_ne (tgt := 90) hx hb d_17_26_66 (by decide) (fun c51 => ?_) (fun c51 => ?_)
            ·
              have b52 : q_F (a40.toInt ≠ 0) := (q_neI c51)
              refine lv_iconst (v := 0) hx hb d_17_26_90 (by decide) ?_
              exact q_retz C0 V (by decide) (⟨rfl, (show 0 ≤ (0 : Int32).toInt from (by have z14 : (0 : Int32).toInt = 0 := rfl; omega)), (show (0 : Int32).toInt ≤ 1 from (by have z14 : (0 : Int32).toInt = 0 := rfl; omega)), (show (0 : Int32) = (F_FR_isMore x2 x3 t0_0 t0_1 t0_2 t0_3 t0_4 t0_5 t0_6 t0_7 t0_8 t0_9 t0_10 t1_0) from Eq.trans (by have c48x := c48; rw [e44] at c48x; have c51x := c51; rw [e44] at c51x; rw [F_FR_isMore_L5.eq_2, if_pos c30, if_neg c32, if_neg c35, if_neg c45, if_neg c48x, if_neg c51x]) hR25)⟩) d_17_26_91
            ·
              have b53 : q_F (a40.toInt = 0) := (q_eqI c51)
              refine lv_iload_n hx hb d_17_26_69 rfl (lv_at hl 4 rfl) ?_
              refine lv_iconst (v := 2) hx hb d_17_26_70 (by decide) ?_
              refine lv_icmp_eq (tgt := 86) hx hb d_17_26_71 (by decide) (fun c54 => ?_) (fun c54 => ?_)
              ·
                have b55 : q_F (x3.toInt = 2) := (q_eqI c54)
                refine lv_iconst (v := 1) hx hb d_17_26_86 (by decide) ?_
                refine lv_goto (tgt := 91) hx hb d_17_26_87 (by decide) ?_
                exact q_retz C0 V (by decide) (⟨rfl, (show 0 ≤ (1 : Int32).toInt from (by have z14 : (1 : Int32).toInt = 1 := rfl; omega)), (show (1 : Int32).toInt ≤ 1 from (by have z14 : (1 : Int32).toInt = 1 := rfl; omega)), (show (1 : Int32) = (F_FR_isMore x2 x3 t0_0 t0_1 t0_2 t0_3 t0_4 t0_5 t0_6 t0_7 t0_8 t0_9 t0_10 t1_0) from Eq.trans (by have c48x := c48; rw [e44] at c48x; have c51x := c51; rw [e44] at c51x; rw [F_FR_isMore_L5.eq_2, if_pos c30, if_neg c32, if_neg c35, if_neg c45, if_neg c48x, if_pos c51x, if_pos c54]) hR25)⟩) d_17_26_91
              ·
                have b56 : q_F (x3.toInt ≠ 2) := (q_neI c54)
                refine lv_aload_n hx hb d_17_26_74 rfl (lv_at hl 2 rfl) ?_
                refine q_get (ci := 15) (j := 3) (v := .ref (q 148)) C0 V i_FR rfl rfl hT0 (by decide) w_2078 rfl d_17_26_75 ?_
                refine lv_iload_n hx hb d_17_26_78 rfl (lv_at hl 3 rfl) ?_
                have ob57 : q_F (0 ≤ x2.toInt) := (by have h := hS26; rw [S_FR_isMore_L5.eq_2] at h; rw [if_pos c30] at h; rw [if_neg c32] at h; rw [if_neg c35] at h; replace h := q_s2 h; rw [if_neg c45] at h; have c48x := c48; rw [e44] at c48x; rw [if_neg c48x] at h; have c51x := c51; rw [e44] at c51x; rw [if_pos c51x] at h; rw [if_neg c54] at h; exact h.2.1)
                have ob58 : q_F (x2.toInt ≤ 1403) := (by have h := hS26; rw [S_FR_isMore_L5.eq_2] at h; rw [if_pos c30] at h; rw [if_neg c32] at h; rw [if_neg c35] at h; replace h := q_s2 h; rw [if_neg c45] at h; have c48x := c48; rw [e44] at c48x; rw [if_neg c48x] at h; have c51x := c51; rw [e44] at c51x; rw [if_pos c51x] at h; rw [if_neg c54] at h; replace h := q_s2 h; exact h.2.1)
                refine q_iald C0 V hT1 (q_ix (x := x2.toInt) rfl (by have t1 : 0 ≤ x2.toInt := ob57; omega) (by have t1 : 0 ≤ x2.toInt := ob57; have t2 : x2.toInt ≤ 1403 := ob58; have e9 : (((1404 : Int32).toNatClampNeg : Nat) : Int) = 1404 := (by decide); omega)) d_17_26_79 ?_
                obtain ⟨a59, e60⟩ := q_nm (t1_0 x2.toNatClampNeg : Int32)
                refine q_ti (v := a59) e60 ?_
                refine lv_iconst (v := 2) hx hb d_17_26_80 (by decide) ?_
                refine lv_irem hx hb d_17_26_81 (by decide) ?_
                obtain ⟨a61, e62⟩ := q_nm (a59 - a59 / 2 * 2 : Int32)
                refine q_ti (v := a61) e62 ?_
                refine lv_iconst (v := 1) hx hb d_17_26_82 (by decide) ?_
                refine lv_icmp_ne (tgt := 90) hx hb d_17_26_83 (by decide) (fun c63 => ?_) (fun c63 => ?_)
                ·
                  have b64 : q_F (a61.toInt ≠ 1) := (q_neI c63)
                  refine lv_iconst (v := 0) hx hb d_17_26_90 (by decide) ?_
                  exact q_retz C0 V (by decide) (⟨rfl, (show 0 ≤ (0 : Int32).toInt from (by have z14 : (0 : Int32).toInt = 0 := rfl; omega)), (show (0 : Int32).toInt ≤ 1 from (by have z14 : (0 : Int32).toInt = 0 := rfl; omega)), (show (0 : Int32) = (F_FR_isMore x2 x3 t0_0 t0_1 t0_2 t0_3 t0_4 t0_5 t0_6 t0_7 t0_8 t0_9 t0_10 t1_0) from Eq.trans (by have c48x := c48; rw [e44] at c48x; have c51x := c51; rw [e44] at c51x; have c63x := c63; rw [← e62, ← e60] at c63x; rw [F_FR_isMore_L5.eq_2, if_pos c30, if_neg c32, if_neg c35, if_neg c45, if_neg c48x, if_pos c51x, if_neg c54, if_neg c63x]) hR25)⟩) d_17_26_91
                ·
                  have b65 : q_F (a61.toInt = 1) := (q_eqI c63)
                  refine lv_iconst (v := 1) hx hb d_17_26_86 (by decide) ?_
                  refine lv_goto (tgt := 91) hx hb d_17_26_87 (by decide) ?_
                  exact q_retz C0 V (by decide) (⟨rfl, (show 0 ≤ (1 : Int32).toInt from (by have z14 : (1 : Int32).toInt = 1 := rfl; omega)), (show (1 : Int32).toInt ≤ 1 from (by have z14 : (1 : Int32).toInt = 1 := rfl; omega)), (show (1 : Int32) = (F_FR_isMore x2 x3 t0_0 t0_1 t0_2 t0_3 t0_4 t0_5 t0_6 t0_7 t0_8 t0_9 t0_10 t1_0) from Eq.trans (by have c48x := c48; rw [e44] at c48x; have c51x := c51; rw [e44] at c51x; have c63x := c63; rw [← e62, ← e60] at c63x; rw [F_FR_isMore_L5.eq_2, if_pos c30, if_neg c32, if_neg c35, if_neg c45, if_neg c48x, if_pos c51x, if_neg c54, if_pos c63x]) hR25)⟩) d_17_26_91
      ·
        have b66 : q_F (x3.toInt = 0) := (q_eqI c35)
        refine lv_iconst (v := 0) hx hb d_17_26_45 (by decide) ?_
        exact q_retz C0 V (by decide) (⟨rfl, (show 0 ≤ (0 : Int32).toInt from (by have z14 : (0 : Int32).toInt = 0 := rfl; omega)), (show (0 : Int32).toInt ≤ 1 from (by have z14 : (0 : Int32).toInt = 0 := rfl; omega)), (show (0 : Int32) = (F_FR_isMore x2 x3 t0_0 t0_1 t0_2 t0_3 t0_4 t0_5 t0_6 t0_7 t0_8 t0_9 t0_10 t1_0) from Eq.trans (by rw [F_FR_isMore_L5.eq_2, if_pos c30, if_neg c32, if_pos c35]) hR25)⟩) d_17_26_46
  ·
    have b67 : q_F (lx19.toInt < x2.toInt) := (q_nleI c30)
    refine lv_iload_n hx hb d_17_26_11 rfl (lv_at hl 1 rfl) ?_
    refine lv_if_ne (tgt := 25) hx hb d_17_26_12 (by decide) (fun c68 => ?_) (fun c68 => ?_)
    ·
      have b69 : q_F (lx20.toInt ≠ 0) := (q_neI c68)
      refine lv_iconst (v := 1) hx hb d_17_26_25 (by decide) ?_
      refine lv_goto (tgt := 30) hx hb d_17_26_26 (by decide) ?_
      refine lv_istore_n (lv' := [(3, .int 1), (4, .int lx19), (0, .ref (q 145)), (1, .int x2), (2, .int x3)]) hx hb d_17_26_30 rfl hl (by decide) rfl (fun ls hl => ?_)
      obtain ⟨a70, e71⟩ := q_nm (lx19 + 1 : Int32)
      have b72 : q_F (a70.toInt = lx19.toInt + 1) := (by rw [← e71]; exact q_addI (y := 1) rfl (by decide) (by have _ := q_lo32 (x := lx19); have _ := q_hi32 (x := lx19); have t1 : lx19.toInt < x2.toInt := b67; have _ := q_lo32 (x := x2); have _ := q_hi32 (x := x2); omega) (by have _ := q_lo32 (x := lx19); have _ := q_hi32 (x := lx19); have t1 : lx19.toInt < x2.toInt := b67; have _ := q_lo32 (x := x2); have _ := q_hi32 (x := x2); omega))
      refine lv_iinc (v := a70) (lv' := [(4, .int a70), (3, .int 1), (0, .ref (q 145)), (1, .int x2), (2, .int x3)]) hx hb d_17_26_31 hl (k := 1) rfl (e71) (by decide) rfl (fun ls hl => ?_)
      refine lv_goto (tgt := 5) hx hb d_17_26_34 (by decide) ?_
      exact ih24 ((a70 : Int32), (1 : Int32)) _ _ _ ws (show (x2.toInt - a70.toInt).toNat < (x2.toInt - lx19.toInt).toNat from by have t1 : a70.toInt = lx19.toInt + 1 := b72; have t2 : lx19.toInt < x2.toInt := b67; omega) ⟨(show q_F (0 ≤ 1) from (show 0 ≤ 1 from by omega)), (show q_F (1 ≤ 1) from (show 1 ≤ 1 from by omega)), (show q_F (1 ≤ a70.toInt) from (show 1 ≤ a70.toInt from by have t1 : 0 ≤ lx20.toInt := i21; have t2 : lx20.toInt ≤ lx19.toInt := i23; have t3 : a70.toInt = lx19.toInt + 1 := b72; omega)), V, q_lw hl (q_lw1 0 rfl (q_lw1 1 rfl (q_lw1 2 rfl (q_lw1 3 rfl (q_lw1 4 rfl q_lw0))))), ⟨fm29, Nat.lt_of_lt_of_le (show (x2.toInt - a70.toInt).toNat < (x2.toInt - lx19.toInt).toNat from by have t1 : a70.toInt = lx19.toInt + 1 := b72; have t2 : lx19.toInt < x2.toInt := b67; omega) (Nat.le_of_lt_succ hf28), (show F_FR_isMore_L5 x2 x3 t0_0 t0_1 t0_2 t0_3 t0_4 t0_5 t0_6 t0_7 t0_8 t0_9 t0_10 t1_0 fm29 a70 1 = (F_FR_isMore x2 x3 t0_0 t0_1 t0_2 t0_3 t0_4 t0_5 t0_6 t0_7 t0_8 t0_9 t0_10 t1_0) from Eq.trans (by rw [← e71, F_FR_isMore_L5.eq_2, if_neg c30, if_neg c68]) hR25), (show True ∧ S_FR_isMore_L5 x2 x3 t0_0 t0_1 t0_2 t0_3 t0_4 t0_5 t0_6 t0_7 t0_8 t0_9 t0_10 t1_0 fm29 a70 1 from (by rw [← e71]; have h := hS26; rw [S_FR_isMore_L5.eq_2] at h; rw [if_neg c30] at h; rw [if_neg c68] at h; with_reducible exact h))⟩⟩
    ·
      have b73 : q_F (lx20.toInt = 0) := (q_eqI c68)
      refine lv_aload_n hx hb d_17_26_15 rfl (lv_at hl 2 rfl) ?_
      refine q_get (ci := 15) (j := 3) (v := .ref (q 148)) C0 V i_FR rfl rfl hT0 (by decide) w_2078 rfl d_17_26_16 ?_
      refine lv_iload hx hb d_17_26_19 (lv_at hl 0 rfl) ?_
      have ob74 : q_F (lx19.toInt ≤ 1403) := (by have h := hS26; rw [S_FR_isMore_L5.eq_2] at h; rw [if_neg c30] at h; rw [if_pos c68] at h; exact h.2.1)
      refine q_iald C0 V hT1 (q_ix (x := lx19.toInt) rfl (by have t1 : 0 ≤ lx20.toInt := i21; have t2 : lx20.toInt ≤ lx19.toInt := i23; omega) (by have t1 : 0 ≤ lx20.toInt := i21; have t2 : lx20.toInt ≤ lx19.toInt := i23; have t3 : lx19.toInt ≤ 1403 := ob74; have e9 : (((1404 : Int32).toNatClampNeg : Nat) : Int) = 1404 := (by decide); omega)) d_17_26_21 ?_
      obtain ⟨a75, e76⟩ := q_nm (t1_0 lx19.toNatClampNeg : Int32)
      refine q_ti (v := a75) e76 ?_
      refine lv_if_eq (tgt := 29) hx hb d_17_26_22 (by decide) (fun c77 => ?_) (fun c77 => ?_)
      ·
        have b78 : q_F (a75.toInt = 0) := (q_eqI c77)
        refine lv_iconst (v := 0) hx hb d_17_26_29 (by decide) ?_
        refine lv_istore_n (lv' := [(3, .int 0), (4, .int lx19), (0, .ref (q 145)), (1, .int x2), (2, .int x3)]) hx hb d_17_26_30 rfl hl (by decide) rfl (fun ls hl => ?_)
        obtain ⟨a79, e80⟩ := q_nm (lx19 + 1 : Int32)
        have b81 : q_F (a79.toInt = lx19.toInt + 1) := (by rw [← e80]; exact q_addI (y := 1) rfl (by decide) (by have _ := q_lo32 (x := lx19); have _ := q_hi32 (x := lx19); have t1 : lx19.toInt ≤ 1403 := ob74; omega) (by have _ := q_lo32 (x := lx19); have _ := q_hi32 (x := lx19); have t1 : lx19.toInt ≤ 1403 := ob74; omega))
        refine lv_iinc (v := a79) (lv' := [(4, .int a79), (3, .int 0), (0, .ref (q 145)), (1, .int x2), (2, .int x3)]) hx hb d_17_26_31 hl (k := 1) rfl (e80) (by decide) rfl (fun ls hl => ?_)
        refine lv_goto (tgt := 5) hx hb d_17_26_34 (by decide) ?_
        exact ih24 ((a79 : Int32), (0 : Int32)) _ _ _ ws (show (x2.toInt - a79.toInt).toNat < (x2.toInt - lx19.toInt).toNat from by have t1 : a79.toInt = lx19.toInt + 1 := b81; have t2 : lx19.toInt < x2.toInt := b67; omega) ⟨(show q_F (0 ≤ 0) from (show 0 ≤ 0 from by omega)), (show q_F (0 ≤ 1) from (show 0 ≤ 1 from by omega)), (show q_F (0 ≤ a79.toInt) from (show 0 ≤ a79.toInt from by have t1 : 0 ≤ lx20.toInt := i21; have t2 : lx20.toInt ≤ lx19.toInt := i23; have t3 : a79.toInt = lx19.toInt + 1 := b81; omega)), V, q_lw hl (q_lw1 0 rfl (q_lw1 1 rfl (q_lw1 2 rfl (q_lw1 3 rfl (q_lw1 4 rfl q_lw0))))), ⟨fm29, Nat.lt_of_lt_of_le (show (x2.toInt - a79.toInt).toNat < (x2.toInt - lx19.toInt).toNat from by have t1 : a79.toInt = lx19.toInt + 1 := b81; have t2 : lx19.toInt < x2.toInt := b67; omega) (Nat.le_of_lt_succ hf28), (show F_FR_isMore_L5 x2 x3 t0_0 t0_1 t0_2 t0_3 t0_4 t0_5 t0_6 t0_7 t0_8 t0_9 t0_10 t1_0 fm29 a79 0 = (F_FR_isMore x2 x3 t0_0 t0_1 t0_2 t0_3 t0_4 t0_5 t0_6 t0_7 t0_8 t0_9 t0_10 t1_0) from Eq.trans (by have c77x := c77; rw [← e76] at c77x; rw [← e80, F_FR_isMore_L5.eq_2, if_neg c30, if_pos c68, if_pos c77x]) hR25), (show True ∧ S_FR_isMore_L5 x2 x3 t0_0 t0_1 t0_2 t0_3 t0_4 t0_5 t0_6 t0_7 t0_8 t0_9 t0_10 t1_0 fm29 a79 0 from (by rw [← e80]; have h := hS26; rw [S_FR_isMore_L5.eq_2] at h; rw [if_neg c30] at h; rw [if_pos c68] at h; replace h := q_s2 h; have c77x := c77; rw [← e76] at c77x; rw [if_pos c77x] at h; with_reducible exact h))⟩⟩
      ·
        have b82 : q_F (a75.toInt ≠ 0) := (q_neI c77)
        refine lv_iconst (v := 1) hx hb d_17_26_25 (by decide) ?_
        refine lv_goto (tgt := 30) hx hb d_17_26_26 (by decide) ?_
        refine lv_istore_n (lv' := [(3, .int 1), (4, .int lx19), (0, .ref (q 145)), (1, .int x2), (2, .int x3)]) hx hb d_17_26_30 rfl hl (by decide) rfl (fun ls hl => ?_)
        obtain ⟨a83, e84⟩ := q_nm (lx19 + 1 : Int32)
        have b85 : q_F (a83.toInt = lx19.toInt + 1) := (by rw [← e84]; exact q_addI (y := 1) rfl (by decide) (by have _ := q_lo32 (x := lx19); have _ := q_hi32 (x := lx19); have t1 : lx19.toInt ≤ 1403 := ob74; omega) (by have _ := q_lo32 (x := lx19); have _ := q_hi32 (x := lx19); have t1 : lx19.toInt ≤ 1403 := ob74; omega))
        refine lv_iinc (v := a83) (lv' := [(4, .int a83), (3, .int 1), (0, .ref (q 145)), (1, .int x2), (2, .int x3)]) hx hb d_17_26_31 hl (k := 1) rfl (e84) (by decide) rfl (fun ls hl => ?_)
        refine lv_goto (tgt := 5) hx hb d_17_26_34 (by decide) ?_
        exact ih24 ((a83 : Int32), (1 : Int32)) _ _ _ ws (show (x2.toInt - a83.toInt).toNat < (x2.toInt - lx19.toInt).toNat from by have t1 : a83.toInt = lx19.toInt + 1 := b85; have t2 : lx19.toInt < x2.toInt := b67; omega) ⟨(show q_F (0 ≤ 1) from (show 0 ≤ 1 from by omega)), (show q_F (1 ≤ 1) from (show 1 ≤ 1 from by omega)), (show q_F (1 ≤ a83.toInt) from (show 1 ≤ a83.toInt from by have t1 : 0 ≤ lx20.toInt := i21; have t2 : lx20.toInt ≤ lx19.toInt := i23; have t3 : a83.toInt = lx19.toInt + 1 := b85; omega)), V, q_lw hl (q_lw1 0 rfl (q_lw1 1 rfl (q_lw1 2 rfl (q_lw1 3 rfl (q_lw1 4 rfl q_lw0))))), ⟨fm29, Nat.lt_of_lt_of_le (show (x2.toInt - a83.toInt).toNat < (x2.toInt - lx19.toInt).toNat from by have t1 : a83.toInt = lx19.toInt + 1 := b85; have t2 : lx19.toInt < x2.toInt := b67; omega) (Nat.le_of_lt_succ hf28), (show F_FR_isMore_L5 x2 x3 t0_0 t0_1 t0_2 t0_3 t0_4 t0_5 t0_6 t0_7 t0_8 t0_9 t0_10 t1_0 fm29 a83 1 = (F_FR_isMore x2 x3 t0_0 t0_1 t0_2 t0_3 t0_4 t0_5 t0_6 t0_7 t0_8 t0_9 t0_10 t1_0) from Eq.trans (by have c77x := c77; rw [← e76] at c77x; rw [← e84, F_FR_isMore_L5.eq_2, if_neg c30, if_pos c68, if_neg c77x]) hR25), (show True ∧ S_FR_isMore_L5 x2 x3 t0_0 t0_1 t0_2 t0_3 t0_4 t0_5 t0_6 t0_7 t0_8 t0_9 t0_10 t1_0 fm29 a83 1 from (by rw [← e84]; have h := hS26; rw [S_FR_isMore_L5.eq_2] at h; rw [if_neg c30] at h; rw [if_pos c68] at h; replace h := q_s2 h; have c77x := c77; rw [← e76] at c77x; rw [if_neg c77x] at h; with_reducible exact h))⟩⟩
theorem d_17_16_0 : decode prog_17_method_16_code 0 = .ok (.aload_n 0, 1) := by decide +kernel
theorem d_17_16_1 : decode prog_17_method_16_code 1 = .ok (.getfield 28, 3) := by decide +kernel
theorem d_17_16_4 : decode prog_17_method_16_code 4 = .ok (.aload_n 0, 1) := by decide +kernel
theorem d_17_16_5 : decode prog_17_method_16_code 5 = .ok (.getfield 107, 3) := by decide +kernel
set_option maxRecDepth 100000 in
theorem w_2084 : (Cond.fieldLink "NumberHouseModel$FloatRows" (107 : Nat) "NumberHouseModel$FloatRows" "length" "I") ∈ q_tbl := q_of9 164 rfl (by decide +kernel)
theorem d_17_16_8 : decode prog_17_method_16_code 8 = .ok (.iload_n 1, 1) := by decide +kernel
theorem d_17_16_9 : decode prog_17_method_16_code 9 = .ok (.iastore, 1) := by decide +kernel
theorem d_17_16_10 : decode prog_17_method_16_code 10 = .ok (.aload_n 0, 1) := by decide +kernel
theorem d_17_16_11 : decode prog_17_method_16_code 11 = .ok (.dup, 1) := by decide +kernel
theorem d_17_16_12 : decode prog_17_method_16_code 12 = .ok (.getfield 107, 3) := by decide +kernel
theorem d_17_16_15 : decode prog_17_method_16_code 15 = .ok (.iconst 1, 1) := by decide +kernel
theorem d_17_16_16 : decode prog_17_method_16_code 16 = .ok (.iadd, 1) := by decide +kernel
theorem d_17_16_17 : decode prog_17_method_16_code 17 = .ok (.putfield 107, 3) := by decide +kernel
theorem d_17_16_20 : decode prog_17_method_16_code 20 = .ok (.return_, 1) := by decide +kernel
def y_FR_add : MethodName := ⟨"NumberHouseModel$FloatRows", "add", "(I)V"⟩
def F_FR_add (x2 : Int32) (t0_0 : Int32) (t0_1 : Int32) (t0_2 : Int32) (t0_3 : Int32) (t0_4 : Int64) (t0_5 : Int32) (t0_6 : Int32) (t0_7 : Int64) (t0_8 : Int32) (t0_9 : Int64) (t0_10 : Int32) (t1_0 : (Nat → Int32)) : Int32 × Int32 × Int32 × Int32 × Int64 × Int32 × Int32 × Int64 × Int32 × Int64 × Int32 × (Nat → Int32) := (t0_0, (t0_1 + 1 : Int32), t0_2, t0_3, t0_4, t0_5, t0_6, t0_7, t0_8, t0_9, t0_10, (upd t1_0 t0_1.toNatClampNeg x2 : (Nat → Int32)))
def S_FR_add (x2 : Int32) (t0_0 : Int32) (t0_1 : Int32) (t0_2 : Int32) (t0_3 : Int32) (t0_4 : Int64) (t0_5 : Int32) (t0_6 : Int32) (t0_7 : Int64) (t0_8 : Int32) (t0_9 : Int64) (t0_10 : Int32) (t1_0 : (Nat → Int32)) : Prop := (0 ≤ t0_1.toInt) ∧ ((t0_1.toInt ≤ 1599) ∧ (True))
set_option maxRecDepth 100000 in
set_option maxHeartbeats 4000000 in
theorem X_FR_add (l : Launch) (D : va_G) (g : Nat → ClassId) (q : Nat → Nat) (ws : va_W) (x2 : Int32) (hI : q_I (msh g q) q ws) (t0_0 : Int32) (t0_1 : Int32) (t0_2 : Int32) (t0_3 : Int32) (t0_4 : Int64) (t0_5 : Int32) (t0_6 : Int32) (t0_7 : Int64) (t0_8 : Int32) (t0_9 : Int64) (t0_10 : Int32) (hT0 : ws[145]? = (some (q 145, .inr (15, [.int t0_0, .ref (q 146), .ref (q 147), .ref (q 148), .ref (q 149), .ref (q 150), .ref (q 151), .ref (q 152), .int t0_1, .int t0_2, .int t0_3, .long t0_4, .int t0_5, .int t0_6, .long t0_7, .int t0_8, .long t0_9, .int t0_10])) : Option (Nat × va_E))) (t1_0 : (Nat → Int32)) (hT1 : ws[152]? = (some (q 152, .inl (g 0, (1600 : Int32).toNatClampNeg, .inl t1_0)) : Option (Nat × va_E))) (hS : True ∧ S_FR_add x2 t0_0 t0_1 t0_2 t0_3 t0_4 t0_5 t0_6 t0_7 t0_8 t0_9 t0_10 t1_0) : q_mV l y_FR_add prog_17_method_16_code 2 1 0 0 D g [.ref (q 145), .int x2] ws (fun u => q_I (msh g q) q u ∧ q_un ws u [145, 152] ∧ ∃ (u0_0 : Int32) (u0_1 : Int32) (u0_2 : Int32) (u0_3 : Int32) (u0_4 : Int64) (u0_5 : Int32) (u0_6 : Int32) (u0_7 : Int64) (u0_8 : Int32) (u0_9 : Int64) (u0_10 : Int32) (u1_0 : (Nat → Int32)), u[145]? = (some (q 145, .inr (15, [.int u0_0, .ref (q 146), .ref (q 147), .ref (q 148), .ref (q 149), .ref (q 150), .ref (q 151), .ref (q 152), .int u0_1, .int u0_2, .int u0_3, .long u0_4, .int u0_5, .int u0_6, .long u0_7, .int u0_8, .long u0_9, .int u0_10])) : Option (Nat × va_E)) ∧ u[152]? = (some (q 152, .inl (g 0, (1600 : Int32).toNatClampNeg, .inl u1_0)) : Option (Nat × va_E)) ∧ (1 ≤ u0_1.toInt) ∧ (u0_1.toInt ≤ 1600) ∧ (t0_0.toInt ≤ u0_0.toInt) ∧ (u0_0.toInt ≤ t0_0.toInt) ∧ (t0_1.toInt + 1 ≤ u0_1.toInt) ∧ (u0_1.toInt ≤ t0_1.toInt + 1) ∧ (t0_2.toInt ≤ u0_2.toInt) ∧ (u0_2.toInt ≤ t0_2.toInt) ∧ (t0_3.toInt ≤ u0_3.toInt) ∧ (u0_3.toInt ≤ t0_3.toInt) ∧ (t0_4.toInt ≤ u0_4.toInt) ∧ (u0_4.toInt ≤ t0_4.toInt) ∧ (t0_5.toInt ≤ u0_5.toInt) ∧ (u0_5.toInt ≤ t0_5.toInt) ∧ (t0_6.toInt ≤ u0_6.toInt) ∧ (u0_6.toInt ≤ t0_6.toInt) ∧ (t0_7.toInt ≤ u0_7.toInt) ∧ (u0_7.toInt ≤ t0_7.toInt) ∧ (t0_8.toInt ≤ u0_8.toInt) ∧ (u0_8.toInt ≤ t0_8.toInt) ∧ (t0_9.toInt ≤ u0_9.toInt) ∧ (u0_9.toInt ≤ t0_9.toInt) ∧ (t0_10.toInt ≤ u0_10.toInt) ∧ (u0_10.toInt ≤ t0_10.toInt) ∧ (u0_0, u0_1, u0_2, u0_3, u0_4, u0_5, u0_6, u0_7, u0_8, u0_9, u0_10, u1_0) = (F_FR_add x2 t0_0 t0_1 t0_2 t0_3 t0_4 t0_5 t0_6 t0_7 t0_8 t0_9 t0_10 t1_0)) := by
  intro sz
  refine q_into (by decide) (Nat.le_of_ble_eq_true rfl) ?_
  intro p e s m below meth c ls hsz C0 V hl
  have hx := C0.1
  have hb := C0.2.1
  obtain ⟨yy0_0, yy0_1, yy0_2, yy0_3, yy0_4, yy0_5, yy0_6, yy0_7, yy0_8, yy0_9, yy0_10, hh0, btt0_2⟩ := n_o145 hI
  obtain ⟨rfl, rfl, rfl, rfl, rfl, rfl, rfl, rfl, rfl, rfl, rfl⟩ : t0_0 = yy0_0 ∧ t0_1 = yy0_1 ∧ t0_2 = yy0_2 ∧ t0_3 = yy0_3 ∧ t0_4 = yy0_4 ∧ t0_5 = yy0_5 ∧ t0_6 = yy0_6 ∧ t0_7 = yy0_7 ∧ t0_8 = yy0_8 ∧ t0_9 = yy0_9 ∧ t0_10 = yy0_10 := by have z := Option.some.inj (hT0.symm.trans hh0); simpa using z
  replace btt0_2 : q_F (0 ≤ t0_2.toInt ∧ t0_2.toInt ≤ 1) := btt0_2
  have hF : q_un ws ws [145, 152] := q_u0
  have hl : lv_has ls 2 [(0, .ref (q 145)), (1, .int x2)] := hl
  refine lv_aload_n hx hb d_17_16_0 rfl (lv_at hl 0 rfl) ?_
  refine q_get (ci := 15) (j := 7) (v := .ref (q 152)) C0 V i_FR rfl rfl hT0 (by decide) w_2082 rfl d_17_16_1 ?_
  refine lv_aload_n hx hb d_17_16_4 rfl (lv_at hl 0 rfl) ?_
  refine q_get (ci := 15) (j := 8) (v := .int t0_1) C0 V i_FR rfl rfl hT0 (by decide) w_2084 rfl d_17_16_5 ?_
  refine lv_iload_n hx hb d_17_16_8 rfl (lv_at hl 1 rfl) ?_
  have ob17 : q_F (0 ≤ t0_1.toInt) := (by have h := hS; rw [S_FR_add.eq_1] at h; exact h.2.1)
  have ob18 : q_F (t0_1.toInt ≤ 1599) := (by have h := hS; rw [S_FR_add.eq_1] at h; replace h := q_s2 h; exact h.2.1)
  refine q_iast C0 V hT1 (q_ix (x := t0_1.toInt) rfl (by have t1 : 0 ≤ t0_1.toInt := ob17; omega) (by have t1 : 0 ≤ t0_1.toInt := ob17; have t2 : t0_1.toInt ≤ 1599 := ob18; have e9 : (((1600 : Int32).toNatClampNeg : Nat) : Int) = 1600 := (by decide); omega)) d_17_16_9 (fun H locs w19 hu20 hT1 V => ?_)
  replace hI := n_ai' hI (n_r152 g q).1 hu20 hT1 (q_updB (fun _ => s_bnd) s_bnd)
  replace hT0 := (hu20 _ (by decide)).trans hT0
  replace hF := q_us hF hu20 (by simp)
  obtain ⟨f21, e22⟩ := q_nm (upd t1_0 t0_1.toNatClampNeg x2 : (Nat → Int32))
  rw [e22] at hT1
  refine lv_aload_n hx hb d_17_16_10 rfl (lv_at hl 0 rfl) ?_
  refine lv_dup hx hb d_17_16_11 rfl ?_
  refine q_get (ci := 15) (j := 8) (v := .int t0_1) C0 V i_FR rfl rfl hT0 (by decide) w_2084 rfl d_17_16_12 ?_
  refine lv_iconst (v := 1) hx hb d_17_16_15 (by decide) ?_
  refine lv_iadd hx hb d_17_16_16 ?_
  obtain ⟨a23, e24⟩ := q_nm (t0_1 + 1 : Int32)
  refine q_ti (v := a23) e24 ?_
  have b25 : q_F (a23.toInt = t0_1.toInt + 1) := (by rw [← e24]; show (t0_1 + 1 : Int32).toInt = t0_1.toInt + 1; exact q_addI (x := t0_1.toInt) (y := 1) rfl (by decide) (by have t1 : 0 ≤ t0_1.toInt := ob17; have t2 : t0_1.toInt ≤ 1599 := ob18; omega) (by have t1 : 0 ≤ t0_1.toInt := ob17; have t2 : t0_1.toInt ≤ 1599 := ob18; omega))
  refine q_put (ci := 15) (j := 8) (v := .int a23) (ty := .int) C0 V i_FR o_FR n_FR rfl rfl hT0 (by decide) w_2084 rfl rfl rfl rfl (Nat.le_of_ble_eq_true rfl) d_17_16_17 (fun H locs w26 hu27 hT0 V => ?_)
  replace hT0 : w26[145]? = (some (q 145, .inr (15, [.int t0_0, .ref (q 146), .ref (q 147), .ref (q 148), .ref (q 149), .ref (q 150), .ref (q 151), .ref (q 152), .int a23, .int t0_2, .int t0_3, .long t0_4, .int t0_5, .int t0_6, .long t0_7, .int t0_8, .long t0_9, .int t0_10])) : Option (Nat × va_E)) := hT0
  replace hI := n_p145 hI hu27 hT0 ⟨(by have t1 : 0 ≤ t0_2.toInt ∧ t0_2.toInt ≤ 1 := btt0_2; omega), (by have t1 : 0 ≤ t0_2.toInt ∧ t0_2.toInt ≤ 1 := btt0_2; omega)⟩
  replace hT1 := (hu27 _ (by decide)).trans hT1
  replace hF := q_us hF hu27 (by simp)
  exact q_retv C0 V (⟨hI, hF, t0_0, a23, t0_2, t0_3, t0_4, t0_5, t0_6, t0_7, t0_8, t0_9, t0_10, f21, hT0, hT1, (show 1 ≤ a23.toInt from (by have t1 : 0 ≤ t0_1.toInt := ob17; have t2 : a23.toInt = t0_1.toInt + 1 := b25; omega)), (show a23.toInt ≤ 1600 from (by have t1 : t0_1.toInt ≤ 1599 := ob18; have t2 : a23.toInt = t0_1.toInt + 1 := b25; omega)), (show t0_0.toInt ≤ t0_0.toInt from (by omega)), (show t0_0.toInt ≤ t0_0.toInt from (by omega)), (show t0_1.toInt + 1 ≤ a23.toInt from (by have t1 : a23.toInt = t0_1.toInt + 1 := b25; omega)), (show a23.toInt ≤ t0_1.toInt + 1 from (by have t1 : a23.toInt = t0_1.toInt + 1 := b25; omega)), (show t0_2.toInt ≤ t0_2.toInt from (by omega)), (show t0_2.toInt ≤ t0_2.toInt from (by omega)), (show t0_3.toInt ≤ t0_3.toInt from (by omega)), (show t0_3.toInt ≤ t0_3.toInt from (by omega)), (show t0_4.toInt ≤ t0_4.toInt from (by omega)), (show t0_4.toInt ≤ t0_4.toInt from (by omega)), (show t0_5.toInt ≤ t0_5.toInt from (by omega)), (show t0_5.toInt ≤ t0_5.toInt from (by omega)), (show t0_6.toInt ≤ t0_6.toInt from (by omega)), (show t0_6.toInt ≤ t0_6.toInt from (by omega)), (show t0_7.toInt ≤ t0_7.toInt from (by omega)), (show t0_7.toInt ≤ t0_7.toInt from (by omega)), (show t0_8.toInt ≤ t0_8.toInt from (by omega)), (show t0_8.toInt ≤ t0_8.toInt from (by omega)), (show t0_9.toInt ≤ t0_9.toInt from (by omega)), (show t0_9.toInt ≤ t0_9.toInt from (by omega)), (show t0_10.toInt ≤ t0_10.toInt from (by omega)), (show t0_10.toInt ≤ t0_10.toInt from (by omega)), (show (t0_0, a23, t0_2, t0_3, t0_4, t0_5, t0_6, t0_7, t0_8, t0_9, t0_10, f21) = (F_FR_add x2 t0_0 t0_1 t0_2 t0_3 t0_4 t0_5 t0_6 t0_7 t0_8 t0_9 t0_10 t1_0) from (by rw [← e24, ← e22, F_FR_add.eq_1]))⟩) d_17_16_20
theorem d_17_17_0 : decode prog_17_method_17_code 0 = .ok (.aload_n 0, 1) := by decide +kernel
theorem d_17_17_1 : decode prog_17_method_17_code 1 = .ok (.iconst 0, 1) := by decide +kernel
theorem d_17_17_2 : decode prog_17_method_17_code 2 = .ok (.putfield 107, 3) := by decide +kernel
theorem d_17_17_5 : decode prog_17_method_17_code 5 = .ok (.aload_n 0, 1) := by decide +kernel
theorem d_17_17_6 : decode prog_17_method_17_code 6 = .ok (.getfield 41, 3) := by decide +kernel
theorem d_17_17_9 : decode prog_17_method_17_code 9 = .ok (.ifCond .eq 9, 3) := by decide +kernel
theorem d_17_17_18 : decode prog_17_method_17_code 18 = .ok (.return_, 1) := by decide +kernel
theorem d_17_17_12 : decode prog_17_method_17_code 12 = .ok (.aload_n 0, 1) := by decide +kernel
theorem d_17_17_13 : decode prog_17_method_17_code 13 = .ok (.bipush 45, 2) := by decide +kernel
theorem d_17_17_15 : decode prog_17_method_17_code 15 = .ok (.invokevirtual 110, 3) := by decide +kernel
set_option maxRecDepth 100000 in
theorem w_3002 : (Cond.code ({ cls := "NumberHouseModel$FloatRows", name := "add", desc := "(I)V" } : MethodName) prog_17_method_16_code (2 : Nat) (none : Option ClassFile.FieldType)) ∈ q_tbl := q_of13 122 rfl (by decide +kernel)
set_option maxRecDepth 100000 in
theorem w_2999 : (Cond.methodLink "NumberHouseModel$FloatRows" (110 : Nat) ({ cls := "NumberHouseModel$FloatRows", name := "add", desc := "(I)V" } : MethodName)) ∈ q_tbl := q_of13 119 rfl (by decide +kernel)
set_option maxRecDepth 100000 in
theorem w_3001 : (Cond.instanceMethod ({ cls := "NumberHouseModel$FloatRows", name := "add", desc := "(I)V" } : MethodName)) ∈ q_tbl := q_of13 121 rfl (by decide +kernel)
theorem ws_138 : Cond.selects "NumberHouseModel$FloatRows" (⟨"NumberHouseModel$FloatRows", "add", "(I)V"⟩ : MethodName) (⟨"NumberHouseModel$FloatRows", "add", "(I)V"⟩ : MethodName) ∈ q_tbl := q_ofs 138 (by decide +kernel) (by decide +kernel)
theorem LV_FR_110 : q_LV "NumberHouseModel$FloatRows" 110 y_FR_add prog_17_method_16_code 2 none 1 := ⟨w_3002, w_17, w_2999, w_3001, ws_138, ⟨by decide, by decide, by decide +kernel⟩⟩
def y_FR_begin : MethodName := ⟨"NumberHouseModel$FloatRows", "begin", "()V"⟩
def F_FR_begin_c15 (t0_0 : Int32) (t0_1 : Int32) (t0_2 : Int32) (t0_3 : Int32) (t0_4 : Int64) (t0_5 : Int32) (t0_6 : Int32) (t0_7 : Int64) (t0_8 : Int32) (t0_9 : Int64) (t0_10 : Int32) (t1_0 : (Nat → Int32)) (p65 : (Int32 × Int32 × Int32 × Int32 × Int64 × Int32 × Int32 × Int64 × Int32 × Int64 × Int32 × (Nat → Int32))) : Int32 × Int32 × Int32 × Int32 × Int64 × Int32 × Int32 × Int64 × Int32 × Int64 × Int32 × (Nat → Int32) := ((p65.1 : Int32), (p65.2.1 : Int32), (p65.2.2.1 : Int32), (p65.2.2.2.1 : Int32), (p65.2.2.2.2.1 : Int64), (p65.2.2.2.2.2.1 : Int32), (p65.2.2.2.2.2.2.1 : Int32), (p65.2.2.2.2.2.2.2.1 : Int64), (p65.2.2.2.2.2.2.2.2.1 : Int32), (p65.2.2.2.2.2.2.2.2.2.1 : Int64), (p65.2.2.2.2.2.2.2.2.2.2.1 : Int32), (p65.2.2.2.2.2.2.2.2.2.2.2 : (Nat → Int32)))
def F_FR_begin (t0_0 : Int32) (t0_1 : Int32) (t0_2 : Int32) (t0_3 : Int32) (t0_4 : Int64) (t0_5 : Int32) (t0_6 : Int32) (t0_7 : Int64) (t0_8 : Int32) (t0_9 : Int64) (t0_10 : Int32) (t1_0 : (Nat → Int32)) : Int32 × Int32 × Int32 × Int32 × Int64 × Int32 × Int32 × Int64 × Int32 × Int64 × Int32 × (Nat → Int32) := if t0_2 = (0 : Int32) then ((t0_0, (0 : Int32), t0_2, t0_3, t0_4, t0_5, t0_6, t0_7, t0_8, t0_9, t0_10, t1_0)) else (F_FR_begin_c15 t0_0 t0_1 t0_2 t0_3 t0_4 t0_5 t0_6 t0_7 t0_8 t0_9 t0_10 t1_0 ((F_FR_add (45 : Int32) t0_0 (0 : Int32) t0_2 t0_3 t0_4 t0_5 t0_6 t0_7 t0_8 t0_9 t0_10 t1_0) : (Int32 × Int32 × Int32 × Int32 × Int64 × Int32 × Int32 × Int64 × Int32 × Int64 × Int32 × (Nat → Int32))))
def S_FR_begin_c15 (t0_0 : Int32) (t0_1 : Int32) (t0_2 : Int32) (t0_3 : Int32) (t0_4 : Int64) (t0_5 : Int32) (t0_6 : Int32) (t0_7 : Int64) (t0_8 : Int32) (t0_9 : Int64) (t0_10 : Int32) (t1_0 : (Nat → Int32)) (p65 : (Int32 × Int32 × Int32 × Int32 × Int64 × Int32 × Int32 × Int64 × Int32 × Int64 × Int32 × (Nat → Int32))) : Prop := True
def S_FR_begin (t0_0 : Int32) (t0_1 : Int32) (t0_2 : Int32) (t0_3 : Int32) (t0_4 : Int64) (t0_5 : Int32) (t0_6 : Int32) (t0_7 : Int64) (t0_8 : Int32) (t0_9 : Int64) (t0_10 : Int32) (t1_0 : (Nat → Int32)) : Prop := if t0_2 = (0 : Int32) then (True) else ((True ∧ S_FR_add (45 : Int32) t0_0 (0 : Int32) t0_2 t0_3 t0_4 t0_5 t0_6 t0_7 t0_8 t0_9 t0_10 t1_0) ∧ (S_FR_begin_c15 t0_0 t0_1 t0_2 t0_3 t0_4 t0_5 t0_6 t0_7 t0_8 t0_9 t0_10 t1_0 ((F_FR_add (45 : Int32) t0_0 (0 : Int32) t0_2 t0_3 t0_4 t0_5 t0_6 t0_7 t0_8 t0_9 t0_10 t1_0) : (Int32 × Int32 × Int32 × Int32 × Int64 × Int32 × Int32 × Int64 × Int32 × Int64 × Int32 × (Nat → Int32)))))
set_option maxRecDepth 100000 in
set_option maxHeartbeats 4000000 in
theorem X_FR_begin (l : Launch) (D : va_G) (g : Nat → ClassId) (q : Nat → Nat) (ws : va_W) (hI : q_I (msh g q) q ws) (t0_0 : Int32) (t0_1 : Int32) (t0_2 : Int32) (t0_3 : Int32) (t0_4 : Int64) (t0_5 : Int32) (t0_6 : Int32) (t0_7 : Int64) (t0_8 : Int32) (t0_9 : Int64) (t0_10 : Int32) (hT0 : ws[145]? = (some (q 145, .inr (15, [.int t0_0, .ref (q 146), .ref (q 147), .ref (q 148), .ref (q 149), .ref (q 150), .ref (q 151), .ref (q 152), .int t0_1, .int t0_2, .int t0_3, .long t0_4, .int t0_5, .int t0_6, .long t0_7, .int t0_8, .long t0_9, .int t0_10])) : Option (Nat × va_E))) (t1_0 : (Nat → Int32)) (hT1 : ws[152]? = (some (q 152, .inl (g 0, (1600 : Int32).toNatClampNeg, .inl t1_0)) : Option (Nat × va_E))) (hS : True ∧ S_FR_begin t0_0 t0_1 t0_2 t0_3 t0_4 t0_5 t0_6 t0_7 t0_8 t0_9 t0_10 t1_0) : q_mV l y_FR_begin prog_17_method_17_code 1 2 0 0 D g [.ref (q 145)] ws (fun u => q_I (msh g q) q u ∧ q_un ws u [145, 152] ∧ ∃ (u0_0 : Int32) (u0_1 : Int32) (u0_2 : Int32) (u0_3 : Int32) (u0_4 : Int64) (u0_5 : Int32) (u0_6 : Int32) (u0_7 : Int64) (u0_8 : Int32) (u0_9 : Int64) (u0_10 : Int32) (u1_0 : (Nat → Int32)), u[145]? = (some (q 145, .inr (15, [.int u0_0, .ref (q 146), .ref (q 147), .ref (q 148), .ref (q 149), .ref (q 150), .ref (q 151), .ref (q 152), .int u0_1, .int u0_2, .int u0_3, .long u0_4, .int u0_5, .int u0_6, .long u0_7, .int u0_8, .long u0_9, .int u0_10])) : Option (Nat × va_E)) ∧ u[152]? = (some (q 152, .inl (g 0, (1600 : Int32).toNatClampNeg, .inl u1_0)) : Option (Nat × va_E)) ∧ (t0_0.toInt ≤ u0_0.toInt) ∧ (u0_0.toInt ≤ t0_0.toInt) ∧ (t0_2.toInt ≤ u0_2.toInt) ∧ (u0_2.toInt ≤ t0_2.toInt) ∧ (t0_3.toInt ≤ u0_3.toInt) ∧ (u0_3.toInt ≤ t0_3.toInt) ∧ (t0_4.toInt ≤ u0_4.toInt) ∧ (u0_4.toInt ≤ t0_4.toInt) ∧ (t0_5.toInt ≤ u0_5.toInt) ∧ (u0_5.toInt ≤ t0_5.toInt) ∧ (t0_6.toInt ≤ u0_6.toInt) ∧ (u0_6.toInt ≤ t0_6.toInt) ∧ (t0_7.toInt ≤ u0_7.toInt) ∧ (u0_7.toInt ≤ t0_7.toInt) ∧ (t0_8.toInt ≤ u0_8.toInt) ∧ (u0_8.toInt ≤ t0_8.toInt) ∧ (t0_9.toInt ≤ u0_9.toInt) ∧ (u0_9.toInt ≤ t0_9.toInt) ∧ (t0_10.toInt ≤ u0_10.toInt) ∧ (u0_10.toInt ≤ t0_10.toInt) ∧ (u0_2.toInt ≤ u0_1.toInt) ∧ (u0_1.toInt ≤ u0_2.toInt) ∧ (u0_0, u0_1, u0_2, u0_3, u0_4, u0_5, u0_6, u0_7, u0_8, u0_9, u0_10, u1_0) = (F_FR_begin t0_0 t0_1 t0_2 t0_3 t0_4 t0_5 t0_6 t0_7 t0_8 t0_9 t0_10 t1_0)) := by
  intro sz
  refine q_into (by decide) (Nat.le_of_ble_eq_true rfl) ?_
  intro p e s m below meth c ls hsz C0 V hl
  have hx := C0.1
  have hb := C0.2.1
  obtain ⟨yy0_0, yy0_1, yy0_2, yy0_3, yy0_4, yy0_5, yy0_6, yy0_7, yy0_8, yy0_9, yy0_10, hh0, btt0_2⟩ := n_o145 hI
  obtain ⟨rfl, rfl, rfl, rfl, rfl, rfl, rfl, rfl, rfl, rfl, rfl⟩ : t0_0 = yy0_0 ∧ t0_1 = yy0_1 ∧ t0_2 = yy0_2 ∧ t0_3 = yy0_3 ∧ t0_4 = yy0_4 ∧ t0_5 = yy0_5 ∧ t0_6 = yy0_6 ∧ t0_7 = yy0_7 ∧ t0_8 = yy0_8 ∧ t0_9 = yy0_9 ∧ t0_10 = yy0_10 := by have z := Option.some.inj (hT0.symm.trans hh0); simpa using z
  replace btt0_2 : q_F (0 ≤ t0_2.toInt ∧ t0_2.toInt ≤ 1) := btt0_2
  have hF : q_un ws ws [145, 152] := q_u0
  have hl : lv_has ls 1 [(0, .ref (q 145))] := hl
  refine lv_aload_n hx hb d_17_17_0 rfl (lv_at hl 0 rfl) ?_
  refine lv_iconst (v := 0) hx hb d_17_17_1 (by decide) ?_
  refine q_put (ci := 15) (j := 8) (v := .int 0) (ty := .int) C0 V i_FR o_FR n_FR rfl rfl hT0 (by decide) w_2084 rfl rfl rfl rfl (Nat.le_of_ble_eq_true rfl) d_17_17_2 (fun H locs w17 hu18 hT0 V => ?_)
  replace hT0 : w17[145]? = (some (q 145, .inr (15, [.int t0_0, .ref (q 146), .ref (q 147), .ref (q 148), .ref (q 149), .ref (q 150), .ref (q 151), .ref (q 152), .int 0, .int t0_2, .int t0_3, .long t0_4, .int t0_5, .int t0_6, .long t0_7, .int t0_8, .long t0_9, .int t0_10])) : Option (Nat × va_E)) := hT0
  replace hI := n_p145 hI hu18 hT0 ⟨(by have t1 : 0 ≤ t0_2.toInt ∧ t0_2.toInt ≤ 1 := btt0_2; omega), (by have t1 : 0 ≤ t0_2.toInt ∧ t0_2.toInt ≤ 1 := btt0_2; omega)⟩
  replace hT1 := (hu18 _ (by decide)).trans hT1
  replace hF := q_us hF hu18 (by simp)
  refine lv_aload_n hx hb d_17_17_5 rfl (lv_at hl 0 rfl) ?_
  refine q_get (ci := 15) (j := 9) (v := .int t0_2) C0 V i_FR rfl rfl hT0 (by decide) w_2085 rfl d_17_17_6 ?_
  refine lv_if_eq (tgt := 18) hx hb d_17_17_9 (by decide) (fun c19 => ?_) (fun c19 => ?_)
  ·
    have b20 : q_F (t0_2.toInt = 0) := (q_eqI c19)
    exact q_retv C0 V (⟨hI, hF, t0_0, 0, t0_2, t0_3, t0_4, t0_5, t0_6, t0_7, t0_8, t0_9, t0_10, t1_0, hT0, hT1, (show t0_0.toInt ≤ t0_0.toInt from (by have z13 : (0 : Int32).toInt = 0 := rfl; omega)), (show t0_0.toInt ≤ t0_0.toInt from (by have z13 : (0 : Int32).toInt = 0 := rfl; omega)), (show t0_2.toInt ≤ t0_2.toInt from (by have z13 : (0 : Int32).toInt = 0 := rfl; omega)), (show t0_2.toInt ≤ t0_2.toInt from (by have z13 : (0 : Int32).toInt = 0 := rfl; omega)), (show t0_3.toInt ≤ t0_3.toInt from (by have z13 : (0 : Int32).toInt = 0 := rfl; omega)), (show t0_3.toInt ≤ t0_3.toInt from (by have z13 : (0 : Int32).toInt = 0 := rfl; omega)), (show t0_4.toInt ≤ t0_4.toInt from (by have z13 : (0 : Int32).toInt = 0 := rfl; omega)), (show t0_4.toInt ≤ t0_4.toInt from (by have z13 : (0 : Int32).toInt = 0 := rfl; omega)), (show t0_5.toInt ≤ t0_5.toInt from (by have z13 : (0 : Int32).toInt = 0 := rfl; omega)), (show t0_5.toInt ≤ t0_5.toInt from (by have z13 : (0 : Int32).toInt = 0 := rfl; omega)), (show t0_6.toInt ≤ t0_6.toInt from (by have z13 : (0 : Int32).toInt = 0 := rfl; omega)), (show t0_6.toInt ≤ t0_6.toInt from (by have z13 : (0 : Int32).toInt = 0 := rfl; omega)), (show t0_7.toInt ≤ t0_7.toInt from (by have z13 : (0 : Int32).toInt = 0 := rfl; omega)), (show t0_7.toInt ≤ t0_7.toInt from (by have z13 : (0 : Int32).toInt = 0 := rfl; omega)), (show t0_8.toInt ≤ t0_8.toInt from (by have z13 : (0 : Int32).toInt = 0 := rfl; omega)), (show t0_8.toInt ≤ t0_8.toInt from (by have z13 : (0 : Int32).toInt = 0 := rfl; omega)), (show t0_9.toInt ≤ t0_9.toInt from (by have z13 : (0 : Int32).toInt = 0 := rfl; omega)), (show t0_9.toInt ≤ t0_9.toInt from (by have z13 : (0 : Int32).toInt = 0 := rfl; omega)), (show t0_10.toInt ≤ t0_10.toInt from (by have z13 : (0 : Int32).toInt = 0 := rfl; omega)), (show t0_10.toInt ≤ t0_10.toInt from (by have z13 : (0 : Int32).toInt = 0 := rfl; omega)), (show t0_2.toInt ≤ (0 : Int32).toInt from (by have z13 : (0 : Int32).toInt = 0 := rfl; have t1 : t0_2.toInt = 0 := b20; omega)), (show (0 : Int32).toInt ≤ t0_2.toInt from (by have z13 : (0 : Int32).toInt = 0 := rfl; have t1 : 0 ≤ t0_2.toInt ∧ t0_2.toInt ≤ 1 := btt0_2; omega)), (show (t0_0, (0 : Int32), t0_2, t0_3, t0_4, t0_5, t0_6, t0_7, t0_8, t0_9, t0_10, t1_0) = (F_FR_begin t0_0 t0_1 t0_2 t0_3 t0_4 t0_5 t0_6 t0_7 t0_8 t0_9 t0_10 t1_0) from (by rw [F_FR_begin.eq_1, if_pos c19]))⟩) d_17_17_18
  ·
    have b21 : q_F (t0_2.toInt ≠ 0) := (q_neI c19)
    refine lv_aload_n hx hb d_17_17_12 rfl (lv_at hl 0 rfl) ?_
    refine lv_bipush (v := 45) hx hb d_17_17_13 (by decide) ?_
    have ob22 : True ∧ S_FR_add (45 : Int32) t0_0 (0 : Int32) t0_2 t0_3 t0_4 t0_5 t0_6 t0_7 t0_8 t0_9 t0_10 t1_0 := (by have h := hS; rw [S_FR_begin.eq_1] at h; rw [if_neg c19] at h; with_reducible exact h.2.1)
    refine q_gov V (q_runV (As := [.int 45]) (rest := []) (d := 1) (mc := 0) (ms := 0) (ci := 15) C0 V rfl LV_FR_110 (X_FR_add l D g q w17  45 hI t0_0 0 t0_2 t0_3 t0_4 t0_5 t0_6 t0_7 t0_8 t0_9 t0_10 hT0 t1_0 hT1 ob22 _) rfl rfl hT0 rfl hl.1 rfl (Nat.le_of_ble_eq_true rfl) ⟨by decide, by decide⟩ ⟨Nat.le_of_ble_eq_true rfl, Nat.le_of_ble_eq_true rfl⟩ d_17_17_15) (fun u23 H locs hp24 V => ?_)
    obtain ⟨hI, hu64, y26, y27, y28, y29, y30, y31, y32, y33, y34, y35, y36, f37, hO25, hA38, b39, b40, b41, b42, b43, b44, b45, b46, b47, b48, b49, b50, b51, b52, b53, b54, b55, b56, b57, b58, b59, b60, b61, b62, hE63⟩ := hp24
    replace hO25 : u23[145]? = (some (q 145, .inr (15, [.int y26, .ref (q 146), .ref (q 147), .ref (q 148), .ref (q 149), .ref (q 150), .ref (q 151), .ref (q 152), .int y27, .int y28, .int y29, .long y30, .int y31, .int y32, .long y33, .int y34, .long y35, .int y36])) : Option (Nat × va_E)) := hO25
    replace hA38 : u23[152]? = (some (q 152, .inl (g 0, (1600 : Int32).toNatClampNeg, .inl f37)) : Option (Nat × va_E)) := hA38
    obtain ⟨p65, e66⟩ : ∃ z, z = (F_FR_add (45 : Int32) t0_0 (0 : Int32) t0_2 t0_3 t0_4 t0_5 t0_6 t0_7 t0_8 t0_9 t0_10 t1_0) := ⟨_, rfl⟩
    have e67 : y26 = p65.1 := congrArg (fun z => z.1) (hE63.trans e66.symm)
    have e68 : y27 = p65.2.1 := congrArg (fun z => z.2.1) (hE63.trans e66.symm)
    have e69 : y28 = p65.2.2.1 := congrArg (fun z => z.2.2.1) (hE63.trans e66.symm)
    have e70 : y29 = p65.2.2.2.1 := congrArg (fun z => z.2.2.2.1) (hE63.trans e66.symm)
    have e71 : y30 = p65.2.2.2.2.1 := congrArg (fun z => z.2.2.2.2.1) (hE63.trans e66.symm)
    have e72 : y31 = p65.2.2.2.2.2.1 := congrArg (fun z => z.2.2.2.2.2.1) (hE63.trans e66.symm)
    have e73 : y32 = p65.2.2.2.2.2.2.1 := congrArg (fun z => z.2.2.2.2.2.2.1) (hE63.trans e66.symm)
    have e74 : y33 = p65.2.2.2.2.2.2.2.1 := congrArg (fun z => z.2.2.2.2.2.2.2.1) (hE63.trans e66.symm)
    have e75 : y34 = p65.2.2.2.2.2.2.2.2.1 := congrArg (fun z => z.2.2.2.2.2.2.2.2.1) (hE63.trans e66.symm)
    have e76 : y35 = p65.2.2.2.2.2.2.2.2.2.1 := congrArg (fun z => z.2.2.2.2.2.2.2.2.2.1) (hE63.trans e66.symm)
    have e77 : y36 = p65.2.2.2.2.2.2.2.2.2.2.1 := congrArg (fun z => z.2.2.2.2.2.2.2.2.2.2.1) (hE63.trans e66.symm)
    have e78 : f37 = p65.2.2.2.2.2.2.2.2.2.2.2 := congrArg (fun z => z.2.2.2.2.2.2.2.2.2.2.2) (hE63.trans e66.symm)
    replace b39 : q_F (1 ≤ y27.toInt) := b39
    replace b40 : q_F (y27.toInt ≤ 1600) := b40
    replace b41 : q_F (t0_0.toInt ≤ y26.toInt) := b41
    replace b42 : q_F (y26.toInt ≤ t0_0.toInt) := b42
    replace b43 : q_F (0 + 1 ≤ y27.toInt) := b43
    replace b44 : q_F (y27.toInt ≤ 0 + 1) := b44
    replace b45 : q_F (t0_2.toInt ≤ y28.toInt) := b45
    replace b46 : q_F (y28.toInt ≤ t0_2.toInt) := b46
    replace b47 : q_F (t0_3.toInt ≤ y29.toInt) := b47
    replace b48 : q_F (y29.toInt ≤ t0_3.toInt) := b48
    replace b49 : q_F (t0_4.toInt ≤ y30.toInt) := b49
    replace b50 : q_F (y30.toInt ≤ t0_4.toInt) := b50
    replace b51 : q_F (t0_5.toInt ≤ y31.toInt) := b51
    replace b52 : q_F (y31.toInt ≤ t0_5.toInt) := b52
    replace b53 : q_F (t0_6.toInt ≤ y32.toInt) := b53
    replace b54 : q_F (y32.toInt ≤ t0_6.toInt) := b54
    replace b55 : q_F (t0_7.toInt ≤ y33.toInt) := b55
    replace b56 : q_F (y33.toInt ≤ t0_7.toInt) := b56
    replace b57 : q_F (t0_8.toInt ≤ y34.toInt) := b57
    replace b58 : q_F (y34.toInt ≤ t0_8.toInt) := b58
    replace b59 : q_F (t0_9.toInt ≤ y35.toInt) := b59
    replace b60 : q_F (y35.toInt ≤ t0_9.toInt) := b60
    replace b61 : q_F (t0_10.toInt ≤ y36.toInt) := b61
    replace b62 : q_F (y36.toInt ≤ t0_10.toInt) := b62
    replace hF := q_uc hF hu64 (by simp)
    have hR79 := (show F_FR_begin_c15 t0_0 t0_1 t0_2 t0_3 t0_4 t0_5 t0_6 t0_7 t0_8 t0_9 t0_10 t1_0 p65 = (F_FR_begin t0_0 t0_1 t0_2 t0_3 t0_4 t0_5 t0_6 t0_7 t0_8 t0_9 t0_10 t1_0) from (by rw [e66, F_FR_begin.eq_1, if_neg c19]))
    have hS80 := (show True ∧ S_FR_begin_c15 t0_0 t0_1 t0_2 t0_3 t0_4 t0_5 t0_6 t0_7 t0_8 t0_9 t0_10 t1_0 p65 from (by rw [e66]; have h := hS; rw [S_FR_begin.eq_1] at h; rw [if_neg c19] at h; replace h := q_s2 h; with_reducible exact h))
    exact q_retv C0 V (⟨hI, hF, y26, y27, y28, y29, y30, y31, y32, y33, y34, y35, y36, f37, hO25, hA38, (show t0_0.toInt ≤ y26.toInt from (by have t1 : t0_0.toInt ≤ y26.toInt := b41; omega)), (show y26.toInt ≤ t0_0.toInt from (by have t1 : y26.toInt ≤ t0_0.toInt := b42; omega)), (show t0_2.toInt ≤ y28.toInt from (by have t1 : t0_2.toInt ≤ y28.toInt := b45; omega)), (show y28.toInt ≤ t0_2.toInt from (by have t1 : y28.toInt ≤ t0_2.toInt := b46; omega)), (show t0_3.toInt ≤ y29.toInt from (by have t1 : t0_3.toInt ≤ y29.toInt := b47; omega)), (show y29.toInt ≤ t0_3.toInt from (by have t1 : y29.toInt ≤ t0_3.toInt := b48; omega)), (show t0_4.toInt ≤ y30.toInt from (by have t1 : t0_4.toInt ≤ y30.toInt := b49; omega)), (show y30.toInt ≤ t0_4.toInt from (by have t1 : y30.toInt ≤ t0_4.toInt := b50; omega)), (show t0_5.toInt ≤ y31.toInt from (by have t1 : t0_5.toInt ≤ y31.toInt := b51; omega)), (show y31.toInt ≤ t0_5.toInt from (by have t1 : y31.toInt ≤ t0_5.toInt := b52; omega)), (show t0_6.toInt ≤ y32.toInt from (by have t1 : t0_6.toInt ≤ y32.toInt := b53; omega)), (show y32.toInt ≤ t0_6.toInt from (by have t1 : y32.toInt ≤ t0_6.toInt := b54; omega)), (show t0_7.toInt ≤ y33.toInt from (by have t1 : t0_7.toInt ≤ y33.toInt := b55; omega)), (show y33.toInt ≤ t0_7.toInt from (by have t1 : y33.toInt ≤ t0_7.toInt := b56; omega)), (show t0_8.toInt ≤ y34.toInt from (by have t1 : t0_8.toInt ≤ y34.toInt := b57; omega)), (show y34.toInt ≤ t0_8.toInt from (by have t1 : y34.toInt ≤ t0_8.toInt := b58; omega)), (show t0_9.toInt ≤ y35.toInt from (by have t1 : t0_9.toInt ≤ y35.toInt := b59; omega)), (show y35.toInt ≤ t0_9.toInt from (by have t1 : y35.toInt ≤ t0_9.toInt := b60; omega)), (show t0_10.toInt ≤ y36.toInt from (by have t1 : t0_10.toInt ≤ y36.toInt := b61; omega)), (show y36.toInt ≤ t0_10.toInt from (by have t1 : y36.toInt ≤ t0_10.toInt := b62; omega)), (show y28.toInt ≤ y27.toInt from (by have t1 : 0 ≤ t0_2.toInt ∧ t0_2.toInt ≤ 1 := btt0_2; have t2 : 1 ≤ y27.toInt := b39; have t3 : y28.toInt ≤ t0_2.toInt := b46; omega)), (show y27.toInt ≤ y28.toInt from (by have t1 : 0 ≤ t0_2.toInt ∧ t0_2.toInt ≤ 1 := btt0_2; have t2 : t0_2.toInt ≠ 0 := b21; have t3 : y27.toInt ≤ 0 + 1 := b44; have t4 : t0_2.toInt ≤ y28.toInt := b45; omega)), (show (y26, y27, y28, y29, y30, y31, y32, y33, y34, y35, y36, f37) = (F_FR_begin t0_0 t0_1 t0_2 t0_3 t0_4 t0_5 t0_6 t0_7 t0_8 t0_9 t0_10 t1_0) from Eq.trans (by rw [e78, e77, e76, e75, e74, e73, e72, e71, e70, e69, e68, e67, F_FR_begin_c15.eq_1]) hR79)⟩) d_17_17_18
