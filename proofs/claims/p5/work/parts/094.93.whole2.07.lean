theorem d_19_29_0 : decode prog_19_method_29_code 0 = .ok (.aload_n 0, 1) := by decide +kernel
theorem d_19_29_1 : decode prog_19_method_29_code 1 = .ok (.iload_n 1, 1) := by decide +kernel
theorem d_19_29_2 : decode prog_19_method_29_code 2 = .ok (.invokestatic 91, 3) := by decide +kernel
theorem d_19_29_24 : decode prog_19_method_29_code 24 = .ok (.putfield 53, 3) := by decide +kernel
theorem d_19_29_27 : decode prog_19_method_29_code 27 = .ok (.aload_n 0, 1) := by decide +kernel
theorem d_19_29_28 : decode prog_19_method_29_code 28 = .ok (.getfield 53, 3) := by decide +kernel
theorem d_19_29_31 : decode prog_19_method_29_code 31 = .ok (.ifCond .le 4, 3) := by decide +kernel
theorem d_19_29_35 : decode prog_19_method_29_code 35 = .ok (.aload_n 0, 1) := by decide +kernel
theorem d_19_29_36 : decode prog_19_method_29_code 36 = .ok (.iconst 2, 1) := by decide +kernel
theorem d_19_29_37 : decode prog_19_method_29_code 37 = .ok (.putfield 79, 3) := by decide +kernel
theorem d_19_29_40 : decode prog_19_method_29_code 40 = .ok (.aload_n 0, 1) := by decide +kernel
theorem d_19_29_41 : decode prog_19_method_29_code 41 = .ok (.iload_n 1, 1) := by decide +kernel
theorem d_19_29_42 : decode prog_19_method_29_code 42 = .ok (.aload_n 0, 1) := by decide +kernel
theorem d_19_29_43 : decode prog_19_method_29_code 43 = .ok (.getfield 35, 3) := by decide +kernel
theorem d_19_29_46 : decode prog_19_method_29_code 46 = .ok (.invokevirtual 107, 3) := by decide +kernel
theorem d_19_29_49 : decode prog_19_method_29_code 49 = .ok (.aload_n 0, 1) := by decide +kernel
theorem d_19_29_50 : decode prog_19_method_29_code 50 = .ok (.aload_n 0, 1) := by decide +kernel
theorem d_19_29_51 : decode prog_19_method_29_code 51 = .ok (.getfield 20, 3) := by decide +kernel
theorem d_19_29_54 : decode prog_19_method_29_code 54 = .ok (.invokevirtual 131, 3) := by decide +kernel
theorem d_19_29_57 : decode prog_19_method_29_code 57 = .ok (.aload_n 0, 1) := by decide +kernel
theorem d_19_29_58 : decode prog_19_method_29_code 58 = .ok (.getfield 35, 3) := by decide +kernel
theorem d_19_29_61 : decode prog_19_method_29_code 61 = .ok (.invokestatic 59, 3) := by decide +kernel
theorem d_19_29_93 : decode prog_19_method_29_code 93 = .ok (.istore 4, 2) := by decide +kernel
theorem d_19_29_95 : decode prog_19_method_29_code 95 = .ok (.iload 4, 2) := by decide +kernel
theorem d_19_29_114 : decode prog_19_method_29_code 114 = .ok (.istore 5, 2) := by decide +kernel
theorem d_19_29_116 : decode prog_19_method_29_code 116 = .ok (.iconst 0, 1) := by decide +kernel
theorem d_19_29_117 : decode prog_19_method_29_code 117 = .ok (.istore 6, 2) := by decide +kernel
theorem d_19_29_119 : decode prog_19_method_29_code 119 = .ok (.iload 6, 2) := by decide +kernel
theorem d_19_29_121 : decode prog_19_method_29_code 121 = .ok (.iload 5, 2) := by decide +kernel
theorem d_19_29_123 : decode prog_19_method_29_code 123 = .ok (.if_icmp .ge 44, 3) := by decide +kernel
theorem d_19_29_167 : decode prog_19_method_29_code 167 = .ok (.aload_n 0, 1) := by decide +kernel
theorem d_19_29_168 : decode prog_19_method_29_code 168 = .ok (.aload_n 0, 1) := by decide +kernel
theorem d_19_29_169 : decode prog_19_method_29_code 169 = .ok (.getfield 16, 3) := by decide +kernel
theorem d_19_29_172 : decode prog_19_method_29_code 172 = .ok (.iload_n 1, 1) := by decide +kernel
theorem d_19_29_173 : decode prog_19_method_29_code 173 = .ok (.baload, 1) := by decide +kernel
theorem d_19_29_174 : decode prog_19_method_29_code 174 = .ok (.ifCond .eq 14, 3) := by decide +kernel
theorem d_19_29_188 : decode prog_19_method_29_code 188 = .ok (.iconst 0, 1) := by decide +kernel
theorem d_19_29_189 : decode prog_19_method_29_code 189 = .ok (.putfield 82, 3) := by decide +kernel
theorem d_19_29_192 : decode prog_19_method_29_code 192 = .ok (.aload_n 0, 1) := by decide +kernel
theorem d_19_29_193 : decode prog_19_method_29_code 193 = .ok (.iload_n 3, 1) := by decide +kernel
theorem d_19_29_194 : decode prog_19_method_29_code 194 = .ok (.invokevirtual 103, 3) := by decide +kernel
theorem d_19_29_197 : decode prog_19_method_29_code 197 = .ok (.return_, 1) := by decide +kernel
theorem d_19_29_177 : decode prog_19_method_29_code 177 = .ok (.iload_n 2, 1) := by decide +kernel
theorem d_19_29_178 : decode prog_19_method_29_code 178 = .ok (.iconst 2, 1) := by decide +kernel
theorem d_19_29_179 : decode prog_19_method_29_code 179 = .ok (.irem, 1) := by decide +kernel
theorem d_19_29_180 : decode prog_19_method_29_code 180 = .ok (.iconst 1, 1) := by decide +kernel
theorem d_19_29_181 : decode prog_19_method_29_code 181 = .ok (.if_icmp .ne 7, 3) := by decide +kernel
theorem d_19_29_184 : decode prog_19_method_29_code 184 = .ok (.iconst 1, 1) := by decide +kernel
theorem d_19_29_185 : decode prog_19_method_29_code 185 = .ok (.goto 4, 3) := by decide +kernel
theorem d_19_29_126 : decode prog_19_method_29_code 126 = .ok (.aload_n 0, 1) := by decide +kernel
theorem d_19_29_127 : decode prog_19_method_29_code 127 = .ok (.aload_n 0, 1) := by decide +kernel
theorem d_19_29_128 : decode prog_19_method_29_code 128 = .ok (.getfield 20, 3) := by decide +kernel
theorem d_19_29_131 : decode prog_19_method_29_code 131 = .ok (.aload_n 0, 1) := by decide +kernel
theorem d_19_29_132 : decode prog_19_method_29_code 132 = .ok (.getfield 35, 3) := by decide +kernel
theorem d_19_29_135 : decode prog_19_method_29_code 135 = .ok (.aload_n 0, 1) := by decide +kernel
theorem d_19_29_136 : decode prog_19_method_29_code 136 = .ok (.getfield 20, 3) := by decide +kernel
theorem d_19_29_139 : decode prog_19_method_29_code 139 = .ok (.invokevirtual 115, 3) := by decide +kernel
theorem d_19_29_142 : decode prog_19_method_29_code 142 = .ok (.aload_n 0, 1) := by decide +kernel
theorem d_19_29_143 : decode prog_19_method_29_code 143 = .ok (.getfield 20, 3) := by decide +kernel
theorem d_19_29_146 : decode prog_19_method_29_code 146 = .ok (.invokestatic 59, 3) := by decide +kernel
theorem d_19_29_149 : decode prog_19_method_29_code 149 = .ok (.sipush 128, 3) := by decide +kernel
theorem d_19_29_152 : decode prog_19_method_29_code 152 = .ok (.if_icmp .le 9, 3) := by decide +kernel
theorem d_19_29_161 : decode prog_19_method_29_code 161 = .ok (.iinc 6 1, 3) := by decide +kernel
theorem d_19_29_164 : decode prog_19_method_29_code 164 = .ok (.goto (-45), 3) := by decide +kernel
theorem d_19_29_155 : decode prog_19_method_29_code 155 = .ok (.aload_n 0, 1) := by decide +kernel
theorem d_19_29_156 : decode prog_19_method_29_code 156 = .ok (.iconst 2, 1) := by decide +kernel
theorem d_19_29_157 : decode prog_19_method_29_code 157 = .ok (.putfield 53, 3) := by decide +kernel
theorem d_19_29_160 : decode prog_19_method_29_code 160 = .ok (.return_, 1) := by decide +kernel
theorem d_19_29_113 : decode prog_19_method_29_code 113 = .ok (.iload_n 2, 1) := by decide +kernel
theorem d_19_29_97 : decode prog_19_method_29_code 97 = .ok (.ifCond .eq 16, 3) := by decide +kernel
theorem d_19_29_100 : decode prog_19_method_29_code 100 = .ok (.iload_n 2, 1) := by decide +kernel
theorem d_19_29_101 : decode prog_19_method_29_code 101 = .ok (.iconst 2, 1) := by decide +kernel
theorem d_19_29_102 : decode prog_19_method_29_code 102 = .ok (.if_icmp .le 11, 3) := by decide +kernel
theorem d_19_29_105 : decode prog_19_method_29_code 105 = .ok (.iconst 2, 1) := by decide +kernel
theorem d_19_29_106 : decode prog_19_method_29_code 106 = .ok (.iload_n 2, 1) := by decide +kernel
theorem d_19_29_107 : decode prog_19_method_29_code 107 = .ok (.iconst 2, 1) := by decide +kernel
theorem d_19_29_108 : decode prog_19_method_29_code 108 = .ok (.irem, 1) := by decide +kernel
theorem d_19_29_109 : decode prog_19_method_29_code 109 = .ok (.isub, 1) := by decide +kernel
theorem d_19_29_110 : decode prog_19_method_29_code 110 = .ok (.goto 4, 3) := by decide +kernel
theorem d_19_29_88 : decode prog_19_method_29_code 88 = .ok (.iconst 1, 1) := by decide +kernel
theorem d_19_29_89 : decode prog_19_method_29_code 89 = .ok (.goto 4, 3) := by decide +kernel
theorem d_19_29_64 : decode prog_19_method_29_code 64 = .ok (.ifCond .eq 24, 3) := by decide +kernel
theorem d_19_29_67 : decode prog_19_method_29_code 67 = .ok (.aload_n 0, 1) := by decide +kernel
theorem d_19_29_68 : decode prog_19_method_29_code 68 = .ok (.getfield 35, 3) := by decide +kernel
theorem d_19_29_71 : decode prog_19_method_29_code 71 = .ok (.invokestatic 59, 3) := by decide +kernel
theorem d_19_29_74 : decode prog_19_method_29_code 74 = .ok (.iconst 1, 1) := by decide +kernel
theorem d_19_29_92 : decode prog_19_method_29_code 92 = .ok (.iconst 0, 1) := by decide +kernel
theorem d_19_29_75 : decode prog_19_method_29_code 75 = .ok (.if_icmp .ne 17, 3) := by decide +kernel
theorem d_19_29_78 : decode prog_19_method_29_code 78 = .ok (.aload_n 0, 1) := by decide +kernel
theorem d_19_29_79 : decode prog_19_method_29_code 79 = .ok (.getfield 35, 3) := by decide +kernel
theorem d_19_29_82 : decode prog_19_method_29_code 82 = .ok (.iconst 0, 1) := by decide +kernel
theorem d_19_29_83 : decode prog_19_method_29_code 83 = .ok (.iaload, 1) := by decide +kernel
theorem d_19_29_84 : decode prog_19_method_29_code 84 = .ok (.iconst 1, 1) := by decide +kernel
theorem d_19_29_85 : decode prog_19_method_29_code 85 = .ok (.if_icmp .ne 7, 3) := by decide +kernel
theorem d_19_29_34 : decode prog_19_method_29_code 34 = .ok (.return_, 1) := by decide +kernel
theorem d_19_29_19 : decode prog_19_method_29_code 19 = .ok (.iconst 1, 1) := by decide +kernel
theorem d_19_29_20 : decode prog_19_method_29_code 20 = .ok (.goto 4, 3) := by decide +kernel
theorem d_19_29_5 : decode prog_19_method_29_code 5 = .ok (.ifCond .ne 14, 3) := by decide +kernel
theorem d_19_29_8 : decode prog_19_method_29_code 8 = .ok (.iload_n 3, 1) := by decide +kernel
theorem d_19_29_9 : decode prog_19_method_29_code 9 = .ok (.invokestatic 91, 3) := by decide +kernel
theorem d_19_29_12 : decode prog_19_method_29_code 12 = .ok (.ifCond .ne 7, 3) := by decide +kernel
theorem d_19_29_15 : decode prog_19_method_29_code 15 = .ok (.iload_n 2, 1) := by decide +kernel
theorem d_19_29_16 : decode prog_19_method_29_code 16 = .ok (.ifCond .ge 7, 3) := by decide +kernel
theorem d_19_29_23 : decode prog_19_method_29_code 23 = .ok (.iconst 0, 1) := by decide +kernel
def y_WR_power : MethodName := ⟨"NumberHouseModel$WholeRows", "power", "(III)V"⟩
def F_WR_power_c194 (K_F_WR_power_L119 : Int32 → (Nat → Int32) → (Nat → Int32) → (Int32 × Int32 × Int32 × Int32 × Int32 × Int32 × Int32 × (Nat → Int32) × (Nat → Int32) × (Nat → Int32) × (Nat → Int32) × (Nat → Int32))) (x2 : Int32) (x3 : Int32) (x4 : Int32) (t0_0 : Int32) (t0_1 : Int32) (t0_2 : Int32) (t0_3 : Int32) (t0_4 : Int32) (t0_5 : Int32) (t0_6 : Int32) (t1_0 : (Nat → Int32)) (t2_0 : (Nat → Int32)) (t3_0 : (Nat → Int32)) (t4_0 : (Nat → Int32)) (t5_0 : (Nat → Int32)) (lx36 : Int32) (f68 : (Nat → Int32)) (f60 : (Nat → Int32)) (lx80 : Int32) (lx95 : Int32) (lx110 : Int32) (lx111 : (Nat → Int32)) (lx112 : (Nat → Int32)) (p166 : (Int32 × Int32 × Int32 × Int32 × Int32 × Int32 × Int32 × (Nat → Int32) × (Nat → Int32))) : Int32 × Int32 × Int32 × Int32 × Int32 × Int32 × Int32 × (Nat → Int32) × (Nat → Int32) × (Nat → Int32) × (Nat → Int32) × (Nat → Int32) := ((p166.1 : Int32), (p166.2.1 : Int32), (p166.2.2.1 : Int32), (p166.2.2.2.1 : Int32), (p166.2.2.2.2.1 : Int32), (p166.2.2.2.2.2.1 : Int32), (p166.2.2.2.2.2.2.1 : Int32), (p166.2.2.2.2.2.2.2.1 : (Nat → Int32)), (p166.2.2.2.2.2.2.2.2 : (Nat → Int32)), lx111, lx112, f60)
def F_WR_power_c194_6 (K_F_WR_power_L119 : Int32 → (Nat → Int32) → (Nat → Int32) → (Int32 × Int32 × Int32 × Int32 × Int32 × Int32 × Int32 × (Nat → Int32) × (Nat → Int32) × (Nat → Int32) × (Nat → Int32) × (Nat → Int32))) (x2 : Int32) (x3 : Int32) (x4 : Int32) (t0_0 : Int32) (t0_1 : Int32) (t0_2 : Int32) (t0_3 : Int32) (t0_4 : Int32) (t0_5 : Int32) (t0_6 : Int32) (t1_0 : (Nat → Int32)) (t2_0 : (Nat → Int32)) (t3_0 : (Nat → Int32)) (t4_0 : (Nat → Int32)) (t5_0 : (Nat → Int32)) (lx36 : Int32) (f68 : (Nat → Int32)) (f60 : (Nat → Int32)) (lx80 : Int32) (lx95 : Int32) (lx110 : Int32) (lx111 : (Nat → Int32)) (lx112 : (Nat → Int32)) (p218 : (Int32 × Int32 × Int32 × Int32 × Int32 × Int32 × Int32 × (Nat → Int32) × (Nat → Int32))) : Int32 × Int32 × Int32 × Int32 × Int32 × Int32 × Int32 × (Nat → Int32) × (Nat → Int32) × (Nat → Int32) × (Nat → Int32) × (Nat → Int32) := ((p218.1 : Int32), (p218.2.1 : Int32), (p218.2.2.1 : Int32), (p218.2.2.2.1 : Int32), (p218.2.2.2.2.1 : Int32), (p218.2.2.2.2.2.1 : Int32), (p218.2.2.2.2.2.2.1 : Int32), (p218.2.2.2.2.2.2.2.1 : (Nat → Int32)), (p218.2.2.2.2.2.2.2.2 : (Nat → Int32)), lx111, lx112, f60)
def F_WR_power_c194_7 (K_F_WR_power_L119 : Int32 → (Nat → Int32) → (Nat → Int32) → (Int32 × Int32 × Int32 × Int32 × Int32 × Int32 × Int32 × (Nat → Int32) × (Nat → Int32) × (Nat → Int32) × (Nat → Int32) × (Nat → Int32))) (x2 : Int32) (x3 : Int32) (x4 : Int32) (t0_0 : Int32) (t0_1 : Int32) (t0_2 : Int32) (t0_3 : Int32) (t0_4 : Int32) (t0_5 : Int32) (t0_6 : Int32) (t1_0 : (Nat → Int32)) (t2_0 : (Nat → Int32)) (t3_0 : (Nat → Int32)) (t4_0 : (Nat → Int32)) (t5_0 : (Nat → Int32)) (lx36 : Int32) (f68 : (Nat → Int32)) (f60 : (Nat → Int32)) (lx80 : Int32) (lx95 : Int32) (lx110 : Int32) (lx111 : (Nat → Int32)) (lx112 : (Nat → Int32)) (p266 : (Int32 × Int32 × Int32 × Int32 × Int32 × Int32 × Int32 × (Nat → Int32) × (Nat → Int32))) : Int32 × Int32 × Int32 × Int32 × Int32 × Int32 × Int32 × (Nat → Int32) × (Nat → Int32) × (Nat → Int32) × (Nat → Int32) × (Nat → Int32) := ((p266.1 : Int32), (p266.2.1 : Int32), (p266.2.2.1 : Int32), (p266.2.2.2.1 : Int32), (p266.2.2.2.2.1 : Int32), (p266.2.2.2.2.2.1 : Int32), (p266.2.2.2.2.2.2.1 : Int32), (p266.2.2.2.2.2.2.2.1 : (Nat → Int32)), (p266.2.2.2.2.2.2.2.2 : (Nat → Int32)), lx111, lx112, f60)
def F_WR_power_c139 (K_F_WR_power_L119 : Int32 → (Nat → Int32) → (Nat → Int32) → (Int32 × Int32 × Int32 × Int32 × Int32 × Int32 × Int32 × (Nat → Int32) × (Nat → Int32) × (Nat → Int32) × (Nat → Int32) × (Nat → Int32))) (x2 : Int32) (x3 : Int32) (x4 : Int32) (t0_0 : Int32) (t0_1 : Int32) (t0_2 : Int32) (t0_3 : Int32) (t0_4 : Int32) (t0_5 : Int32) (t0_6 : Int32) (t1_0 : (Nat → Int32)) (t2_0 : (Nat → Int32)) (t3_0 : (Nat → Int32)) (t4_0 : (Nat → Int32)) (t5_0 : (Nat → Int32)) (lx36 : Int32) (f68 : (Nat → Int32)) (f60 : (Nat → Int32)) (lx80 : Int32) (lx95 : Int32) (lx110 : Int32) (lx111 : (Nat → Int32)) (lx112 : (Nat → Int32)) (p292 : ((Nat → Int32) × (Nat → Int32))) : Int32 × Int32 × Int32 × Int32 × Int32 × Int32 × Int32 × (Nat → Int32) × (Nat → Int32) × (Nat → Int32) × (Nat → Int32) × (Nat → Int32) := if ((F_WR_size (264 : Int32) (p292.2 : (Nat → Int32))) : Int32) ≤ (128 : Int32) then (K_F_WR_power_L119 (lx110 + 1 : Int32) (p292.2 : (Nat → Int32)) (p292.1 : (Nat → Int32))) else (((2 : Int32), (2 : Int32), t0_2, t0_3, t0_4, t0_5, t0_6, t1_0, t2_0, (p292.2 : (Nat → Int32)), (p292.1 : (Nat → Int32)), f60))
def F_WR_power_L119 (x2 : Int32) (x3 : Int32) (x4 : Int32) (t0_0 : Int32) (t0_1 : Int32) (t0_2 : Int32) (t0_3 : Int32) (t0_4 : Int32) (t0_5 : Int32) (t0_6 : Int32) (t1_0 : (Nat → Int32)) (t2_0 : (Nat → Int32)) (t3_0 : (Nat → Int32)) (t4_0 : (Nat → Int32)) (t5_0 : (Nat → Int32)) (lx36 : Int32) (f68 : (Nat → Int32)) (f60 : (Nat → Int32)) (lx80 : Int32) (lx95 : Int32) : Nat → Int32 → (Nat → Int32) → (Nat → Int32) → (Int32 × Int32 × Int32 × Int32 × Int32 × Int32 × Int32 × (Nat → Int32) × (Nat → Int32) × (Nat → Int32) × (Nat → Int32) × (Nat → Int32))
  | 0, _, _, _ => default
  | fm + 1, lx110, lx111, lx112 => if lx95 ≤ lx110 then (if (t2_0 x2.toNatClampNeg : Int32) = (0 : Int32) then (F_WR_power_c194 (F_WR_power_L119 x2 x3 x4 t0_0 t0_1 t0_2 t0_3 t0_4 t0_5 t0_6 t1_0 t2_0 t3_0 t4_0 t5_0 lx36 f68 f60 lx80 lx95 fm) x2 x3 x4 t0_0 t0_1 t0_2 t0_3 t0_4 t0_5 t0_6 t1_0 t2_0 t3_0 t4_0 t5_0 lx36 f68 f60 lx80 lx95 lx110 lx111 lx112 ((F_WR_store x4 lx36 (2 : Int32) t0_2 (0 : Int32) t0_4 t0_5 t0_6 t1_0 t2_0 lx111) : (Int32 × Int32 × Int32 × Int32 × Int32 × Int32 × Int32 × (Nat → Int32) × (Nat → Int32)))) else (if (x3 - x3 / 2 * 2 : Int32) = (1 : Int32) then (F_WR_power_c194_7 (F_WR_power_L119 x2 x3 x4 t0_0 t0_1 t0_2 t0_3 t0_4 t0_5 t0_6 t1_0 t2_0 t3_0 t4_0 t5_0 lx36 f68 f60 lx80 lx95 fm) x2 x3 x4 t0_0 t0_1 t0_2 t0_3 t0_4 t0_5 t0_6 t1_0 t2_0 t3_0 t4_0 t5_0 lx36 f68 f60 lx80 lx95 lx110 lx111 lx112 ((F_WR_store x4 lx36 (2 : Int32) t0_2 (1 : Int32) t0_4 t0_5 t0_6 t1_0 t2_0 lx111) : (Int32 × Int32 × Int32 × Int32 × Int32 × Int32 × Int32 × (Nat → Int32) × (Nat → Int32)))) else (F_WR_power_c194_6 (F_WR_power_L119 x2 x3 x4 t0_0 t0_1 t0_2 t0_3 t0_4 t0_5 t0_6 t1_0 t2_0 t3_0 t4_0 t5_0 lx36 f68 f60 lx80 lx95 fm) x2 x3 x4 t0_0 t0_1 t0_2 t0_3 t0_4 t0_5 t0_6 t1_0 t2_0 t3_0 t4_0 t5_0 lx36 f68 f60 lx80 lx95 lx110 lx111 lx112 ((F_WR_store x4 lx36 (2 : Int32) t0_2 (0 : Int32) t0_4 t0_5 t0_6 t1_0 t2_0 lx111) : (Int32 × Int32 × Int32 × Int32 × Int32 × Int32 × Int32 × (Nat → Int32) × (Nat → Int32)))))) else (F_WR_power_c139 (F_WR_power_L119 x2 x3 x4 t0_0 t0_1 t0_2 t0_3 t0_4 t0_5 t0_6 t1_0 t2_0 t3_0 t4_0 t5_0 lx36 f68 f60 lx80 lx95 fm) x2 x3 x4 t0_0 t0_1 t0_2 t0_3 t0_4 t0_5 t0_6 t1_0 t2_0 t3_0 t4_0 t5_0 lx36 f68 f60 lx80 lx95 lx110 lx111 lx112 ((F_WR_multiplyRows_a (264 : Int32) (264 : Int32) lx36 (2 : Int32) t0_2 t0_3 t0_4 t0_5 t0_6 lx112 lx111 f60) : ((Nat → Int32) × (Nat → Int32))))
def F_WR_power_J114 (x2 : Int32) (x3 : Int32) (x4 : Int32) (t0_0 : Int32) (t0_1 : Int32) (t0_2 : Int32) (t0_3 : Int32) (t0_4 : Int32) (t0_5 : Int32) (t0_6 : Int32) (t1_0 : (Nat → Int32)) (t2_0 : (Nat → Int32)) (t3_0 : (Nat → Int32)) (t4_0 : (Nat → Int32)) (t5_0 : (Nat → Int32)) (lx36 : Int32) (f68 : (Nat → Int32)) (f60 : (Nat → Int32)) (lx80 : Int32) (lx95 : Int32) : Int32 × Int32 × Int32 × Int32 × Int32 × Int32 × Int32 × (Nat → Int32) × (Nat → Int32) × (Nat → Int32) × (Nat → Int32) × (Nat → Int32) := F_WR_power_L119 x2 x3 x4 t0_0 t0_1 t0_2 t0_3 t0_4 t0_5 t0_6 t1_0 t2_0 t3_0 t4_0 t5_0 lx36 f68 f60 lx80 lx95 ((lx95.toInt - (0 : Int32).toInt).toNat + 1) 0 f68 t4_0
def F_WR_power_J113 (x2 : Int32) (x3 : Int32) (x4 : Int32) (t0_0 : Int32) (t0_1 : Int32) (t0_2 : Int32) (t0_3 : Int32) (t0_4 : Int32) (t0_5 : Int32) (t0_6 : Int32) (t1_0 : (Nat → Int32)) (t2_0 : (Nat → Int32)) (t3_0 : (Nat → Int32)) (t4_0 : (Nat → Int32)) (t5_0 : (Nat → Int32)) (lx36 : Int32) (f68 : (Nat → Int32)) (f60 : (Nat → Int32)) (lx80 : Int32) : Int32 × Int32 × Int32 × Int32 × Int32 × Int32 × Int32 × (Nat → Int32) × (Nat → Int32) × (Nat → Int32) × (Nat → Int32) × (Nat → Int32) := F_WR_power_J114 x2 x3 x4 t0_0 t0_1 t0_2 t0_3 t0_4 t0_5 t0_6 t1_0 t2_0 t3_0 t4_0 t5_0 lx36 f68 f60 lx80 x3
def F_WR_power_J93 (x2 : Int32) (x3 : Int32) (x4 : Int32) (t0_0 : Int32) (t0_1 : Int32) (t0_2 : Int32) (t0_3 : Int32) (t0_4 : Int32) (t0_5 : Int32) (t0_6 : Int32) (t1_0 : (Nat → Int32)) (t2_0 : (Nat → Int32)) (t3_0 : (Nat → Int32)) (t4_0 : (Nat → Int32)) (t5_0 : (Nat → Int32)) (lx36 : Int32) (f68 : (Nat → Int32)) (f60 : (Nat → Int32)) (lx80 : Int32) : Int32 × Int32 × Int32 × Int32 × Int32 × Int32 × Int32 × (Nat → Int32) × (Nat → Int32) × (Nat → Int32) × (Nat → Int32) × (Nat → Int32) := if lx80 = (0 : Int32) then (F_WR_power_J113 x2 x3 x4 t0_0 t0_1 t0_2 t0_3 t0_4 t0_5 t0_6 t1_0 t2_0 t3_0 t4_0 t5_0 lx36 f68 f60 lx80) else (if x3 ≤ (2 : Int32) then (F_WR_power_J113 x2 x3 x4 t0_0 t0_1 t0_2 t0_3 t0_4 t0_5 t0_6 t1_0 t2_0 t3_0 t4_0 t5_0 lx36 f68 f60 lx80) else (F_WR_power_J114 x2 x3 x4 t0_0 t0_1 t0_2 t0_3 t0_4 t0_5 t0_6 t1_0 t2_0 t3_0 t4_0 t5_0 lx36 f68 f60 lx80 (2 - (x3 - x3 / 2 * 2 : Int32) : Int32)))
def F_WR_power_J88 (x2 : Int32) (x3 : Int32) (x4 : Int32) (t0_0 : Int32) (t0_1 : Int32) (t0_2 : Int32) (t0_3 : Int32) (t0_4 : Int32) (t0_5 : Int32) (t0_6 : Int32) (t1_0 : (Nat → Int32)) (t2_0 : (Nat → Int32)) (t3_0 : (Nat → Int32)) (t4_0 : (Nat → Int32)) (t5_0 : (Nat → Int32)) (lx36 : Int32) (f68 : (Nat → Int32)) (f60 : (Nat → Int32)) : Int32 × Int32 × Int32 × Int32 × Int32 × Int32 × Int32 × (Nat → Int32) × (Nat → Int32) × (Nat → Int32) × (Nat → Int32) × (Nat → Int32) := F_WR_power_J93 x2 x3 x4 t0_0 t0_1 t0_2 t0_3 t0_4 t0_5 t0_6 t1_0 t2_0 t3_0 t4_0 t5_0 lx36 f68 f60 1
def F_WR_power_J92 (x2 : Int32) (x3 : Int32) (x4 : Int32) (t0_0 : Int32) (t0_1 : Int32) (t0_2 : Int32) (t0_3 : Int32) (t0_4 : Int32) (t0_5 : Int32) (t0_6 : Int32) (t1_0 : (Nat → Int32)) (t2_0 : (Nat → Int32)) (t3_0 : (Nat → Int32)) (t4_0 : (Nat → Int32)) (t5_0 : (Nat → Int32)) (lx36 : Int32) (f68 : (Nat → Int32)) (f60 : (Nat → Int32)) : Int32 × Int32 × Int32 × Int32 × Int32 × Int32 × Int32 × (Nat → Int32) × (Nat → Int32) × (Nat → Int32) × (Nat → Int32) × (Nat → Int32) := F_WR_power_J93 x2 x3 x4 t0_0 t0_1 t0_2 t0_3 t0_4 t0_5 t0_6 t1_0 t2_0 t3_0 t4_0 t5_0 lx36 f68 f60 0
def F_WR_power_J24 (x2 : Int32) (x3 : Int32) (x4 : Int32) (t0_0 : Int32) (t0_1 : Int32) (t0_2 : Int32) (t0_3 : Int32) (t0_4 : Int32) (t0_5 : Int32) (t0_6 : Int32) (t1_0 : (Nat → Int32)) (t2_0 : (Nat → Int32)) (t3_0 : (Nat → Int32)) (t4_0 : (Nat → Int32)) (t5_0 : (Nat → Int32)) (lx36 : Int32) : Int32 × Int32 × Int32 × Int32 × Int32 × Int32 × Int32 × (Nat → Int32) × (Nat → Int32) × (Nat → Int32) × (Nat → Int32) × (Nat → Int32) := if lx36 ≤ (0 : Int32) then (if ((F_WR_size (264 : Int32) ((F_WR_take x2 (264 : Int32) lx36 (2 : Int32) t0_2 t0_3 t0_4 t0_5 t0_6 t1_0 t5_0) : (Nat → Int32))) : Int32) = (0 : Int32) then (F_WR_power_J88 x2 x3 x4 t0_0 t0_1 t0_2 t0_3 t0_4 t0_5 t0_6 t1_0 t2_0 t3_0 t4_0 t5_0 lx36 ((F_WR_setOne (264 : Int32) lx36 (2 : Int32) t0_2 t0_3 t0_4 t0_5 t0_6 t3_0) : (Nat → Int32)) ((F_WR_take x2 (264 : Int32) lx36 (2 : Int32) t0_2 t0_3 t0_4 t0_5 t0_6 t1_0 t5_0) : (Nat → Int32))) else (if ((F_WR_size (264 : Int32) ((F_WR_take x2 (264 : Int32) lx36 (2 : Int32) t0_2 t0_3 t0_4 t0_5 t0_6 t1_0 t5_0) : (Nat → Int32))) : Int32) = (1 : Int32) then (if (((F_WR_take x2 (264 : Int32) lx36 (2 : Int32) t0_2 t0_3 t0_4 t0_5 t0_6 t1_0 t5_0) : (Nat → Int32)) (0 : Int32).toNatClampNeg : Int32) = (1 : Int32) then (F_WR_power_J88 x2 x3 x4 t0_0 t0_1 t0_2 t0_3 t0_4 t0_5 t0_6 t1_0 t2_0 t3_0 t4_0 t5_0 lx36 ((F_WR_setOne (264 : Int32) lx36 (2 : Int32) t0_2 t0_3 t0_4 t0_5 t0_6 t3_0) : (Nat → Int32)) ((F_WR_take x2 (264 : Int32) lx36 (2 : Int32) t0_2 t0_3 t0_4 t0_5 t0_6 t1_0 t5_0) : (Nat → Int32))) else (F_WR_power_J92 x2 x3 x4 t0_0 t0_1 t0_2 t0_3 t0_4 t0_5 t0_6 t1_0 t2_0 t3_0 t4_0 t5_0 lx36 ((F_WR_setOne (264 : Int32) lx36 (2 : Int32) t0_2 t0_3 t0_4 t0_5 t0_6 t3_0) : (Nat → Int32)) ((F_WR_take x2 (264 : Int32) lx36 (2 : Int32) t0_2 t0_3 t0_4 t0_5 t0_6 t1_0 t5_0) : (Nat → Int32)))) else (F_WR_power_J92 x2 x3 x4 t0_0 t0_1 t0_2 t0_3 t0_4 t0_5 t0_6 t1_0 t2_0 t3_0 t4_0 t5_0 lx36 ((F_WR_setOne (264 : Int32) lx36 (2 : Int32) t0_2 t0_3 t0_4 t0_5 t0_6 t3_0) : (Nat → Int32)) ((F_WR_take x2 (264 : Int32) lx36 (2 : Int32) t0_2 t0_3 t0_4 t0_5 t0_6 t1_0 t5_0) : (Nat → Int32))))) else ((lx36, t0_1, t0_2, t0_3, t0_4, t0_5, t0_6, t1_0, t2_0, t3_0, t4_0, t5_0))
def F_WR_power_J19 (x2 : Int32) (x3 : Int32) (x4 : Int32) (t0_0 : Int32) (t0_1 : Int32) (t0_2 : Int32) (t0_3 : Int32) (t0_4 : Int32) (t0_5 : Int32) (t0_6 : Int32) (t1_0 : (Nat → Int32)) (t2_0 : (Nat → Int32)) (t3_0 : (Nat → Int32)) (t4_0 : (Nat → Int32)) (t5_0 : (Nat → Int32)) : Int32 × Int32 × Int32 × Int32 × Int32 × Int32 × Int32 × (Nat → Int32) × (Nat → Int32) × (Nat → Int32) × (Nat → Int32) × (Nat → Int32) := F_WR_power_J24 x2 x3 x4 t0_0 t0_1 t0_2 t0_3 t0_4 t0_5 t0_6 t1_0 t2_0 t3_0 t4_0 t5_0 1
def F_WR_power (x2 : Int32) (x3 : Int32) (x4 : Int32) (t0_0 : Int32) (t0_1 : Int32) (t0_2 : Int32) (t0_3 : Int32) (t0_4 : Int32) (t0_5 : Int32) (t0_6 : Int32) (t1_0 : (Nat → Int32)) (t2_0 : (Nat → Int32)) (t3_0 : (Nat → Int32)) (t4_0 : (Nat → Int32)) (t5_0 : (Nat → Int32)) : Int32 × Int32 × Int32 × Int32 × Int32 × Int32 × Int32 × (Nat → Int32) × (Nat → Int32) × (Nat → Int32) × (Nat → Int32) × (Nat → Int32) := if ((F_WR_no x2) : Int32) = (0 : Int32) then (if ((F_WR_no x4) : Int32) = (0 : Int32) then (if (0 : Int32) ≤ x3 then (F_WR_power_J24 x2 x3 x4 t0_0 t0_1 t0_2 t0_3 t0_4 t0_5 t0_6 t1_0 t2_0 t3_0 t4_0 t5_0 0) else (F_WR_power_J19 x2 x3 x4 t0_0 t0_1 t0_2 t0_3 t0_4 t0_5 t0_6 t1_0 t2_0 t3_0 t4_0 t5_0)) else (F_WR_power_J19 x2 x3 x4 t0_0 t0_1 t0_2 t0_3 t0_4 t0_5 t0_6 t1_0 t2_0 t3_0 t4_0 t5_0)) else (F_WR_power_J19 x2 x3 x4 t0_0 t0_1 t0_2 t0_3 t0_4 t0_5 t0_6 t1_0 t2_0 t3_0 t4_0 t5_0)
def S_WR_power_c194 (K_S_WR_power_L119 : Int32 → (Nat → Int32) → (Nat → Int32) → Prop) (x2 : Int32) (x3 : Int32) (x4 : Int32) (t0_0 : Int32) (t0_1 : Int32) (t0_2 : Int32) (t0_3 : Int32) (t0_4 : Int32) (t0_5 : Int32) (t0_6 : Int32) (t1_0 : (Nat → Int32)) (t2_0 : (Nat → Int32)) (t3_0 : (Nat → Int32)) (t4_0 : (Nat → Int32)) (t5_0 : (Nat → Int32)) (lx36 : Int32) (f68 : (Nat → Int32)) (f60 : (Nat → Int32)) (lx80 : Int32) (lx95 : Int32) (lx110 : Int32) (lx111 : (Nat → Int32)) (lx112 : (Nat → Int32)) (p166 : (Int32 × Int32 × Int32 × Int32 × Int32 × Int32 × Int32 × (Nat → Int32) × (Nat → Int32))) : Prop := True
def S_WR_power_c194_6 (K_S_WR_power_L119 : Int32 → (Nat → Int32) → (Nat → Int32) → Prop) (x2 : Int32) (x3 : Int32) (x4 : Int32) (t0_0 : Int32) (t0_1 : Int32) (t0_2 : Int32) (t0_3 : Int32) (t0_4 : Int32) (t0_5 : Int32) (t0_6 : Int32) (t1_0 : (Nat → Int32)) (t2_0 : (Nat → Int32)) (t3_0 : (Nat → Int32)) (t4_0 : (Nat → Int32)) (t5_0 : (Nat → Int32)) (lx36 : Int32) (f68 : (Nat → Int32)) (f60 : (Nat → Int32)) (lx80 : Int32) (lx95 : Int32) (lx110 : Int32) (lx111 : (Nat → Int32)) (lx112 : (Nat → Int32)) (p218 : (Int32 × Int32 × Int32 × Int32 × Int32 × Int32 × Int32 × (Nat → Int32) × (Nat → Int32))) : Prop := True
def S_WR_power_c194_7 (K_S_WR_power_L119 : Int32 → (Nat → Int32) → (Nat → Int32) → Prop) (x2 : Int32) (x3 : Int32) (x4 : Int32) (t0_0 : Int32) (t0_1 : Int32) (t0_2 : Int32) (t0_3 : Int32) (t0_4 : Int32) (t0_5 : Int32) (t0_6 : Int32) (t1_0 : (Nat → Int32)) (t2_0 : (Nat → Int32)) (t3_0 : (Nat → Int32)) (t4_0 : (Nat → Int32)) (t5_0 : (Nat → Int32)) (lx36 : Int32) (f68 : (Nat → Int32)) (f60 : (Nat → Int32)) (lx80 : Int32) (lx95 : Int32) (lx110 : Int32) (lx111 : (Nat → Int32)) (lx112 : (Nat → Int32)) (p266 : (Int32 × Int32 × Int32 × Int32 × Int32 × Int32 × Int32 × (Nat → Int32) × (Nat → Int32))) : Prop := True
def S_WR_power_c139 (K_S_WR_power_L119 : Int32 → (Nat → Int32) → (Nat → Int32) → Prop) (x2 : Int32) (x3 : Int32) (x4 : Int32) (t0_0 : Int32) (t0_1 : Int32) (t0_2 : Int32) (t0_3 : Int32) (t0_4 : Int32) (t0_5 : Int32) (t0_6 : Int32) (t1_0 : (Nat → Int32)) (t2_0 : (Nat → Int32)) (t3_0 : (Nat → Int32)) (t4_0 : (Nat → Int32)) (t5_0 : (Nat → Int32)) (lx36 : Int32) (f68 : (Nat → Int32)) (f60 : (Nat → Int32)) (lx80 : Int32) (lx95 : Int32) (lx110 : Int32) (lx111 : (Nat → Int32)) (lx112 : (Nat → Int32)) (p292 : ((Nat → Int32) × (Nat → Int32))) : Prop := if ((F_WR_size (264 : Int32) (p292.2 : (Nat → Int32))) : Int32) ≤ (128 : Int32) then (K_S_WR_power_L119 (lx110 + 1 : Int32) (p292.2 : (Nat → Int32)) (p292.1 : (Nat → Int32))) else (True)
def S_WR_power_L119 (x2 : Int32) (x3 : Int32) (x4 : Int32) (t0_0 : Int32) (t0_1 : Int32) (t0_2 : Int32) (t0_3 : Int32) (t0_4 : Int32) (t0_5 : Int32) (t0_6 : Int32) (t1_0 : (Nat → Int32)) (t2_0 : (Nat → Int32)) (t3_0 : (Nat → Int32)) (t4_0 : (Nat → Int32)) (t5_0 : (Nat → Int32)) (lx36 : Int32) (f68 : (Nat → Int32)) (f60 : (Nat → Int32)) (lx80 : Int32) (lx95 : Int32) : Nat → Int32 → (Nat → Int32) → (Nat → Int32) → Prop
  | 0, _, _, _ => False
  | fm + 1, lx110, lx111, lx112 => if lx95 ≤ lx110 then ((0 ≤ x2.toInt) ∧ ((x2.toInt ≤ 10) ∧ (if (t2_0 x2.toNatClampNeg : Int32) = (0 : Int32) then ((True ∧ S_WR_store x4 lx36 (2 : Int32) t0_2 (0 : Int32) t0_4 t0_5 t0_6 t1_0 t2_0 lx111) ∧ (S_WR_power_c194 (S_WR_power_L119 x2 x3 x4 t0_0 t0_1 t0_2 t0_3 t0_4 t0_5 t0_6 t1_0 t2_0 t3_0 t4_0 t5_0 lx36 f68 f60 lx80 lx95 fm) x2 x3 x4 t0_0 t0_1 t0_2 t0_3 t0_4 t0_5 t0_6 t1_0 t2_0 t3_0 t4_0 t5_0 lx36 f68 f60 lx80 lx95 lx110 lx111 lx112 ((F_WR_store x4 lx36 (2 : Int32) t0_2 (0 : Int32) t0_4 t0_5 t0_6 t1_0 t2_0 lx111) : (Int32 × Int32 × Int32 × Int32 × Int32 × Int32 × Int32 × (Nat → Int32) × (Nat → Int32))))) else (if (x3 - x3 / 2 * 2 : Int32) = (1 : Int32) then ((True ∧ S_WR_store x4 lx36 (2 : Int32) t0_2 (1 : Int32) t0_4 t0_5 t0_6 t1_0 t2_0 lx111) ∧ (S_WR_power_c194_7 (S_WR_power_L119 x2 x3 x4 t0_0 t0_1 t0_2 t0_3 t0_4 t0_5 t0_6 t1_0 t2_0 t3_0 t4_0 t5_0 lx36 f68 f60 lx80 lx95 fm) x2 x3 x4 t0_0 t0_1 t0_2 t0_3 t0_4 t0_5 t0_6 t1_0 t2_0 t3_0 t4_0 t5_0 lx36 f68 f60 lx80 lx95 lx110 lx111 lx112 ((F_WR_store x4 lx36 (2 : Int32) t0_2 (1 : Int32) t0_4 t0_5 t0_6 t1_0 t2_0 lx111) : (Int32 × Int32 × Int32 × Int32 × Int32 × Int32 × Int32 × (Nat → Int32) × (Nat → Int32))))) else ((True ∧ S_WR_store x4 lx36 (2 : Int32) t0_2 (0 : Int32) t0_4 t0_5 t0_6 t1_0 t2_0 lx111) ∧ (S_WR_power_c194_6 (S_WR_power_L119 x2 x3 x4 t0_0 t0_1 t0_2 t0_3 t0_4 t0_5 t0_6 t1_0 t2_0 t3_0 t4_0 t5_0 lx36 f68 f60 lx80 lx95 fm) x2 x3 x4 t0_0 t0_1 t0_2 t0_3 t0_4 t0_5 t0_6 t1_0 t2_0 t3_0 t4_0 t5_0 lx36 f68 f60 lx80 lx95 lx110 lx111 lx112 ((F_WR_store x4 lx36 (2 : Int32) t0_2 (0 : Int32) t0_4 t0_5 t0_6 t1_0 t2_0 lx111) : (Int32 × Int32 × Int32 × Int32 × Int32 × Int32 × Int32 × (Nat → Int32) × (Nat → Int32))))))))) else ((True ∧ S_WR_multiplyRows_a (264 : Int32) (264 : Int32) lx36 (2 : Int32) t0_2 t0_3 t0_4 t0_5 t0_6 lx112 lx111 f60) ∧ (S_WR_power_c139 (S_WR_power_L119 x2 x3 x4 t0_0 t0_1 t0_2 t0_3 t0_4 t0_5 t0_6 t1_0 t2_0 t3_0 t4_0 t5_0 lx36 f68 f60 lx80 lx95 fm) x2 x3 x4 t0_0 t0_1 t0_2 t0_3 t0_4 t0_5 t0_6 t1_0 t2_0 t3_0 t4_0 t5_0 lx36 f68 f60 lx80 lx95 lx110 lx111 lx112 ((F_WR_multiplyRows_a (264 : Int32) (264 : Int32) lx36 (2 : Int32) t0_2 t0_3 t0_4 t0_5 t0_6 lx112 lx111 f60) : ((Nat → Int32) × (Nat → Int32)))))
def S_WR_power_J114 (x2 : Int32) (x3 : Int32) (x4 : Int32) (t0_0 : Int32) (t0_1 : Int32) (t0_2 : Int32) (t0_3 : Int32) (t0_4 : Int32) (t0_5 : Int32) (t0_6 : Int32) (t1_0 : (Nat → Int32)) (t2_0 : (Nat → Int32)) (t3_0 : (Nat → Int32)) (t4_0 : (Nat → Int32)) (t5_0 : (Nat → Int32)) (lx36 : Int32) (f68 : (Nat → Int32)) (f60 : (Nat → Int32)) (lx80 : Int32) (lx95 : Int32) : Prop := S_WR_power_L119 x2 x3 x4 t0_0 t0_1 t0_2 t0_3 t0_4 t0_5 t0_6 t1_0 t2_0 t3_0 t4_0 t5_0 lx36 f68 f60 lx80 lx95 ((lx95.toInt - (0 : Int32).toInt).toNat + 1) 0 f68 t4_0
def S_WR_power_J113 (x2 : Int32) (x3 : Int32) (x4 : Int32) (t0_0 : Int32) (t0_1 : Int32) (t0_2 : Int32) (t0_3 : Int32) (t0_4 : Int32) (t0_5 : Int32) (t0_6 : Int32) (t1_0 : (Nat → Int32)) (t2_0 : (Nat → Int32)) (t3_0 : (Nat → Int32)) (t4_0 : (Nat → Int32)) (t5_0 : (Nat → Int32)) (lx36 : Int32) (f68 : (Nat → Int32)) (f60 : (Nat → Int32)) (lx80 : Int32) : Prop := S_WR_power_J114 x2 x3 x4 t0_0 t0_1 t0_2 t0_3 t0_4 t0_5 t0_6 t1_0 t2_0 t3_0 t4_0 t5_0 lx36 f68 f60 lx80 x3
def S_WR_power_J93 (x2 : Int32) (x3 : Int32) (x4 : Int32) (t0_0 : Int32) (t0_1 : Int32) (t0_2 : Int32) (t0_3 : Int32) (t0_4 : Int32) (t0_5 : Int32) (t0_6 : Int32) (t1_0 : (Nat → Int32)) (t2_0 : (Nat → Int32)) (t3_0 : (Nat → Int32)) (t4_0 : (Nat → Int32)) (t5_0 : (Nat → Int32)) (lx36 : Int32) (f68 : (Nat → Int32)) (f60 : (Nat → Int32)) (lx80 : Int32) : Prop := if lx80 = (0 : Int32) then (S_WR_power_J113 x2 x3 x4 t0_0 t0_1 t0_2 t0_3 t0_4 t0_5 t0_6 t1_0 t2_0 t3_0 t4_0 t5_0 lx36 f68 f60 lx80) else (if x3 ≤ (2 : Int32) then (S_WR_power_J113 x2 x3 x4 t0_0 t0_1 t0_2 t0_3 t0_4 t0_5 t0_6 t1_0 t2_0 t3_0 t4_0 t5_0 lx36 f68 f60 lx80) else (S_WR_power_J114 x2 x3 x4 t0_0 t0_1 t0_2 t0_3 t0_4 t0_5 t0_6 t1_0 t2_0 t3_0 t4_0 t5_0 lx36 f68 f60 lx80 (2 - (x3 - x3 / 2 * 2 : Int32) : Int32)))
def S_WR_power_J88 (x2 : Int32) (x3 : Int32) (x4 : Int32) (t0_0 : Int32) (t0_1 : Int32) (t0_2 : Int32) (t0_3 : Int32) (t0_4 : Int32) (t0_5 : Int32) (t0_6 : Int32) (t1_0 : (Nat → Int32)) (t2_0 : (Nat → Int32)) (t3_0 : (Nat → Int32)) (t4_0 : (Nat → Int32)) (t5_0 : (Nat → Int32)) (lx36 : Int32) (f68 : (Nat → Int32)) (f60 : (Nat → Int32)) : Prop := S_WR_power_J93 x2 x3 x4 t0_0 t0_1 t0_2 t0_3 t0_4 t0_5 t0_6 t1_0 t2_0 t3_0 t4_0 t5_0 lx36 f68 f60 1
def S_WR_power_J92 (x2 : Int32) (x3 : Int32) (x4 : Int32) (t0_0 : Int32) (t0_1 : Int32) (t0_2 : Int32) (t0_3 : Int32) (t0_4 : Int32) (t0_5 : Int32) (t0_6 : Int32) (t1_0 : (Nat → Int32)) (t2_0 : (Nat → Int32)) (t3_0 : (Nat → Int32)) (t4_0 : (Nat → Int32)) (t5_0 : (Nat → Int32)) (lx36 : Int32) (f68 : (Nat → Int32)) (f60 : (Nat → Int32)) : Prop := S_WR_power_J93 x2 x3 x4 t0_0 t0_1 t0_2 t0_3 t0_4 t0_5 t0_6 t1_0 t2_0 t3_0 t4_0 t5_0 lx36 f68 f60 0
def S_WR_power_J24 (x2 : Int32) (x3 : Int32) (x4 : Int32) (t0_0 : Int32) (t0_1 : Int32) (t0_2 : Int32) (t0_3 : Int32) (t0_4 : Int32) (t0_5 : Int32) (t0_6 : Int32) (t1_0 : (Nat → Int32)) (t2_0 : (Nat → Int32)) (t3_0 : (Nat → Int32)) (t4_0 : (Nat → Int32)) (t5_0 : (Nat → Int32)) (lx36 : Int32) : Prop := if lx36 ≤ (0 : Int32) then ((True ∧ S_WR_take x2 (264 : Int32) lx36 (2 : Int32) t0_2 t0_3 t0_4 t0_5 t0_6 t1_0 t5_0) ∧ ((True ∧ S_WR_setOne (264 : Int32) lx36 (2 : Int32) t0_2 t0_3 t0_4 t0_5 t0_6 t3_0) ∧ (if ((F_WR_size (264 : Int32) ((F_WR_take x2 (264 : Int32) lx36 (2 : Int32) t0_2 t0_3 t0_4 t0_5 t0_6 t1_0 t5_0) : (Nat → Int32))) : Int32) = (0 : Int32) then (S_WR_power_J88 x2 x3 x4 t0_0 t0_1 t0_2 t0_3 t0_4 t0_5 t0_6 t1_0 t2_0 t3_0 t4_0 t5_0 lx36 ((F_WR_setOne (264 : Int32) lx36 (2 : Int32) t0_2 t0_3 t0_4 t0_5 t0_6 t3_0) : (Nat → Int32)) ((F_WR_take x2 (264 : Int32) lx36 (2 : Int32) t0_2 t0_3 t0_4 t0_5 t0_6 t1_0 t5_0) : (Nat → Int32))) else (if ((F_WR_size (264 : Int32) ((F_WR_take x2 (264 : Int32) lx36 (2 : Int32) t0_2 t0_3 t0_4 t0_5 t0_6 t1_0 t5_0) : (Nat → Int32))) : Int32) = (1 : Int32) then (if (((F_WR_take x2 (264 : Int32) lx36 (2 : Int32) t0_2 t0_3 t0_4 t0_5 t0_6 t1_0 t5_0) : (Nat → Int32)) (0 : Int32).toNatClampNeg : Int32) = (1 : Int32) then (S_WR_power_J88 x2 x3 x4 t0_0 t0_1 t0_2 t0_3 t0_4 t0_5 t0_6 t1_0 t2_0 t3_0 t4_0 t5_0 lx36 ((F_WR_setOne (264 : Int32) lx36 (2 : Int32) t0_2 t0_3 t0_4 t0_5 t0_6 t3_0) : (Nat → Int32)) ((F_WR_take x2 (264 : Int32) lx36 (2 : Int32) t0_2 t0_3 t0_4 t0_5 t0_6 t1_0 t5_0) : (Nat → Int32))) else (S_WR_power_J92 x2 x3 x4 t0_0 t0_1 t0_2 t0_3 t0_4 t0_5 t0_6 t1_0 t2_0 t3_0 t4_0 t5_0 lx36 ((F_WR_setOne (264 : Int32) lx36 (2 : Int32) t0_2 t0_3 t0_4 t0_5 t0_6 t3_0) : (Nat → Int32)) ((F_WR_take x2 (264 : Int32) lx36 (2 : Int32) t0_2 t0_3 t0_4 t0_5 t0_6 t1_0 t5_0) : (Nat → Int32)))) else (S_WR_power_J92 x2 x3 x4 t0_0 t0_1 t0_2 t0_3 t0_4 t0_5 t0_6 t1_0 t2_0 t3_0 t4_0 t5_0 lx36 ((F_WR_setOne (264 : Int32) lx36 (2 : Int32) t0_2 t0_3 t0_4 t0_5 t0_6 t3_0) : (Nat → Int32)) ((F_WR_take x2 (264 : Int32) lx36 (2 : Int32) t0_2 t0_3 t0_4 t0_5 t0_6 t1_0 t5_0) : (Nat → Int32))))))) else (True)
def S_WR_power_J19 (x2 : Int32) (x3 : Int32) (x4 : Int32) (t0_0 : Int32) (t0_1 : Int32) (t0_2 : Int32) (t0_3 : Int32) (t0_4 : Int32) (t0_5 : Int32) (t0_6 : Int32) (t1_0 : (Nat → Int32)) (t2_0 : (Nat → Int32)) (t3_0 : (Nat → Int32)) (t4_0 : (Nat → Int32)) (t5_0 : (Nat → Int32)) : Prop := S_WR_power_J24 x2 x3 x4 t0_0 t0_1 t0_2 t0_3 t0_4 t0_5 t0_6 t1_0 t2_0 t3_0 t4_0 t5_0 1
def S_WR_power (x2 : Int32) (x3 : Int32) (x4 : Int32) (t0_0 : Int32) (t0_1 : Int32) (t0_2 : Int32) (t0_3 : Int32) (t0_4 : Int32) (t0_5 : Int32) (t0_6 : Int32) (t1_0 : (Nat → Int32)) (t2_0 : (Nat → Int32)) (t3_0 : (Nat → Int32)) (t4_0 : (Nat → Int32)) (t5_0 : (Nat → Int32)) : Prop := if ((F_WR_no x2) : Int32) = (0 : Int32) then (if ((F_WR_no x4) : Int32) = (0 : Int32) then (if (0 : Int32) ≤ x3 then (S_WR_power_J24 x2 x3 x4 t0_0 t0_1 t0_2 t0_3 t0_4 t0_5 t0_6 t1_0 t2_0 t3_0 t4_0 t5_0 0) else (S_WR_power_J19 x2 x3 x4 t0_0 t0_1 t0_2 t0_3 t0_4 t0_5 t0_6 t1_0 t2_0 t3_0 t4_0 t5_0)) else (S_WR_power_J19 x2 x3 x4 t0_0 t0_1 t0_2 t0_3 t0_4 t0_5 t0_6 t1_0 t2_0 t3_0 t4_0 t5_0)) else (S_WR_power_J19 x2 x3 x4 t0_0 t0_1 t0_2 t0_3 t0_4 t0_5 t0_6 t1_0 t2_0 t3_0 t4_0 t5_0)
set_option maxRecDepth 100000 in
set_option maxHeartbeats 4000000 in
theorem X_WR_power (l : Launch) (D : va_G) (g : Nat → ClassId) (q : Nat → Nat) (ws : va_W) (x2 : Int32) (x3 : Int32) (x4 : Int32) (hI : q_I (msh g q) q ws) (t0_0 : Int32) (t0_1 : Int32) (t0_2 : Int32) (t0_3 : Int32) (t0_4 : Int32) (t0_5 : Int32) (t0_6 : Int32) (hT0 : ws[119]? = (some (q 119, .inr (13, [.int t0_0, .int t0_1, .ref (q 120), .int t0_2, .ref (q 121), .ref (q 122), .ref (q 123), .int t0_3, .ref (q 124), .ref (q 125), .ref (q 126), .ref (q 127), .ref (q 128), .ref (q 129), .ref (q 130), .ref (q 131), .int t0_4, .int t0_5, .ref (q 132), .ref (q 133), .int t0_6])) : Option (Nat × va_E))) (t1_0 : (Nat → Int32)) (hT1 : ws[121]? = (some (q 121, .inl (g 0, (1408 : Int32).toNatClampNeg, .inl t1_0)) : Option (Nat × va_E))) (t2_0 : (Nat → Int32)) (hT2 : ws[122]? = (some (q 122, .inl (g 3, 11, .inl t2_0)) : Option (Nat × va_E))) (t3_0 : (Nat → Int32)) (hT3 : ws[123]? = (some (q 123, .inl (g 0, (264 : Int32).toNatClampNeg, .inl t3_0)) : Option (Nat × va_E))) (t4_0 : (Nat → Int32)) (hT4 : ws[125]? = (some (q 125, .inl (g 0, (528 : Int32).toNatClampNeg, .inl t4_0)) : Option (Nat × va_E))) (t5_0 : (Nat → Int32)) (hT5 : ws[128]? = (some (q 128, .inl (g 0, (264 : Int32).toNatClampNeg, .inl t5_0)) : Option (Nat × va_E))) (hS : True ∧ S_WR_power x2 x3 x4 t0_0 t0_1 t0_2 t0_3 t0_4 t0_5 t0_6 t1_0 t2_0 t3_0 t4_0 t5_0) : q_mV l y_WR_power prog_19_method_29_code 7 3 0 0 D g [.ref (q 119), .int x2, .int x3, .int x4] ws (fun u => q_I (msh g q) q u ∧ q_un ws u [119, 121, 122, 123, 125, 128] ∧ ∃ (u0_0 : Int32) (u0_1 : Int32) (u0_2 : Int32) (u0_3 : Int32) (u0_4 : Int32) (u0_5 : Int32) (u0_6 : Int32) (u1_0 : (Nat → Int32)) (u2_0 : (Nat → Int32)) (u3_0 : (Nat → Int32)) (u4_0 : (Nat → Int32)) (u5_0 : (Nat → Int32)), u[119]? = (some (q 119, .inr (13, [.int u0_0, .int u0_1, .ref (q 120), .int u0_2, .ref (q 121), .ref (q 122), .ref (q 123), .int u0_3, .ref (q 124), .ref (q 125), .ref (q 126), .ref (q 127), .ref (q 128), .ref (q 129), .ref (q 130), .ref (q 131), .int u0_4, .int u0_5, .ref (q 132), .ref (q 133), .int u0_6])) : Option (Nat × va_E)) ∧ u[121]? = (some (q 121, .inl (g 0, (1408 : Int32).toNatClampNeg, .inl u1_0)) : Option (Nat × va_E)) ∧ u[122]? = (some (q 122, .inl (g 3, 11, .inl u2_0)) : Option (Nat × va_E)) ∧ u[123]? = (some (q 123, .inl (g 0, (264 : Int32).toNatClampNeg, .inl u3_0)) : Option (Nat × va_E)) ∧ u[125]? = (some (q 125, .inl (g 0, (528 : Int32).toNatClampNeg, .inl u4_0)) : Option (Nat × va_E)) ∧ u[128]? = (some (q 128, .inl (g 0, (264 : Int32).toNatClampNeg, .inl u5_0)) : Option (Nat × va_E)) ∧ (0 ≤ u0_3.toInt) ∧ (u0_3.toInt ≤ 1) ∧ (t0_2.toInt ≤ u0_2.toInt) ∧ (u0_2.toInt ≤ t0_2.toInt) ∧ (t0_4.toInt ≤ u0_4.toInt) ∧ (u0_4.toInt ≤ t0_4.toInt) ∧ (t0_5.toInt ≤ u0_5.toInt) ∧ (u0_5.toInt ≤ t0_5.toInt) ∧ (t0_6.toInt ≤ u0_6.toInt) ∧ (u0_6.toInt ≤ t0_6.toInt) ∧ (u0_0, u0_1, u0_2, u0_3, u0_4, u0_5, u0_6, u1_0, u2_0, u3_0, u4_0, u5_0) = (F_WR_power x2 x3 x4 t0_0 t0_1 t0_2 t0_3 t0_4 t0_5 t0_6 t1_0 t2_0 t3_0 t4_0 t5_0)) := by
  intro sz
  refine q_into (by decide) (Nat.le_of_ble_eq_true rfl) ?_
  intro p e s m below meth c ls hsz C0 V hl
  have hx := C0.1
  have hb := C0.2.1
  obtain ⟨btt0_2, hZ9⟩ := n_w119 hI hT0
  obtain ⟨btt0_3, hZ9⟩ := hZ9
  obtain ⟨btt0_4, hZ9⟩ := hZ9
  obtain ⟨btt0_5, btt0_6⟩ := hZ9
  replace btt0_2 : q_F (0 ≤ t0_2.toInt ∧ t0_2.toInt ≤ 4100) := btt0_2
  replace btt0_3 : q_F (0 ≤ t0_3.toInt ∧ t0_3.toInt ≤ 1) := btt0_3
  replace btt0_4 : q_F (0 ≤ t0_4.toInt ∧ t0_4.toInt ≤ 1) := btt0_4
  replace btt0_5 : q_F (0 ≤ t0_5.toInt ∧ t0_5.toInt ≤ 1) := btt0_5
  replace btt0_6 : q_F (0 ≤ t0_6.toInt ∧ t0_6.toInt ≤ 2100) := btt0_6
  have hF : q_un ws ws [119, 121, 122, 123, 125, 128] := q_u0
  have hl : lv_has ls 7 [(0, .ref (q 119)), (1, .int x2), (2, .int x3), (3, .int x4)] := hl
  refine lv_aload_n hx hb d_19_29_0 rfl (lv_at hl 0 rfl) ?_
  refine lv_iload_n hx hb d_19_29_1 rfl (lv_at hl 1 rfl) ?_
  refine q_goi V (q_runS (As := [.int x2]) (rest := [.ref (q 119)]) (d := 1) (mc := 0) (ms := 0) C0 V rfl LS_WR_91 (X_WR_no l D g q ws  x2 hI   _) rfl hl.1 rfl (Nat.le_of_ble_eq_true rfl) ⟨by decide, by decide⟩ ⟨Nat.le_of_ble_eq_true rfl, Nat.le_of_ble_eq_true rfl⟩ d_19_29_2) (fun a31 u29 H locs hp30 V => ?_)
  obtain ⟨rfl, b32, b33, hE34⟩ := hp30
  have e35 : a31 = (F_WR_no x2) := hE34
  clear b32
  clear b33
  refine q_join (X := Int32) (fun z H locs ls _ => q_F (0 ≤ z.toInt) ∧ q_F (z.toInt ≤ 1) ∧ q_Wd D g (va_A ws sz) s ws H locs ∧ lv_has ls 7 [(0, .ref (q 119)), (1, .int x2), (2, .int x3), (3, .int x4)] ∧ F_WR_power_J24 x2 x3 x4 t0_0 t0_1 t0_2 t0_3 t0_4 t0_5 t0_6 t1_0 t2_0 t3_0 t4_0 t5_0 z = (F_WR_power x2 x3 x4 t0_0 t0_1 t0_2 t0_3 t0_4 t0_5 t0_6 t1_0 t2_0 t3_0 t4_0 t5_0) ∧ True ∧ S_WR_power_J24 x2 x3 x4 t0_0 t0_1 t0_2 t0_3 t0_4 t0_5 t0_6 t1_0 t2_0 t3_0 t4_0 t5_0 z) (fun z => [.int z, .ref (q 119)]) 24 0 0 ?_ ?_
  ·
    rintro lx36 H locs ls _ hZ9
    obtain ⟨i44, hZ9⟩ := hZ9
    obtain ⟨i45, hZ9⟩ := hZ9
    obtain ⟨V, hZ9⟩ := hZ9
    obtain ⟨hl, hZ9⟩ := hZ9
    obtain ⟨hR46, hS47⟩ := hZ9
    replace i44 : q_F (0 ≤ lx36.toInt) := i44
    replace i45 : q_F (lx36.toInt ≤ 1) := i45
    replace hl : lv_has ls 7 [(0, .ref (q 119)), (1, .int x2), (2, .int x3), (3, .int x4)] := hl
    refine q_put (ci := 13) (j := 0) (v := .int lx36) (ty := .int) C0 V i_WR o_WR n_WR rfl rfl hT0 (by decide) w_1921 rfl rfl rfl rfl (Nat.le_of_ble_eq_true rfl) d_19_29_24 (fun H locs w51 hu52 hT0 V => ?_)
    replace hT0 : w51[119]? = (some (q 119, .inr (13, [.int lx36, .int t0_1, .ref (q 120), .int t0_2, .ref (q 121), .ref (q 122), .ref (q 123), .int t0_3, .ref (q 124), .ref (q 125), .ref (q 126), .ref (q 127), .ref (q 128), .ref (q 129), .ref (q 130), .ref (q 131), .int t0_4, .int t0_5, .ref (q 132), .ref (q 133), .int t0_6])) : Option (Nat × va_E)) := hT0
    replace hI := n_p119 hI hu52 hT0 (by first | with_reducible exact q_fe btt0_2 | exact ⟨(by have t1 : 0 ≤ t0_2.toInt ∧ t0_2.toInt ≤ 4100 := btt0_2; omega), (by have t1 : 0 ≤ t0_2.toInt ∧ t0_2.toInt ≤ 4100 := btt0_2; omega)⟩) (by first | with_reducible exact q_fe btt0_3 | exact ⟨(by have t1 : 0 ≤ t0_3.toInt ∧ t0_3.toInt ≤ 1 := btt0_3; omega), (by have t1 : 0 ≤ t0_3.toInt ∧ t0_3.toInt ≤ 1 := btt0_3; omega)⟩) (by first | with_reducible exact q_fe btt0_4 | exact ⟨(by have t1 : 0 ≤ t0_4.toInt ∧ t0_4.toInt ≤ 1 := btt0_4; omega), (by have t1 : 0 ≤ t0_4.toInt ∧ t0_4.toInt ≤ 1 := btt0_4; omega)⟩) (by first | with_reducible exact q_fe btt0_5 | exact ⟨(by have t1 : 0 ≤ t0_5.toInt ∧ t0_5.toInt ≤ 1 := btt0_5; omega), (by have t1 : 0 ≤ t0_5.toInt ∧ t0_5.toInt ≤ 1 := btt0_5; omega)⟩) (by first | with_reducible exact q_fe btt0_6 | exact ⟨(by have t1 : 0 ≤ t0_6.toInt ∧ t0_6.toInt ≤ 2100 := btt0_6; omega), (by have t1 : 0 ≤ t0_6.toInt ∧ t0_6.toInt ≤ 2100 := btt0_6; omega)⟩)
    replace hT1 := (hu52 _ (by decide)).trans hT1
    replace hT2 := (hu52 _ (by decide)).trans hT2
    replace hT3 := (hu52 _ (by decide)).trans hT3
    replace hT4 := (hu52 _ (by decide)).trans hT4
    replace hT5 := (hu52 _ (by decide)).trans hT5
    replace hF := q_us hF hu52 (by simp)
    refine lv_aload_n hx hb d_19_29_27 rfl (lv_at hl 0 rfl) ?_
    refine q_get (ci := 13) (j := 0) (v := .int lx36) C0 V i_WR rfl rfl hT0 (by decide) w_1921 rfl d_19_29_28 ?_
    refine lv_if_le (tgt := 35) hx hb d_19_29_31 (by decide) (fun c53 => ?_) (fun c53 => ?_)
    ·
      have b54 : q_F (lx36.toInt ≤ 0) := (q_leI c53)
      refine lv_aload_n hx hb d_19_29_35 rfl (lv_at hl 0 rfl) ?_
      refine lv_iconst (v := 2) hx hb d_19_29_36 (by decide) ?_
      refine q_put (ci := 13) (j := 1) (v := .int 2) (ty := .int) C0 V i_WR o_WR n_WR rfl rfl hT0 (by decide) w_1923 rfl rfl rfl rfl (Nat.le_of_ble_eq_true rfl) d_19_29_37 (fun H locs w55 hu56 hT0 V => ?_)
      replace hT0 : w55[119]? = (some (q 119, .inr (13, [.int lx36, .int 2, .ref (q 120), .int t0_2, .ref (q 121), .ref (q 122), .ref (q 123), .int t0_3, .ref (q 124), .ref (q 125), .ref (q 126), .ref (q 127), .ref (q 128), .ref (q 129), .ref (q 130), .ref (q 131), .int t0_4, .int t0_5, .ref (q 132), .ref (q 133), .int t0_6])) : Option (Nat × va_E)) := hT0
      replace hI := n_p119 hI hu56 hT0 (by first | with_reducible exact q_fe btt0_2 | exact ⟨(by have t1 : 0 ≤ t0_2.toInt ∧ t0_2.toInt ≤ 4100 := btt0_2; omega), (by have t1 : 0 ≤ t0_2.toInt ∧ t0_2.toInt ≤ 4100 := btt0_2; omega)⟩) (by first | with_reducible exact q_fe btt0_3 | exact ⟨(by have t1 : 0 ≤ t0_3.toInt ∧ t0_3.toInt ≤ 1 := btt0_3; omega), (by have t1 : 0 ≤ t0_3.toInt ∧ t0_3.toInt ≤ 1 := btt0_3; omega)⟩) (by first | with_reducible exact q_fe btt0_4 | exact ⟨(by have t1 : 0 ≤ t0_4.toInt ∧ t0_4.toInt ≤ 1 := btt0_4; omega), (by have t1 : 0 ≤ t0_4.toInt ∧ t0_4.toInt ≤ 1 := btt0_4; omega)⟩) (by first | with_reducible exact q_fe btt0_5 | exact ⟨(by have t1 : 0 ≤ t0_5.toInt ∧ t0_5.toInt ≤ 1 := btt0_5; omega), (by have t1 : 0 ≤ t0_5.toInt ∧ t0_5.toInt ≤ 1 := btt0_5; omega)⟩) (by first | with_reducible exact q_fe btt0_6 | exact ⟨(by have t1 : 0 ≤ t0_6.toInt ∧ t0_6.toInt ≤ 2100 := btt0_6; omega), (by have t1 : 0 ≤ t0_6.toInt ∧ t0_6.toInt ≤ 2100 := btt0_6; omega)⟩)
      replace hT1 := (hu56 _ (by decide)).trans hT1
      replace hT2 := (hu56 _ (by decide)).trans hT2
      replace hT3 := (hu56 _ (by decide)).trans hT3
      replace hT4 := (hu56 _ (by decide)).trans hT4
      replace hT5 := (hu56 _ (by decide)).trans hT5
      replace hF := q_us hF hu56 (by simp)
      refine lv_aload_n hx hb d_19_29_40 rfl (lv_at hl 0 rfl) ?_
      refine lv_iload_n hx hb d_19_29_41 rfl (lv_at hl 1 rfl) ?_
      refine lv_aload_n hx hb d_19_29_42 rfl (lv_at hl 0 rfl) ?_
      refine q_get (ci := 13) (j := 12) (v := .ref (q 128)) C0 V i_WR rfl rfl hT0 (by decide) w_1936 rfl d_19_29_43 ?_
      have ob57 : True ∧ S_WR_take x2 (264 : Int32) lx36 (2 : Int32) t0_2 t0_3 t0_4 t0_5 t0_6 t1_0 t5_0 := (by have h := hS47; rw [S_WR_power_J24.eq_1] at h; rw [if_pos c53] at h; with_reducible exact h.2.1)
      refine q_gov V (q_runV (As := [.int x2, .ref (q 128)]) (rest := []) (d := 1) (mc := 0) (ms := 0) (ci := 13) C0 V rfl LV_WR_107 (X_WR_take l D g q w55 128 264 (n_r128 g q) x2 (by decide) hI lx36 2 t0_2 t0_3 t0_4 t0_5 t0_6 hT0 t1_0 hT1 t5_0 hT5 ob57 _) rfl rfl hT0 rfl hl.1 rfl (Nat.le_of_ble_eq_true rfl) ⟨by decide, by decide⟩ ⟨Nat.le_of_ble_eq_true rfl, Nat.le_of_ble_eq_true rfl⟩ d_19_29_46) (fun u58 H locs hp59 V => ?_)
      obtain ⟨hI, hu63, f60, hA61, hE62⟩ := hp59
      replace hA61 : u58[128]? = (some (q 128, .inl (g 0, (264 : Int32).toNatClampNeg, .inl f60)) : Option (Nat × va_E)) := hA61
      have e64 : f60 = (F_WR_take x2 (264 : Int32) lx36 (2 : Int32) t0_2 t0_3 t0_4 t0_5 t0_6 t1_0 t5_0) := hE62
      replace hT0 := (hu63 _ (by decide)).trans hT0
      replace hT1 := (hu63 _ (by decide)).trans hT1
      replace hT2 := (hu63 _ (by decide)).trans hT2
      replace hT3 := (hu63 _ (by decide)).trans hT3
      replace hT4 := (hu63 _ (by decide)).trans hT4
      replace hF := q_uc hF hu63 (by simp)
      refine lv_aload_n hx hb d_19_29_49 rfl (lv_at hl 0 rfl) ?_
      refine lv_aload_n hx hb d_19_29_50 rfl (lv_at hl 0 rfl) ?_
      refine q_get (ci := 13) (j := 6) (v := .ref (q 123)) C0 V i_WR rfl rfl hT0 (by decide) w_1930 rfl d_19_29_51 ?_
      have ob65 : True ∧ S_WR_setOne (264 : Int32) lx36 (2 : Int32) t0_2 t0_3 t0_4 t0_5 t0_6 t3_0 := (by have h := hS47; rw [S_WR_power_J24.eq_1] at h; rw [if_pos c53] at h; replace h := q_s2 h; with_reducible exact h.2.1)
      refine q_gov V (q_runV (As := [.ref (q 123)]) (rest := []) (d := 2) (mc := 0) (ms := 0) (ci := 13) C0 V rfl LV_WR_131 (X_WR_setOne l D g q u58 123 264 (n_r123 g q)  hI lx36 2 t0_2 t0_3 t0_4 t0_5 t0_6 hT0 t3_0 hT3 ob65 _) rfl rfl hT0 rfl hl.1 rfl (Nat.le_of_ble_eq_true rfl) ⟨by decide, by decide⟩ ⟨Nat.le_of_ble_eq_true rfl, Nat.le_of_ble_eq_true rfl⟩ d_19_29_54) (fun u66 H locs hp67 V => ?_)
      obtain ⟨hI, hu71, f68, hA69, hE70⟩ := hp67
      replace hA69 : u66[123]? = (some (q 123, .inl (g 0, (264 : Int32).toNatClampNeg, .inl f68)) : Option (Nat × va_E)) := hA69
      have e72 : f68 = (F_WR_setOne (264 : Int32) lx36 (2 : Int32) t0_2 t0_3 t0_4 t0_5 t0_6 t3_0) := hE70
      replace hT0 := (hu71 _ (by decide)).trans hT0
      replace hT1 := (hu71 _ (by decide)).trans hT1
      replace hT2 := (hu71 _ (by decide)).trans hT2
      replace hT4 := (hu71 _ (by decide)).trans hT4
      replace hA61 := (hu71 _ (by decide)).trans hA61
      replace hF := q_uc hF hu71 (by simp)
      refine lv_aload_n hx hb d_19_29_57 rfl (lv_at hl 0 rfl) ?_
      refine q_get (ci := 13) (j := 12) (v := .ref (q 128)) C0 V i_WR rfl rfl hT0 (by decide) w_1936 rfl d_19_29_58 ?_
      refine q_goi V (q_runS (As := [.ref (q 128)]) (rest := []) (d := 1) (mc := 0) (ms := 0) C0 V rfl LS_WR_59 (X_WR_size l D g q u66 128 264 (n_r128 g q)  hI f60 hA61  _) rfl hl.1 rfl (Nat.le_of_ble_eq_true rfl) ⟨by decide, by decide⟩ ⟨Nat.le_of_ble_eq_true rfl, Nat.le_of_ble_eq_true rfl⟩ d_19_29_61) (fun a75 u73 H locs hp74 V => ?_)
      obtain ⟨rfl, b76, b77, hE78⟩ := hp74
      have e79 : a75 = (F_WR_size (264 : Int32) f60) := hE78
      clear b76
      clear b77
      refine q_join (X := Int32) (fun z H locs ls _ => q_F (lx36.toInt ≤ z.toInt) ∧ q_F (z.toInt ≤ lx36.toInt + 1) ∧ q_Wd D g (va_A ws sz) s u66 H locs ∧ lv_has ls 7 [(0, .ref (q 119)), (1, .int x2), (2, .int x3), (3, .int x4)] ∧ F_WR_power_J93 x2 x3 x4 t0_0 t0_1 t0_2 t0_3 t0_4 t0_5 t0_6 t1_0 t2_0 t3_0 t4_0 t5_0 lx36 f68 f60 z = (F_WR_power x2 x3 x4 t0_0 t0_1 t0_2 t0_3 t0_4 t0_5 t0_6 t1_0 t2_0 t3_0 t4_0 t5_0) ∧ True ∧ S_WR_power_J93 x2 x3 x4 t0_0 t0_1 t0_2 t0_3 t0_4 t0_5 t0_6 t1_0 t2_0 t3_0 t4_0 t5_0 lx36 f68 f60 z) (fun z => [.int z]) 93 0 0 ?_ ?_
      ·
        rintro lx80 H locs ls _ hZ9
        replace hZ9 := hZ9.2.2
        obtain ⟨V, hZ9⟩ := hZ9
        obtain ⟨hl, hZ9⟩ := hZ9
        obtain ⟨hR90, hS91⟩ := hZ9
        replace hl : lv_has ls 7 [(0, .ref (q 119)), (1, .int x2), (2, .int x3), (3, .int x4)] := hl
        refine lv_istore (lv' := [(4, .int lx80), (0, .ref (q 119)), (1, .int x2), (2, .int x3), (3, .int x4)]) hx hb d_19_29_93 hl (by decide) rfl (fun ls hl => ?_)
        refine lv_iload hx hb d_19_29_95 (lv_at hl 0 rfl) ?_
        refine q_join (X := Int32) (fun z H locs ls _ => q_F (z.toInt ≤ x3.toInt) ∧ q_Wd D g (va_A ws sz) s u66 H locs ∧ lv_has ls 7 [(0, .ref (q 119)), (1, .int x2), (2, .int x3), (3, .int x4)] ∧ F_WR_power_J114 x2 x3 x4 t0_0 t0_1 t0_2 t0_3 t0_4 t0_5 t0_6 t1_0 t2_0 t3_0 t4_0 t5_0 lx36 f68 f60 lx80 z = (F_WR_power x2 x3 x4 t0_0 t0_1 t0_2 t0_3 t0_4 t0_5 t0_6 t1_0 t2_0 t3_0 t4_0 t5_0) ∧ True ∧ S_WR_power_J114 x2 x3 x4 t0_0 t0_1 t0_2 t0_3 t0_4 t0_5 t0_6 t1_0 t2_0 t3_0 t4_0 t5_0 lx36 f68 f60 lx80 z) (fun z => [.int z]) 114 0 0 ?_ ?_
        ·
          rintro lx95 H locs ls _ ⟨i103, V, hl, hR104, hS105⟩
          clear i103
          replace hl : lv_has ls 7 [(0, .ref (q 119)), (1, .int x2), (2, .int x3), (3, .int x4)] := hl
          refine lv_istore (lv' := [(5, .int lx95), (0, .ref (q 119)), (1, .int x2), (2, .int x3), (3, .int x4)]) hx hb d_19_29_114 hl (by decide) rfl (fun ls hl => ?_)
          refine lv_iconst (v := 0) hx hb d_19_29_116 (by decide) ?_
          refine lv_istore (lv' := [(6, .int 0), (5, .int lx95), (0, .ref (q 119)), (1, .int x2), (2, .int x3), (3, .int x4)]) hx hb d_19_29_117 hl (by decide) rfl (fun ls hl => ?_)
          refine q_loop (X := Int32 × (Nat → Int32) × (Nat → Int32)) (fun z H locs ls w115 => q_F (lx36.toInt ≤ z.1.toInt) ∧ q_Wd D g (va_A ws sz) s w115 H locs ∧ lv_has ls 7 [(6, .int z.1), (5, .int lx95), (0, .ref (q 119)), (1, .int x2), (2, .int x3), (3, .int x4)] ∧ q_I (msh g q) q w115 ∧ q_un ws w115 [119, 121, 122, 123, 125, 128] ∧ w115[119]? = (some (q 119, .inr (13, [.int lx36, .int 2, .ref (q 120), .int t0_2, .ref (q 121), .ref (q 122), .ref (q 123), .int t0_3, .ref (q 124), .ref (q 125), .ref (q 126), .ref (q 127), .ref (q 128), .ref (q 129), .ref (q 130), .ref (q 131), .int t0_4, .int t0_5, .ref (q 132), .ref (q 133), .int t0_6])) : Option (Nat × va_E)) ∧ w115[121]? = (some (q 121, .inl (g 0, (1408 : Int32).toNatClampNeg, .inl t1_0)) : Option (Nat × va_E)) ∧ w115[122]? = (some (q 122, .inl (g 3, 11, .inl t2_0)) : Option (Nat × va_E)) ∧ w115[123]? = (some (q 123, .inl (g 0, (264 : Int32).toNatClampNeg, .inl z.2.1)) : Option (Nat × va_E)) ∧ w115[125]? = (some (q 125, .inl (g 0, (528 : Int32).toNatClampNeg, .inl z.2.2)) : Option (Nat × va_E)) ∧ w115[128]? = (some (q 128, .inl (g 0, (264 : Int32).toNatClampNeg, .inl f60)) : Option (Nat × va_E)) ∧ (∃ n, (lx95.toInt - z.1.toInt).toNat < n ∧ F_WR_power_L119 x2 x3 x4 t0_0 t0_1 t0_2 t0_3 t0_4 t0_5 t0_6 t1_0 t2_0 t3_0 t4_0 t5_0 lx36 f68 f60 lx80 lx95 n z.1 z.2.1 z.2.2 = (F_WR_power x2 x3 x4 t0_0 t0_1 t0_2 t0_3 t0_4 t0_5 t0_6 t1_0 t2_0 t3_0 t4_0 t5_0) ∧ True ∧ S_WR_power_L119 x2 x3 x4 t0_0 t0_1 t0_2 t0_3 t0_4 t0_5 t0_6 t1_0 t2_0 t3_0 t4_0 t5_0 lx36 f68 f60 lx80 lx95 n z.1 z.2.1 z.2.2)) (fun z => (lx95.toInt - z.1.toInt).toNat) ?_ ((0 : Int32), (f68 : (Nat → Int32)), (t4_0 : (Nat → Int32))) _ _ _ u66 ⟨(show q_F (lx36.toInt ≤ 0) from (show lx36.toInt ≤ 0 from by have t1 : lx36.toInt ≤ 0 := b54; omega)), V, q_lw hl (q_lw1 0 rfl (q_lw1 1 rfl (q_lw1 2 rfl (q_lw1 3 rfl (q_lw1 4 rfl (q_lw1 5 rfl q_lw0)))))), hI, hF, hT0, hT1, hT2, hA69, hT4, hA61, ⟨((lx95.toInt - (0 : Int32).toInt).toNat + 1), Nat.lt_succ_self _, (show F_WR_power_L119 x2 x3 x4 t0_0 t0_1 t0_2 t0_3 t0_4 t0_5 t0_6 t1_0 t2_0 t3_0 t4_0 t5_0 lx36 f68 f60 lx80 lx95 ((lx95.toInt - (0 : Int32).toInt).toNat + 1) 0 f68 t4_0 = (F_WR_power x2 x3 x4 t0_0 t0_1 t0_2 t0_3 t0_4 t0_5 t0_6 t1_0 t2_0 t3_0 t4_0 t5_0) from Eq.trans (by rw [F_WR_power_J114.eq_1]) hR104), (show True ∧ S_WR_power_L119 x2 x3 x4 t0_0 t0_1 t0_2 t0_3 t0_4 t0_5 t0_6 t1_0 t2_0 t3_0 t4_0 t5_0 lx36 f68 f60 lx80 lx95 ((lx95.toInt - (0 : Int32).toInt).toNat + 1) 0 f68 t4_0 from (by have h := hS105; rw [S_WR_power_J114.eq_1] at h; with_reducible exact h))⟩⟩
          rintro ⟨lx110, lx111, lx112⟩ H locs ls w115 ⟨i113, V, hl, hI, hF, hO116, hO117, hO118, hO119, hO120, hO121, ⟨fu124, hf125, hR122, hS123⟩⟩ ih114
          obtain ⟨fm126, rfl⟩ : ∃ m, fu124 = m + 1 := ⟨fu124 - 1, by omega⟩
          replace i113 : q_F (lx36.toInt ≤ lx110.toInt) := i113
          replace hl : lv_has ls 7 [(6, .int lx110), (5, .int lx95), (0, .ref (q 119)), (1, .int x2), (2, .int x3), (3, .int x4)] := hl
          replace hO116 : w115[119]? = (some (q 119, .inr (13, [.int lx36, .int 2, .ref (q 120), .int t0_2, .ref (q 121), .ref (q 122), .ref (q 123), .int t0_3, .ref (q 124), .ref (q 125), .ref (q 126), .ref (q 127), .ref (q 128), .ref (q 129), .ref (q 130), .ref (q 131), .int t0_4, .int t0_5, .ref (q 132), .ref (q 133), .int t0_6])) : Option (Nat × va_E)) := hO116
          replace hO117 : w115[121]? = (some (q 121, .inl (g 0, (1408 : Int32).toNatClampNeg, .inl t1_0)) : Option (Nat × va_E)) := hO117
          replace hO118 : w115[122]? = (some (q 122, .inl (g 3, 11, .inl t2_0)) : Option (Nat × va_E)) := hO118
          replace hO119 : w115[123]? = (some (q 123, .inl (g 0, (264 : Int32).toNatClampNeg, .inl lx111)) : Option (Nat × va_E)) := hO119
          replace hO120 : w115[125]? = (some (q 125, .inl (g 0, (528 : Int32).toNatClampNeg, .inl lx112)) : Option (Nat × va_E)) := hO120
          replace hO121 : w115[128]? = (some (q 128, .inl (g 0, (264 : Int32).toNatClampNeg, .inl f60)) : Option (Nat × va_E)) := hO121
          refine lv_iload hx hb d_19_29_119 (lv_at hl 0 rfl) ?_
          refine lv_iload hx hb d_19_29_121 (lv_at hl 1 rfl) ?_
          refine lv_icmp_ge (tgt := 167) hx hb d_19_29_123 (by decide) (fun c127 => ?_) (fun c127 => ?_)
          ·
            refine lv_aload_n hx hb d_19_29_167 rfl (lv_at hl 2 rfl) ?_
            refine lv_aload_n hx hb d_19_29_168 rfl (lv_at hl 2 rfl) ?_
            refine q_get (ci := 13) (j := 5) (v := .ref (q 122)) C0 V i_WR rfl rfl hO116 (by decide) w_1929 rfl d_19_29_169 ?_
            refine lv_iload_n hx hb d_19_29_172 rfl (lv_at hl 3 rfl) ?_
            have ob129 : q_F (0 ≤ x2.toInt) := (by have h := hS123; rw [S_WR_power_L119.eq_2] at h; rw [if_pos c127] at h; exact h.2.1)
            have ob130 : q_F (x2.toInt ≤ 10) := (by have h := hS123; rw [S_WR_power_L119.eq_2] at h; rw [if_pos c127] at h; replace h := q_s2 h; exact h.2.1)
            refine q_zald C0 V hO118 (q_ix (x := x2.toInt) rfl (by first | with_reducible exact q_fe ob129 | (have t1 : 0 ≤ x2.toInt := ob129; omega)) (by have t1 : 0 ≤ x2.toInt := ob129; have t2 : x2.toInt ≤ 10 := ob130; omega)) d_19_29_173 ?_
            obtain ⟨a131, e132⟩ := q_nm (t2_0 x2.toNatClampNeg : Int32)
            refine q_ti (v := a131) e132 ?_
            refine lv_if_eq (tgt := 188) hx hb d_19_29_174 (by decide) (fun c133 => ?_) (fun c133 => ?_)
            ·
              refine lv_iconst (v := 0) hx hb d_19_29_188 (by decide) ?_
              refine q_put (ci := 13) (j := 7) (v := .int 0) (ty := .boolean) C0 V i_WR o_WR n_WR rfl rfl hO116 (by decide) w_1931 rfl rfl rfl rfl (Nat.le_of_ble_eq_true rfl) d_19_29_189 (fun H locs w135 hu136 hO116 V => ?_)
              replace hO116 : w135[119]? = (some (q 119, .inr (13, [.int lx36, .int 2, .ref (q 120), .int t0_2, .ref (q 121), .ref (q 122), .ref (q 123), .int 0, .ref (q 124), .ref (q 125), .ref (q 126), .ref (q 127), .ref (q 128), .ref (q 129), .ref (q 130), .ref (q 131), .int t0_4, .int t0_5, .ref (q 132), .ref (q 133), .int t0_6])) : Option (Nat × va_E)) := hO116
              replace hI := n_p119 hI hu136 hO116 (by first | with_reducible exact q_fe btt0_2 | exact ⟨(by have t1 : 0 ≤ t0_2.toInt ∧ t0_2.toInt ≤ 4100 := btt0_2; omega), (by have t1 : 0 ≤ t0_2.toInt ∧ t0_2.toInt ≤ 4100 := btt0_2; omega)⟩) ⟨(by have z9 : (0 : Int32).toInt = 0 := rfl; omega), (by have z9 : (0 : Int32).toInt = 0 := rfl; omega)⟩ (by first | with_reducible exact q_fe btt0_4 | exact ⟨(by have t1 : 0 ≤ t0_4.toInt ∧ t0_4.toInt ≤ 1 := btt0_4; omega), (by have t1 : 0 ≤ t0_4.toInt ∧ t0_4.toInt ≤ 1 := btt0_4; omega)⟩) (by first | with_reducible exact q_fe btt0_5 | exact ⟨(by have t1 : 0 ≤ t0_5.toInt ∧ t0_5.toInt ≤ 1 := btt0_5; omega), (by have t1 : 0 ≤ t0_5.toInt ∧ t0_5.toInt ≤ 1 := btt0_5; omega)⟩) (by first | with_reducible exact q_fe btt0_6 | exact ⟨(by have t1 : 0 ≤ t0_6.toInt ∧ t0_6.toInt ≤ 2100 := btt0_6; omega), (by have t1 : 0 ≤ t0_6.toInt ∧ t0_6.toInt ≤ 2100 := btt0_6; omega)⟩)
              replace hO117 := (hu136 _ (by decide)).trans hO117
              replace hO118 := (hu136 _ (by decide)).trans hO118
              replace hO119 := (hu136 _ (by decide)).trans hO119
              replace hO120 := (hu136 _ (by decide)).trans hO120
              replace hO121 := (hu136 _ (by decide)).trans hO121
              replace hF := q_us hF hu136 (by simp)
              refine lv_aload_n hx hb d_19_29_192 rfl (lv_at hl 2 rfl) ?_
              refine lv_iload_n hx hb d_19_29_193 rfl (lv_at hl 5 rfl) ?_
              have ob137 : True ∧ S_WR_store x4 lx36 (2 : Int32) t0_2 (0 : Int32) t0_4 t0_5 t0_6 t1_0 t2_0 lx111 := (by have h := hS123; rw [S_WR_power_L119.eq_2] at h; rw [if_pos c127] at h; replace h := q_s2 h; replace h := q_s2 h; have c133x := c133; rw [← e132] at c133x; rw [if_pos c133x] at h; with_reducible exact h.2.1)
              refine q_gov V (q_runV (As := [.int x4]) (rest := []) (d := 2) (mc := 0) (ms := 0) (ci := 13) C0 V rfl LV_WR_103 (X_WR_store l D g q w135  x4 hI lx36 2 t0_2 0 t0_4 t0_5 t0_6 hO116 t1_0 hO117 t2_0 hO118 lx111 hO119 ob137 _) rfl rfl hO116 rfl hl.1 rfl (Nat.le_of_ble_eq_true rfl) ⟨by decide, by decide⟩ ⟨Nat.le_of_ble_eq_true rfl, Nat.le_of_ble_eq_true rfl⟩ d_19_29_194) (fun u138 H locs hp139 V => ?_)
              obtain ⟨hI, hZ9⟩ := hp139
              obtain ⟨hu165, hZ9⟩ := hZ9
              obtain ⟨y141, hZ9⟩ := hZ9
              obtain ⟨y142, hZ9⟩ := hZ9
              obtain ⟨y143, hZ9⟩ := hZ9
              obtain ⟨y144, hZ9⟩ := hZ9
              obtain ⟨y145, hZ9⟩ := hZ9
              obtain ⟨y146, hZ9⟩ := hZ9
              obtain ⟨y147, hZ9⟩ := hZ9
              obtain ⟨f148, hZ9⟩ := hZ9
              obtain ⟨f150, hZ9⟩ := hZ9
              obtain ⟨hO140, hZ9⟩ := hZ9
              obtain ⟨hA149, hZ9⟩ := hZ9
              obtain ⟨hA151, hZ9⟩ := hZ9
              replace hZ9 := hZ9.2.2
              obtain ⟨b154, hZ9⟩ := hZ9
              obtain ⟨b155, hZ9⟩ := hZ9
              obtain ⟨b156, hZ9⟩ := hZ9
              obtain ⟨b157, hZ9⟩ := hZ9
              obtain ⟨b158, hZ9⟩ := hZ9
              obtain ⟨b159, hZ9⟩ := hZ9
              obtain ⟨b160, hZ9⟩ := hZ9
              obtain ⟨b161, hZ9⟩ := hZ9
              obtain ⟨b162, hZ9⟩ := hZ9
              obtain ⟨b163, hE164⟩ := hZ9
              replace hO140 : u138[119]? = (some (q 119, .inr (13, [.int y141, .int y142, .ref (q 120), .int y143, .ref (q 121), .ref (q 122), .ref (q 123), .int y144, .ref (q 124), .ref (q 125), .ref (q 126), .ref (q 127), .ref (q 128), .ref (q 129), .ref (q 130), .ref (q 131), .int y145, .int y146, .ref (q 132), .ref (q 133), .int y147])) : Option (Nat × va_E)) := hO140
              replace hA149 : u138[121]? = (some (q 121, .inl (g 0, (1408 : Int32).toNatClampNeg, .inl f148)) : Option (Nat × va_E)) := hA149
              replace hA151 : u138[122]? = (some (q 122, .inl (g 3, 11, .inl f150)) : Option (Nat × va_E)) := hA151
              obtain ⟨p166, e167⟩ : ∃ z, z = (F_WR_store x4 lx36 (2 : Int32) t0_2 (0 : Int32) t0_4 t0_5 t0_6 t1_0 t2_0 lx111) := ⟨_, rfl⟩
              have e168 : y141 = p166.1 := congrArg (fun z => z.1) (hE164.trans e167.symm)
              have e169 : y142 = p166.2.1 := congrArg (fun z => z.2.1) (hE164.trans e167.symm)
              have e170 : y143 = p166.2.2.1 := congrArg (fun z => z.2.2.1) (hE164.trans e167.symm)
              have e171 : y144 = p166.2.2.2.1 := congrArg (fun z => z.2.2.2.1) (hE164.trans e167.symm)
              have e172 : y145 = p166.2.2.2.2.1 := congrArg (fun z => z.2.2.2.2.1) (hE164.trans e167.symm)
              have e173 : y146 = p166.2.2.2.2.2.1 := congrArg (fun z => z.2.2.2.2.2.1) (hE164.trans e167.symm)
              have e174 : y147 = p166.2.2.2.2.2.2.1 := congrArg (fun z => z.2.2.2.2.2.2.1) (hE164.trans e167.symm)
              have e175 : f148 = p166.2.2.2.2.2.2.2.1 := congrArg (fun z => z.2.2.2.2.2.2.2.1) (hE164.trans e167.symm)
              have e176 : f150 = p166.2.2.2.2.2.2.2.2 := congrArg (fun z => z.2.2.2.2.2.2.2.2) (hE164.trans e167.symm)
              replace b154 : q_F (t0_2.toInt ≤ y143.toInt) := b154
              replace b155 : q_F (y143.toInt ≤ t0_2.toInt) := b155
              replace b156 : q_F (0 ≤ y144.toInt) := b156
              replace b157 : q_F (y144.toInt ≤ 0) := b157
              replace b158 : q_F (t0_4.toInt ≤ y145.toInt) := b158
              replace b159 : q_F (y145.toInt ≤ t0_4.toInt) := b159
              replace b160 : q_F (t0_5.toInt ≤ y146.toInt) := b160
              replace b161 : q_F (y146.toInt ≤ t0_5.toInt) := b161
              replace b162 : q_F (t0_6.toInt ≤ y147.toInt) := b162
              replace b163 : q_F (y147.toInt ≤ t0_6.toInt) := b163
              replace hO119 := (hu165 _ (by decide)).trans hO119
              replace hO120 := (hu165 _ (by decide)).trans hO120
              replace hO121 := (hu165 _ (by decide)).trans hO121
              replace hF := q_uc hF hu165 (by simp)
              have hR177 := (show F_WR_power_c194 (F_WR_power_L119 x2 x3 x4 t0_0 t0_1 t0_2 t0_3 t0_4 t0_5 t0_6 t1_0 t2_0 t3_0 t4_0 t5_0 lx36 f68 f60 lx80 lx95 fm126) x2 x3 x4 t0_0 t0_1 t0_2 t0_3 t0_4 t0_5 t0_6 t1_0 t2_0 t3_0 t4_0 t5_0 lx36 f68 f60 lx80 lx95 lx110 lx111 lx112 p166 = (F_WR_power x2 x3 x4 t0_0 t0_1 t0_2 t0_3 t0_4 t0_5 t0_6 t1_0 t2_0 t3_0 t4_0 t5_0) from Eq.trans (by have c133x := c133; rw [← e132] at c133x; rw [e167, F_WR_power_L119.eq_2, if_pos c127, if_pos c133x]) hR122)
              have hS178 := (show True ∧ S_WR_power_c194 (S_WR_power_L119 x2 x3 x4 t0_0 t0_1 t0_2 t0_3 t0_4 t0_5 t0_6 t1_0 t2_0 t3_0 t4_0 t5_0 lx36 f68 f60 lx80 lx95 fm126) x2 x3 x4 t0_0 t0_1 t0_2 t0_3 t0_4 t0_5 t0_6 t1_0 t2_0 t3_0 t4_0 t5_0 lx36 f68 f60 lx80 lx95 lx110 lx111 lx112 p166 from (by rw [e167]; have h := hS123; rw [S_WR_power_L119.eq_2] at h; rw [if_pos c127] at h; replace h := q_s2 h; replace h := q_s2 h; have c133x := c133; rw [← e132] at c133x; rw [if_pos c133x] at h; replace h := q_s2 h; with_reducible exact h))
              exact q_retv C0 V (⟨hI, hF, y141, y142, y143, y144, y145, y146, y147, f148, f150, lx111, lx112, f60, hO140, hA149, hA151, hO119, hO120, hO121, (show 0 ≤ y144.toInt from (by first | with_reducible exact q_fe b156 | (have t1 : 0 ≤ y144.toInt := b156; omega))), (show y144.toInt ≤ 1 from (by first | with_reducible exact q_fe b157 | (have t1 : y144.toInt ≤ 0 := b157; omega))), (show t0_2.toInt ≤ y143.toInt from (by first | with_reducible exact q_fe b154 | (have t1 : t0_2.toInt ≤ y143.toInt := b154; omega))), (show y143.toInt ≤ t0_2.toInt from (by first | with_reducible exact q_fe b155 | (have t1 : y143.toInt ≤ t0_2.toInt := b155; omega))), (show t0_4.toInt ≤ y145.toInt from (by first | with_reducible exact q_fe b158 | (have t1 : t0_4.toInt ≤ y145.toInt := b158; omega))), (show y145.toInt ≤ t0_4.toInt from (by first | with_reducible exact q_fe b159 | (have t1 : y145.toInt ≤ t0_4.toInt := b159; omega))), (show t0_5.toInt ≤ y146.toInt from (by first | with_reducible exact q_fe b160 | (have t1 : t0_5.toInt ≤ y146.toInt := b160; omega))), (show y146.toInt ≤ t0_5.toInt from (by first | with_reducible exact q_fe b161 | (have t1 : y146.toInt ≤ t0_5.toInt := b161; omega))), (show t0_6.toInt ≤ y147.toInt from (by first | with_reducible exact q_fe b162 | (have t1 : t0_6.toInt ≤ y147.toInt := b162; omega))), (show y147.toInt ≤ t0_6.toInt from (by first | with_reducible exact q_fe b163 | (have t1 : y147.toInt ≤ t0_6.toInt := b163; omega))), (show (y141, y142, y143, y144, y145, y146, y147, f148, f150, lx111, lx112, f60) = (F_WR_power x2 x3 x4 t0_0 t0_1 t0_2 t0_3 t0_4 t0_5 t0_6 t1_0 t2_0 t3_0 t4_0 t5_0) from Eq.trans (by rw [e176, e175, e174, e173, e172, e171, e170, e169, e168, F_WR_power_c194.eq_1]) hR177)⟩) d_19_29_197
            ·
              refine lv_iload_n hx hb d_19_29_177 rfl (lv_at hl 4 rfl) ?_
              refine lv_iconst (v := 2) hx hb d_19_29_178 (by decide) ?_
              refine lv_irem hx hb d_19_29_179 (by decide) ?_
              obtain ⟨a183, e184⟩ := q_nm (x3 - x3 / 2 * 2 : Int32)
              refine q_ti (v := a183) e184 ?_
              refine lv_iconst (v := 1) hx hb d_19_29_180 (by decide) ?_
              refine lv_icmp_ne (tgt := 188) hx hb d_19_29_181 (by decide) (fun c185 => ?_) (fun c185 => ?_)
              ·
                refine lv_iconst (v := 0) hx hb d_19_29_188 (by decide) ?_
                refine q_put (ci := 13) (j := 7) (v := .int 0) (ty := .boolean) C0 V i_WR o_WR n_WR rfl rfl hO116 (by decide) w_1931 rfl rfl rfl rfl (Nat.le_of_ble_eq_true rfl) d_19_29_189 (fun H locs w187 hu188 hO116 V => ?_)
                replace hO116 : w187[119]? = (some (q 119, .inr (13, [.int lx36, .int 2, .ref (q 120), .int t0_2, .ref (q 121), .ref (q 122), .ref (q 123), .int 0, .ref (q 124), .ref (q 125), .ref (q 126), .ref (q 127), .ref (q 128), .ref (q 129), .ref (q 130), .ref (q 131), .int t0_4, .int t0_5, .ref (q 132), .ref (q 133), .int t0_6])) : Option (Nat × va_E)) := hO116
                replace hI := n_p119 hI hu188 hO116 (by first | with_reducible exact q_fe btt0_2 | exact ⟨(by have t1 : 0 ≤ t0_2.toInt ∧ t0_2.toInt ≤ 4100 := btt0_2; omega), (by have t1 : 0 ≤ t0_2.toInt ∧ t0_2.toInt ≤ 4100 := btt0_2; omega)⟩) ⟨(by have z9 : (0 : Int32).toInt = 0 := rfl; omega), (by have z9 : (0 : Int32).toInt = 0 := rfl; omega)⟩ (by first | with_reducible exact q_fe btt0_4 | exact ⟨(by have t1 : 0 ≤ t0_4.toInt ∧ t0_4.toInt ≤ 1 := btt0_4; omega), (by have t1 : 0 ≤ t0_4.toInt ∧ t0_4.toInt ≤ 1 := btt0_4; omega)⟩) (by first | with_reducible exact q_fe btt0_5 | exact ⟨(by have t1 : 0 ≤ t0_5.toInt ∧ t0_5.toInt ≤ 1 := btt0_5; omega), (by have t1 : 0 ≤ t0_5.toInt ∧ t0_5.toInt ≤ 1 := btt0_5; omega)⟩) (by first | with_reducible exact q_fe btt0_6 | exact ⟨(by have t1 : 0 ≤ t0_6.toInt ∧ t0_6.toInt ≤ 2100 := btt0_6; omega), (by have t1 : 0 ≤ t0_6.toInt ∧ t0_6.toInt ≤ 2100 := btt0_6; omega)⟩)
                replace hO117 := (hu188 _ (by decide)).trans hO117
                replace hO118 := (hu188 _ (by decide)).trans hO118
                replace hO119 := (hu188 _ (by decide)).trans hO119
                replace hO120 := (hu188 _ (by decide)).trans hO120
                replace hO121 := (hu188 _ (by decide)).trans hO121
                replace hF := q_us hF hu188 (by simp)
                refine lv_aload_n hx hb d_19_29_192 rfl (lv_at hl 2 rfl) ?_
                refine lv_iload_n hx hb d_19_29_193 rfl (lv_at hl 5 rfl) ?_
                have ob189 : True ∧ S_WR_store x4 lx36 (2 : Int32) t0_2 (0 : Int32) t0_4 t0_5 t0_6 t1_0 t2_0 lx111 := (by have h := hS123; rw [S_WR_power_L119.eq_2] at h; rw [if_pos c127] at h; replace h := q_s2 h; replace h := q_s2 h; have c133x := c133; rw [← e132] at c133x; rw [if_neg c133x] at h; have c185x := c185; rw [← e184] at c185x; rw [if_neg c185x] at h; with_reducible exact h.2.1)
                refine q_gov V (q_runV (As := [.int x4]) (rest := []) (d := 2) (mc := 0) (ms := 0) (ci := 13) C0 V rfl LV_WR_103 (X_WR_store l D g q w187  x4 hI lx36 2 t0_2 0 t0_4 t0_5 t0_6 hO116 t1_0 hO117 t2_0 hO118 lx111 hO119 ob189 _) rfl rfl hO116 rfl hl.1 rfl (Nat.le_of_ble_eq_true rfl) ⟨by decide, by decide⟩ ⟨Nat.le_of_ble_eq_true rfl, Nat.le_of_ble_eq_true rfl⟩ d_19_29_194) (fun u190 H locs hp191 V => ?_)
                obtain ⟨hI, hZ9⟩ := hp191
                obtain ⟨hu217, hZ9⟩ := hZ9
                obtain ⟨y193, hZ9⟩ := hZ9
                obtain ⟨y194, hZ9⟩ := hZ9
                obtain ⟨y195, hZ9⟩ := hZ9
                obtain ⟨y196, hZ9⟩ := hZ9
                obtain ⟨y197, hZ9⟩ := hZ9
                obtain ⟨y198, hZ9⟩ := hZ9
                obtain ⟨y199, hZ9⟩ := hZ9
                obtain ⟨f200, hZ9⟩ := hZ9
                obtain ⟨f202, hZ9⟩ := hZ9
                obtain ⟨hO192, hZ9⟩ := hZ9
                obtain ⟨hA201, hZ9⟩ := hZ9
                obtain ⟨hA203, hZ9⟩ := hZ9
                replace hZ9 := hZ9.2.2
                obtain ⟨b206, hZ9⟩ := hZ9
                obtain ⟨b207, hZ9⟩ := hZ9
                obtain ⟨b208, hZ9⟩ := hZ9
                obtain ⟨b209, hZ9⟩ := hZ9
                obtain ⟨b210, hZ9⟩ := hZ9
                obtain ⟨b211, hZ9⟩ := hZ9
                obtain ⟨b212, hZ9⟩ := hZ9
                obtain ⟨b213, hZ9⟩ := hZ9
                obtain ⟨b214, hZ9⟩ := hZ9
                obtain ⟨b215, hE216⟩ := hZ9
                replace hO192 : u190[119]? = (some (q 119, .inr (13, [.int y193, .int y194, .ref (q 120), .int y195, .ref (q 121), .ref (q 122), .ref (q 123), .int y196, .ref (q 124), .ref (q 125), .ref (q 126), .ref (q 127), .ref (q 128), .ref (q 129), .ref (q 130), .ref (q 131), .int y197, .int y198, .ref (q 132), .ref (q 133), .int y199])) : Option (Nat × va_E)) := hO192
                replace hA201 : u190[121]? = (some (q 121, .inl (g 0, (1408 : Int32).toNatClampNeg, .inl f200)) : Option (Nat × va_E)) := hA201
                replace hA203 : u190[122]? = (some (q 122, .inl (g 3, 11, .inl f202)) : Option (Nat × va_E)) := hA203
                obtain ⟨p218, e219⟩ : ∃ z, z = (F_WR_store x4 lx36 (2 : Int32) t0_2 (0 : Int32) t0_4 t0_5 t0_6 t1_0 t2_0 lx111) := ⟨_, rfl⟩
                have e220 : y193 = p218.1 := congrArg (fun z => z.1) (hE216.trans e219.symm)
                have e221 : y194 = p218.2.1 := congrArg (fun z => z.2.1) (hE216.trans e219.symm)
                have e222 : y195 = p218.2.2.1 := congrArg (fun z => z.2.2.1) (hE216.trans e219.symm)
                have e223 : y196 = p218.2.2.2.1 := congrArg (fun z => z.2.2.2.1) (hE216.trans e219.symm)
                have e224 : y197 = p218.2.2.2.2.1 := congrArg (fun z => z.2.2.2.2.1) (hE216.trans e219.symm)
                have e225 : y198 = p218.2.2.2.2.2.1 := congrArg (fun z => z.2.2.2.2.2.1) (hE216.trans e219.symm)
                have e226 : y199 = p218.2.2.2.2.2.2.1 := congrArg (fun z => z.2.2.2.2.2.2.1) (hE216.trans e219.symm)
                have e227 : f200 = p218.2.2.2.2.2.2.2.1 := congrArg (fun z => z.2.2.2.2.2.2.2.1) (hE216.trans e219.symm)
                have e228 : f202 = p218.2.2.2.2.2.2.2.2 := congrArg (fun z => z.2.2.2.2.2.2.2.2) (hE216.trans e219.symm)
                replace b206 : q_F (t0_2.toInt ≤ y195.toInt) := b206
                replace b207 : q_F (y195.toInt ≤ t0_2.toInt) := b207
                replace b208 : q_F (0 ≤ y196.toInt) := b208
                replace b209 : q_F (y196.toInt ≤ 0) := b209
                replace b210 : q_F (t0_4.toInt ≤ y197.toInt) := b210
                replace b211 : q_F (y197.toInt ≤ t0_4.toInt) := b211
                replace b212 : q_F (t0_5.toInt ≤ y198.toInt) := b212
                replace b213 : q_F (y198.toInt ≤ t0_5.toInt) := b213
                replace b214 : q_F (t0_6.toInt ≤ y199.toInt) := b214
                replace b215 : q_F (y199.toInt ≤ t0_6.toInt) := b215
                replace hO119 := (hu217 _ (by decide)).trans hO119
                replace hO120 := (hu217 _ (by decide)).trans hO120
                replace hO121 := (hu217 _ (by decide)).trans hO121
                replace hF := q_uc hF hu217 (by simp)
                have hR229 := (show F_WR_power_c194_6 (F_WR_power_L119 x2 x3 x4 t0_0 t0_1 t0_2 t0_3 t0_4 t0_5 t0_6 t1_0 t2_0 t3_0 t4_0 t5_0 lx36 f68 f60 lx80 lx95 fm126) x2 x3 x4 t0_0 t0_1 t0_2 t0_3 t0_4 t0_5 t0_6 t1_0 t2_0 t3_0 t4_0 t5_0 lx36 f68 f60 lx80 lx95 lx110 lx111 lx112 p218 = (F_WR_power x2 x3 x4 t0_0 t0_1 t0_2 t0_3 t0_4 t0_5 t0_6 t1_0 t2_0 t3_0 t4_0 t5_0) from Eq.trans (by have c133x := c133; rw [← e132] at c133x; have c185x := c185; rw [← e184] at c185x; rw [e219, F_WR_power_L119.eq_2, if_pos c127, if_neg c133x, if_neg c185x]) hR122)
                have hS230 := (show True ∧ S_WR_power_c194_6 (S_WR_power_L119 x2 x3 x4 t0_0 t0_1 t0_2 t0_3 t0_4 t0_5 t0_6 t1_0 t2_0 t3_0 t4_0 t5_0 lx36 f68 f60 lx80 lx95 fm126) x2 x3 x4 t0_0 t0_1 t0_2 t0_3 t0_4 t0_5 t0_6 t1_0 t2_0 t3_0 t4_0 t5_0 lx36 f68 f60 lx80 lx95 lx110 lx111 lx112 p218 from (by rw [e219]; have h := hS123; rw [S_WR_power_L119.eq_2] at h; rw [if_pos c127] at h; replace h := q_s2 h; replace h := q_s2 h; have c133x := c133; rw [← e132] at c133x; rw [if_neg c133x] at h; have c185x := c185; rw [← e184] at c185x; rw [if_neg c185x] at h; replace h := q_s2 h; with_reducible exact h))
                exact q_retv C0 V (⟨hI, hF, y193, y194, y195, y196, y197, y198, y199, f200, f202, lx111, lx112, f60, hO192, hA201, hA203, hO119, hO120, hO121, (show 0 ≤ y196.toInt from (by first | with_reducible exact q_fe b208 | (have t1 : 0 ≤ y196.toInt := b208; omega))), (show y196.toInt ≤ 1 from (by first | with_reducible exact q_fe b209 | (have t1 : y196.toInt ≤ 0 := b209; omega))), (show t0_2.toInt ≤ y195.toInt from (by first | with_reducible exact q_fe b206 | (have t1 : t0_2.toInt ≤ y195.toInt := b206; omega))), (show y195.toInt ≤ t0_2.toInt from (by first | with_reducible exact q_fe b207 | (have t1 : y195.toInt ≤ t0_2.toInt := b207; omega))), (show t0_4.toInt ≤ y197.toInt from (by first | with_reducible exact q_fe b210 | (have t1 : t0_4.toInt ≤ y197.toInt := b210; omega))), (show y197.toInt ≤ t0_4.toInt from (by first | with_reducible exact q_fe b211 | (have t1 : y197.toInt ≤ t0_4.toInt := b211; omega))), (show t0_5.toInt ≤ y198.toInt from (by first | with_reducible exact q_fe b212 | (have t1 : t0_5.toInt ≤ y198.toInt := b212; omega))), (show y198.toInt ≤ t0_5.toInt from (by first | with_reducible exact q_fe b213 | (have t1 : y198.toInt ≤ t0_5.toInt := b213; omega))), (show t0_6.toInt ≤ y199.toInt from (by first | with_reducible exact q_fe b214 | (have t1 : t0_6.toInt ≤ y199.toInt := b214; omega))), (show y199.toInt ≤ t0_6.toInt from (by first | with_reducible exact q_fe b215 | (have t1 : y199.toInt ≤ t0_6.toInt := b215; omega))), (show (y193, y194, y195, y196, y197, y198, y199, f200, f202, lx111, lx112, f60) = (F_WR_power x2 x3 x4 t0_0 t0_1 t0_2 t0_3 t0_4 t0_5 t0_6 t1_0 t2_0 t3_0 t4_0 t5_0) from Eq.trans (by rw [e228, e227, e226, e225, e224, e223, e222, e221, e220, F_WR_power_c194_6.eq_1]) hR229)⟩) d_19_29_197
              ·
                refine lv_iconst (v := 1) hx hb d_19_29_184 (by decide) ?_
                refine lv_goto (tgt := 189) hx hb d_19_29_185 (by decide) ?_
                refine q_put (ci := 13) (j := 7) (v := .int 1) (ty := .boolean) C0 V i_WR o_WR n_WR rfl rfl hO116 (by decide) w_1931 rfl rfl rfl rfl (Nat.le_of_ble_eq_true rfl) d_19_29_189 (fun H locs w235 hu236 hO116 V => ?_)
                replace hO116 : w235[119]? = (some (q 119, .inr (13, [.int lx36, .int 2, .ref (q 120), .int t0_2, .ref (q 121), .ref (q 122), .ref (q 123), .int 1, .ref (q 124), .ref (q 125), .ref (q 126), .ref (q 127), .ref (q 128), .ref (q 129), .ref (q 130), .ref (q 131), .int t0_4, .int t0_5, .ref (q 132), .ref (q 133), .int t0_6])) : Option (Nat × va_E)) := hO116
                replace hI := n_p119 hI hu236 hO116 (by first | with_reducible exact q_fe btt0_2 | exact ⟨(by have t1 : 0 ≤ t0_2.toInt ∧ t0_2.toInt ≤ 4100 := btt0_2; omega), (by have t1 : 0 ≤ t0_2.toInt ∧ t0_2.toInt ≤ 4100 := btt0_2; omega)⟩) ⟨(by have z9 : (1 : Int32).toInt = 1 := rfl; omega), (by have z9 : (1 : Int32).toInt = 1 := rfl; omega)⟩ (by first | with_reducible exact q_fe btt0_4 | exact ⟨(by have t1 : 0 ≤ t0_4.toInt ∧ t0_4.toInt ≤ 1 := btt0_4; omega), (by have t1 : 0 ≤ t0_4.toInt ∧ t0_4.toInt ≤ 1 := btt0_4; omega)⟩) (by first | with_reducible exact q_fe btt0_5 | exact ⟨(by have t1 : 0 ≤ t0_5.toInt ∧ t0_5.toInt ≤ 1 := btt0_5; omega), (by have t1 : 0 ≤ t0_5.toInt ∧ t0_5.toInt ≤ 1 := btt0_5; omega)⟩) (by first | with_reducible exact q_fe btt0_6 | exact ⟨(by have t1 : 0 ≤ t0_6.toInt ∧ t0_6.toInt ≤ 2100 := btt0_6; omega), (by have t1 : 0 ≤ t0_6.toInt ∧ t0_6.toInt ≤ 2100 := btt0_6; omega)⟩)
                replace hO117 := (hu236 _ (by decide)).trans hO117
                replace hO118 := (hu236 _ (by decide)).trans hO118
                replace hO119 := (hu236 _ (by decide)).trans hO119
                replace hO120 := (hu236 _ (by decide)).trans hO120
                replace hO121 := (hu236 _ (by decide)).trans hO121
                replace hF := q_us hF hu236 (by simp)
                refine lv_aload_n hx hb d_19_29_192 rfl (lv_at hl 2 rfl) ?_
                refine lv_iload_n hx hb d_19_29_193 rfl (lv_at hl 5 rfl) ?_
                have ob237 : True ∧ S_WR_store x4 lx36 (2 : Int32) t0_2 (1 : Int32) t0_4 t0_5 t0_6 t1_0 t2_0 lx111 := (by have h := hS123; rw [S_WR_power_L119.eq_2] at h; rw [if_pos c127] at h; replace h := q_s2 h; replace h := q_s2 h; have c133x := c133; rw [← e132] at c133x; rw [if_neg c133x] at h; have c185x := c185; rw [← e184] at c185x; rw [if_pos c185x] at h; with_reducible exact h.2.1)
                refine q_gov V (q_runV (As := [.int x4]) (rest := []) (d := 2) (mc := 0) (ms := 0) (ci := 13) C0 V rfl LV_WR_103 (X_WR_store l D g q w235  x4 hI lx36 2 t0_2 1 t0_4 t0_5 t0_6 hO116 t1_0 hO117 t2_0 hO118 lx111 hO119 ob237 _) rfl rfl hO116 rfl hl.1 rfl (Nat.le_of_ble_eq_true rfl) ⟨by decide, by decide⟩ ⟨Nat.le_of_ble_eq_true rfl, Nat.le_of_ble_eq_true rfl⟩ d_19_29_194) (fun u238 H locs hp239 V => ?_)
                obtain ⟨hI, hZ9⟩ := hp239
                obtain ⟨hu265, hZ9⟩ := hZ9
                obtain ⟨y241, hZ9⟩ := hZ9
                obtain ⟨y242, hZ9⟩ := hZ9
                obtain ⟨y243, hZ9⟩ := hZ9
                obtain ⟨y244, hZ9⟩ := hZ9
                obtain ⟨y245, hZ9⟩ := hZ9
                obtain ⟨y246, hZ9⟩ := hZ9
                obtain ⟨y247, hZ9⟩ := hZ9
                obtain ⟨f248, hZ9⟩ := hZ9
                obtain ⟨f250, hZ9⟩ := hZ9
                obtain ⟨hO240, hZ9⟩ := hZ9
                obtain ⟨hA249, hZ9⟩ := hZ9
                obtain ⟨hA251, hZ9⟩ := hZ9
                replace hZ9 := hZ9.2.2
                obtain ⟨b254, hZ9⟩ := hZ9
                obtain ⟨b255, hZ9⟩ := hZ9
                obtain ⟨b256, hZ9⟩ := hZ9
                obtain ⟨b257, hZ9⟩ := hZ9
                obtain ⟨b258, hZ9⟩ := hZ9
                obtain ⟨b259, hZ9⟩ := hZ9
                obtain ⟨b260, hZ9⟩ := hZ9
                obtain ⟨b261, hZ9⟩ := hZ9
                obtain ⟨b262, hZ9⟩ := hZ9
                obtain ⟨b263, hE264⟩ := hZ9
                replace hO240 : u238[119]? = (some (q 119, .inr (13, [.int y241, .int y242, .ref (q 120), .int y243, .ref (q 121), .ref (q 122), .ref (q 123), .int y244, .ref (q 124), .ref (q 125), .ref (q 126), .ref (q 127), .ref (q 128), .ref (q 129), .ref (q 130), .ref (q 131), .int y245, .int y246, .ref (q 132), .ref (q 133), .int y247])) : Option (Nat × va_E)) := hO240
                replace hA249 : u238[121]? = (some (q 121, .inl (g 0, (1408 : Int32).toNatClampNeg, .inl f248)) : Option (Nat × va_E)) := hA249
                replace hA251 : u238[122]? = (some (q 122, .inl (g 3, 11, .inl f250)) : Option (Nat × va_E)) := hA251
                obtain ⟨p266, e267⟩ : ∃ z, z = (F_WR_store x4 lx36 (2 : Int32) t0_2 (1 : Int32) t0_4 t0_5 t0_6 t1_0 t2_0 lx111) := ⟨_, rfl⟩
                have e268 : y241 = p266.1 := congrArg (fun z => z.1) (hE264.trans e267.symm)
                have e269 : y242 = p266.2.1 := congrArg (fun z => z.2.1) (hE264.trans e267.symm)
                have e270 : y243 = p266.2.2.1 := congrArg (fun z => z.2.2.1) (hE264.trans e267.symm)
                have e271 : y244 = p266.2.2.2.1 := congrArg (fun z => z.2.2.2.1) (hE264.trans e267.symm)
                have e272 : y245 = p266.2.2.2.2.1 := congrArg (fun z => z.2.2.2.2.1) (hE264.trans e267.symm)
                have e273 : y246 = p266.2.2.2.2.2.1 := congrArg (fun z => z.2.2.2.2.2.1) (hE264.trans e267.symm)
                have e274 : y247 = p266.2.2.2.2.2.2.1 := congrArg (fun z => z.2.2.2.2.2.2.1) (hE264.trans e267.symm)
                have e275 : f248 = p266.2.2.2.2.2.2.2.1 := congrArg (fun z => z.2.2.2.2.2.2.2.1) (hE264.trans e267.symm)
                have e276 : f250 = p266.2.2.2.2.2.2.2.2 := congrArg (fun z => z.2.2.2.2.2.2.2.2) (hE264.trans e267.symm)
                replace b254 : q_F (t0_2.toInt ≤ y243.toInt) := b254
                replace b255 : q_F (y243.toInt ≤ t0_2.toInt) := b255
                replace b256 : q_F (1 ≤ y244.toInt) := b256
                replace b257 : q_F (y244.toInt ≤ 1) := b257
                replace b258 : q_F (t0_4.toInt ≤ y245.toInt) := b258
                replace b259 : q_F (y245.toInt ≤ t0_4.toInt) := b259
                replace b260 : q_F (t0_5.toInt ≤ y246.toInt) := b260
                replace b261 : q_F (y246.toInt ≤ t0_5.toInt) := b261
                replace b262 : q_F (t0_6.toInt ≤ y247.toInt) := b262
                replace b263 : q_F (y247.toInt ≤ t0_6.toInt) := b263
                replace hO119 := (hu265 _ (by decide)).trans hO119
                replace hO120 := (hu265 _ (by decide)).trans hO120
                replace hO121 := (hu265 _ (by decide)).trans hO121
                replace hF := q_uc hF hu265 (by simp)
                have hR277 := (show F_WR_power_c194_7 (F_WR_power_L119 x2 x3 x4 t0_0 t0_1 t0_2 t0_3 t0_4 t0_5 t0_6 t1_0 t2_0 t3_0 t4_0 t5_0 lx36 f68 f60 lx80 lx95 fm126) x2 x3 x4 t0_0 t0_1 t0_2 t0_3 t0_4 t0_5 t0_6 t1_0 t2_0 t3_0 t4_0 t5_0 lx36 f68 f60 lx80 lx95 lx110 lx111 lx112 p266 = (F_WR_power x2 x3 x4 t0_0 t0_1 t0_2 t0_3 t0_4 t0_5 t0_6 t1_0 t2_0 t3_0 t4_0 t5_0) from Eq.trans (by have c133x := c133; rw [← e132] at c133x; have c185x := c185; rw [← e184] at c185x; rw [e267, F_WR_power_L119.eq_2, if_pos c127, if_neg c133x, if_pos c185x]) hR122)
                have hS278 := (show True ∧ S_WR_power_c194_7 (S_WR_power_L119 x2 x3 x4 t0_0 t0_1 t0_2 t0_3 t0_4 t0_5 t0_6 t1_0 t2_0 t3_0 t4_0 t5_0 lx36 f68 f60 lx80 lx95 fm126) x2 x3 x4 t0_0 t0_1 t0_2 t0_3 t0_4 t0_5 t0_6 t1_0 t2_0 t3_0 t4_0 t5_0 lx36 f68 f60 lx80 lx95 lx110 lx111 lx112 p266 from (by rw [e267]; have h := hS123; rw [S_WR_power_L119.eq_2] at h; rw [if_pos c127] at h; replace h := q_s2 h; replace h := q_s2 h; have c133x := c133; rw [← e132] at c133x; rw [if_neg c133x] at h; have c185x := c185; rw [← e184] at c185x; rw [if_pos c185x] at h; replace h := q_s2 h; with_reducible exact h))
                exact q_retv C0 V (⟨hI, hF, y241, y242, y243, y244, y245, y246, y247, f248, f250, lx111, lx112, f60, hO240, hA249, hA251, hO119, hO120, hO121, (show 0 ≤ y244.toInt from (by first | with_reducible exact q_fe b256 | (have t1 : 1 ≤ y244.toInt := b256; omega))), (show y244.toInt ≤ 1 from (by first | with_reducible exact q_fe b257 | (have t1 : y244.toInt ≤ 1 := b257; omega))), (show t0_2.toInt ≤ y243.toInt from (by first | with_reducible exact q_fe b254 | (have t1 : t0_2.toInt ≤ y243.toInt := b254; omega))), (show y243.toInt ≤ t0_2.toInt from (by first | with_reducible exact q_fe b255 | (have t1 : y243.toInt ≤ t0_2.toInt := b255; omega))), (show t0_4.toInt ≤ y245.toInt from (by first | with_reducible exact q_fe b258 | (have t1 : t0_4.toInt ≤ y245.toInt := b258; omega))), (show y245.toInt ≤ t0_4.toInt from (by first | with_reducible exact q_fe b259 | (have t1 : y245.toInt ≤ t0_4.toInt := b259; omega))), (show t0_5.toInt ≤ y246.toInt from (by first | with_reducible exact q_fe b260 | (have t1 : t0_5.toInt ≤ y246.toInt := b260; omega))), (show y246.toInt ≤ t0_5.toInt from (by first | with_reducible exact q_fe b261 | (have t1 : y246.toInt ≤ t0_5.toInt := b261; omega))), (show t0_6.toInt ≤ y247.toInt from (by first | with_reducible exact q_fe b262 | (have t1 : t0_6.toInt ≤ y247.toInt := b262; omega))), (show y247.toInt ≤ t0_6.toInt from (by first | with_reducible exact q_fe b263 | (have t1 : y247.toInt ≤ t0_6.toInt := b263; omega))), (show (y241, y242, y243, y244, y245, y246, y247, f248, f250, lx111, lx112, f60) = (F_WR_power x2 x3 x4 t0_0 t0_1 t0_2 t0_3 t0_4 t0_5 t0_6 t1_0 t2_0 t3_0 t4_0 t5_0) from Eq.trans (by rw [e276, e275, e274, e273, e272, e271, e270, e269, e268, F_WR_power_c194_7.eq_1]) hR277)⟩) d_19_29_197
          ·
            have b282 : q_F (lx110.toInt < lx95.toInt) := (q_nleI c127)
            refine lv_aload_n hx hb d_19_29_126 rfl (lv_at hl 2 rfl) ?_
            refine lv_aload_n hx hb d_19_29_127 rfl (lv_at hl 2 rfl) ?_
            refine q_get (ci := 13) (j := 6) (v := .ref (q 123)) C0 V i_WR rfl rfl hO116 (by decide) w_1930 rfl d_19_29_128 ?_
            refine lv_aload_n hx hb d_19_29_131 rfl (lv_at hl 2 rfl) ?_
            refine q_get (ci := 13) (j := 12) (v := .ref (q 128)) C0 V i_WR rfl rfl hO116 (by decide) w_1936 rfl d_19_29_132 ?_
            refine lv_aload_n hx hb d_19_29_135 rfl (lv_at hl 2 rfl) ?_
            refine q_get (ci := 13) (j := 6) (v := .ref (q 123)) C0 V i_WR rfl rfl hO116 (by decide) w_1930 rfl d_19_29_136 ?_
            have ob283 : True ∧ S_WR_multiplyRows_a (264 : Int32) (264 : Int32) lx36 (2 : Int32) t0_2 t0_3 t0_4 t0_5 t0_6 lx112 lx111 f60 := (by have h := hS123; rw [S_WR_power_L119.eq_2] at h; rw [if_neg c127] at h; with_reducible exact h.2.1)
            refine q_gov V (q_runV (As := [.ref (q 123), .ref (q 128), .ref (q 123)]) (rest := []) (d := 2) (mc := 0) (ms := 0) (ci := 13) C0 V rfl LV_WR_115 (X_WR_multiplyRows_a l D g q w115 123 264 (n_r123 g q) 128 264 (n_r128 g q)  (by decide) (by decide) (by decide) hI lx36 2 t0_2 t0_3 t0_4 t0_5 t0_6 hO116 lx112 hO120 lx111 hO119 f60 hO121 ob283 _) rfl rfl hO116 rfl hl.1 rfl (Nat.le_of_ble_eq_true rfl) ⟨by decide, by decide⟩ ⟨Nat.le_of_ble_eq_true rfl, Nat.le_of_ble_eq_true rfl⟩ d_19_29_139) (fun u284 H locs hp285 V => ?_)
            obtain ⟨hI, hZ9⟩ := hp285
            obtain ⟨hu291, hZ9⟩ := hZ9
            obtain ⟨f286, hZ9⟩ := hZ9
            obtain ⟨f288, hZ9⟩ := hZ9
            obtain ⟨hA287, hZ9⟩ := hZ9
            obtain ⟨hA289, hE290⟩ := hZ9
            replace hA287 : u284[125]? = (some (q 125, .inl (g 0, (528 : Int32).toNatClampNeg, .inl f286)) : Option (Nat × va_E)) := hA287
            replace hA289 : u284[123]? = (some (q 123, .inl (g 0, (264 : Int32).toNatClampNeg, .inl f288)) : Option (Nat × va_E)) := hA289
            obtain ⟨p292, e293⟩ : ∃ z, z = (F_WR_multiplyRows_a (264 : Int32) (264 : Int32) lx36 (2 : Int32) t0_2 t0_3 t0_4 t0_5 t0_6 lx112 lx111 f60) := ⟨_, rfl⟩
            have e294 : f286 = p292.1 := congrArg (fun z => z.1) (hE290.trans e293.symm)
            have e295 : f288 = p292.2 := congrArg (fun z => z.2) (hE290.trans e293.symm)
            replace hO116 := (hu291 _ (by decide)).trans hO116
            replace hO117 := (hu291 _ (by decide)).trans hO117
            replace hO118 := (hu291 _ (by decide)).trans hO118
            replace hO121 := (hu291 _ (by decide)).trans hO121
            replace hF := q_uc hF hu291 (by simp)
            have hR296 := (show F_WR_power_c139 (F_WR_power_L119 x2 x3 x4 t0_0 t0_1 t0_2 t0_3 t0_4 t0_5 t0_6 t1_0 t2_0 t3_0 t4_0 t5_0 lx36 f68 f60 lx80 lx95 fm126) x2 x3 x4 t0_0 t0_1 t0_2 t0_3 t0_4 t0_5 t0_6 t1_0 t2_0 t3_0 t4_0 t5_0 lx36 f68 f60 lx80 lx95 lx110 lx111 lx112 p292 = (F_WR_power x2 x3 x4 t0_0 t0_1 t0_2 t0_3 t0_4 t0_5 t0_6 t1_0 t2_0 t3_0 t4_0 t5_0) from Eq.trans (by rw [e293, F_WR_power_L119.eq_2, if_neg c127]) hR122)
            have hS297 := (show True ∧ S_WR_power_c139 (S_WR_power_L119 x2 x3 x4 t0_0 t0_1 t0_2 t0_3 t0_4 t0_5 t0_6 t1_0 t2_0 t3_0 t4_0 t5_0 lx36 f68 f60 lx80 lx95 fm126) x2 x3 x4 t0_0 t0_1 t0_2 t0_3 t0_4 t0_5 t0_6 t1_0 t2_0 t3_0 t4_0 t5_0 lx36 f68 f60 lx80 lx95 lx110 lx111 lx112 p292 from (by rw [e293]; have h := hS123; rw [S_WR_power_L119.eq_2] at h; rw [if_neg c127] at h; replace h := q_s2 h; with_reducible exact h))
            refine lv_aload_n hx hb d_19_29_142 rfl (lv_at hl 2 rfl) ?_
            refine q_get (ci := 13) (j := 6) (v := .ref (q 123)) C0 V i_WR rfl rfl hO116 (by decide) w_1930 rfl d_19_29_143 ?_
            refine q_goi V (q_runS (As := [.ref (q 123)]) (rest := []) (d := 1) (mc := 0) (ms := 0) C0 V rfl LS_WR_59 (X_WR_size l D g q u284 123 264 (n_r123 g q)  hI f288 hA289  _) rfl hl.1 rfl (Nat.le_of_ble_eq_true rfl) ⟨by decide, by decide⟩ ⟨Nat.le_of_ble_eq_true rfl, Nat.le_of_ble_eq_true rfl⟩ d_19_29_146) (fun a303 u301 H locs hp302 V => ?_)
            obtain ⟨rfl, b304, b305, hE306⟩ := hp302
            have e307 : a303 = (F_WR_size (264 : Int32) f288) := hE306
            clear b304
            clear b305
            refine lv_sipush (v := 128) hx hb d_19_29_149 (by decide) ?_
            refine lv_icmp_le (tgt := 161) hx hb d_19_29_152 (by decide) (fun c308 => ?_) (fun c308 => ?_)
            ·
              obtain ⟨a310, e311⟩ := q_nm (lx110 + 1 : Int32)
              have b312 : q_F (a310.toInt = lx110.toInt + 1) := (by rw [← e311]; exact q_addI (y := 1) rfl (by decide) (by have _ := q_lo32 (x := lx110); have _ := q_hi32 (x := lx110); have t1 : lx110.toInt < lx95.toInt := b282; have _ := q_lo32 (x := lx95); have _ := q_hi32 (x := lx95); omega) (by have _ := q_lo32 (x := lx110); have _ := q_hi32 (x := lx110); have t1 : lx110.toInt < lx95.toInt := b282; have _ := q_lo32 (x := lx95); have _ := q_hi32 (x := lx95); omega))
              refine lv_iinc (v := a310) (lv' := [(6, .int a310), (5, .int lx95), (0, .ref (q 119)), (1, .int x2), (2, .int x3), (3, .int x4)]) hx hb d_19_29_161 hl (k := 0) rfl (e311) (by decide) rfl (fun ls hl => ?_)
              refine lv_goto (tgt := 119) hx hb d_19_29_164 (by decide) ?_
              exact ih114 ((a310 : Int32), (f288 : (Nat → Int32)), (f286 : (Nat → Int32))) _ _ _ _ (show (lx95.toInt - a310.toInt).toNat < (lx95.toInt - lx110.toInt).toNat from by have t1 : a310.toInt = lx110.toInt + 1 := b312; have t2 : lx110.toInt < lx95.toInt := b282; omega) ⟨(show q_F (lx36.toInt ≤ a310.toInt) from (show lx36.toInt ≤ a310.toInt from by have t1 : lx36.toInt ≤ lx110.toInt := i113; have t2 : a310.toInt = lx110.toInt + 1 := b312; omega)), V, q_lw hl (q_lw1 0 rfl (q_lw1 1 rfl (q_lw1 2 rfl (q_lw1 3 rfl (q_lw1 4 rfl (q_lw1 5 rfl q_lw0)))))), hI, hF, hO116, hO117, hO118, hA289, hA287, hO121, ⟨fm126, Nat.lt_of_lt_of_le (show (lx95.toInt - a310.toInt).toNat < (lx95.toInt - lx110.toInt).toNat from by have t1 : a310.toInt = lx110.toInt + 1 := b312; have t2 : lx110.toInt < lx95.toInt := b282; omega) (Nat.le_of_lt_succ hf125), (show F_WR_power_L119 x2 x3 x4 t0_0 t0_1 t0_2 t0_3 t0_4 t0_5 t0_6 t1_0 t2_0 t3_0 t4_0 t5_0 lx36 f68 f60 lx80 lx95 fm126 a310 f288 f286 = (F_WR_power x2 x3 x4 t0_0 t0_1 t0_2 t0_3 t0_4 t0_5 t0_6 t1_0 t2_0 t3_0 t4_0 t5_0) from Eq.trans (by have c308x := c308; rw [e307, e295] at c308x; rw [← e311, e295, e294, F_WR_power_c139.eq_1, if_pos c308x]) hR296), (show True ∧ S_WR_power_L119 x2 x3 x4 t0_0 t0_1 t0_2 t0_3 t0_4 t0_5 t0_6 t1_0 t2_0 t3_0 t4_0 t5_0 lx36 f68 f60 lx80 lx95 fm126 a310 f288 f286 from (by rw [← e311, e295, e294]; have h := hS297; rw [S_WR_power_c139.eq_1] at h; have c308x := c308; rw [e307, e295] at c308x; rw [if_pos c308x] at h; with_reducible exact h))⟩⟩
            ·
              refine lv_aload_n hx hb d_19_29_155 rfl (lv_at hl 2 rfl) ?_
              refine lv_iconst (v := 2) hx hb d_19_29_156 (by decide) ?_
              refine q_put (ci := 13) (j := 0) (v := .int 2) (ty := .int) C0 V i_WR o_WR n_WR rfl rfl hO116 (by decide) w_1921 rfl rfl rfl rfl (Nat.le_of_ble_eq_true rfl) d_19_29_157 (fun H locs w314 hu315 hO116 V => ?_)
              replace hO116 : w314[119]? = (some (q 119, .inr (13, [.int 2, .int 2, .ref (q 120), .int t0_2, .ref (q 121), .ref (q 122), .ref (q 123), .int t0_3, .ref (q 124), .ref (q 125), .ref (q 126), .ref (q 127), .ref (q 128), .ref (q 129), .ref (q 130), .ref (q 131), .int t0_4, .int t0_5, .ref (q 132), .ref (q 133), .int t0_6])) : Option (Nat × va_E)) := hO116
              replace hI := n_p119 hI hu315 hO116 (by first | with_reducible exact q_fe btt0_2 | exact ⟨(by have t1 : 0 ≤ t0_2.toInt ∧ t0_2.toInt ≤ 4100 := btt0_2; omega), (by have t1 : 0 ≤ t0_2.toInt ∧ t0_2.toInt ≤ 4100 := btt0_2; omega)⟩) (by first | with_reducible exact q_fe btt0_3 | exact ⟨(by have t1 : 0 ≤ t0_3.toInt ∧ t0_3.toInt ≤ 1 := btt0_3; omega), (by have t1 : 0 ≤ t0_3.toInt ∧ t0_3.toInt ≤ 1 := btt0_3; omega)⟩) (by first | with_reducible exact q_fe btt0_4 | exact ⟨(by have t1 : 0 ≤ t0_4.toInt ∧ t0_4.toInt ≤ 1 := btt0_4; omega), (by have t1 : 0 ≤ t0_4.toInt ∧ t0_4.toInt ≤ 1 := btt0_4; omega)⟩) (by first | with_reducible exact q_fe btt0_5 | exact ⟨(by have t1 : 0 ≤ t0_5.toInt ∧ t0_5.toInt ≤ 1 := btt0_5; omega), (by have t1 : 0 ≤ t0_5.toInt ∧ t0_5.toInt ≤ 1 := btt0_5; omega)⟩) (by first | with_reducible exact q_fe btt0_6 | exact ⟨(by have t1 : 0 ≤ t0_6.toInt ∧ t0_6.toInt ≤ 2100 := btt0_6; omega), (by have t1 : 0 ≤ t0_6.toInt ∧ t0_6.toInt ≤ 2100 := btt0_6; omega)⟩)
              replace hO117 := (hu315 _ (by decide)).trans hO117
              replace hO118 := (hu315 _ (by decide)).trans hO118
              replace hA289 := (hu315 _ (by decide)).trans hA289
              replace hA287 := (hu315 _ (by decide)).trans hA287
              replace hO121 := (hu315 _ (by decide)).trans hO121
              replace hF := q_us hF hu315 (by simp)
              exact q_retv C0 V (⟨hI, hF, 2, 2, t0_2, t0_3, t0_4, t0_5, t0_6, t1_0, t2_0, f288, f286, f60, hO116, hO117, hO118, hA289, hA287, hO121, (show 0 ≤ t0_3.toInt from (by have z15 : (2 : Int32).toInt = 2 := rfl; have z16 : (2 : Int32).toInt = 2 := rfl; have t1 : 0 ≤ t0_3.toInt ∧ t0_3.toInt ≤ 1 := btt0_3; omega)), (show t0_3.toInt ≤ 1 from (by have z15 : (2 : Int32).toInt = 2 := rfl; have z16 : (2 : Int32).toInt = 2 := rfl; have t1 : 0 ≤ t0_3.toInt ∧ t0_3.toInt ≤ 1 := btt0_3; omega)), (show t0_2.toInt ≤ t0_2.toInt from (by have z15 : (2 : Int32).toInt = 2 := rfl; have z16 : (2 : Int32).toInt = 2 := rfl; omega)), (show t0_2.toInt ≤ t0_2.toInt from (by have z15 : (2 : Int32).toInt = 2 := rfl; have z16 : (2 : Int32).toInt = 2 := rfl; omega)), (show t0_4.toInt ≤ t0_4.toInt from (by have z15 : (2 : Int32).toInt = 2 := rfl; have z16 : (2 : Int32).toInt = 2 := rfl; omega)), (show t0_4.toInt ≤ t0_4.toInt from (by have z15 : (2 : Int32).toInt = 2 := rfl; have z16 : (2 : Int32).toInt = 2 := rfl; omega)), (show t0_5.toInt ≤ t0_5.toInt from (by have z15 : (2 : Int32).toInt = 2 := rfl; have z16 : (2 : Int32).toInt = 2 := rfl; omega)), (show t0_5.toInt ≤ t0_5.toInt from (by have z15 : (2 : Int32).toInt = 2 := rfl; have z16 : (2 : Int32).toInt = 2 := rfl; omega)), (show t0_6.toInt ≤ t0_6.toInt from (by have z15 : (2 : Int32).toInt = 2 := rfl; have z16 : (2 : Int32).toInt = 2 := rfl; omega)), (show t0_6.toInt ≤ t0_6.toInt from (by have z15 : (2 : Int32).toInt = 2 := rfl; have z16 : (2 : Int32).toInt = 2 := rfl; omega)), (show ((2 : Int32), (2 : Int32), t0_2, t0_3, t0_4, t0_5, t0_6, t1_0, t2_0, f288, f286, f60) = (F_WR_power x2 x3 x4 t0_0 t0_1 t0_2 t0_3 t0_4 t0_5 t0_6 t1_0 t2_0 t3_0 t4_0 t5_0) from Eq.trans (by have c308x := c308; rw [e307, e295] at c308x; rw [e295, e294, F_WR_power_c139.eq_1, if_neg c308x]) hR296)⟩) d_19_29_160
        ·
          intro J102
          refine q_join (X := Unit) (fun z H locs ls _ => q_Wd D g (va_A ws sz) s u66 H locs ∧ lv_has ls 7 [(0, .ref (q 119)), (1, .int x2), (2, .int x3), (3, .int x4)] ∧ F_WR_power_J113 x2 x3 x4 t0_0 t0_1 t0_2 t0_3 t0_4 t0_5 t0_6 t1_0 t2_0 t3_0 t4_0 t5_0 lx36 f68 f60 lx80 = (F_WR_power x2 x3 x4 t0_0 t0_1 t0_2 t0_3 t0_4 t0_5 t0_6 t1_0 t2_0 t3_0 t4_0 t5_0) ∧ True ∧ S_WR_power_J113 x2 x3 x4 t0_0 t0_1 t0_2 t0_3 t0_4 t0_5 t0_6 t1_0 t2_0 t3_0 t4_0 t5_0 lx36 f68 f60 lx80) (fun z => []) 113 0 0 ?_ ?_
          ·
            rintro _ H locs ls _ ⟨V, hl, hR323, hS324⟩
            replace hl : lv_has ls 7 [(0, .ref (q 119)), (1, .int x2), (2, .int x3), (3, .int x4)] := hl
            refine lv_iload_n hx hb d_19_29_113 rfl (lv_at hl 2 rfl) ?_
            exact J102 ((x3 : Int32)) _ _ _ u66 ⟨(show q_F (x3.toInt ≤ x3.toInt) from (show x3.toInt ≤ x3.toInt from by omega)), V, q_lw hl (q_lw1 0 rfl (q_lw1 1 rfl (q_lw1 2 rfl (q_lw1 3 rfl q_lw0)))), (show F_WR_power_J114 x2 x3 x4 t0_0 t0_1 t0_2 t0_3 t0_4 t0_5 t0_6 t1_0 t2_0 t3_0 t4_0 t5_0 lx36 f68 f60 lx80 x3 = (F_WR_power x2 x3 x4 t0_0 t0_1 t0_2 t0_3 t0_4 t0_5 t0_6 t1_0 t2_0 t3_0 t4_0 t5_0) from Eq.trans (by rw [F_WR_power_J113.eq_1]) hR323), (show True ∧ S_WR_power_J114 x2 x3 x4 t0_0 t0_1 t0_2 t0_3 t0_4 t0_5 t0_6 t1_0 t2_0 t3_0 t4_0 t5_0 lx36 f68 f60 lx80 x3 from (by have h := hS324; rw [S_WR_power_J113.eq_1] at h; with_reducible exact h))⟩
          ·
            intro J322
            refine lv_if_eq (tgt := 113) hx hb d_19_29_97 (by decide) (fun c328 => ?_) (fun c328 => ?_)
            ·
              exact J322 (()) _ _ _ u66 ⟨V, q_lw hl (q_lw1 1 rfl (q_lw1 2 rfl (q_lw1 3 rfl (q_lw1 4 rfl q_lw0)))), (show F_WR_power_J113 x2 x3 x4 t0_0 t0_1 t0_2 t0_3 t0_4 t0_5 t0_6 t1_0 t2_0 t3_0 t4_0 t5_0 lx36 f68 f60 lx80 = (F_WR_power x2 x3 x4 t0_0 t0_1 t0_2 t0_3 t0_4 t0_5 t0_6 t1_0 t2_0 t3_0 t4_0 t5_0) from Eq.trans (by rw [F_WR_power_J93.eq_1, if_pos c328]) hR90), (show True ∧ S_WR_power_J113 x2 x3 x4 t0_0 t0_1 t0_2 t0_3 t0_4 t0_5 t0_6 t1_0 t2_0 t3_0 t4_0 t5_0 lx36 f68 f60 lx80 from (by have h := hS91; rw [S_WR_power_J93.eq_1] at h; rw [if_pos c328] at h; with_reducible exact h))⟩
            ·
              refine lv_iload_n hx hb d_19_29_100 rfl (lv_at hl 3 rfl) ?_
              refine lv_iconst (v := 2) hx hb d_19_29_101 (by decide) ?_
              refine lv_icmp_le (tgt := 113) hx hb d_19_29_102 (by decide) (fun c331 => ?_) (fun c331 => ?_)
              ·
                exact J322 (()) _ _ _ u66 ⟨V, q_lw hl (q_lw1 1 rfl (q_lw1 2 rfl (q_lw1 3 rfl (q_lw1 4 rfl q_lw0)))), (show F_WR_power_J113 x2 x3 x4 t0_0 t0_1 t0_2 t0_3 t0_4 t0_5 t0_6 t1_0 t2_0 t3_0 t4_0 t5_0 lx36 f68 f60 lx80 = (F_WR_power x2 x3 x4 t0_0 t0_1 t0_2 t0_3 t0_4 t0_5 t0_6 t1_0 t2_0 t3_0 t4_0 t5_0) from Eq.trans (by rw [F_WR_power_J93.eq_1, if_neg c328, if_pos c331]) hR90), (show True ∧ S_WR_power_J113 x2 x3 x4 t0_0 t0_1 t0_2 t0_3 t0_4 t0_5 t0_6 t1_0 t2_0 t3_0 t4_0 t5_0 lx36 f68 f60 lx80 from (by have h := hS91; rw [S_WR_power_J93.eq_1] at h; rw [if_neg c328] at h; rw [if_pos c331] at h; with_reducible exact h))⟩
              ·
                have b333 : q_F (2 < x3.toInt) := (q_nleI c331)
                refine lv_iconst (v := 2) hx hb d_19_29_105 (by decide) ?_
                refine lv_iload_n hx hb d_19_29_106 rfl (lv_at hl 3 rfl) ?_
                refine lv_iconst (v := 2) hx hb d_19_29_107 (by decide) ?_
                refine lv_irem hx hb d_19_29_108 (by decide) ?_
                obtain ⟨a334, e335⟩ := q_nm (x3 - x3 / 2 * 2 : Int32)
                refine q_ti (v := a334) e335 ?_
                have b336 : q_F (0 ≤ a334.toInt ∧ a334.toInt ≤ 1 ∧ a334.toInt ≤ x3.toInt) := (by rw [← e335]; show 0 ≤ (x3 - x3 / 2 * 2 : Int32).toInt ∧ (x3 - x3 / 2 * 2 : Int32).toInt ≤ 1 ∧ (x3 - x3 / 2 * 2 : Int32).toInt ≤ x3.toInt; exact (by have z := s_rem' (x := x3) (b := 2) (by first | with_reducible exact q_fe b333 | (have t1 : 2 < x3.toInt := b333; omega)) (by decide); have z8 : (2 : Int32).toInt = 2 := rfl; omega))
                refine lv_isub hx hb d_19_29_109 ?_
                obtain ⟨a337, e338⟩ := q_nm (2 - a334 : Int32)
                refine q_ti (v := a337) e338 ?_
                have b339 : q_F (a337.toInt = 2 - a334.toInt) := (by rw [← e338]; show (2 - a334 : Int32).toInt = 2 - a334.toInt; exact q_subI (x := 2) (y := a334.toInt) (by decide) rfl (by have t1 : 0 ≤ a334.toInt ∧ a334.toInt ≤ 1 ∧ a334.toInt ≤ x3.toInt := b336; omega) (by have t1 : 0 ≤ a334.toInt ∧ a334.toInt ≤ 1 ∧ a334.toInt ≤ x3.toInt := b336; omega))
                refine lv_goto (tgt := 114) hx hb d_19_29_110 (by decide) ?_
                exact J102 ((a337 : Int32)) _ _ _ u66 ⟨(show q_F (a337.toInt ≤ x3.toInt) from (show a337.toInt ≤ x3.toInt from by have t1 : 2 < x3.toInt := b333; have t2 : 0 ≤ a334.toInt ∧ a334.toInt ≤ 1 ∧ a334.toInt ≤ x3.toInt := b336; have t3 : a337.toInt = 2 - a334.toInt := b339; omega)), V, q_lw hl (q_lw1 1 rfl (q_lw1 2 rfl (q_lw1 3 rfl (q_lw1 4 rfl q_lw0)))), (show F_WR_power_J114 x2 x3 x4 t0_0 t0_1 t0_2 t0_3 t0_4 t0_5 t0_6 t1_0 t2_0 t3_0 t4_0 t5_0 lx36 f68 f60 lx80 a337 = (F_WR_power x2 x3 x4 t0_0 t0_1 t0_2 t0_3 t0_4 t0_5 t0_6 t1_0 t2_0 t3_0 t4_0 t5_0) from Eq.trans (by rw [← e338, ← e335, F_WR_power_J93.eq_1, if_neg c328, if_neg c331]) hR90), (show True ∧ S_WR_power_J114 x2 x3 x4 t0_0 t0_1 t0_2 t0_3 t0_4 t0_5 t0_6 t1_0 t2_0 t3_0 t4_0 t5_0 lx36 f68 f60 lx80 a337 from (by rw [← e338, ← e335]; have h := hS91; rw [S_WR_power_J93.eq_1] at h; rw [if_neg c328] at h; rw [if_neg c331] at h; with_reducible exact h))⟩
      ·
        intro J87
        refine q_join (X := Unit) (fun z H locs ls _ => q_Wd D g (va_A ws sz) s u66 H locs ∧ lv_has ls 7 [(0, .ref (q 119)), (1, .int x2), (2, .int x3), (3, .int x4)] ∧ F_WR_power_J88 x2 x3 x4 t0_0 t0_1 t0_2 t0_3 t0_4 t0_5 t0_6 t1_0 t2_0 t3_0 t4_0 t5_0 lx36 f68 f60 = (F_WR_power x2 x3 x4 t0_0 t0_1 t0_2 t0_3 t0_4 t0_5 t0_6 t1_0 t2_0 t3_0 t4_0 t5_0) ∧ True ∧ S_WR_power_J88 x2 x3 x4 t0_0 t0_1 t0_2 t0_3 t0_4 t0_5 t0_6 t1_0 t2_0 t3_0 t4_0 t5_0 lx36 f68 f60) (fun z => []) 88 0 0 ?_ ?_
        ·
          rintro _ H locs ls _ ⟨V, hl, hR347, hS348⟩
          replace hl : lv_has ls 7 [(0, .ref (q 119)), (1, .int x2), (2, .int x3), (3, .int x4)] := hl
          refine lv_iconst (v := 1) hx hb d_19_29_88 (by decide) ?_
          refine lv_goto (tgt := 93) hx hb d_19_29_89 (by decide) ?_
          exact J87 ((1 : Int32)) _ _ _ u66 ⟨(show q_F (lx36.toInt ≤ 1) from (show lx36.toInt ≤ 1 from by have t1 : lx36.toInt ≤ 1 := i45; omega)), (show q_F (1 ≤ lx36.toInt + 1) from (show 1 ≤ lx36.toInt + 1 from by have t1 : 0 ≤ lx36.toInt := i44; omega)), V, q_lw hl (q_lw1 0 rfl (q_lw1 1 rfl (q_lw1 2 rfl (q_lw1 3 rfl q_lw0)))), (show F_WR_power_J93 x2 x3 x4 t0_0 t0_1 t0_2 t0_3 t0_4 t0_5 t0_6 t1_0 t2_0 t3_0 t4_0 t5_0 lx36 f68 f60 1 = (F_WR_power x2 x3 x4 t0_0 t0_1 t0_2 t0_3 t0_4 t0_5 t0_6 t1_0 t2_0 t3_0 t4_0 t5_0) from Eq.trans (by rw [F_WR_power_J88.eq_1]) hR347), (show True ∧ S_WR_power_J93 x2 x3 x4 t0_0 t0_1 t0_2 t0_3 t0_4 t0_5 t0_6 t1_0 t2_0 t3_0 t4_0 t5_0 lx36 f68 f60 1 from (by have h := hS348; rw [S_WR_power_J88.eq_1] at h; with_reducible exact h))⟩
        ·
          intro J346
          refine lv_if_eq (tgt := 88) hx hb d_19_29_64 (by decide) (fun c352 => ?_) (fun c352 => ?_)
          ·
            exact J346 (()) _ _ _ u66 ⟨V, q_lw hl (q_lw1 0 rfl (q_lw1 1 rfl (q_lw1 2 rfl (q_lw1 3 rfl q_lw0)))), (show F_WR_power_J88 x2 x3 x4 t0_0 t0_1 t0_2 t0_3 t0_4 t0_5 t0_6 t1_0 t2_0 t3_0 t4_0 t5_0 lx36 f68 f60 = (F_WR_power x2 x3 x4 t0_0 t0_1 t0_2 t0_3 t0_4 t0_5 t0_6 t1_0 t2_0 t3_0 t4_0 t5_0) from Eq.trans (by have c352x := c352; rw [e79, e64] at c352x; rw [e72, e64, F_WR_power_J24.eq_1, if_pos c53, if_pos c352x]) hR46), (show True ∧ S_WR_power_J88 x2 x3 x4 t0_0 t0_1 t0_2 t0_3 t0_4 t0_5 t0_6 t1_0 t2_0 t3_0 t4_0 t5_0 lx36 f68 f60 from (by rw [e72, e64]; have h := hS47; rw [S_WR_power_J24.eq_1] at h; rw [if_pos c53] at h; replace h := q_s2 h; replace h := q_s2 h; have c352x := c352; rw [e79, e64] at c352x; rw [if_pos c352x] at h; with_reducible exact h))⟩
          ·
            refine lv_aload_n hx hb d_19_29_67 rfl (lv_at hl 0 rfl) ?_
            refine q_get (ci := 13) (j := 12) (v := .ref (q 128)) C0 V i_WR rfl rfl hT0 (by decide) w_1936 rfl d_19_29_68 ?_
            refine q_goi V (q_runS (As := [.ref (q 128)]) (rest := []) (d := 1) (mc := 0) (ms := 0) C0 V rfl LS_WR_59 (X_WR_size l D g q u66 128 264 (n_r128 g q)  hI f60 hA61  _) rfl hl.1 rfl (Nat.le_of_ble_eq_true rfl) ⟨by decide, by decide⟩ ⟨Nat.le_of_ble_eq_true rfl, Nat.le_of_ble_eq_true rfl⟩ d_19_29_71) (fun a357 u355 H locs hp356 V => ?_)
            obtain ⟨rfl, b358, b359, hE360⟩ := hp356
            have e361 : a357 = (F_WR_size (264 : Int32) f60) := hE360
            clear b358
            clear b359
            refine lv_iconst (v := 1) hx hb d_19_29_74 (by decide) ?_
            refine q_join (X := Unit) (fun z H locs ls _ => q_Wd D g (va_A ws sz) s u66 H locs ∧ lv_has ls 7 [(0, .ref (q 119)), (1, .int x2), (2, .int x3), (3, .int x4)] ∧ F_WR_power_J92 x2 x3 x4 t0_0 t0_1 t0_2 t0_3 t0_4 t0_5 t0_6 t1_0 t2_0 t3_0 t4_0 t5_0 lx36 f68 f60 = (F_WR_power x2 x3 x4 t0_0 t0_1 t0_2 t0_3 t0_4 t0_5 t0_6 t1_0 t2_0 t3_0 t4_0 t5_0) ∧ True ∧ S_WR_power_J92 x2 x3 x4 t0_0 t0_1 t0_2 t0_3 t0_4 t0_5 t0_6 t1_0 t2_0 t3_0 t4_0 t5_0 lx36 f68 f60) (fun z => []) 92 0 0 ?_ ?_
            ·
              rintro _ H locs ls _ ⟨V, hl, hR369, hS370⟩
              replace hl : lv_has ls 7 [(0, .ref (q 119)), (1, .int x2), (2, .int x3), (3, .int x4)] := hl
              refine lv_iconst (v := 0) hx hb d_19_29_92 (by decide) ?_
              exact J87 ((0 : Int32)) _ _ _ u66 ⟨(show q_F (lx36.toInt ≤ 0) from (show lx36.toInt ≤ 0 from by have t1 : lx36.toInt ≤ 0 := b54; omega)), (show q_F (0 ≤ lx36.toInt + 1) from (show 0 ≤ lx36.toInt + 1 from by have t1 : 0 ≤ lx36.toInt := i44; omega)), V, q_lw hl (q_lw1 0 rfl (q_lw1 1 rfl (q_lw1 2 rfl (q_lw1 3 rfl q_lw0)))), (show F_WR_power_J93 x2 x3 x4 t0_0 t0_1 t0_2 t0_3 t0_4 t0_5 t0_6 t1_0 t2_0 t3_0 t4_0 t5_0 lx36 f68 f60 0 = (F_WR_power x2 x3 x4 t0_0 t0_1 t0_2 t0_3 t0_4 t0_5 t0_6 t1_0 t2_0 t3_0 t4_0 t5_0) from Eq.trans (by rw [F_WR_power_J92.eq_1]) hR369), (show True ∧ S_WR_power_J93 x2 x3 x4 t0_0 t0_1 t0_2 t0_3 t0_4 t0_5 t0_6 t1_0 t2_0 t3_0 t4_0 t5_0 lx36 f68 f60 0 from (by have h := hS370; rw [S_WR_power_J92.eq_1] at h; with_reducible exact h))⟩
            ·
              intro J368
              refine lv_icmp_ne (tgt := 92) hx hb d_19_29_75 (by decide) (fun c374 => ?_) (fun c374 => ?_)
              ·
                exact J368 (()) _ _ _ u66 ⟨V, q_lw hl (q_lw1 0 rfl (q_lw1 1 rfl (q_lw1 2 rfl (q_lw1 3 rfl q_lw0)))), (show F_WR_power_J92 x2 x3 x4 t0_0 t0_1 t0_2 t0_3 t0_4 t0_5 t0_6 t1_0 t2_0 t3_0 t4_0 t5_0 lx36 f68 f60 = (F_WR_power x2 x3 x4 t0_0 t0_1 t0_2 t0_3 t0_4 t0_5 t0_6 t1_0 t2_0 t3_0 t4_0 t5_0) from Eq.trans (by have c352x := c352; rw [e79, e64] at c352x; have c374x := c374; rw [e361, e64] at c374x; rw [e72, e64, F_WR_power_J24.eq_1, if_pos c53, if_neg c352x, if_neg c374x]) hR46), (show True ∧ S_WR_power_J92 x2 x3 x4 t0_0 t0_1 t0_2 t0_3 t0_4 t0_5 t0_6 t1_0 t2_0 t3_0 t4_0 t5_0 lx36 f68 f60 from (by rw [e72, e64]; have h := hS47; rw [S_WR_power_J24.eq_1] at h; rw [if_pos c53] at h; replace h := q_s2 h; replace h := q_s2 h; have c352x := c352; rw [e79, e64] at c352x; rw [if_neg c352x] at h; have c374x := c374; rw [e361, e64] at c374x; rw [if_neg c374x] at h; with_reducible exact h))⟩
              ·
                refine lv_aload_n hx hb d_19_29_78 rfl (lv_at hl 0 rfl) ?_
                refine q_get (ci := 13) (j := 12) (v := .ref (q 128)) C0 V i_WR rfl rfl hT0 (by decide) w_1936 rfl d_19_29_79 ?_
                refine lv_iconst (v := 0) hx hb d_19_29_82 (by decide) ?_
                refine q_iald C0 V hA61 (q_ix (x := 0) (by decide) (by omega) (by have e9 : (((264 : Int32).toNatClampNeg : Nat) : Int) = 264 := (by decide); omega)) d_19_29_83 ?_
                obtain ⟨a377, e378⟩ := q_nm (f60 (0 : Int32).toNatClampNeg : Int32)
                refine q_ti (v := a377) e378 ?_
                refine lv_iconst (v := 1) hx hb d_19_29_84 (by decide) ?_
                refine lv_icmp_ne (tgt := 92) hx hb d_19_29_85 (by decide) (fun c379 => ?_) (fun c379 => ?_)
                ·
                  exact J368 (()) _ _ _ u66 ⟨V, q_lw hl (q_lw1 0 rfl (q_lw1 1 rfl (q_lw1 2 rfl (q_lw1 3 rfl q_lw0)))), (show F_WR_power_J92 x2 x3 x4 t0_0 t0_1 t0_2 t0_3 t0_4 t0_5 t0_6 t1_0 t2_0 t3_0 t4_0 t5_0 lx36 f68 f60 = (F_WR_power x2 x3 x4 t0_0 t0_1 t0_2 t0_3 t0_4 t0_5 t0_6 t1_0 t2_0 t3_0 t4_0 t5_0) from Eq.trans (by have c352x := c352; rw [e79, e64] at c352x; have c374x := c374; rw [e361, e64] at c374x; have c379x := c379; rw [← e378, e64] at c379x; rw [e72, e64, F_WR_power_J24.eq_1, if_pos c53, if_neg c352x, if_pos c374x, if_neg c379x]) hR46), (show True ∧ S_WR_power_J92 x2 x3 x4 t0_0 t0_1 t0_2 t0_3 t0_4 t0_5 t0_6 t1_0 t2_0 t3_0 t4_0 t5_0 lx36 f68 f60 from (by rw [e72, e64]; have h := hS47; rw [S_WR_power_J24.eq_1] at h; rw [if_pos c53] at h; replace h := q_s2 h; replace h := q_s2 h; have c352x := c352; rw [e79, e64] at c352x; rw [if_neg c352x] at h; have c374x := c374; rw [e361, e64] at c374x; rw [if_pos c374x] at h; have c379x := c379; rw [← e378, e64] at c379x; rw [if_neg c379x] at h; with_reducible exact h))⟩
                ·
                  exact J346 (()) _ _ _ u66 ⟨V, q_lw hl (q_lw1 0 rfl (q_lw1 1 rfl (q_lw1 2 rfl (q_lw1 3 rfl q_lw0)))), (show F_WR_power_J88 x2 x3 x4 t0_0 t0_1 t0_2 t0_3 t0_4 t0_5 t0_6 t1_0 t2_0 t3_0 t4_0 t5_0 lx36 f68 f60 = (F_WR_power x2 x3 x4 t0_0 t0_1 t0_2 t0_3 t0_4 t0_5 t0_6 t1_0 t2_0 t3_0 t4_0 t5_0) from Eq.trans (by have c352x := c352; rw [e79, e64] at c352x; have c374x := c374; rw [e361, e64] at c374x; have c379x := c379; rw [← e378, e64] at c379x; rw [e72, e64, F_WR_power_J24.eq_1, if_pos c53, if_neg c352x, if_pos c374x, if_pos c379x]) hR46), (show True ∧ S_WR_power_J88 x2 x3 x4 t0_0 t0_1 t0_2 t0_3 t0_4 t0_5 t0_6 t1_0 t2_0 t3_0 t4_0 t5_0 lx36 f68 f60 from (by rw [e72, e64]; have h := hS47; rw [S_WR_power_J24.eq_1] at h; rw [if_pos c53] at h; replace h := q_s2 h; replace h := q_s2 h; have c352x := c352; rw [e79, e64] at c352x; rw [if_neg c352x] at h; have c374x := c374; rw [e361, e64] at c374x; rw [if_pos c374x] at h; have c379x := c379; rw [← e378, e64] at c379x; rw [if_pos c379x] at h; with_reducible exact h))⟩
    ·
      exact q_retv C0 V (⟨hI, hF, lx36, t0_1, t0_2, t0_3, t0_4, t0_5, t0_6, t1_0, t2_0, t3_0, t4_0, t5_0, hT0, hT1, hT2, hT3, hT4, hT5, (show 0 ≤ t0_3.toInt from (by first | with_reducible exact (q_fe btt0_3).2 | with_reducible exact (q_fe btt0_3).1 | (have t1 : 0 ≤ t0_3.toInt ∧ t0_3.toInt ≤ 1 := btt0_3; omega))), (show t0_3.toInt ≤ 1 from (by first | with_reducible exact (q_fe btt0_3).2 | with_reducible exact (q_fe btt0_3).1 | (have t1 : 0 ≤ t0_3.toInt ∧ t0_3.toInt ≤ 1 := btt0_3; omega))), (show t0_2.toInt ≤ t0_2.toInt from (by omega)), (show t0_2.toInt ≤ t0_2.toInt from (by omega)), (show t0_4.toInt ≤ t0_4.toInt from (by omega)), (show t0_4.toInt ≤ t0_4.toInt from (by omega)), (show t0_5.toInt ≤ t0_5.toInt from (by omega)), (show t0_5.toInt ≤ t0_5.toInt from (by omega)), (show t0_6.toInt ≤ t0_6.toInt from (by omega)), (show t0_6.toInt ≤ t0_6.toInt from (by omega)), (show (lx36, t0_1, t0_2, t0_3, t0_4, t0_5, t0_6, t1_0, t2_0, t3_0, t4_0, t5_0) = (F_WR_power x2 x3 x4 t0_0 t0_1 t0_2 t0_3 t0_4 t0_5 t0_6 t1_0 t2_0 t3_0 t4_0 t5_0) from Eq.trans (by rw [F_WR_power_J24.eq_1, if_neg c53]) hR46)⟩) d_19_29_34
  ·
    intro J43
    refine q_join (X := Unit) (fun z H locs ls _ => q_Wd D g (va_A ws sz) s ws H locs ∧ lv_has ls 7 [(0, .ref (q 119)), (1, .int x2), (2, .int x3), (3, .int x4)] ∧ F_WR_power_J19 x2 x3 x4 t0_0 t0_1 t0_2 t0_3 t0_4 t0_5 t0_6 t1_0 t2_0 t3_0 t4_0 t5_0 = (F_WR_power x2 x3 x4 t0_0 t0_1 t0_2 t0_3 t0_4 t0_5 t0_6 t1_0 t2_0 t3_0 t4_0 t5_0) ∧ True ∧ S_WR_power_J19 x2 x3 x4 t0_0 t0_1 t0_2 t0_3 t0_4 t0_5 t0_6 t1_0 t2_0 t3_0 t4_0 t5_0) (fun z => [.ref (q 119)]) 19 0 0 ?_ ?_
    ·
      rintro _ H locs ls _ ⟨V, hl, hR390, hS391⟩
      replace hl : lv_has ls 7 [(0, .ref (q 119)), (1, .int x2), (2, .int x3), (3, .int x4)] := hl
      refine lv_iconst (v := 1) hx hb d_19_29_19 (by decide) ?_
      refine lv_goto (tgt := 24) hx hb d_19_29_20 (by decide) ?_
      exact J43 ((1 : Int32)) _ _ _ ws ⟨(show q_F (0 ≤ 1) from (show 0 ≤ 1 from by omega)), (show q_F (1 ≤ 1) from (show 1 ≤ 1 from by omega)), V, q_lw hl (q_lw1 0 rfl (q_lw1 1 rfl (q_lw1 2 rfl (q_lw1 3 rfl q_lw0)))), (show F_WR_power_J24 x2 x3 x4 t0_0 t0_1 t0_2 t0_3 t0_4 t0_5 t0_6 t1_0 t2_0 t3_0 t4_0 t5_0 1 = (F_WR_power x2 x3 x4 t0_0 t0_1 t0_2 t0_3 t0_4 t0_5 t0_6 t1_0 t2_0 t3_0 t4_0 t5_0) from Eq.trans (by rw [F_WR_power_J19.eq_1]) hR390), (show True ∧ S_WR_power_J24 x2 x3 x4 t0_0 t0_1 t0_2 t0_3 t0_4 t0_5 t0_6 t1_0 t2_0 t3_0 t4_0 t5_0 1 from (by have h := hS391; rw [S_WR_power_J19.eq_1] at h; with_reducible exact h))⟩
    ·
      intro J389
      refine lv_if_ne (tgt := 19) hx hb d_19_29_5 (by decide) (fun c395 => ?_) (fun c395 => ?_)
      ·
        exact J389 (()) _ _ _ ws ⟨V, q_lw hl (q_lw1 0 rfl (q_lw1 1 rfl (q_lw1 2 rfl (q_lw1 3 rfl q_lw0)))), (show F_WR_power_J19 x2 x3 x4 t0_0 t0_1 t0_2 t0_3 t0_4 t0_5 t0_6 t1_0 t2_0 t3_0 t4_0 t5_0 = (F_WR_power x2 x3 x4 t0_0 t0_1 t0_2 t0_3 t0_4 t0_5 t0_6 t1_0 t2_0 t3_0 t4_0 t5_0) from (by have c395x := c395; rw [e35] at c395x; rw [F_WR_power.eq_1, if_neg c395x])), (show True ∧ S_WR_power_J19 x2 x3 x4 t0_0 t0_1 t0_2 t0_3 t0_4 t0_5 t0_6 t1_0 t2_0 t3_0 t4_0 t5_0 from (by have h := hS; rw [S_WR_power.eq_1] at h; have c395x := c395; rw [e35] at c395x; rw [if_neg c395x] at h; with_reducible exact h))⟩
      ·
        refine lv_iload_n hx hb d_19_29_8 rfl (lv_at hl 3 rfl) ?_
        refine q_goi V (q_runS (As := [.int x4]) (rest := [.ref (q 119)]) (d := 1) (mc := 0) (ms := 0) C0 V rfl LS_WR_91 (X_WR_no l D g q ws  x4 hI   _) rfl hl.1 rfl (Nat.le_of_ble_eq_true rfl) ⟨by decide, by decide⟩ ⟨Nat.le_of_ble_eq_true rfl, Nat.le_of_ble_eq_true rfl⟩ d_19_29_9) (fun a400 u398 H locs hp399 V => ?_)
        obtain ⟨rfl, b401, b402, hE403⟩ := hp399
        have e404 : a400 = (F_WR_no x4) := hE403
        clear b401
        clear b402
        refine lv_if_ne (tgt := 19) hx hb d_19_29_12 (by decide) (fun c405 => ?_) (fun c405 => ?_)
        ·
          exact J389 (()) _ _ _ ws ⟨V, q_lw hl (q_lw1 0 rfl (q_lw1 1 rfl (q_lw1 2 rfl (q_lw1 3 rfl q_lw0)))), (show F_WR_power_J19 x2 x3 x4 t0_0 t0_1 t0_2 t0_3 t0_4 t0_5 t0_6 t1_0 t2_0 t3_0 t4_0 t5_0 = (F_WR_power x2 x3 x4 t0_0 t0_1 t0_2 t0_3 t0_4 t0_5 t0_6 t1_0 t2_0 t3_0 t4_0 t5_0) from (by have c395x := c395; rw [e35] at c395x; have c405x := c405; rw [e404] at c405x; rw [F_WR_power.eq_1, if_pos c395x, if_neg c405x])), (show True ∧ S_WR_power_J19 x2 x3 x4 t0_0 t0_1 t0_2 t0_3 t0_4 t0_5 t0_6 t1_0 t2_0 t3_0 t4_0 t5_0 from (by have h := hS; rw [S_WR_power.eq_1] at h; have c395x := c395; rw [e35] at c395x; rw [if_pos c395x] at h; have c405x := c405; rw [e404] at c405x; rw [if_neg c405x] at h; with_reducible exact h))⟩
        ·
          refine lv_iload_n hx hb d_19_29_15 rfl (lv_at hl 2 rfl) ?_
          refine lv_if_ge (tgt := 23) hx hb d_19_29_16 (by decide) (fun c408 => ?_) (fun c408 => ?_)
          ·
            refine lv_iconst (v := 0) hx hb d_19_29_23 (by decide) ?_
            exact J43 ((0 : Int32)) _ _ _ ws ⟨(show q_F (0 ≤ 0) from (show 0 ≤ 0 from by omega)), (show q_F (0 ≤ 1) from (show 0 ≤ 1 from by omega)), V, q_lw hl (q_lw1 0 rfl (q_lw1 1 rfl (q_lw1 2 rfl (q_lw1 3 rfl q_lw0)))), (show F_WR_power_J24 x2 x3 x4 t0_0 t0_1 t0_2 t0_3 t0_4 t0_5 t0_6 t1_0 t2_0 t3_0 t4_0 t5_0 0 = (F_WR_power x2 x3 x4 t0_0 t0_1 t0_2 t0_3 t0_4 t0_5 t0_6 t1_0 t2_0 t3_0 t4_0 t5_0) from (by have c395x := c395; rw [e35] at c395x; have c405x := c405; rw [e404] at c405x; rw [F_WR_power.eq_1, if_pos c395x, if_pos c405x, if_pos c408])), (show True ∧ S_WR_power_J24 x2 x3 x4 t0_0 t0_1 t0_2 t0_3 t0_4 t0_5 t0_6 t1_0 t2_0 t3_0 t4_0 t5_0 0 from (by have h := hS; rw [S_WR_power.eq_1] at h; have c395x := c395; rw [e35] at c395x; rw [if_pos c395x] at h; have c405x := c405; rw [e404] at c405x; rw [if_pos c405x] at h; rw [if_pos c408] at h; with_reducible exact h))⟩
          ·
            exact J389 (()) _ _ _ ws ⟨V, q_lw hl (q_lw1 0 rfl (q_lw1 1 rfl (q_lw1 2 rfl (q_lw1 3 rfl q_lw0)))), (show F_WR_power_J19 x2 x3 x4 t0_0 t0_1 t0_2 t0_3 t0_4 t0_5 t0_6 t1_0 t2_0 t3_0 t4_0 t5_0 = (F_WR_power x2 x3 x4 t0_0 t0_1 t0_2 t0_3 t0_4 t0_5 t0_6 t1_0 t2_0 t3_0 t4_0 t5_0) from (by have c395x := c395; rw [e35] at c395x; have c405x := c405; rw [e404] at c405x; rw [F_WR_power.eq_1, if_pos c395x, if_pos c405x, if_neg c408])), (show True ∧ S_WR_power_J19 x2 x3 x4 t0_0 t0_1 t0_2 t0_3 t0_4 t0_5 t0_6 t1_0 t2_0 t3_0 t4_0 t5_0 from (by have h := hS; rw [S_WR_power.eq_1] at h; have c395x := c395; rw [e35] at c395x; rw [if_pos c395x] at h; have c405x := c405; rw [e404] at c405x; rw [if_pos c405x] at h; rw [if_neg c408] at h; with_reducible exact h))⟩

